/-! measures: the folds; the loops of class and reference -/
abbrev MS : Type := Int × Int × Int × Int × Int × Int × Int
def stepM (la nu L : Int) (S : MS) : MS := if 0 ≤ la ∧ (L = 26 ∨ la = L) then (if nu = 1000 then (S.1 + 1, S.2) else (S.1 + 1, S.2.1 + 1, S.2.2.1 + nu, (if S.2.1 = 0 then nu else if nu < S.2.2.2.1 then nu else S.2.2.2.1), (if S.2.2.2.2.1 < nu then nu else S.2.2.2.2.1), (if S.2.1 = 0 then nu else S.2.2.2.2.2.1), nu)) else S
def foldM (lab num : Nat → Int) (L : Int) : Nat → MS
  | 0 => (0, 0, 0, (-9223372036854775808), (-9223372036854775808), (-9223372036854775808), (-9223372036854775808))
  | r + 1 => stepM (lab r) (num r) L (foldM lab num L r)
theorem foldM_bd {lab num : Nat → Int} {L : Int} (h : ∀ r, -999 ≤ num r ∧ num r ≤ 1000) : ∀ r : Nat, 0 ≤ (foldM lab num L r).1 ∧ (foldM lab num L r).1 ≤ r ∧ 0 ≤ (foldM lab num L r).2.1 ∧ (foldM lab num L r).2.1 ≤ r ∧ -1000 * (r : Int) ≤ (foldM lab num L r).2.2.1 ∧ (foldM lab num L r).2.2.1 ≤ 1000 * (r : Int) := by
  intro r
  induction r with
  | zero => simp [foldM]
  | succ r ih =>
    have hr := h r
    show 0 ≤ (stepM (lab r) (num r) L (foldM lab num L r)).1 ∧ _
    have e : foldM lab num L (r + 1) = stepM (lab r) (num r) L (foldM lab num L r) := rfl
    rw [e]
    generalize foldM lab num L r = S at ih ⊢
    obtain ⟨s1, s2, s3, s4⟩ := S
    simp only at ih
    unfold stepM
    split
    · split
      · exact ⟨by simp only; omega, by simp only; omega, by simp only; omega, by simp only; omega, by simp only; omega, by simp only; omega⟩
      · exact ⟨by simp only; omega, by simp only; omega, by simp only; omega, by simp only; omega, by simp only; omega, by simp only; omega⟩
    · exact ⟨by simp only; omega, by simp only; omega, by simp only; omega, by simp only; omega, by simp only; omega, by simp only; omega⟩
def measM (S : MS) (w : Int) : Int := if w = 0 then S.1 else if w = 1 then S.2.2.1 else if w = 2 then S.2.2.2.1 else if w = 3 then S.2.2.2.2.1 else if w = 4 then S.2.2.2.2.2.1 else if w = 5 then S.2.2.2.2.2.2 else if S.2.1 = 0 then (-9223372036854775808) else S.2.2.1 / S.2.1
def labC (m : Mem) (c : Nat) (j : Int) : Nat → Int := fun r => mI m c (j * 32 + (r : Int)).toNat
def numC (m : Mem) (t b : Nat) (col : Int) : Nat → Int := fun r => if (r : Int) < mI m t 1 then mI m b ((r : Int) * 2 + col).toNat else 1000

theorem xor64_neg {x y : Int} (hx : I64 x) (hy : 0 ≤ y) (hy2 : I64 y) : xor64 x y < 0 ↔ x < 0 := by
  have h : ∀ z : Int64, z.toInt < 0 ↔ z.toBitVec.msb = true := fun z => by
    rw [BitVec.msb_eq_toInt]
    exact (decide_eq_true_iff).symm
  have ex : (Int64.ofInt x).toInt = x := Int64.toInt_ofInt_of_le (by unfold I64 at hx; omega) (by unfold I64 at hx; omega)
  have ey : (Int64.ofInt y).toInt = y := Int64.toInt_ofInt_of_le (by omega) (by unfold I64 at hy2; omega)
  have hy' : (Int64.ofInt y).toBitVec.msb = false := by
    cases hm : (Int64.ofInt y).toBitVec.msb with
    | false => rfl
    | true => exact absurd ((h _).mpr hm) (by rw [ey]; omega)
  unfold xor64
  rw [h, Int64.toBitVec_xor, BitVec.msb_xor, hy', Bool.xor_false, ← h, ex]

theorem tdiv_fl {a b : Int} (hb : 0 < b) : a / b = if a < 0 ∧ Int.tdiv a b * b ≠ a then Int.tdiv a b - 1 else Int.tdiv a b := by
  have h1 := Int.ediv_emod_unique (a := a) (b := b) (r := a % b) (q := a / b) hb
  have e1 : b * (a / b) + a % b = a := Int.mul_ediv_add_emod a b
  have e2 := Int.emod_nonneg a (by omega : b ≠ 0)
  have e3 := Int.emod_lt_of_pos a hb
  by_cases ha : a < 0
  · have t1 : Int.tdiv a b = -((-a) / b) := by
      rw [← Int.neg_neg a, Int.neg_tdiv, Int.tdiv_eq_ediv_of_nonneg (by omega)]
      simp
    have f1 : b * ((-a) / b) + (-a) % b = -a := Int.mul_ediv_add_emod (-a) b
    have f2 := Int.emod_nonneg (-a) (by omega : b ≠ 0)
    have f3 := Int.emod_lt_of_pos (-a) hb
    rw [t1]
    generalize (-a) / b = q at *
    generalize (-a) % b = r at *
    have hq : (-q) * b = -(b * q) := by rw [Int.neg_mul, Int.mul_comm]
    by_cases hr : r = 0
    · have he : -q * b = a := by omega
      rw [if_neg (by omega)]
      refine Int.ediv_eq_of_eq_mul_left (by omega) ?_
      omega
    · rw [if_pos ⟨ha, by omega⟩]
      have : a / b = -q - 1 ∧ a % b = b - r := (Int.ediv_emod_unique hb).mpr ⟨by
        have : b * (-q - 1) = -(b * q) - b := by rw [Int.mul_sub, Int.mul_neg, Int.mul_one]
        omega, by omega, by omega⟩
      exact this.1
  · rw [if_neg (by omega), Int.tdiv_eq_ediv_of_nonneg (by omega)]
theorem tdiv_bd {a b : Int} (hb : 0 < b) (ha : -1000000 ≤ a ∧ a ≤ 1000000) : -1000000 ≤ Int.tdiv a b ∧ Int.tdiv a b ≤ 1000000 ∧ -1000000 ≤ Int.tdiv a b * b ∧ Int.tdiv a b * b ≤ 1000000 := by
  have h := Int.mul_tdiv_add_tmod a b
  rw [Int.mul_comm]
  rcases Int.le_total 0 a with h0 | h0
  · have e : Int.tdiv a b = a / b := Int.tdiv_eq_ediv_of_nonneg h0
    have h1 := Int.ediv_nonneg h0 (by omega : 0 ≤ b)
    have h2 := Int.ediv_le_self b h0
    have h3 := Int.mul_ediv_add_emod a b
    have h4 := Int.emod_nonneg a (by omega : b ≠ 0)
    have h5 : 0 ≤ b * (a / b) := Int.mul_nonneg (by omega) h1
    rw [e]
    omega
  · have e : Int.tdiv a b = -((-a) / b) := by
      rw [← Int.neg_neg a, Int.neg_tdiv, Int.tdiv_eq_ediv_of_nonneg (by omega)]
      simp
    have h1 := Int.ediv_nonneg (by omega : 0 ≤ -a) (by omega : 0 ≤ b)
    have h2 := Int.ediv_le_self b (by omega : 0 ≤ -a)
    have h3 := Int.mul_ediv_add_emod (-a) b
    have h4 := Int.emod_nonneg (-a) (by omega : b ≠ 0)
    have h5 : 0 ≤ b * ((-a) / b) := Int.mul_nonneg (by omega) h1
    have h6 : b * -(-a / b) = -(b * (-a / b)) := Int.mul_neg _ _
    rw [e]
    omega

set_option maxHeartbeats 4000000 in
theorem j_floorDiv  (m : Mem) (a : Int) (b : Int)   (hab : -1000000 ≤ a ∧ a ≤ 1000000 ∧ 0 < b ∧ b ≤ 1000000) : Ct μJ9_floorDiv_f86c9 0 [vl a, vl b] m (rl fun x_ m' => (x_ = a / b) ∧ m = m') := by
  refine Ct_of_VF rfl (by decide +kernel) rfl (Nat.le_of_ble_eq_true rfl) ?_
  show V μJ9_floorDiv_f86c9 0 m _ 0 [(0, vl a), (2, vl b)] [] m
  refine V_rgl (k := 0) (x := a) rfl fun r_a => ?_
  refine V_rgl (k := 2) (x := b) rfl fun r_b => ?_
  have ht := tdiv_fl (a := a) (b := b) (by omega)
  have hd := tdiv_bd (a := a) (b := b) (by omega) (by omega)
  have hx := xor64_neg (x := a) (y := b) r_a (by omega) r_b
  refine V_ld (pc := 0) dJ9_floorDiv_f86c9_0 (v := vl a) rfl rfl ?_
  refine V_ld (pc := 1) dJ9_floorDiv_f86c9_1 (v := vl b) rfl rfl ?_
  refine V_ldiv (pc := 2) dJ9_floorDiv_f86c9_2 (by omega) (by unfold I64; omega) ?_
  refine V_st (pc := 3) dJ9_floorDiv_f86c9_3 (ls' := [(4, vl (Int.tdiv a b)), (0, vl a), (2, vl b)]) rfl (Nat.le_of_ble_eq_true rfl) rfl ?_
  refine V_ld (pc := 5) dJ9_floorDiv_f86c9_5 (v := vl a) rfl rfl ?_
  refine V_ld (pc := 6) dJ9_floorDiv_f86c9_6 (v := vl b) rfl rfl ?_
  refine V_lxor (pc := 7) dJ9_floorDiv_f86c9_7 ?_
  refine V_lconst (pc := 8) dJ9_floorDiv_f86c9_8 (x := 0) (by unfold I64; omega) (by decide) ?_
  refine V_lcmp (pc := 9) dJ9_floorDiv_f86c9_9 ?_
  refine V_if_ge (pc := 10) dJ9_floorDiv_f86c9_10 (tgt := 27) rfl (fun h10 => ?_) (fun h10 => ?_)
  · skip
    refine V_ld (pc := 27) dJ9_floorDiv_f86c9_27 (v := vl (Int.tdiv a b)) rfl rfl ?_
    refine V_retl (pc := 29) dJ9_floorDiv_f86c9_29 trivial ?_
    exact ⟨by unfold cmpI at *; omega, rfl⟩
  · skip
    refine V_ld (pc := 13) dJ9_floorDiv_f86c9_13 (v := vl (Int.tdiv a b)) rfl rfl ?_
    refine V_ld (pc := 15) dJ9_floorDiv_f86c9_15 (v := vl b) rfl rfl ?_
    refine V_lmul (pc := 16) dJ9_floorDiv_f86c9_16 (by unfold I64; omega) ?_
    refine V_ld (pc := 17) dJ9_floorDiv_f86c9_17 (v := vl a) rfl rfl ?_
    refine V_lcmp (pc := 18) dJ9_floorDiv_f86c9_18 ?_
    refine V_if_eq (pc := 19) dJ9_floorDiv_f86c9_19 (tgt := 27) rfl (fun h19 => ?_) (fun h19 => ?_)
    · skip
      refine V_ld (pc := 27) dJ9_floorDiv_f86c9_27 (v := vl (Int.tdiv a b)) rfl rfl ?_
      refine V_retl (pc := 29) dJ9_floorDiv_f86c9_29 trivial ?_
      exact ⟨by unfold cmpI at *; omega, rfl⟩
    · skip
      refine V_ld (pc := 22) dJ9_floorDiv_f86c9_22 (v := vl (Int.tdiv a b)) rfl rfl ?_
      refine V_lconst (pc := 24) dJ9_floorDiv_f86c9_24 (x := 1) (by unfold I64; omega) (by decide) ?_
      refine V_lsub (pc := 25) dJ9_floorDiv_f86c9_25 (by unfold I64; omega) ?_
      refine V_retl (pc := 26) dJ9_floorDiv_f86c9_26 trivial ?_
      exact ⟨by unfold cmpI at *; omega, rfl⟩

set_option maxHeartbeats 4000000 in
theorem L_measured {F : Nat} {m0 m : Mem} {post : Option AV → Mem → Prop} {t c q d : Nat} {j e col w : Int} (T_t : mT m t = (3, 4)) (R_t_2 : mR m t 2 = some c) (T_c : mT m c = (20, 1056)) (T_q : mT m q = (8, 2)) (R_q_0 : mR m q 0 = some d) (T_d : mT m d = (20, 64)) (hj : 0 ≤ j ∧ j < mI m t 3 ∧ j < 33) (hz : mI m q 1 ≤ 32) (hcol : 0 ≤ col ∧ col < 2) (hnum : ∀ r, -999 ≤ numC m q d col r ∧ numC m q d col r ≤ 1000) (kx : V μX3_measured (F + 2) m0 post 160 [(18, vi ((32 : Nat) : Int)), (16, vl ((foldM (labC m c j) (numC m q d col) e 32).2.2.2.2.2.2)), (14, vl ((foldM (labC m c j) (numC m q d col) e 32).2.2.2.2.2.1)), (12, vl ((foldM (labC m c j) (numC m q d col) e 32).2.2.2.2.1)), (10, vl ((foldM (labC m c j) (numC m q d col) e 32).2.2.2.1)), (8, vl ((foldM (labC m c j) (numC m q d col) e 32).2.2.1)), (7, vi ((foldM (labC m c j) (numC m q d col) e 32).2.1)), (6, vi ((foldM (labC m c j) (numC m q d col) e 32).1)), (0, vr t), (1, vi j), (2, vi e), (3, vi col), (4, vi w), (5, vr q)] [] m) : ∀ (dd i : Nat), dd + i = 32 → V μX3_measured (F + 2) m0 post 32 [(18, vi ((i : Nat) : Int)), (16, vl ((foldM (labC m c j) (numC m q d col) e i).2.2.2.2.2.2)), (14, vl ((foldM (labC m c j) (numC m q d col) e i).2.2.2.2.2.1)), (12, vl ((foldM (labC m c j) (numC m q d col) e i).2.2.2.2.1)), (10, vl ((foldM (labC m c j) (numC m q d col) e i).2.2.2.1)), (8, vl ((foldM (labC m c j) (numC m q d col) e i).2.2.1)), (7, vi ((foldM (labC m c j) (numC m q d col) e i).2.1)), (6, vi ((foldM (labC m c j) (numC m q d col) e i).1)), (0, vr t), (1, vi j), (2, vi e), (3, vi col), (4, vi w), (5, vr q)] [] m := by
  intro dd
  induction dd with
  | zero =>
    intro i hi
    obtain rfl : 32 = i := by omega
    have hn_ := hnum 32
    simp only [numC] at hn_
    refine V_ld (pc := 32) dX3_measured_32 (v := vi ((32 : Nat) : Int)) rfl rfl ?_
    refine V_bipush (pc := 34) dX3_measured_34 (by unfold I32; omega) (by decide) ?_
    refine V_icmp_ge (pc := 36) dX3_measured_36 (tgt := 160) rfl (fun h36 => ?_) (fun h36 => ?_)
    · skip
      first | exact kx | (skip; exact kx) | (exfalso; omega)
    · skip
      exfalso; omega
  | succ dd ih =>
    intro i hi
    have hn_ := hnum i
    simp only [numC] at hn_
    refine V_ld (pc := 32) dX3_measured_32 (v := vi ((i : Nat) : Int)) rfl rfl ?_
    refine V_bipush (pc := 34) dX3_measured_34 (by unfold I32; omega) (by decide) ?_
    refine V_icmp_ge (pc := 36) dX3_measured_36 (tgt := 160) rfl (fun h36 => ?_) (fun h36 => ?_)
    · skip
      exfalso; omega
    · skip
      refine V_ld (pc := 39) dX3_measured_39 (v := vr t) rfl rfl ?_
      refine V_ld (pc := 40) dX3_measured_40 (v := vi j) rfl rfl ?_
      refine V_ld (pc := 41) dX3_measured_41 (v := vi ((i : Nat) : Int)) rfl rfl ?_
      refine V_callV (pc := 43) dX3_measured_43 (F' := 1) (As := [vi j, vi ((i : Nat) : Int)]) (st := []) cw_RX3_41 rfl rfl T_t (by decide) (Nat.le_of_ble_eq_true rfl) (by omega) (c_letterOf  m t j ((i : Nat) : Int) c  T_t R_t_2 T_c) ?_
      rintro _ _ ⟨x43, rfl, hx43, rfl⟩ ok43 le43
      refine V_st (pc := 46) dX3_measured_46 (ls' := [(19, vi x43), (18, vi ((i : Nat) : Int)), (16, vl ((foldM (labC m c j) (numC m q d col) e i).2.2.2.2.2.2)), (14, vl ((foldM (labC m c j) (numC m q d col) e i).2.2.2.2.2.1)), (12, vl ((foldM (labC m c j) (numC m q d col) e i).2.2.2.2.1)), (10, vl ((foldM (labC m c j) (numC m q d col) e i).2.2.2.1)), (8, vl ((foldM (labC m c j) (numC m q d col) e i).2.2.1)), (7, vi ((foldM (labC m c j) (numC m q d col) e i).2.1)), (6, vi ((foldM (labC m c j) (numC m q d col) e i).1)), (0, vr t), (1, vi j), (2, vi e), (3, vi col), (4, vi w), (5, vr q)]) rfl (Nat.le_of_ble_eq_true rfl) rfl ?_
      refine V_ld (pc := 48) dX3_measured_48 (v := vi x43) rfl rfl ?_
      refine V_if_lt (pc := 50) dX3_measured_50 (tgt := 154) rfl (fun h50 => ?_) (fun h50 => ?_)
      · skip
        refine V_iinc (pc := 154) dX3_measured_154 (x := ((i : Nat) : Int)) (ls' := [(18, vi (((i : Nat) : Int) + 1)), (19, vi x43), (16, vl ((foldM (labC m c j) (numC m q d col) e i).2.2.2.2.2.2)), (14, vl ((foldM (labC m c j) (numC m q d col) e i).2.2.2.2.2.1)), (12, vl ((foldM (labC m c j) (numC m q d col) e i).2.2.2.2.1)), (10, vl ((foldM (labC m c j) (numC m q d col) e i).2.2.2.1)), (8, vl ((foldM (labC m c j) (numC m q d col) e i).2.2.1)), (7, vi ((foldM (labC m c j) (numC m q d col) e i).2.1)), (6, vi ((foldM (labC m c j) (numC m q d col) e i).1)), (0, vr t), (1, vi j), (2, vi e), (3, vi col), (4, vi w), (5, vr q)]) rfl (by unfold I32 at *; omega) (Nat.le_of_ble_eq_true rfl) rfl ?_
        refine V_goto (pc := 157) dX3_measured_157 (tgt := 32) rfl ?_
        have ela : (mI m c (j * 32 + (i : Int)).toNat) = x43 := by omega
        have e_ : foldM (labC m c j) (numC m q d col) e (i + 1) = ((foldM (labC m c j) (numC m q d col) e i).1, (foldM (labC m c j) (numC m q d col) e i).2.1, (foldM (labC m c j) (numC m q d col) e i).2.2.1, (foldM (labC m c j) (numC m q d col) e i).2.2.2.1, (foldM (labC m c j) (numC m q d col) e i).2.2.2.2.1, (foldM (labC m c j) (numC m q d col) e i).2.2.2.2.2.1, (foldM (labC m c j) (numC m q d col) e i).2.2.2.2.2.2) := by
          show stepM (mI m c (j * 32 + (i : Int)).toNat) (if (i : Int) < mI m q 1 then mI m d ((i : Int) * 2 + col).toNat else 1000) e (foldM (labC m c j) (numC m q d col) e i) = _
          rw [ela]
          unfold stepM
          first
            | (exfalso; omega)
            | (rw [if_neg (by omega)])
            | (rw [if_pos (by omega), if_pos (by omega)])
            | (rw [if_pos (by omega), if_neg (by omega)]; simp only [Prod.mk.injEq]; repeat' apply And.intro
               all_goals (first | trivial | omega))
        have h_ := ih (i + 1) (by omega)
        rw [e_] at h_
        refine V_ls (ls' := [(18, vi (((i : Nat) : Int) + 1)), (16, vl ((foldM (labC m c j) (numC m q d col) e i).2.2.2.2.2.2)), (14, vl ((foldM (labC m c j) (numC m q d col) e i).2.2.2.2.2.1)), (12, vl ((foldM (labC m c j) (numC m q d col) e i).2.2.2.2.1)), (10, vl ((foldM (labC m c j) (numC m q d col) e i).2.2.2.1)), (8, vl ((foldM (labC m c j) (numC m q d col) e i).2.2.1)), (7, vi ((foldM (labC m c j) (numC m q d col) e i).2.1)), (6, vi ((foldM (labC m c j) (numC m q d col) e i).1)), (0, vr t), (1, vi j), (2, vi e), (3, vi col), (4, vi w), (5, vr q)]) (by intro q_ h_; simp only [List.mem_cons, List.not_mem_nil, or_false] at h_ ⊢; rcases h_ with rfl | rfl | rfl | rfl | rfl | rfl | rfl | rfl | rfl | rfl | rfl | rfl | rfl | rfl <;> simp) ?_
        exact h_
      · skip
        refine V_ld (pc := 53) dX3_measured_53 (v := vi e) rfl rfl ?_
        refine V_bipush (pc := 54) dX3_measured_54 (by unfold I32; omega) (by decide) ?_
        refine V_icmp_eq (pc := 56) dX3_measured_56 (tgt := 68) rfl (fun h56 => ?_) (fun h56 => ?_)
        · skip
          refine V_iinc (pc := 68) dX3_measured_68 (x := ((foldM (labC m c j) (numC m q d col) e i).1)) (ls' := [(6, vi (((foldM (labC m c j) (numC m q d col) e i).1) + 1)), (19, vi x43), (18, vi ((i : Nat) : Int)), (16, vl ((foldM (labC m c j) (numC m q d col) e i).2.2.2.2.2.2)), (14, vl ((foldM (labC m c j) (numC m q d col) e i).2.2.2.2.2.1)), (12, vl ((foldM (labC m c j) (numC m q d col) e i).2.2.2.2.1)), (10, vl ((foldM (labC m c j) (numC m q d col) e i).2.2.2.1)), (8, vl ((foldM (labC m c j) (numC m q d col) e i).2.2.1)), (7, vi ((foldM (labC m c j) (numC m q d col) e i).2.1)), (0, vr t), (1, vi j), (2, vi e), (3, vi col), (4, vi w), (5, vr q)]) rfl (by have hb := foldM_bd (L := e) (lab := labC m c j) hnum i; unfold I32; (try unfold I32 at *); omega) (Nat.le_of_ble_eq_true rfl) rfl ?_
          refine V_ld (pc := 71) dX3_measured_71 (v := vr q) rfl rfl ?_
          refine V_ld (pc := 73) dX3_measured_73 (v := vi ((i : Nat) : Int)) rfl rfl ?_
          refine V_ld (pc := 75) dX3_measured_75 (v := vi col) rfl rfl ?_
          refine V_callV (pc := 76) dX3_measured_76 (F' := 0) (As := [vi ((i : Nat) : Int), vi col]) (st := []) cw_RX3_47 rfl rfl T_q (by decide) (Nat.le_of_ble_eq_true rfl) (by omega) (c_number  m q ((i : Nat) : Int) col d  T_q R_q_0 T_d) ?_
          rintro _ _ ⟨x76, rfl, hx76, rfl⟩ ok76 le76
          refine V_st (pc := 79) dX3_measured_79 (ls' := [(20, vi x76), (6, vi (((foldM (labC m c j) (numC m q d col) e i).1) + 1)), (19, vi x43), (18, vi ((i : Nat) : Int)), (16, vl ((foldM (labC m c j) (numC m q d col) e i).2.2.2.2.2.2)), (14, vl ((foldM (labC m c j) (numC m q d col) e i).2.2.2.2.2.1)), (12, vl ((foldM (labC m c j) (numC m q d col) e i).2.2.2.2.1)), (10, vl ((foldM (labC m c j) (numC m q d col) e i).2.2.2.1)), (8, vl ((foldM (labC m c j) (numC m q d col) e i).2.2.1)), (7, vi ((foldM (labC m c j) (numC m q d col) e i).2.1)), (0, vr t), (1, vi j), (2, vi e), (3, vi col), (4, vi w), (5, vr q)]) rfl (Nat.le_of_ble_eq_true rfl) rfl ?_
          refine V_ld (pc := 81) dX3_measured_81 (v := vi x76) rfl rfl ?_
          refine V_sipush (pc := 83) dX3_measured_83 (by unfold I32; omega) (by decide) ?_
          refine V_icmp_ne (pc := 86) dX3_measured_86 (tgt := 92) rfl (fun h86 => ?_) (fun h86 => ?_)
          · skip
            refine V_ld (pc := 92) dX3_measured_92 (v := vl ((foldM (labC m c j) (numC m q d col) e i).2.2.1)) rfl rfl ?_
            refine V_ld (pc := 94) dX3_measured_94 (v := vi x76) rfl rfl ?_
            refine V_i2l (pc := 96) dX3_measured_96 ?_
            refine V_ladd (pc := 97) dX3_measured_97 (by have hb := foldM_bd (L := e) (lab := labC m c j) hnum i; unfold I64; (try unfold I32 at *); omega) ?_
            refine V_st (pc := 98) dX3_measured_98 (ls' := [(8, vl (((foldM (labC m c j) (numC m q d col) e i).2.2.1) + x76)), (20, vi x76), (6, vi (((foldM (labC m c j) (numC m q d col) e i).1) + 1)), (19, vi x43), (18, vi ((i : Nat) : Int)), (16, vl ((foldM (labC m c j) (numC m q d col) e i).2.2.2.2.2.2)), (14, vl ((foldM (labC m c j) (numC m q d col) e i).2.2.2.2.2.1)), (12, vl ((foldM (labC m c j) (numC m q d col) e i).2.2.2.2.1)), (10, vl ((foldM (labC m c j) (numC m q d col) e i).2.2.2.1)), (7, vi ((foldM (labC m c j) (numC m q d col) e i).2.1)), (0, vr t), (1, vi j), (2, vi e), (3, vi col), (4, vi w), (5, vr q)]) rfl (Nat.le_of_ble_eq_true rfl) rfl ?_
            refine V_ld (pc := 100) dX3_measured_100 (v := vi ((foldM (labC m c j) (numC m q d col) e i).2.1)) rfl rfl ?_
            refine V_if_ne (pc := 102) dX3_measured_102 (tgt := 111) rfl (fun h102 => ?_) (fun h102 => ?_)
            · skip
              refine V_ld (pc := 111) dX3_measured_111 (v := vl ((foldM (labC m c j) (numC m q d col) e i).2.2.2.1)) rfl rfl ?_
              refine V_ld (pc := 113) dX3_measured_113 (v := vi x76) rfl rfl ?_
              refine V_i2l (pc := 115) dX3_measured_115 ?_
              refine V_callS (pc := 116) dX3_measured_116 (F' := 0) (As := [vl ((foldM (labC m c j) (numC m q d col) e i).2.2.2.1), vl x76]) (st := []) cw_RX3_52 rfl rfl (Nat.le_of_ble_eq_true rfl) (by omega) (j_min_l  m ((foldM (labC m c j) (numC m q d col) e i).2.2.2.1) x76   ) ?_
              rintro _ _ ⟨x116, rfl, hx116, rfl⟩ ok116 le116
              refine V_st (pc := 119) dX3_measured_119 (ls' := [(10, vl x116), (8, vl (((foldM (labC m c j) (numC m q d col) e i).2.2.1) + x76)), (20, vi x76), (6, vi (((foldM (labC m c j) (numC m q d col) e i).1) + 1)), (19, vi x43), (18, vi ((i : Nat) : Int)), (16, vl ((foldM (labC m c j) (numC m q d col) e i).2.2.2.2.2.2)), (14, vl ((foldM (labC m c j) (numC m q d col) e i).2.2.2.2.2.1)), (12, vl ((foldM (labC m c j) (numC m q d col) e i).2.2.2.2.1)), (7, vi ((foldM (labC m c j) (numC m q d col) e i).2.1)), (0, vr t), (1, vi j), (2, vi e), (3, vi col), (4, vi w), (5, vr q)]) rfl (Nat.le_of_ble_eq_true rfl) rfl ?_
              refine V_ld (pc := 121) dX3_measured_121 (v := vl ((foldM (labC m c j) (numC m q d col) e i).2.2.2.2.1)) rfl rfl ?_
              refine V_ld (pc := 123) dX3_measured_123 (v := vi x76) rfl rfl ?_
              refine V_i2l (pc := 125) dX3_measured_125 ?_
              refine V_callS (pc := 126) dX3_measured_126 (F' := 0) (As := [vl ((foldM (labC m c j) (numC m q d col) e i).2.2.2.2.1), vl x76]) (st := []) cw_RX3_58 rfl rfl (Nat.le_of_ble_eq_true rfl) (by omega) (j_max_l  m ((foldM (labC m c j) (numC m q d col) e i).2.2.2.2.1) x76   ) ?_
              rintro _ _ ⟨x126, rfl, hx126, rfl⟩ ok126 le126
              refine V_st (pc := 129) dX3_measured_129 (ls' := [(12, vl x126), (10, vl x116), (8, vl (((foldM (labC m c j) (numC m q d col) e i).2.2.1) + x76)), (20, vi x76), (6, vi (((foldM (labC m c j) (numC m q d col) e i).1) + 1)), (19, vi x43), (18, vi ((i : Nat) : Int)), (16, vl ((foldM (labC m c j) (numC m q d col) e i).2.2.2.2.2.2)), (14, vl ((foldM (labC m c j) (numC m q d col) e i).2.2.2.2.2.1)), (7, vi ((foldM (labC m c j) (numC m q d col) e i).2.1)), (0, vr t), (1, vi j), (2, vi e), (3, vi col), (4, vi w), (5, vr q)]) rfl (Nat.le_of_ble_eq_true rfl) rfl ?_
              refine V_ld (pc := 131) dX3_measured_131 (v := vi ((foldM (labC m c j) (numC m q d col) e i).2.1)) rfl rfl ?_
              refine V_if_ne (pc := 133) dX3_measured_133 (tgt := 142) rfl (fun h133 => ?_) (fun h133 => ?_)
              · skip
                refine V_ld (pc := 142) dX3_measured_142 (v := vl ((foldM (labC m c j) (numC m q d col) e i).2.2.2.2.2.1)) rfl rfl ?_
                refine V_st (pc := 144) dX3_measured_144 (ls' := [(14, vl ((foldM (labC m c j) (numC m q d col) e i).2.2.2.2.2.1)), (12, vl x126), (10, vl x116), (8, vl (((foldM (labC m c j) (numC m q d col) e i).2.2.1) + x76)), (20, vi x76), (6, vi (((foldM (labC m c j) (numC m q d col) e i).1) + 1)), (19, vi x43), (18, vi ((i : Nat) : Int)), (16, vl ((foldM (labC m c j) (numC m q d col) e i).2.2.2.2.2.2)), (7, vi ((foldM (labC m c j) (numC m q d col) e i).2.1)), (0, vr t), (1, vi j), (2, vi e), (3, vi col), (4, vi w), (5, vr q)]) rfl (Nat.le_of_ble_eq_true rfl) rfl ?_
                refine V_ld (pc := 146) dX3_measured_146 (v := vi x76) rfl rfl ?_
                refine V_i2l (pc := 148) dX3_measured_148 ?_
                refine V_st (pc := 149) dX3_measured_149 (ls' := [(16, vl x76), (14, vl ((foldM (labC m c j) (numC m q d col) e i).2.2.2.2.2.1)), (12, vl x126), (10, vl x116), (8, vl (((foldM (labC m c j) (numC m q d col) e i).2.2.1) + x76)), (20, vi x76), (6, vi (((foldM (labC m c j) (numC m q d col) e i).1) + 1)), (19, vi x43), (18, vi ((i : Nat) : Int)), (7, vi ((foldM (labC m c j) (numC m q d col) e i).2.1)), (0, vr t), (1, vi j), (2, vi e), (3, vi col), (4, vi w), (5, vr q)]) rfl (Nat.le_of_ble_eq_true rfl) rfl ?_
                refine V_iinc (pc := 151) dX3_measured_151 (x := ((foldM (labC m c j) (numC m q d col) e i).2.1)) (ls' := [(7, vi (((foldM (labC m c j) (numC m q d col) e i).2.1) + 1)), (16, vl x76), (14, vl ((foldM (labC m c j) (numC m q d col) e i).2.2.2.2.2.1)), (12, vl x126), (10, vl x116), (8, vl (((foldM (labC m c j) (numC m q d col) e i).2.2.1) + x76)), (20, vi x76), (6, vi (((foldM (labC m c j) (numC m q d col) e i).1) + 1)), (19, vi x43), (18, vi ((i : Nat) : Int)), (0, vr t), (1, vi j), (2, vi e), (3, vi col), (4, vi w), (5, vr q)]) rfl (by have hb := foldM_bd (L := e) (lab := labC m c j) hnum i; unfold I32; (try unfold I32 at *); omega) (Nat.le_of_ble_eq_true rfl) rfl ?_
                refine V_iinc (pc := 154) dX3_measured_154 (x := ((i : Nat) : Int)) (ls' := [(18, vi (((i : Nat) : Int) + 1)), (7, vi (((foldM (labC m c j) (numC m q d col) e i).2.1) + 1)), (16, vl x76), (14, vl ((foldM (labC m c j) (numC m q d col) e i).2.2.2.2.2.1)), (12, vl x126), (10, vl x116), (8, vl (((foldM (labC m c j) (numC m q d col) e i).2.2.1) + x76)), (20, vi x76), (6, vi (((foldM (labC m c j) (numC m q d col) e i).1) + 1)), (19, vi x43), (0, vr t), (1, vi j), (2, vi e), (3, vi col), (4, vi w), (5, vr q)]) rfl (by unfold I32 at *; omega) (Nat.le_of_ble_eq_true rfl) rfl ?_
                refine V_goto (pc := 157) dX3_measured_157 (tgt := 32) rfl ?_
                have ela : (mI m c (j * 32 + (i : Int)).toNat) = x43 := by omega
                have enu : (if (i : Int) < mI m q 1 then mI m d ((i : Int) * 2 + col).toNat else 1000) = x76 := by omega
                have e_ : foldM (labC m c j) (numC m q d col) e (i + 1) = (((foldM (labC m c j) (numC m q d col) e i).1) + 1, ((foldM (labC m c j) (numC m q d col) e i).2.1) + 1, ((foldM (labC m c j) (numC m q d col) e i).2.2.1) + x76, x116, x126, (foldM (labC m c j) (numC m q d col) e i).2.2.2.2.2.1, x76) := by
                  show stepM (mI m c (j * 32 + (i : Int)).toNat) (if (i : Int) < mI m q 1 then mI m d ((i : Int) * 2 + col).toNat else 1000) e (foldM (labC m c j) (numC m q d col) e i) = _
                  rw [ela, enu]
                  unfold stepM
                  first
                    | (exfalso; omega)
                    | (rw [if_neg (by omega)])
                    | (rw [if_pos (by omega), if_pos (by omega)])
                    | (rw [if_pos (by omega), if_neg (by omega)]; simp only [Prod.mk.injEq]; repeat' apply And.intro
                       all_goals (first | trivial | omega))
                have h_ := ih (i + 1) (by omega)
                rw [e_] at h_
                refine V_ls (ls' := [(18, vi (((i : Nat) : Int) + 1)), (16, vl x76), (14, vl ((foldM (labC m c j) (numC m q d col) e i).2.2.2.2.2.1)), (12, vl x126), (10, vl x116), (8, vl (((foldM (labC m c j) (numC m q d col) e i).2.2.1) + x76)), (7, vi (((foldM (labC m c j) (numC m q d col) e i).2.1) + 1)), (6, vi (((foldM (labC m c j) (numC m q d col) e i).1) + 1)), (0, vr t), (1, vi j), (2, vi e), (3, vi col), (4, vi w), (5, vr q)]) (by intro q_ h_; simp only [List.mem_cons, List.not_mem_nil, or_false] at h_ ⊢; rcases h_ with rfl | rfl | rfl | rfl | rfl | rfl | rfl | rfl | rfl | rfl | rfl | rfl | rfl | rfl <;> simp) ?_
                exact h_
              · skip
                refine V_ld (pc := 136) dX3_measured_136 (v := vi x76) rfl rfl ?_
                refine V_i2l (pc := 138) dX3_measured_138 ?_
                refine V_goto (pc := 139) dX3_measured_139 (tgt := 144) rfl ?_
                refine V_st (pc := 144) dX3_measured_144 (ls' := [(14, vl x76), (12, vl x126), (10, vl x116), (8, vl (((foldM (labC m c j) (numC m q d col) e i).2.2.1) + x76)), (20, vi x76), (6, vi (((foldM (labC m c j) (numC m q d col) e i).1) + 1)), (19, vi x43), (18, vi ((i : Nat) : Int)), (16, vl ((foldM (labC m c j) (numC m q d col) e i).2.2.2.2.2.2)), (7, vi ((foldM (labC m c j) (numC m q d col) e i).2.1)), (0, vr t), (1, vi j), (2, vi e), (3, vi col), (4, vi w), (5, vr q)]) rfl (Nat.le_of_ble_eq_true rfl) rfl ?_
                refine V_ld (pc := 146) dX3_measured_146 (v := vi x76) rfl rfl ?_
                refine V_i2l (pc := 148) dX3_measured_148 ?_
                refine V_st (pc := 149) dX3_measured_149 (ls' := [(16, vl x76), (14, vl x76), (12, vl x126), (10, vl x116), (8, vl (((foldM (labC m c j) (numC m q d col) e i).2.2.1) + x76)), (20, vi x76), (6, vi (((foldM (labC m c j) (numC m q d col) e i).1) + 1)), (19, vi x43), (18, vi ((i : Nat) : Int)), (7, vi ((foldM (labC m c j) (numC m q d col) e i).2.1)), (0, vr t), (1, vi j), (2, vi e), (3, vi col), (4, vi w), (5, vr q)]) rfl (Nat.le_of_ble_eq_true rfl) rfl ?_
                refine V_iinc (pc := 151) dX3_measured_151 (x := ((foldM (labC m c j) (numC m q d col) e i).2.1)) (ls' := [(7, vi (((foldM (labC m c j) (numC m q d col) e i).2.1) + 1)), (16, vl x76), (14, vl x76), (12, vl x126), (10, vl x116), (8, vl (((foldM (labC m c j) (numC m q d col) e i).2.2.1) + x76)), (20, vi x76), (6, vi (((foldM (labC m c j) (numC m q d col) e i).1) + 1)), (19, vi x43), (18, vi ((i : Nat) : Int)), (0, vr t), (1, vi j), (2, vi e), (3, vi col), (4, vi w), (5, vr q)]) rfl (by have hb := foldM_bd (L := e) (lab := labC m c j) hnum i; unfold I32; (try unfold I32 at *); omega) (Nat.le_of_ble_eq_true rfl) rfl ?_
                refine V_iinc (pc := 154) dX3_measured_154 (x := ((i : Nat) : Int)) (ls' := [(18, vi (((i : Nat) : Int) + 1)), (7, vi (((foldM (labC m c j) (numC m q d col) e i).2.1) + 1)), (16, vl x76), (14, vl x76), (12, vl x126), (10, vl x116), (8, vl (((foldM (labC m c j) (numC m q d col) e i).2.2.1) + x76)), (20, vi x76), (6, vi (((foldM (labC m c j) (numC m q d col) e i).1) + 1)), (19, vi x43), (0, vr t), (1, vi j), (2, vi e), (3, vi col), (4, vi w), (5, vr q)]) rfl (by unfold I32 at *; omega) (Nat.le_of_ble_eq_true rfl) rfl ?_
                refine V_goto (pc := 157) dX3_measured_157 (tgt := 32) rfl ?_
                have ela : (mI m c (j * 32 + (i : Int)).toNat) = x43 := by omega
                have enu : (if (i : Int) < mI m q 1 then mI m d ((i : Int) * 2 + col).toNat else 1000) = x76 := by omega
                have e_ : foldM (labC m c j) (numC m q d col) e (i + 1) = (((foldM (labC m c j) (numC m q d col) e i).1) + 1, ((foldM (labC m c j) (numC m q d col) e i).2.1) + 1, ((foldM (labC m c j) (numC m q d col) e i).2.2.1) + x76, x116, x126, x76, x76) := by
                  show stepM (mI m c (j * 32 + (i : Int)).toNat) (if (i : Int) < mI m q 1 then mI m d ((i : Int) * 2 + col).toNat else 1000) e (foldM (labC m c j) (numC m q d col) e i) = _
                  rw [ela, enu]
                  unfold stepM
                  first
                    | (exfalso; omega)
                    | (rw [if_neg (by omega)])
                    | (rw [if_pos (by omega), if_pos (by omega)])
                    | (rw [if_pos (by omega), if_neg (by omega)]; simp only [Prod.mk.injEq]; repeat' apply And.intro
                       all_goals (first | trivial | omega))
                have h_ := ih (i + 1) (by omega)
                rw [e_] at h_
                refine V_ls (ls' := [(18, vi (((i : Nat) : Int) + 1)), (16, vl x76), (14, vl x76), (12, vl x126), (10, vl x116), (8, vl (((foldM (labC m c j) (numC m q d col) e i).2.2.1) + x76)), (7, vi (((foldM (labC m c j) (numC m q d col) e i).2.1) + 1)), (6, vi (((foldM (labC m c j) (numC m q d col) e i).1) + 1)), (0, vr t), (1, vi j), (2, vi e), (3, vi col), (4, vi w), (5, vr q)]) (by intro q_ h_; simp only [List.mem_cons, List.not_mem_nil, or_false] at h_ ⊢; rcases h_ with rfl | rfl | rfl | rfl | rfl | rfl | rfl | rfl | rfl | rfl | rfl | rfl | rfl | rfl <;> simp) ?_
                exact h_
            · skip
              refine V_ld (pc := 105) dX3_measured_105 (v := vi x76) rfl rfl ?_
              refine V_i2l (pc := 107) dX3_measured_107 ?_
              refine V_goto (pc := 108) dX3_measured_108 (tgt := 119) rfl ?_
              refine V_st (pc := 119) dX3_measured_119 (ls' := [(10, vl x76), (8, vl (((foldM (labC m c j) (numC m q d col) e i).2.2.1) + x76)), (20, vi x76), (6, vi (((foldM (labC m c j) (numC m q d col) e i).1) + 1)), (19, vi x43), (18, vi ((i : Nat) : Int)), (16, vl ((foldM (labC m c j) (numC m q d col) e i).2.2.2.2.2.2)), (14, vl ((foldM (labC m c j) (numC m q d col) e i).2.2.2.2.2.1)), (12, vl ((foldM (labC m c j) (numC m q d col) e i).2.2.2.2.1)), (7, vi ((foldM (labC m c j) (numC m q d col) e i).2.1)), (0, vr t), (1, vi j), (2, vi e), (3, vi col), (4, vi w), (5, vr q)]) rfl (Nat.le_of_ble_eq_true rfl) rfl ?_
              refine V_ld (pc := 121) dX3_measured_121 (v := vl ((foldM (labC m c j) (numC m q d col) e i).2.2.2.2.1)) rfl rfl ?_
              refine V_ld (pc := 123) dX3_measured_123 (v := vi x76) rfl rfl ?_
              refine V_i2l (pc := 125) dX3_measured_125 ?_
              refine V_callS (pc := 126) dX3_measured_126 (F' := 0) (As := [vl ((foldM (labC m c j) (numC m q d col) e i).2.2.2.2.1), vl x76]) (st := []) cw_RX3_58 rfl rfl (Nat.le_of_ble_eq_true rfl) (by omega) (j_max_l  m ((foldM (labC m c j) (numC m q d col) e i).2.2.2.2.1) x76   ) ?_
              rintro _ _ ⟨x126, rfl, hx126, rfl⟩ ok126 le126
              refine V_st (pc := 129) dX3_measured_129 (ls' := [(12, vl x126), (10, vl x76), (8, vl (((foldM (labC m c j) (numC m q d col) e i).2.2.1) + x76)), (20, vi x76), (6, vi (((foldM (labC m c j) (numC m q d col) e i).1) + 1)), (19, vi x43), (18, vi ((i : Nat) : Int)), (16, vl ((foldM (labC m c j) (numC m q d col) e i).2.2.2.2.2.2)), (14, vl ((foldM (labC m c j) (numC m q d col) e i).2.2.2.2.2.1)), (7, vi ((foldM (labC m c j) (numC m q d col) e i).2.1)), (0, vr t), (1, vi j), (2, vi e), (3, vi col), (4, vi w), (5, vr q)]) rfl (Nat.le_of_ble_eq_true rfl) rfl ?_
              refine V_ld (pc := 131) dX3_measured_131 (v := vi ((foldM (labC m c j) (numC m q d col) e i).2.1)) rfl rfl ?_
              refine V_if_ne (pc := 133) dX3_measured_133 (tgt := 142) rfl (fun h133 => ?_) (fun h133 => ?_)
              · skip
                refine V_ld (pc := 142) dX3_measured_142 (v := vl ((foldM (labC m c j) (numC m q d col) e i).2.2.2.2.2.1)) rfl rfl ?_
                refine V_st (pc := 144) dX3_measured_144 (ls' := [(14, vl ((foldM (labC m c j) (numC m q d col) e i).2.2.2.2.2.1)), (12, vl x126), (10, vl x76), (8, vl (((foldM (labC m c j) (numC m q d col) e i).2.2.1) + x76)), (20, vi x76), (6, vi (((foldM (labC m c j) (numC m q d col) e i).1) + 1)), (19, vi x43), (18, vi ((i : Nat) : Int)), (16, vl ((foldM (labC m c j) (numC m q d col) e i).2.2.2.2.2.2)), (7, vi ((foldM (labC m c j) (numC m q d col) e i).2.1)), (0, vr t), (1, vi j), (2, vi e), (3, vi col), (4, vi w), (5, vr q)]) rfl (Nat.le_of_ble_eq_true rfl) rfl ?_
                refine V_ld (pc := 146) dX3_measured_146 (v := vi x76) rfl rfl ?_
                refine V_i2l (pc := 148) dX3_measured_148 ?_
                refine V_st (pc := 149) dX3_measured_149 (ls' := [(16, vl x76), (14, vl ((foldM (labC m c j) (numC m q d col) e i).2.2.2.2.2.1)), (12, vl x126), (10, vl x76), (8, vl (((foldM (labC m c j) (numC m q d col) e i).2.2.1) + x76)), (20, vi x76), (6, vi (((foldM (labC m c j) (numC m q d col) e i).1) + 1)), (19, vi x43), (18, vi ((i : Nat) : Int)), (7, vi ((foldM (labC m c j) (numC m q d col) e i).2.1)), (0, vr t), (1, vi j), (2, vi e), (3, vi col), (4, vi w), (5, vr q)]) rfl (Nat.le_of_ble_eq_true rfl) rfl ?_
                refine V_iinc (pc := 151) dX3_measured_151 (x := ((foldM (labC m c j) (numC m q d col) e i).2.1)) (ls' := [(7, vi (((foldM (labC m c j) (numC m q d col) e i).2.1) + 1)), (16, vl x76), (14, vl ((foldM (labC m c j) (numC m q d col) e i).2.2.2.2.2.1)), (12, vl x126), (10, vl x76), (8, vl (((foldM (labC m c j) (numC m q d col) e i).2.2.1) + x76)), (20, vi x76), (6, vi (((foldM (labC m c j) (numC m q d col) e i).1) + 1)), (19, vi x43), (18, vi ((i : Nat) : Int)), (0, vr t), (1, vi j), (2, vi e), (3, vi col), (4, vi w), (5, vr q)]) rfl (by have hb := foldM_bd (L := e) (lab := labC m c j) hnum i; unfold I32; (try unfold I32 at *); omega) (Nat.le_of_ble_eq_true rfl) rfl ?_
                refine V_iinc (pc := 154) dX3_measured_154 (x := ((i : Nat) : Int)) (ls' := [(18, vi (((i : Nat) : Int) + 1)), (7, vi (((foldM (labC m c j) (numC m q d col) e i).2.1) + 1)), (16, vl x76), (14, vl ((foldM (labC m c j) (numC m q d col) e i).2.2.2.2.2.1)), (12, vl x126), (10, vl x76), (8, vl (((foldM (labC m c j) (numC m q d col) e i).2.2.1) + x76)), (20, vi x76), (6, vi (((foldM (labC m c j) (numC m q d col) e i).1) + 1)), (19, vi x43), (0, vr t), (1, vi j), (2, vi e), (3, vi col), (4, vi w), (5, vr q)]) rfl (by unfold I32 at *; omega) (Nat.le_of_ble_eq_true rfl) rfl ?_
                refine V_goto (pc := 157) dX3_measured_157 (tgt := 32) rfl ?_
                have ela : (mI m c (j * 32 + (i : Int)).toNat) = x43 := by omega
                have enu : (if (i : Int) < mI m q 1 then mI m d ((i : Int) * 2 + col).toNat else 1000) = x76 := by omega
                have e_ : foldM (labC m c j) (numC m q d col) e (i + 1) = (((foldM (labC m c j) (numC m q d col) e i).1) + 1, ((foldM (labC m c j) (numC m q d col) e i).2.1) + 1, ((foldM (labC m c j) (numC m q d col) e i).2.2.1) + x76, x76, x126, (foldM (labC m c j) (numC m q d col) e i).2.2.2.2.2.1, x76) := by
                  show stepM (mI m c (j * 32 + (i : Int)).toNat) (if (i : Int) < mI m q 1 then mI m d ((i : Int) * 2 + col).toNat else 1000) e (foldM (labC m c j) (numC m q d col) e i) = _
                  rw [ela, enu]
                  unfold stepM
                  first
                    | (exfalso; omega)
                    | (rw [if_neg (by omega)])
                    | (rw [if_pos (by omega), if_pos (by omega)])
                    | (rw [if_pos (by omega), if_neg (by omega)]; simp only [Prod.mk.injEq]; repeat' apply And.intro
                       all_goals (first | trivial | omega))
                have h_ := ih (i + 1) (by omega)
                rw [e_] at h_
                refine V_ls (ls' := [(18, vi (((i : Nat) : Int) + 1)), (16, vl x76), (14, vl ((foldM (labC m c j) (numC m q d col) e i).2.2.2.2.2.1)), (12, vl x126), (10, vl x76), (8, vl (((foldM (labC m c j) (numC m q d col) e i).2.2.1) + x76)), (7, vi (((foldM (labC m c j) (numC m q d col) e i).2.1) + 1)), (6, vi (((foldM (labC m c j) (numC m q d col) e i).1) + 1)), (0, vr t), (1, vi j), (2, vi e), (3, vi col), (4, vi w), (5, vr q)]) (by intro q_ h_; simp only [List.mem_cons, List.not_mem_nil, or_false] at h_ ⊢; rcases h_ with rfl | rfl | rfl | rfl | rfl | rfl | rfl | rfl | rfl | rfl | rfl | rfl | rfl | rfl <;> simp) ?_
                exact h_
              · skip
                refine V_ld (pc := 136) dX3_measured_136 (v := vi x76) rfl rfl ?_
                refine V_i2l (pc := 138) dX3_measured_138 ?_
                refine V_goto (pc := 139) dX3_measured_139 (tgt := 144) rfl ?_
                refine V_st (pc := 144) dX3_measured_144 (ls' := [(14, vl x76), (12, vl x126), (10, vl x76), (8, vl (((foldM (labC m c j) (numC m q d col) e i).2.2.1) + x76)), (20, vi x76), (6, vi (((foldM (labC m c j) (numC m q d col) e i).1) + 1)), (19, vi x43), (18, vi ((i : Nat) : Int)), (16, vl ((foldM (labC m c j) (numC m q d col) e i).2.2.2.2.2.2)), (7, vi ((foldM (labC m c j) (numC m q d col) e i).2.1)), (0, vr t), (1, vi j), (2, vi e), (3, vi col), (4, vi w), (5, vr q)]) rfl (Nat.le_of_ble_eq_true rfl) rfl ?_
                refine V_ld (pc := 146) dX3_measured_146 (v := vi x76) rfl rfl ?_
                refine V_i2l (pc := 148) dX3_measured_148 ?_
                refine V_st (pc := 149) dX3_measured_149 (ls' := [(16, vl x76), (14, vl x76), (12, vl x126), (10, vl x76), (8, vl (((foldM (labC m c j) (numC m q d col) e i).2.2.1) + x76)), (20, vi x76), (6, vi (((foldM (labC m c j) (numC m q d col) e i).1) + 1)), (19, vi x43), (18, vi ((i : Nat) : Int)), (7, vi ((foldM (labC m c j) (numC m q d col) e i).2.1)), (0, vr t), (1, vi j), (2, vi e), (3, vi col), (4, vi w), (5, vr q)]) rfl (Nat.le_of_ble_eq_true rfl) rfl ?_
                refine V_iinc (pc := 151) dX3_measured_151 (x := ((foldM (labC m c j) (numC m q d col) e i).2.1)) (ls' := [(7, vi (((foldM (labC m c j) (numC m q d col) e i).2.1) + 1)), (16, vl x76), (14, vl x76), (12, vl x126), (10, vl x76), (8, vl (((foldM (labC m c j) (numC m q d col) e i).2.2.1) + x76)), (20, vi x76), (6, vi (((foldM (labC m c j) (numC m q d col) e i).1) + 1)), (19, vi x43), (18, vi ((i : Nat) : Int)), (0, vr t), (1, vi j), (2, vi e), (3, vi col), (4, vi w), (5, vr q)]) rfl (by have hb := foldM_bd (L := e) (lab := labC m c j) hnum i; unfold I32; (try unfold I32 at *); omega) (Nat.le_of_ble_eq_true rfl) rfl ?_
                refine V_iinc (pc := 154) dX3_measured_154 (x := ((i : Nat) : Int)) (ls' := [(18, vi (((i : Nat) : Int) + 1)), (7, vi (((foldM (labC m c j) (numC m q d col) e i).2.1) + 1)), (16, vl x76), (14, vl x76), (12, vl x126), (10, vl x76), (8, vl (((foldM (labC m c j) (numC m q d col) e i).2.2.1) + x76)), (20, vi x76), (6, vi (((foldM (labC m c j) (numC m q d col) e i).1) + 1)), (19, vi x43), (0, vr t), (1, vi j), (2, vi e), (3, vi col), (4, vi w), (5, vr q)]) rfl (by unfold I32 at *; omega) (Nat.le_of_ble_eq_true rfl) rfl ?_
                refine V_goto (pc := 157) dX3_measured_157 (tgt := 32) rfl ?_
                have ela : (mI m c (j * 32 + (i : Int)).toNat) = x43 := by omega
                have enu : (if (i : Int) < mI m q 1 then mI m d ((i : Int) * 2 + col).toNat else 1000) = x76 := by omega
                have e_ : foldM (labC m c j) (numC m q d col) e (i + 1) = (((foldM (labC m c j) (numC m q d col) e i).1) + 1, ((foldM (labC m c j) (numC m q d col) e i).2.1) + 1, ((foldM (labC m c j) (numC m q d col) e i).2.2.1) + x76, x76, x126, x76, x76) := by
                  show stepM (mI m c (j * 32 + (i : Int)).toNat) (if (i : Int) < mI m q 1 then mI m d ((i : Int) * 2 + col).toNat else 1000) e (foldM (labC m c j) (numC m q d col) e i) = _
                  rw [ela, enu]
                  unfold stepM
                  first
                    | (exfalso; omega)
                    | (rw [if_neg (by omega)])
                    | (rw [if_pos (by omega), if_pos (by omega)])
                    | (rw [if_pos (by omega), if_neg (by omega)]; simp only [Prod.mk.injEq]; repeat' apply And.intro
                       all_goals (first | trivial | omega))
                have h_ := ih (i + 1) (by omega)
                rw [e_] at h_
                refine V_ls (ls' := [(18, vi (((i : Nat) : Int) + 1)), (16, vl x76), (14, vl x76), (12, vl x126), (10, vl x76), (8, vl (((foldM (labC m c j) (numC m q d col) e i).2.2.1) + x76)), (7, vi (((foldM (labC m c j) (numC m q d col) e i).2.1) + 1)), (6, vi (((foldM (labC m c j) (numC m q d col) e i).1) + 1)), (0, vr t), (1, vi j), (2, vi e), (3, vi col), (4, vi w), (5, vr q)]) (by intro q_ h_; simp only [List.mem_cons, List.not_mem_nil, or_false] at h_ ⊢; rcases h_ with rfl | rfl | rfl | rfl | rfl | rfl | rfl | rfl | rfl | rfl | rfl | rfl | rfl | rfl <;> simp) ?_
                exact h_
          · skip
            refine V_goto (pc := 89) dX3_measured_89 (tgt := 154) rfl ?_
            refine V_iinc (pc := 154) dX3_measured_154 (x := ((i : Nat) : Int)) (ls' := [(18, vi (((i : Nat) : Int) + 1)), (20, vi x76), (6, vi (((foldM (labC m c j) (numC m q d col) e i).1) + 1)), (19, vi x43), (16, vl ((foldM (labC m c j) (numC m q d col) e i).2.2.2.2.2.2)), (14, vl ((foldM (labC m c j) (numC m q d col) e i).2.2.2.2.2.1)), (12, vl ((foldM (labC m c j) (numC m q d col) e i).2.2.2.2.1)), (10, vl ((foldM (labC m c j) (numC m q d col) e i).2.2.2.1)), (8, vl ((foldM (labC m c j) (numC m q d col) e i).2.2.1)), (7, vi ((foldM (labC m c j) (numC m q d col) e i).2.1)), (0, vr t), (1, vi j), (2, vi e), (3, vi col), (4, vi w), (5, vr q)]) rfl (by unfold I32 at *; omega) (Nat.le_of_ble_eq_true rfl) rfl ?_
            refine V_goto (pc := 157) dX3_measured_157 (tgt := 32) rfl ?_
            have ela : (mI m c (j * 32 + (i : Int)).toNat) = x43 := by omega
            have enu : (if (i : Int) < mI m q 1 then mI m d ((i : Int) * 2 + col).toNat else 1000) = x76 := by omega
            have e_ : foldM (labC m c j) (numC m q d col) e (i + 1) = (((foldM (labC m c j) (numC m q d col) e i).1) + 1, (foldM (labC m c j) (numC m q d col) e i).2.1, (foldM (labC m c j) (numC m q d col) e i).2.2.1, (foldM (labC m c j) (numC m q d col) e i).2.2.2.1, (foldM (labC m c j) (numC m q d col) e i).2.2.2.2.1, (foldM (labC m c j) (numC m q d col) e i).2.2.2.2.2.1, (foldM (labC m c j) (numC m q d col) e i).2.2.2.2.2.2) := by
              show stepM (mI m c (j * 32 + (i : Int)).toNat) (if (i : Int) < mI m q 1 then mI m d ((i : Int) * 2 + col).toNat else 1000) e (foldM (labC m c j) (numC m q d col) e i) = _
              rw [ela, enu]
              unfold stepM
              first
                | (exfalso; omega)
                | (rw [if_neg (by omega)])
                | (rw [if_pos (by omega), if_pos (by omega)])
                | (rw [if_pos (by omega), if_neg (by omega)]; simp only [Prod.mk.injEq]; repeat' apply And.intro
                   all_goals (first | trivial | omega))
            have h_ := ih (i + 1) (by omega)
            rw [e_] at h_
            refine V_ls (ls' := [(18, vi (((i : Nat) : Int) + 1)), (16, vl ((foldM (labC m c j) (numC m q d col) e i).2.2.2.2.2.2)), (14, vl ((foldM (labC m c j) (numC m q d col) e i).2.2.2.2.2.1)), (12, vl ((foldM (labC m c j) (numC m q d col) e i).2.2.2.2.1)), (10, vl ((foldM (labC m c j) (numC m q d col) e i).2.2.2.1)), (8, vl ((foldM (labC m c j) (numC m q d col) e i).2.2.1)), (7, vi ((foldM (labC m c j) (numC m q d col) e i).2.1)), (6, vi (((foldM (labC m c j) (numC m q d col) e i).1) + 1)), (0, vr t), (1, vi j), (2, vi e), (3, vi col), (4, vi w), (5, vr q)]) (by intro q_ h_; simp only [List.mem_cons, List.not_mem_nil, or_false] at h_ ⊢; rcases h_ with rfl | rfl | rfl | rfl | rfl | rfl | rfl | rfl | rfl | rfl | rfl | rfl | rfl | rfl <;> simp) ?_
            exact h_
        · skip
          refine V_ld (pc := 59) dX3_measured_59 (v := vi x43) rfl rfl ?_
          refine V_ld (pc := 61) dX3_measured_61 (v := vi e) rfl rfl ?_
          refine V_icmp_eq (pc := 62) dX3_measured_62 (tgt := 68) rfl (fun h62 => ?_) (fun h62 => ?_)
          · skip
            refine V_iinc (pc := 68) dX3_measured_68 (x := ((foldM (labC m c j) (numC m q d col) e i).1)) (ls' := [(6, vi (((foldM (labC m c j) (numC m q d col) e i).1) + 1)), (19, vi x43), (18, vi ((i : Nat) : Int)), (16, vl ((foldM (labC m c j) (numC m q d col) e i).2.2.2.2.2.2)), (14, vl ((foldM (labC m c j) (numC m q d col) e i).2.2.2.2.2.1)), (12, vl ((foldM (labC m c j) (numC m q d col) e i).2.2.2.2.1)), (10, vl ((foldM (labC m c j) (numC m q d col) e i).2.2.2.1)), (8, vl ((foldM (labC m c j) (numC m q d col) e i).2.2.1)), (7, vi ((foldM (labC m c j) (numC m q d col) e i).2.1)), (0, vr t), (1, vi j), (2, vi e), (3, vi col), (4, vi w), (5, vr q)]) rfl (by have hb := foldM_bd (L := e) (lab := labC m c j) hnum i; unfold I32; (try unfold I32 at *); omega) (Nat.le_of_ble_eq_true rfl) rfl ?_
            refine V_ld (pc := 71) dX3_measured_71 (v := vr q) rfl rfl ?_
            refine V_ld (pc := 73) dX3_measured_73 (v := vi ((i : Nat) : Int)) rfl rfl ?_
            refine V_ld (pc := 75) dX3_measured_75 (v := vi col) rfl rfl ?_
            refine V_callV (pc := 76) dX3_measured_76 (F' := 0) (As := [vi ((i : Nat) : Int), vi col]) (st := []) cw_RX3_47 rfl rfl T_q (by decide) (Nat.le_of_ble_eq_true rfl) (by omega) (c_number  m q ((i : Nat) : Int) col d  T_q R_q_0 T_d) ?_
            rintro _ _ ⟨x76, rfl, hx76, rfl⟩ ok76 le76
            refine V_st (pc := 79) dX3_measured_79 (ls' := [(20, vi x76), (6, vi (((foldM (labC m c j) (numC m q d col) e i).1) + 1)), (19, vi x43), (18, vi ((i : Nat) : Int)), (16, vl ((foldM (labC m c j) (numC m q d col) e i).2.2.2.2.2.2)), (14, vl ((foldM (labC m c j) (numC m q d col) e i).2.2.2.2.2.1)), (12, vl ((foldM (labC m c j) (numC m q d col) e i).2.2.2.2.1)), (10, vl ((foldM (labC m c j) (numC m q d col) e i).2.2.2.1)), (8, vl ((foldM (labC m c j) (numC m q d col) e i).2.2.1)), (7, vi ((foldM (labC m c j) (numC m q d col) e i).2.1)), (0, vr t), (1, vi j), (2, vi e), (3, vi col), (4, vi w), (5, vr q)]) rfl (Nat.le_of_ble_eq_true rfl) rfl ?_
            refine V_ld (pc := 81) dX3_measured_81 (v := vi x76) rfl rfl ?_
            refine V_sipush (pc := 83) dX3_measured_83 (by unfold I32; omega) (by decide) ?_
            refine V_icmp_ne (pc := 86) dX3_measured_86 (tgt := 92) rfl (fun h86 => ?_) (fun h86 => ?_)
            · skip
              refine V_ld (pc := 92) dX3_measured_92 (v := vl ((foldM (labC m c j) (numC m q d col) e i).2.2.1)) rfl rfl ?_
              refine V_ld (pc := 94) dX3_measured_94 (v := vi x76) rfl rfl ?_
              refine V_i2l (pc := 96) dX3_measured_96 ?_
              refine V_ladd (pc := 97) dX3_measured_97 (by have hb := foldM_bd (L := e) (lab := labC m c j) hnum i; unfold I64; (try unfold I32 at *); omega) ?_
              refine V_st (pc := 98) dX3_measured_98 (ls' := [(8, vl (((foldM (labC m c j) (numC m q d col) e i).2.2.1) + x76)), (20, vi x76), (6, vi (((foldM (labC m c j) (numC m q d col) e i).1) + 1)), (19, vi x43), (18, vi ((i : Nat) : Int)), (16, vl ((foldM (labC m c j) (numC m q d col) e i).2.2.2.2.2.2)), (14, vl ((foldM (labC m c j) (numC m q d col) e i).2.2.2.2.2.1)), (12, vl ((foldM (labC m c j) (numC m q d col) e i).2.2.2.2.1)), (10, vl ((foldM (labC m c j) (numC m q d col) e i).2.2.2.1)), (7, vi ((foldM (labC m c j) (numC m q d col) e i).2.1)), (0, vr t), (1, vi j), (2, vi e), (3, vi col), (4, vi w), (5, vr q)]) rfl (Nat.le_of_ble_eq_true rfl) rfl ?_
              refine V_ld (pc := 100) dX3_measured_100 (v := vi ((foldM (labC m c j) (numC m q d col) e i).2.1)) rfl rfl ?_
              refine V_if_ne (pc := 102) dX3_measured_102 (tgt := 111) rfl (fun h102 => ?_) (fun h102 => ?_)
              · skip
                refine V_ld (pc := 111) dX3_measured_111 (v := vl ((foldM (labC m c j) (numC m q d col) e i).2.2.2.1)) rfl rfl ?_
                refine V_ld (pc := 113) dX3_measured_113 (v := vi x76) rfl rfl ?_
                refine V_i2l (pc := 115) dX3_measured_115 ?_
                refine V_callS (pc := 116) dX3_measured_116 (F' := 0) (As := [vl ((foldM (labC m c j) (numC m q d col) e i).2.2.2.1), vl x76]) (st := []) cw_RX3_52 rfl rfl (Nat.le_of_ble_eq_true rfl) (by omega) (j_min_l  m ((foldM (labC m c j) (numC m q d col) e i).2.2.2.1) x76   ) ?_
                rintro _ _ ⟨x116, rfl, hx116, rfl⟩ ok116 le116
                refine V_st (pc := 119) dX3_measured_119 (ls' := [(10, vl x116), (8, vl (((foldM (labC m c j) (numC m q d col) e i).2.2.1) + x76)), (20, vi x76), (6, vi (((foldM (labC m c j) (numC m q d col) e i).1) + 1)), (19, vi x43), (18, vi ((i : Nat) : Int)), (16, vl ((foldM (labC m c j) (numC m q d col) e i).2.2.2.2.2.2)), (14, vl ((foldM (labC m c j) (numC m q d col) e i).2.2.2.2.2.1)), (12, vl ((foldM (labC m c j) (numC m q d col) e i).2.2.2.2.1)), (7, vi ((foldM (labC m c j) (numC m q d col) e i).2.1)), (0, vr t), (1, vi j), (2, vi e), (3, vi col), (4, vi w), (5, vr q)]) rfl (Nat.le_of_ble_eq_true rfl) rfl ?_
                refine V_ld (pc := 121) dX3_measured_121 (v := vl ((foldM (labC m c j) (numC m q d col) e i).2.2.2.2.1)) rfl rfl ?_
                refine V_ld (pc := 123) dX3_measured_123 (v := vi x76) rfl rfl ?_
                refine V_i2l (pc := 125) dX3_measured_125 ?_
                refine V_callS (pc := 126) dX3_measured_126 (F' := 0) (As := [vl ((foldM (labC m c j) (numC m q d col) e i).2.2.2.2.1), vl x76]) (st := []) cw_RX3_58 rfl rfl (Nat.le_of_ble_eq_true rfl) (by omega) (j_max_l  m ((foldM (labC m c j) (numC m q d col) e i).2.2.2.2.1) x76   ) ?_
                rintro _ _ ⟨x126, rfl, hx126, rfl⟩ ok126 le126
                refine V_st (pc := 129) dX3_measured_129 (ls' := [(12, vl x126), (10, vl x116), (8, vl (((foldM (labC m c j) (numC m q d col) e i).2.2.1) + x76)), (20, vi x76), (6, vi (((foldM (labC m c j) (numC m q d col) e i).1) + 1)), (19, vi x43), (18, vi ((i : Nat) : Int)), (16, vl ((foldM (labC m c j) (numC m q d col) e i).2.2.2.2.2.2)), (14, vl ((foldM (labC m c j) (numC m q d col) e i).2.2.2.2.2.1)), (7, vi ((foldM (labC m c j) (numC m q d col) e i).2.1)), (0, vr t), (1, vi j), (2, vi e), (3, vi col), (4, vi w), (5, vr q)]) rfl (Nat.le_of_ble_eq_true rfl) rfl ?_
                refine V_ld (pc := 131) dX3_measured_131 (v := vi ((foldM (labC m c j) (numC m q d col) e i).2.1)) rfl rfl ?_
                refine V_if_ne (pc := 133) dX3_measured_133 (tgt := 142) rfl (fun h133 => ?_) (fun h133 => ?_)
                · skip
                  refine V_ld (pc := 142) dX3_measured_142 (v := vl ((foldM (labC m c j) (numC m q d col) e i).2.2.2.2.2.1)) rfl rfl ?_
                  refine V_st (pc := 144) dX3_measured_144 (ls' := [(14, vl ((foldM (labC m c j) (numC m q d col) e i).2.2.2.2.2.1)), (12, vl x126), (10, vl x116), (8, vl (((foldM (labC m c j) (numC m q d col) e i).2.2.1) + x76)), (20, vi x76), (6, vi (((foldM (labC m c j) (numC m q d col) e i).1) + 1)), (19, vi x43), (18, vi ((i : Nat) : Int)), (16, vl ((foldM (labC m c j) (numC m q d col) e i).2.2.2.2.2.2)), (7, vi ((foldM (labC m c j) (numC m q d col) e i).2.1)), (0, vr t), (1, vi j), (2, vi e), (3, vi col), (4, vi w), (5, vr q)]) rfl (Nat.le_of_ble_eq_true rfl) rfl ?_
                  refine V_ld (pc := 146) dX3_measured_146 (v := vi x76) rfl rfl ?_
                  refine V_i2l (pc := 148) dX3_measured_148 ?_
                  refine V_st (pc := 149) dX3_measured_149 (ls' := [(16, vl x76), (14, vl ((foldM (labC m c j) (numC m q d col) e i).2.2.2.2.2.1)), (12, vl x126), (10, vl x116), (8, vl (((foldM (labC m c j) (numC m q d col) e i).2.2.1) + x76)), (20, vi x76), (6, vi (((foldM (labC m c j) (numC m q d col) e i).1) + 1)), (19, vi x43), (18, vi ((i : Nat) : Int)), (7, vi ((foldM (labC m c j) (numC m q d col) e i).2.1)), (0, vr t), (1, vi j), (2, vi e), (3, vi col), (4, vi w), (5, vr q)]) rfl (Nat.le_of_ble_eq_true rfl) rfl ?_
                  refine V_iinc (pc := 151) dX3_measured_151 (x := ((foldM (labC m c j) (numC m q d col) e i).2.1)) (ls' := [(7, vi (((foldM (labC m c j) (numC m q d col) e i).2.1) + 1)), (16, vl x76), (14, vl ((foldM (labC m c j) (numC m q d col) e i).2.2.2.2.2.1)), (12, vl x126), (10, vl x116), (8, vl (((foldM (labC m c j) (numC m q d col) e i).2.2.1) + x76)), (20, vi x76), (6, vi (((foldM (labC m c j) (numC m q d col) e i).1) + 1)), (19, vi x43), (18, vi ((i : Nat) : Int)), (0, vr t), (1, vi j), (2, vi e), (3, vi col), (4, vi w), (5, vr q)]) rfl (by have hb := foldM_bd (L := e) (lab := labC m c j) hnum i; unfold I32; (try unfold I32 at *); omega) (Nat.le_of_ble_eq_true rfl) rfl ?_
                  refine V_iinc (pc := 154) dX3_measured_154 (x := ((i : Nat) : Int)) (ls' := [(18, vi (((i : Nat) : Int) + 1)), (7, vi (((foldM (labC m c j) (numC m q d col) e i).2.1) + 1)), (16, vl x76), (14, vl ((foldM (labC m c j) (numC m q d col) e i).2.2.2.2.2.1)), (12, vl x126), (10, vl x116), (8, vl (((foldM (labC m c j) (numC m q d col) e i).2.2.1) + x76)), (20, vi x76), (6, vi (((foldM (labC m c j) (numC m q d col) e i).1) + 1)), (19, vi x43), (0, vr t), (1, vi j), (2, vi e), (3, vi col), (4, vi w), (5, vr q)]) rfl (by unfold I32 at *; omega) (Nat.le_of_ble_eq_true rfl) rfl ?_
                  refine V_goto (pc := 157) dX3_measured_157 (tgt := 32) rfl ?_
                  have ela : (mI m c (j * 32 + (i : Int)).toNat) = x43 := by omega
                  have enu : (if (i : Int) < mI m q 1 then mI m d ((i : Int) * 2 + col).toNat else 1000) = x76 := by omega
                  have e_ : foldM (labC m c j) (numC m q d col) e (i + 1) = (((foldM (labC m c j) (numC m q d col) e i).1) + 1, ((foldM (labC m c j) (numC m q d col) e i).2.1) + 1, ((foldM (labC m c j) (numC m q d col) e i).2.2.1) + x76, x116, x126, (foldM (labC m c j) (numC m q d col) e i).2.2.2.2.2.1, x76) := by
                    show stepM (mI m c (j * 32 + (i : Int)).toNat) (if (i : Int) < mI m q 1 then mI m d ((i : Int) * 2 + col).toNat else 1000) e (foldM (labC m c j) (numC m q d col) e i) = _
                    rw [ela, enu]
                    unfold stepM
                    first
                      | (exfalso; omega)
                      | (rw [if_neg (by omega)])
                      | (rw [if_pos (by omega), if_pos (by omega)])
                      | (rw [if_pos (by omega), if_neg (by omega)]; simp only [Prod.mk.injEq]; repeat' apply And.intro
                         all_goals (first | trivial | omega))
                  have h_ := ih (i + 1) (by omega)
                  rw [e_] at h_
                  refine V_ls (ls' := [(18, vi (((i : Nat) : Int) + 1)), (16, vl x76), (14, vl ((foldM (labC m c j) (numC m q d col) e i).2.2.2.2.2.1)), (12, vl x126), (10, vl x116), (8, vl (((foldM (labC m c j) (numC m q d col) e i).2.2.1) + x76)), (7, vi (((foldM (labC m c j) (numC m q d col) e i).2.1) + 1)), (6, vi (((foldM (labC m c j) (numC m q d col) e i).1) + 1)), (0, vr t), (1, vi j), (2, vi e), (3, vi col), (4, vi w), (5, vr q)]) (by intro q_ h_; simp only [List.mem_cons, List.not_mem_nil, or_false] at h_ ⊢; rcases h_ with rfl | rfl | rfl | rfl | rfl | rfl | rfl | rfl | rfl | rfl | rfl | rfl | rfl | rfl <;> simp) ?_
                  exact h_
                · skip
                  refine V_ld (pc := 136) dX3_measured_136 (v := vi x76) rfl rfl ?_
                  refine V_i2l (pc := 138) dX3_measured_138 ?_
                  refine V_goto (pc := 139) dX3_measured_139 (tgt := 144) rfl ?_
                  refine V_st (pc := 144) dX3_measured_144 (ls' := [(14, vl x76), (12, vl x126), (10, vl x116), (8, vl (((foldM (labC m c j) (numC m q d col) e i).2.2.1) + x76)), (20, vi x76), (6, vi (((foldM (labC m c j) (numC m q d col) e i).1) + 1)), (19, vi x43), (18, vi ((i : Nat) : Int)), (16, vl ((foldM (labC m c j) (numC m q d col) e i).2.2.2.2.2.2)), (7, vi ((foldM (labC m c j) (numC m q d col) e i).2.1)), (0, vr t), (1, vi j), (2, vi e), (3, vi col), (4, vi w), (5, vr q)]) rfl (Nat.le_of_ble_eq_true rfl) rfl ?_
                  refine V_ld (pc := 146) dX3_measured_146 (v := vi x76) rfl rfl ?_
                  refine V_i2l (pc := 148) dX3_measured_148 ?_
                  refine V_st (pc := 149) dX3_measured_149 (ls' := [(16, vl x76), (14, vl x76), (12, vl x126), (10, vl x116), (8, vl (((foldM (labC m c j) (numC m q d col) e i).2.2.1) + x76)), (20, vi x76), (6, vi (((foldM (labC m c j) (numC m q d col) e i).1) + 1)), (19, vi x43), (18, vi ((i : Nat) : Int)), (7, vi ((foldM (labC m c j) (numC m q d col) e i).2.1)), (0, vr t), (1, vi j), (2, vi e), (3, vi col), (4, vi w), (5, vr q)]) rfl (Nat.le_of_ble_eq_true rfl) rfl ?_
                  refine V_iinc (pc := 151) dX3_measured_151 (x := ((foldM (labC m c j) (numC m q d col) e i).2.1)) (ls' := [(7, vi (((foldM (labC m c j) (numC m q d col) e i).2.1) + 1)), (16, vl x76), (14, vl x76), (12, vl x126), (10, vl x116), (8, vl (((foldM (labC m c j) (numC m q d col) e i).2.2.1) + x76)), (20, vi x76), (6, vi (((foldM (labC m c j) (numC m q d col) e i).1) + 1)), (19, vi x43), (18, vi ((i : Nat) : Int)), (0, vr t), (1, vi j), (2, vi e), (3, vi col), (4, vi w), (5, vr q)]) rfl (by have hb := foldM_bd (L := e) (lab := labC m c j) hnum i; unfold I32; (try unfold I32 at *); omega) (Nat.le_of_ble_eq_true rfl) rfl ?_
                  refine V_iinc (pc := 154) dX3_measured_154 (x := ((i : Nat) : Int)) (ls' := [(18, vi (((i : Nat) : Int) + 1)), (7, vi (((foldM (labC m c j) (numC m q d col) e i).2.1) + 1)), (16, vl x76), (14, vl x76), (12, vl x126), (10, vl x116), (8, vl (((foldM (labC m c j) (numC m q d col) e i).2.2.1) + x76)), (20, vi x76), (6, vi (((foldM (labC m c j) (numC m q d col) e i).1) + 1)), (19, vi x43), (0, vr t), (1, vi j), (2, vi e), (3, vi col), (4, vi w), (5, vr q)]) rfl (by unfold I32 at *; omega) (Nat.le_of_ble_eq_true rfl) rfl ?_
                  refine V_goto (pc := 157) dX3_measured_157 (tgt := 32) rfl ?_
                  have ela : (mI m c (j * 32 + (i : Int)).toNat) = x43 := by omega
                  have enu : (if (i : Int) < mI m q 1 then mI m d ((i : Int) * 2 + col).toNat else 1000) = x76 := by omega
                  have e_ : foldM (labC m c j) (numC m q d col) e (i + 1) = (((foldM (labC m c j) (numC m q d col) e i).1) + 1, ((foldM (labC m c j) (numC m q d col) e i).2.1) + 1, ((foldM (labC m c j) (numC m q d col) e i).2.2.1) + x76, x116, x126, x76, x76) := by
                    show stepM (mI m c (j * 32 + (i : Int)).toNat) (if (i : Int) < mI m q 1 then mI m d ((i : Int) * 2 + col).toNat else 1000) e (foldM (labC m c j) (numC m q d col) e i) = _
                    rw [ela, enu]
                    unfold stepM
                    first
                      | (exfalso; omega)
                      | (rw [if_neg (by omega)])
                      | (rw [if_pos (by omega), if_pos (by omega)])
                      | (rw [if_pos (by omega), if_neg (by omega)]; simp only [Prod.mk.injEq]; repeat' apply And.intro
                         all_goals (first | trivial | omega))
                  have h_ := ih (i + 1) (by omega)
                  rw [e_] at h_
                  refine V_ls (ls' := [(18, vi (((i : Nat) : Int) + 1)), (16, vl x76), (14, vl x76), (12, vl x126), (10, vl x116), (8, vl (((foldM (labC m c j) (numC m q d col) e i).2.2.1) + x76)), (7, vi (((foldM (labC m c j) (numC m q d col) e i).2.1) + 1)), (6, vi (((foldM (labC m c j) (numC m q d col) e i).1) + 1)), (0, vr t), (1, vi j), (2, vi e), (3, vi col), (4, vi w), (5, vr q)]) (by intro q_ h_; simp only [List.mem_cons, List.not_mem_nil, or_false] at h_ ⊢; rcases h_ with rfl | rfl | rfl | rfl | rfl | rfl | rfl | rfl | rfl | rfl | rfl | rfl | rfl | rfl <;> simp) ?_
                  exact h_
              · skip
                refine V_ld (pc := 105) dX3_measured_105 (v := vi x76) rfl rfl ?_
                refine V_i2l (pc := 107) dX3_measured_107 ?_
                refine V_goto (pc := 108) dX3_measured_108 (tgt := 119) rfl ?_
                refine V_st (pc := 119) dX3_measured_119 (ls' := [(10, vl x76), (8, vl (((foldM (labC m c j) (numC m q d col) e i).2.2.1) + x76)), (20, vi x76), (6, vi (((foldM (labC m c j) (numC m q d col) e i).1) + 1)), (19, vi x43), (18, vi ((i : Nat) : Int)), (16, vl ((foldM (labC m c j) (numC m q d col) e i).2.2.2.2.2.2)), (14, vl ((foldM (labC m c j) (numC m q d col) e i).2.2.2.2.2.1)), (12, vl ((foldM (labC m c j) (numC m q d col) e i).2.2.2.2.1)), (7, vi ((foldM (labC m c j) (numC m q d col) e i).2.1)), (0, vr t), (1, vi j), (2, vi e), (3, vi col), (4, vi w), (5, vr q)]) rfl (Nat.le_of_ble_eq_true rfl) rfl ?_
                refine V_ld (pc := 121) dX3_measured_121 (v := vl ((foldM (labC m c j) (numC m q d col) e i).2.2.2.2.1)) rfl rfl ?_
                refine V_ld (pc := 123) dX3_measured_123 (v := vi x76) rfl rfl ?_
                refine V_i2l (pc := 125) dX3_measured_125 ?_
                refine V_callS (pc := 126) dX3_measured_126 (F' := 0) (As := [vl ((foldM (labC m c j) (numC m q d col) e i).2.2.2.2.1), vl x76]) (st := []) cw_RX3_58 rfl rfl (Nat.le_of_ble_eq_true rfl) (by omega) (j_max_l  m ((foldM (labC m c j) (numC m q d col) e i).2.2.2.2.1) x76   ) ?_
                rintro _ _ ⟨x126, rfl, hx126, rfl⟩ ok126 le126
                refine V_st (pc := 129) dX3_measured_129 (ls' := [(12, vl x126), (10, vl x76), (8, vl (((foldM (labC m c j) (numC m q d col) e i).2.2.1) + x76)), (20, vi x76), (6, vi (((foldM (labC m c j) (numC m q d col) e i).1) + 1)), (19, vi x43), (18, vi ((i : Nat) : Int)), (16, vl ((foldM (labC m c j) (numC m q d col) e i).2.2.2.2.2.2)), (14, vl ((foldM (labC m c j) (numC m q d col) e i).2.2.2.2.2.1)), (7, vi ((foldM (labC m c j) (numC m q d col) e i).2.1)), (0, vr t), (1, vi j), (2, vi e), (3, vi col), (4, vi w), (5, vr q)]) rfl (Nat.le_of_ble_eq_true rfl) rfl ?_
                refine V_ld (pc := 131) dX3_measured_131 (v := vi ((foldM (labC m c j) (numC m q d col) e i).2.1)) rfl rfl ?_
                refine V_if_ne (pc := 133) dX3_measured_133 (tgt := 142) rfl (fun h133 => ?_) (fun h133 => ?_)
                · skip
                  refine V_ld (pc := 142) dX3_measured_142 (v := vl ((foldM (labC m c j) (numC m q d col) e i).2.2.2.2.2.1)) rfl rfl ?_
                  refine V_st (pc := 144) dX3_measured_144 (ls' := [(14, vl ((foldM (labC m c j) (numC m q d col) e i).2.2.2.2.2.1)), (12, vl x126), (10, vl x76), (8, vl (((foldM (labC m c j) (numC m q d col) e i).2.2.1) + x76)), (20, vi x76), (6, vi (((foldM (labC m c j) (numC m q d col) e i).1) + 1)), (19, vi x43), (18, vi ((i : Nat) : Int)), (16, vl ((foldM (labC m c j) (numC m q d col) e i).2.2.2.2.2.2)), (7, vi ((foldM (labC m c j) (numC m q d col) e i).2.1)), (0, vr t), (1, vi j), (2, vi e), (3, vi col), (4, vi w), (5, vr q)]) rfl (Nat.le_of_ble_eq_true rfl) rfl ?_
                  refine V_ld (pc := 146) dX3_measured_146 (v := vi x76) rfl rfl ?_
                  refine V_i2l (pc := 148) dX3_measured_148 ?_
                  refine V_st (pc := 149) dX3_measured_149 (ls' := [(16, vl x76), (14, vl ((foldM (labC m c j) (numC m q d col) e i).2.2.2.2.2.1)), (12, vl x126), (10, vl x76), (8, vl (((foldM (labC m c j) (numC m q d col) e i).2.2.1) + x76)), (20, vi x76), (6, vi (((foldM (labC m c j) (numC m q d col) e i).1) + 1)), (19, vi x43), (18, vi ((i : Nat) : Int)), (7, vi ((foldM (labC m c j) (numC m q d col) e i).2.1)), (0, vr t), (1, vi j), (2, vi e), (3, vi col), (4, vi w), (5, vr q)]) rfl (Nat.le_of_ble_eq_true rfl) rfl ?_
                  refine V_iinc (pc := 151) dX3_measured_151 (x := ((foldM (labC m c j) (numC m q d col) e i).2.1)) (ls' := [(7, vi (((foldM (labC m c j) (numC m q d col) e i).2.1) + 1)), (16, vl x76), (14, vl ((foldM (labC m c j) (numC m q d col) e i).2.2.2.2.2.1)), (12, vl x126), (10, vl x76), (8, vl (((foldM (labC m c j) (numC m q d col) e i).2.2.1) + x76)), (20, vi x76), (6, vi (((foldM (labC m c j) (numC m q d col) e i).1) + 1)), (19, vi x43), (18, vi ((i : Nat) : Int)), (0, vr t), (1, vi j), (2, vi e), (3, vi col), (4, vi w), (5, vr q)]) rfl (by have hb := foldM_bd (L := e) (lab := labC m c j) hnum i; unfold I32; (try unfold I32 at *); omega) (Nat.le_of_ble_eq_true rfl) rfl ?_
                  refine V_iinc (pc := 154) dX3_measured_154 (x := ((i : Nat) : Int)) (ls' := [(18, vi (((i : Nat) : Int) + 1)), (7, vi (((foldM (labC m c j) (numC m q d col) e i).2.1) + 1)), (16, vl x76), (14, vl ((foldM (labC m c j) (numC m q d col) e i).2.2.2.2.2.1)), (12, vl x126), (10, vl x76), (8, vl (((foldM (labC m c j) (numC m q d col) e i).2.2.1) + x76)), (20, vi x76), (6, vi (((foldM (labC m c j) (numC m q d col) e i).1) + 1)), (19, vi x43), (0, vr t), (1, vi j), (2, vi e), (3, vi col), (4, vi w), (5, vr q)]) rfl (by unfold I32 at *; omega) (Nat.le_of_ble_eq_true rfl) rfl ?_
                  refine V_goto (pc := 157) dX3_measured_157 (tgt := 32) rfl ?_
                  have ela : (mI m c (j * 32 + (i : Int)).toNat) = x43 := by omega
                  have enu : (if (i : Int) < mI m q 1 then mI m d ((i : Int) * 2 + col).toNat else 1000) = x76 := by omega
                  have e_ : foldM (labC m c j) (numC m q d col) e (i + 1) = (((foldM (labC m c j) (numC m q d col) e i).1) + 1, ((foldM (labC m c j) (numC m q d col) e i).2.1) + 1, ((foldM (labC m c j) (numC m q d col) e i).2.2.1) + x76, x76, x126, (foldM (labC m c j) (numC m q d col) e i).2.2.2.2.2.1, x76) := by
                    show stepM (mI m c (j * 32 + (i : Int)).toNat) (if (i : Int) < mI m q 1 then mI m d ((i : Int) * 2 + col).toNat else 1000) e (foldM (labC m c j) (numC m q d col) e i) = _
                    rw [ela, enu]
                    unfold stepM
                    first
                      | (exfalso; omega)
                      | (rw [if_neg (by omega)])
                      | (rw [if_pos (by omega), if_pos (by omega)])
                      | (rw [if_pos (by omega), if_neg (by omega)]; simp only [Prod.mk.injEq]; repeat' apply And.intro
                         all_goals (first | trivial | omega))
                  have h_ := ih (i + 1) (by omega)
                  rw [e_] at h_
                  refine V_ls (ls' := [(18, vi (((i : Nat) : Int) + 1)), (16, vl x76), (14, vl ((foldM (labC m c j) (numC m q d col) e i).2.2.2.2.2.1)), (12, vl x126), (10, vl x76), (8, vl (((foldM (labC m c j) (numC m q d col) e i).2.2.1) + x76)), (7, vi (((foldM (labC m c j) (numC m q d col) e i).2.1) + 1)), (6, vi (((foldM (labC m c j) (numC m q d col) e i).1) + 1)), (0, vr t), (1, vi j), (2, vi e), (3, vi col), (4, vi w), (5, vr q)]) (by intro q_ h_; simp only [List.mem_cons, List.not_mem_nil, or_false] at h_ ⊢; rcases h_ with rfl | rfl | rfl | rfl | rfl | rfl | rfl | rfl | rfl | rfl | rfl | rfl | rfl | rfl <;> simp) ?_
                  exact h_
                · skip
                  refine V_ld (pc := 136) dX3_measured_136 (v := vi x76) rfl rfl ?_
                  refine V_i2l (pc := 138) dX3_measured_138 ?_
                  refine V_goto (pc := 139) dX3_measured_139 (tgt := 144) rfl ?_
                  refine V_st (pc := 144) dX3_measured_144 (ls' := [(14, vl x76), (12, vl x126), (10, vl x76), (8, vl (((foldM (labC m c j) (numC m q d col) e i).2.2.1) + x76)), (20, vi x76), (6, vi (((foldM (labC m c j) (numC m q d col) e i).1) + 1)), (19, vi x43), (18, vi ((i : Nat) : Int)), (16, vl ((foldM (labC m c j) (numC m q d col) e i).2.2.2.2.2.2)), (7, vi ((foldM (labC m c j) (numC m q d col) e i).2.1)), (0, vr t), (1, vi j), (2, vi e), (3, vi col), (4, vi w), (5, vr q)]) rfl (Nat.le_of_ble_eq_true rfl) rfl ?_
                  refine V_ld (pc := 146) dX3_measured_146 (v := vi x76) rfl rfl ?_
                  refine V_i2l (pc := 148) dX3_measured_148 ?_
                  refine V_st (pc := 149) dX3_measured_149 (ls' := [(16, vl x76), (14, vl x76), (12, vl x126), (10, vl x76), (8, vl (((foldM (labC m c j) (numC m q d col) e i).2.2.1) + x76)), (20, vi x76), (6, vi (((foldM (labC m c j) (numC m q d col) e i).1) + 1)), (19, vi x43), (18, vi ((i : Nat) : Int)), (7, vi ((foldM (labC m c j) (numC m q d col) e i).2.1)), (0, vr t), (1, vi j), (2, vi e), (3, vi col), (4, vi w), (5, vr q)]) rfl (Nat.le_of_ble_eq_true rfl) rfl ?_
                  refine V_iinc (pc := 151) dX3_measured_151 (x := ((foldM (labC m c j) (numC m q d col) e i).2.1)) (ls' := [(7, vi (((foldM (labC m c j) (numC m q d col) e i).2.1) + 1)), (16, vl x76), (14, vl x76), (12, vl x126), (10, vl x76), (8, vl (((foldM (labC m c j) (numC m q d col) e i).2.2.1) + x76)), (20, vi x76), (6, vi (((foldM (labC m c j) (numC m q d col) e i).1) + 1)), (19, vi x43), (18, vi ((i : Nat) : Int)), (0, vr t), (1, vi j), (2, vi e), (3, vi col), (4, vi w), (5, vr q)]) rfl (by have hb := foldM_bd (L := e) (lab := labC m c j) hnum i; unfold I32; (try unfold I32 at *); omega) (Nat.le_of_ble_eq_true rfl) rfl ?_
                  refine V_iinc (pc := 154) dX3_measured_154 (x := ((i : Nat) : Int)) (ls' := [(18, vi (((i : Nat) : Int) + 1)), (7, vi (((foldM (labC m c j) (numC m q d col) e i).2.1) + 1)), (16, vl x76), (14, vl x76), (12, vl x126), (10, vl x76), (8, vl (((foldM (labC m c j) (numC m q d col) e i).2.2.1) + x76)), (20, vi x76), (6, vi (((foldM (labC m c j) (numC m q d col) e i).1) + 1)), (19, vi x43), (0, vr t), (1, vi j), (2, vi e), (3, vi col), (4, vi w), (5, vr q)]) rfl (by unfold I32 at *; omega) (Nat.le_of_ble_eq_true rfl) rfl ?_
                  refine V_goto (pc := 157) dX3_measured_157 (tgt := 32) rfl ?_
                  have ela : (mI m c (j * 32 + (i : Int)).toNat) = x43 := by omega
                  have enu : (if (i : Int) < mI m q 1 then mI m d ((i : Int) * 2 + col).toNat else 1000) = x76 := by omega
                  have e_ : foldM (labC m c j) (numC m q d col) e (i + 1) = (((foldM (labC m c j) (numC m q d col) e i).1) + 1, ((foldM (labC m c j) (numC m q d col) e i).2.1) + 1, ((foldM (labC m c j) (numC m q d col) e i).2.2.1) + x76, x76, x126, x76, x76) := by
                    show stepM (mI m c (j * 32 + (i : Int)).toNat) (if (i : Int) < mI m q 1 then mI m d ((i : Int) * 2 + col).toNat else 1000) e (foldM (labC m c j) (numC m q d col) e i) = _
                    rw [ela, enu]
                    unfold stepM
                    first
                      | (exfalso; omega)
                      | (rw [if_neg (by omega)])
                      | (rw [if_pos (by omega), if_pos (by omega)])
                      | (rw [if_pos (by omega), if_neg (by omega)]; simp only [Prod.mk.injEq]; repeat' apply And.intro
                         all_goals (first | trivial | omega))
                  have h_ := ih (i + 1) (by omega)
                  rw [e_] at h_
                  refine V_ls (ls' := [(18, vi (((i : Nat) : Int) + 1)), (16, vl x76), (14, vl x76), (12, vl x126), (10, vl x76), (8, vl (((foldM (labC m c j) (numC m q d col) e i).2.2.1) + x76)), (7, vi (((foldM (labC m c j) (numC m q d col) e i).2.1) + 1)), (6, vi (((foldM (labC m c j) (numC m q d col) e i).1) + 1)), (0, vr t), (1, vi j), (2, vi e), (3, vi col), (4, vi w), (5, vr q)]) (by intro q_ h_; simp only [List.mem_cons, List.not_mem_nil, or_false] at h_ ⊢; rcases h_ with rfl | rfl | rfl | rfl | rfl | rfl | rfl | rfl | rfl | rfl | rfl | rfl | rfl | rfl <;> simp) ?_
                  exact h_
            · skip
              refine V_goto (pc := 89) dX3_measured_89 (tgt := 154) rfl ?_
              refine V_iinc (pc := 154) dX3_measured_154 (x := ((i : Nat) : Int)) (ls' := [(18, vi (((i : Nat) : Int) + 1)), (20, vi x76), (6, vi (((foldM (labC m c j) (numC m q d col) e i).1) + 1)), (19, vi x43), (16, vl ((foldM (labC m c j) (numC m q d col) e i).2.2.2.2.2.2)), (14, vl ((foldM (labC m c j) (numC m q d col) e i).2.2.2.2.2.1)), (12, vl ((foldM (labC m c j) (numC m q d col) e i).2.2.2.2.1)), (10, vl ((foldM (labC m c j) (numC m q d col) e i).2.2.2.1)), (8, vl ((foldM (labC m c j) (numC m q d col) e i).2.2.1)), (7, vi ((foldM (labC m c j) (numC m q d col) e i).2.1)), (0, vr t), (1, vi j), (2, vi e), (3, vi col), (4, vi w), (5, vr q)]) rfl (by unfold I32 at *; omega) (Nat.le_of_ble_eq_true rfl) rfl ?_
              refine V_goto (pc := 157) dX3_measured_157 (tgt := 32) rfl ?_
              have ela : (mI m c (j * 32 + (i : Int)).toNat) = x43 := by omega
              have enu : (if (i : Int) < mI m q 1 then mI m d ((i : Int) * 2 + col).toNat else 1000) = x76 := by omega
              have e_ : foldM (labC m c j) (numC m q d col) e (i + 1) = (((foldM (labC m c j) (numC m q d col) e i).1) + 1, (foldM (labC m c j) (numC m q d col) e i).2.1, (foldM (labC m c j) (numC m q d col) e i).2.2.1, (foldM (labC m c j) (numC m q d col) e i).2.2.2.1, (foldM (labC m c j) (numC m q d col) e i).2.2.2.2.1, (foldM (labC m c j) (numC m q d col) e i).2.2.2.2.2.1, (foldM (labC m c j) (numC m q d col) e i).2.2.2.2.2.2) := by
                show stepM (mI m c (j * 32 + (i : Int)).toNat) (if (i : Int) < mI m q 1 then mI m d ((i : Int) * 2 + col).toNat else 1000) e (foldM (labC m c j) (numC m q d col) e i) = _
                rw [ela, enu]
                unfold stepM
                first
                  | (exfalso; omega)
                  | (rw [if_neg (by omega)])
                  | (rw [if_pos (by omega), if_pos (by omega)])
                  | (rw [if_pos (by omega), if_neg (by omega)]; simp only [Prod.mk.injEq]; repeat' apply And.intro
                     all_goals (first | trivial | omega))
              have h_ := ih (i + 1) (by omega)
              rw [e_] at h_
              refine V_ls (ls' := [(18, vi (((i : Nat) : Int) + 1)), (16, vl ((foldM (labC m c j) (numC m q d col) e i).2.2.2.2.2.2)), (14, vl ((foldM (labC m c j) (numC m q d col) e i).2.2.2.2.2.1)), (12, vl ((foldM (labC m c j) (numC m q d col) e i).2.2.2.2.1)), (10, vl ((foldM (labC m c j) (numC m q d col) e i).2.2.2.1)), (8, vl ((foldM (labC m c j) (numC m q d col) e i).2.2.1)), (7, vi ((foldM (labC m c j) (numC m q d col) e i).2.1)), (6, vi (((foldM (labC m c j) (numC m q d col) e i).1) + 1)), (0, vr t), (1, vi j), (2, vi e), (3, vi col), (4, vi w), (5, vr q)]) (by intro q_ h_; simp only [List.mem_cons, List.not_mem_nil, or_false] at h_ ⊢; rcases h_ with rfl | rfl | rfl | rfl | rfl | rfl | rfl | rfl | rfl | rfl | rfl | rfl | rfl | rfl <;> simp) ?_
              exact h_
          · skip
            refine V_goto (pc := 65) dX3_measured_65 (tgt := 154) rfl ?_
            refine V_iinc (pc := 154) dX3_measured_154 (x := ((i : Nat) : Int)) (ls' := [(18, vi (((i : Nat) : Int) + 1)), (19, vi x43), (16, vl ((foldM (labC m c j) (numC m q d col) e i).2.2.2.2.2.2)), (14, vl ((foldM (labC m c j) (numC m q d col) e i).2.2.2.2.2.1)), (12, vl ((foldM (labC m c j) (numC m q d col) e i).2.2.2.2.1)), (10, vl ((foldM (labC m c j) (numC m q d col) e i).2.2.2.1)), (8, vl ((foldM (labC m c j) (numC m q d col) e i).2.2.1)), (7, vi ((foldM (labC m c j) (numC m q d col) e i).2.1)), (6, vi ((foldM (labC m c j) (numC m q d col) e i).1)), (0, vr t), (1, vi j), (2, vi e), (3, vi col), (4, vi w), (5, vr q)]) rfl (by unfold I32 at *; omega) (Nat.le_of_ble_eq_true rfl) rfl ?_
            refine V_goto (pc := 157) dX3_measured_157 (tgt := 32) rfl ?_
            have ela : (mI m c (j * 32 + (i : Int)).toNat) = x43 := by omega
            have e_ : foldM (labC m c j) (numC m q d col) e (i + 1) = ((foldM (labC m c j) (numC m q d col) e i).1, (foldM (labC m c j) (numC m q d col) e i).2.1, (foldM (labC m c j) (numC m q d col) e i).2.2.1, (foldM (labC m c j) (numC m q d col) e i).2.2.2.1, (foldM (labC m c j) (numC m q d col) e i).2.2.2.2.1, (foldM (labC m c j) (numC m q d col) e i).2.2.2.2.2.1, (foldM (labC m c j) (numC m q d col) e i).2.2.2.2.2.2) := by
              show stepM (mI m c (j * 32 + (i : Int)).toNat) (if (i : Int) < mI m q 1 then mI m d ((i : Int) * 2 + col).toNat else 1000) e (foldM (labC m c j) (numC m q d col) e i) = _
              rw [ela]
              unfold stepM
              first
                | (exfalso; omega)
                | (rw [if_neg (by omega)])
                | (rw [if_pos (by omega), if_pos (by omega)])
                | (rw [if_pos (by omega), if_neg (by omega)]; simp only [Prod.mk.injEq]; repeat' apply And.intro
                   all_goals (first | trivial | omega))
            have h_ := ih (i + 1) (by omega)
            rw [e_] at h_
            refine V_ls (ls' := [(18, vi (((i : Nat) : Int) + 1)), (16, vl ((foldM (labC m c j) (numC m q d col) e i).2.2.2.2.2.2)), (14, vl ((foldM (labC m c j) (numC m q d col) e i).2.2.2.2.2.1)), (12, vl ((foldM (labC m c j) (numC m q d col) e i).2.2.2.2.1)), (10, vl ((foldM (labC m c j) (numC m q d col) e i).2.2.2.1)), (8, vl ((foldM (labC m c j) (numC m q d col) e i).2.2.1)), (7, vi ((foldM (labC m c j) (numC m q d col) e i).2.1)), (6, vi ((foldM (labC m c j) (numC m q d col) e i).1)), (0, vr t), (1, vi j), (2, vi e), (3, vi col), (4, vi w), (5, vr q)]) (by intro q_ h_; simp only [List.mem_cons, List.not_mem_nil, or_false] at h_ ⊢; rcases h_ with rfl | rfl | rfl | rfl | rfl | rfl | rfl | rfl | rfl | rfl | rfl | rfl | rfl | rfl <;> simp) ?_
            exact h_

set_option maxHeartbeats 4000000 in
theorem c_measured  (m : Mem) (t : Nat) (j : Int) (e : Int) (col : Int) (w : Int) (q : Nat) (c : Nat) (d : Nat)  (T_t : mT m t = (3, 4)) (R_t_2 : mR m t 2 = some c) (T_c : mT m c = (20, 1056)) (T_q : mT m q = (8, 2)) (R_q_0 : mR m q 0 = some d) (T_d : mT m d = (20, 64)) (hj : 0 ≤ j ∧ j < mI m t 3 ∧ j < 33) (hz : mI m q 1 ≤ 32) (hcol : 0 ≤ col ∧ col < 2) (hnum : ∀ r, -999 ≤ numC m q d col r ∧ numC m q d col r ≤ 1000) (hw : 0 ≤ w ∧ w ≤ 6) : Ct μX3_measured 2 [vr t, vi j, vi e, vi col, vi w, vr q] m (rl fun x_ m' => (x_ = measM (foldM (labC m c j) (numC m q d col) e 32) w) ∧ m = m') := by
  refine Ct_of_V rfl (by decide) rfl (Nat.le_of_ble_eq_true rfl) ?_
  show V μX3_measured 2 m _ 0 [(0, vr t), (1, vi j), (2, vi e), (3, vi col), (4, vi w), (5, vr q)] [] m
  refine V_rg (k := 1) (x := j) rfl fun r_j => ?_
  refine V_rg (k := 2) (x := e) rfl fun r_e => ?_
  refine V_rg (k := 3) (x := col) rfl fun r_col => ?_
  refine V_rg (k := 4) (x := w) rfl fun r_w => ?_
  refine V_iconst (pc := 0) dX3_measured_0 (by unfold I32; omega) ?_
  refine V_st (pc := 1) dX3_measured_1 (ls' := [(6, vi 0), (0, vr t), (1, vi j), (2, vi e), (3, vi col), (4, vi w), (5, vr q)]) rfl (Nat.le_of_ble_eq_true rfl) rfl ?_
  refine V_iconst (pc := 3) dX3_measured_3 (by unfold I32; omega) ?_
  refine V_st (pc := 4) dX3_measured_4 (ls' := [(7, vi 0), (6, vi 0), (0, vr t), (1, vi j), (2, vi e), (3, vi col), (4, vi w), (5, vr q)]) rfl (Nat.le_of_ble_eq_true rfl) rfl ?_
  refine V_lconst (pc := 6) dX3_measured_6 (x := 0) (by unfold I64; omega) (by decide) ?_
  refine V_st (pc := 7) dX3_measured_7 (ls' := [(8, vl 0), (7, vi 0), (6, vi 0), (0, vr t), (1, vi j), (2, vi e), (3, vi col), (4, vi w), (5, vr q)]) rfl (Nat.le_of_ble_eq_true rfl) rfl ?_
  refine V_ldc2 (pc := 9) dX3_measured_9 (x := (-9223372036854775808)) kl_RX3_45 (by unfold I64; omega) rfl ?_
  refine V_st (pc := 12) dX3_measured_12 (ls' := [(10, vl (-9223372036854775808)), (8, vl 0), (7, vi 0), (6, vi 0), (0, vr t), (1, vi j), (2, vi e), (3, vi col), (4, vi w), (5, vr q)]) rfl (Nat.le_of_ble_eq_true rfl) rfl ?_
  refine V_ldc2 (pc := 14) dX3_measured_14 (x := (-9223372036854775808)) kl_RX3_45 (by unfold I64; omega) rfl ?_
  refine V_st (pc := 17) dX3_measured_17 (ls' := [(12, vl (-9223372036854775808)), (10, vl (-9223372036854775808)), (8, vl 0), (7, vi 0), (6, vi 0), (0, vr t), (1, vi j), (2, vi e), (3, vi col), (4, vi w), (5, vr q)]) rfl (Nat.le_of_ble_eq_true rfl) rfl ?_
  refine V_ldc2 (pc := 19) dX3_measured_19 (x := (-9223372036854775808)) kl_RX3_45 (by unfold I64; omega) rfl ?_
  refine V_st (pc := 22) dX3_measured_22 (ls' := [(14, vl (-9223372036854775808)), (12, vl (-9223372036854775808)), (10, vl (-9223372036854775808)), (8, vl 0), (7, vi 0), (6, vi 0), (0, vr t), (1, vi j), (2, vi e), (3, vi col), (4, vi w), (5, vr q)]) rfl (Nat.le_of_ble_eq_true rfl) rfl ?_
  refine V_ldc2 (pc := 24) dX3_measured_24 (x := (-9223372036854775808)) kl_RX3_45 (by unfold I64; omega) rfl ?_
  refine V_st (pc := 27) dX3_measured_27 (ls' := [(16, vl (-9223372036854775808)), (14, vl (-9223372036854775808)), (12, vl (-9223372036854775808)), (10, vl (-9223372036854775808)), (8, vl 0), (7, vi 0), (6, vi 0), (0, vr t), (1, vi j), (2, vi e), (3, vi col), (4, vi w), (5, vr q)]) rfl (Nat.le_of_ble_eq_true rfl) rfl ?_
  refine V_iconst (pc := 29) dX3_measured_29 (by unfold I32; omega) ?_
  refine V_st (pc := 30) dX3_measured_30 (ls' := [(18, vi 0), (16, vl (-9223372036854775808)), (14, vl (-9223372036854775808)), (12, vl (-9223372036854775808)), (10, vl (-9223372036854775808)), (8, vl 0), (7, vi 0), (6, vi 0), (0, vr t), (1, vi j), (2, vi e), (3, vi col), (4, vi w), (5, vr q)]) rfl (Nat.le_of_ble_eq_true rfl) rfl ?_
  skip
  refine L_measured (F := 0) (m := m) (t := t) (c := c) (q := q) (d := d) (j := j) (e := e) (col := col) (w := w) T_t R_t_2 T_c T_q R_q_0 T_d hj hz hcol hnum ?_ 32 0 (by omega)
  have hb := foldM_bd (L := e) (lab := labC m c j) hnum 32
  refine V_ld (pc := 160) dX3_measured_160 (v := vi w) rfl rfl ?_
  by_cases h162_0 : w = 0
  · skip
    refine V_tsIn (pc := 162) dX3_measured_162 (cx := 0) (off := 38) (tgt := 200) h162_0 (by omega) rfl rfl ?_
    refine V_ld (pc := 200) dX3_measured_200 (v := vi ((foldM (labC m c j) (numC m q d col) e 32).1)) rfl rfl ?_
    refine V_i2l (pc := 202) dX3_measured_202 ?_
    refine V_retl (pc := 203) dX3_measured_203 trivial ?_
    exact ⟨by unfold measM; omega, rfl⟩
  by_cases h162_1 : w = 1
  · skip
    refine V_tsIn (pc := 162) dX3_measured_162 (cx := 1) (off := 42) (tgt := 204) h162_1 (by omega) rfl rfl ?_
    refine V_ld (pc := 204) dX3_measured_204 (v := vl ((foldM (labC m c j) (numC m q d col) e 32).2.2.1)) rfl rfl ?_
    refine V_retl (pc := 206) dX3_measured_206 trivial ?_
    exact ⟨by unfold measM; omega, rfl⟩
  by_cases h162_2 : w = 2
  · skip
    refine V_tsIn (pc := 162) dX3_measured_162 (cx := 2) (off := 45) (tgt := 207) h162_2 (by omega) rfl rfl ?_
    refine V_ld (pc := 207) dX3_measured_207 (v := vl ((foldM (labC m c j) (numC m q d col) e 32).2.2.2.1)) rfl rfl ?_
    refine V_retl (pc := 209) dX3_measured_209 trivial ?_
    exact ⟨by unfold measM; omega, rfl⟩
  by_cases h162_3 : w = 3
  · skip
    refine V_tsIn (pc := 162) dX3_measured_162 (cx := 3) (off := 48) (tgt := 210) h162_3 (by omega) rfl rfl ?_
    refine V_ld (pc := 210) dX3_measured_210 (v := vl ((foldM (labC m c j) (numC m q d col) e 32).2.2.2.2.1)) rfl rfl ?_
    refine V_retl (pc := 212) dX3_measured_212 trivial ?_
    exact ⟨by unfold measM; omega, rfl⟩
  by_cases h162_4 : w = 4
  · skip
    refine V_tsIn (pc := 162) dX3_measured_162 (cx := 4) (off := 51) (tgt := 213) h162_4 (by omega) rfl rfl ?_
    refine V_ld (pc := 213) dX3_measured_213 (v := vl ((foldM (labC m c j) (numC m q d col) e 32).2.2.2.2.2.1)) rfl rfl ?_
    refine V_retl (pc := 215) dX3_measured_215 trivial ?_
    exact ⟨by unfold measM; omega, rfl⟩
  by_cases h162_5 : w = 5
  · skip
    refine V_tsIn (pc := 162) dX3_measured_162 (cx := 5) (off := 54) (tgt := 216) h162_5 (by omega) rfl rfl ?_
    refine V_ld (pc := 216) dX3_measured_216 (v := vl ((foldM (labC m c j) (numC m q d col) e 32).2.2.2.2.2.2)) rfl rfl ?_
    refine V_retl (pc := 218) dX3_measured_218 trivial ?_
    exact ⟨by unfold measM; omega, rfl⟩
  refine V_tsOut (pc := 162) dX3_measured_162 (tgt := 219) (by omega) rfl ?_
  refine V_ld (pc := 219) dX3_measured_219 (v := vi ((foldM (labC m c j) (numC m q d col) e 32).2.1)) rfl rfl ?_
  refine V_if_ne (pc := 221) dX3_measured_221 (tgt := 230) rfl (fun h221 => ?_) (fun h221 => ?_)
  · skip
    refine V_ld (pc := 230) dX3_measured_230 (v := vl ((foldM (labC m c j) (numC m q d col) e 32).2.2.1)) rfl rfl ?_
    refine V_ld (pc := 232) dX3_measured_232 (v := vi ((foldM (labC m c j) (numC m q d col) e 32).2.1)) rfl rfl ?_
    refine V_i2l (pc := 234) dX3_measured_234 ?_
    refine V_callS (pc := 235) dX3_measured_235 (F' := 0) (As := [vl ((foldM (labC m c j) (numC m q d col) e 32).2.2.1), vl ((foldM (labC m c j) (numC m q d col) e 32).2.1)]) (st := []) cw_RX3_61 rfl rfl (Nat.le_of_ble_eq_true rfl) (by omega) (j_floorDiv  m ((foldM (labC m c j) (numC m q d col) e 32).2.2.1) ((foldM (labC m c j) (numC m q d col) e 32).2.1)   (by omega)) ?_
    rintro _ _ ⟨x235, rfl, hx235, rfl⟩ ok235 le235
    refine V_retl (pc := 238) dX3_measured_238 trivial ?_
    exact ⟨by unfold measM; omega, rfl⟩
  · skip
    refine V_ldc2 (pc := 224) dX3_measured_224 (x := (-9223372036854775808)) kl_RX3_45 (by unfold I64; omega) rfl ?_
    refine V_goto (pc := 227) dX3_measured_227 (tgt := 238) rfl ?_
    refine V_retl (pc := 238) dX3_measured_238 trivial ?_
    exact ⟨by unfold measM; omega, rfl⟩

def covF (f : Nat → Int) : Nat → Int
  | 0 => 0
  | n + 1 => if 0 ≤ f n then covF f n + 1 else covF f n
theorem covF_bd (f : Nat → Int) : ∀ n : Nat, 0 ≤ covF f n ∧ covF f n ≤ n := by
  intro n
  induction n with
  | zero => simp [covF]
  | succ n ih =>
    unfold covF
    split <;> omega
def bitsF (f : Nat → Int) : Nat → Int
  | 0 => 0
  | n + 1 => if 0 ≤ f n then or32 (bitsF f n) (shl32 1 (f n)) else bitsF f n

set_option maxHeartbeats 4000000 in
theorem L_covering {F : Nat} {m0 m : Mem} {post : Option AV → Mem → Prop} {t c n : Nat} {r : Int} (T_t : mT m t = (3, 4)) (R_t_2 : mR m t 2 = some c) (T_c : mT m c = (20, 1056)) (hn : (n : Int) = mI m t 3) (hn3 : n ≤ 33) (hr : 0 ≤ r ∧ r < 32) (kx : V μX3_covering (F + 2) m0 post 30 [(3, vi ((n : Nat) : Int)), (2, vi (covF (fun j_ : Nat => mI m c ((j_ : Int) * 32 + r).toNat) n)), (0, vr t), (1, vi r)] [] m) : ∀ (dd i : Nat), dd + i = n → V μX3_covering (F + 2) m0 post 4 [(3, vi ((i : Nat) : Int)), (2, vi (covF (fun j_ : Nat => mI m c ((j_ : Int) * 32 + r).toNat) i)), (0, vr t), (1, vi r)] [] m := by
  intro dd
  induction dd with
  | zero =>
    intro i hi
    obtain rfl : n = i := by omega
    have hb_ := covF_bd (fun j_ : Nat => mI m c ((j_ : Int) * 32 + r).toNat) n
    refine V_ld (pc := 4) dX3_covering_4 (v := vi ((n : Nat) : Int)) rfl rfl ?_
    refine V_ld (pc := 5) dX3_covering_5 (v := vr t) rfl rfl ?_
    refine V_getIv (pc := 6) dX3_covering_6 (v := mI m t 3) fw_RX3_21 rfl T_t rfl (fun g6 => ?_)
    refine V_icmp_ge (pc := 9) dX3_covering_9 (tgt := 30) rfl (fun h9 => ?_) (fun h9 => ?_)
    · skip
      first | exact kx | (skip; exact kx) | (exfalso; omega)
    · skip
      exfalso; omega
  | succ dd ih =>
    intro i hi
    have hb_ := covF_bd (fun j_ : Nat => mI m c ((j_ : Int) * 32 + r).toNat) i
    refine V_ld (pc := 4) dX3_covering_4 (v := vi ((i : Nat) : Int)) rfl rfl ?_
    refine V_ld (pc := 5) dX3_covering_5 (v := vr t) rfl rfl ?_
    refine V_getIv (pc := 6) dX3_covering_6 (v := mI m t 3) fw_RX3_21 rfl T_t rfl (fun g6 => ?_)
    refine V_icmp_ge (pc := 9) dX3_covering_9 (tgt := 30) rfl (fun h9 => ?_) (fun h9 => ?_)
    · skip
      exfalso; omega
    · skip
      refine V_ld (pc := 12) dX3_covering_12 (v := vr t) rfl rfl ?_
      refine V_ld (pc := 13) dX3_covering_13 (v := vi ((i : Nat) : Int)) rfl rfl ?_
      refine V_ld (pc := 14) dX3_covering_14 (v := vi r) rfl rfl ?_
      refine V_callV (pc := 15) dX3_covering_15 (F' := 1) (As := [vi ((i : Nat) : Int), vi r]) (st := []) cw_RX3_41 rfl rfl T_t (by decide) (Nat.le_of_ble_eq_true rfl) (by omega) (c_letterOf  m t ((i : Nat) : Int) r c  T_t R_t_2 T_c) ?_
      rintro _ _ ⟨x15, rfl, hx15, rfl⟩ ok15 le15
      refine V_if_lt (pc := 18) dX3_covering_18 (tgt := 24) rfl (fun h18 => ?_) (fun h18 => ?_)
      · skip
        refine V_iinc (pc := 24) dX3_covering_24 (x := ((i : Nat) : Int)) (ls' := [(3, vi (((i : Nat) : Int) + 1)), (2, vi (covF (fun j_ : Nat => mI m c ((j_ : Int) * 32 + r).toNat) i)), (0, vr t), (1, vi r)]) rfl (by unfold I32 at *; omega) (Nat.le_of_ble_eq_true rfl) rfl ?_
        refine V_goto (pc := 27) dX3_covering_27 (tgt := 4) rfl ?_
        have ela : (mI m c ((i : Int) * 32 + r).toNat) = x15 := by omega
        have e_ : covF (fun j_ : Nat => mI m c ((j_ : Int) * 32 + r).toNat) (i + 1) = covF (fun j_ : Nat => mI m c ((j_ : Int) * 32 + r).toNat) i := by
          show (if 0 ≤ (mI m c ((i : Int) * 32 + r).toNat) then covF (fun j_ : Nat => mI m c ((j_ : Int) * 32 + r).toNat) i + 1 else covF (fun j_ : Nat => mI m c ((j_ : Int) * 32 + r).toNat) i) = _
          rw [ela]
          first
            | (exfalso; omega)
            | exact if_pos (by omega)
            | exact if_neg (by omega)
        have h_ := ih (i + 1) (by omega)
        rw [e_] at h_
        skip
        exact h_
      · skip
        refine V_iinc (pc := 21) dX3_covering_21 (x := (covF (fun j_ : Nat => mI m c ((j_ : Int) * 32 + r).toNat) i)) (ls' := [(2, vi ((covF (fun j_ : Nat => mI m c ((j_ : Int) * 32 + r).toNat) i) + 1)), (3, vi ((i : Nat) : Int)), (0, vr t), (1, vi r)]) rfl (by unfold I32 at *; omega) (Nat.le_of_ble_eq_true rfl) rfl ?_
        refine V_iinc (pc := 24) dX3_covering_24 (x := ((i : Nat) : Int)) (ls' := [(3, vi (((i : Nat) : Int) + 1)), (2, vi ((covF (fun j_ : Nat => mI m c ((j_ : Int) * 32 + r).toNat) i) + 1)), (0, vr t), (1, vi r)]) rfl (by unfold I32 at *; omega) (Nat.le_of_ble_eq_true rfl) rfl ?_
        refine V_goto (pc := 27) dX3_covering_27 (tgt := 4) rfl ?_
        have ela : (mI m c ((i : Int) * 32 + r).toNat) = x15 := by omega
        have e_ : covF (fun j_ : Nat => mI m c ((j_ : Int) * 32 + r).toNat) (i + 1) = (covF (fun j_ : Nat => mI m c ((j_ : Int) * 32 + r).toNat) i) + 1 := by
          show (if 0 ≤ (mI m c ((i : Int) * 32 + r).toNat) then covF (fun j_ : Nat => mI m c ((j_ : Int) * 32 + r).toNat) i + 1 else covF (fun j_ : Nat => mI m c ((j_ : Int) * 32 + r).toNat) i) = _
          rw [ela]
          first
            | (exfalso; omega)
            | exact if_pos (by omega)
            | exact if_neg (by omega)
        have h_ := ih (i + 1) (by omega)
        rw [e_] at h_
        skip
        exact h_

set_option maxHeartbeats 4000000 in
theorem c_covering  (m : Mem) (t : Nat) (r : Int) (c : Nat)  (T_t : mT m t = (3, 4)) (R_t_2 : mR m t 2 = some c) (T_c : mT m c = (20, 1056)) (hn : 0 ≤ mI m t 3 ∧ mI m t 3 ≤ 33) (hr : 0 ≤ r ∧ r < 32) : Ct μX3_covering 2 [vr t, vi r] m (ri fun x_ m' => (x_ = covF (fun j_ : Nat => mI m c ((j_ : Int) * 32 + r).toNat) (mI m t 3).toNat) ∧ m = m') := by
  refine Ct_of_V rfl (by decide) rfl (Nat.le_of_ble_eq_true rfl) ?_
  show V μX3_covering 2 m _ 0 [(0, vr t), (1, vi r)] [] m
  refine V_rg (k := 1) (x := r) rfl fun r_r => ?_
  refine V_iconst (pc := 0) dX3_covering_0 (by unfold I32; omega) ?_
  refine V_st (pc := 1) dX3_covering_1 (ls' := [(2, vi 0), (0, vr t), (1, vi r)]) rfl (Nat.le_of_ble_eq_true rfl) rfl ?_
  refine V_iconst (pc := 2) dX3_covering_2 (by unfold I32; omega) ?_
  refine V_st (pc := 3) dX3_covering_3 (ls' := [(3, vi 0), (2, vi 0), (0, vr t), (1, vi r)]) rfl (Nat.le_of_ble_eq_true rfl) rfl ?_
  skip
  refine L_covering (F := 0) (m := m) (t := t) (c := c) (r := r) (n := (mI m t 3).toNat) T_t R_t_2 T_c (by omega) (by omega) hr ?_ (mI m t 3).toNat 0 (by omega)
  refine V_ld (pc := 30) dX3_covering_30 (v := vi (covF (fun j_ : Nat => mI m c ((j_ : Int) * 32 + r).toNat) ((mI m t 3).toNat))) rfl rfl ?_
  refine V_reti (pc := 31) dX3_covering_31 trivial ?_
  exact ⟨rfl, rfl⟩

set_option maxHeartbeats 4000000 in
theorem L_lettersOf {F : Nat} {m0 m : Mem} {post : Option AV → Mem → Prop} {t c : Nat} {j : Int} (T_t : mT m t = (3, 4)) (R_t_2 : mR m t 2 = some c) (T_c : mT m c = (20, 1056)) (hj : 0 ≤ j ∧ j < mI m t 3 ∧ j < 33) (kx : V μX3_lettersOf (F + 2) m0 post 36 [(3, vi ((32 : Nat) : Int)), (2, vi (bitsF (labC m c j) 32)), (0, vr t), (1, vi j)] [] m) : ∀ (dd i : Nat), dd + i = 32 → V μX3_lettersOf (F + 2) m0 post 4 [(3, vi ((i : Nat) : Int)), (2, vi (bitsF (labC m c j) i)), (0, vr t), (1, vi j)] [] m := by
  intro dd
  induction dd with
  | zero =>
    intro i hi
    obtain rfl : 32 = i := by omega
    refine V_ld (pc := 4) dX3_lettersOf_4 (v := vi ((32 : Nat) : Int)) rfl rfl ?_
    refine V_bipush (pc := 5) dX3_lettersOf_5 (by unfold I32; omega) (by decide) ?_
    refine V_icmp_ge (pc := 7) dX3_lettersOf_7 (tgt := 36) rfl (fun h7 => ?_) (fun h7 => ?_)
    · skip
      first | exact kx | (skip; exact kx) | (exfalso; omega)
    · skip
      exfalso; omega
  | succ dd ih =>
    intro i hi
    refine V_ld (pc := 4) dX3_lettersOf_4 (v := vi ((i : Nat) : Int)) rfl rfl ?_
    refine V_bipush (pc := 5) dX3_lettersOf_5 (by unfold I32; omega) (by decide) ?_
    refine V_icmp_ge (pc := 7) dX3_lettersOf_7 (tgt := 36) rfl (fun h7 => ?_) (fun h7 => ?_)
    · skip
      exfalso; omega
    · skip
      refine V_ld (pc := 10) dX3_lettersOf_10 (v := vr t) rfl rfl ?_
      refine V_ld (pc := 11) dX3_lettersOf_11 (v := vi j) rfl rfl ?_
      refine V_ld (pc := 12) dX3_lettersOf_12 (v := vi ((i : Nat) : Int)) rfl rfl ?_
      refine V_callV (pc := 13) dX3_lettersOf_13 (F' := 1) (As := [vi j, vi ((i : Nat) : Int)]) (st := []) cw_RX3_41 rfl rfl T_t (by decide) (Nat.le_of_ble_eq_true rfl) (by omega) (c_letterOf  m t j ((i : Nat) : Int) c  T_t R_t_2 T_c) ?_
      rintro _ _ ⟨x13, rfl, hx13, rfl⟩ ok13 le13
      refine V_st (pc := 16) dX3_lettersOf_16 (ls' := [(4, vi x13), (3, vi ((i : Nat) : Int)), (2, vi (bitsF (labC m c j) i)), (0, vr t), (1, vi j)]) rfl (Nat.le_of_ble_eq_true rfl) rfl ?_
      refine V_ld (pc := 18) dX3_lettersOf_18 (v := vi x13) rfl rfl ?_
      refine V_if_lt (pc := 20) dX3_lettersOf_20 (tgt := 30) rfl (fun h20 => ?_) (fun h20 => ?_)
      · skip
        refine V_iinc (pc := 30) dX3_lettersOf_30 (x := ((i : Nat) : Int)) (ls' := [(3, vi (((i : Nat) : Int) + 1)), (4, vi x13), (2, vi (bitsF (labC m c j) i)), (0, vr t), (1, vi j)]) rfl (by unfold I32 at *; omega) (Nat.le_of_ble_eq_true rfl) rfl ?_
        refine V_goto (pc := 33) dX3_lettersOf_33 (tgt := 4) rfl ?_
        have ela : (mI m c (j * 32 + (i : Int)).toNat) = x13 := by omega
        have e_ : bitsF (labC m c j) (i + 1) = bitsF (labC m c j) i := by
          show (if 0 ≤ (mI m c (j * 32 + (i : Int)).toNat) then or32 (bitsF (labC m c j) i) (shl32 1 (mI m c (j * 32 + (i : Int)).toNat)) else bitsF (labC m c j) i) = _
          rw [ela]
          first
            | (exfalso; omega)
            | exact if_pos (by omega)
            | exact if_neg (by omega)
        have h_ := ih (i + 1) (by omega)
        rw [e_] at h_
        refine V_ls (ls' := [(3, vi (((i : Nat) : Int) + 1)), (2, vi (bitsF (labC m c j) i)), (0, vr t), (1, vi j)]) (by intro q_ h_; simp only [List.mem_cons, List.not_mem_nil, or_false] at h_ ⊢; rcases h_ with rfl | rfl | rfl | rfl <;> simp) ?_
        exact h_
      · skip
        refine V_ld (pc := 23) dX3_lettersOf_23 (v := vi (bitsF (labC m c j) i)) rfl rfl ?_
        refine V_iconst (pc := 24) dX3_lettersOf_24 (by unfold I32; omega) ?_
        refine V_ld (pc := 25) dX3_lettersOf_25 (v := vi x13) rfl rfl ?_
        refine V_ishl (pc := 27) dX3_lettersOf_27 ?_
        refine V_ior (pc := 28) dX3_lettersOf_28 ?_
        refine V_st (pc := 29) dX3_lettersOf_29 (ls' := [(2, vi (or32 (bitsF (labC m c j) i) (shl32 1 x13))), (4, vi x13), (3, vi ((i : Nat) : Int)), (0, vr t), (1, vi j)]) rfl (Nat.le_of_ble_eq_true rfl) rfl ?_
        refine V_iinc (pc := 30) dX3_lettersOf_30 (x := ((i : Nat) : Int)) (ls' := [(3, vi (((i : Nat) : Int) + 1)), (2, vi (or32 (bitsF (labC m c j) i) (shl32 1 x13))), (4, vi x13), (0, vr t), (1, vi j)]) rfl (by unfold I32 at *; omega) (Nat.le_of_ble_eq_true rfl) rfl ?_
        refine V_goto (pc := 33) dX3_lettersOf_33 (tgt := 4) rfl ?_
        have ela : (mI m c (j * 32 + (i : Int)).toNat) = x13 := by omega
        have e_ : bitsF (labC m c j) (i + 1) = or32 (bitsF (labC m c j) i) (shl32 1 x13) := by
          show (if 0 ≤ (mI m c (j * 32 + (i : Int)).toNat) then or32 (bitsF (labC m c j) i) (shl32 1 (mI m c (j * 32 + (i : Int)).toNat)) else bitsF (labC m c j) i) = _
          rw [ela]
          first
            | (exfalso; omega)
            | exact if_pos (by omega)
            | exact if_neg (by omega)
        have h_ := ih (i + 1) (by omega)
        rw [e_] at h_
        refine V_ls (ls' := [(3, vi (((i : Nat) : Int) + 1)), (2, vi (or32 (bitsF (labC m c j) i) (shl32 1 x13))), (0, vr t), (1, vi j)]) (by intro q_ h_; simp only [List.mem_cons, List.not_mem_nil, or_false] at h_ ⊢; rcases h_ with rfl | rfl | rfl | rfl <;> simp) ?_
        exact h_

set_option maxHeartbeats 4000000 in
theorem c_lettersOf  (m : Mem) (t : Nat) (j : Int) (c : Nat)  (T_t : mT m t = (3, 4)) (R_t_2 : mR m t 2 = some c) (T_c : mT m c = (20, 1056)) (hj : 0 ≤ j ∧ j < mI m t 3 ∧ j < 33) : Ct μX3_lettersOf 2 [vr t, vi j] m (ri fun x_ m' => (x_ = bitsF (labC m c j) 32) ∧ m = m') := by
  refine Ct_of_V rfl (by decide) rfl (Nat.le_of_ble_eq_true rfl) ?_
  show V μX3_lettersOf 2 m _ 0 [(0, vr t), (1, vi j)] [] m
  refine V_rg (k := 1) (x := j) rfl fun r_j => ?_
  refine V_iconst (pc := 0) dX3_lettersOf_0 (by unfold I32; omega) ?_
  refine V_st (pc := 1) dX3_lettersOf_1 (ls' := [(2, vi 0), (0, vr t), (1, vi j)]) rfl (Nat.le_of_ble_eq_true rfl) rfl ?_
  refine V_iconst (pc := 2) dX3_lettersOf_2 (by unfold I32; omega) ?_
  refine V_st (pc := 3) dX3_lettersOf_3 (ls' := [(3, vi 0), (2, vi 0), (0, vr t), (1, vi j)]) rfl (Nat.le_of_ble_eq_true rfl) rfl ?_
  skip
  refine L_lettersOf (F := 0) (m := m) (t := t) (c := c) (j := j) T_t R_t_2 T_c hj ?_ 32 0 (by omega)
  refine V_ld (pc := 36) dX3_lettersOf_36 (v := vi (bitsF (labC m c j) 32)) rfl rfl ?_
  refine V_reti (pc := 37) dX3_lettersOf_37 trivial ?_
  exact ⟨rfl, rfl⟩
