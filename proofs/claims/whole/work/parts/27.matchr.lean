/-! matches: the reference -/
def MatR (m : Mem) : Prop := 0 ≤ mI m 31 3336 ∧ mI m 31 3336 ≤ 33 ∧ ∀ j : Int, 0 ≤ j → j < mI m 31 3336 → 0 ≤ mI m 31 (3337 + 34 * j + 0).toNat ∧ 0 ≤ mI m 31 (3337 + 34 * j + 1).toNat ∧ mI m 31 (3337 + 34 * j + 0).toNat + mI m 31 (3337 + 34 * j + 1).toNat ≤ 32
def labR (m : Mem) (j r : Int) : Int := if 0 ≤ r - mI m 31 (3337 + 34 * j + 0).toNat ∧ r - mI m 31 (3337 + 34 * j + 0).toNat < mI m 31 (3337 + 34 * j + 1).toNat then mI m 31 (3337 + 34 * j + (2 + (r - mI m 31 (3337 + 34 * j + 0).toNat))).toNat else -5
def stepR (la nu L : Int) (S : MS) : MS := if 0 ≤ la ∧ (L = 26 ∨ la = L) then (if nu = 1000 then (S.1 + 1, S.2) else (S.1 + 1, S.2.1 + 1, S.2.2.1 + nu, (if S.2.1 = 0 then nu else if nu < S.2.2.2.1 then nu else S.2.2.2.1), (if S.2.1 = 0 then nu else if S.2.2.2.2.1 < nu then nu else S.2.2.2.2.1), (if S.2.1 = 0 then nu else S.2.2.2.2.2.1), nu)) else S
def foldR (lab num : Nat → Int) (L : Int) : Nat → MS
  | 0 => (0, 0, 0, 0, 0, 0, 0)
  | r + 1 => stepR (lab r) (num r) L (foldR lab num L r)
/-- the reference's fold is the class's, but that it has 0 where nothing is there -/
theorem foldR_M {lab num : Nat → Int} {L : Int} (h : ∀ r, -999 ≤ num r ∧ num r ≤ 1000) : ∀ r : Nat, (foldR lab num L r).1 = (foldM lab num L r).1 ∧ (foldR lab num L r).2.1 = (foldM lab num L r).2.1 ∧ (foldR lab num L r).2.2.1 = (foldM lab num L r).2.2.1 ∧ 0 ≤ (foldM lab num L r).2.1 ∧ ((foldM lab num L r).2.1 = 0 → (foldM lab num L r).2.2.1 = 0 ∧ (foldM lab num L r).2.2.2 = ((-9223372036854775808), (-9223372036854775808), (-9223372036854775808), (-9223372036854775808))) ∧ (0 < (foldM lab num L r).2.1 → (foldR lab num L r).2.2.2 = (foldM lab num L r).2.2.2) := by
  intro r
  induction r with
  | zero => simp [foldM, foldR]
  | succ r ih =>
    have hr := h r
    have e1 : foldM lab num L (r + 1) = stepM (lab r) (num r) L (foldM lab num L r) := rfl
    have e2 : foldR lab num L (r + 1) = stepR (lab r) (num r) L (foldR lab num L r) := rfl
    rw [e1, e2]
    generalize foldM lab num L r = S at ih ⊢
    generalize foldR lab num L r = T at ih ⊢
    obtain ⟨s1, s2, s3, s4, s5, s6, s7⟩ := S
    obtain ⟨t1, t2, t3, t4, t5, t6, t7⟩ := T
    simp only [Prod.mk.injEq] at ih
    obtain ⟨rfl, rfl, rfl, i4, i5, i6⟩ := ih
    unfold stepM stepR
    by_cases h1 : 0 ≤ lab r ∧ (L = 26 ∨ lab r = L)
    · rw [if_pos h1, if_pos h1]
      by_cases h2 : num r = 1000
      · rw [if_pos h2, if_pos h2]
        exact ⟨rfl, rfl, rfl, i4, fun e => ⟨(i5 e).1, by have := (i5 e).2; simp only [Prod.mk.injEq]; omega⟩, fun e => by have := i6 e; simp only [Prod.mk.injEq]; omega⟩
      · rw [if_neg h2, if_neg h2]
        refine ⟨rfl, rfl, rfl, by show 0 ≤ t2 + 1; omega, fun e => by have e : t2 + 1 = 0 := e; omega, fun _ => ?_⟩
        by_cases h3 : t2 = 0
        · obtain ⟨j1, j2⟩ := i5 h3
          simp only [Prod.mk.injEq]
          refine ⟨by simp [h3], ?_, by simp [h3], trivial⟩
          simp only [h3, if_true]
          omega
        · have := i6 (by omega)
          simp only [Prod.mk.injEq]
          simp only [h3, if_false]
          refine ⟨by omega, by omega, by omega, trivial⟩
    · rw [if_neg h1, if_neg h1]
      exact ⟨rfl, rfl, rfl, i4, fun e => ⟨(i5 e).1, by have := (i5 e).2; simp only [Prod.mk.injEq]; omega⟩, fun e => by have := i6 e; simp only [Prod.mk.injEq]; omega⟩

set_option maxHeartbeats 4000000 in
theorem r_labelled  (m : Mem) (j : Int) (r : Int)   (hL : Lay (mT m) (mR m)) (hM : MatR m) (hj : 0 ≤ j ∧ j < mI m 31 3336) (hr : -100 ≤ r ∧ r ≤ 100) : Ct μX11_labelled 1 [vr 30, vi j, vi r] m (ri fun x_ m' => (x_ = labR m j r) ∧ m = m') := by
  refine Ct_of_V rfl (by decide) rfl (Nat.le_of_ble_eq_true rfl) ?_
  show V μX11_labelled 1 m _ 0 [(0, vr 30), (1, vi j), (2, vi r)] [] m
  refine V_rg (k := 1) (x := j) rfl fun r_j => ?_
  refine V_rg (k := 2) (x := r) rfl fun r_r => ?_
  have hm := hM.2.2 j (by omega) (by omega)
  have hM1 := hM.2.1
  refine V_ld (pc := 0) dX11_labelled_0 (v := vi r) rfl rfl ?_
  refine V_ld (pc := 1) dX11_labelled_1 (v := vr 30) rfl rfl ?_
  refine V_ld (pc := 2) dX11_labelled_2 (v := vi j) rfl rfl ?_
  refine V_iconst (pc := 3) dX11_labelled_3 (by unfold I32; omega) ?_
  refine V_callV (pc := 4) dX11_labelled_4 (F' := 0) (As := [vi j, vi 0]) (st := [vi r]) cw_RX11_368 rfl rfl hL.t30 (by decide) (Nat.le_of_ble_eq_true rfl) (by omega) (r_matched  m j 0   (by first | assumption | omega) (by omega)) ?_
  rintro _ _ ⟨x4, rfl, hx4, rfl⟩ ok4 le4
  obtain rfl : x4 = mI m 31 ((3337 + 34 * j + 0).toNat) := hx4.trans rfl
  refine V_isub (pc := 7) dX11_labelled_7 (by unfold I32 at *; omega) ?_
  refine V_st (pc := 8) dX11_labelled_8 (ls' := [(3, vi (r - (mI m 31 ((3337 + 34 * j + 0).toNat)))), (0, vr 30), (1, vi j), (2, vi r)]) rfl (Nat.le_of_ble_eq_true rfl) rfl ?_
  refine V_ld (pc := 9) dX11_labelled_9 (v := vi (r - (mI m 31 ((3337 + 34 * j + 0).toNat)))) rfl rfl ?_
  refine V_i2l (pc := 10) dX11_labelled_10 ?_
  refine V_lconst (pc := 11) dX11_labelled_11 (x := 0) (by unfold I64; omega) (by decide) ?_
  refine V_ld (pc := 12) dX11_labelled_12 (v := vr 30) rfl rfl ?_
  refine V_ld (pc := 13) dX11_labelled_13 (v := vi j) rfl rfl ?_
  refine V_iconst (pc := 14) dX11_labelled_14 (by unfold I32; omega) ?_
  refine V_callV (pc := 15) dX11_labelled_15 (F' := 0) (As := [vi j, vi 1]) (st := [vl 0, vl (r - (mI m 31 ((3337 + 34 * j + 0).toNat)))]) cw_RX11_368 rfl rfl hL.t30 (by decide) (Nat.le_of_ble_eq_true rfl) (by omega) (r_matched  m j 1   (by first | assumption | omega) (by omega)) ?_
  rintro _ _ ⟨x15, rfl, hx15, rfl⟩ ok15 le15
  obtain rfl : x15 = mI m 31 ((3337 + 34 * j + 1).toNat) := hx15.trans rfl
  refine V_iconst (pc := 18) dX11_labelled_18 (by unfold I32; omega) ?_
  refine V_isub (pc := 19) dX11_labelled_19 (by unfold I32 at *; omega) ?_
  refine V_i2l (pc := 20) dX11_labelled_20 ?_
  refine V_callS (pc := 21) dX11_labelled_21 (F' := 0) (As := [vl (r - (mI m 31 ((3337 + 34 * j + 0).toNat))), vl 0, vl ((mI m 31 ((3337 + 34 * j + 1).toNat)) - 1)]) (st := []) cw_RX11_101 rfl rfl (Nat.le_of_ble_eq_true rfl) (by omega) (r_isIn  m (r - (mI m 31 ((3337 + 34 * j + 0).toNat))) 0 ((mI m 31 ((3337 + 34 * j + 1).toNat)) - 1)   ) ?_
  rintro _ _ ⟨x21, rfl, hx21, rfl⟩ ok21 le21
  refine V_if_eq (pc := 24) dX11_labelled_24 (tgt := 38) rfl (fun h24 => ?_) (fun h24 => ?_)
  · skip
    refine V_bipush (pc := 38) dX11_labelled_38 (by unfold I32; omega) (by decide) ?_
    refine V_reti (pc := 40) dX11_labelled_40 trivial ?_
    exact ⟨by unfold labR; omega, rfl⟩
  · skip
    refine V_ld (pc := 27) dX11_labelled_27 (v := vr 30) rfl rfl ?_
    refine V_ld (pc := 28) dX11_labelled_28 (v := vi j) rfl rfl ?_
    refine V_iconst (pc := 29) dX11_labelled_29 (by unfold I32; omega) ?_
    refine V_ld (pc := 30) dX11_labelled_30 (v := vi (r - (mI m 31 ((3337 + 34 * j + 0).toNat)))) rfl rfl ?_
    refine V_iadd (pc := 31) dX11_labelled_31 (by unfold I32 at *; omega) ?_
    refine V_callV (pc := 32) dX11_labelled_32 (F' := 0) (As := [vi j, vi (2 + (r - (mI m 31 ((3337 + 34 * j + 0).toNat))))]) (st := []) cw_RX11_368 rfl rfl hL.t30 (by decide) (Nat.le_of_ble_eq_true rfl) (by omega) (r_matched  m j (2 + (r - (mI m 31 ((3337 + 34 * j + 0).toNat))))   (by first | assumption | omega) (by omega)) ?_
    rintro _ _ ⟨x32, rfl, hx32, rfl⟩ ok32 le32
    obtain rfl : x32 = mI m 31 ((3337 + 34 * j + (2 + (r - (mI m 31 ((3337 + 34 * j + 0).toNat))))).toNat) := hx32.trans rfl
    refine V_goto (pc := 35) dX11_labelled_35 (tgt := 40) rfl ?_
    refine V_reti (pc := 40) dX11_labelled_40 trivial ?_
    exact ⟨by unfold labR; omega, rfl⟩

set_option maxHeartbeats 4000000 in
theorem r_label  (m : Mem) (j : Int) (r : Int)   (hL : Lay (mT m) (mR m)) (hM : MatR m) (hz : 0 ≤ mI m 31 64 ∧ mI m 31 64 ≤ 32) : Ct μX11_label 2 [vr 30, vi j, vi r] m (ri fun x_ m' => (x_ = if (0 ≤ j ∧ j < mI m 31 3336) ∧ 0 ≤ r ∧ r < mI m 31 64 then labR m j r else -1) ∧ m = m') := by
  refine Ct_of_V rfl (by decide) rfl (Nat.le_of_ble_eq_true rfl) ?_
  show V μX11_label 2 m _ 0 [(0, vr 30), (1, vi j), (2, vi r)] [] m
  refine V_rg (k := 1) (x := j) rfl fun r_j => ?_
  refine V_rg (k := 2) (x := r) rfl fun r_r => ?_
  refine V_ld (pc := 0) dX11_label_0 (v := vr 30) rfl rfl ?_
  refine V_ld (pc := 1) dX11_label_1 (v := vi j) rfl rfl ?_
  refine V_callV (pc := 2) dX11_label_2 (F' := 1) (As := [vi j]) (st := []) cw_RX11_371 rfl rfl hL.t30 (by decide) (Nat.le_of_ble_eq_true rfl) (by omega) (r_isMatch  m j   (by first | assumption | omega) ⟨hM.1, hM.2.1⟩) ?_
  rintro _ _ ⟨x2, rfl, hx2, rfl⟩ ok2 le2
  refine V_if_eq (pc := 5) dX11_label_5 (tgt := 25) rfl (fun h5 => ?_) (fun h5 => ?_)
  · skip
    refine V_iconst (pc := 25) dX11_label_25 (by unfold I32; omega) ?_
    refine V_reti (pc := 26) dX11_label_26 trivial ?_
    exact ⟨by omega, rfl⟩
  · skip
    refine V_ld (pc := 8) dX11_label_8 (v := vr 30) rfl rfl ?_
    refine V_ld (pc := 9) dX11_label_9 (v := vi r) rfl rfl ?_
    refine V_callV (pc := 10) dX11_label_10 (F' := 1) (As := [vi r]) (st := []) cw_RX11_113 rfl rfl hL.t30 (by decide) (Nat.le_of_ble_eq_true rfl) (by omega) (r_isRow  m r   (by first | assumption | omega) (by first | assumption | omega)) ?_
    rintro _ _ ⟨x10, rfl, hx10, rfl⟩ ok10 le10
    refine V_if_eq (pc := 13) dX11_label_13 (tgt := 25) rfl (fun h13 => ?_) (fun h13 => ?_)
    · skip
      refine V_iconst (pc := 25) dX11_label_25 (by unfold I32; omega) ?_
      refine V_reti (pc := 26) dX11_label_26 trivial ?_
      exact ⟨by omega, rfl⟩
    · skip
      refine V_ld (pc := 16) dX11_label_16 (v := vr 30) rfl rfl ?_
      refine V_ld (pc := 17) dX11_label_17 (v := vi j) rfl rfl ?_
      refine V_ld (pc := 18) dX11_label_18 (v := vi r) rfl rfl ?_
      refine V_callV (pc := 19) dX11_label_19 (F' := 1) (As := [vi j, vi r]) (st := []) cw_RX11_374 rfl rfl hL.t30 (by decide) (Nat.le_of_ble_eq_true rfl) (by omega) (r_labelled  m j r   (by first | assumption | omega) (by first | assumption | omega) (by omega) (by first | assumption | omega)) ?_
      rintro _ _ ⟨x19, rfl, hx19, rfl⟩ ok19 le19
      refine V_goto (pc := 22) dX11_label_22 (tgt := 26) rfl ?_
      refine V_reti (pc := 26) dX11_label_26 trivial ?_
      exact ⟨by omega, rfl⟩

set_option maxHeartbeats 4000000 in
theorem L_in {F : Nat} {m0 m : Mem} {post : Option AV → Mem → Prop} {n : Nat} {r : Int} (hL : Lay (mT m) (mR m)) (hM : MatR m) (hn : (n : Int) = mI m 31 3336) (hr : -100 ≤ r ∧ r ≤ 100) (kx : V μX11_in (F + 2) m0 post 39 [(3, vi ((n : Nat) : Int)), (2, vi (covF (fun j_ : Nat => labR m (j_ : Int) r) n)), (0, vr 30), (1, vi r)] [] m) : ∀ (dd i : Nat), dd + i = n → V μX11_in (F + 2) m0 post 4 [(3, vi ((i : Nat) : Int)), (2, vi (covF (fun j_ : Nat => labR m (j_ : Int) r) i)), (0, vr 30), (1, vi r)] [] m := by
  intro dd
  induction dd with
  | zero =>
    intro i hi
    obtain rfl : n = i := by omega
    have hb_ := covF_bd (fun j_ : Nat => labR m (j_ : Int) r) n
    have hM1 := hM.2.1
    refine V_ld (pc := 4) dX11_in_4 (v := vi ((n : Nat) : Int)) rfl rfl ?_
    refine V_ld (pc := 5) dX11_in_5 (v := vr 30) rfl rfl ?_
    refine V_getRv (pc := 6) dX11_in_6 (o' := 31) fw_RX11_9 rfl hL.t30 hL.r30_0 ?_
    refine V_sipush (pc := 9) dX11_in_9 (by unfold I32; omega) (by decide) ?_
    refine V_ialdv (pc := 12) dX11_in_12 (v := mI m 31 3336) hL.t31 (by omega) rfl (fun g12 => ?_)
    refine V_icmp_ge (pc := 13) dX11_in_13 (tgt := 39) rfl (fun h13 => ?_) (fun h13 => ?_)
    · skip
      first | exact kx | (skip; exact kx) | (exfalso; omega)
    · skip
      exfalso; omega
  | succ dd ih =>
    intro i hi
    have hb_ := covF_bd (fun j_ : Nat => labR m (j_ : Int) r) i
    have hM1 := hM.2.1
    refine V_ld (pc := 4) dX11_in_4 (v := vi ((i : Nat) : Int)) rfl rfl ?_
    refine V_ld (pc := 5) dX11_in_5 (v := vr 30) rfl rfl ?_
    refine V_getRv (pc := 6) dX11_in_6 (o' := 31) fw_RX11_9 rfl hL.t30 hL.r30_0 ?_
    refine V_sipush (pc := 9) dX11_in_9 (by unfold I32; omega) (by decide) ?_
    refine V_ialdv (pc := 12) dX11_in_12 (v := mI m 31 3336) hL.t31 (by omega) rfl (fun g12 => ?_)
    refine V_icmp_ge (pc := 13) dX11_in_13 (tgt := 39) rfl (fun h13 => ?_) (fun h13 => ?_)
    · skip
      exfalso; omega
    · skip
      refine V_ld (pc := 16) dX11_in_16 (v := vi (covF (fun j_ : Nat => labR m (j_ : Int) r) i)) rfl rfl ?_
      refine V_ld (pc := 17) dX11_in_17 (v := vr 30) rfl rfl ?_
      refine V_ld (pc := 18) dX11_in_18 (v := vi ((i : Nat) : Int)) rfl rfl ?_
      refine V_ld (pc := 19) dX11_in_19 (v := vi r) rfl rfl ?_
      refine V_callV (pc := 20) dX11_in_20 (F' := 1) (As := [vi ((i : Nat) : Int), vi r]) (st := [vi (covF (fun j_ : Nat => labR m (j_ : Int) r) i)]) cw_RX11_374 rfl rfl hL.t30 (by decide) (Nat.le_of_ble_eq_true rfl) (by omega) (r_labelled  m ((i : Nat) : Int) r   (by first | assumption | omega) (by first | assumption | omega) (by first | assumption | omega) (by first | assumption | omega)) ?_
      rintro _ _ ⟨x20, rfl, hx20, rfl⟩ ok20 le20
      refine V_if_lt (pc := 23) dX11_in_23 (tgt := 30) rfl (fun h23 => ?_) (fun h23 => ?_)
      · skip
        refine V_iconst (pc := 30) dX11_in_30 (by unfold I32; omega) ?_
        refine V_iadd (pc := 31) dX11_in_31 (by unfold I32 at *; omega) ?_
        refine V_st (pc := 32) dX11_in_32 (ls' := [(2, vi ((covF (fun j_ : Nat => labR m (j_ : Int) r) i) + 0)), (3, vi ((i : Nat) : Int)), (0, vr 30), (1, vi r)]) rfl (Nat.le_of_ble_eq_true rfl) rfl ?_
        refine V_iinc (pc := 33) dX11_in_33 (x := ((i : Nat) : Int)) (ls' := [(3, vi (((i : Nat) : Int) + 1)), (2, vi ((covF (fun j_ : Nat => labR m (j_ : Int) r) i) + 0)), (0, vr 30), (1, vi r)]) rfl (by unfold I32 at *; omega) (Nat.le_of_ble_eq_true rfl) rfl ?_
        refine V_goto (pc := 36) dX11_in_36 (tgt := 4) rfl ?_
        have ela : labR m (i : Int) r = x20 := by omega
        have e_ : covF (fun j_ : Nat => labR m (j_ : Int) r) (i + 1) = (covF (fun j_ : Nat => labR m (j_ : Int) r) i) + 0 := by
          show (if 0 ≤ labR m (i : Int) r then covF (fun j_ : Nat => labR m (j_ : Int) r) i + 1 else covF (fun j_ : Nat => labR m (j_ : Int) r) i) = _
          rw [ela]
          first
            | (exfalso; omega)
            | exact if_pos (by omega)
            | exact if_neg (by omega)
            | (rw [if_pos (by omega)])
            | (rw [if_neg (by omega)]; omega)
        have h_ := ih (i + 1) (by omega)
        rw [e_] at h_
        skip
        exact h_
      · skip
        refine V_iconst (pc := 26) dX11_in_26 (by unfold I32; omega) ?_
        refine V_goto (pc := 27) dX11_in_27 (tgt := 31) rfl ?_
        refine V_iadd (pc := 31) dX11_in_31 (by unfold I32 at *; omega) ?_
        refine V_st (pc := 32) dX11_in_32 (ls' := [(2, vi ((covF (fun j_ : Nat => labR m (j_ : Int) r) i) + 1)), (3, vi ((i : Nat) : Int)), (0, vr 30), (1, vi r)]) rfl (Nat.le_of_ble_eq_true rfl) rfl ?_
        refine V_iinc (pc := 33) dX11_in_33 (x := ((i : Nat) : Int)) (ls' := [(3, vi (((i : Nat) : Int) + 1)), (2, vi ((covF (fun j_ : Nat => labR m (j_ : Int) r) i) + 1)), (0, vr 30), (1, vi r)]) rfl (by unfold I32 at *; omega) (Nat.le_of_ble_eq_true rfl) rfl ?_
        refine V_goto (pc := 36) dX11_in_36 (tgt := 4) rfl ?_
        have ela : labR m (i : Int) r = x20 := by omega
        have e_ : covF (fun j_ : Nat => labR m (j_ : Int) r) (i + 1) = (covF (fun j_ : Nat => labR m (j_ : Int) r) i) + 1 := by
          show (if 0 ≤ labR m (i : Int) r then covF (fun j_ : Nat => labR m (j_ : Int) r) i + 1 else covF (fun j_ : Nat => labR m (j_ : Int) r) i) = _
          rw [ela]
          first
            | (exfalso; omega)
            | exact if_pos (by omega)
            | exact if_neg (by omega)
            | (rw [if_pos (by omega)])
            | (rw [if_neg (by omega)]; omega)
        have h_ := ih (i + 1) (by omega)
        rw [e_] at h_
        skip
        exact h_

set_option maxHeartbeats 4000000 in
theorem r_in  (m : Mem) (r : Int)   (hL : Lay (mT m) (mR m)) (hM : MatR m) (hr : -100 ≤ r ∧ r ≤ 100) : Ct μX11_in 2 [vr 30, vi r] m (ri fun x_ m' => (x_ = covF (fun j_ : Nat => labR m (j_ : Int) r) (mI m 31 3336).toNat) ∧ m = m') := by
  refine Ct_of_V rfl (by decide) rfl (Nat.le_of_ble_eq_true rfl) ?_
  show V μX11_in 2 m _ 0 [(0, vr 30), (1, vi r)] [] m
  refine V_rg (k := 1) (x := r) rfl fun r_r => ?_
  have hM0 := hM.1
  refine V_iconst (pc := 0) dX11_in_0 (by unfold I32; omega) ?_
  refine V_st (pc := 1) dX11_in_1 (ls' := [(2, vi 0), (0, vr 30), (1, vi r)]) rfl (Nat.le_of_ble_eq_true rfl) rfl ?_
  refine V_iconst (pc := 2) dX11_in_2 (by unfold I32; omega) ?_
  refine V_st (pc := 3) dX11_in_3 (ls' := [(3, vi 0), (2, vi 0), (0, vr 30), (1, vi r)]) rfl (Nat.le_of_ble_eq_true rfl) rfl ?_
  skip
  refine L_in (F := 0) (m := m) (r := r) (n := (mI m 31 3336).toNat) hL hM (by omega) hr ?_ (mI m 31 3336).toNat 0 (by omega)
  refine V_ld (pc := 39) dX11_in_39 (v := vi (covF (fun j_ : Nat => labR m (j_ : Int) r) ((mI m 31 3336).toNat))) rfl rfl ?_
  refine V_reti (pc := 40) dX11_in_40 trivial ?_
  exact ⟨rfl, rfl⟩

set_option maxHeartbeats 4000000 in
theorem r_covered  (m : Mem) (r : Int)   (hL : Lay (mT m) (mR m)) (hM : MatR m) (hz : 0 ≤ mI m 31 64 ∧ mI m 31 64 ≤ 32) : Ct μX11_covered 3 [vr 30, vi r] m (ri fun x_ m' => (x_ = if 0 ≤ r ∧ r < mI m 31 64 then covF (fun j_ : Nat => labR m (j_ : Int) r) (mI m 31 3336).toNat else -1) ∧ m = m') := by
  refine Ct_of_V rfl (by decide) rfl (Nat.le_of_ble_eq_true rfl) ?_
  show V μX11_covered 3 m _ 0 [(0, vr 30), (1, vi r)] [] m
  refine V_rg (k := 1) (x := r) rfl fun r_r => ?_
  refine V_ld (pc := 0) dX11_covered_0 (v := vr 30) rfl rfl ?_
  refine V_ld (pc := 1) dX11_covered_1 (v := vi r) rfl rfl ?_
  refine V_callV (pc := 2) dX11_covered_2 (F' := 1) (As := [vi r]) (st := []) cw_RX11_113 rfl rfl hL.t30 (by decide) (Nat.le_of_ble_eq_true rfl) (by omega) (r_isRow  m r   (by first | assumption | omega) (by first | assumption | omega)) ?_
  rintro _ _ ⟨x2, rfl, hx2, rfl⟩ ok2 le2
  refine V_if_eq (pc := 5) dX11_covered_5 (tgt := 16) rfl (fun h5 => ?_) (fun h5 => ?_)
  · skip
    refine V_iconst (pc := 16) dX11_covered_16 (by unfold I32; omega) ?_
    refine V_reti (pc := 17) dX11_covered_17 trivial ?_
    exact ⟨by omega, rfl⟩
  · skip
    refine V_ld (pc := 8) dX11_covered_8 (v := vr 30) rfl rfl ?_
    refine V_ld (pc := 9) dX11_covered_9 (v := vi r) rfl rfl ?_
    refine V_callV (pc := 10) dX11_covered_10 (F' := 2) (As := [vi r]) (st := []) cw_RX11_391 rfl rfl hL.t30 (by decide) (Nat.le_of_ble_eq_true rfl) (by omega) (r_in  m r   (by first | assumption | omega) (by first | assumption | omega) (by first | assumption | omega)) ?_
    rintro _ _ ⟨x10, rfl, hx10, rfl⟩ ok10 le10
    refine V_goto (pc := 13) dX11_covered_13 (tgt := 17) rfl ?_
    refine V_reti (pc := 17) dX11_covered_17 trivial ?_
    exact ⟨by omega, rfl⟩

def numR (m : Mem) (col : Int) : Nat → Int := fun r => mI m 31 (2 * (r : Int) + col).toNat

theorem foldR_bd {lab num : Nat → Int} {L : Int} (h : ∀ r, -999 ≤ num r ∧ num r ≤ 1000) (r : Nat) : 0 ≤ (foldR lab num L r).1 ∧ (foldR lab num L r).1 ≤ r ∧ 0 ≤ (foldR lab num L r).2.1 ∧ (foldR lab num L r).2.1 ≤ r ∧ -1000 * (r : Int) ≤ (foldR lab num L r).2.2.1 ∧ (foldR lab num L r).2.2.1 ≤ 1000 * (r : Int) := by
  obtain ⟨h1, h2, h3, -⟩ := foldR_M (lab := lab) (L := L) h r
  rw [h1, h2, h3]
  exact foldM_bd h r

set_option maxHeartbeats 4000000 in
theorem L_measure {F : Nat} {m0 m : Mem} {post : Option AV → Mem → Prop} {n : Nat} {j e col w : Int} (hL : Lay (mT m) (mR m)) (hM : MatR m) (hj : 0 ≤ j ∧ j < mI m 31 3336) (hn : (n : Int) = mI m 31 64) (hz : 0 ≤ mI m 31 64 ∧ mI m 31 64 ≤ 32) (hcol : 0 ≤ col ∧ col < 2) (hnum : ∀ r : Nat, -999 ≤ numR m col r ∧ numR m col r ≤ 1000) (kx : V μX11_measure (F + 2) m0 post 179 [(17, vi ((n : Nat) : Int)), (15, vl ((foldR (fun r_ : Nat => labR m j (r_ : Int)) (numR m col) e n).2.2.2.2.2.2)), (13, vl ((foldR (fun r_ : Nat => labR m j (r_ : Int)) (numR m col) e n).2.2.2.2.2.1)), (11, vl ((foldR (fun r_ : Nat => labR m j (r_ : Int)) (numR m col) e n).2.2.2.2.1)), (9, vl ((foldR (fun r_ : Nat => labR m j (r_ : Int)) (numR m col) e n).2.2.2.1)), (7, vl ((foldR (fun r_ : Nat => labR m j (r_ : Int)) (numR m col) e n).2.2.1)), (6, vi ((foldR (fun r_ : Nat => labR m j (r_ : Int)) (numR m col) e n).2.1)), (5, vi ((foldR (fun r_ : Nat => labR m j (r_ : Int)) (numR m col) e n).1)), (0, vr 30), (1, vi j), (2, vi e), (3, vi col), (4, vi w)] [] m) : ∀ (dd i : Nat), dd + i = n → V μX11_measure (F + 2) m0 post 46 [(17, vi ((i : Nat) : Int)), (15, vl ((foldR (fun r_ : Nat => labR m j (r_ : Int)) (numR m col) e i).2.2.2.2.2.2)), (13, vl ((foldR (fun r_ : Nat => labR m j (r_ : Int)) (numR m col) e i).2.2.2.2.2.1)), (11, vl ((foldR (fun r_ : Nat => labR m j (r_ : Int)) (numR m col) e i).2.2.2.2.1)), (9, vl ((foldR (fun r_ : Nat => labR m j (r_ : Int)) (numR m col) e i).2.2.2.1)), (7, vl ((foldR (fun r_ : Nat => labR m j (r_ : Int)) (numR m col) e i).2.2.1)), (6, vi ((foldR (fun r_ : Nat => labR m j (r_ : Int)) (numR m col) e i).2.1)), (5, vi ((foldR (fun r_ : Nat => labR m j (r_ : Int)) (numR m col) e i).1)), (0, vr 30), (1, vi j), (2, vi e), (3, vi col), (4, vi w)] [] m := by
  intro dd
  induction dd with
  | zero =>
    intro i hi
    obtain rfl : n = i := by omega
    have hn_ := hnum n
    simp only [numR] at hn_
    refine V_ld (pc := 46) dX11_measure_46 (v := vi ((n : Nat) : Int)) rfl rfl ?_
    refine V_ld (pc := 48) dX11_measure_48 (v := vr 30) rfl rfl ?_
    refine V_callV (pc := 49) dX11_measure_49 (F' := 0) (As := []) (st := [vi ((n : Nat) : Int)]) cw_RX11_97 rfl rfl hL.t30 (by decide) (Nat.le_of_ble_eq_true rfl) (by omega) (r_many  m    (by first | assumption | omega)) ?_
    rintro _ _ ⟨x49, rfl, hx49, rfl⟩ ok49 le49
    obtain rfl : x49 = mI m 31 64 := hx49.trans rfl
    refine V_icmp_ge (pc := 52) dX11_measure_52 (tgt := 179) rfl (fun h52 => ?_) (fun h52 => ?_)
    · skip
      first | exact kx | (skip; exact kx) | (exfalso; omega)
    · skip
      exfalso; omega
  | succ dd ih =>
    intro i hi
    have hn_ := hnum i
    simp only [numR] at hn_
    refine V_ld (pc := 46) dX11_measure_46 (v := vi ((i : Nat) : Int)) rfl rfl ?_
    refine V_ld (pc := 48) dX11_measure_48 (v := vr 30) rfl rfl ?_
    refine V_callV (pc := 49) dX11_measure_49 (F' := 0) (As := []) (st := [vi ((i : Nat) : Int)]) cw_RX11_97 rfl rfl hL.t30 (by decide) (Nat.le_of_ble_eq_true rfl) (by omega) (r_many  m    (by first | assumption | omega)) ?_
    rintro _ _ ⟨x49, rfl, hx49, rfl⟩ ok49 le49
    obtain rfl : x49 = mI m 31 64 := hx49.trans rfl
    refine V_icmp_ge (pc := 52) dX11_measure_52 (tgt := 179) rfl (fun h52 => ?_) (fun h52 => ?_)
    · skip
      exfalso; omega
    · skip
      refine V_ld (pc := 55) dX11_measure_55 (v := vr 30) rfl rfl ?_
      refine V_ld (pc := 56) dX11_measure_56 (v := vi j) rfl rfl ?_
      refine V_ld (pc := 57) dX11_measure_57 (v := vi ((i : Nat) : Int)) rfl rfl ?_
      refine V_callV (pc := 59) dX11_measure_59 (F' := 1) (As := [vi j, vi ((i : Nat) : Int)]) (st := []) cw_RX11_374 rfl rfl hL.t30 (by decide) (Nat.le_of_ble_eq_true rfl) (by omega) (r_labelled  m j ((i : Nat) : Int)   (by first | assumption | omega) (by first | assumption | omega) hj (by first | assumption | omega)) ?_
      rintro _ _ ⟨x59, rfl, hx59, rfl⟩ ok59 le59
      refine V_st (pc := 62) dX11_measure_62 (ls' := [(18, vi x59), (17, vi ((i : Nat) : Int)), (15, vl ((foldR (fun r_ : Nat => labR m j (r_ : Int)) (numR m col) e i).2.2.2.2.2.2)), (13, vl ((foldR (fun r_ : Nat => labR m j (r_ : Int)) (numR m col) e i).2.2.2.2.2.1)), (11, vl ((foldR (fun r_ : Nat => labR m j (r_ : Int)) (numR m col) e i).2.2.2.2.1)), (9, vl ((foldR (fun r_ : Nat => labR m j (r_ : Int)) (numR m col) e i).2.2.2.1)), (7, vl ((foldR (fun r_ : Nat => labR m j (r_ : Int)) (numR m col) e i).2.2.1)), (6, vi ((foldR (fun r_ : Nat => labR m j (r_ : Int)) (numR m col) e i).2.1)), (5, vi ((foldR (fun r_ : Nat => labR m j (r_ : Int)) (numR m col) e i).1)), (0, vr 30), (1, vi j), (2, vi e), (3, vi col), (4, vi w)]) rfl (Nat.le_of_ble_eq_true rfl) rfl ?_
      refine V_ld (pc := 64) dX11_measure_64 (v := vr 30) rfl rfl ?_
      refine V_getRv (pc := 65) dX11_measure_65 (o' := 31) fw_RX11_9 rfl hL.t30 hL.r30_0 ?_
      refine V_iconst (pc := 68) dX11_measure_68 (by unfold I32; omega) ?_
      refine V_ld (pc := 69) dX11_measure_69 (v := vi ((i : Nat) : Int)) rfl rfl ?_
      refine V_imul (pc := 71) dX11_measure_71 (by unfold I32 at *; omega) ?_
      refine V_ld (pc := 72) dX11_measure_72 (v := vi col) rfl rfl ?_
      refine V_iadd (pc := 73) dX11_measure_73 (by unfold I32 at *; omega) ?_
      refine V_ialdv (pc := 74) dX11_measure_74 (v := mI m 31 (((2 * ((i : Nat) : Int)) + col).toNat)) hL.t31 (by omega) rfl (fun g74 => ?_)
      refine V_i2l (pc := 75) dX11_measure_75 ?_
      refine V_st (pc := 76) dX11_measure_76 (ls' := [(19, vl (mI m 31 (((2 * ((i : Nat) : Int)) + col).toNat))), (18, vi x59), (17, vi ((i : Nat) : Int)), (15, vl ((foldR (fun r_ : Nat => labR m j (r_ : Int)) (numR m col) e i).2.2.2.2.2.2)), (13, vl ((foldR (fun r_ : Nat => labR m j (r_ : Int)) (numR m col) e i).2.2.2.2.2.1)), (11, vl ((foldR (fun r_ : Nat => labR m j (r_ : Int)) (numR m col) e i).2.2.2.2.1)), (9, vl ((foldR (fun r_ : Nat => labR m j (r_ : Int)) (numR m col) e i).2.2.2.1)), (7, vl ((foldR (fun r_ : Nat => labR m j (r_ : Int)) (numR m col) e i).2.2.1)), (6, vi ((foldR (fun r_ : Nat => labR m j (r_ : Int)) (numR m col) e i).2.1)), (5, vi ((foldR (fun r_ : Nat => labR m j (r_ : Int)) (numR m col) e i).1)), (0, vr 30), (1, vi j), (2, vi e), (3, vi col), (4, vi w)]) rfl (Nat.le_of_ble_eq_true rfl) rfl ?_
      refine V_ld (pc := 78) dX11_measure_78 (v := vi x59) rfl rfl ?_
      refine V_if_lt (pc := 80) dX11_measure_80 (tgt := 173) rfl (fun h80 => ?_) (fun h80 => ?_)
      · skip
        refine V_iinc (pc := 173) dX11_measure_173 (x := ((i : Nat) : Int)) (ls' := [(17, vi (((i : Nat) : Int) + 1)), (19, vl (mI m 31 (((2 * ((i : Nat) : Int)) + col).toNat))), (18, vi x59), (15, vl ((foldR (fun r_ : Nat => labR m j (r_ : Int)) (numR m col) e i).2.2.2.2.2.2)), (13, vl ((foldR (fun r_ : Nat => labR m j (r_ : Int)) (numR m col) e i).2.2.2.2.2.1)), (11, vl ((foldR (fun r_ : Nat => labR m j (r_ : Int)) (numR m col) e i).2.2.2.2.1)), (9, vl ((foldR (fun r_ : Nat => labR m j (r_ : Int)) (numR m col) e i).2.2.2.1)), (7, vl ((foldR (fun r_ : Nat => labR m j (r_ : Int)) (numR m col) e i).2.2.1)), (6, vi ((foldR (fun r_ : Nat => labR m j (r_ : Int)) (numR m col) e i).2.1)), (5, vi ((foldR (fun r_ : Nat => labR m j (r_ : Int)) (numR m col) e i).1)), (0, vr 30), (1, vi j), (2, vi e), (3, vi col), (4, vi w)]) rfl (by unfold I32 at *; omega) (Nat.le_of_ble_eq_true rfl) rfl ?_
        refine V_goto (pc := 176) dX11_measure_176 (tgt := 46) rfl ?_
        try unfold cmpI at *
        have ela : (labR m j (i : Int)) = x59 := by omega
        have enu : (mI m 31 (2 * (i : Int) + col).toNat) = mI m 31 (((2 * ((i : Nat) : Int)) + col).toNat) := by omega
        have e_ : foldR (fun r_ : Nat => labR m j (r_ : Int)) (numR m col) e (i + 1) = ((foldR (fun r_ : Nat => labR m j (r_ : Int)) (numR m col) e i).1, (foldR (fun r_ : Nat => labR m j (r_ : Int)) (numR m col) e i).2.1, (foldR (fun r_ : Nat => labR m j (r_ : Int)) (numR m col) e i).2.2.1, (foldR (fun r_ : Nat => labR m j (r_ : Int)) (numR m col) e i).2.2.2.1, (foldR (fun r_ : Nat => labR m j (r_ : Int)) (numR m col) e i).2.2.2.2.1, (foldR (fun r_ : Nat => labR m j (r_ : Int)) (numR m col) e i).2.2.2.2.2.1, (foldR (fun r_ : Nat => labR m j (r_ : Int)) (numR m col) e i).2.2.2.2.2.2) := by
          show stepR (labR m j (i : Int)) (mI m 31 (2 * (i : Int) + col).toNat) e (foldR (fun r_ : Nat => labR m j (r_ : Int)) (numR m col) e i) = _
          rw [ela, enu]
          unfold stepR
          first
            | (exfalso; omega)
            | (rw [if_neg (by omega)])
            | (rw [if_pos (by omega), if_pos (by omega)])
            | (rw [if_pos (by omega), if_neg (by omega)]; simp only [Prod.mk.injEq]; repeat' apply And.intro
               all_goals (first | trivial | omega))
        have h_ := ih (i + 1) (by omega)
        rw [e_] at h_
        refine V_ls (ls' := [(17, vi (((i : Nat) : Int) + 1)), (15, vl ((foldR (fun r_ : Nat => labR m j (r_ : Int)) (numR m col) e i).2.2.2.2.2.2)), (13, vl ((foldR (fun r_ : Nat => labR m j (r_ : Int)) (numR m col) e i).2.2.2.2.2.1)), (11, vl ((foldR (fun r_ : Nat => labR m j (r_ : Int)) (numR m col) e i).2.2.2.2.1)), (9, vl ((foldR (fun r_ : Nat => labR m j (r_ : Int)) (numR m col) e i).2.2.2.1)), (7, vl ((foldR (fun r_ : Nat => labR m j (r_ : Int)) (numR m col) e i).2.2.1)), (6, vi ((foldR (fun r_ : Nat => labR m j (r_ : Int)) (numR m col) e i).2.1)), (5, vi ((foldR (fun r_ : Nat => labR m j (r_ : Int)) (numR m col) e i).1)), (0, vr 30), (1, vi j), (2, vi e), (3, vi col), (4, vi w)]) (by intro q_ h_; simp only [List.mem_cons, List.not_mem_nil, or_false] at h_ ⊢; rcases h_ with rfl | rfl | rfl | rfl | rfl | rfl | rfl | rfl | rfl | rfl | rfl | rfl | rfl <;> simp) ?_
        exact h_
      · skip
        refine V_ld (pc := 83) dX11_measure_83 (v := vi e) rfl rfl ?_
        refine V_bipush (pc := 84) dX11_measure_84 (by unfold I32; omega) (by decide) ?_
        refine V_icmp_eq (pc := 86) dX11_measure_86 (tgt := 95) rfl (fun h86 => ?_) (fun h86 => ?_)
        · skip
          refine V_iinc (pc := 95) dX11_measure_95 (x := ((foldR (fun r_ : Nat => labR m j (r_ : Int)) (numR m col) e i).1)) (ls' := [(5, vi (((foldR (fun r_ : Nat => labR m j (r_ : Int)) (numR m col) e i).1) + 1)), (19, vl (mI m 31 (((2 * ((i : Nat) : Int)) + col).toNat))), (18, vi x59), (17, vi ((i : Nat) : Int)), (15, vl ((foldR (fun r_ : Nat => labR m j (r_ : Int)) (numR m col) e i).2.2.2.2.2.2)), (13, vl ((foldR (fun r_ : Nat => labR m j (r_ : Int)) (numR m col) e i).2.2.2.2.2.1)), (11, vl ((foldR (fun r_ : Nat => labR m j (r_ : Int)) (numR m col) e i).2.2.2.2.1)), (9, vl ((foldR (fun r_ : Nat => labR m j (r_ : Int)) (numR m col) e i).2.2.2.1)), (7, vl ((foldR (fun r_ : Nat => labR m j (r_ : Int)) (numR m col) e i).2.2.1)), (6, vi ((foldR (fun r_ : Nat => labR m j (r_ : Int)) (numR m col) e i).2.1)), (0, vr 30), (1, vi j), (2, vi e), (3, vi col), (4, vi w)]) rfl (by have hb := foldR_bd (L := e) (lab := (fun r_ : Nat => labR m j (r_ : Int))) hnum i; unfold I32; (try unfold I32 at *); omega) (Nat.le_of_ble_eq_true rfl) rfl ?_
          refine V_ld (pc := 98) dX11_measure_98 (v := vl (mI m 31 (((2 * ((i : Nat) : Int)) + col).toNat))) rfl rfl ?_
          refine V_ldc2 (pc := 100) dX11_measure_100 (x := 1000) kl_RX11_384 (by unfold I64; omega) rfl ?_
          refine V_lcmp (pc := 103) dX11_measure_103 ?_
          refine V_if_eq (pc := 104) dX11_measure_104 (tgt := 173) rfl (fun h104 => ?_) (fun h104 => ?_)
          · skip
            refine V_iinc (pc := 173) dX11_measure_173 (x := ((i : Nat) : Int)) (ls' := [(17, vi (((i : Nat) : Int) + 1)), (5, vi (((foldR (fun r_ : Nat => labR m j (r_ : Int)) (numR m col) e i).1) + 1)), (19, vl (mI m 31 (((2 * ((i : Nat) : Int)) + col).toNat))), (18, vi x59), (15, vl ((foldR (fun r_ : Nat => labR m j (r_ : Int)) (numR m col) e i).2.2.2.2.2.2)), (13, vl ((foldR (fun r_ : Nat => labR m j (r_ : Int)) (numR m col) e i).2.2.2.2.2.1)), (11, vl ((foldR (fun r_ : Nat => labR m j (r_ : Int)) (numR m col) e i).2.2.2.2.1)), (9, vl ((foldR (fun r_ : Nat => labR m j (r_ : Int)) (numR m col) e i).2.2.2.1)), (7, vl ((foldR (fun r_ : Nat => labR m j (r_ : Int)) (numR m col) e i).2.2.1)), (6, vi ((foldR (fun r_ : Nat => labR m j (r_ : Int)) (numR m col) e i).2.1)), (0, vr 30), (1, vi j), (2, vi e), (3, vi col), (4, vi w)]) rfl (by unfold I32 at *; omega) (Nat.le_of_ble_eq_true rfl) rfl ?_
            refine V_goto (pc := 176) dX11_measure_176 (tgt := 46) rfl ?_
            try unfold cmpI at *
            have ela : (labR m j (i : Int)) = x59 := by omega
            have enu : (mI m 31 (2 * (i : Int) + col).toNat) = mI m 31 (((2 * ((i : Nat) : Int)) + col).toNat) := by omega
            have e_ : foldR (fun r_ : Nat => labR m j (r_ : Int)) (numR m col) e (i + 1) = (((foldR (fun r_ : Nat => labR m j (r_ : Int)) (numR m col) e i).1) + 1, (foldR (fun r_ : Nat => labR m j (r_ : Int)) (numR m col) e i).2.1, (foldR (fun r_ : Nat => labR m j (r_ : Int)) (numR m col) e i).2.2.1, (foldR (fun r_ : Nat => labR m j (r_ : Int)) (numR m col) e i).2.2.2.1, (foldR (fun r_ : Nat => labR m j (r_ : Int)) (numR m col) e i).2.2.2.2.1, (foldR (fun r_ : Nat => labR m j (r_ : Int)) (numR m col) e i).2.2.2.2.2.1, (foldR (fun r_ : Nat => labR m j (r_ : Int)) (numR m col) e i).2.2.2.2.2.2) := by
              show stepR (labR m j (i : Int)) (mI m 31 (2 * (i : Int) + col).toNat) e (foldR (fun r_ : Nat => labR m j (r_ : Int)) (numR m col) e i) = _
              rw [ela, enu]
              unfold stepR
              first
                | (exfalso; omega)
                | (rw [if_neg (by omega)])
                | (rw [if_pos (by omega), if_pos (by omega)])
                | (rw [if_pos (by omega), if_neg (by omega)]; simp only [Prod.mk.injEq]; repeat' apply And.intro
                   all_goals (first | trivial | omega))
            have h_ := ih (i + 1) (by omega)
            rw [e_] at h_
            refine V_ls (ls' := [(17, vi (((i : Nat) : Int) + 1)), (15, vl ((foldR (fun r_ : Nat => labR m j (r_ : Int)) (numR m col) e i).2.2.2.2.2.2)), (13, vl ((foldR (fun r_ : Nat => labR m j (r_ : Int)) (numR m col) e i).2.2.2.2.2.1)), (11, vl ((foldR (fun r_ : Nat => labR m j (r_ : Int)) (numR m col) e i).2.2.2.2.1)), (9, vl ((foldR (fun r_ : Nat => labR m j (r_ : Int)) (numR m col) e i).2.2.2.1)), (7, vl ((foldR (fun r_ : Nat => labR m j (r_ : Int)) (numR m col) e i).2.2.1)), (6, vi ((foldR (fun r_ : Nat => labR m j (r_ : Int)) (numR m col) e i).2.1)), (5, vi (((foldR (fun r_ : Nat => labR m j (r_ : Int)) (numR m col) e i).1) + 1)), (0, vr 30), (1, vi j), (2, vi e), (3, vi col), (4, vi w)]) (by intro q_ h_; simp only [List.mem_cons, List.not_mem_nil, or_false] at h_ ⊢; rcases h_ with rfl | rfl | rfl | rfl | rfl | rfl | rfl | rfl | rfl | rfl | rfl | rfl | rfl <;> simp) ?_
            exact h_
          · skip
            refine V_ld (pc := 107) dX11_measure_107 (v := vi ((foldR (fun r_ : Nat => labR m j (r_ : Int)) (numR m col) e i).2.1)) rfl rfl ?_
            refine V_if_ne (pc := 109) dX11_measure_109 (tgt := 117) rfl (fun h109 => ?_) (fun h109 => ?_)
            · skip
              refine V_ld (pc := 117) dX11_measure_117 (v := vl ((foldR (fun r_ : Nat => labR m j (r_ : Int)) (numR m col) e i).2.2.2.1)) rfl rfl ?_
              refine V_ld (pc := 119) dX11_measure_119 (v := vl (mI m 31 (((2 * ((i : Nat) : Int)) + col).toNat))) rfl rfl ?_
              refine V_callS (pc := 121) dX11_measure_121 (F' := 0) (As := [vl ((foldR (fun r_ : Nat => labR m j (r_ : Int)) (numR m col) e i).2.2.2.1), vl (mI m 31 (((2 * ((i : Nat) : Int)) + col).toNat))]) (st := []) cw_RX11_386 rfl rfl (Nat.le_of_ble_eq_true rfl) (by omega) (j_min_l  m ((foldR (fun r_ : Nat => labR m j (r_ : Int)) (numR m col) e i).2.2.2.1) (mI m 31 (((2 * ((i : Nat) : Int)) + col).toNat))   ) ?_
              rintro _ _ ⟨x121, rfl, hx121, rfl⟩ ok121 le121
              refine V_st (pc := 124) dX11_measure_124 (ls' := [(9, vl x121), (5, vi (((foldR (fun r_ : Nat => labR m j (r_ : Int)) (numR m col) e i).1) + 1)), (19, vl (mI m 31 (((2 * ((i : Nat) : Int)) + col).toNat))), (18, vi x59), (17, vi ((i : Nat) : Int)), (15, vl ((foldR (fun r_ : Nat => labR m j (r_ : Int)) (numR m col) e i).2.2.2.2.2.2)), (13, vl ((foldR (fun r_ : Nat => labR m j (r_ : Int)) (numR m col) e i).2.2.2.2.2.1)), (11, vl ((foldR (fun r_ : Nat => labR m j (r_ : Int)) (numR m col) e i).2.2.2.2.1)), (7, vl ((foldR (fun r_ : Nat => labR m j (r_ : Int)) (numR m col) e i).2.2.1)), (6, vi ((foldR (fun r_ : Nat => labR m j (r_ : Int)) (numR m col) e i).2.1)), (0, vr 30), (1, vi j), (2, vi e), (3, vi col), (4, vi w)]) rfl (Nat.le_of_ble_eq_true rfl) rfl ?_
              refine V_ld (pc := 126) dX11_measure_126 (v := vi ((foldR (fun r_ : Nat => labR m j (r_ : Int)) (numR m col) e i).2.1)) rfl rfl ?_
              refine V_if_ne (pc := 128) dX11_measure_128 (tgt := 136) rfl (fun h128 => ?_) (fun h128 => ?_)
              · skip
                refine V_ld (pc := 136) dX11_measure_136 (v := vl ((foldR (fun r_ : Nat => labR m j (r_ : Int)) (numR m col) e i).2.2.2.2.1)) rfl rfl ?_
                refine V_ld (pc := 138) dX11_measure_138 (v := vl (mI m 31 (((2 * ((i : Nat) : Int)) + col).toNat))) rfl rfl ?_
                refine V_callS (pc := 140) dX11_measure_140 (F' := 0) (As := [vl ((foldR (fun r_ : Nat => labR m j (r_ : Int)) (numR m col) e i).2.2.2.2.1), vl (mI m 31 (((2 * ((i : Nat) : Int)) + col).toNat))]) (st := []) cw_RX11_389 rfl rfl (Nat.le_of_ble_eq_true rfl) (by omega) (j_max_l  m ((foldR (fun r_ : Nat => labR m j (r_ : Int)) (numR m col) e i).2.2.2.2.1) (mI m 31 (((2 * ((i : Nat) : Int)) + col).toNat))   ) ?_
                rintro _ _ ⟨x140, rfl, hx140, rfl⟩ ok140 le140
                refine V_st (pc := 143) dX11_measure_143 (ls' := [(11, vl x140), (9, vl x121), (5, vi (((foldR (fun r_ : Nat => labR m j (r_ : Int)) (numR m col) e i).1) + 1)), (19, vl (mI m 31 (((2 * ((i : Nat) : Int)) + col).toNat))), (18, vi x59), (17, vi ((i : Nat) : Int)), (15, vl ((foldR (fun r_ : Nat => labR m j (r_ : Int)) (numR m col) e i).2.2.2.2.2.2)), (13, vl ((foldR (fun r_ : Nat => labR m j (r_ : Int)) (numR m col) e i).2.2.2.2.2.1)), (7, vl ((foldR (fun r_ : Nat => labR m j (r_ : Int)) (numR m col) e i).2.2.1)), (6, vi ((foldR (fun r_ : Nat => labR m j (r_ : Int)) (numR m col) e i).2.1)), (0, vr 30), (1, vi j), (2, vi e), (3, vi col), (4, vi w)]) rfl (Nat.le_of_ble_eq_true rfl) rfl ?_
                refine V_ld (pc := 145) dX11_measure_145 (v := vi ((foldR (fun r_ : Nat => labR m j (r_ : Int)) (numR m col) e i).2.1)) rfl rfl ?_
                refine V_if_ne (pc := 147) dX11_measure_147 (tgt := 155) rfl (fun h147 => ?_) (fun h147 => ?_)
                · skip
                  refine V_ld (pc := 155) dX11_measure_155 (v := vl ((foldR (fun r_ : Nat => labR m j (r_ : Int)) (numR m col) e i).2.2.2.2.2.1)) rfl rfl ?_
                  refine V_st (pc := 157) dX11_measure_157 (ls' := [(13, vl ((foldR (fun r_ : Nat => labR m j (r_ : Int)) (numR m col) e i).2.2.2.2.2.1)), (11, vl x140), (9, vl x121), (5, vi (((foldR (fun r_ : Nat => labR m j (r_ : Int)) (numR m col) e i).1) + 1)), (19, vl (mI m 31 (((2 * ((i : Nat) : Int)) + col).toNat))), (18, vi x59), (17, vi ((i : Nat) : Int)), (15, vl ((foldR (fun r_ : Nat => labR m j (r_ : Int)) (numR m col) e i).2.2.2.2.2.2)), (7, vl ((foldR (fun r_ : Nat => labR m j (r_ : Int)) (numR m col) e i).2.2.1)), (6, vi ((foldR (fun r_ : Nat => labR m j (r_ : Int)) (numR m col) e i).2.1)), (0, vr 30), (1, vi j), (2, vi e), (3, vi col), (4, vi w)]) rfl (Nat.le_of_ble_eq_true rfl) rfl ?_
                  refine V_ld (pc := 159) dX11_measure_159 (v := vl (mI m 31 (((2 * ((i : Nat) : Int)) + col).toNat))) rfl rfl ?_
                  refine V_st (pc := 161) dX11_measure_161 (ls' := [(15, vl (mI m 31 (((2 * ((i : Nat) : Int)) + col).toNat))), (13, vl ((foldR (fun r_ : Nat => labR m j (r_ : Int)) (numR m col) e i).2.2.2.2.2.1)), (11, vl x140), (9, vl x121), (5, vi (((foldR (fun r_ : Nat => labR m j (r_ : Int)) (numR m col) e i).1) + 1)), (19, vl (mI m 31 (((2 * ((i : Nat) : Int)) + col).toNat))), (18, vi x59), (17, vi ((i : Nat) : Int)), (7, vl ((foldR (fun r_ : Nat => labR m j (r_ : Int)) (numR m col) e i).2.2.1)), (6, vi ((foldR (fun r_ : Nat => labR m j (r_ : Int)) (numR m col) e i).2.1)), (0, vr 30), (1, vi j), (2, vi e), (3, vi col), (4, vi w)]) rfl (Nat.le_of_ble_eq_true rfl) rfl ?_
                  refine V_ld (pc := 163) dX11_measure_163 (v := vl ((foldR (fun r_ : Nat => labR m j (r_ : Int)) (numR m col) e i).2.2.1)) rfl rfl ?_
                  refine V_ld (pc := 165) dX11_measure_165 (v := vl (mI m 31 (((2 * ((i : Nat) : Int)) + col).toNat))) rfl rfl ?_
                  refine V_ladd (pc := 167) dX11_measure_167 (by have hb := foldR_bd (L := e) (lab := (fun r_ : Nat => labR m j (r_ : Int))) hnum i; unfold I64; (try unfold I32 at *); omega) ?_
                  refine V_st (pc := 168) dX11_measure_168 (ls' := [(7, vl (((foldR (fun r_ : Nat => labR m j (r_ : Int)) (numR m col) e i).2.2.1) + (mI m 31 (((2 * ((i : Nat) : Int)) + col).toNat)))), (15, vl (mI m 31 (((2 * ((i : Nat) : Int)) + col).toNat))), (13, vl ((foldR (fun r_ : Nat => labR m j (r_ : Int)) (numR m col) e i).2.2.2.2.2.1)), (11, vl x140), (9, vl x121), (5, vi (((foldR (fun r_ : Nat => labR m j (r_ : Int)) (numR m col) e i).1) + 1)), (19, vl (mI m 31 (((2 * ((i : Nat) : Int)) + col).toNat))), (18, vi x59), (17, vi ((i : Nat) : Int)), (6, vi ((foldR (fun r_ : Nat => labR m j (r_ : Int)) (numR m col) e i).2.1)), (0, vr 30), (1, vi j), (2, vi e), (3, vi col), (4, vi w)]) rfl (Nat.le_of_ble_eq_true rfl) rfl ?_
                  refine V_iinc (pc := 170) dX11_measure_170 (x := ((foldR (fun r_ : Nat => labR m j (r_ : Int)) (numR m col) e i).2.1)) (ls' := [(6, vi (((foldR (fun r_ : Nat => labR m j (r_ : Int)) (numR m col) e i).2.1) + 1)), (7, vl (((foldR (fun r_ : Nat => labR m j (r_ : Int)) (numR m col) e i).2.2.1) + (mI m 31 (((2 * ((i : Nat) : Int)) + col).toNat)))), (15, vl (mI m 31 (((2 * ((i : Nat) : Int)) + col).toNat))), (13, vl ((foldR (fun r_ : Nat => labR m j (r_ : Int)) (numR m col) e i).2.2.2.2.2.1)), (11, vl x140), (9, vl x121), (5, vi (((foldR (fun r_ : Nat => labR m j (r_ : Int)) (numR m col) e i).1) + 1)), (19, vl (mI m 31 (((2 * ((i : Nat) : Int)) + col).toNat))), (18, vi x59), (17, vi ((i : Nat) : Int)), (0, vr 30), (1, vi j), (2, vi e), (3, vi col), (4, vi w)]) rfl (by have hb := foldR_bd (L := e) (lab := (fun r_ : Nat => labR m j (r_ : Int))) hnum i; unfold I32; (try unfold I32 at *); omega) (Nat.le_of_ble_eq_true rfl) rfl ?_
                  refine V_iinc (pc := 173) dX11_measure_173 (x := ((i : Nat) : Int)) (ls' := [(17, vi (((i : Nat) : Int) + 1)), (6, vi (((foldR (fun r_ : Nat => labR m j (r_ : Int)) (numR m col) e i).2.1) + 1)), (7, vl (((foldR (fun r_ : Nat => labR m j (r_ : Int)) (numR m col) e i).2.2.1) + (mI m 31 (((2 * ((i : Nat) : Int)) + col).toNat)))), (15, vl (mI m 31 (((2 * ((i : Nat) : Int)) + col).toNat))), (13, vl ((foldR (fun r_ : Nat => labR m j (r_ : Int)) (numR m col) e i).2.2.2.2.2.1)), (11, vl x140), (9, vl x121), (5, vi (((foldR (fun r_ : Nat => labR m j (r_ : Int)) (numR m col) e i).1) + 1)), (19, vl (mI m 31 (((2 * ((i : Nat) : Int)) + col).toNat))), (18, vi x59), (0, vr 30), (1, vi j), (2, vi e), (3, vi col), (4, vi w)]) rfl (by unfold I32 at *; omega) (Nat.le_of_ble_eq_true rfl) rfl ?_
                  refine V_goto (pc := 176) dX11_measure_176 (tgt := 46) rfl ?_
                  try unfold cmpI at *
                  have ela : (labR m j (i : Int)) = x59 := by omega
                  have enu : (mI m 31 (2 * (i : Int) + col).toNat) = mI m 31 (((2 * ((i : Nat) : Int)) + col).toNat) := by omega
                  have e_ : foldR (fun r_ : Nat => labR m j (r_ : Int)) (numR m col) e (i + 1) = (((foldR (fun r_ : Nat => labR m j (r_ : Int)) (numR m col) e i).1) + 1, ((foldR (fun r_ : Nat => labR m j (r_ : Int)) (numR m col) e i).2.1) + 1, ((foldR (fun r_ : Nat => labR m j (r_ : Int)) (numR m col) e i).2.2.1) + (mI m 31 (((2 * ((i : Nat) : Int)) + col).toNat)), x121, x140, (foldR (fun r_ : Nat => labR m j (r_ : Int)) (numR m col) e i).2.2.2.2.2.1, mI m 31 (((2 * ((i : Nat) : Int)) + col).toNat)) := by
                    show stepR (labR m j (i : Int)) (mI m 31 (2 * (i : Int) + col).toNat) e (foldR (fun r_ : Nat => labR m j (r_ : Int)) (numR m col) e i) = _
                    rw [ela, enu]
                    unfold stepR
                    first
                      | (exfalso; omega)
                      | (rw [if_neg (by omega)])
                      | (rw [if_pos (by omega), if_pos (by omega)])
                      | (rw [if_pos (by omega), if_neg (by omega)]; simp only [Prod.mk.injEq]; repeat' apply And.intro
                         all_goals (first | trivial | omega))
                  have h_ := ih (i + 1) (by omega)
                  rw [e_] at h_
                  refine V_ls (ls' := [(17, vi (((i : Nat) : Int) + 1)), (15, vl (mI m 31 (((2 * ((i : Nat) : Int)) + col).toNat))), (13, vl ((foldR (fun r_ : Nat => labR m j (r_ : Int)) (numR m col) e i).2.2.2.2.2.1)), (11, vl x140), (9, vl x121), (7, vl (((foldR (fun r_ : Nat => labR m j (r_ : Int)) (numR m col) e i).2.2.1) + (mI m 31 (((2 * ((i : Nat) : Int)) + col).toNat)))), (6, vi (((foldR (fun r_ : Nat => labR m j (r_ : Int)) (numR m col) e i).2.1) + 1)), (5, vi (((foldR (fun r_ : Nat => labR m j (r_ : Int)) (numR m col) e i).1) + 1)), (0, vr 30), (1, vi j), (2, vi e), (3, vi col), (4, vi w)]) (by intro q_ h_; simp only [List.mem_cons, List.not_mem_nil, or_false] at h_ ⊢; rcases h_ with rfl | rfl | rfl | rfl | rfl | rfl | rfl | rfl | rfl | rfl | rfl | rfl | rfl <;> simp) ?_
                  exact h_
                · skip
                  refine V_ld (pc := 150) dX11_measure_150 (v := vl (mI m 31 (((2 * ((i : Nat) : Int)) + col).toNat))) rfl rfl ?_
                  refine V_goto (pc := 152) dX11_measure_152 (tgt := 157) rfl ?_
                  refine V_st (pc := 157) dX11_measure_157 (ls' := [(13, vl (mI m 31 (((2 * ((i : Nat) : Int)) + col).toNat))), (11, vl x140), (9, vl x121), (5, vi (((foldR (fun r_ : Nat => labR m j (r_ : Int)) (numR m col) e i).1) + 1)), (19, vl (mI m 31 (((2 * ((i : Nat) : Int)) + col).toNat))), (18, vi x59), (17, vi ((i : Nat) : Int)), (15, vl ((foldR (fun r_ : Nat => labR m j (r_ : Int)) (numR m col) e i).2.2.2.2.2.2)), (7, vl ((foldR (fun r_ : Nat => labR m j (r_ : Int)) (numR m col) e i).2.2.1)), (6, vi ((foldR (fun r_ : Nat => labR m j (r_ : Int)) (numR m col) e i).2.1)), (0, vr 30), (1, vi j), (2, vi e), (3, vi col), (4, vi w)]) rfl (Nat.le_of_ble_eq_true rfl) rfl ?_
                  refine V_ld (pc := 159) dX11_measure_159 (v := vl (mI m 31 (((2 * ((i : Nat) : Int)) + col).toNat))) rfl rfl ?_
                  refine V_st (pc := 161) dX11_measure_161 (ls' := [(15, vl (mI m 31 (((2 * ((i : Nat) : Int)) + col).toNat))), (13, vl (mI m 31 (((2 * ((i : Nat) : Int)) + col).toNat))), (11, vl x140), (9, vl x121), (5, vi (((foldR (fun r_ : Nat => labR m j (r_ : Int)) (numR m col) e i).1) + 1)), (19, vl (mI m 31 (((2 * ((i : Nat) : Int)) + col).toNat))), (18, vi x59), (17, vi ((i : Nat) : Int)), (7, vl ((foldR (fun r_ : Nat => labR m j (r_ : Int)) (numR m col) e i).2.2.1)), (6, vi ((foldR (fun r_ : Nat => labR m j (r_ : Int)) (numR m col) e i).2.1)), (0, vr 30), (1, vi j), (2, vi e), (3, vi col), (4, vi w)]) rfl (Nat.le_of_ble_eq_true rfl) rfl ?_
                  refine V_ld (pc := 163) dX11_measure_163 (v := vl ((foldR (fun r_ : Nat => labR m j (r_ : Int)) (numR m col) e i).2.2.1)) rfl rfl ?_
                  refine V_ld (pc := 165) dX11_measure_165 (v := vl (mI m 31 (((2 * ((i : Nat) : Int)) + col).toNat))) rfl rfl ?_
                  refine V_ladd (pc := 167) dX11_measure_167 (by have hb := foldR_bd (L := e) (lab := (fun r_ : Nat => labR m j (r_ : Int))) hnum i; unfold I64; (try unfold I32 at *); omega) ?_
                  refine V_st (pc := 168) dX11_measure_168 (ls' := [(7, vl (((foldR (fun r_ : Nat => labR m j (r_ : Int)) (numR m col) e i).2.2.1) + (mI m 31 (((2 * ((i : Nat) : Int)) + col).toNat)))), (15, vl (mI m 31 (((2 * ((i : Nat) : Int)) + col).toNat))), (13, vl (mI m 31 (((2 * ((i : Nat) : Int)) + col).toNat))), (11, vl x140), (9, vl x121), (5, vi (((foldR (fun r_ : Nat => labR m j (r_ : Int)) (numR m col) e i).1) + 1)), (19, vl (mI m 31 (((2 * ((i : Nat) : Int)) + col).toNat))), (18, vi x59), (17, vi ((i : Nat) : Int)), (6, vi ((foldR (fun r_ : Nat => labR m j (r_ : Int)) (numR m col) e i).2.1)), (0, vr 30), (1, vi j), (2, vi e), (3, vi col), (4, vi w)]) rfl (Nat.le_of_ble_eq_true rfl) rfl ?_
                  refine V_iinc (pc := 170) dX11_measure_170 (x := ((foldR (fun r_ : Nat => labR m j (r_ : Int)) (numR m col) e i).2.1)) (ls' := [(6, vi (((foldR (fun r_ : Nat => labR m j (r_ : Int)) (numR m col) e i).2.1) + 1)), (7, vl (((foldR (fun r_ : Nat => labR m j (r_ : Int)) (numR m col) e i).2.2.1) + (mI m 31 (((2 * ((i : Nat) : Int)) + col).toNat)))), (15, vl (mI m 31 (((2 * ((i : Nat) : Int)) + col).toNat))), (13, vl (mI m 31 (((2 * ((i : Nat) : Int)) + col).toNat))), (11, vl x140), (9, vl x121), (5, vi (((foldR (fun r_ : Nat => labR m j (r_ : Int)) (numR m col) e i).1) + 1)), (19, vl (mI m 31 (((2 * ((i : Nat) : Int)) + col).toNat))), (18, vi x59), (17, vi ((i : Nat) : Int)), (0, vr 30), (1, vi j), (2, vi e), (3, vi col), (4, vi w)]) rfl (by have hb := foldR_bd (L := e) (lab := (fun r_ : Nat => labR m j (r_ : Int))) hnum i; unfold I32; (try unfold I32 at *); omega) (Nat.le_of_ble_eq_true rfl) rfl ?_
                  refine V_iinc (pc := 173) dX11_measure_173 (x := ((i : Nat) : Int)) (ls' := [(17, vi (((i : Nat) : Int) + 1)), (6, vi (((foldR (fun r_ : Nat => labR m j (r_ : Int)) (numR m col) e i).2.1) + 1)), (7, vl (((foldR (fun r_ : Nat => labR m j (r_ : Int)) (numR m col) e i).2.2.1) + (mI m 31 (((2 * ((i : Nat) : Int)) + col).toNat)))), (15, vl (mI m 31 (((2 * ((i : Nat) : Int)) + col).toNat))), (13, vl (mI m 31 (((2 * ((i : Nat) : Int)) + col).toNat))), (11, vl x140), (9, vl x121), (5, vi (((foldR (fun r_ : Nat => labR m j (r_ : Int)) (numR m col) e i).1) + 1)), (19, vl (mI m 31 (((2 * ((i : Nat) : Int)) + col).toNat))), (18, vi x59), (0, vr 30), (1, vi j), (2, vi e), (3, vi col), (4, vi w)]) rfl (by unfold I32 at *; omega) (Nat.le_of_ble_eq_true rfl) rfl ?_
                  refine V_goto (pc := 176) dX11_measure_176 (tgt := 46) rfl ?_
                  try unfold cmpI at *
                  have ela : (labR m j (i : Int)) = x59 := by omega
                  have enu : (mI m 31 (2 * (i : Int) + col).toNat) = mI m 31 (((2 * ((i : Nat) : Int)) + col).toNat) := by omega
                  have e_ : foldR (fun r_ : Nat => labR m j (r_ : Int)) (numR m col) e (i + 1) = (((foldR (fun r_ : Nat => labR m j (r_ : Int)) (numR m col) e i).1) + 1, ((foldR (fun r_ : Nat => labR m j (r_ : Int)) (numR m col) e i).2.1) + 1, ((foldR (fun r_ : Nat => labR m j (r_ : Int)) (numR m col) e i).2.2.1) + (mI m 31 (((2 * ((i : Nat) : Int)) + col).toNat)), x121, x140, mI m 31 (((2 * ((i : Nat) : Int)) + col).toNat), mI m 31 (((2 * ((i : Nat) : Int)) + col).toNat)) := by
                    show stepR (labR m j (i : Int)) (mI m 31 (2 * (i : Int) + col).toNat) e (foldR (fun r_ : Nat => labR m j (r_ : Int)) (numR m col) e i) = _
                    rw [ela, enu]
                    unfold stepR
                    first
                      | (exfalso; omega)
                      | (rw [if_neg (by omega)])
                      | (rw [if_pos (by omega), if_pos (by omega)])
                      | (rw [if_pos (by omega), if_neg (by omega)]; simp only [Prod.mk.injEq]; repeat' apply And.intro
                         all_goals (first | trivial | omega))
                  have h_ := ih (i + 1) (by omega)
                  rw [e_] at h_
                  refine V_ls (ls' := [(17, vi (((i : Nat) : Int) + 1)), (15, vl (mI m 31 (((2 * ((i : Nat) : Int)) + col).toNat))), (13, vl (mI m 31 (((2 * ((i : Nat) : Int)) + col).toNat))), (11, vl x140), (9, vl x121), (7, vl (((foldR (fun r_ : Nat => labR m j (r_ : Int)) (numR m col) e i).2.2.1) + (mI m 31 (((2 * ((i : Nat) : Int)) + col).toNat)))), (6, vi (((foldR (fun r_ : Nat => labR m j (r_ : Int)) (numR m col) e i).2.1) + 1)), (5, vi (((foldR (fun r_ : Nat => labR m j (r_ : Int)) (numR m col) e i).1) + 1)), (0, vr 30), (1, vi j), (2, vi e), (3, vi col), (4, vi w)]) (by intro q_ h_; simp only [List.mem_cons, List.not_mem_nil, or_false] at h_ ⊢; rcases h_ with rfl | rfl | rfl | rfl | rfl | rfl | rfl | rfl | rfl | rfl | rfl | rfl | rfl <;> simp) ?_
                  exact h_
              · skip
                refine V_ld (pc := 131) dX11_measure_131 (v := vl (mI m 31 (((2 * ((i : Nat) : Int)) + col).toNat))) rfl rfl ?_
                refine V_goto (pc := 133) dX11_measure_133 (tgt := 143) rfl ?_
                refine V_st (pc := 143) dX11_measure_143 (ls' := [(11, vl (mI m 31 (((2 * ((i : Nat) : Int)) + col).toNat))), (9, vl x121), (5, vi (((foldR (fun r_ : Nat => labR m j (r_ : Int)) (numR m col) e i).1) + 1)), (19, vl (mI m 31 (((2 * ((i : Nat) : Int)) + col).toNat))), (18, vi x59), (17, vi ((i : Nat) : Int)), (15, vl ((foldR (fun r_ : Nat => labR m j (r_ : Int)) (numR m col) e i).2.2.2.2.2.2)), (13, vl ((foldR (fun r_ : Nat => labR m j (r_ : Int)) (numR m col) e i).2.2.2.2.2.1)), (7, vl ((foldR (fun r_ : Nat => labR m j (r_ : Int)) (numR m col) e i).2.2.1)), (6, vi ((foldR (fun r_ : Nat => labR m j (r_ : Int)) (numR m col) e i).2.1)), (0, vr 30), (1, vi j), (2, vi e), (3, vi col), (4, vi w)]) rfl (Nat.le_of_ble_eq_true rfl) rfl ?_
                refine V_ld (pc := 145) dX11_measure_145 (v := vi ((foldR (fun r_ : Nat => labR m j (r_ : Int)) (numR m col) e i).2.1)) rfl rfl ?_
                refine V_if_ne (pc := 147) dX11_measure_147 (tgt := 155) rfl (fun h147 => ?_) (fun h147 => ?_)
                · skip
                  refine V_ld (pc := 155) dX11_measure_155 (v := vl ((foldR (fun r_ : Nat => labR m j (r_ : Int)) (numR m col) e i).2.2.2.2.2.1)) rfl rfl ?_
                  refine V_st (pc := 157) dX11_measure_157 (ls' := [(13, vl ((foldR (fun r_ : Nat => labR m j (r_ : Int)) (numR m col) e i).2.2.2.2.2.1)), (11, vl (mI m 31 (((2 * ((i : Nat) : Int)) + col).toNat))), (9, vl x121), (5, vi (((foldR (fun r_ : Nat => labR m j (r_ : Int)) (numR m col) e i).1) + 1)), (19, vl (mI m 31 (((2 * ((i : Nat) : Int)) + col).toNat))), (18, vi x59), (17, vi ((i : Nat) : Int)), (15, vl ((foldR (fun r_ : Nat => labR m j (r_ : Int)) (numR m col) e i).2.2.2.2.2.2)), (7, vl ((foldR (fun r_ : Nat => labR m j (r_ : Int)) (numR m col) e i).2.2.1)), (6, vi ((foldR (fun r_ : Nat => labR m j (r_ : Int)) (numR m col) e i).2.1)), (0, vr 30), (1, vi j), (2, vi e), (3, vi col), (4, vi w)]) rfl (Nat.le_of_ble_eq_true rfl) rfl ?_
                  refine V_ld (pc := 159) dX11_measure_159 (v := vl (mI m 31 (((2 * ((i : Nat) : Int)) + col).toNat))) rfl rfl ?_
                  refine V_st (pc := 161) dX11_measure_161 (ls' := [(15, vl (mI m 31 (((2 * ((i : Nat) : Int)) + col).toNat))), (13, vl ((foldR (fun r_ : Nat => labR m j (r_ : Int)) (numR m col) e i).2.2.2.2.2.1)), (11, vl (mI m 31 (((2 * ((i : Nat) : Int)) + col).toNat))), (9, vl x121), (5, vi (((foldR (fun r_ : Nat => labR m j (r_ : Int)) (numR m col) e i).1) + 1)), (19, vl (mI m 31 (((2 * ((i : Nat) : Int)) + col).toNat))), (18, vi x59), (17, vi ((i : Nat) : Int)), (7, vl ((foldR (fun r_ : Nat => labR m j (r_ : Int)) (numR m col) e i).2.2.1)), (6, vi ((foldR (fun r_ : Nat => labR m j (r_ : Int)) (numR m col) e i).2.1)), (0, vr 30), (1, vi j), (2, vi e), (3, vi col), (4, vi w)]) rfl (Nat.le_of_ble_eq_true rfl) rfl ?_
                  refine V_ld (pc := 163) dX11_measure_163 (v := vl ((foldR (fun r_ : Nat => labR m j (r_ : Int)) (numR m col) e i).2.2.1)) rfl rfl ?_
                  refine V_ld (pc := 165) dX11_measure_165 (v := vl (mI m 31 (((2 * ((i : Nat) : Int)) + col).toNat))) rfl rfl ?_
                  refine V_ladd (pc := 167) dX11_measure_167 (by have hb := foldR_bd (L := e) (lab := (fun r_ : Nat => labR m j (r_ : Int))) hnum i; unfold I64; (try unfold I32 at *); omega) ?_
                  refine V_st (pc := 168) dX11_measure_168 (ls' := [(7, vl (((foldR (fun r_ : Nat => labR m j (r_ : Int)) (numR m col) e i).2.2.1) + (mI m 31 (((2 * ((i : Nat) : Int)) + col).toNat)))), (15, vl (mI m 31 (((2 * ((i : Nat) : Int)) + col).toNat))), (13, vl ((foldR (fun r_ : Nat => labR m j (r_ : Int)) (numR m col) e i).2.2.2.2.2.1)), (11, vl (mI m 31 (((2 * ((i : Nat) : Int)) + col).toNat))), (9, vl x121), (5, vi (((foldR (fun r_ : Nat => labR m j (r_ : Int)) (numR m col) e i).1) + 1)), (19, vl (mI m 31 (((2 * ((i : Nat) : Int)) + col).toNat))), (18, vi x59), (17, vi ((i : Nat) : Int)), (6, vi ((foldR (fun r_ : Nat => labR m j (r_ : Int)) (numR m col) e i).2.1)), (0, vr 30), (1, vi j), (2, vi e), (3, vi col), (4, vi w)]) rfl (Nat.le_of_ble_eq_true rfl) rfl ?_
                  refine V_iinc (pc := 170) dX11_measure_170 (x := ((foldR (fun r_ : Nat => labR m j (r_ : Int)) (numR m col) e i).2.1)) (ls' := [(6, vi (((foldR (fun r_ : Nat => labR m j (r_ : Int)) (numR m col) e i).2.1) + 1)), (7, vl (((foldR (fun r_ : Nat => labR m j (r_ : Int)) (numR m col) e i).2.2.1) + (mI m 31 (((2 * ((i : Nat) : Int)) + col).toNat)))), (15, vl (mI m 31 (((2 * ((i : Nat) : Int)) + col).toNat))), (13, vl ((foldR (fun r_ : Nat => labR m j (r_ : Int)) (numR m col) e i).2.2.2.2.2.1)), (11, vl (mI m 31 (((2 * ((i : Nat) : Int)) + col).toNat))), (9, vl x121), (5, vi (((foldR (fun r_ : Nat => labR m j (r_ : Int)) (numR m col) e i).1) + 1)), (19, vl (mI m 31 (((2 * ((i : Nat) : Int)) + col).toNat))), (18, vi x59), (17, vi ((i : Nat) : Int)), (0, vr 30), (1, vi j), (2, vi e), (3, vi col), (4, vi w)]) rfl (by have hb := foldR_bd (L := e) (lab := (fun r_ : Nat => labR m j (r_ : Int))) hnum i; unfold I32; (try unfold I32 at *); omega) (Nat.le_of_ble_eq_true rfl) rfl ?_
                  refine V_iinc (pc := 173) dX11_measure_173 (x := ((i : Nat) : Int)) (ls' := [(17, vi (((i : Nat) : Int) + 1)), (6, vi (((foldR (fun r_ : Nat => labR m j (r_ : Int)) (numR m col) e i).2.1) + 1)), (7, vl (((foldR (fun r_ : Nat => labR m j (r_ : Int)) (numR m col) e i).2.2.1) + (mI m 31 (((2 * ((i : Nat) : Int)) + col).toNat)))), (15, vl (mI m 31 (((2 * ((i : Nat) : Int)) + col).toNat))), (13, vl ((foldR (fun r_ : Nat => labR m j (r_ : Int)) (numR m col) e i).2.2.2.2.2.1)), (11, vl (mI m 31 (((2 * ((i : Nat) : Int)) + col).toNat))), (9, vl x121), (5, vi (((foldR (fun r_ : Nat => labR m j (r_ : Int)) (numR m col) e i).1) + 1)), (19, vl (mI m 31 (((2 * ((i : Nat) : Int)) + col).toNat))), (18, vi x59), (0, vr 30), (1, vi j), (2, vi e), (3, vi col), (4, vi w)]) rfl (by unfold I32 at *; omega) (Nat.le_of_ble_eq_true rfl) rfl ?_
                  refine V_goto (pc := 176) dX11_measure_176 (tgt := 46) rfl ?_
                  try unfold cmpI at *
                  have ela : (labR m j (i : Int)) = x59 := by omega
                  have enu : (mI m 31 (2 * (i : Int) + col).toNat) = mI m 31 (((2 * ((i : Nat) : Int)) + col).toNat) := by omega
                  have e_ : foldR (fun r_ : Nat => labR m j (r_ : Int)) (numR m col) e (i + 1) = (((foldR (fun r_ : Nat => labR m j (r_ : Int)) (numR m col) e i).1) + 1, ((foldR (fun r_ : Nat => labR m j (r_ : Int)) (numR m col) e i).2.1) + 1, ((foldR (fun r_ : Nat => labR m j (r_ : Int)) (numR m col) e i).2.2.1) + (mI m 31 (((2 * ((i : Nat) : Int)) + col).toNat)), x121, mI m 31 (((2 * ((i : Nat) : Int)) + col).toNat), (foldR (fun r_ : Nat => labR m j (r_ : Int)) (numR m col) e i).2.2.2.2.2.1, mI m 31 (((2 * ((i : Nat) : Int)) + col).toNat)) := by
                    show stepR (labR m j (i : Int)) (mI m 31 (2 * (i : Int) + col).toNat) e (foldR (fun r_ : Nat => labR m j (r_ : Int)) (numR m col) e i) = _
                    rw [ela, enu]
                    unfold stepR
                    first
                      | (exfalso; omega)
                      | (rw [if_neg (by omega)])
                      | (rw [if_pos (by omega), if_pos (by omega)])
                      | (rw [if_pos (by omega), if_neg (by omega)]; simp only [Prod.mk.injEq]; repeat' apply And.intro
                         all_goals (first | trivial | omega))
                  have h_ := ih (i + 1) (by omega)
                  rw [e_] at h_
                  refine V_ls (ls' := [(17, vi (((i : Nat) : Int) + 1)), (15, vl (mI m 31 (((2 * ((i : Nat) : Int)) + col).toNat))), (13, vl ((foldR (fun r_ : Nat => labR m j (r_ : Int)) (numR m col) e i).2.2.2.2.2.1)), (11, vl (mI m 31 (((2 * ((i : Nat) : Int)) + col).toNat))), (9, vl x121), (7, vl (((foldR (fun r_ : Nat => labR m j (r_ : Int)) (numR m col) e i).2.2.1) + (mI m 31 (((2 * ((i : Nat) : Int)) + col).toNat)))), (6, vi (((foldR (fun r_ : Nat => labR m j (r_ : Int)) (numR m col) e i).2.1) + 1)), (5, vi (((foldR (fun r_ : Nat => labR m j (r_ : Int)) (numR m col) e i).1) + 1)), (0, vr 30), (1, vi j), (2, vi e), (3, vi col), (4, vi w)]) (by intro q_ h_; simp only [List.mem_cons, List.not_mem_nil, or_false] at h_ ⊢; rcases h_ with rfl | rfl | rfl | rfl | rfl | rfl | rfl | rfl | rfl | rfl | rfl | rfl | rfl <;> simp) ?_
                  exact h_
                · skip
                  refine V_ld (pc := 150) dX11_measure_150 (v := vl (mI m 31 (((2 * ((i : Nat) : Int)) + col).toNat))) rfl rfl ?_
                  refine V_goto (pc := 152) dX11_measure_152 (tgt := 157) rfl ?_
                  refine V_st (pc := 157) dX11_measure_157 (ls' := [(13, vl (mI m 31 (((2 * ((i : Nat) : Int)) + col).toNat))), (11, vl (mI m 31 (((2 * ((i : Nat) : Int)) + col).toNat))), (9, vl x121), (5, vi (((foldR (fun r_ : Nat => labR m j (r_ : Int)) (numR m col) e i).1) + 1)), (19, vl (mI m 31 (((2 * ((i : Nat) : Int)) + col).toNat))), (18, vi x59), (17, vi ((i : Nat) : Int)), (15, vl ((foldR (fun r_ : Nat => labR m j (r_ : Int)) (numR m col) e i).2.2.2.2.2.2)), (7, vl ((foldR (fun r_ : Nat => labR m j (r_ : Int)) (numR m col) e i).2.2.1)), (6, vi ((foldR (fun r_ : Nat => labR m j (r_ : Int)) (numR m col) e i).2.1)), (0, vr 30), (1, vi j), (2, vi e), (3, vi col), (4, vi w)]) rfl (Nat.le_of_ble_eq_true rfl) rfl ?_
                  refine V_ld (pc := 159) dX11_measure_159 (v := vl (mI m 31 (((2 * ((i : Nat) : Int)) + col).toNat))) rfl rfl ?_
                  refine V_st (pc := 161) dX11_measure_161 (ls' := [(15, vl (mI m 31 (((2 * ((i : Nat) : Int)) + col).toNat))), (13, vl (mI m 31 (((2 * ((i : Nat) : Int)) + col).toNat))), (11, vl (mI m 31 (((2 * ((i : Nat) : Int)) + col).toNat))), (9, vl x121), (5, vi (((foldR (fun r_ : Nat => labR m j (r_ : Int)) (numR m col) e i).1) + 1)), (19, vl (mI m 31 (((2 * ((i : Nat) : Int)) + col).toNat))), (18, vi x59), (17, vi ((i : Nat) : Int)), (7, vl ((foldR (fun r_ : Nat => labR m j (r_ : Int)) (numR m col) e i).2.2.1)), (6, vi ((foldR (fun r_ : Nat => labR m j (r_ : Int)) (numR m col) e i).2.1)), (0, vr 30), (1, vi j), (2, vi e), (3, vi col), (4, vi w)]) rfl (Nat.le_of_ble_eq_true rfl) rfl ?_
                  refine V_ld (pc := 163) dX11_measure_163 (v := vl ((foldR (fun r_ : Nat => labR m j (r_ : Int)) (numR m col) e i).2.2.1)) rfl rfl ?_
                  refine V_ld (pc := 165) dX11_measure_165 (v := vl (mI m 31 (((2 * ((i : Nat) : Int)) + col).toNat))) rfl rfl ?_
                  refine V_ladd (pc := 167) dX11_measure_167 (by have hb := foldR_bd (L := e) (lab := (fun r_ : Nat => labR m j (r_ : Int))) hnum i; unfold I64; (try unfold I32 at *); omega) ?_
                  refine V_st (pc := 168) dX11_measure_168 (ls' := [(7, vl (((foldR (fun r_ : Nat => labR m j (r_ : Int)) (numR m col) e i).2.2.1) + (mI m 31 (((2 * ((i : Nat) : Int)) + col).toNat)))), (15, vl (mI m 31 (((2 * ((i : Nat) : Int)) + col).toNat))), (13, vl (mI m 31 (((2 * ((i : Nat) : Int)) + col).toNat))), (11, vl (mI m 31 (((2 * ((i : Nat) : Int)) + col).toNat))), (9, vl x121), (5, vi (((foldR (fun r_ : Nat => labR m j (r_ : Int)) (numR m col) e i).1) + 1)), (19, vl (mI m 31 (((2 * ((i : Nat) : Int)) + col).toNat))), (18, vi x59), (17, vi ((i : Nat) : Int)), (6, vi ((foldR (fun r_ : Nat => labR m j (r_ : Int)) (numR m col) e i).2.1)), (0, vr 30), (1, vi j), (2, vi e), (3, vi col), (4, vi w)]) rfl (Nat.le_of_ble_eq_true rfl) rfl ?_
                  refine V_iinc (pc := 170) dX11_measure_170 (x := ((foldR (fun r_ : Nat => labR m j (r_ : Int)) (numR m col) e i).2.1)) (ls' := [(6, vi (((foldR (fun r_ : Nat => labR m j (r_ : Int)) (numR m col) e i).2.1) + 1)), (7, vl (((foldR (fun r_ : Nat => labR m j (r_ : Int)) (numR m col) e i).2.2.1) + (mI m 31 (((2 * ((i : Nat) : Int)) + col).toNat)))), (15, vl (mI m 31 (((2 * ((i : Nat) : Int)) + col).toNat))), (13, vl (mI m 31 (((2 * ((i : Nat) : Int)) + col).toNat))), (11, vl (mI m 31 (((2 * ((i : Nat) : Int)) + col).toNat))), (9, vl x121), (5, vi (((foldR (fun r_ : Nat => labR m j (r_ : Int)) (numR m col) e i).1) + 1)), (19, vl (mI m 31 (((2 * ((i : Nat) : Int)) + col).toNat))), (18, vi x59), (17, vi ((i : Nat) : Int)), (0, vr 30), (1, vi j), (2, vi e), (3, vi col), (4, vi w)]) rfl (by have hb := foldR_bd (L := e) (lab := (fun r_ : Nat => labR m j (r_ : Int))) hnum i; unfold I32; (try unfold I32 at *); omega) (Nat.le_of_ble_eq_true rfl) rfl ?_
                  refine V_iinc (pc := 173) dX11_measure_173 (x := ((i : Nat) : Int)) (ls' := [(17, vi (((i : Nat) : Int) + 1)), (6, vi (((foldR (fun r_ : Nat => labR m j (r_ : Int)) (numR m col) e i).2.1) + 1)), (7, vl (((foldR (fun r_ : Nat => labR m j (r_ : Int)) (numR m col) e i).2.2.1) + (mI m 31 (((2 * ((i : Nat) : Int)) + col).toNat)))), (15, vl (mI m 31 (((2 * ((i : Nat) : Int)) + col).toNat))), (13, vl (mI m 31 (((2 * ((i : Nat) : Int)) + col).toNat))), (11, vl (mI m 31 (((2 * ((i : Nat) : Int)) + col).toNat))), (9, vl x121), (5, vi (((foldR (fun r_ : Nat => labR m j (r_ : Int)) (numR m col) e i).1) + 1)), (19, vl (mI m 31 (((2 * ((i : Nat) : Int)) + col).toNat))), (18, vi x59), (0, vr 30), (1, vi j), (2, vi e), (3, vi col), (4, vi w)]) rfl (by unfold I32 at *; omega) (Nat.le_of_ble_eq_true rfl) rfl ?_
                  refine V_goto (pc := 176) dX11_measure_176 (tgt := 46) rfl ?_
                  try unfold cmpI at *
                  have ela : (labR m j (i : Int)) = x59 := by omega
                  have enu : (mI m 31 (2 * (i : Int) + col).toNat) = mI m 31 (((2 * ((i : Nat) : Int)) + col).toNat) := by omega
                  have e_ : foldR (fun r_ : Nat => labR m j (r_ : Int)) (numR m col) e (i + 1) = (((foldR (fun r_ : Nat => labR m j (r_ : Int)) (numR m col) e i).1) + 1, ((foldR (fun r_ : Nat => labR m j (r_ : Int)) (numR m col) e i).2.1) + 1, ((foldR (fun r_ : Nat => labR m j (r_ : Int)) (numR m col) e i).2.2.1) + (mI m 31 (((2 * ((i : Nat) : Int)) + col).toNat)), x121, mI m 31 (((2 * ((i : Nat) : Int)) + col).toNat), mI m 31 (((2 * ((i : Nat) : Int)) + col).toNat), mI m 31 (((2 * ((i : Nat) : Int)) + col).toNat)) := by
                    show stepR (labR m j (i : Int)) (mI m 31 (2 * (i : Int) + col).toNat) e (foldR (fun r_ : Nat => labR m j (r_ : Int)) (numR m col) e i) = _
                    rw [ela, enu]
                    unfold stepR
                    first
                      | (exfalso; omega)
                      | (rw [if_neg (by omega)])
                      | (rw [if_pos (by omega), if_pos (by omega)])
                      | (rw [if_pos (by omega), if_neg (by omega)]; simp only [Prod.mk.injEq]; repeat' apply And.intro
                         all_goals (first | trivial | omega))
                  have h_ := ih (i + 1) (by omega)
                  rw [e_] at h_
                  refine V_ls (ls' := [(17, vi (((i : Nat) : Int) + 1)), (15, vl (mI m 31 (((2 * ((i : Nat) : Int)) + col).toNat))), (13, vl (mI m 31 (((2 * ((i : Nat) : Int)) + col).toNat))), (11, vl (mI m 31 (((2 * ((i : Nat) : Int)) + col).toNat))), (9, vl x121), (7, vl (((foldR (fun r_ : Nat => labR m j (r_ : Int)) (numR m col) e i).2.2.1) + (mI m 31 (((2 * ((i : Nat) : Int)) + col).toNat)))), (6, vi (((foldR (fun r_ : Nat => labR m j (r_ : Int)) (numR m col) e i).2.1) + 1)), (5, vi (((foldR (fun r_ : Nat => labR m j (r_ : Int)) (numR m col) e i).1) + 1)), (0, vr 30), (1, vi j), (2, vi e), (3, vi col), (4, vi w)]) (by intro q_ h_; simp only [List.mem_cons, List.not_mem_nil, or_false] at h_ ⊢; rcases h_ with rfl | rfl | rfl | rfl | rfl | rfl | rfl | rfl | rfl | rfl | rfl | rfl | rfl <;> simp) ?_
                  exact h_
            · skip
              refine V_ld (pc := 112) dX11_measure_112 (v := vl (mI m 31 (((2 * ((i : Nat) : Int)) + col).toNat))) rfl rfl ?_
              refine V_goto (pc := 114) dX11_measure_114 (tgt := 124) rfl ?_
              refine V_st (pc := 124) dX11_measure_124 (ls' := [(9, vl (mI m 31 (((2 * ((i : Nat) : Int)) + col).toNat))), (5, vi (((foldR (fun r_ : Nat => labR m j (r_ : Int)) (numR m col) e i).1) + 1)), (19, vl (mI m 31 (((2 * ((i : Nat) : Int)) + col).toNat))), (18, vi x59), (17, vi ((i : Nat) : Int)), (15, vl ((foldR (fun r_ : Nat => labR m j (r_ : Int)) (numR m col) e i).2.2.2.2.2.2)), (13, vl ((foldR (fun r_ : Nat => labR m j (r_ : Int)) (numR m col) e i).2.2.2.2.2.1)), (11, vl ((foldR (fun r_ : Nat => labR m j (r_ : Int)) (numR m col) e i).2.2.2.2.1)), (7, vl ((foldR (fun r_ : Nat => labR m j (r_ : Int)) (numR m col) e i).2.2.1)), (6, vi ((foldR (fun r_ : Nat => labR m j (r_ : Int)) (numR m col) e i).2.1)), (0, vr 30), (1, vi j), (2, vi e), (3, vi col), (4, vi w)]) rfl (Nat.le_of_ble_eq_true rfl) rfl ?_
              refine V_ld (pc := 126) dX11_measure_126 (v := vi ((foldR (fun r_ : Nat => labR m j (r_ : Int)) (numR m col) e i).2.1)) rfl rfl ?_
              refine V_if_ne (pc := 128) dX11_measure_128 (tgt := 136) rfl (fun h128 => ?_) (fun h128 => ?_)
              · skip
                refine V_ld (pc := 136) dX11_measure_136 (v := vl ((foldR (fun r_ : Nat => labR m j (r_ : Int)) (numR m col) e i).2.2.2.2.1)) rfl rfl ?_
                refine V_ld (pc := 138) dX11_measure_138 (v := vl (mI m 31 (((2 * ((i : Nat) : Int)) + col).toNat))) rfl rfl ?_
                refine V_callS (pc := 140) dX11_measure_140 (F' := 0) (As := [vl ((foldR (fun r_ : Nat => labR m j (r_ : Int)) (numR m col) e i).2.2.2.2.1), vl (mI m 31 (((2 * ((i : Nat) : Int)) + col).toNat))]) (st := []) cw_RX11_389 rfl rfl (Nat.le_of_ble_eq_true rfl) (by omega) (j_max_l  m ((foldR (fun r_ : Nat => labR m j (r_ : Int)) (numR m col) e i).2.2.2.2.1) (mI m 31 (((2 * ((i : Nat) : Int)) + col).toNat))   ) ?_
                rintro _ _ ⟨x140, rfl, hx140, rfl⟩ ok140 le140
                refine V_st (pc := 143) dX11_measure_143 (ls' := [(11, vl x140), (9, vl (mI m 31 (((2 * ((i : Nat) : Int)) + col).toNat))), (5, vi (((foldR (fun r_ : Nat => labR m j (r_ : Int)) (numR m col) e i).1) + 1)), (19, vl (mI m 31 (((2 * ((i : Nat) : Int)) + col).toNat))), (18, vi x59), (17, vi ((i : Nat) : Int)), (15, vl ((foldR (fun r_ : Nat => labR m j (r_ : Int)) (numR m col) e i).2.2.2.2.2.2)), (13, vl ((foldR (fun r_ : Nat => labR m j (r_ : Int)) (numR m col) e i).2.2.2.2.2.1)), (7, vl ((foldR (fun r_ : Nat => labR m j (r_ : Int)) (numR m col) e i).2.2.1)), (6, vi ((foldR (fun r_ : Nat => labR m j (r_ : Int)) (numR m col) e i).2.1)), (0, vr 30), (1, vi j), (2, vi e), (3, vi col), (4, vi w)]) rfl (Nat.le_of_ble_eq_true rfl) rfl ?_
                refine V_ld (pc := 145) dX11_measure_145 (v := vi ((foldR (fun r_ : Nat => labR m j (r_ : Int)) (numR m col) e i).2.1)) rfl rfl ?_
                refine V_if_ne (pc := 147) dX11_measure_147 (tgt := 155) rfl (fun h147 => ?_) (fun h147 => ?_)
                · skip
                  refine V_ld (pc := 155) dX11_measure_155 (v := vl ((foldR (fun r_ : Nat => labR m j (r_ : Int)) (numR m col) e i).2.2.2.2.2.1)) rfl rfl ?_
                  refine V_st (pc := 157) dX11_measure_157 (ls' := [(13, vl ((foldR (fun r_ : Nat => labR m j (r_ : Int)) (numR m col) e i).2.2.2.2.2.1)), (11, vl x140), (9, vl (mI m 31 (((2 * ((i : Nat) : Int)) + col).toNat))), (5, vi (((foldR (fun r_ : Nat => labR m j (r_ : Int)) (numR m col) e i).1) + 1)), (19, vl (mI m 31 (((2 * ((i : Nat) : Int)) + col).toNat))), (18, vi x59), (17, vi ((i : Nat) : Int)), (15, vl ((foldR (fun r_ : Nat => labR m j (r_ : Int)) (numR m col) e i).2.2.2.2.2.2)), (7, vl ((foldR (fun r_ : Nat => labR m j (r_ : Int)) (numR m col) e i).2.2.1)), (6, vi ((foldR (fun r_ : Nat => labR m j (r_ : Int)) (numR m col) e i).2.1)), (0, vr 30), (1, vi j), (2, vi e), (3, vi col), (4, vi w)]) rfl (Nat.le_of_ble_eq_true rfl) rfl ?_
                  refine V_ld (pc := 159) dX11_measure_159 (v := vl (mI m 31 (((2 * ((i : Nat) : Int)) + col).toNat))) rfl rfl ?_
                  refine V_st (pc := 161) dX11_measure_161 (ls' := [(15, vl (mI m 31 (((2 * ((i : Nat) : Int)) + col).toNat))), (13, vl ((foldR (fun r_ : Nat => labR m j (r_ : Int)) (numR m col) e i).2.2.2.2.2.1)), (11, vl x140), (9, vl (mI m 31 (((2 * ((i : Nat) : Int)) + col).toNat))), (5, vi (((foldR (fun r_ : Nat => labR m j (r_ : Int)) (numR m col) e i).1) + 1)), (19, vl (mI m 31 (((2 * ((i : Nat) : Int)) + col).toNat))), (18, vi x59), (17, vi ((i : Nat) : Int)), (7, vl ((foldR (fun r_ : Nat => labR m j (r_ : Int)) (numR m col) e i).2.2.1)), (6, vi ((foldR (fun r_ : Nat => labR m j (r_ : Int)) (numR m col) e i).2.1)), (0, vr 30), (1, vi j), (2, vi e), (3, vi col), (4, vi w)]) rfl (Nat.le_of_ble_eq_true rfl) rfl ?_
                  refine V_ld (pc := 163) dX11_measure_163 (v := vl ((foldR (fun r_ : Nat => labR m j (r_ : Int)) (numR m col) e i).2.2.1)) rfl rfl ?_
                  refine V_ld (pc := 165) dX11_measure_165 (v := vl (mI m 31 (((2 * ((i : Nat) : Int)) + col).toNat))) rfl rfl ?_
                  refine V_ladd (pc := 167) dX11_measure_167 (by have hb := foldR_bd (L := e) (lab := (fun r_ : Nat => labR m j (r_ : Int))) hnum i; unfold I64; (try unfold I32 at *); omega) ?_
                  refine V_st (pc := 168) dX11_measure_168 (ls' := [(7, vl (((foldR (fun r_ : Nat => labR m j (r_ : Int)) (numR m col) e i).2.2.1) + (mI m 31 (((2 * ((i : Nat) : Int)) + col).toNat)))), (15, vl (mI m 31 (((2 * ((i : Nat) : Int)) + col).toNat))), (13, vl ((foldR (fun r_ : Nat => labR m j (r_ : Int)) (numR m col) e i).2.2.2.2.2.1)), (11, vl x140), (9, vl (mI m 31 (((2 * ((i : Nat) : Int)) + col).toNat))), (5, vi (((foldR (fun r_ : Nat => labR m j (r_ : Int)) (numR m col) e i).1) + 1)), (19, vl (mI m 31 (((2 * ((i : Nat) : Int)) + col).toNat))), (18, vi x59), (17, vi ((i : Nat) : Int)), (6, vi ((foldR (fun r_ : Nat => labR m j (r_ : Int)) (numR m col) e i).2.1)), (0, vr 30), (1, vi j), (2, vi e), (3, vi col), (4, vi w)]) rfl (Nat.le_of_ble_eq_true rfl) rfl ?_
                  refine V_iinc (pc := 170) dX11_measure_170 (x := ((foldR (fun r_ : Nat => labR m j (r_ : Int)) (numR m col) e i).2.1)) (ls' := [(6, vi (((foldR (fun r_ : Nat => labR m j (r_ : Int)) (numR m col) e i).2.1) + 1)), (7, vl (((foldR (fun r_ : Nat => labR m j (r_ : Int)) (numR m col) e i).2.2.1) + (mI m 31 (((2 * ((i : Nat) : Int)) + col).toNat)))), (15, vl (mI m 31 (((2 * ((i : Nat) : Int)) + col).toNat))), (13, vl ((foldR (fun r_ : Nat => labR m j (r_ : Int)) (numR m col) e i).2.2.2.2.2.1)), (11, vl x140), (9, vl (mI m 31 (((2 * ((i : Nat) : Int)) + col).toNat))), (5, vi (((foldR (fun r_ : Nat => labR m j (r_ : Int)) (numR m col) e i).1) + 1)), (19, vl (mI m 31 (((2 * ((i : Nat) : Int)) + col).toNat))), (18, vi x59), (17, vi ((i : Nat) : Int)), (0, vr 30), (1, vi j), (2, vi e), (3, vi col), (4, vi w)]) rfl (by have hb := foldR_bd (L := e) (lab := (fun r_ : Nat => labR m j (r_ : Int))) hnum i; unfold I32; (try unfold I32 at *); omega) (Nat.le_of_ble_eq_true rfl) rfl ?_
                  refine V_iinc (pc := 173) dX11_measure_173 (x := ((i : Nat) : Int)) (ls' := [(17, vi (((i : Nat) : Int) + 1)), (6, vi (((foldR (fun r_ : Nat => labR m j (r_ : Int)) (numR m col) e i).2.1) + 1)), (7, vl (((foldR (fun r_ : Nat => labR m j (r_ : Int)) (numR m col) e i).2.2.1) + (mI m 31 (((2 * ((i : Nat) : Int)) + col).toNat)))), (15, vl (mI m 31 (((2 * ((i : Nat) : Int)) + col).toNat))), (13, vl ((foldR (fun r_ : Nat => labR m j (r_ : Int)) (numR m col) e i).2.2.2.2.2.1)), (11, vl x140), (9, vl (mI m 31 (((2 * ((i : Nat) : Int)) + col).toNat))), (5, vi (((foldR (fun r_ : Nat => labR m j (r_ : Int)) (numR m col) e i).1) + 1)), (19, vl (mI m 31 (((2 * ((i : Nat) : Int)) + col).toNat))), (18, vi x59), (0, vr 30), (1, vi j), (2, vi e), (3, vi col), (4, vi w)]) rfl (by unfold I32 at *; omega) (Nat.le_of_ble_eq_true rfl) rfl ?_
                  refine V_goto (pc := 176) dX11_measure_176 (tgt := 46) rfl ?_
                  try unfold cmpI at *
                  have ela : (labR m j (i : Int)) = x59 := by omega
                  have enu : (mI m 31 (2 * (i : Int) + col).toNat) = mI m 31 (((2 * ((i : Nat) : Int)) + col).toNat) := by omega
                  have e_ : foldR (fun r_ : Nat => labR m j (r_ : Int)) (numR m col) e (i + 1) = (((foldR (fun r_ : Nat => labR m j (r_ : Int)) (numR m col) e i).1) + 1, ((foldR (fun r_ : Nat => labR m j (r_ : Int)) (numR m col) e i).2.1) + 1, ((foldR (fun r_ : Nat => labR m j (r_ : Int)) (numR m col) e i).2.2.1) + (mI m 31 (((2 * ((i : Nat) : Int)) + col).toNat)), mI m 31 (((2 * ((i : Nat) : Int)) + col).toNat), x140, (foldR (fun r_ : Nat => labR m j (r_ : Int)) (numR m col) e i).2.2.2.2.2.1, mI m 31 (((2 * ((i : Nat) : Int)) + col).toNat)) := by
                    show stepR (labR m j (i : Int)) (mI m 31 (2 * (i : Int) + col).toNat) e (foldR (fun r_ : Nat => labR m j (r_ : Int)) (numR m col) e i) = _
                    rw [ela, enu]
                    unfold stepR
                    first
                      | (exfalso; omega)
                      | (rw [if_neg (by omega)])
                      | (rw [if_pos (by omega), if_pos (by omega)])
                      | (rw [if_pos (by omega), if_neg (by omega)]; simp only [Prod.mk.injEq]; repeat' apply And.intro
                         all_goals (first | trivial | omega))
                  have h_ := ih (i + 1) (by omega)
                  rw [e_] at h_
                  refine V_ls (ls' := [(17, vi (((i : Nat) : Int) + 1)), (15, vl (mI m 31 (((2 * ((i : Nat) : Int)) + col).toNat))), (13, vl ((foldR (fun r_ : Nat => labR m j (r_ : Int)) (numR m col) e i).2.2.2.2.2.1)), (11, vl x140), (9, vl (mI m 31 (((2 * ((i : Nat) : Int)) + col).toNat))), (7, vl (((foldR (fun r_ : Nat => labR m j (r_ : Int)) (numR m col) e i).2.2.1) + (mI m 31 (((2 * ((i : Nat) : Int)) + col).toNat)))), (6, vi (((foldR (fun r_ : Nat => labR m j (r_ : Int)) (numR m col) e i).2.1) + 1)), (5, vi (((foldR (fun r_ : Nat => labR m j (r_ : Int)) (numR m col) e i).1) + 1)), (0, vr 30), (1, vi j), (2, vi e), (3, vi col), (4, vi w)]) (by intro q_ h_; simp only [List.mem_cons, List.not_mem_nil, or_false] at h_ ⊢; rcases h_ with rfl | rfl | rfl | rfl | rfl | rfl | rfl | rfl | rfl | rfl | rfl | rfl | rfl <;> simp) ?_
                  exact h_
                · skip
                  refine V_ld (pc := 150) dX11_measure_150 (v := vl (mI m 31 (((2 * ((i : Nat) : Int)) + col).toNat))) rfl rfl ?_
                  refine V_goto (pc := 152) dX11_measure_152 (tgt := 157) rfl ?_
                  refine V_st (pc := 157) dX11_measure_157 (ls' := [(13, vl (mI m 31 (((2 * ((i : Nat) : Int)) + col).toNat))), (11, vl x140), (9, vl (mI m 31 (((2 * ((i : Nat) : Int)) + col).toNat))), (5, vi (((foldR (fun r_ : Nat => labR m j (r_ : Int)) (numR m col) e i).1) + 1)), (19, vl (mI m 31 (((2 * ((i : Nat) : Int)) + col).toNat))), (18, vi x59), (17, vi ((i : Nat) : Int)), (15, vl ((foldR (fun r_ : Nat => labR m j (r_ : Int)) (numR m col) e i).2.2.2.2.2.2)), (7, vl ((foldR (fun r_ : Nat => labR m j (r_ : Int)) (numR m col) e i).2.2.1)), (6, vi ((foldR (fun r_ : Nat => labR m j (r_ : Int)) (numR m col) e i).2.1)), (0, vr 30), (1, vi j), (2, vi e), (3, vi col), (4, vi w)]) rfl (Nat.le_of_ble_eq_true rfl) rfl ?_
                  refine V_ld (pc := 159) dX11_measure_159 (v := vl (mI m 31 (((2 * ((i : Nat) : Int)) + col).toNat))) rfl rfl ?_
                  refine V_st (pc := 161) dX11_measure_161 (ls' := [(15, vl (mI m 31 (((2 * ((i : Nat) : Int)) + col).toNat))), (13, vl (mI m 31 (((2 * ((i : Nat) : Int)) + col).toNat))), (11, vl x140), (9, vl (mI m 31 (((2 * ((i : Nat) : Int)) + col).toNat))), (5, vi (((foldR (fun r_ : Nat => labR m j (r_ : Int)) (numR m col) e i).1) + 1)), (19, vl (mI m 31 (((2 * ((i : Nat) : Int)) + col).toNat))), (18, vi x59), (17, vi ((i : Nat) : Int)), (7, vl ((foldR (fun r_ : Nat => labR m j (r_ : Int)) (numR m col) e i).2.2.1)), (6, vi ((foldR (fun r_ : Nat => labR m j (r_ : Int)) (numR m col) e i).2.1)), (0, vr 30), (1, vi j), (2, vi e), (3, vi col), (4, vi w)]) rfl (Nat.le_of_ble_eq_true rfl) rfl ?_
                  refine V_ld (pc := 163) dX11_measure_163 (v := vl ((foldR (fun r_ : Nat => labR m j (r_ : Int)) (numR m col) e i).2.2.1)) rfl rfl ?_
                  refine V_ld (pc := 165) dX11_measure_165 (v := vl (mI m 31 (((2 * ((i : Nat) : Int)) + col).toNat))) rfl rfl ?_
                  refine V_ladd (pc := 167) dX11_measure_167 (by have hb := foldR_bd (L := e) (lab := (fun r_ : Nat => labR m j (r_ : Int))) hnum i; unfold I64; (try unfold I32 at *); omega) ?_
                  refine V_st (pc := 168) dX11_measure_168 (ls' := [(7, vl (((foldR (fun r_ : Nat => labR m j (r_ : Int)) (numR m col) e i).2.2.1) + (mI m 31 (((2 * ((i : Nat) : Int)) + col).toNat)))), (15, vl (mI m 31 (((2 * ((i : Nat) : Int)) + col).toNat))), (13, vl (mI m 31 (((2 * ((i : Nat) : Int)) + col).toNat))), (11, vl x140), (9, vl (mI m 31 (((2 * ((i : Nat) : Int)) + col).toNat))), (5, vi (((foldR (fun r_ : Nat => labR m j (r_ : Int)) (numR m col) e i).1) + 1)), (19, vl (mI m 31 (((2 * ((i : Nat) : Int)) + col).toNat))), (18, vi x59), (17, vi ((i : Nat) : Int)), (6, vi ((foldR (fun r_ : Nat => labR m j (r_ : Int)) (numR m col) e i).2.1)), (0, vr 30), (1, vi j), (2, vi e), (3, vi col), (4, vi w)]) rfl (Nat.le_of_ble_eq_true rfl) rfl ?_
                  refine V_iinc (pc := 170) dX11_measure_170 (x := ((foldR (fun r_ : Nat => labR m j (r_ : Int)) (numR m col) e i).2.1)) (ls' := [(6, vi (((foldR (fun r_ : Nat => labR m j (r_ : Int)) (numR m col) e i).2.1) + 1)), (7, vl (((foldR (fun r_ : Nat => labR m j (r_ : Int)) (numR m col) e i).2.2.1) + (mI m 31 (((2 * ((i : Nat) : Int)) + col).toNat)))), (15, vl (mI m 31 (((2 * ((i : Nat) : Int)) + col).toNat))), (13, vl (mI m 31 (((2 * ((i : Nat) : Int)) + col).toNat))), (11, vl x140), (9, vl (mI m 31 (((2 * ((i : Nat) : Int)) + col).toNat))), (5, vi (((foldR (fun r_ : Nat => labR m j (r_ : Int)) (numR m col) e i).1) + 1)), (19, vl (mI m 31 (((2 * ((i : Nat) : Int)) + col).toNat))), (18, vi x59), (17, vi ((i : Nat) : Int)), (0, vr 30), (1, vi j), (2, vi e), (3, vi col), (4, vi w)]) rfl (by have hb := foldR_bd (L := e) (lab := (fun r_ : Nat => labR m j (r_ : Int))) hnum i; unfold I32; (try unfold I32 at *); omega) (Nat.le_of_ble_eq_true rfl) rfl ?_
                  refine V_iinc (pc := 173) dX11_measure_173 (x := ((i : Nat) : Int)) (ls' := [(17, vi (((i : Nat) : Int) + 1)), (6, vi (((foldR (fun r_ : Nat => labR m j (r_ : Int)) (numR m col) e i).2.1) + 1)), (7, vl (((foldR (fun r_ : Nat => labR m j (r_ : Int)) (numR m col) e i).2.2.1) + (mI m 31 (((2 * ((i : Nat) : Int)) + col).toNat)))), (15, vl (mI m 31 (((2 * ((i : Nat) : Int)) + col).toNat))), (13, vl (mI m 31 (((2 * ((i : Nat) : Int)) + col).toNat))), (11, vl x140), (9, vl (mI m 31 (((2 * ((i : Nat) : Int)) + col).toNat))), (5, vi (((foldR (fun r_ : Nat => labR m j (r_ : Int)) (numR m col) e i).1) + 1)), (19, vl (mI m 31 (((2 * ((i : Nat) : Int)) + col).toNat))), (18, vi x59), (0, vr 30), (1, vi j), (2, vi e), (3, vi col), (4, vi w)]) rfl (by unfold I32 at *; omega) (Nat.le_of_ble_eq_true rfl) rfl ?_
                  refine V_goto (pc := 176) dX11_measure_176 (tgt := 46) rfl ?_
                  try unfold cmpI at *
                  have ela : (labR m j (i : Int)) = x59 := by omega
                  have enu : (mI m 31 (2 * (i : Int) + col).toNat) = mI m 31 (((2 * ((i : Nat) : Int)) + col).toNat) := by omega
                  have e_ : foldR (fun r_ : Nat => labR m j (r_ : Int)) (numR m col) e (i + 1) = (((foldR (fun r_ : Nat => labR m j (r_ : Int)) (numR m col) e i).1) + 1, ((foldR (fun r_ : Nat => labR m j (r_ : Int)) (numR m col) e i).2.1) + 1, ((foldR (fun r_ : Nat => labR m j (r_ : Int)) (numR m col) e i).2.2.1) + (mI m 31 (((2 * ((i : Nat) : Int)) + col).toNat)), mI m 31 (((2 * ((i : Nat) : Int)) + col).toNat), x140, mI m 31 (((2 * ((i : Nat) : Int)) + col).toNat), mI m 31 (((2 * ((i : Nat) : Int)) + col).toNat)) := by
                    show stepR (labR m j (i : Int)) (mI m 31 (2 * (i : Int) + col).toNat) e (foldR (fun r_ : Nat => labR m j (r_ : Int)) (numR m col) e i) = _
                    rw [ela, enu]
                    unfold stepR
                    first
                      | (exfalso; omega)
                      | (rw [if_neg (by omega)])
                      | (rw [if_pos (by omega), if_pos (by omega)])
                      | (rw [if_pos (by omega), if_neg (by omega)]; simp only [Prod.mk.injEq]; repeat' apply And.intro
                         all_goals (first | trivial | omega))
                  have h_ := ih (i + 1) (by omega)
                  rw [e_] at h_
                  refine V_ls (ls' := [(17, vi (((i : Nat) : Int) + 1)), (15, vl (mI m 31 (((2 * ((i : Nat) : Int)) + col).toNat))), (13, vl (mI m 31 (((2 * ((i : Nat) : Int)) + col).toNat))), (11, vl x140), (9, vl (mI m 31 (((2 * ((i : Nat) : Int)) + col).toNat))), (7, vl (((foldR (fun r_ : Nat => labR m j (r_ : Int)) (numR m col) e i).2.2.1) + (mI m 31 (((2 * ((i : Nat) : Int)) + col).toNat)))), (6, vi (((foldR (fun r_ : Nat => labR m j (r_ : Int)) (numR m col) e i).2.1) + 1)), (5, vi (((foldR (fun r_ : Nat => labR m j (r_ : Int)) (numR m col) e i).1) + 1)), (0, vr 30), (1, vi j), (2, vi e), (3, vi col), (4, vi w)]) (by intro q_ h_; simp only [List.mem_cons, List.not_mem_nil, or_false] at h_ ⊢; rcases h_ with rfl | rfl | rfl | rfl | rfl | rfl | rfl | rfl | rfl | rfl | rfl | rfl | rfl <;> simp) ?_
                  exact h_
              · skip
                refine V_ld (pc := 131) dX11_measure_131 (v := vl (mI m 31 (((2 * ((i : Nat) : Int)) + col).toNat))) rfl rfl ?_
                refine V_goto (pc := 133) dX11_measure_133 (tgt := 143) rfl ?_
                refine V_st (pc := 143) dX11_measure_143 (ls' := [(11, vl (mI m 31 (((2 * ((i : Nat) : Int)) + col).toNat))), (9, vl (mI m 31 (((2 * ((i : Nat) : Int)) + col).toNat))), (5, vi (((foldR (fun r_ : Nat => labR m j (r_ : Int)) (numR m col) e i).1) + 1)), (19, vl (mI m 31 (((2 * ((i : Nat) : Int)) + col).toNat))), (18, vi x59), (17, vi ((i : Nat) : Int)), (15, vl ((foldR (fun r_ : Nat => labR m j (r_ : Int)) (numR m col) e i).2.2.2.2.2.2)), (13, vl ((foldR (fun r_ : Nat => labR m j (r_ : Int)) (numR m col) e i).2.2.2.2.2.1)), (7, vl ((foldR (fun r_ : Nat => labR m j (r_ : Int)) (numR m col) e i).2.2.1)), (6, vi ((foldR (fun r_ : Nat => labR m j (r_ : Int)) (numR m col) e i).2.1)), (0, vr 30), (1, vi j), (2, vi e), (3, vi col), (4, vi w)]) rfl (Nat.le_of_ble_eq_true rfl) rfl ?_
                refine V_ld (pc := 145) dX11_measure_145 (v := vi ((foldR (fun r_ : Nat => labR m j (r_ : Int)) (numR m col) e i).2.1)) rfl rfl ?_
                refine V_if_ne (pc := 147) dX11_measure_147 (tgt := 155) rfl (fun h147 => ?_) (fun h147 => ?_)
                · skip
                  refine V_ld (pc := 155) dX11_measure_155 (v := vl ((foldR (fun r_ : Nat => labR m j (r_ : Int)) (numR m col) e i).2.2.2.2.2.1)) rfl rfl ?_
                  refine V_st (pc := 157) dX11_measure_157 (ls' := [(13, vl ((foldR (fun r_ : Nat => labR m j (r_ : Int)) (numR m col) e i).2.2.2.2.2.1)), (11, vl (mI m 31 (((2 * ((i : Nat) : Int)) + col).toNat))), (9, vl (mI m 31 (((2 * ((i : Nat) : Int)) + col).toNat))), (5, vi (((foldR (fun r_ : Nat => labR m j (r_ : Int)) (numR m col) e i).1) + 1)), (19, vl (mI m 31 (((2 * ((i : Nat) : Int)) + col).toNat))), (18, vi x59), (17, vi ((i : Nat) : Int)), (15, vl ((foldR (fun r_ : Nat => labR m j (r_ : Int)) (numR m col) e i).2.2.2.2.2.2)), (7, vl ((foldR (fun r_ : Nat => labR m j (r_ : Int)) (numR m col) e i).2.2.1)), (6, vi ((foldR (fun r_ : Nat => labR m j (r_ : Int)) (numR m col) e i).2.1)), (0, vr 30), (1, vi j), (2, vi e), (3, vi col), (4, vi w)]) rfl (Nat.le_of_ble_eq_true rfl) rfl ?_
                  refine V_ld (pc := 159) dX11_measure_159 (v := vl (mI m 31 (((2 * ((i : Nat) : Int)) + col).toNat))) rfl rfl ?_
                  refine V_st (pc := 161) dX11_measure_161 (ls' := [(15, vl (mI m 31 (((2 * ((i : Nat) : Int)) + col).toNat))), (13, vl ((foldR (fun r_ : Nat => labR m j (r_ : Int)) (numR m col) e i).2.2.2.2.2.1)), (11, vl (mI m 31 (((2 * ((i : Nat) : Int)) + col).toNat))), (9, vl (mI m 31 (((2 * ((i : Nat) : Int)) + col).toNat))), (5, vi (((foldR (fun r_ : Nat => labR m j (r_ : Int)) (numR m col) e i).1) + 1)), (19, vl (mI m 31 (((2 * ((i : Nat) : Int)) + col).toNat))), (18, vi x59), (17, vi ((i : Nat) : Int)), (7, vl ((foldR (fun r_ : Nat => labR m j (r_ : Int)) (numR m col) e i).2.2.1)), (6, vi ((foldR (fun r_ : Nat => labR m j (r_ : Int)) (numR m col) e i).2.1)), (0, vr 30), (1, vi j), (2, vi e), (3, vi col), (4, vi w)]) rfl (Nat.le_of_ble_eq_true rfl) rfl ?_
                  refine V_ld (pc := 163) dX11_measure_163 (v := vl ((foldR (fun r_ : Nat => labR m j (r_ : Int)) (numR m col) e i).2.2.1)) rfl rfl ?_
                  refine V_ld (pc := 165) dX11_measure_165 (v := vl (mI m 31 (((2 * ((i : Nat) : Int)) + col).toNat))) rfl rfl ?_
                  refine V_ladd (pc := 167) dX11_measure_167 (by have hb := foldR_bd (L := e) (lab := (fun r_ : Nat => labR m j (r_ : Int))) hnum i; unfold I64; (try unfold I32 at *); omega) ?_
                  refine V_st (pc := 168) dX11_measure_168 (ls' := [(7, vl (((foldR (fun r_ : Nat => labR m j (r_ : Int)) (numR m col) e i).2.2.1) + (mI m 31 (((2 * ((i : Nat) : Int)) + col).toNat)))), (15, vl (mI m 31 (((2 * ((i : Nat) : Int)) + col).toNat))), (13, vl ((foldR (fun r_ : Nat => labR m j (r_ : Int)) (numR m col) e i).2.2.2.2.2.1)), (11, vl (mI m 31 (((2 * ((i : Nat) : Int)) + col).toNat))), (9, vl (mI m 31 (((2 * ((i : Nat) : Int)) + col).toNat))), (5, vi (((foldR (fun r_ : Nat => labR m j (r_ : Int)) (numR m col) e i).1) + 1)), (19, vl (mI m 31 (((2 * ((i : Nat) : Int)) + col).toNat))), (18, vi x59), (17, vi ((i : Nat) : Int)), (6, vi ((foldR (fun r_ : Nat => labR m j (r_ : Int)) (numR m col) e i).2.1)), (0, vr 30), (1, vi j), (2, vi e), (3, vi col), (4, vi w)]) rfl (Nat.le_of_ble_eq_true rfl) rfl ?_
                  refine V_iinc (pc := 170) dX11_measure_170 (x := ((foldR (fun r_ : Nat => labR m j (r_ : Int)) (numR m col) e i).2.1)) (ls' := [(6, vi (((foldR (fun r_ : Nat => labR m j (r_ : Int)) (numR m col) e i).2.1) + 1)), (7, vl (((foldR (fun r_ : Nat => labR m j (r_ : Int)) (numR m col) e i).2.2.1) + (mI m 31 (((2 * ((i : Nat) : Int)) + col).toNat)))), (15, vl (mI m 31 (((2 * ((i : Nat) : Int)) + col).toNat))), (13, vl ((foldR (fun r_ : Nat => labR m j (r_ : Int)) (numR m col) e i).2.2.2.2.2.1)), (11, vl (mI m 31 (((2 * ((i : Nat) : Int)) + col).toNat))), (9, vl (mI m 31 (((2 * ((i : Nat) : Int)) + col).toNat))), (5, vi (((foldR (fun r_ : Nat => labR m j (r_ : Int)) (numR m col) e i).1) + 1)), (19, vl (mI m 31 (((2 * ((i : Nat) : Int)) + col).toNat))), (18, vi x59), (17, vi ((i : Nat) : Int)), (0, vr 30), (1, vi j), (2, vi e), (3, vi col), (4, vi w)]) rfl (by have hb := foldR_bd (L := e) (lab := (fun r_ : Nat => labR m j (r_ : Int))) hnum i; unfold I32; (try unfold I32 at *); omega) (Nat.le_of_ble_eq_true rfl) rfl ?_
                  refine V_iinc (pc := 173) dX11_measure_173 (x := ((i : Nat) : Int)) (ls' := [(17, vi (((i : Nat) : Int) + 1)), (6, vi (((foldR (fun r_ : Nat => labR m j (r_ : Int)) (numR m col) e i).2.1) + 1)), (7, vl (((foldR (fun r_ : Nat => labR m j (r_ : Int)) (numR m col) e i).2.2.1) + (mI m 31 (((2 * ((i : Nat) : Int)) + col).toNat)))), (15, vl (mI m 31 (((2 * ((i : Nat) : Int)) + col).toNat))), (13, vl ((foldR (fun r_ : Nat => labR m j (r_ : Int)) (numR m col) e i).2.2.2.2.2.1)), (11, vl (mI m 31 (((2 * ((i : Nat) : Int)) + col).toNat))), (9, vl (mI m 31 (((2 * ((i : Nat) : Int)) + col).toNat))), (5, vi (((foldR (fun r_ : Nat => labR m j (r_ : Int)) (numR m col) e i).1) + 1)), (19, vl (mI m 31 (((2 * ((i : Nat) : Int)) + col).toNat))), (18, vi x59), (0, vr 30), (1, vi j), (2, vi e), (3, vi col), (4, vi w)]) rfl (by unfold I32 at *; omega) (Nat.le_of_ble_eq_true rfl) rfl ?_
                  refine V_goto (pc := 176) dX11_measure_176 (tgt := 46) rfl ?_
                  try unfold cmpI at *
                  have ela : (labR m j (i : Int)) = x59 := by omega
                  have enu : (mI m 31 (2 * (i : Int) + col).toNat) = mI m 31 (((2 * ((i : Nat) : Int)) + col).toNat) := by omega
                  have e_ : foldR (fun r_ : Nat => labR m j (r_ : Int)) (numR m col) e (i + 1) = (((foldR (fun r_ : Nat => labR m j (r_ : Int)) (numR m col) e i).1) + 1, ((foldR (fun r_ : Nat => labR m j (r_ : Int)) (numR m col) e i).2.1) + 1, ((foldR (fun r_ : Nat => labR m j (r_ : Int)) (numR m col) e i).2.2.1) + (mI m 31 (((2 * ((i : Nat) : Int)) + col).toNat)), mI m 31 (((2 * ((i : Nat) : Int)) + col).toNat), mI m 31 (((2 * ((i : Nat) : Int)) + col).toNat), (foldR (fun r_ : Nat => labR m j (r_ : Int)) (numR m col) e i).2.2.2.2.2.1, mI m 31 (((2 * ((i : Nat) : Int)) + col).toNat)) := by
                    show stepR (labR m j (i : Int)) (mI m 31 (2 * (i : Int) + col).toNat) e (foldR (fun r_ : Nat => labR m j (r_ : Int)) (numR m col) e i) = _
                    rw [ela, enu]
                    unfold stepR
                    first
                      | (exfalso; omega)
                      | (rw [if_neg (by omega)])
                      | (rw [if_pos (by omega), if_pos (by omega)])
                      | (rw [if_pos (by omega), if_neg (by omega)]; simp only [Prod.mk.injEq]; repeat' apply And.intro
                         all_goals (first | trivial | omega))
                  have h_ := ih (i + 1) (by omega)
                  rw [e_] at h_
                  refine V_ls (ls' := [(17, vi (((i : Nat) : Int) + 1)), (15, vl (mI m 31 (((2 * ((i : Nat) : Int)) + col).toNat))), (13, vl ((foldR (fun r_ : Nat => labR m j (r_ : Int)) (numR m col) e i).2.2.2.2.2.1)), (11, vl (mI m 31 (((2 * ((i : Nat) : Int)) + col).toNat))), (9, vl (mI m 31 (((2 * ((i : Nat) : Int)) + col).toNat))), (7, vl (((foldR (fun r_ : Nat => labR m j (r_ : Int)) (numR m col) e i).2.2.1) + (mI m 31 (((2 * ((i : Nat) : Int)) + col).toNat)))), (6, vi (((foldR (fun r_ : Nat => labR m j (r_ : Int)) (numR m col) e i).2.1) + 1)), (5, vi (((foldR (fun r_ : Nat => labR m j (r_ : Int)) (numR m col) e i).1) + 1)), (0, vr 30), (1, vi j), (2, vi e), (3, vi col), (4, vi w)]) (by intro q_ h_; simp only [List.mem_cons, List.not_mem_nil, or_false] at h_ ⊢; rcases h_ with rfl | rfl | rfl | rfl | rfl | rfl | rfl | rfl | rfl | rfl | rfl | rfl | rfl <;> simp) ?_
                  exact h_
                · skip
                  refine V_ld (pc := 150) dX11_measure_150 (v := vl (mI m 31 (((2 * ((i : Nat) : Int)) + col).toNat))) rfl rfl ?_
                  refine V_goto (pc := 152) dX11_measure_152 (tgt := 157) rfl ?_
                  refine V_st (pc := 157) dX11_measure_157 (ls' := [(13, vl (mI m 31 (((2 * ((i : Nat) : Int)) + col).toNat))), (11, vl (mI m 31 (((2 * ((i : Nat) : Int)) + col).toNat))), (9, vl (mI m 31 (((2 * ((i : Nat) : Int)) + col).toNat))), (5, vi (((foldR (fun r_ : Nat => labR m j (r_ : Int)) (numR m col) e i).1) + 1)), (19, vl (mI m 31 (((2 * ((i : Nat) : Int)) + col).toNat))), (18, vi x59), (17, vi ((i : Nat) : Int)), (15, vl ((foldR (fun r_ : Nat => labR m j (r_ : Int)) (numR m col) e i).2.2.2.2.2.2)), (7, vl ((foldR (fun r_ : Nat => labR m j (r_ : Int)) (numR m col) e i).2.2.1)), (6, vi ((foldR (fun r_ : Nat => labR m j (r_ : Int)) (numR m col) e i).2.1)), (0, vr 30), (1, vi j), (2, vi e), (3, vi col), (4, vi w)]) rfl (Nat.le_of_ble_eq_true rfl) rfl ?_
                  refine V_ld (pc := 159) dX11_measure_159 (v := vl (mI m 31 (((2 * ((i : Nat) : Int)) + col).toNat))) rfl rfl ?_
                  refine V_st (pc := 161) dX11_measure_161 (ls' := [(15, vl (mI m 31 (((2 * ((i : Nat) : Int)) + col).toNat))), (13, vl (mI m 31 (((2 * ((i : Nat) : Int)) + col).toNat))), (11, vl (mI m 31 (((2 * ((i : Nat) : Int)) + col).toNat))), (9, vl (mI m 31 (((2 * ((i : Nat) : Int)) + col).toNat))), (5, vi (((foldR (fun r_ : Nat => labR m j (r_ : Int)) (numR m col) e i).1) + 1)), (19, vl (mI m 31 (((2 * ((i : Nat) : Int)) + col).toNat))), (18, vi x59), (17, vi ((i : Nat) : Int)), (7, vl ((foldR (fun r_ : Nat => labR m j (r_ : Int)) (numR m col) e i).2.2.1)), (6, vi ((foldR (fun r_ : Nat => labR m j (r_ : Int)) (numR m col) e i).2.1)), (0, vr 30), (1, vi j), (2, vi e), (3, vi col), (4, vi w)]) rfl (Nat.le_of_ble_eq_true rfl) rfl ?_
                  refine V_ld (pc := 163) dX11_measure_163 (v := vl ((foldR (fun r_ : Nat => labR m j (r_ : Int)) (numR m col) e i).2.2.1)) rfl rfl ?_
                  refine V_ld (pc := 165) dX11_measure_165 (v := vl (mI m 31 (((2 * ((i : Nat) : Int)) + col).toNat))) rfl rfl ?_
                  refine V_ladd (pc := 167) dX11_measure_167 (by have hb := foldR_bd (L := e) (lab := (fun r_ : Nat => labR m j (r_ : Int))) hnum i; unfold I64; (try unfold I32 at *); omega) ?_
                  refine V_st (pc := 168) dX11_measure_168 (ls' := [(7, vl (((foldR (fun r_ : Nat => labR m j (r_ : Int)) (numR m col) e i).2.2.1) + (mI m 31 (((2 * ((i : Nat) : Int)) + col).toNat)))), (15, vl (mI m 31 (((2 * ((i : Nat) : Int)) + col).toNat))), (13, vl (mI m 31 (((2 * ((i : Nat) : Int)) + col).toNat))), (11, vl (mI m 31 (((2 * ((i : Nat) : Int)) + col).toNat))), (9, vl (mI m 31 (((2 * ((i : Nat) : Int)) + col).toNat))), (5, vi (((foldR (fun r_ : Nat => labR m j (r_ : Int)) (numR m col) e i).1) + 1)), (19, vl (mI m 31 (((2 * ((i : Nat) : Int)) + col).toNat))), (18, vi x59), (17, vi ((i : Nat) : Int)), (6, vi ((foldR (fun r_ : Nat => labR m j (r_ : Int)) (numR m col) e i).2.1)), (0, vr 30), (1, vi j), (2, vi e), (3, vi col), (4, vi w)]) rfl (Nat.le_of_ble_eq_true rfl) rfl ?_
                  refine V_iinc (pc := 170) dX11_measure_170 (x := ((foldR (fun r_ : Nat => labR m j (r_ : Int)) (numR m col) e i).2.1)) (ls' := [(6, vi (((foldR (fun r_ : Nat => labR m j (r_ : Int)) (numR m col) e i).2.1) + 1)), (7, vl (((foldR (fun r_ : Nat => labR m j (r_ : Int)) (numR m col) e i).2.2.1) + (mI m 31 (((2 * ((i : Nat) : Int)) + col).toNat)))), (15, vl (mI m 31 (((2 * ((i : Nat) : Int)) + col).toNat))), (13, vl (mI m 31 (((2 * ((i : Nat) : Int)) + col).toNat))), (11, vl (mI m 31 (((2 * ((i : Nat) : Int)) + col).toNat))), (9, vl (mI m 31 (((2 * ((i : Nat) : Int)) + col).toNat))), (5, vi (((foldR (fun r_ : Nat => labR m j (r_ : Int)) (numR m col) e i).1) + 1)), (19, vl (mI m 31 (((2 * ((i : Nat) : Int)) + col).toNat))), (18, vi x59), (17, vi ((i : Nat) : Int)), (0, vr 30), (1, vi j), (2, vi e), (3, vi col), (4, vi w)]) rfl (by have hb := foldR_bd (L := e) (lab := (fun r_ : Nat => labR m j (r_ : Int))) hnum i; unfold I32; (try unfold I32 at *); omega) (Nat.le_of_ble_eq_true rfl) rfl ?_
                  refine V_iinc (pc := 173) dX11_measure_173 (x := ((i : Nat) : Int)) (ls' := [(17, vi (((i : Nat) : Int) + 1)), (6, vi (((foldR (fun r_ : Nat => labR m j (r_ : Int)) (numR m col) e i).2.1) + 1)), (7, vl (((foldR (fun r_ : Nat => labR m j (r_ : Int)) (numR m col) e i).2.2.1) + (mI m 31 (((2 * ((i : Nat) : Int)) + col).toNat)))), (15, vl (mI m 31 (((2 * ((i : Nat) : Int)) + col).toNat))), (13, vl (mI m 31 (((2 * ((i : Nat) : Int)) + col).toNat))), (11, vl (mI m 31 (((2 * ((i : Nat) : Int)) + col).toNat))), (9, vl (mI m 31 (((2 * ((i : Nat) : Int)) + col).toNat))), (5, vi (((foldR (fun r_ : Nat => labR m j (r_ : Int)) (numR m col) e i).1) + 1)), (19, vl (mI m 31 (((2 * ((i : Nat) : Int)) + col).toNat))), (18, vi x59), (0, vr 30), (1, vi j), (2, vi e), (3, vi col), (4, vi w)]) rfl (by unfold I32 at *; omega) (Nat.le_of_ble_eq_true rfl) rfl ?_
                  refine V_goto (pc := 176) dX11_measure_176 (tgt := 46) rfl ?_
                  try unfold cmpI at *
                  have ela : (labR m j (i : Int)) = x59 := by omega
                  have enu : (mI m 31 (2 * (i : Int) + col).toNat) = mI m 31 (((2 * ((i : Nat) : Int)) + col).toNat) := by omega
                  have e_ : foldR (fun r_ : Nat => labR m j (r_ : Int)) (numR m col) e (i + 1) = (((foldR (fun r_ : Nat => labR m j (r_ : Int)) (numR m col) e i).1) + 1, ((foldR (fun r_ : Nat => labR m j (r_ : Int)) (numR m col) e i).2.1) + 1, ((foldR (fun r_ : Nat => labR m j (r_ : Int)) (numR m col) e i).2.2.1) + (mI m 31 (((2 * ((i : Nat) : Int)) + col).toNat)), mI m 31 (((2 * ((i : Nat) : Int)) + col).toNat), mI m 31 (((2 * ((i : Nat) : Int)) + col).toNat), mI m 31 (((2 * ((i : Nat) : Int)) + col).toNat), mI m 31 (((2 * ((i : Nat) : Int)) + col).toNat)) := by
                    show stepR (labR m j (i : Int)) (mI m 31 (2 * (i : Int) + col).toNat) e (foldR (fun r_ : Nat => labR m j (r_ : Int)) (numR m col) e i) = _
                    rw [ela, enu]
                    unfold stepR
                    first
                      | (exfalso; omega)
                      | (rw [if_neg (by omega)])
                      | (rw [if_pos (by omega), if_pos (by omega)])
                      | (rw [if_pos (by omega), if_neg (by omega)]; simp only [Prod.mk.injEq]; repeat' apply And.intro
                         all_goals (first | trivial | omega))
                  have h_ := ih (i + 1) (by omega)
                  rw [e_] at h_
                  refine V_ls (ls' := [(17, vi (((i : Nat) : Int) + 1)), (15, vl (mI m 31 (((2 * ((i : Nat) : Int)) + col).toNat))), (13, vl (mI m 31 (((2 * ((i : Nat) : Int)) + col).toNat))), (11, vl (mI m 31 (((2 * ((i : Nat) : Int)) + col).toNat))), (9, vl (mI m 31 (((2 * ((i : Nat) : Int)) + col).toNat))), (7, vl (((foldR (fun r_ : Nat => labR m j (r_ : Int)) (numR m col) e i).2.2.1) + (mI m 31 (((2 * ((i : Nat) : Int)) + col).toNat)))), (6, vi (((foldR (fun r_ : Nat => labR m j (r_ : Int)) (numR m col) e i).2.1) + 1)), (5, vi (((foldR (fun r_ : Nat => labR m j (r_ : Int)) (numR m col) e i).1) + 1)), (0, vr 30), (1, vi j), (2, vi e), (3, vi col), (4, vi w)]) (by intro q_ h_; simp only [List.mem_cons, List.not_mem_nil, or_false] at h_ ⊢; rcases h_ with rfl | rfl | rfl | rfl | rfl | rfl | rfl | rfl | rfl | rfl | rfl | rfl | rfl <;> simp) ?_
                  exact h_
        · skip
          refine V_ld (pc := 89) dX11_measure_89 (v := vi x59) rfl rfl ?_
          refine V_ld (pc := 91) dX11_measure_91 (v := vi e) rfl rfl ?_
          refine V_icmp_ne (pc := 92) dX11_measure_92 (tgt := 173) rfl (fun h92 => ?_) (fun h92 => ?_)
          · skip
            refine V_iinc (pc := 173) dX11_measure_173 (x := ((i : Nat) : Int)) (ls' := [(17, vi (((i : Nat) : Int) + 1)), (19, vl (mI m 31 (((2 * ((i : Nat) : Int)) + col).toNat))), (18, vi x59), (15, vl ((foldR (fun r_ : Nat => labR m j (r_ : Int)) (numR m col) e i).2.2.2.2.2.2)), (13, vl ((foldR (fun r_ : Nat => labR m j (r_ : Int)) (numR m col) e i).2.2.2.2.2.1)), (11, vl ((foldR (fun r_ : Nat => labR m j (r_ : Int)) (numR m col) e i).2.2.2.2.1)), (9, vl ((foldR (fun r_ : Nat => labR m j (r_ : Int)) (numR m col) e i).2.2.2.1)), (7, vl ((foldR (fun r_ : Nat => labR m j (r_ : Int)) (numR m col) e i).2.2.1)), (6, vi ((foldR (fun r_ : Nat => labR m j (r_ : Int)) (numR m col) e i).2.1)), (5, vi ((foldR (fun r_ : Nat => labR m j (r_ : Int)) (numR m col) e i).1)), (0, vr 30), (1, vi j), (2, vi e), (3, vi col), (4, vi w)]) rfl (by unfold I32 at *; omega) (Nat.le_of_ble_eq_true rfl) rfl ?_
            refine V_goto (pc := 176) dX11_measure_176 (tgt := 46) rfl ?_
            try unfold cmpI at *
            have ela : (labR m j (i : Int)) = x59 := by omega
            have enu : (mI m 31 (2 * (i : Int) + col).toNat) = mI m 31 (((2 * ((i : Nat) : Int)) + col).toNat) := by omega
            have e_ : foldR (fun r_ : Nat => labR m j (r_ : Int)) (numR m col) e (i + 1) = ((foldR (fun r_ : Nat => labR m j (r_ : Int)) (numR m col) e i).1, (foldR (fun r_ : Nat => labR m j (r_ : Int)) (numR m col) e i).2.1, (foldR (fun r_ : Nat => labR m j (r_ : Int)) (numR m col) e i).2.2.1, (foldR (fun r_ : Nat => labR m j (r_ : Int)) (numR m col) e i).2.2.2.1, (foldR (fun r_ : Nat => labR m j (r_ : Int)) (numR m col) e i).2.2.2.2.1, (foldR (fun r_ : Nat => labR m j (r_ : Int)) (numR m col) e i).2.2.2.2.2.1, (foldR (fun r_ : Nat => labR m j (r_ : Int)) (numR m col) e i).2.2.2.2.2.2) := by
              show stepR (labR m j (i : Int)) (mI m 31 (2 * (i : Int) + col).toNat) e (foldR (fun r_ : Nat => labR m j (r_ : Int)) (numR m col) e i) = _
              rw [ela, enu]
              unfold stepR
              first
                | (exfalso; omega)
                | (rw [if_neg (by omega)])
                | (rw [if_pos (by omega), if_pos (by omega)])
                | (rw [if_pos (by omega), if_neg (by omega)]; simp only [Prod.mk.injEq]; repeat' apply And.intro
                   all_goals (first | trivial | omega))
            have h_ := ih (i + 1) (by omega)
            rw [e_] at h_
            refine V_ls (ls' := [(17, vi (((i : Nat) : Int) + 1)), (15, vl ((foldR (fun r_ : Nat => labR m j (r_ : Int)) (numR m col) e i).2.2.2.2.2.2)), (13, vl ((foldR (fun r_ : Nat => labR m j (r_ : Int)) (numR m col) e i).2.2.2.2.2.1)), (11, vl ((foldR (fun r_ : Nat => labR m j (r_ : Int)) (numR m col) e i).2.2.2.2.1)), (9, vl ((foldR (fun r_ : Nat => labR m j (r_ : Int)) (numR m col) e i).2.2.2.1)), (7, vl ((foldR (fun r_ : Nat => labR m j (r_ : Int)) (numR m col) e i).2.2.1)), (6, vi ((foldR (fun r_ : Nat => labR m j (r_ : Int)) (numR m col) e i).2.1)), (5, vi ((foldR (fun r_ : Nat => labR m j (r_ : Int)) (numR m col) e i).1)), (0, vr 30), (1, vi j), (2, vi e), (3, vi col), (4, vi w)]) (by intro q_ h_; simp only [List.mem_cons, List.not_mem_nil, or_false] at h_ ⊢; rcases h_ with rfl | rfl | rfl | rfl | rfl | rfl | rfl | rfl | rfl | rfl | rfl | rfl | rfl <;> simp) ?_
            exact h_
          · skip
            refine V_iinc (pc := 95) dX11_measure_95 (x := ((foldR (fun r_ : Nat => labR m j (r_ : Int)) (numR m col) e i).1)) (ls' := [(5, vi (((foldR (fun r_ : Nat => labR m j (r_ : Int)) (numR m col) e i).1) + 1)), (19, vl (mI m 31 (((2 * ((i : Nat) : Int)) + col).toNat))), (18, vi x59), (17, vi ((i : Nat) : Int)), (15, vl ((foldR (fun r_ : Nat => labR m j (r_ : Int)) (numR m col) e i).2.2.2.2.2.2)), (13, vl ((foldR (fun r_ : Nat => labR m j (r_ : Int)) (numR m col) e i).2.2.2.2.2.1)), (11, vl ((foldR (fun r_ : Nat => labR m j (r_ : Int)) (numR m col) e i).2.2.2.2.1)), (9, vl ((foldR (fun r_ : Nat => labR m j (r_ : Int)) (numR m col) e i).2.2.2.1)), (7, vl ((foldR (fun r_ : Nat => labR m j (r_ : Int)) (numR m col) e i).2.2.1)), (6, vi ((foldR (fun r_ : Nat => labR m j (r_ : Int)) (numR m col) e i).2.1)), (0, vr 30), (1, vi j), (2, vi e), (3, vi col), (4, vi w)]) rfl (by have hb := foldR_bd (L := e) (lab := (fun r_ : Nat => labR m j (r_ : Int))) hnum i; unfold I32; (try unfold I32 at *); omega) (Nat.le_of_ble_eq_true rfl) rfl ?_
            refine V_ld (pc := 98) dX11_measure_98 (v := vl (mI m 31 (((2 * ((i : Nat) : Int)) + col).toNat))) rfl rfl ?_
            refine V_ldc2 (pc := 100) dX11_measure_100 (x := 1000) kl_RX11_384 (by unfold I64; omega) rfl ?_
            refine V_lcmp (pc := 103) dX11_measure_103 ?_
            refine V_if_eq (pc := 104) dX11_measure_104 (tgt := 173) rfl (fun h104 => ?_) (fun h104 => ?_)
            · skip
              refine V_iinc (pc := 173) dX11_measure_173 (x := ((i : Nat) : Int)) (ls' := [(17, vi (((i : Nat) : Int) + 1)), (5, vi (((foldR (fun r_ : Nat => labR m j (r_ : Int)) (numR m col) e i).1) + 1)), (19, vl (mI m 31 (((2 * ((i : Nat) : Int)) + col).toNat))), (18, vi x59), (15, vl ((foldR (fun r_ : Nat => labR m j (r_ : Int)) (numR m col) e i).2.2.2.2.2.2)), (13, vl ((foldR (fun r_ : Nat => labR m j (r_ : Int)) (numR m col) e i).2.2.2.2.2.1)), (11, vl ((foldR (fun r_ : Nat => labR m j (r_ : Int)) (numR m col) e i).2.2.2.2.1)), (9, vl ((foldR (fun r_ : Nat => labR m j (r_ : Int)) (numR m col) e i).2.2.2.1)), (7, vl ((foldR (fun r_ : Nat => labR m j (r_ : Int)) (numR m col) e i).2.2.1)), (6, vi ((foldR (fun r_ : Nat => labR m j (r_ : Int)) (numR m col) e i).2.1)), (0, vr 30), (1, vi j), (2, vi e), (3, vi col), (4, vi w)]) rfl (by unfold I32 at *; omega) (Nat.le_of_ble_eq_true rfl) rfl ?_
              refine V_goto (pc := 176) dX11_measure_176 (tgt := 46) rfl ?_
              try unfold cmpI at *
              have ela : (labR m j (i : Int)) = x59 := by omega
              have enu : (mI m 31 (2 * (i : Int) + col).toNat) = mI m 31 (((2 * ((i : Nat) : Int)) + col).toNat) := by omega
              have e_ : foldR (fun r_ : Nat => labR m j (r_ : Int)) (numR m col) e (i + 1) = (((foldR (fun r_ : Nat => labR m j (r_ : Int)) (numR m col) e i).1) + 1, (foldR (fun r_ : Nat => labR m j (r_ : Int)) (numR m col) e i).2.1, (foldR (fun r_ : Nat => labR m j (r_ : Int)) (numR m col) e i).2.2.1, (foldR (fun r_ : Nat => labR m j (r_ : Int)) (numR m col) e i).2.2.2.1, (foldR (fun r_ : Nat => labR m j (r_ : Int)) (numR m col) e i).2.2.2.2.1, (foldR (fun r_ : Nat => labR m j (r_ : Int)) (numR m col) e i).2.2.2.2.2.1, (foldR (fun r_ : Nat => labR m j (r_ : Int)) (numR m col) e i).2.2.2.2.2.2) := by
                show stepR (labR m j (i : Int)) (mI m 31 (2 * (i : Int) + col).toNat) e (foldR (fun r_ : Nat => labR m j (r_ : Int)) (numR m col) e i) = _
                rw [ela, enu]
                unfold stepR
                first
                  | (exfalso; omega)
                  | (rw [if_neg (by omega)])
                  | (rw [if_pos (by omega), if_pos (by omega)])
                  | (rw [if_pos (by omega), if_neg (by omega)]; simp only [Prod.mk.injEq]; repeat' apply And.intro
                     all_goals (first | trivial | omega))
              have h_ := ih (i + 1) (by omega)
              rw [e_] at h_
              refine V_ls (ls' := [(17, vi (((i : Nat) : Int) + 1)), (15, vl ((foldR (fun r_ : Nat => labR m j (r_ : Int)) (numR m col) e i).2.2.2.2.2.2)), (13, vl ((foldR (fun r_ : Nat => labR m j (r_ : Int)) (numR m col) e i).2.2.2.2.2.1)), (11, vl ((foldR (fun r_ : Nat => labR m j (r_ : Int)) (numR m col) e i).2.2.2.2.1)), (9, vl ((foldR (fun r_ : Nat => labR m j (r_ : Int)) (numR m col) e i).2.2.2.1)), (7, vl ((foldR (fun r_ : Nat => labR m j (r_ : Int)) (numR m col) e i).2.2.1)), (6, vi ((foldR (fun r_ : Nat => labR m j (r_ : Int)) (numR m col) e i).2.1)), (5, vi (((foldR (fun r_ : Nat => labR m j (r_ : Int)) (numR m col) e i).1) + 1)), (0, vr 30), (1, vi j), (2, vi e), (3, vi col), (4, vi w)]) (by intro q_ h_; simp only [List.mem_cons, List.not_mem_nil, or_false] at h_ ⊢; rcases h_ with rfl | rfl | rfl | rfl | rfl | rfl | rfl | rfl | rfl | rfl | rfl | rfl | rfl <;> simp) ?_
              exact h_
            · skip
              refine V_ld (pc := 107) dX11_measure_107 (v := vi ((foldR (fun r_ : Nat => labR m j (r_ : Int)) (numR m col) e i).2.1)) rfl rfl ?_
              refine V_if_ne (pc := 109) dX11_measure_109 (tgt := 117) rfl (fun h109 => ?_) (fun h109 => ?_)
              · skip
                refine V_ld (pc := 117) dX11_measure_117 (v := vl ((foldR (fun r_ : Nat => labR m j (r_ : Int)) (numR m col) e i).2.2.2.1)) rfl rfl ?_
                refine V_ld (pc := 119) dX11_measure_119 (v := vl (mI m 31 (((2 * ((i : Nat) : Int)) + col).toNat))) rfl rfl ?_
                refine V_callS (pc := 121) dX11_measure_121 (F' := 0) (As := [vl ((foldR (fun r_ : Nat => labR m j (r_ : Int)) (numR m col) e i).2.2.2.1), vl (mI m 31 (((2 * ((i : Nat) : Int)) + col).toNat))]) (st := []) cw_RX11_386 rfl rfl (Nat.le_of_ble_eq_true rfl) (by omega) (j_min_l  m ((foldR (fun r_ : Nat => labR m j (r_ : Int)) (numR m col) e i).2.2.2.1) (mI m 31 (((2 * ((i : Nat) : Int)) + col).toNat))   ) ?_
                rintro _ _ ⟨x121, rfl, hx121, rfl⟩ ok121 le121
                refine V_st (pc := 124) dX11_measure_124 (ls' := [(9, vl x121), (5, vi (((foldR (fun r_ : Nat => labR m j (r_ : Int)) (numR m col) e i).1) + 1)), (19, vl (mI m 31 (((2 * ((i : Nat) : Int)) + col).toNat))), (18, vi x59), (17, vi ((i : Nat) : Int)), (15, vl ((foldR (fun r_ : Nat => labR m j (r_ : Int)) (numR m col) e i).2.2.2.2.2.2)), (13, vl ((foldR (fun r_ : Nat => labR m j (r_ : Int)) (numR m col) e i).2.2.2.2.2.1)), (11, vl ((foldR (fun r_ : Nat => labR m j (r_ : Int)) (numR m col) e i).2.2.2.2.1)), (7, vl ((foldR (fun r_ : Nat => labR m j (r_ : Int)) (numR m col) e i).2.2.1)), (6, vi ((foldR (fun r_ : Nat => labR m j (r_ : Int)) (numR m col) e i).2.1)), (0, vr 30), (1, vi j), (2, vi e), (3, vi col), (4, vi w)]) rfl (Nat.le_of_ble_eq_true rfl) rfl ?_
                refine V_ld (pc := 126) dX11_measure_126 (v := vi ((foldR (fun r_ : Nat => labR m j (r_ : Int)) (numR m col) e i).2.1)) rfl rfl ?_
                refine V_if_ne (pc := 128) dX11_measure_128 (tgt := 136) rfl (fun h128 => ?_) (fun h128 => ?_)
                · skip
                  refine V_ld (pc := 136) dX11_measure_136 (v := vl ((foldR (fun r_ : Nat => labR m j (r_ : Int)) (numR m col) e i).2.2.2.2.1)) rfl rfl ?_
                  refine V_ld (pc := 138) dX11_measure_138 (v := vl (mI m 31 (((2 * ((i : Nat) : Int)) + col).toNat))) rfl rfl ?_
                  refine V_callS (pc := 140) dX11_measure_140 (F' := 0) (As := [vl ((foldR (fun r_ : Nat => labR m j (r_ : Int)) (numR m col) e i).2.2.2.2.1), vl (mI m 31 (((2 * ((i : Nat) : Int)) + col).toNat))]) (st := []) cw_RX11_389 rfl rfl (Nat.le_of_ble_eq_true rfl) (by omega) (j_max_l  m ((foldR (fun r_ : Nat => labR m j (r_ : Int)) (numR m col) e i).2.2.2.2.1) (mI m 31 (((2 * ((i : Nat) : Int)) + col).toNat))   ) ?_
                  rintro _ _ ⟨x140, rfl, hx140, rfl⟩ ok140 le140
                  refine V_st (pc := 143) dX11_measure_143 (ls' := [(11, vl x140), (9, vl x121), (5, vi (((foldR (fun r_ : Nat => labR m j (r_ : Int)) (numR m col) e i).1) + 1)), (19, vl (mI m 31 (((2 * ((i : Nat) : Int)) + col).toNat))), (18, vi x59), (17, vi ((i : Nat) : Int)), (15, vl ((foldR (fun r_ : Nat => labR m j (r_ : Int)) (numR m col) e i).2.2.2.2.2.2)), (13, vl ((foldR (fun r_ : Nat => labR m j (r_ : Int)) (numR m col) e i).2.2.2.2.2.1)), (7, vl ((foldR (fun r_ : Nat => labR m j (r_ : Int)) (numR m col) e i).2.2.1)), (6, vi ((foldR (fun r_ : Nat => labR m j (r_ : Int)) (numR m col) e i).2.1)), (0, vr 30), (1, vi j), (2, vi e), (3, vi col), (4, vi w)]) rfl (Nat.le_of_ble_eq_true rfl) rfl ?_
                  refine V_ld (pc := 145) dX11_measure_145 (v := vi ((foldR (fun r_ : Nat => labR m j (r_ : Int)) (numR m col) e i).2.1)) rfl rfl ?_
                  refine V_if_ne (pc := 147) dX11_measure_147 (tgt := 155) rfl (fun h147 => ?_) (fun h147 => ?_)
                  · skip
                    refine V_ld (pc := 155) dX11_measure_155 (v := vl ((foldR (fun r_ : Nat => labR m j (r_ : Int)) (numR m col) e i).2.2.2.2.2.1)) rfl rfl ?_
                    refine V_st (pc := 157) dX11_measure_157 (ls' := [(13, vl ((foldR (fun r_ : Nat => labR m j (r_ : Int)) (numR m col) e i).2.2.2.2.2.1)), (11, vl x140), (9, vl x121), (5, vi (((foldR (fun r_ : Nat => labR m j (r_ : Int)) (numR m col) e i).1) + 1)), (19, vl (mI m 31 (((2 * ((i : Nat) : Int)) + col).toNat))), (18, vi x59), (17, vi ((i : Nat) : Int)), (15, vl ((foldR (fun r_ : Nat => labR m j (r_ : Int)) (numR m col) e i).2.2.2.2.2.2)), (7, vl ((foldR (fun r_ : Nat => labR m j (r_ : Int)) (numR m col) e i).2.2.1)), (6, vi ((foldR (fun r_ : Nat => labR m j (r_ : Int)) (numR m col) e i).2.1)), (0, vr 30), (1, vi j), (2, vi e), (3, vi col), (4, vi w)]) rfl (Nat.le_of_ble_eq_true rfl) rfl ?_
                    refine V_ld (pc := 159) dX11_measure_159 (v := vl (mI m 31 (((2 * ((i : Nat) : Int)) + col).toNat))) rfl rfl ?_
                    refine V_st (pc := 161) dX11_measure_161 (ls' := [(15, vl (mI m 31 (((2 * ((i : Nat) : Int)) + col).toNat))), (13, vl ((foldR (fun r_ : Nat => labR m j (r_ : Int)) (numR m col) e i).2.2.2.2.2.1)), (11, vl x140), (9, vl x121), (5, vi (((foldR (fun r_ : Nat => labR m j (r_ : Int)) (numR m col) e i).1) + 1)), (19, vl (mI m 31 (((2 * ((i : Nat) : Int)) + col).toNat))), (18, vi x59), (17, vi ((i : Nat) : Int)), (7, vl ((foldR (fun r_ : Nat => labR m j (r_ : Int)) (numR m col) e i).2.2.1)), (6, vi ((foldR (fun r_ : Nat => labR m j (r_ : Int)) (numR m col) e i).2.1)), (0, vr 30), (1, vi j), (2, vi e), (3, vi col), (4, vi w)]) rfl (Nat.le_of_ble_eq_true rfl) rfl ?_
                    refine V_ld (pc := 163) dX11_measure_163 (v := vl ((foldR (fun r_ : Nat => labR m j (r_ : Int)) (numR m col) e i).2.2.1)) rfl rfl ?_
                    refine V_ld (pc := 165) dX11_measure_165 (v := vl (mI m 31 (((2 * ((i : Nat) : Int)) + col).toNat))) rfl rfl ?_
                    refine V_ladd (pc := 167) dX11_measure_167 (by have hb := foldR_bd (L := e) (lab := (fun r_ : Nat => labR m j (r_ : Int))) hnum i; unfold I64; (try unfold I32 at *); omega) ?_
                    refine V_st (pc := 168) dX11_measure_168 (ls' := [(7, vl (((foldR (fun r_ : Nat => labR m j (r_ : Int)) (numR m col) e i).2.2.1) + (mI m 31 (((2 * ((i : Nat) : Int)) + col).toNat)))), (15, vl (mI m 31 (((2 * ((i : Nat) : Int)) + col).toNat))), (13, vl ((foldR (fun r_ : Nat => labR m j (r_ : Int)) (numR m col) e i).2.2.2.2.2.1)), (11, vl x140), (9, vl x121), (5, vi (((foldR (fun r_ : Nat => labR m j (r_ : Int)) (numR m col) e i).1) + 1)), (19, vl (mI m 31 (((2 * ((i : Nat) : Int)) + col).toNat))), (18, vi x59), (17, vi ((i : Nat) : Int)), (6, vi ((foldR (fun r_ : Nat => labR m j (r_ : Int)) (numR m col) e i).2.1)), (0, vr 30), (1, vi j), (2, vi e), (3, vi col), (4, vi w)]) rfl (Nat.le_of_ble_eq_true rfl) rfl ?_
                    refine V_iinc (pc := 170) dX11_measure_170 (x := ((foldR (fun r_ : Nat => labR m j (r_ : Int)) (numR m col) e i).2.1)) (ls' := [(6, vi (((foldR (fun r_ : Nat => labR m j (r_ : Int)) (numR m col) e i).2.1) + 1)), (7, vl (((foldR (fun r_ : Nat => labR m j (r_ : Int)) (numR m col) e i).2.2.1) + (mI m 31 (((2 * ((i : Nat) : Int)) + col).toNat)))), (15, vl (mI m 31 (((2 * ((i : Nat) : Int)) + col).toNat))), (13, vl ((foldR (fun r_ : Nat => labR m j (r_ : Int)) (numR m col) e i).2.2.2.2.2.1)), (11, vl x140), (9, vl x121), (5, vi (((foldR (fun r_ : Nat => labR m j (r_ : Int)) (numR m col) e i).1) + 1)), (19, vl (mI m 31 (((2 * ((i : Nat) : Int)) + col).toNat))), (18, vi x59), (17, vi ((i : Nat) : Int)), (0, vr 30), (1, vi j), (2, vi e), (3, vi col), (4, vi w)]) rfl (by have hb := foldR_bd (L := e) (lab := (fun r_ : Nat => labR m j (r_ : Int))) hnum i; unfold I32; (try unfold I32 at *); omega) (Nat.le_of_ble_eq_true rfl) rfl ?_
                    refine V_iinc (pc := 173) dX11_measure_173 (x := ((i : Nat) : Int)) (ls' := [(17, vi (((i : Nat) : Int) + 1)), (6, vi (((foldR (fun r_ : Nat => labR m j (r_ : Int)) (numR m col) e i).2.1) + 1)), (7, vl (((foldR (fun r_ : Nat => labR m j (r_ : Int)) (numR m col) e i).2.2.1) + (mI m 31 (((2 * ((i : Nat) : Int)) + col).toNat)))), (15, vl (mI m 31 (((2 * ((i : Nat) : Int)) + col).toNat))), (13, vl ((foldR (fun r_ : Nat => labR m j (r_ : Int)) (numR m col) e i).2.2.2.2.2.1)), (11, vl x140), (9, vl x121), (5, vi (((foldR (fun r_ : Nat => labR m j (r_ : Int)) (numR m col) e i).1) + 1)), (19, vl (mI m 31 (((2 * ((i : Nat) : Int)) + col).toNat))), (18, vi x59), (0, vr 30), (1, vi j), (2, vi e), (3, vi col), (4, vi w)]) rfl (by unfold I32 at *; omega) (Nat.le_of_ble_eq_true rfl) rfl ?_
                    refine V_goto (pc := 176) dX11_measure_176 (tgt := 46) rfl ?_
                    try unfold cmpI at *
                    have ela : (labR m j (i : Int)) = x59 := by omega
                    have enu : (mI m 31 (2 * (i : Int) + col).toNat) = mI m 31 (((2 * ((i : Nat) : Int)) + col).toNat) := by omega
                    have e_ : foldR (fun r_ : Nat => labR m j (r_ : Int)) (numR m col) e (i + 1) = (((foldR (fun r_ : Nat => labR m j (r_ : Int)) (numR m col) e i).1) + 1, ((foldR (fun r_ : Nat => labR m j (r_ : Int)) (numR m col) e i).2.1) + 1, ((foldR (fun r_ : Nat => labR m j (r_ : Int)) (numR m col) e i).2.2.1) + (mI m 31 (((2 * ((i : Nat) : Int)) + col).toNat)), x121, x140, (foldR (fun r_ : Nat => labR m j (r_ : Int)) (numR m col) e i).2.2.2.2.2.1, mI m 31 (((2 * ((i : Nat) : Int)) + col).toNat)) := by
                      show stepR (labR m j (i : Int)) (mI m 31 (2 * (i : Int) + col).toNat) e (foldR (fun r_ : Nat => labR m j (r_ : Int)) (numR m col) e i) = _
                      rw [ela, enu]
                      unfold stepR
                      first
                        | (exfalso; omega)
                        | (rw [if_neg (by omega)])
                        | (rw [if_pos (by omega), if_pos (by omega)])
                        | (rw [if_pos (by omega), if_neg (by omega)]; simp only [Prod.mk.injEq]; repeat' apply And.intro
                           all_goals (first | trivial | omega))
                    have h_ := ih (i + 1) (by omega)
                    rw [e_] at h_
                    refine V_ls (ls' := [(17, vi (((i : Nat) : Int) + 1)), (15, vl (mI m 31 (((2 * ((i : Nat) : Int)) + col).toNat))), (13, vl ((foldR (fun r_ : Nat => labR m j (r_ : Int)) (numR m col) e i).2.2.2.2.2.1)), (11, vl x140), (9, vl x121), (7, vl (((foldR (fun r_ : Nat => labR m j (r_ : Int)) (numR m col) e i).2.2.1) + (mI m 31 (((2 * ((i : Nat) : Int)) + col).toNat)))), (6, vi (((foldR (fun r_ : Nat => labR m j (r_ : Int)) (numR m col) e i).2.1) + 1)), (5, vi (((foldR (fun r_ : Nat => labR m j (r_ : Int)) (numR m col) e i).1) + 1)), (0, vr 30), (1, vi j), (2, vi e), (3, vi col), (4, vi w)]) (by intro q_ h_; simp only [List.mem_cons, List.not_mem_nil, or_false] at h_ ⊢; rcases h_ with rfl | rfl | rfl | rfl | rfl | rfl | rfl | rfl | rfl | rfl | rfl | rfl | rfl <;> simp) ?_
                    exact h_
                  · skip
                    refine V_ld (pc := 150) dX11_measure_150 (v := vl (mI m 31 (((2 * ((i : Nat) : Int)) + col).toNat))) rfl rfl ?_
                    refine V_goto (pc := 152) dX11_measure_152 (tgt := 157) rfl ?_
                    refine V_st (pc := 157) dX11_measure_157 (ls' := [(13, vl (mI m 31 (((2 * ((i : Nat) : Int)) + col).toNat))), (11, vl x140), (9, vl x121), (5, vi (((foldR (fun r_ : Nat => labR m j (r_ : Int)) (numR m col) e i).1) + 1)), (19, vl (mI m 31 (((2 * ((i : Nat) : Int)) + col).toNat))), (18, vi x59), (17, vi ((i : Nat) : Int)), (15, vl ((foldR (fun r_ : Nat => labR m j (r_ : Int)) (numR m col) e i).2.2.2.2.2.2)), (7, vl ((foldR (fun r_ : Nat => labR m j (r_ : Int)) (numR m col) e i).2.2.1)), (6, vi ((foldR (fun r_ : Nat => labR m j (r_ : Int)) (numR m col) e i).2.1)), (0, vr 30), (1, vi j), (2, vi e), (3, vi col), (4, vi w)]) rfl (Nat.le_of_ble_eq_true rfl) rfl ?_
                    refine V_ld (pc := 159) dX11_measure_159 (v := vl (mI m 31 (((2 * ((i : Nat) : Int)) + col).toNat))) rfl rfl ?_
                    refine V_st (pc := 161) dX11_measure_161 (ls' := [(15, vl (mI m 31 (((2 * ((i : Nat) : Int)) + col).toNat))), (13, vl (mI m 31 (((2 * ((i : Nat) : Int)) + col).toNat))), (11, vl x140), (9, vl x121), (5, vi (((foldR (fun r_ : Nat => labR m j (r_ : Int)) (numR m col) e i).1) + 1)), (19, vl (mI m 31 (((2 * ((i : Nat) : Int)) + col).toNat))), (18, vi x59), (17, vi ((i : Nat) : Int)), (7, vl ((foldR (fun r_ : Nat => labR m j (r_ : Int)) (numR m col) e i).2.2.1)), (6, vi ((foldR (fun r_ : Nat => labR m j (r_ : Int)) (numR m col) e i).2.1)), (0, vr 30), (1, vi j), (2, vi e), (3, vi col), (4, vi w)]) rfl (Nat.le_of_ble_eq_true rfl) rfl ?_
                    refine V_ld (pc := 163) dX11_measure_163 (v := vl ((foldR (fun r_ : Nat => labR m j (r_ : Int)) (numR m col) e i).2.2.1)) rfl rfl ?_
                    refine V_ld (pc := 165) dX11_measure_165 (v := vl (mI m 31 (((2 * ((i : Nat) : Int)) + col).toNat))) rfl rfl ?_
                    refine V_ladd (pc := 167) dX11_measure_167 (by have hb := foldR_bd (L := e) (lab := (fun r_ : Nat => labR m j (r_ : Int))) hnum i; unfold I64; (try unfold I32 at *); omega) ?_
                    refine V_st (pc := 168) dX11_measure_168 (ls' := [(7, vl (((foldR (fun r_ : Nat => labR m j (r_ : Int)) (numR m col) e i).2.2.1) + (mI m 31 (((2 * ((i : Nat) : Int)) + col).toNat)))), (15, vl (mI m 31 (((2 * ((i : Nat) : Int)) + col).toNat))), (13, vl (mI m 31 (((2 * ((i : Nat) : Int)) + col).toNat))), (11, vl x140), (9, vl x121), (5, vi (((foldR (fun r_ : Nat => labR m j (r_ : Int)) (numR m col) e i).1) + 1)), (19, vl (mI m 31 (((2 * ((i : Nat) : Int)) + col).toNat))), (18, vi x59), (17, vi ((i : Nat) : Int)), (6, vi ((foldR (fun r_ : Nat => labR m j (r_ : Int)) (numR m col) e i).2.1)), (0, vr 30), (1, vi j), (2, vi e), (3, vi col), (4, vi w)]) rfl (Nat.le_of_ble_eq_true rfl) rfl ?_
                    refine V_iinc (pc := 170) dX11_measure_170 (x := ((foldR (fun r_ : Nat => labR m j (r_ : Int)) (numR m col) e i).2.1)) (ls' := [(6, vi (((foldR (fun r_ : Nat => labR m j (r_ : Int)) (numR m col) e i).2.1) + 1)), (7, vl (((foldR (fun r_ : Nat => labR m j (r_ : Int)) (numR m col) e i).2.2.1) + (mI m 31 (((2 * ((i : Nat) : Int)) + col).toNat)))), (15, vl (mI m 31 (((2 * ((i : Nat) : Int)) + col).toNat))), (13, vl (mI m 31 (((2 * ((i : Nat) : Int)) + col).toNat))), (11, vl x140), (9, vl x121), (5, vi (((foldR (fun r_ : Nat => labR m j (r_ : Int)) (numR m col) e i).1) + 1)), (19, vl (mI m 31 (((2 * ((i : Nat) : Int)) + col).toNat))), (18, vi x59), (17, vi ((i : Nat) : Int)), (0, vr 30), (1, vi j), (2, vi e), (3, vi col), (4, vi w)]) rfl (by have hb := foldR_bd (L := e) (lab := (fun r_ : Nat => labR m j (r_ : Int))) hnum i; unfold I32; (try unfold I32 at *); omega) (Nat.le_of_ble_eq_true rfl) rfl ?_
                    refine V_iinc (pc := 173) dX11_measure_173 (x := ((i : Nat) : Int)) (ls' := [(17, vi (((i : Nat) : Int) + 1)), (6, vi (((foldR (fun r_ : Nat => labR m j (r_ : Int)) (numR m col) e i).2.1) + 1)), (7, vl (((foldR (fun r_ : Nat => labR m j (r_ : Int)) (numR m col) e i).2.2.1) + (mI m 31 (((2 * ((i : Nat) : Int)) + col).toNat)))), (15, vl (mI m 31 (((2 * ((i : Nat) : Int)) + col).toNat))), (13, vl (mI m 31 (((2 * ((i : Nat) : Int)) + col).toNat))), (11, vl x140), (9, vl x121), (5, vi (((foldR (fun r_ : Nat => labR m j (r_ : Int)) (numR m col) e i).1) + 1)), (19, vl (mI m 31 (((2 * ((i : Nat) : Int)) + col).toNat))), (18, vi x59), (0, vr 30), (1, vi j), (2, vi e), (3, vi col), (4, vi w)]) rfl (by unfold I32 at *; omega) (Nat.le_of_ble_eq_true rfl) rfl ?_
                    refine V_goto (pc := 176) dX11_measure_176 (tgt := 46) rfl ?_
                    try unfold cmpI at *
                    have ela : (labR m j (i : Int)) = x59 := by omega
                    have enu : (mI m 31 (2 * (i : Int) + col).toNat) = mI m 31 (((2 * ((i : Nat) : Int)) + col).toNat) := by omega
                    have e_ : foldR (fun r_ : Nat => labR m j (r_ : Int)) (numR m col) e (i + 1) = (((foldR (fun r_ : Nat => labR m j (r_ : Int)) (numR m col) e i).1) + 1, ((foldR (fun r_ : Nat => labR m j (r_ : Int)) (numR m col) e i).2.1) + 1, ((foldR (fun r_ : Nat => labR m j (r_ : Int)) (numR m col) e i).2.2.1) + (mI m 31 (((2 * ((i : Nat) : Int)) + col).toNat)), x121, x140, mI m 31 (((2 * ((i : Nat) : Int)) + col).toNat), mI m 31 (((2 * ((i : Nat) : Int)) + col).toNat)) := by
                      show stepR (labR m j (i : Int)) (mI m 31 (2 * (i : Int) + col).toNat) e (foldR (fun r_ : Nat => labR m j (r_ : Int)) (numR m col) e i) = _
                      rw [ela, enu]
                      unfold stepR
                      first
                        | (exfalso; omega)
                        | (rw [if_neg (by omega)])
                        | (rw [if_pos (by omega), if_pos (by omega)])
                        | (rw [if_pos (by omega), if_neg (by omega)]; simp only [Prod.mk.injEq]; repeat' apply And.intro
                           all_goals (first | trivial | omega))
                    have h_ := ih (i + 1) (by omega)
                    rw [e_] at h_
                    refine V_ls (ls' := [(17, vi (((i : Nat) : Int) + 1)), (15, vl (mI m 31 (((2 * ((i : Nat) : Int)) + col).toNat))), (13, vl (mI m 31 (((2 * ((i : Nat) : Int)) + col).toNat))), (11, vl x140), (9, vl x121), (7, vl (((foldR (fun r_ : Nat => labR m j (r_ : Int)) (numR m col) e i).2.2.1) + (mI m 31 (((2 * ((i : Nat) : Int)) + col).toNat)))), (6, vi (((foldR (fun r_ : Nat => labR m j (r_ : Int)) (numR m col) e i).2.1) + 1)), (5, vi (((foldR (fun r_ : Nat => labR m j (r_ : Int)) (numR m col) e i).1) + 1)), (0, vr 30), (1, vi j), (2, vi e), (3, vi col), (4, vi w)]) (by intro q_ h_; simp only [List.mem_cons, List.not_mem_nil, or_false] at h_ ⊢; rcases h_ with rfl | rfl | rfl | rfl | rfl | rfl | rfl | rfl | rfl | rfl | rfl | rfl | rfl <;> simp) ?_
                    exact h_
                · skip
                  refine V_ld (pc := 131) dX11_measure_131 (v := vl (mI m 31 (((2 * ((i : Nat) : Int)) + col).toNat))) rfl rfl ?_
                  refine V_goto (pc := 133) dX11_measure_133 (tgt := 143) rfl ?_
                  refine V_st (pc := 143) dX11_measure_143 (ls' := [(11, vl (mI m 31 (((2 * ((i : Nat) : Int)) + col).toNat))), (9, vl x121), (5, vi (((foldR (fun r_ : Nat => labR m j (r_ : Int)) (numR m col) e i).1) + 1)), (19, vl (mI m 31 (((2 * ((i : Nat) : Int)) + col).toNat))), (18, vi x59), (17, vi ((i : Nat) : Int)), (15, vl ((foldR (fun r_ : Nat => labR m j (r_ : Int)) (numR m col) e i).2.2.2.2.2.2)), (13, vl ((foldR (fun r_ : Nat => labR m j (r_ : Int)) (numR m col) e i).2.2.2.2.2.1)), (7, vl ((foldR (fun r_ : Nat => labR m j (r_ : Int)) (numR m col) e i).2.2.1)), (6, vi ((foldR (fun r_ : Nat => labR m j (r_ : Int)) (numR m col) e i).2.1)), (0, vr 30), (1, vi j), (2, vi e), (3, vi col), (4, vi w)]) rfl (Nat.le_of_ble_eq_true rfl) rfl ?_
                  refine V_ld (pc := 145) dX11_measure_145 (v := vi ((foldR (fun r_ : Nat => labR m j (r_ : Int)) (numR m col) e i).2.1)) rfl rfl ?_
                  refine V_if_ne (pc := 147) dX11_measure_147 (tgt := 155) rfl (fun h147 => ?_) (fun h147 => ?_)
                  · skip
                    refine V_ld (pc := 155) dX11_measure_155 (v := vl ((foldR (fun r_ : Nat => labR m j (r_ : Int)) (numR m col) e i).2.2.2.2.2.1)) rfl rfl ?_
                    refine V_st (pc := 157) dX11_measure_157 (ls' := [(13, vl ((foldR (fun r_ : Nat => labR m j (r_ : Int)) (numR m col) e i).2.2.2.2.2.1)), (11, vl (mI m 31 (((2 * ((i : Nat) : Int)) + col).toNat))), (9, vl x121), (5, vi (((foldR (fun r_ : Nat => labR m j (r_ : Int)) (numR m col) e i).1) + 1)), (19, vl (mI m 31 (((2 * ((i : Nat) : Int)) + col).toNat))), (18, vi x59), (17, vi ((i : Nat) : Int)), (15, vl ((foldR (fun r_ : Nat => labR m j (r_ : Int)) (numR m col) e i).2.2.2.2.2.2)), (7, vl ((foldR (fun r_ : Nat => labR m j (r_ : Int)) (numR m col) e i).2.2.1)), (6, vi ((foldR (fun r_ : Nat => labR m j (r_ : Int)) (numR m col) e i).2.1)), (0, vr 30), (1, vi j), (2, vi e), (3, vi col), (4, vi w)]) rfl (Nat.le_of_ble_eq_true rfl) rfl ?_
                    refine V_ld (pc := 159) dX11_measure_159 (v := vl (mI m 31 (((2 * ((i : Nat) : Int)) + col).toNat))) rfl rfl ?_
                    refine V_st (pc := 161) dX11_measure_161 (ls' := [(15, vl (mI m 31 (((2 * ((i : Nat) : Int)) + col).toNat))), (13, vl ((foldR (fun r_ : Nat => labR m j (r_ : Int)) (numR m col) e i).2.2.2.2.2.1)), (11, vl (mI m 31 (((2 * ((i : Nat) : Int)) + col).toNat))), (9, vl x121), (5, vi (((foldR (fun r_ : Nat => labR m j (r_ : Int)) (numR m col) e i).1) + 1)), (19, vl (mI m 31 (((2 * ((i : Nat) : Int)) + col).toNat))), (18, vi x59), (17, vi ((i : Nat) : Int)), (7, vl ((foldR (fun r_ : Nat => labR m j (r_ : Int)) (numR m col) e i).2.2.1)), (6, vi ((foldR (fun r_ : Nat => labR m j (r_ : Int)) (numR m col) e i).2.1)), (0, vr 30), (1, vi j), (2, vi e), (3, vi col), (4, vi w)]) rfl (Nat.le_of_ble_eq_true rfl) rfl ?_
                    refine V_ld (pc := 163) dX11_measure_163 (v := vl ((foldR (fun r_ : Nat => labR m j (r_ : Int)) (numR m col) e i).2.2.1)) rfl rfl ?_
                    refine V_ld (pc := 165) dX11_measure_165 (v := vl (mI m 31 (((2 * ((i : Nat) : Int)) + col).toNat))) rfl rfl ?_
                    refine V_ladd (pc := 167) dX11_measure_167 (by have hb := foldR_bd (L := e) (lab := (fun r_ : Nat => labR m j (r_ : Int))) hnum i; unfold I64; (try unfold I32 at *); omega) ?_
                    refine V_st (pc := 168) dX11_measure_168 (ls' := [(7, vl (((foldR (fun r_ : Nat => labR m j (r_ : Int)) (numR m col) e i).2.2.1) + (mI m 31 (((2 * ((i : Nat) : Int)) + col).toNat)))), (15, vl (mI m 31 (((2 * ((i : Nat) : Int)) + col).toNat))), (13, vl ((foldR (fun r_ : Nat => labR m j (r_ : Int)) (numR m col) e i).2.2.2.2.2.1)), (11, vl (mI m 31 (((2 * ((i : Nat) : Int)) + col).toNat))), (9, vl x121), (5, vi (((foldR (fun r_ : Nat => labR m j (r_ : Int)) (numR m col) e i).1) + 1)), (19, vl (mI m 31 (((2 * ((i : Nat) : Int)) + col).toNat))), (18, vi x59), (17, vi ((i : Nat) : Int)), (6, vi ((foldR (fun r_ : Nat => labR m j (r_ : Int)) (numR m col) e i).2.1)), (0, vr 30), (1, vi j), (2, vi e), (3, vi col), (4, vi w)]) rfl (Nat.le_of_ble_eq_true rfl) rfl ?_
                    refine V_iinc (pc := 170) dX11_measure_170 (x := ((foldR (fun r_ : Nat => labR m j (r_ : Int)) (numR m col) e i).2.1)) (ls' := [(6, vi (((foldR (fun r_ : Nat => labR m j (r_ : Int)) (numR m col) e i).2.1) + 1)), (7, vl (((foldR (fun r_ : Nat => labR m j (r_ : Int)) (numR m col) e i).2.2.1) + (mI m 31 (((2 * ((i : Nat) : Int)) + col).toNat)))), (15, vl (mI m 31 (((2 * ((i : Nat) : Int)) + col).toNat))), (13, vl ((foldR (fun r_ : Nat => labR m j (r_ : Int)) (numR m col) e i).2.2.2.2.2.1)), (11, vl (mI m 31 (((2 * ((i : Nat) : Int)) + col).toNat))), (9, vl x121), (5, vi (((foldR (fun r_ : Nat => labR m j (r_ : Int)) (numR m col) e i).1) + 1)), (19, vl (mI m 31 (((2 * ((i : Nat) : Int)) + col).toNat))), (18, vi x59), (17, vi ((i : Nat) : Int)), (0, vr 30), (1, vi j), (2, vi e), (3, vi col), (4, vi w)]) rfl (by have hb := foldR_bd (L := e) (lab := (fun r_ : Nat => labR m j (r_ : Int))) hnum i; unfold I32; (try unfold I32 at *); omega) (Nat.le_of_ble_eq_true rfl) rfl ?_
                    refine V_iinc (pc := 173) dX11_measure_173 (x := ((i : Nat) : Int)) (ls' := [(17, vi (((i : Nat) : Int) + 1)), (6, vi (((foldR (fun r_ : Nat => labR m j (r_ : Int)) (numR m col) e i).2.1) + 1)), (7, vl (((foldR (fun r_ : Nat => labR m j (r_ : Int)) (numR m col) e i).2.2.1) + (mI m 31 (((2 * ((i : Nat) : Int)) + col).toNat)))), (15, vl (mI m 31 (((2 * ((i : Nat) : Int)) + col).toNat))), (13, vl ((foldR (fun r_ : Nat => labR m j (r_ : Int)) (numR m col) e i).2.2.2.2.2.1)), (11, vl (mI m 31 (((2 * ((i : Nat) : Int)) + col).toNat))), (9, vl x121), (5, vi (((foldR (fun r_ : Nat => labR m j (r_ : Int)) (numR m col) e i).1) + 1)), (19, vl (mI m 31 (((2 * ((i : Nat) : Int)) + col).toNat))), (18, vi x59), (0, vr 30), (1, vi j), (2, vi e), (3, vi col), (4, vi w)]) rfl (by unfold I32 at *; omega) (Nat.le_of_ble_eq_true rfl) rfl ?_
                    refine V_goto (pc := 176) dX11_measure_176 (tgt := 46) rfl ?_
                    try unfold cmpI at *
                    have ela : (labR m j (i : Int)) = x59 := by omega
                    have enu : (mI m 31 (2 * (i : Int) + col).toNat) = mI m 31 (((2 * ((i : Nat) : Int)) + col).toNat) := by omega
                    have e_ : foldR (fun r_ : Nat => labR m j (r_ : Int)) (numR m col) e (i + 1) = (((foldR (fun r_ : Nat => labR m j (r_ : Int)) (numR m col) e i).1) + 1, ((foldR (fun r_ : Nat => labR m j (r_ : Int)) (numR m col) e i).2.1) + 1, ((foldR (fun r_ : Nat => labR m j (r_ : Int)) (numR m col) e i).2.2.1) + (mI m 31 (((2 * ((i : Nat) : Int)) + col).toNat)), x121, mI m 31 (((2 * ((i : Nat) : Int)) + col).toNat), (foldR (fun r_ : Nat => labR m j (r_ : Int)) (numR m col) e i).2.2.2.2.2.1, mI m 31 (((2 * ((i : Nat) : Int)) + col).toNat)) := by
                      show stepR (labR m j (i : Int)) (mI m 31 (2 * (i : Int) + col).toNat) e (foldR (fun r_ : Nat => labR m j (r_ : Int)) (numR m col) e i) = _
                      rw [ela, enu]
                      unfold stepR
                      first
                        | (exfalso; omega)
                        | (rw [if_neg (by omega)])
                        | (rw [if_pos (by omega), if_pos (by omega)])
                        | (rw [if_pos (by omega), if_neg (by omega)]; simp only [Prod.mk.injEq]; repeat' apply And.intro
                           all_goals (first | trivial | omega))
                    have h_ := ih (i + 1) (by omega)
                    rw [e_] at h_
                    refine V_ls (ls' := [(17, vi (((i : Nat) : Int) + 1)), (15, vl (mI m 31 (((2 * ((i : Nat) : Int)) + col).toNat))), (13, vl ((foldR (fun r_ : Nat => labR m j (r_ : Int)) (numR m col) e i).2.2.2.2.2.1)), (11, vl (mI m 31 (((2 * ((i : Nat) : Int)) + col).toNat))), (9, vl x121), (7, vl (((foldR (fun r_ : Nat => labR m j (r_ : Int)) (numR m col) e i).2.2.1) + (mI m 31 (((2 * ((i : Nat) : Int)) + col).toNat)))), (6, vi (((foldR (fun r_ : Nat => labR m j (r_ : Int)) (numR m col) e i).2.1) + 1)), (5, vi (((foldR (fun r_ : Nat => labR m j (r_ : Int)) (numR m col) e i).1) + 1)), (0, vr 30), (1, vi j), (2, vi e), (3, vi col), (4, vi w)]) (by intro q_ h_; simp only [List.mem_cons, List.not_mem_nil, or_false] at h_ ⊢; rcases h_ with rfl | rfl | rfl | rfl | rfl | rfl | rfl | rfl | rfl | rfl | rfl | rfl | rfl <;> simp) ?_
                    exact h_
                  · skip
                    refine V_ld (pc := 150) dX11_measure_150 (v := vl (mI m 31 (((2 * ((i : Nat) : Int)) + col).toNat))) rfl rfl ?_
                    refine V_goto (pc := 152) dX11_measure_152 (tgt := 157) rfl ?_
                    refine V_st (pc := 157) dX11_measure_157 (ls' := [(13, vl (mI m 31 (((2 * ((i : Nat) : Int)) + col).toNat))), (11, vl (mI m 31 (((2 * ((i : Nat) : Int)) + col).toNat))), (9, vl x121), (5, vi (((foldR (fun r_ : Nat => labR m j (r_ : Int)) (numR m col) e i).1) + 1)), (19, vl (mI m 31 (((2 * ((i : Nat) : Int)) + col).toNat))), (18, vi x59), (17, vi ((i : Nat) : Int)), (15, vl ((foldR (fun r_ : Nat => labR m j (r_ : Int)) (numR m col) e i).2.2.2.2.2.2)), (7, vl ((foldR (fun r_ : Nat => labR m j (r_ : Int)) (numR m col) e i).2.2.1)), (6, vi ((foldR (fun r_ : Nat => labR m j (r_ : Int)) (numR m col) e i).2.1)), (0, vr 30), (1, vi j), (2, vi e), (3, vi col), (4, vi w)]) rfl (Nat.le_of_ble_eq_true rfl) rfl ?_
                    refine V_ld (pc := 159) dX11_measure_159 (v := vl (mI m 31 (((2 * ((i : Nat) : Int)) + col).toNat))) rfl rfl ?_
                    refine V_st (pc := 161) dX11_measure_161 (ls' := [(15, vl (mI m 31 (((2 * ((i : Nat) : Int)) + col).toNat))), (13, vl (mI m 31 (((2 * ((i : Nat) : Int)) + col).toNat))), (11, vl (mI m 31 (((2 * ((i : Nat) : Int)) + col).toNat))), (9, vl x121), (5, vi (((foldR (fun r_ : Nat => labR m j (r_ : Int)) (numR m col) e i).1) + 1)), (19, vl (mI m 31 (((2 * ((i : Nat) : Int)) + col).toNat))), (18, vi x59), (17, vi ((i : Nat) : Int)), (7, vl ((foldR (fun r_ : Nat => labR m j (r_ : Int)) (numR m col) e i).2.2.1)), (6, vi ((foldR (fun r_ : Nat => labR m j (r_ : Int)) (numR m col) e i).2.1)), (0, vr 30), (1, vi j), (2, vi e), (3, vi col), (4, vi w)]) rfl (Nat.le_of_ble_eq_true rfl) rfl ?_
                    refine V_ld (pc := 163) dX11_measure_163 (v := vl ((foldR (fun r_ : Nat => labR m j (r_ : Int)) (numR m col) e i).2.2.1)) rfl rfl ?_
                    refine V_ld (pc := 165) dX11_measure_165 (v := vl (mI m 31 (((2 * ((i : Nat) : Int)) + col).toNat))) rfl rfl ?_
                    refine V_ladd (pc := 167) dX11_measure_167 (by have hb := foldR_bd (L := e) (lab := (fun r_ : Nat => labR m j (r_ : Int))) hnum i; unfold I64; (try unfold I32 at *); omega) ?_
                    refine V_st (pc := 168) dX11_measure_168 (ls' := [(7, vl (((foldR (fun r_ : Nat => labR m j (r_ : Int)) (numR m col) e i).2.2.1) + (mI m 31 (((2 * ((i : Nat) : Int)) + col).toNat)))), (15, vl (mI m 31 (((2 * ((i : Nat) : Int)) + col).toNat))), (13, vl (mI m 31 (((2 * ((i : Nat) : Int)) + col).toNat))), (11, vl (mI m 31 (((2 * ((i : Nat) : Int)) + col).toNat))), (9, vl x121), (5, vi (((foldR (fun r_ : Nat => labR m j (r_ : Int)) (numR m col) e i).1) + 1)), (19, vl (mI m 31 (((2 * ((i : Nat) : Int)) + col).toNat))), (18, vi x59), (17, vi ((i : Nat) : Int)), (6, vi ((foldR (fun r_ : Nat => labR m j (r_ : Int)) (numR m col) e i).2.1)), (0, vr 30), (1, vi j), (2, vi e), (3, vi col), (4, vi w)]) rfl (Nat.le_of_ble_eq_true rfl) rfl ?_
                    refine V_iinc (pc := 170) dX11_measure_170 (x := ((foldR (fun r_ : Nat => labR m j (r_ : Int)) (numR m col) e i).2.1)) (ls' := [(6, vi (((foldR (fun r_ : Nat => labR m j (r_ : Int)) (numR m col) e i).2.1) + 1)), (7, vl (((foldR (fun r_ : Nat => labR m j (r_ : Int)) (numR m col) e i).2.2.1) + (mI m 31 (((2 * ((i : Nat) : Int)) + col).toNat)))), (15, vl (mI m 31 (((2 * ((i : Nat) : Int)) + col).toNat))), (13, vl (mI m 31 (((2 * ((i : Nat) : Int)) + col).toNat))), (11, vl (mI m 31 (((2 * ((i : Nat) : Int)) + col).toNat))), (9, vl x121), (5, vi (((foldR (fun r_ : Nat => labR m j (r_ : Int)) (numR m col) e i).1) + 1)), (19, vl (mI m 31 (((2 * ((i : Nat) : Int)) + col).toNat))), (18, vi x59), (17, vi ((i : Nat) : Int)), (0, vr 30), (1, vi j), (2, vi e), (3, vi col), (4, vi w)]) rfl (by have hb := foldR_bd (L := e) (lab := (fun r_ : Nat => labR m j (r_ : Int))) hnum i; unfold I32; (try unfold I32 at *); omega) (Nat.le_of_ble_eq_true rfl) rfl ?_
                    refine V_iinc (pc := 173) dX11_measure_173 (x := ((i : Nat) : Int)) (ls' := [(17, vi (((i : Nat) : Int) + 1)), (6, vi (((foldR (fun r_ : Nat => labR m j (r_ : Int)) (numR m col) e i).2.1) + 1)), (7, vl (((foldR (fun r_ : Nat => labR m j (r_ : Int)) (numR m col) e i).2.2.1) + (mI m 31 (((2 * ((i : Nat) : Int)) + col).toNat)))), (15, vl (mI m 31 (((2 * ((i : Nat) : Int)) + col).toNat))), (13, vl (mI m 31 (((2 * ((i : Nat) : Int)) + col).toNat))), (11, vl (mI m 31 (((2 * ((i : Nat) : Int)) + col).toNat))), (9, vl x121), (5, vi (((foldR (fun r_ : Nat => labR m j (r_ : Int)) (numR m col) e i).1) + 1)), (19, vl (mI m 31 (((2 * ((i : Nat) : Int)) + col).toNat))), (18, vi x59), (0, vr 30), (1, vi j), (2, vi e), (3, vi col), (4, vi w)]) rfl (by unfold I32 at *; omega) (Nat.le_of_ble_eq_true rfl) rfl ?_
                    refine V_goto (pc := 176) dX11_measure_176 (tgt := 46) rfl ?_
                    try unfold cmpI at *
                    have ela : (labR m j (i : Int)) = x59 := by omega
                    have enu : (mI m 31 (2 * (i : Int) + col).toNat) = mI m 31 (((2 * ((i : Nat) : Int)) + col).toNat) := by omega
                    have e_ : foldR (fun r_ : Nat => labR m j (r_ : Int)) (numR m col) e (i + 1) = (((foldR (fun r_ : Nat => labR m j (r_ : Int)) (numR m col) e i).1) + 1, ((foldR (fun r_ : Nat => labR m j (r_ : Int)) (numR m col) e i).2.1) + 1, ((foldR (fun r_ : Nat => labR m j (r_ : Int)) (numR m col) e i).2.2.1) + (mI m 31 (((2 * ((i : Nat) : Int)) + col).toNat)), x121, mI m 31 (((2 * ((i : Nat) : Int)) + col).toNat), mI m 31 (((2 * ((i : Nat) : Int)) + col).toNat), mI m 31 (((2 * ((i : Nat) : Int)) + col).toNat)) := by
                      show stepR (labR m j (i : Int)) (mI m 31 (2 * (i : Int) + col).toNat) e (foldR (fun r_ : Nat => labR m j (r_ : Int)) (numR m col) e i) = _
                      rw [ela, enu]
                      unfold stepR
                      first
                        | (exfalso; omega)
                        | (rw [if_neg (by omega)])
                        | (rw [if_pos (by omega), if_pos (by omega)])
                        | (rw [if_pos (by omega), if_neg (by omega)]; simp only [Prod.mk.injEq]; repeat' apply And.intro
                           all_goals (first | trivial | omega))
                    have h_ := ih (i + 1) (by omega)
                    rw [e_] at h_
                    refine V_ls (ls' := [(17, vi (((i : Nat) : Int) + 1)), (15, vl (mI m 31 (((2 * ((i : Nat) : Int)) + col).toNat))), (13, vl (mI m 31 (((2 * ((i : Nat) : Int)) + col).toNat))), (11, vl (mI m 31 (((2 * ((i : Nat) : Int)) + col).toNat))), (9, vl x121), (7, vl (((foldR (fun r_ : Nat => labR m j (r_ : Int)) (numR m col) e i).2.2.1) + (mI m 31 (((2 * ((i : Nat) : Int)) + col).toNat)))), (6, vi (((foldR (fun r_ : Nat => labR m j (r_ : Int)) (numR m col) e i).2.1) + 1)), (5, vi (((foldR (fun r_ : Nat => labR m j (r_ : Int)) (numR m col) e i).1) + 1)), (0, vr 30), (1, vi j), (2, vi e), (3, vi col), (4, vi w)]) (by intro q_ h_; simp only [List.mem_cons, List.not_mem_nil, or_false] at h_ ⊢; rcases h_ with rfl | rfl | rfl | rfl | rfl | rfl | rfl | rfl | rfl | rfl | rfl | rfl | rfl <;> simp) ?_
                    exact h_
              · skip
                refine V_ld (pc := 112) dX11_measure_112 (v := vl (mI m 31 (((2 * ((i : Nat) : Int)) + col).toNat))) rfl rfl ?_
                refine V_goto (pc := 114) dX11_measure_114 (tgt := 124) rfl ?_
                refine V_st (pc := 124) dX11_measure_124 (ls' := [(9, vl (mI m 31 (((2 * ((i : Nat) : Int)) + col).toNat))), (5, vi (((foldR (fun r_ : Nat => labR m j (r_ : Int)) (numR m col) e i).1) + 1)), (19, vl (mI m 31 (((2 * ((i : Nat) : Int)) + col).toNat))), (18, vi x59), (17, vi ((i : Nat) : Int)), (15, vl ((foldR (fun r_ : Nat => labR m j (r_ : Int)) (numR m col) e i).2.2.2.2.2.2)), (13, vl ((foldR (fun r_ : Nat => labR m j (r_ : Int)) (numR m col) e i).2.2.2.2.2.1)), (11, vl ((foldR (fun r_ : Nat => labR m j (r_ : Int)) (numR m col) e i).2.2.2.2.1)), (7, vl ((foldR (fun r_ : Nat => labR m j (r_ : Int)) (numR m col) e i).2.2.1)), (6, vi ((foldR (fun r_ : Nat => labR m j (r_ : Int)) (numR m col) e i).2.1)), (0, vr 30), (1, vi j), (2, vi e), (3, vi col), (4, vi w)]) rfl (Nat.le_of_ble_eq_true rfl) rfl ?_
                refine V_ld (pc := 126) dX11_measure_126 (v := vi ((foldR (fun r_ : Nat => labR m j (r_ : Int)) (numR m col) e i).2.1)) rfl rfl ?_
                refine V_if_ne (pc := 128) dX11_measure_128 (tgt := 136) rfl (fun h128 => ?_) (fun h128 => ?_)
                · skip
                  refine V_ld (pc := 136) dX11_measure_136 (v := vl ((foldR (fun r_ : Nat => labR m j (r_ : Int)) (numR m col) e i).2.2.2.2.1)) rfl rfl ?_
                  refine V_ld (pc := 138) dX11_measure_138 (v := vl (mI m 31 (((2 * ((i : Nat) : Int)) + col).toNat))) rfl rfl ?_
                  refine V_callS (pc := 140) dX11_measure_140 (F' := 0) (As := [vl ((foldR (fun r_ : Nat => labR m j (r_ : Int)) (numR m col) e i).2.2.2.2.1), vl (mI m 31 (((2 * ((i : Nat) : Int)) + col).toNat))]) (st := []) cw_RX11_389 rfl rfl (Nat.le_of_ble_eq_true rfl) (by omega) (j_max_l  m ((foldR (fun r_ : Nat => labR m j (r_ : Int)) (numR m col) e i).2.2.2.2.1) (mI m 31 (((2 * ((i : Nat) : Int)) + col).toNat))   ) ?_
                  rintro _ _ ⟨x140, rfl, hx140, rfl⟩ ok140 le140
                  refine V_st (pc := 143) dX11_measure_143 (ls' := [(11, vl x140), (9, vl (mI m 31 (((2 * ((i : Nat) : Int)) + col).toNat))), (5, vi (((foldR (fun r_ : Nat => labR m j (r_ : Int)) (numR m col) e i).1) + 1)), (19, vl (mI m 31 (((2 * ((i : Nat) : Int)) + col).toNat))), (18, vi x59), (17, vi ((i : Nat) : Int)), (15, vl ((foldR (fun r_ : Nat => labR m j (r_ : Int)) (numR m col) e i).2.2.2.2.2.2)), (13, vl ((foldR (fun r_ : Nat => labR m j (r_ : Int)) (numR m col) e i).2.2.2.2.2.1)), (7, vl ((foldR (fun r_ : Nat => labR m j (r_ : Int)) (numR m col) e i).2.2.1)), (6, vi ((foldR (fun r_ : Nat => labR m j (r_ : Int)) (numR m col) e i).2.1)), (0, vr 30), (1, vi j), (2, vi e), (3, vi col), (4, vi w)]) rfl (Nat.le_of_ble_eq_true rfl) rfl ?_
                  refine V_ld (pc := 145) dX11_measure_145 (v := vi ((foldR (fun r_ : Nat => labR m j (r_ : Int)) (numR m col) e i).2.1)) rfl rfl ?_
                  refine V_if_ne (pc := 147) dX11_measure_147 (tgt := 155) rfl (fun h147 => ?_) (fun h147 => ?_)
                  · skip
                    refine V_ld (pc := 155) dX11_measure_155 (v := vl ((foldR (fun r_ : Nat => labR m j (r_ : Int)) (numR m col) e i).2.2.2.2.2.1)) rfl rfl ?_
                    refine V_st (pc := 157) dX11_measure_157 (ls' := [(13, vl ((foldR (fun r_ : Nat => labR m j (r_ : Int)) (numR m col) e i).2.2.2.2.2.1)), (11, vl x140), (9, vl (mI m 31 (((2 * ((i : Nat) : Int)) + col).toNat))), (5, vi (((foldR (fun r_ : Nat => labR m j (r_ : Int)) (numR m col) e i).1) + 1)), (19, vl (mI m 31 (((2 * ((i : Nat) : Int)) + col).toNat))), (18, vi x59), (17, vi ((i : Nat) : Int)), (15, vl ((foldR (fun r_ : Nat => labR m j (r_ : Int)) (numR m col) e i).2.2.2.2.2.2)), (7, vl ((foldR (fun r_ : Nat => labR m j (r_ : Int)) (numR m col) e i).2.2.1)), (6, vi ((foldR (fun r_ : Nat => labR m j (r_ : Int)) (numR m col) e i).2.1)), (0, vr 30), (1, vi j), (2, vi e), (3, vi col), (4, vi w)]) rfl (Nat.le_of_ble_eq_true rfl) rfl ?_
                    refine V_ld (pc := 159) dX11_measure_159 (v := vl (mI m 31 (((2 * ((i : Nat) : Int)) + col).toNat))) rfl rfl ?_
                    refine V_st (pc := 161) dX11_measure_161 (ls' := [(15, vl (mI m 31 (((2 * ((i : Nat) : Int)) + col).toNat))), (13, vl ((foldR (fun r_ : Nat => labR m j (r_ : Int)) (numR m col) e i).2.2.2.2.2.1)), (11, vl x140), (9, vl (mI m 31 (((2 * ((i : Nat) : Int)) + col).toNat))), (5, vi (((foldR (fun r_ : Nat => labR m j (r_ : Int)) (numR m col) e i).1) + 1)), (19, vl (mI m 31 (((2 * ((i : Nat) : Int)) + col).toNat))), (18, vi x59), (17, vi ((i : Nat) : Int)), (7, vl ((foldR (fun r_ : Nat => labR m j (r_ : Int)) (numR m col) e i).2.2.1)), (6, vi ((foldR (fun r_ : Nat => labR m j (r_ : Int)) (numR m col) e i).2.1)), (0, vr 30), (1, vi j), (2, vi e), (3, vi col), (4, vi w)]) rfl (Nat.le_of_ble_eq_true rfl) rfl ?_
                    refine V_ld (pc := 163) dX11_measure_163 (v := vl ((foldR (fun r_ : Nat => labR m j (r_ : Int)) (numR m col) e i).2.2.1)) rfl rfl ?_
                    refine V_ld (pc := 165) dX11_measure_165 (v := vl (mI m 31 (((2 * ((i : Nat) : Int)) + col).toNat))) rfl rfl ?_
                    refine V_ladd (pc := 167) dX11_measure_167 (by have hb := foldR_bd (L := e) (lab := (fun r_ : Nat => labR m j (r_ : Int))) hnum i; unfold I64; (try unfold I32 at *); omega) ?_
                    refine V_st (pc := 168) dX11_measure_168 (ls' := [(7, vl (((foldR (fun r_ : Nat => labR m j (r_ : Int)) (numR m col) e i).2.2.1) + (mI m 31 (((2 * ((i : Nat) : Int)) + col).toNat)))), (15, vl (mI m 31 (((2 * ((i : Nat) : Int)) + col).toNat))), (13, vl ((foldR (fun r_ : Nat => labR m j (r_ : Int)) (numR m col) e i).2.2.2.2.2.1)), (11, vl x140), (9, vl (mI m 31 (((2 * ((i : Nat) : Int)) + col).toNat))), (5, vi (((foldR (fun r_ : Nat => labR m j (r_ : Int)) (numR m col) e i).1) + 1)), (19, vl (mI m 31 (((2 * ((i : Nat) : Int)) + col).toNat))), (18, vi x59), (17, vi ((i : Nat) : Int)), (6, vi ((foldR (fun r_ : Nat => labR m j (r_ : Int)) (numR m col) e i).2.1)), (0, vr 30), (1, vi j), (2, vi e), (3, vi col), (4, vi w)]) rfl (Nat.le_of_ble_eq_true rfl) rfl ?_
                    refine V_iinc (pc := 170) dX11_measure_170 (x := ((foldR (fun r_ : Nat => labR m j (r_ : Int)) (numR m col) e i).2.1)) (ls' := [(6, vi (((foldR (fun r_ : Nat => labR m j (r_ : Int)) (numR m col) e i).2.1) + 1)), (7, vl (((foldR (fun r_ : Nat => labR m j (r_ : Int)) (numR m col) e i).2.2.1) + (mI m 31 (((2 * ((i : Nat) : Int)) + col).toNat)))), (15, vl (mI m 31 (((2 * ((i : Nat) : Int)) + col).toNat))), (13, vl ((foldR (fun r_ : Nat => labR m j (r_ : Int)) (numR m col) e i).2.2.2.2.2.1)), (11, vl x140), (9, vl (mI m 31 (((2 * ((i : Nat) : Int)) + col).toNat))), (5, vi (((foldR (fun r_ : Nat => labR m j (r_ : Int)) (numR m col) e i).1) + 1)), (19, vl (mI m 31 (((2 * ((i : Nat) : Int)) + col).toNat))), (18, vi x59), (17, vi ((i : Nat) : Int)), (0, vr 30), (1, vi j), (2, vi e), (3, vi col), (4, vi w)]) rfl (by have hb := foldR_bd (L := e) (lab := (fun r_ : Nat => labR m j (r_ : Int))) hnum i; unfold I32; (try unfold I32 at *); omega) (Nat.le_of_ble_eq_true rfl) rfl ?_
                    refine V_iinc (pc := 173) dX11_measure_173 (x := ((i : Nat) : Int)) (ls' := [(17, vi (((i : Nat) : Int) + 1)), (6, vi (((foldR (fun r_ : Nat => labR m j (r_ : Int)) (numR m col) e i).2.1) + 1)), (7, vl (((foldR (fun r_ : Nat => labR m j (r_ : Int)) (numR m col) e i).2.2.1) + (mI m 31 (((2 * ((i : Nat) : Int)) + col).toNat)))), (15, vl (mI m 31 (((2 * ((i : Nat) : Int)) + col).toNat))), (13, vl ((foldR (fun r_ : Nat => labR m j (r_ : Int)) (numR m col) e i).2.2.2.2.2.1)), (11, vl x140), (9, vl (mI m 31 (((2 * ((i : Nat) : Int)) + col).toNat))), (5, vi (((foldR (fun r_ : Nat => labR m j (r_ : Int)) (numR m col) e i).1) + 1)), (19, vl (mI m 31 (((2 * ((i : Nat) : Int)) + col).toNat))), (18, vi x59), (0, vr 30), (1, vi j), (2, vi e), (3, vi col), (4, vi w)]) rfl (by unfold I32 at *; omega) (Nat.le_of_ble_eq_true rfl) rfl ?_
                    refine V_goto (pc := 176) dX11_measure_176 (tgt := 46) rfl ?_
                    try unfold cmpI at *
                    have ela : (labR m j (i : Int)) = x59 := by omega
                    have enu : (mI m 31 (2 * (i : Int) + col).toNat) = mI m 31 (((2 * ((i : Nat) : Int)) + col).toNat) := by omega
                    have e_ : foldR (fun r_ : Nat => labR m j (r_ : Int)) (numR m col) e (i + 1) = (((foldR (fun r_ : Nat => labR m j (r_ : Int)) (numR m col) e i).1) + 1, ((foldR (fun r_ : Nat => labR m j (r_ : Int)) (numR m col) e i).2.1) + 1, ((foldR (fun r_ : Nat => labR m j (r_ : Int)) (numR m col) e i).2.2.1) + (mI m 31 (((2 * ((i : Nat) : Int)) + col).toNat)), mI m 31 (((2 * ((i : Nat) : Int)) + col).toNat), x140, (foldR (fun r_ : Nat => labR m j (r_ : Int)) (numR m col) e i).2.2.2.2.2.1, mI m 31 (((2 * ((i : Nat) : Int)) + col).toNat)) := by
                      show stepR (labR m j (i : Int)) (mI m 31 (2 * (i : Int) + col).toNat) e (foldR (fun r_ : Nat => labR m j (r_ : Int)) (numR m col) e i) = _
                      rw [ela, enu]
                      unfold stepR
                      first
                        | (exfalso; omega)
                        | (rw [if_neg (by omega)])
                        | (rw [if_pos (by omega), if_pos (by omega)])
                        | (rw [if_pos (by omega), if_neg (by omega)]; simp only [Prod.mk.injEq]; repeat' apply And.intro
                           all_goals (first | trivial | omega))
                    have h_ := ih (i + 1) (by omega)
                    rw [e_] at h_
                    refine V_ls (ls' := [(17, vi (((i : Nat) : Int) + 1)), (15, vl (mI m 31 (((2 * ((i : Nat) : Int)) + col).toNat))), (13, vl ((foldR (fun r_ : Nat => labR m j (r_ : Int)) (numR m col) e i).2.2.2.2.2.1)), (11, vl x140), (9, vl (mI m 31 (((2 * ((i : Nat) : Int)) + col).toNat))), (7, vl (((foldR (fun r_ : Nat => labR m j (r_ : Int)) (numR m col) e i).2.2.1) + (mI m 31 (((2 * ((i : Nat) : Int)) + col).toNat)))), (6, vi (((foldR (fun r_ : Nat => labR m j (r_ : Int)) (numR m col) e i).2.1) + 1)), (5, vi (((foldR (fun r_ : Nat => labR m j (r_ : Int)) (numR m col) e i).1) + 1)), (0, vr 30), (1, vi j), (2, vi e), (3, vi col), (4, vi w)]) (by intro q_ h_; simp only [List.mem_cons, List.not_mem_nil, or_false] at h_ ⊢; rcases h_ with rfl | rfl | rfl | rfl | rfl | rfl | rfl | rfl | rfl | rfl | rfl | rfl | rfl <;> simp) ?_
                    exact h_
                  · skip
                    refine V_ld (pc := 150) dX11_measure_150 (v := vl (mI m 31 (((2 * ((i : Nat) : Int)) + col).toNat))) rfl rfl ?_
                    refine V_goto (pc := 152) dX11_measure_152 (tgt := 157) rfl ?_
                    refine V_st (pc := 157) dX11_measure_157 (ls' := [(13, vl (mI m 31 (((2 * ((i : Nat) : Int)) + col).toNat))), (11, vl x140), (9, vl (mI m 31 (((2 * ((i : Nat) : Int)) + col).toNat))), (5, vi (((foldR (fun r_ : Nat => labR m j (r_ : Int)) (numR m col) e i).1) + 1)), (19, vl (mI m 31 (((2 * ((i : Nat) : Int)) + col).toNat))), (18, vi x59), (17, vi ((i : Nat) : Int)), (15, vl ((foldR (fun r_ : Nat => labR m j (r_ : Int)) (numR m col) e i).2.2.2.2.2.2)), (7, vl ((foldR (fun r_ : Nat => labR m j (r_ : Int)) (numR m col) e i).2.2.1)), (6, vi ((foldR (fun r_ : Nat => labR m j (r_ : Int)) (numR m col) e i).2.1)), (0, vr 30), (1, vi j), (2, vi e), (3, vi col), (4, vi w)]) rfl (Nat.le_of_ble_eq_true rfl) rfl ?_
                    refine V_ld (pc := 159) dX11_measure_159 (v := vl (mI m 31 (((2 * ((i : Nat) : Int)) + col).toNat))) rfl rfl ?_
                    refine V_st (pc := 161) dX11_measure_161 (ls' := [(15, vl (mI m 31 (((2 * ((i : Nat) : Int)) + col).toNat))), (13, vl (mI m 31 (((2 * ((i : Nat) : Int)) + col).toNat))), (11, vl x140), (9, vl (mI m 31 (((2 * ((i : Nat) : Int)) + col).toNat))), (5, vi (((foldR (fun r_ : Nat => labR m j (r_ : Int)) (numR m col) e i).1) + 1)), (19, vl (mI m 31 (((2 * ((i : Nat) : Int)) + col).toNat))), (18, vi x59), (17, vi ((i : Nat) : Int)), (7, vl ((foldR (fun r_ : Nat => labR m j (r_ : Int)) (numR m col) e i).2.2.1)), (6, vi ((foldR (fun r_ : Nat => labR m j (r_ : Int)) (numR m col) e i).2.1)), (0, vr 30), (1, vi j), (2, vi e), (3, vi col), (4, vi w)]) rfl (Nat.le_of_ble_eq_true rfl) rfl ?_
                    refine V_ld (pc := 163) dX11_measure_163 (v := vl ((foldR (fun r_ : Nat => labR m j (r_ : Int)) (numR m col) e i).2.2.1)) rfl rfl ?_
                    refine V_ld (pc := 165) dX11_measure_165 (v := vl (mI m 31 (((2 * ((i : Nat) : Int)) + col).toNat))) rfl rfl ?_
                    refine V_ladd (pc := 167) dX11_measure_167 (by have hb := foldR_bd (L := e) (lab := (fun r_ : Nat => labR m j (r_ : Int))) hnum i; unfold I64; (try unfold I32 at *); omega) ?_
                    refine V_st (pc := 168) dX11_measure_168 (ls' := [(7, vl (((foldR (fun r_ : Nat => labR m j (r_ : Int)) (numR m col) e i).2.2.1) + (mI m 31 (((2 * ((i : Nat) : Int)) + col).toNat)))), (15, vl (mI m 31 (((2 * ((i : Nat) : Int)) + col).toNat))), (13, vl (mI m 31 (((2 * ((i : Nat) : Int)) + col).toNat))), (11, vl x140), (9, vl (mI m 31 (((2 * ((i : Nat) : Int)) + col).toNat))), (5, vi (((foldR (fun r_ : Nat => labR m j (r_ : Int)) (numR m col) e i).1) + 1)), (19, vl (mI m 31 (((2 * ((i : Nat) : Int)) + col).toNat))), (18, vi x59), (17, vi ((i : Nat) : Int)), (6, vi ((foldR (fun r_ : Nat => labR m j (r_ : Int)) (numR m col) e i).2.1)), (0, vr 30), (1, vi j), (2, vi e), (3, vi col), (4, vi w)]) rfl (Nat.le_of_ble_eq_true rfl) rfl ?_
                    refine V_iinc (pc := 170) dX11_measure_170 (x := ((foldR (fun r_ : Nat => labR m j (r_ : Int)) (numR m col) e i).2.1)) (ls' := [(6, vi (((foldR (fun r_ : Nat => labR m j (r_ : Int)) (numR m col) e i).2.1) + 1)), (7, vl (((foldR (fun r_ : Nat => labR m j (r_ : Int)) (numR m col) e i).2.2.1) + (mI m 31 (((2 * ((i : Nat) : Int)) + col).toNat)))), (15, vl (mI m 31 (((2 * ((i : Nat) : Int)) + col).toNat))), (13, vl (mI m 31 (((2 * ((i : Nat) : Int)) + col).toNat))), (11, vl x140), (9, vl (mI m 31 (((2 * ((i : Nat) : Int)) + col).toNat))), (5, vi (((foldR (fun r_ : Nat => labR m j (r_ : Int)) (numR m col) e i).1) + 1)), (19, vl (mI m 31 (((2 * ((i : Nat) : Int)) + col).toNat))), (18, vi x59), (17, vi ((i : Nat) : Int)), (0, vr 30), (1, vi j), (2, vi e), (3, vi col), (4, vi w)]) rfl (by have hb := foldR_bd (L := e) (lab := (fun r_ : Nat => labR m j (r_ : Int))) hnum i; unfold I32; (try unfold I32 at *); omega) (Nat.le_of_ble_eq_true rfl) rfl ?_
                    refine V_iinc (pc := 173) dX11_measure_173 (x := ((i : Nat) : Int)) (ls' := [(17, vi (((i : Nat) : Int) + 1)), (6, vi (((foldR (fun r_ : Nat => labR m j (r_ : Int)) (numR m col) e i).2.1) + 1)), (7, vl (((foldR (fun r_ : Nat => labR m j (r_ : Int)) (numR m col) e i).2.2.1) + (mI m 31 (((2 * ((i : Nat) : Int)) + col).toNat)))), (15, vl (mI m 31 (((2 * ((i : Nat) : Int)) + col).toNat))), (13, vl (mI m 31 (((2 * ((i : Nat) : Int)) + col).toNat))), (11, vl x140), (9, vl (mI m 31 (((2 * ((i : Nat) : Int)) + col).toNat))), (5, vi (((foldR (fun r_ : Nat => labR m j (r_ : Int)) (numR m col) e i).1) + 1)), (19, vl (mI m 31 (((2 * ((i : Nat) : Int)) + col).toNat))), (18, vi x59), (0, vr 30), (1, vi j), (2, vi e), (3, vi col), (4, vi w)]) rfl (by unfold I32 at *; omega) (Nat.le_of_ble_eq_true rfl) rfl ?_
                    refine V_goto (pc := 176) dX11_measure_176 (tgt := 46) rfl ?_
                    try unfold cmpI at *
                    have ela : (labR m j (i : Int)) = x59 := by omega
                    have enu : (mI m 31 (2 * (i : Int) + col).toNat) = mI m 31 (((2 * ((i : Nat) : Int)) + col).toNat) := by omega
                    have e_ : foldR (fun r_ : Nat => labR m j (r_ : Int)) (numR m col) e (i + 1) = (((foldR (fun r_ : Nat => labR m j (r_ : Int)) (numR m col) e i).1) + 1, ((foldR (fun r_ : Nat => labR m j (r_ : Int)) (numR m col) e i).2.1) + 1, ((foldR (fun r_ : Nat => labR m j (r_ : Int)) (numR m col) e i).2.2.1) + (mI m 31 (((2 * ((i : Nat) : Int)) + col).toNat)), mI m 31 (((2 * ((i : Nat) : Int)) + col).toNat), x140, mI m 31 (((2 * ((i : Nat) : Int)) + col).toNat), mI m 31 (((2 * ((i : Nat) : Int)) + col).toNat)) := by
                      show stepR (labR m j (i : Int)) (mI m 31 (2 * (i : Int) + col).toNat) e (foldR (fun r_ : Nat => labR m j (r_ : Int)) (numR m col) e i) = _
                      rw [ela, enu]
                      unfold stepR
                      first
                        | (exfalso; omega)
                        | (rw [if_neg (by omega)])
                        | (rw [if_pos (by omega), if_pos (by omega)])
                        | (rw [if_pos (by omega), if_neg (by omega)]; simp only [Prod.mk.injEq]; repeat' apply And.intro
                           all_goals (first | trivial | omega))
                    have h_ := ih (i + 1) (by omega)
                    rw [e_] at h_
                    refine V_ls (ls' := [(17, vi (((i : Nat) : Int) + 1)), (15, vl (mI m 31 (((2 * ((i : Nat) : Int)) + col).toNat))), (13, vl (mI m 31 (((2 * ((i : Nat) : Int)) + col).toNat))), (11, vl x140), (9, vl (mI m 31 (((2 * ((i : Nat) : Int)) + col).toNat))), (7, vl (((foldR (fun r_ : Nat => labR m j (r_ : Int)) (numR m col) e i).2.2.1) + (mI m 31 (((2 * ((i : Nat) : Int)) + col).toNat)))), (6, vi (((foldR (fun r_ : Nat => labR m j (r_ : Int)) (numR m col) e i).2.1) + 1)), (5, vi (((foldR (fun r_ : Nat => labR m j (r_ : Int)) (numR m col) e i).1) + 1)), (0, vr 30), (1, vi j), (2, vi e), (3, vi col), (4, vi w)]) (by intro q_ h_; simp only [List.mem_cons, List.not_mem_nil, or_false] at h_ ⊢; rcases h_ with rfl | rfl | rfl | rfl | rfl | rfl | rfl | rfl | rfl | rfl | rfl | rfl | rfl <;> simp) ?_
                    exact h_
                · skip
                  refine V_ld (pc := 131) dX11_measure_131 (v := vl (mI m 31 (((2 * ((i : Nat) : Int)) + col).toNat))) rfl rfl ?_
                  refine V_goto (pc := 133) dX11_measure_133 (tgt := 143) rfl ?_
                  refine V_st (pc := 143) dX11_measure_143 (ls' := [(11, vl (mI m 31 (((2 * ((i : Nat) : Int)) + col).toNat))), (9, vl (mI m 31 (((2 * ((i : Nat) : Int)) + col).toNat))), (5, vi (((foldR (fun r_ : Nat => labR m j (r_ : Int)) (numR m col) e i).1) + 1)), (19, vl (mI m 31 (((2 * ((i : Nat) : Int)) + col).toNat))), (18, vi x59), (17, vi ((i : Nat) : Int)), (15, vl ((foldR (fun r_ : Nat => labR m j (r_ : Int)) (numR m col) e i).2.2.2.2.2.2)), (13, vl ((foldR (fun r_ : Nat => labR m j (r_ : Int)) (numR m col) e i).2.2.2.2.2.1)), (7, vl ((foldR (fun r_ : Nat => labR m j (r_ : Int)) (numR m col) e i).2.2.1)), (6, vi ((foldR (fun r_ : Nat => labR m j (r_ : Int)) (numR m col) e i).2.1)), (0, vr 30), (1, vi j), (2, vi e), (3, vi col), (4, vi w)]) rfl (Nat.le_of_ble_eq_true rfl) rfl ?_
                  refine V_ld (pc := 145) dX11_measure_145 (v := vi ((foldR (fun r_ : Nat => labR m j (r_ : Int)) (numR m col) e i).2.1)) rfl rfl ?_
                  refine V_if_ne (pc := 147) dX11_measure_147 (tgt := 155) rfl (fun h147 => ?_) (fun h147 => ?_)
                  · skip
                    refine V_ld (pc := 155) dX11_measure_155 (v := vl ((foldR (fun r_ : Nat => labR m j (r_ : Int)) (numR m col) e i).2.2.2.2.2.1)) rfl rfl ?_
                    refine V_st (pc := 157) dX11_measure_157 (ls' := [(13, vl ((foldR (fun r_ : Nat => labR m j (r_ : Int)) (numR m col) e i).2.2.2.2.2.1)), (11, vl (mI m 31 (((2 * ((i : Nat) : Int)) + col).toNat))), (9, vl (mI m 31 (((2 * ((i : Nat) : Int)) + col).toNat))), (5, vi (((foldR (fun r_ : Nat => labR m j (r_ : Int)) (numR m col) e i).1) + 1)), (19, vl (mI m 31 (((2 * ((i : Nat) : Int)) + col).toNat))), (18, vi x59), (17, vi ((i : Nat) : Int)), (15, vl ((foldR (fun r_ : Nat => labR m j (r_ : Int)) (numR m col) e i).2.2.2.2.2.2)), (7, vl ((foldR (fun r_ : Nat => labR m j (r_ : Int)) (numR m col) e i).2.2.1)), (6, vi ((foldR (fun r_ : Nat => labR m j (r_ : Int)) (numR m col) e i).2.1)), (0, vr 30), (1, vi j), (2, vi e), (3, vi col), (4, vi w)]) rfl (Nat.le_of_ble_eq_true rfl) rfl ?_
                    refine V_ld (pc := 159) dX11_measure_159 (v := vl (mI m 31 (((2 * ((i : Nat) : Int)) + col).toNat))) rfl rfl ?_
                    refine V_st (pc := 161) dX11_measure_161 (ls' := [(15, vl (mI m 31 (((2 * ((i : Nat) : Int)) + col).toNat))), (13, vl ((foldR (fun r_ : Nat => labR m j (r_ : Int)) (numR m col) e i).2.2.2.2.2.1)), (11, vl (mI m 31 (((2 * ((i : Nat) : Int)) + col).toNat))), (9, vl (mI m 31 (((2 * ((i : Nat) : Int)) + col).toNat))), (5, vi (((foldR (fun r_ : Nat => labR m j (r_ : Int)) (numR m col) e i).1) + 1)), (19, vl (mI m 31 (((2 * ((i : Nat) : Int)) + col).toNat))), (18, vi x59), (17, vi ((i : Nat) : Int)), (7, vl ((foldR (fun r_ : Nat => labR m j (r_ : Int)) (numR m col) e i).2.2.1)), (6, vi ((foldR (fun r_ : Nat => labR m j (r_ : Int)) (numR m col) e i).2.1)), (0, vr 30), (1, vi j), (2, vi e), (3, vi col), (4, vi w)]) rfl (Nat.le_of_ble_eq_true rfl) rfl ?_
                    refine V_ld (pc := 163) dX11_measure_163 (v := vl ((foldR (fun r_ : Nat => labR m j (r_ : Int)) (numR m col) e i).2.2.1)) rfl rfl ?_
                    refine V_ld (pc := 165) dX11_measure_165 (v := vl (mI m 31 (((2 * ((i : Nat) : Int)) + col).toNat))) rfl rfl ?_
                    refine V_ladd (pc := 167) dX11_measure_167 (by have hb := foldR_bd (L := e) (lab := (fun r_ : Nat => labR m j (r_ : Int))) hnum i; unfold I64; (try unfold I32 at *); omega) ?_
                    refine V_st (pc := 168) dX11_measure_168 (ls' := [(7, vl (((foldR (fun r_ : Nat => labR m j (r_ : Int)) (numR m col) e i).2.2.1) + (mI m 31 (((2 * ((i : Nat) : Int)) + col).toNat)))), (15, vl (mI m 31 (((2 * ((i : Nat) : Int)) + col).toNat))), (13, vl ((foldR (fun r_ : Nat => labR m j (r_ : Int)) (numR m col) e i).2.2.2.2.2.1)), (11, vl (mI m 31 (((2 * ((i : Nat) : Int)) + col).toNat))), (9, vl (mI m 31 (((2 * ((i : Nat) : Int)) + col).toNat))), (5, vi (((foldR (fun r_ : Nat => labR m j (r_ : Int)) (numR m col) e i).1) + 1)), (19, vl (mI m 31 (((2 * ((i : Nat) : Int)) + col).toNat))), (18, vi x59), (17, vi ((i : Nat) : Int)), (6, vi ((foldR (fun r_ : Nat => labR m j (r_ : Int)) (numR m col) e i).2.1)), (0, vr 30), (1, vi j), (2, vi e), (3, vi col), (4, vi w)]) rfl (Nat.le_of_ble_eq_true rfl) rfl ?_
                    refine V_iinc (pc := 170) dX11_measure_170 (x := ((foldR (fun r_ : Nat => labR m j (r_ : Int)) (numR m col) e i).2.1)) (ls' := [(6, vi (((foldR (fun r_ : Nat => labR m j (r_ : Int)) (numR m col) e i).2.1) + 1)), (7, vl (((foldR (fun r_ : Nat => labR m j (r_ : Int)) (numR m col) e i).2.2.1) + (mI m 31 (((2 * ((i : Nat) : Int)) + col).toNat)))), (15, vl (mI m 31 (((2 * ((i : Nat) : Int)) + col).toNat))), (13, vl ((foldR (fun r_ : Nat => labR m j (r_ : Int)) (numR m col) e i).2.2.2.2.2.1)), (11, vl (mI m 31 (((2 * ((i : Nat) : Int)) + col).toNat))), (9, vl (mI m 31 (((2 * ((i : Nat) : Int)) + col).toNat))), (5, vi (((foldR (fun r_ : Nat => labR m j (r_ : Int)) (numR m col) e i).1) + 1)), (19, vl (mI m 31 (((2 * ((i : Nat) : Int)) + col).toNat))), (18, vi x59), (17, vi ((i : Nat) : Int)), (0, vr 30), (1, vi j), (2, vi e), (3, vi col), (4, vi w)]) rfl (by have hb := foldR_bd (L := e) (lab := (fun r_ : Nat => labR m j (r_ : Int))) hnum i; unfold I32; (try unfold I32 at *); omega) (Nat.le_of_ble_eq_true rfl) rfl ?_
                    refine V_iinc (pc := 173) dX11_measure_173 (x := ((i : Nat) : Int)) (ls' := [(17, vi (((i : Nat) : Int) + 1)), (6, vi (((foldR (fun r_ : Nat => labR m j (r_ : Int)) (numR m col) e i).2.1) + 1)), (7, vl (((foldR (fun r_ : Nat => labR m j (r_ : Int)) (numR m col) e i).2.2.1) + (mI m 31 (((2 * ((i : Nat) : Int)) + col).toNat)))), (15, vl (mI m 31 (((2 * ((i : Nat) : Int)) + col).toNat))), (13, vl ((foldR (fun r_ : Nat => labR m j (r_ : Int)) (numR m col) e i).2.2.2.2.2.1)), (11, vl (mI m 31 (((2 * ((i : Nat) : Int)) + col).toNat))), (9, vl (mI m 31 (((2 * ((i : Nat) : Int)) + col).toNat))), (5, vi (((foldR (fun r_ : Nat => labR m j (r_ : Int)) (numR m col) e i).1) + 1)), (19, vl (mI m 31 (((2 * ((i : Nat) : Int)) + col).toNat))), (18, vi x59), (0, vr 30), (1, vi j), (2, vi e), (3, vi col), (4, vi w)]) rfl (by unfold I32 at *; omega) (Nat.le_of_ble_eq_true rfl) rfl ?_
                    refine V_goto (pc := 176) dX11_measure_176 (tgt := 46) rfl ?_
                    try unfold cmpI at *
                    have ela : (labR m j (i : Int)) = x59 := by omega
                    have enu : (mI m 31 (2 * (i : Int) + col).toNat) = mI m 31 (((2 * ((i : Nat) : Int)) + col).toNat) := by omega
                    have e_ : foldR (fun r_ : Nat => labR m j (r_ : Int)) (numR m col) e (i + 1) = (((foldR (fun r_ : Nat => labR m j (r_ : Int)) (numR m col) e i).1) + 1, ((foldR (fun r_ : Nat => labR m j (r_ : Int)) (numR m col) e i).2.1) + 1, ((foldR (fun r_ : Nat => labR m j (r_ : Int)) (numR m col) e i).2.2.1) + (mI m 31 (((2 * ((i : Nat) : Int)) + col).toNat)), mI m 31 (((2 * ((i : Nat) : Int)) + col).toNat), mI m 31 (((2 * ((i : Nat) : Int)) + col).toNat), (foldR (fun r_ : Nat => labR m j (r_ : Int)) (numR m col) e i).2.2.2.2.2.1, mI m 31 (((2 * ((i : Nat) : Int)) + col).toNat)) := by
                      show stepR (labR m j (i : Int)) (mI m 31 (2 * (i : Int) + col).toNat) e (foldR (fun r_ : Nat => labR m j (r_ : Int)) (numR m col) e i) = _
                      rw [ela, enu]
                      unfold stepR
                      first
                        | (exfalso; omega)
                        | (rw [if_neg (by omega)])
                        | (rw [if_pos (by omega), if_pos (by omega)])
                        | (rw [if_pos (by omega), if_neg (by omega)]; simp only [Prod.mk.injEq]; repeat' apply And.intro
                           all_goals (first | trivial | omega))
                    have h_ := ih (i + 1) (by omega)
                    rw [e_] at h_
                    refine V_ls (ls' := [(17, vi (((i : Nat) : Int) + 1)), (15, vl (mI m 31 (((2 * ((i : Nat) : Int)) + col).toNat))), (13, vl ((foldR (fun r_ : Nat => labR m j (r_ : Int)) (numR m col) e i).2.2.2.2.2.1)), (11, vl (mI m 31 (((2 * ((i : Nat) : Int)) + col).toNat))), (9, vl (mI m 31 (((2 * ((i : Nat) : Int)) + col).toNat))), (7, vl (((foldR (fun r_ : Nat => labR m j (r_ : Int)) (numR m col) e i).2.2.1) + (mI m 31 (((2 * ((i : Nat) : Int)) + col).toNat)))), (6, vi (((foldR (fun r_ : Nat => labR m j (r_ : Int)) (numR m col) e i).2.1) + 1)), (5, vi (((foldR (fun r_ : Nat => labR m j (r_ : Int)) (numR m col) e i).1) + 1)), (0, vr 30), (1, vi j), (2, vi e), (3, vi col), (4, vi w)]) (by intro q_ h_; simp only [List.mem_cons, List.not_mem_nil, or_false] at h_ ⊢; rcases h_ with rfl | rfl | rfl | rfl | rfl | rfl | rfl | rfl | rfl | rfl | rfl | rfl | rfl <;> simp) ?_
                    exact h_
                  · skip
                    refine V_ld (pc := 150) dX11_measure_150 (v := vl (mI m 31 (((2 * ((i : Nat) : Int)) + col).toNat))) rfl rfl ?_
                    refine V_goto (pc := 152) dX11_measure_152 (tgt := 157) rfl ?_
                    refine V_st (pc := 157) dX11_measure_157 (ls' := [(13, vl (mI m 31 (((2 * ((i : Nat) : Int)) + col).toNat))), (11, vl (mI m 31 (((2 * ((i : Nat) : Int)) + col).toNat))), (9, vl (mI m 31 (((2 * ((i : Nat) : Int)) + col).toNat))), (5, vi (((foldR (fun r_ : Nat => labR m j (r_ : Int)) (numR m col) e i).1) + 1)), (19, vl (mI m 31 (((2 * ((i : Nat) : Int)) + col).toNat))), (18, vi x59), (17, vi ((i : Nat) : Int)), (15, vl ((foldR (fun r_ : Nat => labR m j (r_ : Int)) (numR m col) e i).2.2.2.2.2.2)), (7, vl ((foldR (fun r_ : Nat => labR m j (r_ : Int)) (numR m col) e i).2.2.1)), (6, vi ((foldR (fun r_ : Nat => labR m j (r_ : Int)) (numR m col) e i).2.1)), (0, vr 30), (1, vi j), (2, vi e), (3, vi col), (4, vi w)]) rfl (Nat.le_of_ble_eq_true rfl) rfl ?_
                    refine V_ld (pc := 159) dX11_measure_159 (v := vl (mI m 31 (((2 * ((i : Nat) : Int)) + col).toNat))) rfl rfl ?_
                    refine V_st (pc := 161) dX11_measure_161 (ls' := [(15, vl (mI m 31 (((2 * ((i : Nat) : Int)) + col).toNat))), (13, vl (mI m 31 (((2 * ((i : Nat) : Int)) + col).toNat))), (11, vl (mI m 31 (((2 * ((i : Nat) : Int)) + col).toNat))), (9, vl (mI m 31 (((2 * ((i : Nat) : Int)) + col).toNat))), (5, vi (((foldR (fun r_ : Nat => labR m j (r_ : Int)) (numR m col) e i).1) + 1)), (19, vl (mI m 31 (((2 * ((i : Nat) : Int)) + col).toNat))), (18, vi x59), (17, vi ((i : Nat) : Int)), (7, vl ((foldR (fun r_ : Nat => labR m j (r_ : Int)) (numR m col) e i).2.2.1)), (6, vi ((foldR (fun r_ : Nat => labR m j (r_ : Int)) (numR m col) e i).2.1)), (0, vr 30), (1, vi j), (2, vi e), (3, vi col), (4, vi w)]) rfl (Nat.le_of_ble_eq_true rfl) rfl ?_
                    refine V_ld (pc := 163) dX11_measure_163 (v := vl ((foldR (fun r_ : Nat => labR m j (r_ : Int)) (numR m col) e i).2.2.1)) rfl rfl ?_
                    refine V_ld (pc := 165) dX11_measure_165 (v := vl (mI m 31 (((2 * ((i : Nat) : Int)) + col).toNat))) rfl rfl ?_
                    refine V_ladd (pc := 167) dX11_measure_167 (by have hb := foldR_bd (L := e) (lab := (fun r_ : Nat => labR m j (r_ : Int))) hnum i; unfold I64; (try unfold I32 at *); omega) ?_
                    refine V_st (pc := 168) dX11_measure_168 (ls' := [(7, vl (((foldR (fun r_ : Nat => labR m j (r_ : Int)) (numR m col) e i).2.2.1) + (mI m 31 (((2 * ((i : Nat) : Int)) + col).toNat)))), (15, vl (mI m 31 (((2 * ((i : Nat) : Int)) + col).toNat))), (13, vl (mI m 31 (((2 * ((i : Nat) : Int)) + col).toNat))), (11, vl (mI m 31 (((2 * ((i : Nat) : Int)) + col).toNat))), (9, vl (mI m 31 (((2 * ((i : Nat) : Int)) + col).toNat))), (5, vi (((foldR (fun r_ : Nat => labR m j (r_ : Int)) (numR m col) e i).1) + 1)), (19, vl (mI m 31 (((2 * ((i : Nat) : Int)) + col).toNat))), (18, vi x59), (17, vi ((i : Nat) : Int)), (6, vi ((foldR (fun r_ : Nat => labR m j (r_ : Int)) (numR m col) e i).2.1)), (0, vr 30), (1, vi j), (2, vi e), (3, vi col), (4, vi w)]) rfl (Nat.le_of_ble_eq_true rfl) rfl ?_
                    refine V_iinc (pc := 170) dX11_measure_170 (x := ((foldR (fun r_ : Nat => labR m j (r_ : Int)) (numR m col) e i).2.1)) (ls' := [(6, vi (((foldR (fun r_ : Nat => labR m j (r_ : Int)) (numR m col) e i).2.1) + 1)), (7, vl (((foldR (fun r_ : Nat => labR m j (r_ : Int)) (numR m col) e i).2.2.1) + (mI m 31 (((2 * ((i : Nat) : Int)) + col).toNat)))), (15, vl (mI m 31 (((2 * ((i : Nat) : Int)) + col).toNat))), (13, vl (mI m 31 (((2 * ((i : Nat) : Int)) + col).toNat))), (11, vl (mI m 31 (((2 * ((i : Nat) : Int)) + col).toNat))), (9, vl (mI m 31 (((2 * ((i : Nat) : Int)) + col).toNat))), (5, vi (((foldR (fun r_ : Nat => labR m j (r_ : Int)) (numR m col) e i).1) + 1)), (19, vl (mI m 31 (((2 * ((i : Nat) : Int)) + col).toNat))), (18, vi x59), (17, vi ((i : Nat) : Int)), (0, vr 30), (1, vi j), (2, vi e), (3, vi col), (4, vi w)]) rfl (by have hb := foldR_bd (L := e) (lab := (fun r_ : Nat => labR m j (r_ : Int))) hnum i; unfold I32; (try unfold I32 at *); omega) (Nat.le_of_ble_eq_true rfl) rfl ?_
                    refine V_iinc (pc := 173) dX11_measure_173 (x := ((i : Nat) : Int)) (ls' := [(17, vi (((i : Nat) : Int) + 1)), (6, vi (((foldR (fun r_ : Nat => labR m j (r_ : Int)) (numR m col) e i).2.1) + 1)), (7, vl (((foldR (fun r_ : Nat => labR m j (r_ : Int)) (numR m col) e i).2.2.1) + (mI m 31 (((2 * ((i : Nat) : Int)) + col).toNat)))), (15, vl (mI m 31 (((2 * ((i : Nat) : Int)) + col).toNat))), (13, vl (mI m 31 (((2 * ((i : Nat) : Int)) + col).toNat))), (11, vl (mI m 31 (((2 * ((i : Nat) : Int)) + col).toNat))), (9, vl (mI m 31 (((2 * ((i : Nat) : Int)) + col).toNat))), (5, vi (((foldR (fun r_ : Nat => labR m j (r_ : Int)) (numR m col) e i).1) + 1)), (19, vl (mI m 31 (((2 * ((i : Nat) : Int)) + col).toNat))), (18, vi x59), (0, vr 30), (1, vi j), (2, vi e), (3, vi col), (4, vi w)]) rfl (by unfold I32 at *; omega) (Nat.le_of_ble_eq_true rfl) rfl ?_
                    refine V_goto (pc := 176) dX11_measure_176 (tgt := 46) rfl ?_
                    try unfold cmpI at *
                    have ela : (labR m j (i : Int)) = x59 := by omega
                    have enu : (mI m 31 (2 * (i : Int) + col).toNat) = mI m 31 (((2 * ((i : Nat) : Int)) + col).toNat) := by omega
                    have e_ : foldR (fun r_ : Nat => labR m j (r_ : Int)) (numR m col) e (i + 1) = (((foldR (fun r_ : Nat => labR m j (r_ : Int)) (numR m col) e i).1) + 1, ((foldR (fun r_ : Nat => labR m j (r_ : Int)) (numR m col) e i).2.1) + 1, ((foldR (fun r_ : Nat => labR m j (r_ : Int)) (numR m col) e i).2.2.1) + (mI m 31 (((2 * ((i : Nat) : Int)) + col).toNat)), mI m 31 (((2 * ((i : Nat) : Int)) + col).toNat), mI m 31 (((2 * ((i : Nat) : Int)) + col).toNat), mI m 31 (((2 * ((i : Nat) : Int)) + col).toNat), mI m 31 (((2 * ((i : Nat) : Int)) + col).toNat)) := by
                      show stepR (labR m j (i : Int)) (mI m 31 (2 * (i : Int) + col).toNat) e (foldR (fun r_ : Nat => labR m j (r_ : Int)) (numR m col) e i) = _
                      rw [ela, enu]
                      unfold stepR
                      first
                        | (exfalso; omega)
                        | (rw [if_neg (by omega)])
                        | (rw [if_pos (by omega), if_pos (by omega)])
                        | (rw [if_pos (by omega), if_neg (by omega)]; simp only [Prod.mk.injEq]; repeat' apply And.intro
                           all_goals (first | trivial | omega))
                    have h_ := ih (i + 1) (by omega)
                    rw [e_] at h_
                    refine V_ls (ls' := [(17, vi (((i : Nat) : Int) + 1)), (15, vl (mI m 31 (((2 * ((i : Nat) : Int)) + col).toNat))), (13, vl (mI m 31 (((2 * ((i : Nat) : Int)) + col).toNat))), (11, vl (mI m 31 (((2 * ((i : Nat) : Int)) + col).toNat))), (9, vl (mI m 31 (((2 * ((i : Nat) : Int)) + col).toNat))), (7, vl (((foldR (fun r_ : Nat => labR m j (r_ : Int)) (numR m col) e i).2.2.1) + (mI m 31 (((2 * ((i : Nat) : Int)) + col).toNat)))), (6, vi (((foldR (fun r_ : Nat => labR m j (r_ : Int)) (numR m col) e i).2.1) + 1)), (5, vi (((foldR (fun r_ : Nat => labR m j (r_ : Int)) (numR m col) e i).1) + 1)), (0, vr 30), (1, vi j), (2, vi e), (3, vi col), (4, vi w)]) (by intro q_ h_; simp only [List.mem_cons, List.not_mem_nil, or_false] at h_ ⊢; rcases h_ with rfl | rfl | rfl | rfl | rfl | rfl | rfl | rfl | rfl | rfl | rfl | rfl | rfl <;> simp) ?_
                    exact h_

theorem tdiv_fl2 {a b : Int} (hb : 0 < b) : a / b = if a < Int.tdiv a b * b then Int.tdiv a b - 1 else Int.tdiv a b := by
  have h := tdiv_fl (a := a) hb
  rw [h]
  rcases Int.le_total 0 a with h0 | h0
  · have e : Int.tdiv a b = a / b := Int.tdiv_eq_ediv_of_nonneg h0
    have h3 := Int.mul_ediv_add_emod a b
    have h4 := Int.emod_nonneg a (by omega : b ≠ 0)
    have h6 : a / b * b = b * (a / b) := Int.mul_comm _ _
    rw [e, if_neg (by omega), if_neg (by omega)]
  · have e : Int.tdiv a b = -((-a) / b) := by
      rw [← Int.neg_neg a, Int.neg_tdiv, Int.tdiv_eq_ediv_of_nonneg (by omega)]
      simp
    have h3 := Int.mul_ediv_add_emod (-a) b
    have h4 := Int.emod_nonneg (-a) (by omega : b ≠ 0)
    have h6 : -(-a / b) * b = -(b * (-a / b)) := by rw [Int.neg_mul, Int.mul_comm]
    have h5 : 0 ≤ b * ((-a) / b) := Int.mul_nonneg (by omega) (Int.ediv_nonneg (by omega) (by omega))
    rw [e]
    by_cases h7 : a < -(-a / b) * b
    · rw [if_pos h7, if_pos (by omega)]
    · rw [if_neg h7, if_neg (by omega)]
theorem tdiv_fl3 {a b : Int} : 0 < b → (a < Int.tdiv a b * b → a / b = Int.tdiv a b - 1) ∧ (Int.tdiv a b * b ≤ a → a / b = Int.tdiv a b) := fun hb => by
  have h := tdiv_fl2 (a := a) hb
  rw [h]
  exact ⟨fun h => if_pos h, fun h => if_neg (by omega)⟩
theorem tdiv_i64 {a b : Int} (hb : 0 < b) (ha : -1000000 ≤ a ∧ a ≤ 1000000) : I64 (Int.tdiv a b) := by
  have := tdiv_bd hb ha
  unfold I64; omega
theorem foldR_M2 {lab num : Nat → Int} {L : Int} (h : ∀ r, -999 ≤ num r ∧ num r ≤ 1000) (r : Nat) : (foldR lab num L r).1 = (foldM lab num L r).1 ∧ (foldR lab num L r).2.1 = (foldM lab num L r).2.1 ∧ (foldR lab num L r).2.2.1 = (foldM lab num L r).2.2.1 ∧ 0 ≤ (foldM lab num L r).2.1 ∧ ((foldM lab num L r).2.1 = 0 → (foldM lab num L r).2.2.1 = 0 ∧ (foldM lab num L r).2.2.2.1 = -9223372036854775808 ∧ (foldM lab num L r).2.2.2.2.1 = -9223372036854775808 ∧ (foldM lab num L r).2.2.2.2.2.1 = -9223372036854775808 ∧ (foldM lab num L r).2.2.2.2.2.2 = -9223372036854775808) ∧ (0 < (foldM lab num L r).2.1 → (foldR lab num L r).2.2.2.1 = (foldM lab num L r).2.2.2.1 ∧ (foldR lab num L r).2.2.2.2.1 = (foldM lab num L r).2.2.2.2.1 ∧ (foldR lab num L r).2.2.2.2.2.1 = (foldM lab num L r).2.2.2.2.2.1 ∧ (foldR lab num L r).2.2.2.2.2.2 = (foldM lab num L r).2.2.2.2.2.2) := by
  obtain ⟨h1, h2, h3, h4, h5, h6⟩ := foldR_M (lab := lab) (L := L) h r
  refine ⟨h1, h2, h3, h4, fun e => ?_, fun e => ?_⟩
  · obtain ⟨a1, a2⟩ := h5 e
    rw [a2]
    exact ⟨a1, rfl, rfl, rfl, rfl⟩
  · rw [h6 e]
    exact ⟨rfl, rfl, rfl, rfl⟩

set_option maxHeartbeats 4000000 in
theorem r_isMeasure  (m : Mem) (e : Int) (col : Int) (w : Int)    : Ct μX11_isMeasure 1 [vi e, vi col, vi w] m (ri fun x_ m' => (x_ = if 0 ≤ e ∧ e ≤ 26 ∧ 0 ≤ col ∧ col < 2 ∧ 0 ≤ w ∧ w < 7 then 1 else 0) ∧ m = m') := by
  refine Ct_of_V rfl (by decide) rfl (Nat.le_of_ble_eq_true rfl) ?_
  show V μX11_isMeasure 1 m _ 0 [(0, vi e), (1, vi col), (2, vi w)] [] m
  refine V_rg (k := 0) (x := e) rfl fun r_e => ?_
  refine V_rg (k := 1) (x := col) rfl fun r_col => ?_
  refine V_rg (k := 2) (x := w) rfl fun r_w => ?_
  refine V_ld (pc := 0) dX11_isMeasure_0 (v := vi e) rfl rfl ?_
  refine V_i2l (pc := 1) dX11_isMeasure_1 ?_
  refine V_lconst (pc := 2) dX11_isMeasure_2 (x := 0) (by unfold I64; omega) (by decide) ?_
  refine V_ldc2 (pc := 3) dX11_isMeasure_3 (x := 26) kl_RX11_377 (by unfold I64; omega) rfl ?_
  refine V_callS (pc := 6) dX11_isMeasure_6 (F' := 0) (As := [vl e, vl 0, vl 26]) (st := []) cw_RX11_101 rfl rfl (Nat.le_of_ble_eq_true rfl) (by omega) (r_isIn  m e 0 26   ) ?_
  rintro _ _ ⟨x6, rfl, hx6, rfl⟩ ok6 le6
  refine V_if_eq (pc := 9) dX11_isMeasure_9 (tgt := 38) rfl (fun h9 => ?_) (fun h9 => ?_)
  · skip
    refine V_iconst (pc := 38) dX11_isMeasure_38 (by unfold I32; omega) ?_
    refine V_reti (pc := 39) dX11_isMeasure_39 (show _ = (0 : Int) ∨ _ = (1 : Int) from by first | exact Or.inl rfl | exact Or.inr rfl | omega) ?_
    exact ⟨by omega, rfl⟩
  · skip
    refine V_ld (pc := 12) dX11_isMeasure_12 (v := vi col) rfl rfl ?_
    refine V_i2l (pc := 13) dX11_isMeasure_13 ?_
    refine V_lconst (pc := 14) dX11_isMeasure_14 (x := 0) (by unfold I64; omega) (by decide) ?_
    refine V_lconst (pc := 15) dX11_isMeasure_15 (x := 1) (by unfold I64; omega) (by decide) ?_
    refine V_callS (pc := 16) dX11_isMeasure_16 (F' := 0) (As := [vl col, vl 0, vl 1]) (st := []) cw_RX11_101 rfl rfl (Nat.le_of_ble_eq_true rfl) (by omega) (r_isIn  m col 0 1   ) ?_
    rintro _ _ ⟨x16, rfl, hx16, rfl⟩ ok16 le16
    refine V_if_eq (pc := 19) dX11_isMeasure_19 (tgt := 38) rfl (fun h19 => ?_) (fun h19 => ?_)
    · skip
      refine V_iconst (pc := 38) dX11_isMeasure_38 (by unfold I32; omega) ?_
      refine V_reti (pc := 39) dX11_isMeasure_39 (show _ = (0 : Int) ∨ _ = (1 : Int) from by first | exact Or.inl rfl | exact Or.inr rfl | omega) ?_
      exact ⟨by omega, rfl⟩
    · skip
      refine V_ld (pc := 22) dX11_isMeasure_22 (v := vi w) rfl rfl ?_
      refine V_i2l (pc := 23) dX11_isMeasure_23 ?_
      refine V_lconst (pc := 24) dX11_isMeasure_24 (x := 0) (by unfold I64; omega) (by decide) ?_
      refine V_ldc2 (pc := 25) dX11_isMeasure_25 (x := 6) kl_RX11_198 (by unfold I64; omega) rfl ?_
      refine V_callS (pc := 28) dX11_isMeasure_28 (F' := 0) (As := [vl w, vl 0, vl 6]) (st := []) cw_RX11_101 rfl rfl (Nat.le_of_ble_eq_true rfl) (by omega) (r_isIn  m w 0 6   ) ?_
      rintro _ _ ⟨x28, rfl, hx28, rfl⟩ ok28 le28
      refine V_if_eq (pc := 31) dX11_isMeasure_31 (tgt := 38) rfl (fun h31 => ?_) (fun h31 => ?_)
      · skip
        refine V_iconst (pc := 38) dX11_isMeasure_38 (by unfold I32; omega) ?_
        refine V_reti (pc := 39) dX11_isMeasure_39 (show _ = (0 : Int) ∨ _ = (1 : Int) from by first | exact Or.inl rfl | exact Or.inr rfl | omega) ?_
        exact ⟨by omega, rfl⟩
      · skip
        refine V_iconst (pc := 34) dX11_isMeasure_34 (by unfold I32; omega) ?_
        refine V_goto (pc := 35) dX11_isMeasure_35 (tgt := 39) rfl ?_
        refine V_reti (pc := 39) dX11_isMeasure_39 (show _ = (0 : Int) ∨ _ = (1 : Int) from by first | exact Or.inl rfl | exact Or.inr rfl | omega) ?_
        exact ⟨by omega, rfl⟩

set_option maxHeartbeats 4000000 in
theorem r_measure  (m : Mem) (j : Int) (e : Int) (col : Int) (w : Int)   (hL : Lay (mT m) (mR m)) (hM : MatR m) (hz : 0 ≤ mI m 31 64 ∧ mI m 31 64 ≤ 32) (hnum : ∀ r : Nat, -999 ≤ numR m col r ∧ numR m col r ≤ 1000) : Ct μX11_measure 2 [vr 30, vi j, vi e, vi col, vi w] m (rl fun x_ m' => (x_ = if ((0 ≤ j ∧ j < mI m 31 3336) ∧ 0 ≤ e ∧ e ≤ 26 ∧ 0 ≤ col ∧ col < 2 ∧ 0 ≤ w ∧ w < 7) then measM (foldM (fun r_ : Nat => labR m j (r_ : Int)) (numR m col) e (mI m 31 64).toNat) w else -9223372036854775808) ∧ m = m') := by
  refine Ct_of_V rfl (by decide) rfl (Nat.le_of_ble_eq_true rfl) ?_
  show V μX11_measure 2 m _ 0 [(0, vr 30), (1, vi j), (2, vi e), (3, vi col), (4, vi w)] [] m
  refine V_rg (k := 1) (x := j) rfl fun r_j => ?_
  refine V_rg (k := 2) (x := e) rfl fun r_e => ?_
  refine V_rg (k := 3) (x := col) rfl fun r_col => ?_
  refine V_rg (k := 4) (x := w) rfl fun r_w => ?_
  have hM0 := hM.1
  have hM1 := hM.2.1
  refine V_ld (pc := 0) dX11_measure_0 (v := vr 30) rfl rfl ?_
  refine V_ld (pc := 1) dX11_measure_1 (v := vi j) rfl rfl ?_
  refine V_callV (pc := 2) dX11_measure_2 (F' := 1) (As := [vi j]) (st := []) cw_RX11_371 rfl rfl hL.t30 (by decide) (Nat.le_of_ble_eq_true rfl) (by omega) (r_isMatch  m j   (by first | assumption | omega) ⟨hM.1, hM.2.1⟩) ?_
  rintro _ _ ⟨x2, rfl, hx2, rfl⟩ ok2 le2
  refine V_if_eq (pc := 5) dX11_measure_5 (tgt := 18) rfl (fun h5 => ?_) (fun h5 => ?_)
  · skip
    refine V_ldc2 (pc := 18) dX11_measure_18 (x := (-9223372036854775808)) kl_RX11_382 (by unfold I64; omega) rfl ?_
    refine V_retl (pc := 21) dX11_measure_21 trivial ?_
    exact ⟨by omega, rfl⟩
  · skip
    refine V_ld (pc := 8) dX11_measure_8 (v := vi e) rfl rfl ?_
    refine V_ld (pc := 9) dX11_measure_9 (v := vi col) rfl rfl ?_
    refine V_ld (pc := 10) dX11_measure_10 (v := vi w) rfl rfl ?_
    refine V_callS (pc := 12) dX11_measure_12 (F' := 1) (As := [vi e, vi col, vi w]) (st := []) cw_RX11_379 rfl rfl (Nat.le_of_ble_eq_true rfl) (by omega) (r_isMeasure  m e col w   ) ?_
    rintro _ _ ⟨x12, rfl, hx12, rfl⟩ ok12 le12
    refine V_if_ne (pc := 15) dX11_measure_15 (tgt := 22) rfl (fun h15 => ?_) (fun h15 => ?_)
    · skip
      refine V_iconst (pc := 22) dX11_measure_22 (by unfold I32; omega) ?_
      refine V_st (pc := 23) dX11_measure_23 (ls' := [(5, vi 0), (0, vr 30), (1, vi j), (2, vi e), (3, vi col), (4, vi w)]) rfl (Nat.le_of_ble_eq_true rfl) rfl ?_
      refine V_iconst (pc := 25) dX11_measure_25 (by unfold I32; omega) ?_
      refine V_st (pc := 26) dX11_measure_26 (ls' := [(6, vi 0), (5, vi 0), (0, vr 30), (1, vi j), (2, vi e), (3, vi col), (4, vi w)]) rfl (Nat.le_of_ble_eq_true rfl) rfl ?_
      refine V_lconst (pc := 28) dX11_measure_28 (x := 0) (by unfold I64; omega) (by decide) ?_
      refine V_st (pc := 29) dX11_measure_29 (ls' := [(7, vl 0), (6, vi 0), (5, vi 0), (0, vr 30), (1, vi j), (2, vi e), (3, vi col), (4, vi w)]) rfl (Nat.le_of_ble_eq_true rfl) rfl ?_
      refine V_lconst (pc := 31) dX11_measure_31 (x := 0) (by unfold I64; omega) (by decide) ?_
      refine V_st (pc := 32) dX11_measure_32 (ls' := [(9, vl 0), (7, vl 0), (6, vi 0), (5, vi 0), (0, vr 30), (1, vi j), (2, vi e), (3, vi col), (4, vi w)]) rfl (Nat.le_of_ble_eq_true rfl) rfl ?_
      refine V_lconst (pc := 34) dX11_measure_34 (x := 0) (by unfold I64; omega) (by decide) ?_
      refine V_st (pc := 35) dX11_measure_35 (ls' := [(11, vl 0), (9, vl 0), (7, vl 0), (6, vi 0), (5, vi 0), (0, vr 30), (1, vi j), (2, vi e), (3, vi col), (4, vi w)]) rfl (Nat.le_of_ble_eq_true rfl) rfl ?_
      refine V_lconst (pc := 37) dX11_measure_37 (x := 0) (by unfold I64; omega) (by decide) ?_
      refine V_st (pc := 38) dX11_measure_38 (ls' := [(13, vl 0), (11, vl 0), (9, vl 0), (7, vl 0), (6, vi 0), (5, vi 0), (0, vr 30), (1, vi j), (2, vi e), (3, vi col), (4, vi w)]) rfl (Nat.le_of_ble_eq_true rfl) rfl ?_
      refine V_lconst (pc := 40) dX11_measure_40 (x := 0) (by unfold I64; omega) (by decide) ?_
      refine V_st (pc := 41) dX11_measure_41 (ls' := [(15, vl 0), (13, vl 0), (11, vl 0), (9, vl 0), (7, vl 0), (6, vi 0), (5, vi 0), (0, vr 30), (1, vi j), (2, vi e), (3, vi col), (4, vi w)]) rfl (Nat.le_of_ble_eq_true rfl) rfl ?_
      refine V_iconst (pc := 43) dX11_measure_43 (by unfold I32; omega) ?_
      refine V_st (pc := 44) dX11_measure_44 (ls' := [(17, vi 0), (15, vl 0), (13, vl 0), (11, vl 0), (9, vl 0), (7, vl 0), (6, vi 0), (5, vi 0), (0, vr 30), (1, vi j), (2, vi e), (3, vi col), (4, vi w)]) rfl (Nat.le_of_ble_eq_true rfl) rfl ?_
      skip
      refine L_measure (F := 0) (m := m) (n := (mI m 31 64).toNat) (j := j) (e := e) (col := col) (w := w) hL hM (by omega) (by omega) hz (by omega) hnum ?_ (mI m 31 64).toNat 0 (by omega)
      have hb := foldR_bd (L := e) (lab := (fun r_ : Nat => labR m j (r_ : Int))) hnum (mI m 31 64).toNat
      have hq := foldR_M2 (L := e) (lab := (fun r_ : Nat => labR m j (r_ : Int))) hnum (mI m 31 64).toNat
      refine V_ld (pc := 179) dX11_measure_179 (v := vi w) rfl rfl ?_
      refine V_if_ne (pc := 181) dX11_measure_181 (tgt := 188) rfl (fun h181 => ?_) (fun h181 => ?_)
      · skip
        refine V_ld (pc := 188) dX11_measure_188 (v := vi w) rfl rfl ?_
        refine V_iconst (pc := 190) dX11_measure_190 (by unfold I32; omega) ?_
        refine V_icmp_ne (pc := 191) dX11_measure_191 (tgt := 197) rfl (fun h191 => ?_) (fun h191 => ?_)
        · skip
          refine V_ld (pc := 197) dX11_measure_197 (v := vi ((foldR (fun r_ : Nat => labR m j (r_ : Int)) (numR m col) e ((mI m 31 64).toNat)).2.1)) rfl rfl ?_
          refine V_if_ne (pc := 199) dX11_measure_199 (tgt := 206) rfl (fun h199 => ?_) (fun h199 => ?_)
          · skip
            refine V_ld (pc := 206) dX11_measure_206 (v := vl ((foldR (fun r_ : Nat => labR m j (r_ : Int)) (numR m col) e ((mI m 31 64).toNat)).2.2.1)) rfl rfl ?_
            refine V_ld (pc := 208) dX11_measure_208 (v := vi ((foldR (fun r_ : Nat => labR m j (r_ : Int)) (numR m col) e ((mI m 31 64).toNat)).2.1)) rfl rfl ?_
            refine V_i2l (pc := 210) dX11_measure_210 ?_
            refine V_ldiv (pc := 211) dX11_measure_211 (by omega) (tdiv_i64 (by omega) (by omega)) ?_
            refine V_st (pc := 212) dX11_measure_212 (ls' := [(17, vl (Int.tdiv ((foldR (fun r_ : Nat => labR m j (r_ : Int)) (numR m col) e ((mI m 31 64).toNat)).2.2.1) ((foldR (fun r_ : Nat => labR m j (r_ : Int)) (numR m col) e ((mI m 31 64).toNat)).2.1))), (15, vl ((foldR (fun r_ : Nat => labR m j (r_ : Int)) (numR m col) e ((mI m 31 64).toNat)).2.2.2.2.2.2)), (13, vl ((foldR (fun r_ : Nat => labR m j (r_ : Int)) (numR m col) e ((mI m 31 64).toNat)).2.2.2.2.2.1)), (11, vl ((foldR (fun r_ : Nat => labR m j (r_ : Int)) (numR m col) e ((mI m 31 64).toNat)).2.2.2.2.1)), (9, vl ((foldR (fun r_ : Nat => labR m j (r_ : Int)) (numR m col) e ((mI m 31 64).toNat)).2.2.2.1)), (7, vl ((foldR (fun r_ : Nat => labR m j (r_ : Int)) (numR m col) e ((mI m 31 64).toNat)).2.2.1)), (6, vi ((foldR (fun r_ : Nat => labR m j (r_ : Int)) (numR m col) e ((mI m 31 64).toNat)).2.1)), (5, vi ((foldR (fun r_ : Nat => labR m j (r_ : Int)) (numR m col) e ((mI m 31 64).toNat)).1)), (0, vr 30), (1, vi j), (2, vi e), (3, vi col), (4, vi w)]) rfl (Nat.le_of_ble_eq_true rfl) rfl ?_
            refine V_ld (pc := 214) dX11_measure_214 (v := vl (Int.tdiv ((foldR (fun r_ : Nat => labR m j (r_ : Int)) (numR m col) e ((mI m 31 64).toNat)).2.2.1) ((foldR (fun r_ : Nat => labR m j (r_ : Int)) (numR m col) e ((mI m 31 64).toNat)).2.1))) rfl rfl ?_
            refine V_ld (pc := 216) dX11_measure_216 (v := vl (Int.tdiv ((foldR (fun r_ : Nat => labR m j (r_ : Int)) (numR m col) e ((mI m 31 64).toNat)).2.2.1) ((foldR (fun r_ : Nat => labR m j (r_ : Int)) (numR m col) e ((mI m 31 64).toNat)).2.1))) rfl rfl ?_
            refine V_ld (pc := 218) dX11_measure_218 (v := vi ((foldR (fun r_ : Nat => labR m j (r_ : Int)) (numR m col) e ((mI m 31 64).toNat)).2.1)) rfl rfl ?_
            refine V_i2l (pc := 220) dX11_measure_220 ?_
            refine V_lmul (pc := 221) dX11_measure_221 (by have := tdiv_bd (a := (foldR (fun r_ : Nat => labR m j (r_ : Int)) (numR m col) e (mI m 31 64).toNat).2.2.1) (b := (foldR (fun r_ : Nat => labR m j (r_ : Int)) (numR m col) e (mI m 31 64).toNat).2.1) (by omega) (by omega); unfold I64; omega) ?_
            refine V_ld (pc := 222) dX11_measure_222 (v := vl ((foldR (fun r_ : Nat => labR m j (r_ : Int)) (numR m col) e ((mI m 31 64).toNat)).2.2.1)) rfl rfl ?_
            refine V_lcmp (pc := 224) dX11_measure_224 ?_
            refine V_if_le (pc := 225) dX11_measure_225 (tgt := 232) rfl (fun h225 => ?_) (fun h225 => ?_)
            · skip
              refine V_lconst (pc := 232) dX11_measure_232 (x := 0) (by unfold I64; omega) (by decide) ?_
              refine V_lsub (pc := 233) dX11_measure_233 (by have := tdiv_bd (a := (foldR (fun r_ : Nat => labR m j (r_ : Int)) (numR m col) e (mI m 31 64).toNat).2.2.1) (b := (foldR (fun r_ : Nat => labR m j (r_ : Int)) (numR m col) e (mI m 31 64).toNat).2.1) (by omega) (by omega); unfold I64; omega) ?_
              refine V_st (pc := 234) dX11_measure_234 (ls' := [(17, vl ((Int.tdiv ((foldR (fun r_ : Nat => labR m j (r_ : Int)) (numR m col) e ((mI m 31 64).toNat)).2.2.1) ((foldR (fun r_ : Nat => labR m j (r_ : Int)) (numR m col) e ((mI m 31 64).toNat)).2.1)) - 0)), (15, vl ((foldR (fun r_ : Nat => labR m j (r_ : Int)) (numR m col) e ((mI m 31 64).toNat)).2.2.2.2.2.2)), (13, vl ((foldR (fun r_ : Nat => labR m j (r_ : Int)) (numR m col) e ((mI m 31 64).toNat)).2.2.2.2.2.1)), (11, vl ((foldR (fun r_ : Nat => labR m j (r_ : Int)) (numR m col) e ((mI m 31 64).toNat)).2.2.2.2.1)), (9, vl ((foldR (fun r_ : Nat => labR m j (r_ : Int)) (numR m col) e ((mI m 31 64).toNat)).2.2.2.1)), (7, vl ((foldR (fun r_ : Nat => labR m j (r_ : Int)) (numR m col) e ((mI m 31 64).toNat)).2.2.1)), (6, vi ((foldR (fun r_ : Nat => labR m j (r_ : Int)) (numR m col) e ((mI m 31 64).toNat)).2.1)), (5, vi ((foldR (fun r_ : Nat => labR m j (r_ : Int)) (numR m col) e ((mI m 31 64).toNat)).1)), (0, vr 30), (1, vi j), (2, vi e), (3, vi col), (4, vi w)]) rfl (Nat.le_of_ble_eq_true rfl) rfl ?_
              refine V_ld (pc := 236) dX11_measure_236 (v := vi w) rfl rfl ?_
              refine V_iconst (pc := 238) dX11_measure_238 (by unfold I32; omega) ?_
              refine V_icmp_ne (pc := 239) dX11_measure_239 (tgt := 247) rfl (fun h239 => ?_) (fun h239 => ?_)
              · skip
                refine V_ld (pc := 247) dX11_measure_247 (v := vi w) rfl rfl ?_
                refine V_iconst (pc := 249) dX11_measure_249 (by unfold I32; omega) ?_
                refine V_icmp_ne (pc := 250) dX11_measure_250 (tgt := 258) rfl (fun h250 => ?_) (fun h250 => ?_)
                · skip
                  refine V_ld (pc := 258) dX11_measure_258 (v := vi w) rfl rfl ?_
                  refine V_iconst (pc := 260) dX11_measure_260 (by unfold I32; omega) ?_
                  refine V_icmp_ne (pc := 261) dX11_measure_261 (tgt := 269) rfl (fun h261 => ?_) (fun h261 => ?_)
                  · skip
                    refine V_ld (pc := 269) dX11_measure_269 (v := vi w) rfl rfl ?_
                    refine V_iconst (pc := 271) dX11_measure_271 (by unfold I32; omega) ?_
                    refine V_icmp_ne (pc := 272) dX11_measure_272 (tgt := 280) rfl (fun h272 => ?_) (fun h272 => ?_)
                    · skip
                      refine V_ld (pc := 280) dX11_measure_280 (v := vl ((Int.tdiv ((foldR (fun r_ : Nat => labR m j (r_ : Int)) (numR m col) e ((mI m 31 64).toNat)).2.2.1) ((foldR (fun r_ : Nat => labR m j (r_ : Int)) (numR m col) e ((mI m 31 64).toNat)).2.1)) - 0)) rfl rfl ?_
                      refine V_retl (pc := 282) dX11_measure_282 trivial ?_
                      have ht := tdiv_fl3 (a := (foldR (fun r_ : Nat => labR m j (r_ : Int)) (numR m col) e (mI m 31 64).toNat).2.2.1) (b := (foldR (fun r_ : Nat => labR m j (r_ : Int)) (numR m col) e (mI m 31 64).toNat).2.1)
                      have hd_ : (foldM (fun r_ : Nat => labR m j (r_ : Int)) (numR m col) e (mI m 31 64).toNat).2.2.1 / (foldM (fun r_ : Nat => labR m j (r_ : Int)) (numR m col) e (mI m 31 64).toNat).2.1 = (foldR (fun r_ : Nat => labR m j (r_ : Int)) (numR m col) e (mI m 31 64).toNat).2.2.1 / (foldR (fun r_ : Nat => labR m j (r_ : Int)) (numR m col) e (mI m 31 64).toNat).2.1 := by rw [hq.2.1, hq.2.2.1]
                      exact ⟨by (try unfold cmpI at *); unfold measM; omega, rfl⟩
                    · skip
                      refine V_ld (pc := 275) dX11_measure_275 (v := vl ((foldR (fun r_ : Nat => labR m j (r_ : Int)) (numR m col) e ((mI m 31 64).toNat)).2.2.2.2.2.2)) rfl rfl ?_
                      refine V_goto (pc := 277) dX11_measure_277 (tgt := 282) rfl ?_
                      refine V_retl (pc := 282) dX11_measure_282 trivial ?_
                      have ht := tdiv_fl3 (a := (foldR (fun r_ : Nat => labR m j (r_ : Int)) (numR m col) e (mI m 31 64).toNat).2.2.1) (b := (foldR (fun r_ : Nat => labR m j (r_ : Int)) (numR m col) e (mI m 31 64).toNat).2.1)
                      have hd_ : (foldM (fun r_ : Nat => labR m j (r_ : Int)) (numR m col) e (mI m 31 64).toNat).2.2.1 / (foldM (fun r_ : Nat => labR m j (r_ : Int)) (numR m col) e (mI m 31 64).toNat).2.1 = (foldR (fun r_ : Nat => labR m j (r_ : Int)) (numR m col) e (mI m 31 64).toNat).2.2.1 / (foldR (fun r_ : Nat => labR m j (r_ : Int)) (numR m col) e (mI m 31 64).toNat).2.1 := by rw [hq.2.1, hq.2.2.1]
                      exact ⟨by (try unfold cmpI at *); unfold measM; omega, rfl⟩
                  · skip
                    refine V_ld (pc := 264) dX11_measure_264 (v := vl ((foldR (fun r_ : Nat => labR m j (r_ : Int)) (numR m col) e ((mI m 31 64).toNat)).2.2.2.2.2.1)) rfl rfl ?_
                    refine V_goto (pc := 266) dX11_measure_266 (tgt := 282) rfl ?_
                    refine V_retl (pc := 282) dX11_measure_282 trivial ?_
                    have ht := tdiv_fl3 (a := (foldR (fun r_ : Nat => labR m j (r_ : Int)) (numR m col) e (mI m 31 64).toNat).2.2.1) (b := (foldR (fun r_ : Nat => labR m j (r_ : Int)) (numR m col) e (mI m 31 64).toNat).2.1)
                    have hd_ : (foldM (fun r_ : Nat => labR m j (r_ : Int)) (numR m col) e (mI m 31 64).toNat).2.2.1 / (foldM (fun r_ : Nat => labR m j (r_ : Int)) (numR m col) e (mI m 31 64).toNat).2.1 = (foldR (fun r_ : Nat => labR m j (r_ : Int)) (numR m col) e (mI m 31 64).toNat).2.2.1 / (foldR (fun r_ : Nat => labR m j (r_ : Int)) (numR m col) e (mI m 31 64).toNat).2.1 := by rw [hq.2.1, hq.2.2.1]
                    exact ⟨by (try unfold cmpI at *); unfold measM; omega, rfl⟩
                · skip
                  refine V_ld (pc := 253) dX11_measure_253 (v := vl ((foldR (fun r_ : Nat => labR m j (r_ : Int)) (numR m col) e ((mI m 31 64).toNat)).2.2.2.2.1)) rfl rfl ?_
                  refine V_goto (pc := 255) dX11_measure_255 (tgt := 282) rfl ?_
                  refine V_retl (pc := 282) dX11_measure_282 trivial ?_
                  have ht := tdiv_fl3 (a := (foldR (fun r_ : Nat => labR m j (r_ : Int)) (numR m col) e (mI m 31 64).toNat).2.2.1) (b := (foldR (fun r_ : Nat => labR m j (r_ : Int)) (numR m col) e (mI m 31 64).toNat).2.1)
                  have hd_ : (foldM (fun r_ : Nat => labR m j (r_ : Int)) (numR m col) e (mI m 31 64).toNat).2.2.1 / (foldM (fun r_ : Nat => labR m j (r_ : Int)) (numR m col) e (mI m 31 64).toNat).2.1 = (foldR (fun r_ : Nat => labR m j (r_ : Int)) (numR m col) e (mI m 31 64).toNat).2.2.1 / (foldR (fun r_ : Nat => labR m j (r_ : Int)) (numR m col) e (mI m 31 64).toNat).2.1 := by rw [hq.2.1, hq.2.2.1]
                  exact ⟨by (try unfold cmpI at *); unfold measM; omega, rfl⟩
              · skip
                refine V_ld (pc := 242) dX11_measure_242 (v := vl ((foldR (fun r_ : Nat => labR m j (r_ : Int)) (numR m col) e ((mI m 31 64).toNat)).2.2.2.1)) rfl rfl ?_
                refine V_goto (pc := 244) dX11_measure_244 (tgt := 282) rfl ?_
                refine V_retl (pc := 282) dX11_measure_282 trivial ?_
                have ht := tdiv_fl3 (a := (foldR (fun r_ : Nat => labR m j (r_ : Int)) (numR m col) e (mI m 31 64).toNat).2.2.1) (b := (foldR (fun r_ : Nat => labR m j (r_ : Int)) (numR m col) e (mI m 31 64).toNat).2.1)
                have hd_ : (foldM (fun r_ : Nat => labR m j (r_ : Int)) (numR m col) e (mI m 31 64).toNat).2.2.1 / (foldM (fun r_ : Nat => labR m j (r_ : Int)) (numR m col) e (mI m 31 64).toNat).2.1 = (foldR (fun r_ : Nat => labR m j (r_ : Int)) (numR m col) e (mI m 31 64).toNat).2.2.1 / (foldR (fun r_ : Nat => labR m j (r_ : Int)) (numR m col) e (mI m 31 64).toNat).2.1 := by rw [hq.2.1, hq.2.2.1]
                exact ⟨by (try unfold cmpI at *); unfold measM; omega, rfl⟩
            · skip
              refine V_lconst (pc := 228) dX11_measure_228 (x := 1) (by unfold I64; omega) (by decide) ?_
              refine V_goto (pc := 229) dX11_measure_229 (tgt := 233) rfl ?_
              refine V_lsub (pc := 233) dX11_measure_233 (by have := tdiv_bd (a := (foldR (fun r_ : Nat => labR m j (r_ : Int)) (numR m col) e (mI m 31 64).toNat).2.2.1) (b := (foldR (fun r_ : Nat => labR m j (r_ : Int)) (numR m col) e (mI m 31 64).toNat).2.1) (by omega) (by omega); unfold I64; omega) ?_
              refine V_st (pc := 234) dX11_measure_234 (ls' := [(17, vl ((Int.tdiv ((foldR (fun r_ : Nat => labR m j (r_ : Int)) (numR m col) e ((mI m 31 64).toNat)).2.2.1) ((foldR (fun r_ : Nat => labR m j (r_ : Int)) (numR m col) e ((mI m 31 64).toNat)).2.1)) - 1)), (15, vl ((foldR (fun r_ : Nat => labR m j (r_ : Int)) (numR m col) e ((mI m 31 64).toNat)).2.2.2.2.2.2)), (13, vl ((foldR (fun r_ : Nat => labR m j (r_ : Int)) (numR m col) e ((mI m 31 64).toNat)).2.2.2.2.2.1)), (11, vl ((foldR (fun r_ : Nat => labR m j (r_ : Int)) (numR m col) e ((mI m 31 64).toNat)).2.2.2.2.1)), (9, vl ((foldR (fun r_ : Nat => labR m j (r_ : Int)) (numR m col) e ((mI m 31 64).toNat)).2.2.2.1)), (7, vl ((foldR (fun r_ : Nat => labR m j (r_ : Int)) (numR m col) e ((mI m 31 64).toNat)).2.2.1)), (6, vi ((foldR (fun r_ : Nat => labR m j (r_ : Int)) (numR m col) e ((mI m 31 64).toNat)).2.1)), (5, vi ((foldR (fun r_ : Nat => labR m j (r_ : Int)) (numR m col) e ((mI m 31 64).toNat)).1)), (0, vr 30), (1, vi j), (2, vi e), (3, vi col), (4, vi w)]) rfl (Nat.le_of_ble_eq_true rfl) rfl ?_
              refine V_ld (pc := 236) dX11_measure_236 (v := vi w) rfl rfl ?_
              refine V_iconst (pc := 238) dX11_measure_238 (by unfold I32; omega) ?_
              refine V_icmp_ne (pc := 239) dX11_measure_239 (tgt := 247) rfl (fun h239 => ?_) (fun h239 => ?_)
              · skip
                refine V_ld (pc := 247) dX11_measure_247 (v := vi w) rfl rfl ?_
                refine V_iconst (pc := 249) dX11_measure_249 (by unfold I32; omega) ?_
                refine V_icmp_ne (pc := 250) dX11_measure_250 (tgt := 258) rfl (fun h250 => ?_) (fun h250 => ?_)
                · skip
                  refine V_ld (pc := 258) dX11_measure_258 (v := vi w) rfl rfl ?_
                  refine V_iconst (pc := 260) dX11_measure_260 (by unfold I32; omega) ?_
                  refine V_icmp_ne (pc := 261) dX11_measure_261 (tgt := 269) rfl (fun h261 => ?_) (fun h261 => ?_)
                  · skip
                    refine V_ld (pc := 269) dX11_measure_269 (v := vi w) rfl rfl ?_
                    refine V_iconst (pc := 271) dX11_measure_271 (by unfold I32; omega) ?_
                    refine V_icmp_ne (pc := 272) dX11_measure_272 (tgt := 280) rfl (fun h272 => ?_) (fun h272 => ?_)
                    · skip
                      refine V_ld (pc := 280) dX11_measure_280 (v := vl ((Int.tdiv ((foldR (fun r_ : Nat => labR m j (r_ : Int)) (numR m col) e ((mI m 31 64).toNat)).2.2.1) ((foldR (fun r_ : Nat => labR m j (r_ : Int)) (numR m col) e ((mI m 31 64).toNat)).2.1)) - 1)) rfl rfl ?_
                      refine V_retl (pc := 282) dX11_measure_282 trivial ?_
                      have ht := tdiv_fl3 (a := (foldR (fun r_ : Nat => labR m j (r_ : Int)) (numR m col) e (mI m 31 64).toNat).2.2.1) (b := (foldR (fun r_ : Nat => labR m j (r_ : Int)) (numR m col) e (mI m 31 64).toNat).2.1)
                      have hd_ : (foldM (fun r_ : Nat => labR m j (r_ : Int)) (numR m col) e (mI m 31 64).toNat).2.2.1 / (foldM (fun r_ : Nat => labR m j (r_ : Int)) (numR m col) e (mI m 31 64).toNat).2.1 = (foldR (fun r_ : Nat => labR m j (r_ : Int)) (numR m col) e (mI m 31 64).toNat).2.2.1 / (foldR (fun r_ : Nat => labR m j (r_ : Int)) (numR m col) e (mI m 31 64).toNat).2.1 := by rw [hq.2.1, hq.2.2.1]
                      exact ⟨by (try unfold cmpI at *); unfold measM; omega, rfl⟩
                    · skip
                      refine V_ld (pc := 275) dX11_measure_275 (v := vl ((foldR (fun r_ : Nat => labR m j (r_ : Int)) (numR m col) e ((mI m 31 64).toNat)).2.2.2.2.2.2)) rfl rfl ?_
                      refine V_goto (pc := 277) dX11_measure_277 (tgt := 282) rfl ?_
                      refine V_retl (pc := 282) dX11_measure_282 trivial ?_
                      have ht := tdiv_fl3 (a := (foldR (fun r_ : Nat => labR m j (r_ : Int)) (numR m col) e (mI m 31 64).toNat).2.2.1) (b := (foldR (fun r_ : Nat => labR m j (r_ : Int)) (numR m col) e (mI m 31 64).toNat).2.1)
                      have hd_ : (foldM (fun r_ : Nat => labR m j (r_ : Int)) (numR m col) e (mI m 31 64).toNat).2.2.1 / (foldM (fun r_ : Nat => labR m j (r_ : Int)) (numR m col) e (mI m 31 64).toNat).2.1 = (foldR (fun r_ : Nat => labR m j (r_ : Int)) (numR m col) e (mI m 31 64).toNat).2.2.1 / (foldR (fun r_ : Nat => labR m j (r_ : Int)) (numR m col) e (mI m 31 64).toNat).2.1 := by rw [hq.2.1, hq.2.2.1]
                      exact ⟨by (try unfold cmpI at *); unfold measM; omega, rfl⟩
                  · skip
                    refine V_ld (pc := 264) dX11_measure_264 (v := vl ((foldR (fun r_ : Nat => labR m j (r_ : Int)) (numR m col) e ((mI m 31 64).toNat)).2.2.2.2.2.1)) rfl rfl ?_
                    refine V_goto (pc := 266) dX11_measure_266 (tgt := 282) rfl ?_
                    refine V_retl (pc := 282) dX11_measure_282 trivial ?_
                    have ht := tdiv_fl3 (a := (foldR (fun r_ : Nat => labR m j (r_ : Int)) (numR m col) e (mI m 31 64).toNat).2.2.1) (b := (foldR (fun r_ : Nat => labR m j (r_ : Int)) (numR m col) e (mI m 31 64).toNat).2.1)
                    have hd_ : (foldM (fun r_ : Nat => labR m j (r_ : Int)) (numR m col) e (mI m 31 64).toNat).2.2.1 / (foldM (fun r_ : Nat => labR m j (r_ : Int)) (numR m col) e (mI m 31 64).toNat).2.1 = (foldR (fun r_ : Nat => labR m j (r_ : Int)) (numR m col) e (mI m 31 64).toNat).2.2.1 / (foldR (fun r_ : Nat => labR m j (r_ : Int)) (numR m col) e (mI m 31 64).toNat).2.1 := by rw [hq.2.1, hq.2.2.1]
                    exact ⟨by (try unfold cmpI at *); unfold measM; omega, rfl⟩
                · skip
                  refine V_ld (pc := 253) dX11_measure_253 (v := vl ((foldR (fun r_ : Nat => labR m j (r_ : Int)) (numR m col) e ((mI m 31 64).toNat)).2.2.2.2.1)) rfl rfl ?_
                  refine V_goto (pc := 255) dX11_measure_255 (tgt := 282) rfl ?_
                  refine V_retl (pc := 282) dX11_measure_282 trivial ?_
                  have ht := tdiv_fl3 (a := (foldR (fun r_ : Nat => labR m j (r_ : Int)) (numR m col) e (mI m 31 64).toNat).2.2.1) (b := (foldR (fun r_ : Nat => labR m j (r_ : Int)) (numR m col) e (mI m 31 64).toNat).2.1)
                  have hd_ : (foldM (fun r_ : Nat => labR m j (r_ : Int)) (numR m col) e (mI m 31 64).toNat).2.2.1 / (foldM (fun r_ : Nat => labR m j (r_ : Int)) (numR m col) e (mI m 31 64).toNat).2.1 = (foldR (fun r_ : Nat => labR m j (r_ : Int)) (numR m col) e (mI m 31 64).toNat).2.2.1 / (foldR (fun r_ : Nat => labR m j (r_ : Int)) (numR m col) e (mI m 31 64).toNat).2.1 := by rw [hq.2.1, hq.2.2.1]
                  exact ⟨by (try unfold cmpI at *); unfold measM; omega, rfl⟩
              · skip
                refine V_ld (pc := 242) dX11_measure_242 (v := vl ((foldR (fun r_ : Nat => labR m j (r_ : Int)) (numR m col) e ((mI m 31 64).toNat)).2.2.2.1)) rfl rfl ?_
                refine V_goto (pc := 244) dX11_measure_244 (tgt := 282) rfl ?_
                refine V_retl (pc := 282) dX11_measure_282 trivial ?_
                have ht := tdiv_fl3 (a := (foldR (fun r_ : Nat => labR m j (r_ : Int)) (numR m col) e (mI m 31 64).toNat).2.2.1) (b := (foldR (fun r_ : Nat => labR m j (r_ : Int)) (numR m col) e (mI m 31 64).toNat).2.1)
                have hd_ : (foldM (fun r_ : Nat => labR m j (r_ : Int)) (numR m col) e (mI m 31 64).toNat).2.2.1 / (foldM (fun r_ : Nat => labR m j (r_ : Int)) (numR m col) e (mI m 31 64).toNat).2.1 = (foldR (fun r_ : Nat => labR m j (r_ : Int)) (numR m col) e (mI m 31 64).toNat).2.2.1 / (foldR (fun r_ : Nat => labR m j (r_ : Int)) (numR m col) e (mI m 31 64).toNat).2.1 := by rw [hq.2.1, hq.2.2.1]
                exact ⟨by (try unfold cmpI at *); unfold measM; omega, rfl⟩
          · skip
            refine V_ldc2 (pc := 202) dX11_measure_202 (x := (-9223372036854775808)) kl_RX11_382 (by unfold I64; omega) rfl ?_
            refine V_retl (pc := 205) dX11_measure_205 trivial ?_
            have ht := tdiv_fl3 (a := (foldR (fun r_ : Nat => labR m j (r_ : Int)) (numR m col) e (mI m 31 64).toNat).2.2.1) (b := (foldR (fun r_ : Nat => labR m j (r_ : Int)) (numR m col) e (mI m 31 64).toNat).2.1)
            have hd_ : (foldM (fun r_ : Nat => labR m j (r_ : Int)) (numR m col) e (mI m 31 64).toNat).2.2.1 / (foldM (fun r_ : Nat => labR m j (r_ : Int)) (numR m col) e (mI m 31 64).toNat).2.1 = (foldR (fun r_ : Nat => labR m j (r_ : Int)) (numR m col) e (mI m 31 64).toNat).2.2.1 / (foldR (fun r_ : Nat => labR m j (r_ : Int)) (numR m col) e (mI m 31 64).toNat).2.1 := by rw [hq.2.1, hq.2.2.1]
            exact ⟨by (try unfold cmpI at *); unfold measM; omega, rfl⟩
        · skip
          refine V_ld (pc := 194) dX11_measure_194 (v := vl ((foldR (fun r_ : Nat => labR m j (r_ : Int)) (numR m col) e ((mI m 31 64).toNat)).2.2.1)) rfl rfl ?_
          refine V_retl (pc := 196) dX11_measure_196 trivial ?_
          have ht := tdiv_fl3 (a := (foldR (fun r_ : Nat => labR m j (r_ : Int)) (numR m col) e (mI m 31 64).toNat).2.2.1) (b := (foldR (fun r_ : Nat => labR m j (r_ : Int)) (numR m col) e (mI m 31 64).toNat).2.1)
          have hd_ : (foldM (fun r_ : Nat => labR m j (r_ : Int)) (numR m col) e (mI m 31 64).toNat).2.2.1 / (foldM (fun r_ : Nat => labR m j (r_ : Int)) (numR m col) e (mI m 31 64).toNat).2.1 = (foldR (fun r_ : Nat => labR m j (r_ : Int)) (numR m col) e (mI m 31 64).toNat).2.2.1 / (foldR (fun r_ : Nat => labR m j (r_ : Int)) (numR m col) e (mI m 31 64).toNat).2.1 := by rw [hq.2.1, hq.2.2.1]
          exact ⟨by (try unfold cmpI at *); unfold measM; omega, rfl⟩
      · skip
        refine V_ld (pc := 184) dX11_measure_184 (v := vi ((foldR (fun r_ : Nat => labR m j (r_ : Int)) (numR m col) e ((mI m 31 64).toNat)).1)) rfl rfl ?_
        refine V_i2l (pc := 186) dX11_measure_186 ?_
        refine V_retl (pc := 187) dX11_measure_187 trivial ?_
        have ht := tdiv_fl3 (a := (foldR (fun r_ : Nat => labR m j (r_ : Int)) (numR m col) e (mI m 31 64).toNat).2.2.1) (b := (foldR (fun r_ : Nat => labR m j (r_ : Int)) (numR m col) e (mI m 31 64).toNat).2.1)
        have hd_ : (foldM (fun r_ : Nat => labR m j (r_ : Int)) (numR m col) e (mI m 31 64).toNat).2.2.1 / (foldM (fun r_ : Nat => labR m j (r_ : Int)) (numR m col) e (mI m 31 64).toNat).2.1 = (foldR (fun r_ : Nat => labR m j (r_ : Int)) (numR m col) e (mI m 31 64).toNat).2.2.1 / (foldR (fun r_ : Nat => labR m j (r_ : Int)) (numR m col) e (mI m 31 64).toNat).2.1 := by rw [hq.2.1, hq.2.2.1]
        exact ⟨by (try unfold cmpI at *); unfold measM; omega, rfl⟩
    · skip
      refine V_ldc2 (pc := 18) dX11_measure_18 (x := (-9223372036854775808)) kl_RX11_382 (by unfold I64; omega) rfl ?_
      refine V_retl (pc := 21) dX11_measure_21 trivial ?_
      exact ⟨by omega, rfl⟩

def foldB (f : Nat → Int) : Nat → Int × Int
  | 0 => (0, 0)
  | k + 1 => (or32 (foldB f k).1 (shl32 1 (f k)), if and32 (foldB f k).1 (shl32 1 (f k)) = 0 then (foldB f k).2 + 1 else (foldB f k).2)
theorem foldB_bd (f : Nat → Int) : ∀ n : Nat, 0 ≤ (foldB f n).2 ∧ (foldB f n).2 ≤ n := by
  intro n
  induction n with
  | zero => simp [foldB]
  | succ n ih =>
    show 0 ≤ (if and32 (foldB f n).1 (shl32 1 (f n)) = 0 then (foldB f n).2 + 1 else (foldB f n).2) ∧ (if and32 (foldB f n).1 (shl32 1 (f n)) = 0 then (foldB f n).2 + 1 else (foldB f n).2) ≤ _
    split <;> omega

set_option maxHeartbeats 4000000 in
theorem L_match {F : Nat} {m0 m : Mem} {post : Option AV → Mem → Prop} {n : Nat} {j w : Int} (hL : Lay (mT m) (mR m)) (hM : MatR m) (hj : 0 ≤ j ∧ j < mI m 31 3336) (hn : (n : Int) = mI m 31 (3337 + 34 * j + 1).toNat) (kx : V μX11_match (F + 1) m0 post 82 [(5, vi ((n : Nat) : Int)), (4, vi ((foldB (fun k_ : Nat => mI m 31 (3337 + 34 * j + (2 + (k_ : Int))).toNat) n).2)), (3, vi ((foldB (fun k_ : Nat => mI m 31 (3337 + 34 * j + (2 + (k_ : Int))).toNat) n).1)), (0, vr 30), (1, vi j), (2, vi w)] [] m) : ∀ (dd i : Nat), dd + i = n → V μX11_match (F + 1) m0 post 30 [(5, vi ((i : Nat) : Int)), (4, vi ((foldB (fun k_ : Nat => mI m 31 (3337 + 34 * j + (2 + (k_ : Int))).toNat) i).2)), (3, vi ((foldB (fun k_ : Nat => mI m 31 (3337 + 34 * j + (2 + (k_ : Int))).toNat) i).1)), (0, vr 30), (1, vi j), (2, vi w)] [] m := by
  intro dd
  induction dd with
  | zero =>
    intro i hi
    obtain rfl : n = i := by omega
    have hM1 := hM.2.1
    have hm := hM.2.2 j (by omega) (by omega)
    have hb_ := foldB_bd (fun k_ : Nat => mI m 31 (3337 + 34 * j + (2 + (k_ : Int))).toNat) n
    refine V_ld (pc := 30) dX11_match_30 (v := vi ((n : Nat) : Int)) rfl rfl ?_
    refine V_ld (pc := 32) dX11_match_32 (v := vr 30) rfl rfl ?_
    refine V_ld (pc := 33) dX11_match_33 (v := vi j) rfl rfl ?_
    refine V_iconst (pc := 34) dX11_match_34 (by unfold I32; omega) ?_
    refine V_callV (pc := 35) dX11_match_35 (F' := 0) (As := [vi j, vi 1]) (st := [vi ((n : Nat) : Int)]) cw_RX11_368 rfl rfl hL.t30 (by decide) (Nat.le_of_ble_eq_true rfl) (by omega) (r_matched  m j 1   (by first | assumption | omega) (by omega)) ?_
    rintro _ _ ⟨x35, rfl, hx35, rfl⟩ ok35 le35
    obtain rfl : x35 = mI m 31 ((3337 + 34 * j + 1).toNat) := hx35.trans rfl
    refine V_icmp_ge (pc := 38) dX11_match_38 (tgt := 82) rfl (fun h38 => ?_) (fun h38 => ?_)
    · skip
      first | exact kx | (skip; exact kx) | (exfalso; omega)
    · skip
      exfalso; omega
  | succ dd ih =>
    intro i hi
    have hM1 := hM.2.1
    have hm := hM.2.2 j (by omega) (by omega)
    have hb_ := foldB_bd (fun k_ : Nat => mI m 31 (3337 + 34 * j + (2 + (k_ : Int))).toNat) i
    refine V_ld (pc := 30) dX11_match_30 (v := vi ((i : Nat) : Int)) rfl rfl ?_
    refine V_ld (pc := 32) dX11_match_32 (v := vr 30) rfl rfl ?_
    refine V_ld (pc := 33) dX11_match_33 (v := vi j) rfl rfl ?_
    refine V_iconst (pc := 34) dX11_match_34 (by unfold I32; omega) ?_
    refine V_callV (pc := 35) dX11_match_35 (F' := 0) (As := [vi j, vi 1]) (st := [vi ((i : Nat) : Int)]) cw_RX11_368 rfl rfl hL.t30 (by decide) (Nat.le_of_ble_eq_true rfl) (by omega) (r_matched  m j 1   (by first | assumption | omega) (by omega)) ?_
    rintro _ _ ⟨x35, rfl, hx35, rfl⟩ ok35 le35
    obtain rfl : x35 = mI m 31 ((3337 + 34 * j + 1).toNat) := hx35.trans rfl
    refine V_icmp_ge (pc := 38) dX11_match_38 (tgt := 82) rfl (fun h38 => ?_) (fun h38 => ?_)
    · skip
      exfalso; omega
    · skip
      refine V_iconst (pc := 41) dX11_match_41 (by unfold I32; omega) ?_
      refine V_ld (pc := 42) dX11_match_42 (v := vr 30) rfl rfl ?_
      refine V_ld (pc := 43) dX11_match_43 (v := vi j) rfl rfl ?_
      refine V_iconst (pc := 44) dX11_match_44 (by unfold I32; omega) ?_
      refine V_ld (pc := 45) dX11_match_45 (v := vi ((i : Nat) : Int)) rfl rfl ?_
      refine V_iadd (pc := 47) dX11_match_47 (by unfold I32 at *; omega) ?_
      refine V_callV (pc := 48) dX11_match_48 (F' := 0) (As := [vi j, vi (2 + ((i : Nat) : Int))]) (st := [vi 1]) cw_RX11_368 rfl rfl hL.t30 (by decide) (Nat.le_of_ble_eq_true rfl) (by omega) (r_matched  m j (2 + ((i : Nat) : Int))   (by first | assumption | omega) (by omega)) ?_
      rintro _ _ ⟨x48, rfl, hx48, rfl⟩ ok48 le48
      obtain rfl : x48 = mI m 31 ((3337 + 34 * j + (2 + ((i : Nat) : Int))).toNat) := hx48.trans rfl
      refine V_ishl (pc := 51) dX11_match_51 ?_
      refine V_st (pc := 52) dX11_match_52 (ls' := [(6, vi (shl32 1 (mI m 31 ((3337 + 34 * j + (2 + ((i : Nat) : Int))).toNat)))), (5, vi ((i : Nat) : Int)), (4, vi ((foldB (fun k_ : Nat => mI m 31 (3337 + 34 * j + (2 + (k_ : Int))).toNat) i).2)), (3, vi ((foldB (fun k_ : Nat => mI m 31 (3337 + 34 * j + (2 + (k_ : Int))).toNat) i).1)), (0, vr 30), (1, vi j), (2, vi w)]) rfl (Nat.le_of_ble_eq_true rfl) rfl ?_
      refine V_ld (pc := 54) dX11_match_54 (v := vi ((foldB (fun k_ : Nat => mI m 31 (3337 + 34 * j + (2 + (k_ : Int))).toNat) i).2)) rfl rfl ?_
      refine V_ld (pc := 56) dX11_match_56 (v := vi ((foldB (fun k_ : Nat => mI m 31 (3337 + 34 * j + (2 + (k_ : Int))).toNat) i).1)) rfl rfl ?_
      refine V_ld (pc := 57) dX11_match_57 (v := vi (shl32 1 (mI m 31 ((3337 + 34 * j + (2 + ((i : Nat) : Int))).toNat)))) rfl rfl ?_
      refine V_iand (pc := 59) dX11_match_59 ?_
      refine V_if_ne (pc := 60) dX11_match_60 (tgt := 67) rfl (fun h60 => ?_) (fun h60 => ?_)
      · skip
        refine V_iconst (pc := 67) dX11_match_67 (by unfold I32; omega) ?_
        refine V_iadd (pc := 68) dX11_match_68 (by unfold I32 at *; omega) ?_
        refine V_st (pc := 69) dX11_match_69 (ls' := [(4, vi (((foldB (fun k_ : Nat => mI m 31 (3337 + 34 * j + (2 + (k_ : Int))).toNat) i).2) + 0)), (6, vi (shl32 1 (mI m 31 ((3337 + 34 * j + (2 + ((i : Nat) : Int))).toNat)))), (5, vi ((i : Nat) : Int)), (3, vi ((foldB (fun k_ : Nat => mI m 31 (3337 + 34 * j + (2 + (k_ : Int))).toNat) i).1)), (0, vr 30), (1, vi j), (2, vi w)]) rfl (Nat.le_of_ble_eq_true rfl) rfl ?_
        refine V_ld (pc := 71) dX11_match_71 (v := vi ((foldB (fun k_ : Nat => mI m 31 (3337 + 34 * j + (2 + (k_ : Int))).toNat) i).1)) rfl rfl ?_
        refine V_ld (pc := 72) dX11_match_72 (v := vi (shl32 1 (mI m 31 ((3337 + 34 * j + (2 + ((i : Nat) : Int))).toNat)))) rfl rfl ?_
        refine V_ior (pc := 74) dX11_match_74 ?_
        refine V_st (pc := 75) dX11_match_75 (ls' := [(3, vi (or32 ((foldB (fun k_ : Nat => mI m 31 (3337 + 34 * j + (2 + (k_ : Int))).toNat) i).1) (shl32 1 (mI m 31 ((3337 + 34 * j + (2 + ((i : Nat) : Int))).toNat))))), (4, vi (((foldB (fun k_ : Nat => mI m 31 (3337 + 34 * j + (2 + (k_ : Int))).toNat) i).2) + 0)), (6, vi (shl32 1 (mI m 31 ((3337 + 34 * j + (2 + ((i : Nat) : Int))).toNat)))), (5, vi ((i : Nat) : Int)), (0, vr 30), (1, vi j), (2, vi w)]) rfl (Nat.le_of_ble_eq_true rfl) rfl ?_
        refine V_iinc (pc := 76) dX11_match_76 (x := ((i : Nat) : Int)) (ls' := [(5, vi (((i : Nat) : Int) + 1)), (3, vi (or32 ((foldB (fun k_ : Nat => mI m 31 (3337 + 34 * j + (2 + (k_ : Int))).toNat) i).1) (shl32 1 (mI m 31 ((3337 + 34 * j + (2 + ((i : Nat) : Int))).toNat))))), (4, vi (((foldB (fun k_ : Nat => mI m 31 (3337 + 34 * j + (2 + (k_ : Int))).toNat) i).2) + 0)), (6, vi (shl32 1 (mI m 31 ((3337 + 34 * j + (2 + ((i : Nat) : Int))).toNat)))), (0, vr 30), (1, vi j), (2, vi w)]) rfl (by unfold I32 at *; omega) (Nat.le_of_ble_eq_true rfl) rfl ?_
        refine V_goto (pc := 79) dX11_match_79 (tgt := 30) rfl ?_
        have e_ : foldB (fun k_ : Nat => mI m 31 (3337 + 34 * j + (2 + (k_ : Int))).toNat) (i + 1) = (or32 ((foldB (fun k_ : Nat => mI m 31 (3337 + 34 * j + (2 + (k_ : Int))).toNat) i).1) (shl32 1 (mI m 31 ((3337 + 34 * j + (2 + ((i : Nat) : Int))).toNat))), ((foldB (fun k_ : Nat => mI m 31 (3337 + 34 * j + (2 + (k_ : Int))).toNat) i).2) + 0) := by
          show (or32 _ _, if _ then _ else _) = _
          first
            | (rw [if_pos (by assumption)]; done)
            | (rw [if_neg (by assumption)]; done)
            | (rw [if_neg (by assumption)]; simp; done)
            | (rw [if_pos (by assumption)]; simp; done)
        have h_ := ih (i + 1) (by omega)
        rw [e_] at h_
        refine V_ls (ls' := [(5, vi (((i : Nat) : Int) + 1)), (4, vi (((foldB (fun k_ : Nat => mI m 31 (3337 + 34 * j + (2 + (k_ : Int))).toNat) i).2) + 0)), (3, vi (or32 ((foldB (fun k_ : Nat => mI m 31 (3337 + 34 * j + (2 + (k_ : Int))).toNat) i).1) (shl32 1 (mI m 31 ((3337 + 34 * j + (2 + ((i : Nat) : Int))).toNat))))), (0, vr 30), (1, vi j), (2, vi w)]) (by intro q_ h_; simp only [List.mem_cons, List.not_mem_nil, or_false] at h_ ⊢; rcases h_ with rfl | rfl | rfl | rfl | rfl | rfl <;> simp) ?_
        exact h_
      · skip
        refine V_iconst (pc := 63) dX11_match_63 (by unfold I32; omega) ?_
        refine V_goto (pc := 64) dX11_match_64 (tgt := 68) rfl ?_
        refine V_iadd (pc := 68) dX11_match_68 (by unfold I32 at *; omega) ?_
        refine V_st (pc := 69) dX11_match_69 (ls' := [(4, vi (((foldB (fun k_ : Nat => mI m 31 (3337 + 34 * j + (2 + (k_ : Int))).toNat) i).2) + 1)), (6, vi (shl32 1 (mI m 31 ((3337 + 34 * j + (2 + ((i : Nat) : Int))).toNat)))), (5, vi ((i : Nat) : Int)), (3, vi ((foldB (fun k_ : Nat => mI m 31 (3337 + 34 * j + (2 + (k_ : Int))).toNat) i).1)), (0, vr 30), (1, vi j), (2, vi w)]) rfl (Nat.le_of_ble_eq_true rfl) rfl ?_
        refine V_ld (pc := 71) dX11_match_71 (v := vi ((foldB (fun k_ : Nat => mI m 31 (3337 + 34 * j + (2 + (k_ : Int))).toNat) i).1)) rfl rfl ?_
        refine V_ld (pc := 72) dX11_match_72 (v := vi (shl32 1 (mI m 31 ((3337 + 34 * j + (2 + ((i : Nat) : Int))).toNat)))) rfl rfl ?_
        refine V_ior (pc := 74) dX11_match_74 ?_
        refine V_st (pc := 75) dX11_match_75 (ls' := [(3, vi (or32 ((foldB (fun k_ : Nat => mI m 31 (3337 + 34 * j + (2 + (k_ : Int))).toNat) i).1) (shl32 1 (mI m 31 ((3337 + 34 * j + (2 + ((i : Nat) : Int))).toNat))))), (4, vi (((foldB (fun k_ : Nat => mI m 31 (3337 + 34 * j + (2 + (k_ : Int))).toNat) i).2) + 1)), (6, vi (shl32 1 (mI m 31 ((3337 + 34 * j + (2 + ((i : Nat) : Int))).toNat)))), (5, vi ((i : Nat) : Int)), (0, vr 30), (1, vi j), (2, vi w)]) rfl (Nat.le_of_ble_eq_true rfl) rfl ?_
        refine V_iinc (pc := 76) dX11_match_76 (x := ((i : Nat) : Int)) (ls' := [(5, vi (((i : Nat) : Int) + 1)), (3, vi (or32 ((foldB (fun k_ : Nat => mI m 31 (3337 + 34 * j + (2 + (k_ : Int))).toNat) i).1) (shl32 1 (mI m 31 ((3337 + 34 * j + (2 + ((i : Nat) : Int))).toNat))))), (4, vi (((foldB (fun k_ : Nat => mI m 31 (3337 + 34 * j + (2 + (k_ : Int))).toNat) i).2) + 1)), (6, vi (shl32 1 (mI m 31 ((3337 + 34 * j + (2 + ((i : Nat) : Int))).toNat)))), (0, vr 30), (1, vi j), (2, vi w)]) rfl (by unfold I32 at *; omega) (Nat.le_of_ble_eq_true rfl) rfl ?_
        refine V_goto (pc := 79) dX11_match_79 (tgt := 30) rfl ?_
        have e_ : foldB (fun k_ : Nat => mI m 31 (3337 + 34 * j + (2 + (k_ : Int))).toNat) (i + 1) = (or32 ((foldB (fun k_ : Nat => mI m 31 (3337 + 34 * j + (2 + (k_ : Int))).toNat) i).1) (shl32 1 (mI m 31 ((3337 + 34 * j + (2 + ((i : Nat) : Int))).toNat))), ((foldB (fun k_ : Nat => mI m 31 (3337 + 34 * j + (2 + (k_ : Int))).toNat) i).2) + 1) := by
          show (or32 _ _, if _ then _ else _) = _
          first
            | (rw [if_pos (by assumption)]; done)
            | (rw [if_neg (by assumption)]; done)
            | (rw [if_neg (by assumption)]; simp; done)
            | (rw [if_pos (by assumption)]; simp; done)
        have h_ := ih (i + 1) (by omega)
        rw [e_] at h_
        refine V_ls (ls' := [(5, vi (((i : Nat) : Int) + 1)), (4, vi (((foldB (fun k_ : Nat => mI m 31 (3337 + 34 * j + (2 + (k_ : Int))).toNat) i).2) + 1)), (3, vi (or32 ((foldB (fun k_ : Nat => mI m 31 (3337 + 34 * j + (2 + (k_ : Int))).toNat) i).1) (shl32 1 (mI m 31 ((3337 + 34 * j + (2 + ((i : Nat) : Int))).toNat))))), (0, vr 30), (1, vi j), (2, vi w)]) (by intro q_ h_; simp only [List.mem_cons, List.not_mem_nil, or_false] at h_ ⊢; rcases h_ with rfl | rfl | rfl | rfl | rfl | rfl <;> simp) ?_
        exact h_

set_option maxHeartbeats 4000000 in
theorem r_match  (m : Mem) (j : Int) (w : Int)   (hL : Lay (mT m) (mR m)) (hM : MatR m) : Ct μX11_match 2 [vr 30, vi j, vi w] m (ri fun x_ m' => (x_ = if (0 ≤ j ∧ j < mI m 31 3336) ∧ 0 ≤ w ∧ w ≤ 3 then (if w < 2 then mI m 31 (3337 + 34 * j + w).toNat else if w = 2 then (foldB (fun k_ : Nat => mI m 31 (3337 + 34 * j + (2 + (k_ : Int))).toNat) (mI m 31 (3337 + 34 * j + 1).toNat).toNat).2 else (foldB (fun k_ : Nat => mI m 31 (3337 + 34 * j + (2 + (k_ : Int))).toNat) (mI m 31 (3337 + 34 * j + 1).toNat).toNat).1) else -1) ∧ m = m') := by
  refine Ct_of_V rfl (by decide) rfl (Nat.le_of_ble_eq_true rfl) ?_
  show V μX11_match 2 m _ 0 [(0, vr 30), (1, vi j), (2, vi w)] [] m
  refine V_rg (k := 1) (x := j) rfl fun r_j => ?_
  refine V_rg (k := 2) (x := w) rfl fun r_w => ?_
  have hM0 := hM.1
  have hM1 := hM.2.1
  refine V_ld (pc := 0) dX11_match_0 (v := vr 30) rfl rfl ?_
  refine V_ld (pc := 1) dX11_match_1 (v := vi j) rfl rfl ?_
  refine V_callV (pc := 2) dX11_match_2 (F' := 1) (As := [vi j]) (st := []) cw_RX11_371 rfl rfl hL.t30 (by decide) (Nat.le_of_ble_eq_true rfl) (by omega) (r_isMatch  m j   (by first | assumption | omega) ⟨hM.1, hM.2.1⟩) ?_
  rintro _ _ ⟨x2, rfl, hx2, rfl⟩ ok2 le2
  refine V_if_eq (pc := 5) dX11_match_5 (tgt := 20) rfl (fun h5 => ?_) (fun h5 => ?_)
  · skip
    refine V_iconst (pc := 20) dX11_match_20 (by unfold I32; omega) ?_
    refine V_reti (pc := 21) dX11_match_21 trivial ?_
    exact ⟨by omega, rfl⟩
  · skip
    refine V_ld (pc := 8) dX11_match_8 (v := vi w) rfl rfl ?_
    refine V_i2l (pc := 9) dX11_match_9 ?_
    refine V_lconst (pc := 10) dX11_match_10 (x := 0) (by unfold I64; omega) (by decide) ?_
    refine V_ldc2 (pc := 11) dX11_match_11 (x := 3) kl_RX11_361 (by unfold I64; omega) rfl ?_
    refine V_callS (pc := 14) dX11_match_14 (F' := 0) (As := [vl w, vl 0, vl 3]) (st := []) cw_RX11_101 rfl rfl (Nat.le_of_ble_eq_true rfl) (by omega) (r_isIn  m w 0 3   ) ?_
    rintro _ _ ⟨x14, rfl, hx14, rfl⟩ ok14 le14
    refine V_if_ne (pc := 17) dX11_match_17 (tgt := 22) rfl (fun h17 => ?_) (fun h17 => ?_)
    · skip
      refine V_iconst (pc := 22) dX11_match_22 (by unfold I32; omega) ?_
      refine V_st (pc := 23) dX11_match_23 (ls' := [(3, vi 0), (0, vr 30), (1, vi j), (2, vi w)]) rfl (Nat.le_of_ble_eq_true rfl) rfl ?_
      refine V_iconst (pc := 24) dX11_match_24 (by unfold I32; omega) ?_
      refine V_st (pc := 25) dX11_match_25 (ls' := [(4, vi 0), (3, vi 0), (0, vr 30), (1, vi j), (2, vi w)]) rfl (Nat.le_of_ble_eq_true rfl) rfl ?_
      refine V_iconst (pc := 27) dX11_match_27 (by unfold I32; omega) ?_
      refine V_st (pc := 28) dX11_match_28 (ls' := [(5, vi 0), (4, vi 0), (3, vi 0), (0, vr 30), (1, vi j), (2, vi w)]) rfl (Nat.le_of_ble_eq_true rfl) rfl ?_
      have hm := hM.2.2 j (by omega) (by omega)
      skip
      refine L_match (F := 1) (m := m) (n := (mI m 31 (3337 + 34 * j + 1).toNat).toNat) (j := j) (w := w) hL hM (by omega) (by omega) ?_ (mI m 31 (3337 + 34 * j + 1).toNat).toNat 0 (by omega)
      refine V_ld (pc := 82) dX11_match_82 (v := vi w) rfl rfl ?_
      refine V_iconst (pc := 83) dX11_match_83 (by unfold I32; omega) ?_
      refine V_icmp_ge (pc := 84) dX11_match_84 (tgt := 96) rfl (fun h84 => ?_) (fun h84 => ?_)
      · skip
        refine V_ld (pc := 96) dX11_match_96 (v := vi w) rfl rfl ?_
        refine V_iconst (pc := 97) dX11_match_97 (by unfold I32; omega) ?_
        refine V_icmp_ne (pc := 98) dX11_match_98 (tgt := 106) rfl (fun h98 => ?_) (fun h98 => ?_)
        · skip
          refine V_ld (pc := 106) dX11_match_106 (v := vi ((foldB (fun k_ : Nat => mI m 31 (3337 + 34 * j + (2 + (k_ : Int))).toNat) ((mI m 31 (3337 + 34 * j + 1).toNat).toNat)).1)) rfl rfl ?_
          refine V_reti (pc := 107) dX11_match_107 trivial ?_
          exact ⟨by omega, rfl⟩
        · skip
          refine V_ld (pc := 101) dX11_match_101 (v := vi ((foldB (fun k_ : Nat => mI m 31 (3337 + 34 * j + (2 + (k_ : Int))).toNat) ((mI m 31 (3337 + 34 * j + 1).toNat).toNat)).2)) rfl rfl ?_
          refine V_goto (pc := 103) dX11_match_103 (tgt := 107) rfl ?_
          refine V_reti (pc := 107) dX11_match_107 trivial ?_
          exact ⟨by omega, rfl⟩
      · skip
        refine V_ld (pc := 87) dX11_match_87 (v := vr 30) rfl rfl ?_
        refine V_ld (pc := 88) dX11_match_88 (v := vi j) rfl rfl ?_
        refine V_ld (pc := 89) dX11_match_89 (v := vi w) rfl rfl ?_
        refine V_callV (pc := 90) dX11_match_90 (F' := 0) (As := [vi j, vi w]) (st := []) cw_RX11_368 rfl rfl hL.t30 (by decide) (Nat.le_of_ble_eq_true rfl) (by omega) (r_matched  m j w   (by first | assumption | omega) (by omega)) ?_
        rintro _ _ ⟨x90, rfl, hx90, rfl⟩ ok90 le90
        obtain rfl : x90 = mI m 31 ((3337 + 34 * j + w).toNat) := hx90.trans rfl
        refine V_goto (pc := 93) dX11_match_93 (tgt := 107) rfl ?_
        refine V_reti (pc := 107) dX11_match_107 trivial ?_
        exact ⟨by omega, rfl⟩
    · skip
      refine V_iconst (pc := 20) dX11_match_20 (by unfold I32; omega) ?_
      refine V_reti (pc := 21) dX11_match_21 trivial ?_
      exact ⟨by omega, rfl⟩
