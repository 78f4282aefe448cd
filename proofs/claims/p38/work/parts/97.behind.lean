/-! what comes behind a match: class and reference -/
def tgA (mo by_ st : Int) (le : Nat → Int) (i : Nat) : Int := if mo = 2 then frE le by_ i st else lsE le by_ i st
def nextA (mo by_ st pl : Int) (le : Nat → Int) : Int := if mo = 0 then (if st < pl then pl else st + 1) else if mo = 1 then st + 1 else if st < tgA mo by_ st le (pl - st).toNat then tgA mo by_ st le (pl - st).toNat else st + 1
theorem tgA_s {mo by_ st : Int} {le : Nat → Int} {i : Nat} (h0 : 0 ≤ st) : tgA mo by_ st le (i + 1) = if mo = 2 ∧ 0 ≤ tgA mo by_ st le i then tgA mo by_ st le i else if le (st + i).toNat = by_ then st + i else if mo = 2 then -1 else tgA mo by_ st le i := by
  unfold tgA
  by_cases h : mo = 2
  · rw [if_pos h, if_pos h, frE_s le by_ i st h0]
    by_cases c : 0 ≤ frE le by_ i st
    · rw [if_pos c, if_pos ⟨h, c⟩]
    · rw [if_neg c, if_neg (show ¬ (mo = 2 ∧ 0 ≤ frE le by_ i st) from fun e => c e.2), if_pos h]
  · rw [if_neg h, if_neg h, if_neg (show ¬ (mo = 2 ∧ 0 ≤ lsE le by_ i st) from fun e => h e.1), if_neg h]
    rfl
theorem tgA_b {mo by_ st : Int} {le : Nat → Int} (h0 : 0 ≤ st) (i : Nat) : tgA mo by_ st le i = -1 ∨ (st ≤ tgA mo by_ st le i ∧ tgA mo by_ st le i < st + i) := by
  unfold tgA
  by_cases h : mo = 2
  · rw [if_pos h]; exact frE_lo le by_ i st h0
  · rw [if_neg h]; exact lsE_lo le by_ i st h0
theorem tgA_2 {by_ st : Int} {le : Nat → Int} {i : Nat} (h0 : 0 ≤ st) (h : 0 ≤ tgA 2 by_ st le i) : ∀ d : Nat, tgA 2 by_ st le (i + d) = tgA 2 by_ st le i
  | 0 => rfl
  | d + 1 => by
    have e := tgA_2 h0 h d
    show tgA 2 by_ st le (i + d + 1) = _
    rw [tgA_s h0, if_pos ⟨rfl, by rw [e]; exact h⟩, e]
theorem nextA_b {mo by_ st pl : Int} {le : Nat → Int} (h0 : 0 ≤ st ∧ st ≤ pl) : st < nextA mo by_ st pl le ∧ (nextA mo by_ st pl le ≤ pl ∨ nextA mo by_ st pl le = st + 1) := by
  have hb := tgA_b (mo := mo) (by_ := by_) (st := st) (le := le) h0.1 (pl - st).toNat
  unfold nextA
  split
  · split <;> omega
  · split
    · omega
    · split <;> omega

set_option maxHeartbeats 4000000 in
theorem L_zsb {F0 : Nat} {m : Mem} {mo by_ st pl : Int} {le : Nat → Int} (hL : Lay (mT m) (mR m)) (hr : mI m 1 4 = mo ∧ mI m 1 5 = by_ ∧ mI m 9 9 = pl) (hl : ∀ k, k < 32 → mI m 10 k = le k) (hs : 0 ≤ st ∧ st ≤ pl ∧ pl ≤ 32 ∧ 0 ≤ mo ∧ mo ≤ 3) (hm : 2 ≤ mo) (hF : 0 < F0) : ∀ (d i : Nat) (v : Int), (d : Int) + (i : Int) = pl - st → ((0 ≤ (tgA mo by_ st le i) ∧ v = (tgA mo by_ st le i) ∧ mo ≠ 2) ∨ ((tgA mo by_ st le i) < 0 ∧ v = st)) → V μX10_startBehind F0 m (ri fun x_ m' => (x_ = nextA mo by_ st pl le) ∧ m = m') 36 [(3, vi (st + (i : Int))), (2, vi v), (0, vr 0), (1, vi st)] [] m := by
  intro d
  induction d with
  | zero =>
    intro i v hi hv
    have hb := tgA_b (mo := mo) (by_ := by_) (st := st) (le := le) hs.1 i
    have ei : (pl - st).toNat = i := by omega
    have hn : nextA mo by_ st pl le = if st < (tgA mo by_ st le i) then (tgA mo by_ st le i) else st + 1 := by unfold nextA; rw [if_neg (by omega), if_neg (by omega), ei]
    refine V_ld (pc := 36) dX10_startBehind_36 (v := vi (st + (i : Int))) rfl rfl ?_
    refine V_ld (pc := 37) dX10_startBehind_37 (v := vr 0) rfl rfl ?_
    refine V_getRv (pc := 38) dX10_startBehind_38 (o' := 9) fw_RX10_23 rfl hL.t0 hL.r0_1 ?_
    refine V_getIv (pc := 41) dX10_startBehind_41 (v := pl) fw_RX10_157 rfl hL.t9 hr.2.2 (fun g41 => ?_)
    refine V_icmp_ge (pc := 44) dX10_startBehind_44 (tgt := 87) rfl (fun h44 => ?_) (fun h44 => ?_)
    · skip
      refine V_ld (pc := 87) dX10_startBehind_87 (v := vi v) rfl rfl ?_
      refine V_ld (pc := 88) dX10_startBehind_88 (v := vi st) rfl rfl ?_
      refine V_icmp_le (pc := 89) dX10_startBehind_89 (tgt := 96) rfl (fun h89 => ?_) (fun h89 => ?_)
      · skip
        refine V_ld (pc := 96) dX10_startBehind_96 (v := vi st) rfl rfl ?_
        refine V_iconst (pc := 97) dX10_startBehind_97 (by unfold I32; omega) ?_
        refine V_iadd (pc := 98) dX10_startBehind_98 (by unfold I32 at *; omega) ?_
        refine V_reti (pc := 99) dX10_startBehind_99 trivial ?_
        refine ⟨?_, rfl⟩
        rw [hn]
        first
          | (exfalso; omega)
          | (rw [if_pos (by omega)] <;> omega)
          | (rw [if_neg (by omega)] <;> omega)
      · skip
        refine V_ld (pc := 92) dX10_startBehind_92 (v := vi v) rfl rfl ?_
        refine V_goto (pc := 93) dX10_startBehind_93 (tgt := 99) rfl ?_
        refine V_reti (pc := 99) dX10_startBehind_99 trivial ?_
        refine ⟨?_, rfl⟩
        rw [hn]
        first
          | (exfalso; omega)
          | (rw [if_pos (by omega)] <;> omega)
          | (rw [if_neg (by omega)] <;> omega)
    · skip
      exfalso; omega
  | succ d ih =>
    intro i v hi hv
    have hb := tgA_b (mo := mo) (by_ := by_) (st := st) (le := le) hs.1 i
    have hts := tgA_s (mo := mo) (by_ := by_) (st := st) (le := le) (i := i) hs.1
    have hlr := hl (st + (i : Int)).toNat (by omega)
    refine V_ld (pc := 36) dX10_startBehind_36 (v := vi (st + (i : Int))) rfl rfl ?_
    refine V_ld (pc := 37) dX10_startBehind_37 (v := vr 0) rfl rfl ?_
    refine V_getRv (pc := 38) dX10_startBehind_38 (o' := 9) fw_RX10_23 rfl hL.t0 hL.r0_1 ?_
    refine V_getIv (pc := 41) dX10_startBehind_41 (v := pl) fw_RX10_157 rfl hL.t9 hr.2.2 (fun g41 => ?_)
    refine V_icmp_ge (pc := 44) dX10_startBehind_44 (tgt := 87) rfl (fun h44 => ?_) (fun h44 => ?_)
    · skip
      refine V_ld (pc := 87) dX10_startBehind_87 (v := vi v) rfl rfl ?_
      refine V_ld (pc := 88) dX10_startBehind_88 (v := vi st) rfl rfl ?_
      refine V_icmp_le (pc := 89) dX10_startBehind_89 (tgt := 96) rfl (fun h89 => ?_) (fun h89 => ?_)
      · skip
        refine V_ld (pc := 96) dX10_startBehind_96 (v := vi st) rfl rfl ?_
        refine V_iconst (pc := 97) dX10_startBehind_97 (by unfold I32; omega) ?_
        refine V_iadd (pc := 98) dX10_startBehind_98 (by unfold I32 at *; omega) ?_
        refine V_reti (pc := 99) dX10_startBehind_99 trivial ?_
        have hm2 : mo = 2 := by omega
        have ht : tgA mo by_ st le (i + 1) = st + (i : Int) := by rw [hts, if_neg (by omega), if_pos (by omega)]
        have hA : tgA mo by_ st le (pl - st).toNat = st + (i : Int) := by
          subst hm2
          rw [show (pl - st).toNat = i + 1 + d from by omega, tgA_2 hs.1 (by rw [ht]; omega), ht]
        refine ⟨?_, rfl⟩
        unfold nextA
        rw [if_neg (by omega), if_neg (by omega), hA]
        first | (rw [if_pos (by omega)] <;> omega) | (rw [if_neg (by omega)] <;> omega)
      · skip
        refine V_ld (pc := 92) dX10_startBehind_92 (v := vi v) rfl rfl ?_
        refine V_goto (pc := 93) dX10_startBehind_93 (tgt := 99) rfl ?_
        refine V_reti (pc := 99) dX10_startBehind_99 trivial ?_
        have hm2 : mo = 2 := by omega
        have ht : tgA mo by_ st le (i + 1) = st + (i : Int) := by rw [hts, if_neg (by omega), if_pos (by omega)]
        have hA : tgA mo by_ st le (pl - st).toNat = st + (i : Int) := by
          subst hm2
          rw [show (pl - st).toNat = i + 1 + d from by omega, tgA_2 hs.1 (by rw [ht]; omega), ht]
        refine ⟨?_, rfl⟩
        unfold nextA
        rw [if_neg (by omega), if_neg (by omega), hA]
        first | (rw [if_pos (by omega)] <;> omega) | (rw [if_neg (by omega)] <;> omega)
    · skip
      refine V_ld (pc := 47) dX10_startBehind_47 (v := vr 0) rfl rfl ?_
      refine V_getRv (pc := 48) dX10_startBehind_48 (o' := 9) fw_RX10_23 rfl hL.t0 hL.r0_1 ?_
      refine V_ld (pc := 51) dX10_startBehind_51 (v := vi (st + (i : Int))) rfl rfl ?_
      refine V_callV (pc := 52) dX10_startBehind_52 (F' := 0) (As := [vi (st + (i : Int))]) (st := []) cw_RX10_163 rfl rfl hL.t9 (by decide) (Nat.le_of_ble_eq_true rfl) hF (d_letterAt  m (st + (i : Int))   (by first | assumption | omega)) ?_
      rintro _ _ ⟨x52, rfl, hx52, rfl⟩ ok52 le52
      refine V_ld (pc := 55) dX10_startBehind_55 (v := vr 0) rfl rfl ?_
      refine V_getRv (pc := 56) dX10_startBehind_56 (o' := 1) fw_RX10_12 rfl hL.t0 hL.r0_0 ?_
      refine V_getIv (pc := 59) dX10_startBehind_59 (v := by_) fw_RX10_138 rfl hL.t1 hr.2.1 (fun g59 => ?_)
      refine V_icmp_ne (pc := 62) dX10_startBehind_62 (tgt := 81) rfl (fun h62 => ?_) (fun h62 => ?_)
      · skip
        refine V_iinc (pc := 81) dX10_startBehind_81 (x := (st + (i : Int))) (ls' := [(3, vi ((st + (i : Int)) + 1)), (2, vi v), (0, vr 0), (1, vi st)]) rfl (by unfold I32 at *; omega) (Nat.le_of_ble_eq_true rfl) rfl ?_
        refine V_goto (pc := 84) dX10_startBehind_84 (tgt := 36) rfl ?_
        have e1_ : st + (i : Int) + 1 = st + ((i + 1 : Nat) : Int) := by omega
        skip
        rw [e1_]
        have ht : (0 ≤ tgA mo by_ st le (i + 1) ∧ v = tgA mo by_ st le (i + 1) ∧ mo ≠ 2) ∨ (tgA mo by_ st le (i + 1) < 0 ∧ v = st) := by
          rw [hts]
          by_cases hm2_ : mo = 2 <;> by_cases ht0_ : 0 ≤ tgA mo by_ st le i <;>
          first
            | (exfalso; omega)
            | (rw [if_pos (by omega)]; omega)
            | (rw [if_neg (by omega), if_pos (by omega)]; omega)
            | (rw [if_neg (by omega), if_neg (by omega), if_pos (by omega)]; omega)
            | (rw [if_neg (by omega), if_neg (by omega), if_neg (by omega)]; omega)
        exact ih (i + 1) _ (by omega) ht
      · skip
        refine V_ld (pc := 65) dX10_startBehind_65 (v := vi (st + (i : Int))) rfl rfl ?_
        refine V_st (pc := 66) dX10_startBehind_66 (ls' := [(2, vi (st + (i : Int))), (3, vi (st + (i : Int))), (0, vr 0), (1, vi st)]) rfl (Nat.le_of_ble_eq_true rfl) rfl ?_
        refine V_ld (pc := 67) dX10_startBehind_67 (v := vr 0) rfl rfl ?_
        refine V_getRv (pc := 68) dX10_startBehind_68 (o' := 1) fw_RX10_12 rfl hL.t0 hL.r0_0 ?_
        refine V_getIv (pc := 71) dX10_startBehind_71 (v := mo) fw_RX10_141 rfl hL.t1 hr.1 (fun g71 => ?_)
        refine V_iconst (pc := 74) dX10_startBehind_74 (by unfold I32; omega) ?_
        refine V_icmp_ne (pc := 75) dX10_startBehind_75 (tgt := 81) rfl (fun h75 => ?_) (fun h75 => ?_)
        · skip
          refine V_iinc (pc := 81) dX10_startBehind_81 (x := (st + (i : Int))) (ls' := [(3, vi ((st + (i : Int)) + 1)), (2, vi (st + (i : Int))), (0, vr 0), (1, vi st)]) rfl (by unfold I32 at *; omega) (Nat.le_of_ble_eq_true rfl) rfl ?_
          refine V_goto (pc := 84) dX10_startBehind_84 (tgt := 36) rfl ?_
          have e1_ : st + (i : Int) + 1 = st + ((i + 1 : Nat) : Int) := by omega
          skip
          rw [e1_]
          have ht : (0 ≤ tgA mo by_ st le (i + 1) ∧ st + (i : Int) = tgA mo by_ st le (i + 1) ∧ mo ≠ 2) ∨ (tgA mo by_ st le (i + 1) < 0 ∧ st + (i : Int) = st) := by
            rw [hts]
            by_cases hm2_ : mo = 2 <;> by_cases ht0_ : 0 ≤ tgA mo by_ st le i <;>
            first
              | (exfalso; omega)
              | (rw [if_pos (by omega)]; omega)
              | (rw [if_neg (by omega), if_pos (by omega)]; omega)
              | (rw [if_neg (by omega), if_neg (by omega), if_pos (by omega)]; omega)
              | (rw [if_neg (by omega), if_neg (by omega), if_neg (by omega)]; omega)
          exact ih (i + 1) _ (by omega) ht
        · skip
          refine V_goto (pc := 78) dX10_startBehind_78 (tgt := 87) rfl ?_
          refine V_ld (pc := 87) dX10_startBehind_87 (v := vi (st + (i : Int))) rfl rfl ?_
          refine V_ld (pc := 88) dX10_startBehind_88 (v := vi st) rfl rfl ?_
          refine V_icmp_le (pc := 89) dX10_startBehind_89 (tgt := 96) rfl (fun h89 => ?_) (fun h89 => ?_)
          · skip
            refine V_ld (pc := 96) dX10_startBehind_96 (v := vi st) rfl rfl ?_
            refine V_iconst (pc := 97) dX10_startBehind_97 (by unfold I32; omega) ?_
            refine V_iadd (pc := 98) dX10_startBehind_98 (by unfold I32 at *; omega) ?_
            refine V_reti (pc := 99) dX10_startBehind_99 trivial ?_
            have hm2 : mo = 2 := by omega
            have ht : tgA mo by_ st le (i + 1) = st + (i : Int) := by rw [hts, if_neg (by omega), if_pos (by omega)]
            have hA : tgA mo by_ st le (pl - st).toNat = st + (i : Int) := by
              subst hm2
              rw [show (pl - st).toNat = i + 1 + d from by omega, tgA_2 hs.1 (by rw [ht]; omega), ht]
            refine ⟨?_, rfl⟩
            unfold nextA
            rw [if_neg (by omega), if_neg (by omega), hA]
            first | (rw [if_pos (by omega)] <;> omega) | (rw [if_neg (by omega)] <;> omega)
          · skip
            refine V_ld (pc := 92) dX10_startBehind_92 (v := vi (st + (i : Int))) rfl rfl ?_
            refine V_goto (pc := 93) dX10_startBehind_93 (tgt := 99) rfl ?_
            refine V_reti (pc := 99) dX10_startBehind_99 trivial ?_
            have hm2 : mo = 2 := by omega
            have ht : tgA mo by_ st le (i + 1) = st + (i : Int) := by rw [hts, if_neg (by omega), if_pos (by omega)]
            have hA : tgA mo by_ st le (pl - st).toNat = st + (i : Int) := by
              subst hm2
              rw [show (pl - st).toNat = i + 1 + d from by omega, tgA_2 hs.1 (by rw [ht]; omega), ht]
            refine ⟨?_, rfl⟩
            unfold nextA
            rw [if_neg (by omega), if_neg (by omega), hA]
            first | (rw [if_pos (by omega)] <;> omega) | (rw [if_neg (by omega)] <;> omega)

set_option maxHeartbeats 4000000 in
theorem z_startBehind (mo : Int) (by_ : Int) (pl : Int) (le : Nat → Int) (m : Mem) (st : Int)   (hL : Lay (mT m) (mR m)) (hr : mI m 1 4 = mo ∧ mI m 1 5 = by_ ∧ mI m 9 9 = pl) (hl : ∀ k, k < 32 → mI m 10 k = le k) (hs : 0 ≤ st ∧ st ≤ pl ∧ pl ≤ 32 ∧ 0 ≤ mo ∧ mo ≤ 3) : Ct μX10_startBehind 1 [vr 0, vi st] m (ri fun x_ m' => (x_ = nextA mo by_ st pl le) ∧ m = m') := by
  refine Ct_of_V rfl (by decide) rfl (Nat.le_of_ble_eq_true rfl) ?_
  show V μX10_startBehind 1 m _ 0 [(0, vr 0), (1, vi st)] [] m
  refine V_rg (k := 1) (x := st) rfl fun r_st => ?_
  refine V_ld (pc := 0) dX10_startBehind_0 (v := vi st) rfl rfl ?_
  refine V_st (pc := 1) dX10_startBehind_1 (ls' := [(2, vi st), (0, vr 0), (1, vi st)]) rfl (Nat.le_of_ble_eq_true rfl) rfl ?_
  refine V_ld (pc := 2) dX10_startBehind_2 (v := vr 0) rfl rfl ?_
  refine V_getRv (pc := 3) dX10_startBehind_3 (o' := 1) fw_RX10_12 rfl hL.t0 hL.r0_0 ?_
  refine V_getIv (pc := 6) dX10_startBehind_6 (v := mo) fw_RX10_141 rfl hL.t1 hr.1 (fun g6 => ?_)
  refine V_if_ne (pc := 9) dX10_startBehind_9 (tgt := 23) rfl (fun h9 => ?_) (fun h9 => ?_)
  · skip
    refine V_ld (pc := 23) dX10_startBehind_23 (v := vr 0) rfl rfl ?_
    refine V_getRv (pc := 24) dX10_startBehind_24 (o' := 1) fw_RX10_12 rfl hL.t0 hL.r0_0 ?_
    refine V_getIv (pc := 27) dX10_startBehind_27 (v := mo) fw_RX10_141 rfl hL.t1 hr.1 (fun g27 => ?_)
    refine V_iconst (pc := 30) dX10_startBehind_30 (by unfold I32; omega) ?_
    refine V_icmp_eq (pc := 31) dX10_startBehind_31 (tgt := 87) rfl (fun h31 => ?_) (fun h31 => ?_)
    · skip
      refine V_ld (pc := 87) dX10_startBehind_87 (v := vi st) rfl rfl ?_
      refine V_ld (pc := 88) dX10_startBehind_88 (v := vi st) rfl rfl ?_
      refine V_icmp_le (pc := 89) dX10_startBehind_89 (tgt := 96) rfl (fun h89 => ?_) (fun h89 => ?_)
      · skip
        refine V_ld (pc := 96) dX10_startBehind_96 (v := vi st) rfl rfl ?_
        refine V_iconst (pc := 97) dX10_startBehind_97 (by unfold I32; omega) ?_
        refine V_iadd (pc := 98) dX10_startBehind_98 (by unfold I32 at *; omega) ?_
        refine V_reti (pc := 99) dX10_startBehind_99 trivial ?_
        refine ⟨?_, rfl⟩
        unfold nextA
        first
          | (exfalso; omega)
          | (rw [if_pos (by omega), if_pos (by omega)])
          | (rw [if_pos (by omega), if_neg (by omega)])
          | (rw [if_neg (by omega), if_pos (by omega)])
      · skip
        refine V_ld (pc := 92) dX10_startBehind_92 (v := vi st) rfl rfl ?_
        refine V_goto (pc := 93) dX10_startBehind_93 (tgt := 99) rfl ?_
        refine V_reti (pc := 99) dX10_startBehind_99 trivial ?_
        refine ⟨?_, rfl⟩
        unfold nextA
        first
          | (exfalso; omega)
          | (rw [if_pos (by omega), if_pos (by omega)])
          | (rw [if_pos (by omega), if_neg (by omega)])
          | (rw [if_neg (by omega), if_pos (by omega)])
    · skip
      refine V_ld (pc := 34) dX10_startBehind_34 (v := vi st) rfl rfl ?_
      refine V_st (pc := 35) dX10_startBehind_35 (ls' := [(3, vi st), (2, vi st), (0, vr 0), (1, vi st)]) rfl (Nat.le_of_ble_eq_true rfl) rfl ?_
      skip
      have h1_ : st = st + ((0 : Nat) : Int) := by omega
      refine V_ls (ls' := [(3, vi (st + ((0 : Nat) : Int))), (2, vi st), (0, vr 0), (1, vi st)]) (by rw [← h1_]; exact fun q_ h_ => h_) ?_
      refine L_zsb hL hr hl hs (by omega) (by omega) (pl - st).toNat 0 st (by omega) (Or.inr ⟨?_, rfl⟩)
      unfold tgA
      split
      · show (-1 : Int) < 0; decide
      · show (-1 : Int) < 0; decide
  · skip
    refine V_ld (pc := 12) dX10_startBehind_12 (v := vr 0) rfl rfl ?_
    refine V_getRv (pc := 13) dX10_startBehind_13 (o' := 9) fw_RX10_23 rfl hL.t0 hL.r0_1 ?_
    refine V_getIv (pc := 16) dX10_startBehind_16 (v := pl) fw_RX10_157 rfl hL.t9 hr.2.2 (fun g16 => ?_)
    refine V_st (pc := 19) dX10_startBehind_19 (ls' := [(2, vi pl), (0, vr 0), (1, vi st)]) rfl (Nat.le_of_ble_eq_true rfl) rfl ?_
    refine V_goto (pc := 20) dX10_startBehind_20 (tgt := 87) rfl ?_
    refine V_ld (pc := 87) dX10_startBehind_87 (v := vi pl) rfl rfl ?_
    refine V_ld (pc := 88) dX10_startBehind_88 (v := vi st) rfl rfl ?_
    refine V_icmp_le (pc := 89) dX10_startBehind_89 (tgt := 96) rfl (fun h89 => ?_) (fun h89 => ?_)
    · skip
      refine V_ld (pc := 96) dX10_startBehind_96 (v := vi st) rfl rfl ?_
      refine V_iconst (pc := 97) dX10_startBehind_97 (by unfold I32; omega) ?_
      refine V_iadd (pc := 98) dX10_startBehind_98 (by unfold I32 at *; omega) ?_
      refine V_reti (pc := 99) dX10_startBehind_99 trivial ?_
      refine ⟨?_, rfl⟩
      unfold nextA
      first
        | (exfalso; omega)
        | (rw [if_pos (by omega), if_pos (by omega)])
        | (rw [if_pos (by omega), if_neg (by omega)])
        | (rw [if_neg (by omega), if_pos (by omega)])
    · skip
      refine V_ld (pc := 92) dX10_startBehind_92 (v := vi pl) rfl rfl ?_
      refine V_goto (pc := 93) dX10_startBehind_93 (tgt := 99) rfl ?_
      refine V_reti (pc := 99) dX10_startBehind_99 trivial ?_
      refine ⟨?_, rfl⟩
      unfold nextA
      first
        | (exfalso; omega)
        | (rw [if_pos (by omega), if_pos (by omega)])
        | (rw [if_pos (by omega), if_neg (by omega)])
        | (rw [if_neg (by omega), if_pos (by omega)])

