/-! the class reads: a reader object r, its parts r + 1, their facts r + 2 -/
def PLay (m : Mem) (r n : Nat) : Prop := 59 ≤ r ∧ mT m r = (5, 4) ∧ mR m r 0 = some 13 ∧ mR m r 1 = some (r + 1) ∧ mT m (r + 1) = (4, 2) ∧ mR m (r + 1) 0 = some (r + 2) ∧ mT m (r + 2) = (20, 18 * n)
def CP (I : Nat → Nat → Int) (r : Nat) (tx : Nat → Int) (n : Nat) (S : PS) : Prop := I 13 1 = (n : Int) ∧ I r 2 = (S.2.1 : Int) ∧ I r 3 = -1 ∧ I (r + 1) 1 = (S.2.2.1 : Int) ∧ S.2.1 ≤ n ∧ S.2.2.1 ≤ 2 * S.2.1 ∧ n ≤ 120 ∧ (∀ k, k < n → I 14 k = tx k ∧ 1 ≤ tx k ∧ tx k ≤ 127) ∧ CTab I (r + 2) S.2.2.2 S.2.2.1 ∧ S.1 = true ∧ 59 ≤ r
def CFr (r : Nat) (I I' : Nat → Nat → Int) : Prop := ∀ o k, ¬ (o = r ∧ (k = 2 ∨ k = 3)) → ¬ (o = r + 1 ∧ k = 1) → o ≠ r + 2 → I' o k = I o k
theorem CFr.rf {r : Nat} {I : Nat → Nat → Int} : CFr r I I := fun _ _ _ _ _ => rfl
theorem CFr.tr {r : Nat} {I J K : Nat → Nat → Int} (h : CFr r I J) (h2 : CFr r J K) : CFr r I K := fun o k a b c => (h2 o k a b c).trans (h o k a b c)
theorem CFr.set {r : Nat} {I J : Nat → Nat → Int} {o k : Nat} {v : Int} (h : CFr r I J) (hk : (o = r ∧ (k = 2 ∨ k = 3)) ∨ (o = r + 1 ∧ k = 1) ∨ o = r + 2) : CFr r I (up2 J o k v) := fun o' k' a b c => by
  have e : up2 J o k v o' k' = J o' k' := if_neg fun e => by
    obtain ⟨rfl, rfl⟩ := e
    exact hk.elim a (fun h => h.elim b c)
  rw [e]
  exact h o' k' a b c
def COut (I : Nat → Nat → Int) (r : Nat) (tx : Nat → Int) (n : Nat) (R : Int × PS) (x : Int) : Prop := (R.2.1 = true ∧ x = R.1 ∧ CP I r tx n R.2) ∨ (R.2.1 = false ∧ x = -1 ∧ I r 3 = (R.2.2.1 : Int))
theorem CP.at {I : Nat → Nat → Int} {r : Nat} {tx : Nat → Int} {n : Nat} {S : PS} {v : Int} (h : CP I r tx n S) (hv : v = (S.2.1 : Int)) : (if 0 ≤ v ∧ v < I 13 1 ∧ v < 120 then I 14 v.toNat else -1) = cS tx n S := by
  obtain ⟨h1, h2, h3, h4, h5, h6, h7, h8, h9, h10, h11⟩ := h
  subst hv
  unfold cS chT
  rw [if_pos h10]
  by_cases c : S.2.1 < n
  · rw [if_pos c, if_pos (by omega), Int.toNat_natCast]; exact (h8 _ c).1
  · rw [if_neg c, if_neg (by omega)]
theorem CP.cr {I : Nat → Nat → Int} {r : Nat} {tx : Nat → Int} {n : Nat} {S : PS} (h : CP I r tx n S) : -1 ≤ cS tx n S ∧ cS tx n S ≤ 127 := by
  obtain ⟨h1, h2, h3, h4, h5, h6, h7, h8, h9, h10, h11⟩ := h
  unfold cS chT
  rw [if_pos h10]
  by_cases c : S.2.1 < n
  · rw [if_pos c]; have := h8 _ c; omega
  · rw [if_neg c]; omega
theorem CP.adv {I : Nat → Nat → Int} {r : Nat} {tx : Nat → Int} {n : Nat} {S : PS} {v : Int} (h : CP I r tx n S) (hv : v = (S.2.1 : Int) + 1) (hlt : S.2.1 < n) : CP (up2 I r 2 v) r tx n (advP S) := by
  obtain ⟨h1, h2, h3, h4, h5, h6, h7, h8, h9, h10, h11⟩ := h
  refine ⟨?_, ?_, ?_, ?_, hlt, ?_, h7, fun k hk => ?_, CTab.oth h9 (by omega), h10, h11⟩
  · rw [up2_no (by omega)]; exact h1
  · rw [up2_s]; show v = ((S.2.1 + 1 : Nat) : Int); omega
  · rw [up2_nk (by decide)]; exact h3
  · rw [up2_no (by omega)]; exact h4
  · show S.2.2.1 ≤ 2 * (S.2.1 + 1); omega
  · rw [up2_no (by omega)]; exact h8 k hk
abbrev isAtk (k : Nat) (c : Int) : Prop := (65 ≤ c ∧ c ≤ 90) ∨ c = 94 ∨ c = 36 ∨ (0 < k ∧ (c = 40 ∨ c = 37))
theorem isAtk_iff {k : Nat} {c : Int} {q : Nat} : cSerD (dpL k) c q ↔ isAtk k c := by
  have hdp : dpL k = true ↔ 0 < k := by unfold dpL; exact decide_eq_true_iff
  unfold cSerD isAtk
  rw [hdp]

set_option maxHeartbeats 4000000 in
theorem c_failed (n : Nat) (m : Mem) (r : Nat) (a : Int)   (hQ : PLay m r n) : Ct μX5_failed 0 [vr r, vi a] m (ri fun x_ m' => ∃ I_ : Nat → Nat → Int, wI m I_ = m' ∧ (x_ = -1) ∧ I_ r 3 = (if mI m r 3 = -1 then a else mI m r 3) ∧ CFr r (mI m) I_) := by
  refine Ct_of_V rfl (by decide) rfl (Nat.le_of_ble_eq_true rfl) ?_
  show V μX5_failed 0 m _ 0 [(0, vr r), (1, vi a)] [] m
  refine V_rg (k := 1) (x := a) rfl fun r_a => ?_
  have hr59 := hQ.1
  refine V_ld (pc := 0) dX5_failed_0 (v := vr r) rfl rfl ?_
  refine V_getIv (pc := 1) dX5_failed_1 (v := mI m r 3) fw_RX5_9 rfl hQ.2.1 rfl (fun g1 => ?_)
  refine V_iconst (pc := 4) dX5_failed_4 (by unfold I32; omega) ?_
  refine V_icmp_ne (pc := 5) dX5_failed_5 (tgt := 13) rfl (fun h5 => ?_) (fun h5 => ?_)
  · skip
    refine V_iconst (pc := 13) dX5_failed_13 (by unfold I32; omega) ?_
    refine V_reti (pc := 14) dX5_failed_14 trivial ?_
    refine ⟨mI m, rfl, rfl, ?_, ?_⟩
    · first
        | (rw [if_pos (by omega)]; exact up2_s)
        | (rw [if_neg (by omega)])
    · exact CFr.rf
  · skip
    refine V_ld (pc := 8) dX5_failed_8 (v := vr r) rfl rfl ?_
    refine V_ld (pc := 9) dX5_failed_9 (v := vi a) rfl rfl ?_
    refine V_putI (pc := 10) dX5_failed_10 fw_RX5_9 rfl hQ.2.1 (Or.inl rfl) (Or.inl rfl) ?_
    refine V_iconst (pc := 13) dX5_failed_13 (by unfold I32; omega) ?_
    refine V_reti (pc := 14) dX5_failed_14 trivial ?_
    refine ⟨mI (setI m r 3 a), rfl, rfl, ?_, ?_⟩
    · first
        | (rw [if_pos (by omega)]; exact up2_s)
        | (rw [if_neg (by omega)])
    · exact CFr.set CFr.rf (by omega)

set_option maxHeartbeats 4000000 in
theorem c_comes (tx : Nat → Int) (n : Nat) (S : PS) (m : Mem) (r : Nat) (g : Int)   (hL : Lay (mT m) (mR m)) (hQ : PLay m r n) (hP : CP (mI m) r tx n S) (hc : g ≠ -1) : Ct μX5_comes 1 [vr r, vi g] m (ri fun x_ m' => (x_ = if cS tx n S = g then 1 else 0) ∧ m = m') := by
  refine Ct_of_V rfl (by decide) rfl (Nat.le_of_ble_eq_true rfl) ?_
  show V μX5_comes 1 m _ 0 [(0, vr r), (1, vi g)] [] m
  refine V_rg (k := 1) (x := g) rfl fun r_g => ?_
  obtain ⟨hcr0, hcr1⟩ := hP.cr
  have hn120 := hP.2.2.2.2.2.2.1
  have hb0 := hP.2.2.2.2.1
  have hb1 := hP.2.2.2.2.2.1
  have hr59 := hQ.1
  refine V_ld (pc := 0) dX5_comes_0 (v := vr r) rfl rfl ?_
  refine V_getRv (pc := 1) dX5_comes_1 (o' := 13) fw_RX5_15 rfl hQ.2.1 hQ.2.2.1 ?_
  refine V_ld (pc := 4) dX5_comes_4 (v := vr r) rfl rfl ?_
  refine V_getIv (pc := 5) dX5_comes_5 (v := (S.2.1 : Int)) fw_RX5_37 rfl hQ.2.1 hP.2.1 (fun g5 => ?_)
  refine V_callV (pc := 8) dX5_comes_8 (F' := 0) (As := [vi (S.2.1 : Int)]) (st := []) cw_RX5_43 rfl rfl hL.t13 (by decide) (Nat.le_of_ble_eq_true rfl) (by omega) (c_Text_at  m 13 (S.2.1 : Int) 14  hL.t13 hL.r13_0 hL.t14) ?_
  rintro _ _ ⟨x8, rfl, hx8, rfl⟩ ok8 le8
  obtain rfl : x8 = cS tx n S := hx8.trans (CP.at hP rfl)
  obtain ⟨cr80, cr81⟩ := CP.cr hP
  refine V_ld (pc := 11) dX5_comes_11 (v := vi g) rfl rfl ?_
  refine V_icmp_ne (pc := 12) dX5_comes_12 (tgt := 19) rfl (fun h12 => ?_) (fun h12 => ?_)
  · skip
    refine V_iconst (pc := 19) dX5_comes_19 (by unfold I32; omega) ?_
    refine V_reti (pc := 20) dX5_comes_20 (show _ = (0 : Int) ∨ _ = (1 : Int) from by first | exact Or.inl rfl | exact Or.inr rfl | omega) ?_
    exact ⟨by omega, rfl⟩
  · skip
    refine V_iconst (pc := 15) dX5_comes_15 (by unfold I32; omega) ?_
    refine V_goto (pc := 16) dX5_comes_16 (tgt := 20) rfl ?_
    refine V_reti (pc := 20) dX5_comes_20 (show _ = (0 : Int) ∨ _ = (1 : Int) from by first | exact Or.inl rfl | exact Or.inr rfl | omega) ?_
    exact ⟨by omega, rfl⟩

set_option maxHeartbeats 4000000 in
theorem c_atomComes (tx : Nat → Int) (n : Nat) (k : Nat) (S : PS) (m : Mem) (r : Nat) (deep : Int)   (hL : Lay (mT m) (mR m)) (hQ : PLay m r n) (hP : CP (mI m) r tx n S) (hk : deep + (k : Int) = 5) : Ct μX5_atomComes 1 [vr r, vi deep] m (ri fun x_ m' => (x_ = if isAtk k (cS tx n S) then 1 else 0) ∧ m = m') := by
  refine Ct_of_V rfl (by decide) rfl (Nat.le_of_ble_eq_true rfl) ?_
  show V μX5_atomComes 1 m _ 0 [(0, vr r), (1, vi deep)] [] m
  refine V_rg (k := 1) (x := deep) rfl fun r_deep => ?_
  obtain ⟨hcr0, hcr1⟩ := hP.cr
  have hn120 := hP.2.2.2.2.2.2.1
  have hb0 := hP.2.2.2.2.1
  have hb1 := hP.2.2.2.2.2.1
  have hr59 := hQ.1
  refine V_ld (pc := 0) dX5_atomComes_0 (v := vr r) rfl rfl ?_
  refine V_getRv (pc := 1) dX5_atomComes_1 (o' := 13) fw_RX5_15 rfl hQ.2.1 hQ.2.2.1 ?_
  refine V_ld (pc := 4) dX5_atomComes_4 (v := vr r) rfl rfl ?_
  refine V_getIv (pc := 5) dX5_atomComes_5 (v := (S.2.1 : Int)) fw_RX5_37 rfl hQ.2.1 hP.2.1 (fun g5 => ?_)
  refine V_callV (pc := 8) dX5_atomComes_8 (F' := 0) (As := [vi (S.2.1 : Int)]) (st := []) cw_RX5_43 rfl rfl hL.t13 (by decide) (Nat.le_of_ble_eq_true rfl) (by omega) (c_Text_at  m 13 (S.2.1 : Int) 14  hL.t13 hL.r13_0 hL.t14) ?_
  rintro _ _ ⟨x8, rfl, hx8, rfl⟩ ok8 le8
  obtain rfl : x8 = cS tx n S := hx8.trans (CP.at hP rfl)
  obtain ⟨cr80, cr81⟩ := CP.cr hP
  refine V_st (pc := 11) dX5_atomComes_11 (ls' := [(2, vi (cS tx n S)), (0, vr r), (1, vi deep)]) rfl (Nat.le_of_ble_eq_true rfl) rfl ?_
  refine V_ld (pc := 12) dX5_atomComes_12 (v := vi (cS tx n S)) rfl rfl ?_
  refine V_bipush (pc := 13) dX5_atomComes_13 (by unfold I32; omega) (by decide) ?_
  refine V_isub (pc := 15) dX5_atomComes_15 (by unfold I32 at *; omega) ?_
  refine V_callSN (pc := 16) dX5_atomComes_16 (F' := 0) (As := [vi ((cS tx n S) - 65)]) (st := []) cn_RX5_67 rfl rfl (Nat.le_of_ble_eq_true rfl) (by omega) (c_isLetter  m ((cS tx n S) - 65)   ) ?_
  rintro _ _ ⟨x16, rfl, hx16, rfl⟩ ok16 le16
  refine V_if_ne (pc := 19) dX5_atomComes_19 (tgt := 51) rfl (fun h19 => ?_) (fun h19 => ?_)
  · skip
    refine V_iconst (pc := 51) dX5_atomComes_51 (by unfold I32; omega) ?_
    refine V_goto (pc := 52) dX5_atomComes_52 (tgt := 56) rfl ?_
    refine V_reti (pc := 56) dX5_atomComes_56 (show _ = (0 : Int) ∨ _ = (1 : Int) from by first | exact Or.inl rfl | exact Or.inr rfl | omega) ?_
    exact ⟨by unfold isAtk; omega, rfl⟩
  · skip
    refine V_ld (pc := 22) dX5_atomComes_22 (v := vi (cS tx n S)) rfl rfl ?_
    refine V_bipush (pc := 23) dX5_atomComes_23 (by unfold I32; omega) (by decide) ?_
    refine V_icmp_eq (pc := 25) dX5_atomComes_25 (tgt := 51) rfl (fun h25 => ?_) (fun h25 => ?_)
    · skip
      refine V_iconst (pc := 51) dX5_atomComes_51 (by unfold I32; omega) ?_
      refine V_goto (pc := 52) dX5_atomComes_52 (tgt := 56) rfl ?_
      refine V_reti (pc := 56) dX5_atomComes_56 (show _ = (0 : Int) ∨ _ = (1 : Int) from by first | exact Or.inl rfl | exact Or.inr rfl | omega) ?_
      exact ⟨by unfold isAtk; omega, rfl⟩
    · skip
      refine V_ld (pc := 28) dX5_atomComes_28 (v := vi (cS tx n S)) rfl rfl ?_
      refine V_bipush (pc := 29) dX5_atomComes_29 (by unfold I32; omega) (by decide) ?_
      refine V_icmp_eq (pc := 31) dX5_atomComes_31 (tgt := 51) rfl (fun h31 => ?_) (fun h31 => ?_)
      · skip
        refine V_iconst (pc := 51) dX5_atomComes_51 (by unfold I32; omega) ?_
        refine V_goto (pc := 52) dX5_atomComes_52 (tgt := 56) rfl ?_
        refine V_reti (pc := 56) dX5_atomComes_56 (show _ = (0 : Int) ∨ _ = (1 : Int) from by first | exact Or.inl rfl | exact Or.inr rfl | omega) ?_
        exact ⟨by unfold isAtk; omega, rfl⟩
      · skip
        refine V_ld (pc := 34) dX5_atomComes_34 (v := vi deep) rfl rfl ?_
        refine V_iconst (pc := 35) dX5_atomComes_35 (by unfold I32; omega) ?_
        refine V_icmp_ge (pc := 36) dX5_atomComes_36 (tgt := 55) rfl (fun h36 => ?_) (fun h36 => ?_)
        · skip
          refine V_iconst (pc := 55) dX5_atomComes_55 (by unfold I32; omega) ?_
          refine V_reti (pc := 56) dX5_atomComes_56 (show _ = (0 : Int) ∨ _ = (1 : Int) from by first | exact Or.inl rfl | exact Or.inr rfl | omega) ?_
          exact ⟨by unfold isAtk; omega, rfl⟩
        · skip
          refine V_ld (pc := 39) dX5_atomComes_39 (v := vi (cS tx n S)) rfl rfl ?_
          refine V_bipush (pc := 40) dX5_atomComes_40 (by unfold I32; omega) (by decide) ?_
          refine V_icmp_eq (pc := 42) dX5_atomComes_42 (tgt := 51) rfl (fun h42 => ?_) (fun h42 => ?_)
          · skip
            refine V_iconst (pc := 51) dX5_atomComes_51 (by unfold I32; omega) ?_
            refine V_goto (pc := 52) dX5_atomComes_52 (tgt := 56) rfl ?_
            refine V_reti (pc := 56) dX5_atomComes_56 (show _ = (0 : Int) ∨ _ = (1 : Int) from by first | exact Or.inl rfl | exact Or.inr rfl | omega) ?_
            exact ⟨by unfold isAtk; omega, rfl⟩
          · skip
            refine V_ld (pc := 45) dX5_atomComes_45 (v := vi (cS tx n S)) rfl rfl ?_
            refine V_bipush (pc := 46) dX5_atomComes_46 (by unfold I32; omega) (by decide) ?_
            refine V_icmp_ne (pc := 48) dX5_atomComes_48 (tgt := 55) rfl (fun h48 => ?_) (fun h48 => ?_)
            · skip
              refine V_iconst (pc := 55) dX5_atomComes_55 (by unfold I32; omega) ?_
              refine V_reti (pc := 56) dX5_atomComes_56 (show _ = (0 : Int) ∨ _ = (1 : Int) from by first | exact Or.inl rfl | exact Or.inr rfl | omega) ?_
              exact ⟨by unfold isAtk; omega, rfl⟩
            · skip
              refine V_iconst (pc := 51) dX5_atomComes_51 (by unfold I32; omega) ?_
              refine V_goto (pc := 52) dX5_atomComes_52 (tgt := 56) rfl ?_
              refine V_reti (pc := 56) dX5_atomComes_56 (show _ = (0 : Int) ∨ _ = (1 : Int) from by first | exact Or.inl rfl | exact Or.inr rfl | omega) ?_
              exact ⟨by unfold isAtk; omega, rfl⟩

set_option maxHeartbeats 4000000 in
theorem c_pnumber (tx : Nat → Int) (n : Nat) (S : PS) (m : Mem) (r : Nat)   (hL : Lay (mT m) (mR m)) (hQ : PLay m r n) (hP : CP (mI m) r tx n S) : Ct μX5_number 1 [vr r] m (ri fun x_ m' => ∃ I_ : Nat → Nat → Int, wI m I_ = m' ∧ (CFr r (mI m) I_) ∧ COut I_ r tx n (numP tx n S) x_) := by
  refine Ct_of_V rfl (by decide) rfl (Nat.le_of_ble_eq_true rfl) ?_
  show V μX5_number 1 m _ 0 [(0, vr r)] [] m
  obtain ⟨hcr0, hcr1⟩ := hP.cr
  have hn120 := hP.2.2.2.2.2.2.1
  have hb0 := hP.2.2.2.2.1
  have hb1 := hP.2.2.2.2.2.1
  have hr59 := hQ.1
  refine V_ld (pc := 0) dX5_number_0 (v := vr r) rfl rfl ?_
  refine V_getIv (pc := 1) dX5_number_1 (v := (S.2.1 : Int)) fw_RX5_37 rfl hQ.2.1 hP.2.1 (fun g1 => ?_)
  refine V_st (pc := 4) dX5_number_4 (ls' := [(1, vi (S.2.1 : Int)), (0, vr r)]) rfl (Nat.le_of_ble_eq_true rfl) rfl ?_
  refine V_iconst (pc := 5) dX5_number_5 (by unfold I32; omega) ?_
  refine V_st (pc := 6) dX5_number_6 (ls' := [(2, vi 0), (1, vi (S.2.1 : Int)), (0, vr r)]) rfl (Nat.le_of_ble_eq_true rfl) rfl ?_
  refine V_iconst (pc := 7) dX5_number_7 (by unfold I32; omega) ?_
  refine V_st (pc := 8) dX5_number_8 (ls' := [(3, vi 0), (2, vi 0), (1, vi (S.2.1 : Int)), (0, vr r)]) rfl (Nat.le_of_ble_eq_true rfl) rfl ?_
  skip
  refine V_ld (pc := 9) dX5_number_9 (v := vi 0) rfl rfl ?_
  refine V_iconst (pc := 10) dX5_number_10 (by unfold I32; omega) ?_
  refine V_icmp_ge (pc := 11) dX5_number_11 (tgt := 69) rfl (fun h_ => absurd h_ (by decide)) (fun _ => ?_)
  skip
  refine V_ld (pc := 14) dX5_number_14 (v := vr r) rfl rfl ?_
  refine V_getRv (pc := 15) dX5_number_15 (o' := 13) fw_RX5_15 rfl hQ.2.1 hQ.2.2.1 ?_
  refine V_ld (pc := 18) dX5_number_18 (v := vr r) rfl rfl ?_
  refine V_getIv (pc := 19) dX5_number_19 (v := (S.2.1 : Int)) fw_RX5_37 rfl hQ.2.1 hP.2.1 (fun g19 => ?_)
  refine V_callV (pc := 22) dX5_number_22 (F' := 0) (As := [vi (S.2.1 : Int)]) (st := []) cw_RX5_43 rfl rfl hL.t13 (by decide) (Nat.le_of_ble_eq_true rfl) (by omega) (c_Text_at  m 13 (S.2.1 : Int) 14  hL.t13 hL.r13_0 hL.t14) ?_
  rintro _ _ ⟨x22, rfl, hx22, rfl⟩ ok22 le22
  obtain rfl : x22 = cS tx n S := hx22.trans (CP.at hP rfl)
  obtain ⟨cr220, cr221⟩ := CP.cr hP
  refine V_bipush (pc := 25) dX5_number_25 (by unfold I32; omega) (by decide) ?_
  refine V_isub (pc := 27) dX5_number_27 (by unfold I32 at *; omega) ?_
  refine V_st (pc := 28) dX5_number_28 (ls' := [(4, vi ((cS tx n S) - 48)), (3, vi 0), (2, vi 0), (1, vi (S.2.1 : Int)), (0, vr r)]) rfl (Nat.le_of_ble_eq_true rfl) rfl ?_
  refine V_ld (pc := 30) dX5_number_30 (v := vi ((cS tx n S) - 48)) rfl rfl ?_
  refine V_if_lt (pc := 32) dX5_number_32 (tgt := 69) rfl (fun h32 => ?_) (fun h32 => ?_)
  · skip
    refine V_ld (pc := 69) dX5_number_69 (v := vr r) rfl rfl ?_
    refine V_getIv (pc := 70) dX5_number_70 (v := (S.2.1 : Int)) fw_RX5_37 rfl hQ.2.1 hP.2.1 (fun g70 => ?_)
    refine V_ld (pc := 73) dX5_number_73 (v := vi (S.2.1 : Int)) rfl rfl ?_
    refine V_icmp_ne (pc := 74) dX5_number_74 (tgt := 88) rfl (fun h74 => ?_) (fun h74 => ?_)
    · skip
      refine V_ld (pc := 88) dX5_number_88 (v := vi 0) rfl rfl ?_
      refine V_reti (pc := 89) dX5_number_89 trivial ?_
      exfalso; omega
    · skip
      refine V_ld (pc := 77) dX5_number_77 (v := vr r) rfl rfl ?_
      refine V_ld (pc := 78) dX5_number_78 (v := vr r) rfl rfl ?_
      refine V_getIv (pc := 79) dX5_number_79 (v := (S.2.1 : Int)) fw_RX5_37 rfl hQ.2.1 hP.2.1 (fun g79 => ?_)
      refine V_callV (pc := 82) dX5_number_82 (F' := 0) (As := [vi (S.2.1 : Int)]) (st := []) cw_RX5_40 rfl rfl hQ.2.1 (by decide) (Nat.le_of_ble_eq_true rfl) (by omega) (c_failed n m r (S.2.1 : Int)   hQ) ?_
      rintro _ _ ⟨x82, rfl, Ix82, rfl, hx82, hI82, hF82⟩ ok82 le82
      refine V_goto (pc := 85) dX5_number_85 (tgt := 89) rfl ?_
      refine V_reti (pc := 89) dX5_number_89 trivial ?_
      first
        | (exfalso; omega)
        | (have e_ := num0 (tx := tx) (n := n) (S := S) (by unfold isDg; omega)
           refine ⟨mI (wI m Ix82), rfl, (CFr.tr CFr.rf hF82), Or.inr ?_⟩
           rw [e_]
           exact ⟨rfl, hx82, hI82.trans (if_pos hP.2.2.1)⟩)
  · skip
    refine V_ld (pc := 35) dX5_number_35 (v := vi ((cS tx n S) - 48)) rfl rfl ?_
    refine V_bipush (pc := 37) dX5_number_37 (by unfold I32; omega) (by decide) ?_
    refine V_icmp_le (pc := 39) dX5_number_39 (tgt := 45) rfl (fun h39 => ?_) (fun h39 => ?_)
    · skip
      refine V_ld (pc := 45) dX5_number_45 (v := vi 0) rfl rfl ?_
      refine V_bipush (pc := 46) dX5_number_46 (by unfold I32; omega) (by decide) ?_
      refine V_imul (pc := 48) dX5_number_48 (by unfold I32 at *; omega) ?_
      refine V_ld (pc := 49) dX5_number_49 (v := vi ((cS tx n S) - 48)) rfl rfl ?_
      refine V_iadd (pc := 51) dX5_number_51 (by unfold I32 at *; omega) ?_
      refine V_st (pc := 52) dX5_number_52 (ls' := [(2, vi ((0 * 10) + ((cS tx n S) - 48))), (4, vi ((cS tx n S) - 48)), (3, vi 0), (1, vi (S.2.1 : Int)), (0, vr r)]) rfl (Nat.le_of_ble_eq_true rfl) rfl ?_
      refine V_ld (pc := 53) dX5_number_53 (v := vr r) rfl rfl ?_
      refine V_dup (pc := 54) dX5_number_54 rfl ?_
      refine V_getIv (pc := 55) dX5_number_55 (v := (S.2.1 : Int)) fw_RX5_37 rfl hQ.2.1 hP.2.1 (fun g55 => ?_)
      refine V_iconst (pc := 58) dX5_number_58 (by unfold I32; omega) ?_
      refine V_iadd (pc := 59) dX5_number_59 (by unfold I32 at *; omega) ?_
      refine V_putI (pc := 60) dX5_number_60 fw_RX5_37 rfl hQ.2.1 (Or.inl rfl) (Or.inl rfl) ?_
      refine V_iinc (pc := 63) dX5_number_63 (x := 0) (ls' := [(3, vi (0 + 1)), (2, vi ((0 * 10) + ((cS tx n S) - 48))), (4, vi ((cS tx n S) - 48)), (1, vi (S.2.1 : Int)), (0, vr r)]) rfl (by unfold I32 at *; omega) (Nat.le_of_ble_eq_true rfl) rfl ?_
      refine V_goto (pc := 66) dX5_number_66 (tgt := 9) rfl ?_
      have hA1 : CP (mI (setI m r 2 ((S.2.1 : Int) + 1))) r tx n (advP S) := CP.adv hP rfl (cS_lt (tx := tx) (n := n) (S := S) (by omega)).2
      have ehA1 : (advP S).2.1 = S.2.1 + 1 := rfl
      refine V_ld (pc := 9) dX5_number_9 (v := vi (0 + 1)) rfl rfl ?_
      refine V_iconst (pc := 10) dX5_number_10 (by unfold I32; omega) ?_
      refine V_icmp_ge (pc := 11) dX5_number_11 (tgt := 69) rfl (fun h11 => ?_) (fun h11 => ?_)
      · skip
        refine V_ld (pc := 69) dX5_number_69 (v := vr r) rfl rfl ?_
        refine V_getIv (pc := 70) dX5_number_70 (v := ((advP S).2.1 : Int)) fw_RX5_37 rfl hQ.2.1 hA1.2.1 (fun g70 => ?_)
        refine V_ld (pc := 73) dX5_number_73 (v := vi (S.2.1 : Int)) rfl rfl ?_
        refine V_icmp_ne (pc := 74) dX5_number_74 (tgt := 88) rfl (fun h74 => ?_) (fun h74 => ?_)
        · skip
          refine V_ld (pc := 88) dX5_number_88 (v := vi ((0 * 10) + ((cS tx n S) - 48))) rfl rfl ?_
          refine V_reti (pc := 89) dX5_number_89 trivial ?_
          first
            | (exfalso; omega)
            | (have e_ := num1 (tx := tx) (n := n) (S := S) (by unfold isDg; omega) (by unfold isDg; omega)
               refine ⟨mI (setI m r 2 ((S.2.1 : Int) + 1)), rfl, (CFr.set CFr.rf (by omega)), Or.inl ?_⟩
               rw [e_]
               exact ⟨hP.2.2.2.2.2.2.2.2.2.1, (by show _ = cS tx n S - 48; omega), hA1⟩)
        · skip
          refine V_ld (pc := 77) dX5_number_77 (v := vr r) rfl rfl ?_
          refine V_ld (pc := 78) dX5_number_78 (v := vr r) rfl rfl ?_
          refine V_getIv (pc := 79) dX5_number_79 (v := ((advP S).2.1 : Int)) fw_RX5_37 rfl hQ.2.1 hA1.2.1 (fun g79 => ?_)
          refine V_callV (pc := 82) dX5_number_82 (F' := 0) (As := [vi ((advP S).2.1 : Int)]) (st := []) cw_RX5_40 rfl rfl hQ.2.1 (by decide) (Nat.le_of_ble_eq_true rfl) (by omega) (c_failed n (setI m r 2 ((S.2.1 : Int) + 1)) r ((advP S).2.1 : Int)   hQ) ?_
          rintro _ _ ⟨x82, rfl, Ix82, rfl, hx82, hI82, hF82⟩ ok82 le82
          refine V_goto (pc := 85) dX5_number_85 (tgt := 89) rfl ?_
          refine V_reti (pc := 89) dX5_number_89 trivial ?_
          first
            | (exfalso; omega)
            | (have e_ := num0 (tx := tx) (n := n) (S := S) (by unfold isDg; omega)
               refine ⟨mI (wI (setI m r 2 ((S.2.1 : Int) + 1)) Ix82), rfl, (CFr.tr (CFr.set CFr.rf (by omega)) hF82), Or.inr ?_⟩
               rw [e_]
               exact ⟨rfl, hx82, hI82.trans (if_pos hP.2.2.1)⟩)
      · skip
        skip
        refine V_ld (pc := 14) dX5_number_14 (v := vr r) rfl rfl ?_
        refine V_getRv (pc := 15) dX5_number_15 (o' := 13) fw_RX5_15 rfl hQ.2.1 hQ.2.2.1 ?_
        refine V_ld (pc := 18) dX5_number_18 (v := vr r) rfl rfl ?_
        refine V_getIv (pc := 19) dX5_number_19 (v := ((advP S).2.1 : Int)) fw_RX5_37 rfl hQ.2.1 hA1.2.1 (fun g19 => ?_)
        refine V_callV (pc := 22) dX5_number_22 (F' := 0) (As := [vi ((advP S).2.1 : Int)]) (st := []) cw_RX5_43 rfl rfl hL.t13 (by decide) (Nat.le_of_ble_eq_true rfl) (by omega) (c_Text_at  (setI m r 2 ((S.2.1 : Int) + 1)) 13 ((advP S).2.1 : Int) 14  hL.t13 hL.r13_0 hL.t14) ?_
        rintro _ _ ⟨x22, rfl, hx22, rfl⟩ ok22 le22
        obtain rfl : x22 = cS tx n (advP S) := hx22.trans (CP.at hA1 rfl)
        obtain ⟨cr220, cr221⟩ := CP.cr hA1
        refine V_bipush (pc := 25) dX5_number_25 (by unfold I32; omega) (by decide) ?_
        refine V_isub (pc := 27) dX5_number_27 (by unfold I32 at *; omega) ?_
        refine V_st (pc := 28) dX5_number_28 (ls' := [(4, vi ((cS tx n (advP S)) - 48)), (3, vi (0 + 1)), (2, vi ((0 * 10) + ((cS tx n S) - 48))), (1, vi (S.2.1 : Int)), (0, vr r)]) rfl (Nat.le_of_ble_eq_true rfl) rfl ?_
        refine V_ld (pc := 30) dX5_number_30 (v := vi ((cS tx n (advP S)) - 48)) rfl rfl ?_
        refine V_if_lt (pc := 32) dX5_number_32 (tgt := 69) rfl (fun h32 => ?_) (fun h32 => ?_)
        · skip
          refine V_ld (pc := 69) dX5_number_69 (v := vr r) rfl rfl ?_
          refine V_getIv (pc := 70) dX5_number_70 (v := ((advP S).2.1 : Int)) fw_RX5_37 rfl hQ.2.1 hA1.2.1 (fun g70 => ?_)
          refine V_ld (pc := 73) dX5_number_73 (v := vi (S.2.1 : Int)) rfl rfl ?_
          refine V_icmp_ne (pc := 74) dX5_number_74 (tgt := 88) rfl (fun h74 => ?_) (fun h74 => ?_)
          · skip
            refine V_ld (pc := 88) dX5_number_88 (v := vi ((0 * 10) + ((cS tx n S) - 48))) rfl rfl ?_
            refine V_reti (pc := 89) dX5_number_89 trivial ?_
            first
              | (exfalso; omega)
              | (have e_ := num1 (tx := tx) (n := n) (S := S) (by unfold isDg; omega) (by unfold isDg; omega)
                 refine ⟨mI (setI m r 2 ((S.2.1 : Int) + 1)), rfl, (CFr.set CFr.rf (by omega)), Or.inl ?_⟩
                 rw [e_]
                 exact ⟨hP.2.2.2.2.2.2.2.2.2.1, (by show _ = cS tx n S - 48; omega), hA1⟩)
          · skip
            refine V_ld (pc := 77) dX5_number_77 (v := vr r) rfl rfl ?_
            refine V_ld (pc := 78) dX5_number_78 (v := vr r) rfl rfl ?_
            refine V_getIv (pc := 79) dX5_number_79 (v := ((advP S).2.1 : Int)) fw_RX5_37 rfl hQ.2.1 hA1.2.1 (fun g79 => ?_)
            refine V_callV (pc := 82) dX5_number_82 (F' := 0) (As := [vi ((advP S).2.1 : Int)]) (st := []) cw_RX5_40 rfl rfl hQ.2.1 (by decide) (Nat.le_of_ble_eq_true rfl) (by omega) (c_failed n (setI m r 2 ((S.2.1 : Int) + 1)) r ((advP S).2.1 : Int)   hQ) ?_
            rintro _ _ ⟨x82, rfl, Ix82, rfl, hx82, hI82, hF82⟩ ok82 le82
            refine V_goto (pc := 85) dX5_number_85 (tgt := 89) rfl ?_
            refine V_reti (pc := 89) dX5_number_89 trivial ?_
            first
              | (exfalso; omega)
              | (have e_ := num0 (tx := tx) (n := n) (S := S) (by unfold isDg; omega)
                 refine ⟨mI (wI (setI m r 2 ((S.2.1 : Int) + 1)) Ix82), rfl, (CFr.tr (CFr.set CFr.rf (by omega)) hF82), Or.inr ?_⟩
                 rw [e_]
                 exact ⟨rfl, hx82, hI82.trans (if_pos hP.2.2.1)⟩)
        · skip
          refine V_ld (pc := 35) dX5_number_35 (v := vi ((cS tx n (advP S)) - 48)) rfl rfl ?_
          refine V_bipush (pc := 37) dX5_number_37 (by unfold I32; omega) (by decide) ?_
          refine V_icmp_le (pc := 39) dX5_number_39 (tgt := 45) rfl (fun h39 => ?_) (fun h39 => ?_)
          · skip
            refine V_ld (pc := 45) dX5_number_45 (v := vi ((0 * 10) + ((cS tx n S) - 48))) rfl rfl ?_
            refine V_bipush (pc := 46) dX5_number_46 (by unfold I32; omega) (by decide) ?_
            refine V_imul (pc := 48) dX5_number_48 (by unfold I32 at *; omega) ?_
            refine V_ld (pc := 49) dX5_number_49 (v := vi ((cS tx n (advP S)) - 48)) rfl rfl ?_
            refine V_iadd (pc := 51) dX5_number_51 (by unfold I32 at *; omega) ?_
            refine V_st (pc := 52) dX5_number_52 (ls' := [(2, vi ((((0 * 10) + ((cS tx n S) - 48)) * 10) + ((cS tx n (advP S)) - 48))), (4, vi ((cS tx n (advP S)) - 48)), (3, vi (0 + 1)), (1, vi (S.2.1 : Int)), (0, vr r)]) rfl (Nat.le_of_ble_eq_true rfl) rfl ?_
            refine V_ld (pc := 53) dX5_number_53 (v := vr r) rfl rfl ?_
            refine V_dup (pc := 54) dX5_number_54 rfl ?_
            refine V_getIv (pc := 55) dX5_number_55 (v := ((advP S).2.1 : Int)) fw_RX5_37 rfl hQ.2.1 hA1.2.1 (fun g55 => ?_)
            refine V_iconst (pc := 58) dX5_number_58 (by unfold I32; omega) ?_
            refine V_iadd (pc := 59) dX5_number_59 (by unfold I32 at *; omega) ?_
            refine V_putI (pc := 60) dX5_number_60 fw_RX5_37 rfl hQ.2.1 (Or.inl rfl) (Or.inl rfl) ?_
            refine V_iinc (pc := 63) dX5_number_63 (x := (0 + 1)) (ls' := [(3, vi ((0 + 1) + 1)), (2, vi ((((0 * 10) + ((cS tx n S) - 48)) * 10) + ((cS tx n (advP S)) - 48))), (4, vi ((cS tx n (advP S)) - 48)), (1, vi (S.2.1 : Int)), (0, vr r)]) rfl (by unfold I32 at *; omega) (Nat.le_of_ble_eq_true rfl) rfl ?_
            refine V_goto (pc := 66) dX5_number_66 (tgt := 9) rfl ?_
            have hA2 : CP (mI (setI (setI m r 2 ((S.2.1 : Int) + 1)) r 2 (((advP S).2.1 : Int) + 1))) r tx n (advP (advP S)) := CP.adv hA1 rfl (cS_lt (tx := tx) (n := n) (S := (advP S)) (by omega)).2
            have ehA2 : (advP (advP S)).2.1 = (advP S).2.1 + 1 := rfl
            refine V_ld (pc := 9) dX5_number_9 (v := vi ((0 + 1) + 1)) rfl rfl ?_
            refine V_iconst (pc := 10) dX5_number_10 (by unfold I32; omega) ?_
            refine V_icmp_ge (pc := 11) dX5_number_11 (tgt := 69) rfl (fun h11 => ?_) (fun h11 => ?_)
            · skip
              refine V_ld (pc := 69) dX5_number_69 (v := vr r) rfl rfl ?_
              refine V_getIv (pc := 70) dX5_number_70 (v := ((advP (advP S)).2.1 : Int)) fw_RX5_37 rfl hQ.2.1 hA2.2.1 (fun g70 => ?_)
              refine V_ld (pc := 73) dX5_number_73 (v := vi (S.2.1 : Int)) rfl rfl ?_
              refine V_icmp_ne (pc := 74) dX5_number_74 (tgt := 88) rfl (fun h74 => ?_) (fun h74 => ?_)
              · skip
                refine V_ld (pc := 88) dX5_number_88 (v := vi ((((0 * 10) + ((cS tx n S) - 48)) * 10) + ((cS tx n (advP S)) - 48))) rfl rfl ?_
                refine V_reti (pc := 89) dX5_number_89 trivial ?_
                first
                  | (exfalso; omega)
                  | (have e_ := num2 (tx := tx) (n := n) (S := S) (by unfold isDg; omega) (by unfold isDg; omega)
                     refine ⟨mI (setI (setI m r 2 ((S.2.1 : Int) + 1)) r 2 (((advP S).2.1 : Int) + 1)), rfl, (CFr.set (CFr.set CFr.rf (by omega)) (by omega)), Or.inl ?_⟩
                     rw [e_]
                     exact ⟨hP.2.2.2.2.2.2.2.2.2.1, (by show _ = 10 * (cS tx n S - 48) + (cS tx n (advP S) - 48); omega), hA2⟩)
              · skip
                refine V_ld (pc := 77) dX5_number_77 (v := vr r) rfl rfl ?_
                refine V_ld (pc := 78) dX5_number_78 (v := vr r) rfl rfl ?_
                refine V_getIv (pc := 79) dX5_number_79 (v := ((advP (advP S)).2.1 : Int)) fw_RX5_37 rfl hQ.2.1 hA2.2.1 (fun g79 => ?_)
                refine V_callV (pc := 82) dX5_number_82 (F' := 0) (As := [vi ((advP (advP S)).2.1 : Int)]) (st := []) cw_RX5_40 rfl rfl hQ.2.1 (by decide) (Nat.le_of_ble_eq_true rfl) (by omega) (c_failed n (setI (setI m r 2 ((S.2.1 : Int) + 1)) r 2 (((advP S).2.1 : Int) + 1)) r ((advP (advP S)).2.1 : Int)   hQ) ?_
                rintro _ _ ⟨x82, rfl, Ix82, rfl, hx82, hI82, hF82⟩ ok82 le82
                refine V_goto (pc := 85) dX5_number_85 (tgt := 89) rfl ?_
                refine V_reti (pc := 89) dX5_number_89 trivial ?_
                first
                  | (exfalso; omega)
                  | (have e_ := num0 (tx := tx) (n := n) (S := S) (by unfold isDg; omega)
                     refine ⟨mI (wI (setI (setI m r 2 ((S.2.1 : Int) + 1)) r 2 (((advP S).2.1 : Int) + 1)) Ix82), rfl, (CFr.tr (CFr.set (CFr.set CFr.rf (by omega)) (by omega)) hF82), Or.inr ?_⟩
                     rw [e_]
                     exact ⟨rfl, hx82, hI82.trans (if_pos hP.2.2.1)⟩)
            · skip
              exfalso; omega
          · skip
            refine V_goto (pc := 42) dX5_number_42 (tgt := 69) rfl ?_
            refine V_ld (pc := 69) dX5_number_69 (v := vr r) rfl rfl ?_
            refine V_getIv (pc := 70) dX5_number_70 (v := ((advP S).2.1 : Int)) fw_RX5_37 rfl hQ.2.1 hA1.2.1 (fun g70 => ?_)
            refine V_ld (pc := 73) dX5_number_73 (v := vi (S.2.1 : Int)) rfl rfl ?_
            refine V_icmp_ne (pc := 74) dX5_number_74 (tgt := 88) rfl (fun h74 => ?_) (fun h74 => ?_)
            · skip
              refine V_ld (pc := 88) dX5_number_88 (v := vi ((0 * 10) + ((cS tx n S) - 48))) rfl rfl ?_
              refine V_reti (pc := 89) dX5_number_89 trivial ?_
              first
                | (exfalso; omega)
                | (have e_ := num1 (tx := tx) (n := n) (S := S) (by unfold isDg; omega) (by unfold isDg; omega)
                   refine ⟨mI (setI m r 2 ((S.2.1 : Int) + 1)), rfl, (CFr.set CFr.rf (by omega)), Or.inl ?_⟩
                   rw [e_]
                   exact ⟨hP.2.2.2.2.2.2.2.2.2.1, (by show _ = cS tx n S - 48; omega), hA1⟩)
            · skip
              refine V_ld (pc := 77) dX5_number_77 (v := vr r) rfl rfl ?_
              refine V_ld (pc := 78) dX5_number_78 (v := vr r) rfl rfl ?_
              refine V_getIv (pc := 79) dX5_number_79 (v := ((advP S).2.1 : Int)) fw_RX5_37 rfl hQ.2.1 hA1.2.1 (fun g79 => ?_)
              refine V_callV (pc := 82) dX5_number_82 (F' := 0) (As := [vi ((advP S).2.1 : Int)]) (st := []) cw_RX5_40 rfl rfl hQ.2.1 (by decide) (Nat.le_of_ble_eq_true rfl) (by omega) (c_failed n (setI m r 2 ((S.2.1 : Int) + 1)) r ((advP S).2.1 : Int)   hQ) ?_
              rintro _ _ ⟨x82, rfl, Ix82, rfl, hx82, hI82, hF82⟩ ok82 le82
              refine V_goto (pc := 85) dX5_number_85 (tgt := 89) rfl ?_
              refine V_reti (pc := 89) dX5_number_89 trivial ?_
              first
                | (exfalso; omega)
                | (have e_ := num0 (tx := tx) (n := n) (S := S) (by unfold isDg; omega)
                   refine ⟨mI (wI (setI m r 2 ((S.2.1 : Int) + 1)) Ix82), rfl, (CFr.tr (CFr.set CFr.rf (by omega)) hF82), Or.inr ?_⟩
                   rw [e_]
                   exact ⟨rfl, hx82, hI82.trans (if_pos hP.2.2.1)⟩)
    · skip
      refine V_goto (pc := 42) dX5_number_42 (tgt := 69) rfl ?_
      refine V_ld (pc := 69) dX5_number_69 (v := vr r) rfl rfl ?_
      refine V_getIv (pc := 70) dX5_number_70 (v := (S.2.1 : Int)) fw_RX5_37 rfl hQ.2.1 hP.2.1 (fun g70 => ?_)
      refine V_ld (pc := 73) dX5_number_73 (v := vi (S.2.1 : Int)) rfl rfl ?_
      refine V_icmp_ne (pc := 74) dX5_number_74 (tgt := 88) rfl (fun h74 => ?_) (fun h74 => ?_)
      · skip
        refine V_ld (pc := 88) dX5_number_88 (v := vi 0) rfl rfl ?_
        refine V_reti (pc := 89) dX5_number_89 trivial ?_
        exfalso; omega
      · skip
        refine V_ld (pc := 77) dX5_number_77 (v := vr r) rfl rfl ?_
        refine V_ld (pc := 78) dX5_number_78 (v := vr r) rfl rfl ?_
        refine V_getIv (pc := 79) dX5_number_79 (v := (S.2.1 : Int)) fw_RX5_37 rfl hQ.2.1 hP.2.1 (fun g79 => ?_)
        refine V_callV (pc := 82) dX5_number_82 (F' := 0) (As := [vi (S.2.1 : Int)]) (st := []) cw_RX5_40 rfl rfl hQ.2.1 (by decide) (Nat.le_of_ble_eq_true rfl) (by omega) (c_failed n m r (S.2.1 : Int)   hQ) ?_
        rintro _ _ ⟨x82, rfl, Ix82, rfl, hx82, hI82, hF82⟩ ok82 le82
        refine V_goto (pc := 85) dX5_number_85 (tgt := 89) rfl ?_
        refine V_reti (pc := 89) dX5_number_89 trivial ?_
        first
          | (exfalso; omega)
          | (have e_ := num0 (tx := tx) (n := n) (S := S) (by unfold isDg; omega)
             refine ⟨mI (wI m Ix82), rfl, (CFr.tr CFr.rf hF82), Or.inr ?_⟩
             rw [e_]
             exact ⟨rfl, hx82, hI82.trans (if_pos hP.2.2.1)⟩)
