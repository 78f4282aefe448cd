/-! the reference reads: signs, numbers -/
def RTab (I : Nat → Nat → Int) (F : Tb) (c : Nat) : Prop := ∀ p, p < c → I 35 p = F p 0 ∧ I 36 p = F p 1 ∧ I 40 p = F p 2 ∧ I 37 p = F p 3 ∧ I 38 p = F p 4 ∧ I 39 p = F p 5 ∧ I 43 p = F p 6 ∧ I 41 p = F p 7 ∧ I 42 p = F p 8
/-- the reference's memory stands in the parser's state S, over the text tx -/
def RP (I : Nat → Nat → Int) (tx : Nat → Int) (n : Nat) (S : PS) : Prop := I 30 6 = (n : Int) ∧ I 30 7 = (S.2.1 : Int) ∧ I 30 8 = (if S.1 = true then 1 else 0) ∧ I 30 9 = (S.2.2.1 : Int) ∧ S.2.1 ≤ n ∧ (S.1 = true → S.2.2.1 ≤ 2 * S.2.1) ∧ n ≤ 120 ∧ (∀ k, k < n → I 34 k = tx k ∧ 1 ≤ tx k ∧ tx k ≤ 127) ∧ RTab I S.2.2.2 S.2.2.1
def RFr (I I' : Nat → Nat → Int) : Prop := ∀ o k, ¬ (35 ≤ o ∧ o ≤ 43) → ¬ (o = 30 ∧ (k = 7 ∨ k = 8 ∨ k = 9 ∨ k = 19 ∨ k = 20)) → I' o k = I o k
theorem RFr.rf {I : Nat → Nat → Int} : RFr I I := fun _ _ _ _ => rfl
theorem RFr.tr {I J K : Nat → Nat → Int} (h : RFr I J) (h2 : RFr J K) : RFr I K := fun o k a b => (h2 o k a b).trans (h o k a b)
theorem RFr.set {I J : Nat → Nat → Int} {o k : Nat} {v : Int} (h : RFr I J) (hk : (35 ≤ o ∧ o ≤ 43) ∨ (o = 30 ∧ (k = 7 ∨ k = 8 ∨ k = 9 ∨ k = 19 ∨ k = 20))) : RFr I (up2 J o k v) := fun o' k' a b => by
  have e : up2 J o k v o' k' = J o' k' := if_neg fun e => by
    obtain ⟨rfl, rfl⟩ := e
    exact hk.elim a b
  rw [e]
  exact h o' k' a b
def RFs (I I' : Nat → Nat → Int) : Prop := ∀ o k, ¬ (o = 30 ∧ (k = 7 ∨ k = 8)) → I' o k = I o k
theorem RFs.r {I I' : Nat → Nat → Int} (h : RFs I I') : RFr I I' := fun o k _ b => h o k (by omega)
theorem RFs.rf {I : Nat → Nat → Int} : RFs I I := fun _ _ _ => rfl
theorem RFs.set {I J : Nat → Nat → Int} {k : Nat} {v : Int} (h : RFs I J) (hk : k = 7 ∨ k = 8) : RFs I (up2 J 30 k v) := fun o' k' a => by
  have e : up2 J 30 k v o' k' = J o' k' := if_neg fun e => by
    obtain ⟨rfl, rfl⟩ := e
    exact a ⟨rfl, hk⟩
  rw [e]
  exact h o' k' a
theorem cS_eq {tx : Nat → Int} {n : Nat} {S : PS} : cS tx n S = if S.1 = true then chT tx n S.2.1 else -1 := rfl
theorem badAt_eq {S : PS} {q : Nat} : badAt S q = if S.1 = true then (false, q, S.2.2) else S := rfl
theorem RP.cS {I : Nat → Nat → Int} {tx : Nat → Int} {n : Nat} {S : PS} (h : RP I tx n S) : cS tx n S = (if I 30 8 = 1 ∧ I 30 7 < I 30 6 then I 34 (I 30 7).toNat else -1) ∧ 0 ≤ I 30 7 ∧ I 30 7 ≤ I 30 6 ∧ I 30 6 ≤ 120 ∧ (I 30 8 = 0 ∨ I 30 8 = 1) ∧ (I 30 7 < I 30 6 → 1 ≤ I 34 (I 30 7).toNat ∧ I 34 (I 30 7).toNat ≤ 127) ∧ (S.1 = true ↔ I 30 8 = 1) ∧ I 30 7 = (S.2.1 : Int) := by
  obtain ⟨h1, h2, h3, h4, h5, h6, h7, h8, h9⟩ := h
  have e : (I 30 7).toNat = S.2.1 := by omega
  refine ⟨?_, by omega, by omega, by omega, ?_, fun hl => ?_, ?_, h2⟩
  · rw [cS_eq]
    unfold chT
    rw [e]
    by_cases a : S.1 = true
    · rw [if_pos a] at h3
      rw [if_pos a]
      by_cases b : S.2.1 < n
      · rw [if_pos b, if_pos ⟨h3, by omega⟩]; exact (h8 _ b).1.symm
      · rw [if_neg b, if_neg (by omega)]
    · rw [if_neg a] at h3
      rw [if_neg a, if_neg (by omega)]
  · by_cases a : S.1 = true
    · rw [if_pos a] at h3; exact Or.inr h3
    · rw [if_neg a] at h3; exact Or.inl h3
  · rw [e, (h8 _ (by omega)).1]; exact (h8 _ (by omega)).2
  · by_cases a : S.1 = true
    · rw [if_pos a] at h3; exact ⟨fun _ => h3, fun _ => a⟩
    · rw [if_neg a] at h3; exact ⟨fun e => absurd e a, fun e => by omega⟩
theorem RP.adv {I : Nat → Nat → Int} {tx : Nat → Int} {n : Nat} {S : PS} {v : Int} (h : RP I tx n S) (hv : v = I 30 7 + 1) (hlt : I 30 7 < I 30 6) : RP (up2 I 30 7 v) tx n (advP S) := by
  obtain ⟨h1, h2, h3, h4, h5, h6, h7, h8, h9⟩ := h
  refine ⟨h1, ?_, h3, h4, ?_, fun e => ?_, h7, h8, h9⟩
  · show v = ((S.2.1 + 1 : Nat) : Int); omega
  · show S.2.1 + 1 ≤ n; omega
  · have := h6 e
    show S.2.2.1 ≤ 2 * (S.2.1 + 1); omega
theorem RP.bad {I : Nat → Nat → Int} {tx : Nat → Int} {n : Nat} {S : PS} (h : RP I tx n S) : RP (up2 I 30 8 0) tx n (badP S) := by
  obtain ⟨h1, h2, h3, h4, h5, h6, h7, h8, h9⟩ := h
  exact ⟨h1, h2, rfl, h4, h5, fun e => (by cases e), h7, h8, h9⟩
theorem RP.oth {I : Nat → Nat → Int} {tx : Nat → Int} {n : Nat} {S : PS} {k : Nat} {v : Int} (h : RP I tx n S) (hk : k = 19 ∨ k = 20) : RP (up2 I 30 k v) tx n S := by
  obtain ⟨h1, h2, h3, h4, h5, h6, h7, h8, h9⟩ := h
  rcases hk with rfl | rfl <;> exact ⟨h1, h2, h3, h4, h5, h6, h7, h8, h9⟩

set_option maxHeartbeats 4000000 in
theorem r_isAt (tx : Nat → Int) (n : Nat) (S : PS) (m : Mem) (c : Int)   (hL : Lay (mT m) (mR m)) (hP : RP (mI m) tx n S) (hc : c ≠ -1) : Ct μX11_isAt 0 [vr 30, vi c] m (ri fun x_ m' => (x_ = if cS tx n S = c then 1 else 0) ∧ m = m') := by
  refine Ct_of_V rfl (by decide) rfl (Nat.le_of_ble_eq_true rfl) ?_
  show V μX11_isAt 0 m _ 0 [(0, vr 30), (1, vi c)] [] m
  refine V_rg (k := 1) (x := c) rfl fun r_c => ?_
  obtain ⟨hs, ha0, ha1, ha2, hw, ht, hb, hi⟩ := RP.cS hP
  refine V_ld (pc := 0) dX11_isAt_0 (v := vr 30) rfl rfl ?_
  refine V_getIv (pc := 1) dX11_isAt_1 (v := mI m 30 8) fw_RX11_128 rfl hL.t30 rfl (fun g1 => ?_)
  refine V_if_eq (pc := 4) dX11_isAt_4 (tgt := 35) rfl (fun h4 => ?_) (fun h4 => ?_)
  · skip
    refine V_iconst (pc := 35) dX11_isAt_35 (by unfold I32; omega) ?_
    refine V_reti (pc := 36) dX11_isAt_36 (show _ = (0 : Int) ∨ _ = (1 : Int) from by first | exact Or.inl rfl | exact Or.inr rfl | omega) ?_
    exact ⟨by rw [hs]; omega, rfl⟩
  · skip
    refine V_ld (pc := 7) dX11_isAt_7 (v := vr 30) rfl rfl ?_
    refine V_getIv (pc := 8) dX11_isAt_8 (v := mI m 30 7) fw_RX11_125 rfl hL.t30 rfl (fun g8 => ?_)
    refine V_ld (pc := 11) dX11_isAt_11 (v := vr 30) rfl rfl ?_
    refine V_getIv (pc := 12) dX11_isAt_12 (v := mI m 30 6) fw_RX11_122 rfl hL.t30 rfl (fun g12 => ?_)
    refine V_icmp_ge (pc := 15) dX11_isAt_15 (tgt := 35) rfl (fun h15 => ?_) (fun h15 => ?_)
    · skip
      refine V_iconst (pc := 35) dX11_isAt_35 (by unfold I32; omega) ?_
      refine V_reti (pc := 36) dX11_isAt_36 (show _ = (0 : Int) ∨ _ = (1 : Int) from by first | exact Or.inl rfl | exact Or.inr rfl | omega) ?_
      exact ⟨by rw [hs]; omega, rfl⟩
    · skip
      refine V_ld (pc := 18) dX11_isAt_18 (v := vr 30) rfl rfl ?_
      refine V_getRv (pc := 19) dX11_isAt_19 (o' := 34) fw_RX11_21 rfl hL.t30 hL.r30_5 ?_
      refine V_ld (pc := 22) dX11_isAt_22 (v := vr 30) rfl rfl ?_
      refine V_getIv (pc := 23) dX11_isAt_23 (v := mI m 30 7) fw_RX11_125 rfl hL.t30 rfl (fun g23 => ?_)
      refine V_ialdv (pc := 26) dX11_isAt_26 (v := mI m 34 ((mI m 30 7).toNat)) hL.t34 (by omega) rfl (fun g26 => ?_)
      refine V_ld (pc := 27) dX11_isAt_27 (v := vi c) rfl rfl ?_
      refine V_icmp_ne (pc := 28) dX11_isAt_28 (tgt := 35) rfl (fun h28 => ?_) (fun h28 => ?_)
      · skip
        refine V_iconst (pc := 35) dX11_isAt_35 (by unfold I32; omega) ?_
        refine V_reti (pc := 36) dX11_isAt_36 (show _ = (0 : Int) ∨ _ = (1 : Int) from by first | exact Or.inl rfl | exact Or.inr rfl | omega) ?_
        exact ⟨by rw [hs]; omega, rfl⟩
      · skip
        refine V_iconst (pc := 31) dX11_isAt_31 (by unfold I32; omega) ?_
        refine V_goto (pc := 32) dX11_isAt_32 (tgt := 36) rfl ?_
        refine V_reti (pc := 36) dX11_isAt_36 (show _ = (0 : Int) ∨ _ = (1 : Int) from by first | exact Or.inl rfl | exact Or.inr rfl | omega) ?_
        exact ⟨by rw [hs]; omega, rfl⟩

set_option maxHeartbeats 4000000 in
theorem r_isAmong (tx : Nat → Int) (n : Nat) (S : PS) (m : Mem) (a : Int) (b : Int)   (hL : Lay (mT m) (mR m)) (hP : RP (mI m) tx n S) (hc : 0 ≤ a) : Ct μX11_isAmong 1 [vr 30, vi a, vi b] m (ri fun x_ m' => (x_ = if a ≤ cS tx n S ∧ cS tx n S ≤ b then 1 else 0) ∧ m = m') := by
  refine Ct_of_V rfl (by decide) rfl (Nat.le_of_ble_eq_true rfl) ?_
  show V μX11_isAmong 1 m _ 0 [(0, vr 30), (1, vi a), (2, vi b)] [] m
  refine V_rg (k := 1) (x := a) rfl fun r_a => ?_
  refine V_rg (k := 2) (x := b) rfl fun r_b => ?_
  obtain ⟨hs, ha0, ha1, ha2, hw, ht, hb, hi⟩ := RP.cS hP
  refine V_ld (pc := 0) dX11_isAmong_0 (v := vr 30) rfl rfl ?_
  refine V_getIv (pc := 1) dX11_isAmong_1 (v := mI m 30 8) fw_RX11_128 rfl hL.t30 rfl (fun g1 => ?_)
  refine V_if_eq (pc := 4) dX11_isAmong_4 (tgt := 42) rfl (fun h4 => ?_) (fun h4 => ?_)
  · skip
    refine V_iconst (pc := 42) dX11_isAmong_42 (by unfold I32; omega) ?_
    refine V_reti (pc := 43) dX11_isAmong_43 (show _ = (0 : Int) ∨ _ = (1 : Int) from by first | exact Or.inl rfl | exact Or.inr rfl | omega) ?_
    exact ⟨by rw [hs]; omega, rfl⟩
  · skip
    refine V_ld (pc := 7) dX11_isAmong_7 (v := vr 30) rfl rfl ?_
    refine V_getIv (pc := 8) dX11_isAmong_8 (v := mI m 30 7) fw_RX11_125 rfl hL.t30 rfl (fun g8 => ?_)
    refine V_ld (pc := 11) dX11_isAmong_11 (v := vr 30) rfl rfl ?_
    refine V_getIv (pc := 12) dX11_isAmong_12 (v := mI m 30 6) fw_RX11_122 rfl hL.t30 rfl (fun g12 => ?_)
    refine V_icmp_ge (pc := 15) dX11_isAmong_15 (tgt := 42) rfl (fun h15 => ?_) (fun h15 => ?_)
    · skip
      refine V_iconst (pc := 42) dX11_isAmong_42 (by unfold I32; omega) ?_
      refine V_reti (pc := 43) dX11_isAmong_43 (show _ = (0 : Int) ∨ _ = (1 : Int) from by first | exact Or.inl rfl | exact Or.inr rfl | omega) ?_
      exact ⟨by rw [hs]; omega, rfl⟩
    · skip
      refine V_ld (pc := 18) dX11_isAmong_18 (v := vr 30) rfl rfl ?_
      refine V_getRv (pc := 19) dX11_isAmong_19 (o' := 34) fw_RX11_21 rfl hL.t30 hL.r30_5 ?_
      refine V_ld (pc := 22) dX11_isAmong_22 (v := vr 30) rfl rfl ?_
      refine V_getIv (pc := 23) dX11_isAmong_23 (v := mI m 30 7) fw_RX11_125 rfl hL.t30 rfl (fun g23 => ?_)
      refine V_ialdv (pc := 26) dX11_isAmong_26 (v := mI m 34 ((mI m 30 7).toNat)) hL.t34 (by omega) rfl (fun g26 => ?_)
      refine V_i2l (pc := 27) dX11_isAmong_27 ?_
      refine V_ld (pc := 28) dX11_isAmong_28 (v := vi a) rfl rfl ?_
      refine V_i2l (pc := 29) dX11_isAmong_29 ?_
      refine V_ld (pc := 30) dX11_isAmong_30 (v := vi b) rfl rfl ?_
      refine V_i2l (pc := 31) dX11_isAmong_31 ?_
      refine V_callS (pc := 32) dX11_isAmong_32 (F' := 0) (As := [vl (mI m 34 ((mI m 30 7).toNat)), vl a, vl b]) (st := []) cw_RX11_101 rfl rfl (Nat.le_of_ble_eq_true rfl) (by omega) (r_isIn  m (mI m 34 ((mI m 30 7).toNat)) a b   ) ?_
      rintro _ _ ⟨x32, rfl, hx32, rfl⟩ ok32 le32
      refine V_if_eq (pc := 35) dX11_isAmong_35 (tgt := 42) rfl (fun h35 => ?_) (fun h35 => ?_)
      · skip
        refine V_iconst (pc := 42) dX11_isAmong_42 (by unfold I32; omega) ?_
        refine V_reti (pc := 43) dX11_isAmong_43 (show _ = (0 : Int) ∨ _ = (1 : Int) from by first | exact Or.inl rfl | exact Or.inr rfl | omega) ?_
        exact ⟨by rw [hs]; omega, rfl⟩
      · skip
        refine V_iconst (pc := 38) dX11_isAmong_38 (by unfold I32; omega) ?_
        refine V_goto (pc := 39) dX11_isAmong_39 (tgt := 43) rfl ?_
        refine V_reti (pc := 43) dX11_isAmong_43 (show _ = (0 : Int) ∨ _ = (1 : Int) from by first | exact Or.inl rfl | exact Or.inr rfl | omega) ?_
        exact ⟨by rw [hs]; omega, rfl⟩

set_option maxHeartbeats 4000000 in
theorem r_isAtom (tx : Nat → Int) (n : Nat) (S : PS) (m : Mem)    (hL : Lay (mT m) (mR m)) (hP : RP (mI m) tx n S) : Ct μX11_isAtom 1 [vr 30] m (ri fun x_ m' => (x_ = if isAt1 (cS tx n S) then 1 else 0) ∧ m = m') := by
  refine Ct_of_V rfl (by decide) rfl (Nat.le_of_ble_eq_true rfl) ?_
  show V μX11_isAtom 1 m _ 0 [(0, vr 30)] [] m
  obtain ⟨hs, ha0, ha1, ha2, hw, ht, hb, hi⟩ := RP.cS hP
  refine V_ld (pc := 0) dX11_isAtom_0 (v := vr 30) rfl rfl ?_
  refine V_getIv (pc := 1) dX11_isAtom_1 (v := mI m 30 8) fw_RX11_128 rfl hL.t30 rfl (fun g1 => ?_)
  refine V_if_eq (pc := 4) dX11_isAtom_4 (tgt := 100) rfl (fun h4 => ?_) (fun h4 => ?_)
  · skip
    refine V_iconst (pc := 100) dX11_isAtom_100 (by unfold I32; omega) ?_
    refine V_reti (pc := 101) dX11_isAtom_101 (show _ = (0 : Int) ∨ _ = (1 : Int) from by first | exact Or.inl rfl | exact Or.inr rfl | omega) ?_
    exact ⟨by unfold isAt1; rw [hs]; omega, rfl⟩
  · skip
    refine V_ld (pc := 7) dX11_isAtom_7 (v := vr 30) rfl rfl ?_
    refine V_getIv (pc := 8) dX11_isAtom_8 (v := mI m 30 7) fw_RX11_125 rfl hL.t30 rfl (fun g8 => ?_)
    refine V_ld (pc := 11) dX11_isAtom_11 (v := vr 30) rfl rfl ?_
    refine V_getIv (pc := 12) dX11_isAtom_12 (v := mI m 30 6) fw_RX11_122 rfl hL.t30 rfl (fun g12 => ?_)
    refine V_icmp_ge (pc := 15) dX11_isAtom_15 (tgt := 100) rfl (fun h15 => ?_) (fun h15 => ?_)
    · skip
      refine V_iconst (pc := 100) dX11_isAtom_100 (by unfold I32; omega) ?_
      refine V_reti (pc := 101) dX11_isAtom_101 (show _ = (0 : Int) ∨ _ = (1 : Int) from by first | exact Or.inl rfl | exact Or.inr rfl | omega) ?_
      exact ⟨by unfold isAt1; rw [hs]; omega, rfl⟩
    · skip
      refine V_ld (pc := 18) dX11_isAtom_18 (v := vr 30) rfl rfl ?_
      refine V_getRv (pc := 19) dX11_isAtom_19 (o' := 34) fw_RX11_21 rfl hL.t30 hL.r30_5 ?_
      refine V_ld (pc := 22) dX11_isAtom_22 (v := vr 30) rfl rfl ?_
      refine V_getIv (pc := 23) dX11_isAtom_23 (v := mI m 30 7) fw_RX11_125 rfl hL.t30 rfl (fun g23 => ?_)
      refine V_ialdv (pc := 26) dX11_isAtom_26 (v := mI m 34 ((mI m 30 7).toNat)) hL.t34 (by omega) rfl (fun g26 => ?_)
      refine V_i2l (pc := 27) dX11_isAtom_27 ?_
      refine V_ldc2 (pc := 28) dX11_isAtom_28 (x := 65) kl_RX11_178 (by unfold I64; omega) rfl ?_
      refine V_ldc2 (pc := 31) dX11_isAtom_31 (x := 90) kl_RX11_180 (by unfold I64; omega) rfl ?_
      refine V_callS (pc := 34) dX11_isAtom_34 (F' := 0) (As := [vl (mI m 34 ((mI m 30 7).toNat)), vl 65, vl 90]) (st := []) cw_RX11_101 rfl rfl (Nat.le_of_ble_eq_true rfl) (by omega) (r_isIn  m (mI m 34 ((mI m 30 7).toNat)) 65 90   ) ?_
      rintro _ _ ⟨x34, rfl, hx34, rfl⟩ ok34 le34
      refine V_if_ne (pc := 37) dX11_isAtom_37 (tgt := 96) rfl (fun h37 => ?_) (fun h37 => ?_)
      · skip
        refine V_iconst (pc := 96) dX11_isAtom_96 (by unfold I32; omega) ?_
        refine V_goto (pc := 97) dX11_isAtom_97 (tgt := 101) rfl ?_
        refine V_reti (pc := 101) dX11_isAtom_101 (show _ = (0 : Int) ∨ _ = (1 : Int) from by first | exact Or.inl rfl | exact Or.inr rfl | omega) ?_
        exact ⟨by unfold isAt1; rw [hs]; omega, rfl⟩
      · skip
        refine V_ld (pc := 40) dX11_isAtom_40 (v := vr 30) rfl rfl ?_
        refine V_getRv (pc := 41) dX11_isAtom_41 (o' := 34) fw_RX11_21 rfl hL.t30 hL.r30_5 ?_
        refine V_ld (pc := 44) dX11_isAtom_44 (v := vr 30) rfl rfl ?_
        refine V_getIv (pc := 45) dX11_isAtom_45 (v := mI m 30 7) fw_RX11_125 rfl hL.t30 rfl (fun g45 => ?_)
        refine V_ialdv (pc := 48) dX11_isAtom_48 (v := mI m 34 ((mI m 30 7).toNat)) hL.t34 (by omega) rfl (fun g48 => ?_)
        refine V_bipush (pc := 49) dX11_isAtom_49 (by unfold I32; omega) (by decide) ?_
        refine V_icmp_eq (pc := 51) dX11_isAtom_51 (tgt := 96) rfl (fun h51 => ?_) (fun h51 => ?_)
        · skip
          refine V_iconst (pc := 96) dX11_isAtom_96 (by unfold I32; omega) ?_
          refine V_goto (pc := 97) dX11_isAtom_97 (tgt := 101) rfl ?_
          refine V_reti (pc := 101) dX11_isAtom_101 (show _ = (0 : Int) ∨ _ = (1 : Int) from by first | exact Or.inl rfl | exact Or.inr rfl | omega) ?_
          exact ⟨by unfold isAt1; rw [hs]; omega, rfl⟩
        · skip
          refine V_ld (pc := 54) dX11_isAtom_54 (v := vr 30) rfl rfl ?_
          refine V_getRv (pc := 55) dX11_isAtom_55 (o' := 34) fw_RX11_21 rfl hL.t30 hL.r30_5 ?_
          refine V_ld (pc := 58) dX11_isAtom_58 (v := vr 30) rfl rfl ?_
          refine V_getIv (pc := 59) dX11_isAtom_59 (v := mI m 30 7) fw_RX11_125 rfl hL.t30 rfl (fun g59 => ?_)
          refine V_ialdv (pc := 62) dX11_isAtom_62 (v := mI m 34 ((mI m 30 7).toNat)) hL.t34 (by omega) rfl (fun g62 => ?_)
          refine V_bipush (pc := 63) dX11_isAtom_63 (by unfold I32; omega) (by decide) ?_
          refine V_icmp_eq (pc := 65) dX11_isAtom_65 (tgt := 96) rfl (fun h65 => ?_) (fun h65 => ?_)
          · skip
            refine V_iconst (pc := 96) dX11_isAtom_96 (by unfold I32; omega) ?_
            refine V_goto (pc := 97) dX11_isAtom_97 (tgt := 101) rfl ?_
            refine V_reti (pc := 101) dX11_isAtom_101 (show _ = (0 : Int) ∨ _ = (1 : Int) from by first | exact Or.inl rfl | exact Or.inr rfl | omega) ?_
            exact ⟨by unfold isAt1; rw [hs]; omega, rfl⟩
          · skip
            refine V_ld (pc := 68) dX11_isAtom_68 (v := vr 30) rfl rfl ?_
            refine V_getRv (pc := 69) dX11_isAtom_69 (o' := 34) fw_RX11_21 rfl hL.t30 hL.r30_5 ?_
            refine V_ld (pc := 72) dX11_isAtom_72 (v := vr 30) rfl rfl ?_
            refine V_getIv (pc := 73) dX11_isAtom_73 (v := mI m 30 7) fw_RX11_125 rfl hL.t30 rfl (fun g73 => ?_)
            refine V_ialdv (pc := 76) dX11_isAtom_76 (v := mI m 34 ((mI m 30 7).toNat)) hL.t34 (by omega) rfl (fun g76 => ?_)
            refine V_bipush (pc := 77) dX11_isAtom_77 (by unfold I32; omega) (by decide) ?_
            refine V_icmp_eq (pc := 79) dX11_isAtom_79 (tgt := 96) rfl (fun h79 => ?_) (fun h79 => ?_)
            · skip
              refine V_iconst (pc := 96) dX11_isAtom_96 (by unfold I32; omega) ?_
              refine V_goto (pc := 97) dX11_isAtom_97 (tgt := 101) rfl ?_
              refine V_reti (pc := 101) dX11_isAtom_101 (show _ = (0 : Int) ∨ _ = (1 : Int) from by first | exact Or.inl rfl | exact Or.inr rfl | omega) ?_
              exact ⟨by unfold isAt1; rw [hs]; omega, rfl⟩
            · skip
              refine V_ld (pc := 82) dX11_isAtom_82 (v := vr 30) rfl rfl ?_
              refine V_getRv (pc := 83) dX11_isAtom_83 (o' := 34) fw_RX11_21 rfl hL.t30 hL.r30_5 ?_
              refine V_ld (pc := 86) dX11_isAtom_86 (v := vr 30) rfl rfl ?_
              refine V_getIv (pc := 87) dX11_isAtom_87 (v := mI m 30 7) fw_RX11_125 rfl hL.t30 rfl (fun g87 => ?_)
              refine V_ialdv (pc := 90) dX11_isAtom_90 (v := mI m 34 ((mI m 30 7).toNat)) hL.t34 (by omega) rfl (fun g90 => ?_)
              refine V_bipush (pc := 91) dX11_isAtom_91 (by unfold I32; omega) (by decide) ?_
              refine V_icmp_ne (pc := 93) dX11_isAtom_93 (tgt := 100) rfl (fun h93 => ?_) (fun h93 => ?_)
              · skip
                refine V_iconst (pc := 100) dX11_isAtom_100 (by unfold I32; omega) ?_
                refine V_reti (pc := 101) dX11_isAtom_101 (show _ = (0 : Int) ∨ _ = (1 : Int) from by first | exact Or.inl rfl | exact Or.inr rfl | omega) ?_
                exact ⟨by unfold isAt1; rw [hs]; omega, rfl⟩
              · skip
                refine V_iconst (pc := 96) dX11_isAtom_96 (by unfold I32; omega) ?_
                refine V_goto (pc := 97) dX11_isAtom_97 (tgt := 101) rfl ?_
                refine V_reti (pc := 101) dX11_isAtom_101 (show _ = (0 : Int) ∨ _ = (1 : Int) from by first | exact Or.inl rfl | exact Or.inr rfl | omega) ?_
                exact ⟨by unfold isAt1; rw [hs]; omega, rfl⟩

set_option maxHeartbeats 4000000 in
theorem r_takes (tx : Nat → Int) (n : Nat) (S : PS) (m : Mem) (c : Int)   (hL : Lay (mT m) (mR m)) (hP : RP (mI m) tx n S) (hc : c ≠ -1) : Ct μX11_takes 1 [vr 30, vi c] m (rv fun m' => ∃ I_ : Nat → Nat → Int, wI m I_ = m' ∧ RP I_ tx n (takeP tx n S c) ∧ RFs (mI m) I_) := by
  refine Ct_of_V rfl (by decide) rfl (Nat.le_of_ble_eq_true rfl) ?_
  show V μX11_takes 1 m _ 0 [(0, vr 30), (1, vi c)] [] m
  refine V_rg (k := 1) (x := c) rfl fun r_c => ?_
  obtain ⟨hs, ha0, ha1, ha2, hw, ht, hb, hi⟩ := RP.cS hP
  refine V_ld (pc := 0) dX11_takes_0 (v := vr 30) rfl rfl ?_
  refine V_ld (pc := 1) dX11_takes_1 (v := vi c) rfl rfl ?_
  refine V_callV (pc := 2) dX11_takes_2 (F' := 0) (As := [vi c]) (st := []) cw_RX11_132 rfl rfl hL.t30 (by decide) (Nat.le_of_ble_eq_true rfl) (by omega) (r_isAt tx n S m c   (by first | assumption | omega) (by first | assumption | omega) (by first | assumption | omega)) ?_
  rintro _ _ ⟨x2, rfl, hx2, rfl⟩ ok2 le2
  refine V_if_eq (pc := 5) dX11_takes_5 (tgt := 21) rfl (fun h5 => ?_) (fun h5 => ?_)
  · skip
    refine V_ld (pc := 21) dX11_takes_21 (v := vr 30) rfl rfl ?_
    refine V_iconst (pc := 22) dX11_takes_22 (by unfold I32; omega) ?_
    refine V_putI (pc := 23) dX11_takes_23 fw_RX11_128 rfl hL.t30 (Or.inl rfl) (Or.inr ⟨rfl, by first | exact Or.inl rfl | exact Or.inr rfl | omega⟩) ?_
    refine V_retv (pc := 26) dX11_takes_26 trivial ?_
    refine ⟨mI (setI m 30 8 0), rfl, ?_, ?_⟩
    unfold takeP
    first
      | (rw [if_pos (by omega)]; exact RP.adv hP (by omega) (by omega))
      | (rw [if_neg (by omega)]; exact RP.bad hP)
    exact RFs.set RFs.rf (by omega)
  · skip
    refine V_ld (pc := 8) dX11_takes_8 (v := vr 30) rfl rfl ?_
    refine V_dup (pc := 9) dX11_takes_9 rfl ?_
    refine V_getIv (pc := 10) dX11_takes_10 (v := mI m 30 7) fw_RX11_125 rfl hL.t30 rfl (fun g10 => ?_)
    refine V_iconst (pc := 13) dX11_takes_13 (by unfold I32; omega) ?_
    refine V_iadd (pc := 14) dX11_takes_14 (by unfold I32 at *; omega) ?_
    refine V_putI (pc := 15) dX11_takes_15 fw_RX11_125 rfl hL.t30 (Or.inl rfl) (Or.inl rfl) ?_
    refine V_goto (pc := 18) dX11_takes_18 (tgt := 26) rfl ?_
    refine V_retv (pc := 26) dX11_takes_26 trivial ?_
    refine ⟨mI (setI m 30 7 ((mI m 30 7) + 1)), rfl, ?_, ?_⟩
    unfold takeP
    first
      | (rw [if_pos (by omega)]; exact RP.adv hP (by omega) (by omega))
      | (rw [if_neg (by omega)]; exact RP.bad hP)
    exact RFs.set RFs.rf (by omega)

theorem RP.bad' {I : Nat → Nat → Int} {tx : Nat → Int} {n : Nat} {S : PS} (h : RP I tx n S) (h0 : I 30 8 = 0) : RP I tx n (badP S) := by
  have e : S.1 = false := by
    have := (RP.cS h).2.2.2.2.2.2.1
    cases hS : S.1 with
    | false => rfl
    | true => have := this.mp hS; omega
  rw [bad_dead e]; exact h
theorem RP.badAt {I : Nat → Nat → Int} {tx : Nat → Int} {n : Nat} {S : PS} {q : Nat} (h : RP I tx n S) (hq : q ≤ n) : RP (up2 (up2 I 30 7 (if I 30 8 = 1 then (q : Int) else I 30 7)) 30 8 0) tx n (badAt S q) := by
  have hw := (RP.cS h).2.2.2.2.2.2.1
  obtain ⟨h1, h2, h3, h4, h5, h6, h7, h8, h9⟩ := h
  rw [badAt_eq]
  by_cases a : S.1 = true
  · rw [if_pos a, if_pos (hw.mp a)]
    exact ⟨h1, rfl, rfl, h4, hq, fun e => (by cases e), h7, h8, h9⟩
  · rw [if_neg a, if_neg (fun e => a (hw.mpr e))]
    exact ⟨h1, h2, by rw [if_neg a]; rfl, h4, h5, h6, h7, h8, h9⟩
theorem num0 {tx : Nat → Int} {n : Nat} {S : PS} (h : ¬ isDg (cS tx n S)) : numP tx n S = (0, badP S) := if_neg h
theorem num1 {tx : Nat → Int} {n : Nat} {S : PS} (h : isDg (cS tx n S)) (h2 : ¬ isDg (cS tx n (advP S))) : numP tx n S = (cS tx n S - 48, advP S) := (if_pos h).trans (if_neg h2)
theorem num2 {tx : Nat → Int} {n : Nat} {S : PS} (h : isDg (cS tx n S)) (h2 : isDg (cS tx n (advP S))) : numP tx n S = (10 * (cS tx n S - 48) + (cS tx n (advP S) - 48), advP (advP S)) := (if_pos h).trans (if_pos h2)

set_option maxHeartbeats 4000000 in
theorem r_fails (tx : Nat → Int) (n : Nat) (S : PS) (m : Mem) (p : Int)   (hL : Lay (mT m) (mR m)) (hP : RP (mI m) tx n S) (hp : 0 ≤ p ∧ p ≤ n) : Ct μX11_fails 0 [vr 30, vi p] m (rv fun m' => ∃ I_ : Nat → Nat → Int, wI m I_ = m' ∧ RP I_ tx n (badAt S p.toNat) ∧ RFs (mI m) I_) := by
  refine Ct_of_V rfl (by decide) rfl (Nat.le_of_ble_eq_true rfl) ?_
  show V μX11_fails 0 m _ 0 [(0, vr 30), (1, vi p)] [] m
  refine V_rg (k := 1) (x := p) rfl fun r_p => ?_
  obtain ⟨hs, ha0, ha1, ha2, hw, ht, hb, hi⟩ := RP.cS hP
  have hq := RP.badAt (q := p.toNat) hP (by omega)
  refine V_ld (pc := 0) dX11_fails_0 (v := vr 30) rfl rfl ?_
  refine V_ld (pc := 1) dX11_fails_1 (v := vr 30) rfl rfl ?_
  refine V_getIv (pc := 2) dX11_fails_2 (v := mI m 30 8) fw_RX11_128 rfl hL.t30 rfl (fun g2 => ?_)
  refine V_if_eq (pc := 5) dX11_fails_5 (tgt := 12) rfl (fun h5 => ?_) (fun h5 => ?_)
  · skip
    refine V_ld (pc := 12) dX11_fails_12 (v := vr 30) rfl rfl ?_
    refine V_getIv (pc := 13) dX11_fails_13 (v := mI m 30 7) fw_RX11_125 rfl hL.t30 rfl (fun g13 => ?_)
    refine V_putI (pc := 16) dX11_fails_16 fw_RX11_125 rfl hL.t30 (Or.inl rfl) (Or.inl rfl) ?_
    refine V_ld (pc := 19) dX11_fails_19 (v := vr 30) rfl rfl ?_
    refine V_iconst (pc := 20) dX11_fails_20 (by unfold I32; omega) ?_
    refine V_putI (pc := 21) dX11_fails_21 fw_RX11_128 rfl hL.t30 (Or.inl rfl) (Or.inr ⟨rfl, by first | exact Or.inl rfl | exact Or.inr rfl | omega⟩) ?_
    refine V_retv (pc := 24) dX11_fails_24 trivial ?_
    refine ⟨mI (setI (setI m 30 7 (mI m 30 7)) 30 8 0), rfl, ?_, RFs.set (RFs.set RFs.rf (by omega)) (by omega)⟩
    first
      | (rw [if_pos (by omega), Int.toNat_of_nonneg (by omega)] at hq; exact hq)
      | (rw [if_neg (by omega)] at hq; exact hq)
  · skip
    refine V_ld (pc := 8) dX11_fails_8 (v := vi p) rfl rfl ?_
    refine V_goto (pc := 9) dX11_fails_9 (tgt := 16) rfl ?_
    refine V_putI (pc := 16) dX11_fails_16 fw_RX11_125 rfl hL.t30 (Or.inl rfl) (Or.inl rfl) ?_
    refine V_ld (pc := 19) dX11_fails_19 (v := vr 30) rfl rfl ?_
    refine V_iconst (pc := 20) dX11_fails_20 (by unfold I32; omega) ?_
    refine V_putI (pc := 21) dX11_fails_21 fw_RX11_128 rfl hL.t30 (Or.inl rfl) (Or.inr ⟨rfl, by first | exact Or.inl rfl | exact Or.inr rfl | omega⟩) ?_
    refine V_retv (pc := 24) dX11_fails_24 trivial ?_
    refine ⟨mI (setI (setI m 30 7 p) 30 8 0), rfl, ?_, RFs.set (RFs.set RFs.rf (by omega)) (by omega)⟩
    first
      | (rw [if_pos (by omega), Int.toNat_of_nonneg (by omega)] at hq; exact hq)
      | (rw [if_neg (by omega)] at hq; exact hq)

set_option maxHeartbeats 4000000 in
theorem r_number (tx : Nat → Int) (n : Nat) (S : PS) (m : Mem) (f : Int)   (hL : Lay (mT m) (mR m)) (hP : RP (mI m) tx n S) (hf : f = 2) : Ct μX11_number 2 [vr 30, vi f] m (ri fun x_ m' => ∃ I_ : Nat → Nat → Int, wI m I_ = m' ∧ (x_ = (numP tx n S).1) ∧ RP I_ tx n ((numP tx n S).2) ∧ RFs (mI m) I_) := by
  refine Ct_of_V rfl (by decide) rfl (Nat.le_of_ble_eq_true rfl) ?_
  show V μX11_number 2 m _ 0 [(0, vr 30), (1, vi f)] [] m
  refine V_rg (k := 1) (x := f) rfl fun r_f => ?_
  obtain ⟨hs, ha0, ha1, ha2, hw, ht, hb, hi⟩ := RP.cS hP
  refine V_ld (pc := 0) dX11_number_0 (v := vr 30) rfl rfl ?_
  refine V_getIv (pc := 1) dX11_number_1 (v := mI m 30 7) fw_RX11_125 rfl hL.t30 rfl (fun g1 => ?_)
  refine V_st (pc := 4) dX11_number_4 (ls' := [(2, vi (mI m 30 7)), (0, vr 30), (1, vi f)]) rfl (Nat.le_of_ble_eq_true rfl) rfl ?_
  refine V_iconst (pc := 5) dX11_number_5 (by unfold I32; omega) ?_
  refine V_st (pc := 6) dX11_number_6 (ls' := [(3, vi 0), (2, vi (mI m 30 7)), (0, vr 30), (1, vi f)]) rfl (Nat.le_of_ble_eq_true rfl) rfl ?_
  skip
  refine V_ld (pc := 7) dX11_number_7 (v := vr 30) rfl rfl ?_
  refine V_getIv (pc := 8) dX11_number_8 (v := mI m 30 7) fw_RX11_125 rfl hL.t30 rfl (fun g8 => ?_)
  refine V_ld (pc := 11) dX11_number_11 (v := vi (mI m 30 7)) rfl rfl ?_
  refine V_isub (pc := 12) dX11_number_12 (by unfold I32 at *; omega) ?_
  refine V_ld (pc := 13) dX11_number_13 (v := vi f) rfl rfl ?_
  refine V_icmp_ge (pc := 14) dX11_number_14 (tgt := 59) rfl (fun h14 => ?_) (fun h14 => ?_)
  · skip
    refine V_ld (pc := 59) dX11_number_59 (v := vr 30) rfl rfl ?_
    refine V_getIv (pc := 60) dX11_number_60 (v := mI m 30 8) fw_RX11_128 rfl hL.t30 rfl (fun g60 => ?_)
    refine V_if_eq (pc := 63) dX11_number_63 (tgt := 79) rfl (fun h63 => ?_) (fun h63 => ?_)
    · skip
      refine V_ld (pc := 79) dX11_number_79 (v := vi 0) rfl rfl ?_
      refine V_reti (pc := 80) dX11_number_80 trivial ?_
      have e_ := num0 (tx := tx) (n := n) (S := S) (by unfold isDg; omega)
      first
        | (exfalso; omega)
        | (refine ⟨mI m, rfl, by rw [e_], ?_, ?_⟩
           · rw [e_]; first | exact RP.bad hP | exact RP.bad' hP (by omega)
           · first | exact RFs.rf | exact RFs.set RFs.rf (by omega))
    · skip
      refine V_ld (pc := 66) dX11_number_66 (v := vr 30) rfl rfl ?_
      refine V_getIv (pc := 67) dX11_number_67 (v := mI m 30 7) fw_RX11_125 rfl hL.t30 rfl (fun g67 => ?_)
      refine V_ld (pc := 70) dX11_number_70 (v := vi (mI m 30 7)) rfl rfl ?_
      refine V_icmp_ne (pc := 71) dX11_number_71 (tgt := 79) rfl (fun h71 => ?_) (fun h71 => ?_)
      · skip
        refine V_ld (pc := 79) dX11_number_79 (v := vi 0) rfl rfl ?_
        refine V_reti (pc := 80) dX11_number_80 trivial ?_
        have e_ := num0 (tx := tx) (n := n) (S := S) (by unfold isDg; omega)
        first
          | (exfalso; omega)
          | (refine ⟨mI m, rfl, by rw [e_], ?_, ?_⟩
             · rw [e_]; first | exact RP.bad hP | exact RP.bad' hP (by omega)
             · first | exact RFs.rf | exact RFs.set RFs.rf (by omega))
      · skip
        refine V_ld (pc := 74) dX11_number_74 (v := vr 30) rfl rfl ?_
        refine V_iconst (pc := 75) dX11_number_75 (by unfold I32; omega) ?_
        refine V_putI (pc := 76) dX11_number_76 fw_RX11_128 rfl hL.t30 (Or.inl rfl) (Or.inr ⟨rfl, by first | exact Or.inl rfl | exact Or.inr rfl | omega⟩) ?_
        refine V_ld (pc := 79) dX11_number_79 (v := vi 0) rfl rfl ?_
        refine V_reti (pc := 80) dX11_number_80 trivial ?_
        have e_ := num0 (tx := tx) (n := n) (S := S) (by unfold isDg; omega)
        first
          | (exfalso; omega)
          | (refine ⟨mI (setI m 30 8 0), rfl, by rw [e_], ?_, ?_⟩
             · rw [e_]; first | exact RP.bad hP | exact RP.bad' hP (by omega)
             · first | exact RFs.rf | exact RFs.set RFs.rf (by omega))
  · skip
    skip
    refine V_ld (pc := 17) dX11_number_17 (v := vr 30) rfl rfl ?_
    refine V_bipush (pc := 18) dX11_number_18 (by unfold I32; omega) (by decide) ?_
    refine V_bipush (pc := 20) dX11_number_20 (by unfold I32; omega) (by decide) ?_
    refine V_callV (pc := 22) dX11_number_22 (F' := 1) (As := [vi 48, vi 57]) (st := []) cw_RX11_135 rfl rfl hL.t30 (by decide) (Nat.le_of_ble_eq_true rfl) (by omega) (r_isAmong tx n S m 48 57   (by first | assumption | omega) hP (by first | assumption | omega)) ?_
    rintro _ _ ⟨x221, rfl, hx221, rfl⟩ ok22 le22
    refine V_if_eq (pc := 25) dX11_number_25 (tgt := 59) rfl (fun h25 => ?_) (fun h25 => ?_)
    · skip
      refine V_ld (pc := 59) dX11_number_59 (v := vr 30) rfl rfl ?_
      refine V_getIv (pc := 60) dX11_number_60 (v := mI m 30 8) fw_RX11_128 rfl hL.t30 rfl (fun g60 => ?_)
      refine V_if_eq (pc := 63) dX11_number_63 (tgt := 79) rfl (fun h63 => ?_) (fun h63 => ?_)
      · skip
        refine V_ld (pc := 79) dX11_number_79 (v := vi 0) rfl rfl ?_
        refine V_reti (pc := 80) dX11_number_80 trivial ?_
        have e_ := num0 (tx := tx) (n := n) (S := S) (by unfold isDg; omega)
        first
          | (exfalso; omega)
          | (refine ⟨mI m, rfl, by rw [e_], ?_, ?_⟩
             · rw [e_]; first | exact RP.bad hP | exact RP.bad' hP (by omega)
             · first | exact RFs.rf | exact RFs.set RFs.rf (by omega))
      · skip
        refine V_ld (pc := 66) dX11_number_66 (v := vr 30) rfl rfl ?_
        refine V_getIv (pc := 67) dX11_number_67 (v := mI m 30 7) fw_RX11_125 rfl hL.t30 rfl (fun g67 => ?_)
        refine V_ld (pc := 70) dX11_number_70 (v := vi (mI m 30 7)) rfl rfl ?_
        refine V_icmp_ne (pc := 71) dX11_number_71 (tgt := 79) rfl (fun h71 => ?_) (fun h71 => ?_)
        · skip
          refine V_ld (pc := 79) dX11_number_79 (v := vi 0) rfl rfl ?_
          refine V_reti (pc := 80) dX11_number_80 trivial ?_
          have e_ := num0 (tx := tx) (n := n) (S := S) (by unfold isDg; omega)
          first
            | (exfalso; omega)
            | (refine ⟨mI m, rfl, by rw [e_], ?_, ?_⟩
               · rw [e_]; first | exact RP.bad hP | exact RP.bad' hP (by omega)
               · first | exact RFs.rf | exact RFs.set RFs.rf (by omega))
        · skip
          refine V_ld (pc := 74) dX11_number_74 (v := vr 30) rfl rfl ?_
          refine V_iconst (pc := 75) dX11_number_75 (by unfold I32; omega) ?_
          refine V_putI (pc := 76) dX11_number_76 fw_RX11_128 rfl hL.t30 (Or.inl rfl) (Or.inr ⟨rfl, by first | exact Or.inl rfl | exact Or.inr rfl | omega⟩) ?_
          refine V_ld (pc := 79) dX11_number_79 (v := vi 0) rfl rfl ?_
          refine V_reti (pc := 80) dX11_number_80 trivial ?_
          have e_ := num0 (tx := tx) (n := n) (S := S) (by unfold isDg; omega)
          first
            | (exfalso; omega)
            | (refine ⟨mI (setI m 30 8 0), rfl, by rw [e_], ?_, ?_⟩
               · rw [e_]; first | exact RP.bad hP | exact RP.bad' hP (by omega)
               · first | exact RFs.rf | exact RFs.set RFs.rf (by omega))
    · skip
      refine V_bipush (pc := 28) dX11_number_28 (by unfold I32; omega) (by decide) ?_
      refine V_ld (pc := 30) dX11_number_30 (v := vi 0) rfl rfl ?_
      refine V_imul (pc := 31) dX11_number_31 (by unfold I32 at *; omega) ?_
      refine V_ld (pc := 32) dX11_number_32 (v := vr 30) rfl rfl ?_
      refine V_getRv (pc := 33) dX11_number_33 (o' := 34) fw_RX11_21 rfl hL.t30 hL.r30_5 ?_
      refine V_ld (pc := 36) dX11_number_36 (v := vr 30) rfl rfl ?_
      refine V_getIv (pc := 37) dX11_number_37 (v := mI m 30 7) fw_RX11_125 rfl hL.t30 rfl (fun g37 => ?_)
      refine V_ialdv (pc := 40) dX11_number_40 (v := mI m 34 ((mI m 30 7).toNat)) hL.t34 (by omega) rfl (fun g40 => ?_)
      refine V_iadd (pc := 41) dX11_number_41 (by unfold I32 at *; omega) ?_
      refine V_bipush (pc := 42) dX11_number_42 (by unfold I32; omega) (by decide) ?_
      refine V_isub (pc := 44) dX11_number_44 (by unfold I32 at *; omega) ?_
      refine V_st (pc := 45) dX11_number_45 (ls' := [(3, vi (((10 * 0) + (mI m 34 ((mI m 30 7).toNat))) - 48)), (2, vi (mI m 30 7)), (0, vr 30), (1, vi f)]) rfl (Nat.le_of_ble_eq_true rfl) rfl ?_
      refine V_ld (pc := 46) dX11_number_46 (v := vr 30) rfl rfl ?_
      refine V_dup (pc := 47) dX11_number_47 rfl ?_
      refine V_getIv (pc := 48) dX11_number_48 (v := mI m 30 7) fw_RX11_125 rfl hL.t30 rfl (fun g48 => ?_)
      refine V_iconst (pc := 51) dX11_number_51 (by unfold I32; omega) ?_
      refine V_iadd (pc := 52) dX11_number_52 (by unfold I32 at *; omega) ?_
      refine V_putI (pc := 53) dX11_number_53 fw_RX11_125 rfl hL.t30 (Or.inl rfl) (Or.inl rfl) ?_
      refine V_goto (pc := 56) dX11_number_56 (tgt := 7) rfl ?_
      have hP1 : RP (mI (setI m 30 7 ((mI m 30 7) + 1))) tx n (advP S) := RP.adv hP rfl (show mI m 30 7 < mI m 30 6 from by omega)
      have hs1 : cS tx n (advP S) = if mI m 30 8 = 1 ∧ (mI m 30 7) + 1 < mI m 30 6 then mI m 34 ((mI m 30 7) + 1).toNat else -1 := (RP.cS hP1).1
      have ht1 : (mI m 30 7) + 1 < mI m 30 6 → 1 ≤ mI m 34 ((mI m 30 7) + 1).toNat ∧ mI m 34 ((mI m 30 7) + 1).toNat ≤ 127 := (RP.cS hP1).2.2.2.2.2.1
      have hl1 : (mI m 30 7) + 1 ≤ mI m 30 6 := (RP.cS hP1).2.2.1
      refine V_ld (pc := 7) dX11_number_7 (v := vr 30) rfl rfl ?_
      refine V_getIv (pc := 8) dX11_number_8 (v := (mI m 30 7) + 1) fw_RX11_125 rfl hL.t30 (by first | rfl | (simp only [mI_setI, up2]; repeat (first | rfl | rw [if_neg (by omega)] | rw [if_pos (by omega)]))) (fun g8 => ?_)
      refine V_ld (pc := 11) dX11_number_11 (v := vi (mI m 30 7)) rfl rfl ?_
      refine V_isub (pc := 12) dX11_number_12 (by unfold I32 at *; omega) ?_
      refine V_ld (pc := 13) dX11_number_13 (v := vi f) rfl rfl ?_
      refine V_icmp_ge (pc := 14) dX11_number_14 (tgt := 59) rfl (fun h14 => ?_) (fun h14 => ?_)
      · skip
        refine V_ld (pc := 59) dX11_number_59 (v := vr 30) rfl rfl ?_
        refine V_getIv (pc := 60) dX11_number_60 (v := mI m 30 8) fw_RX11_128 rfl hL.t30 (by first | rfl | (simp only [mI_setI, up2]; repeat (first | rfl | rw [if_neg (by omega)] | rw [if_pos (by omega)]))) (fun g60 => ?_)
        refine V_if_eq (pc := 63) dX11_number_63 (tgt := 79) rfl (fun h63 => ?_) (fun h63 => ?_)
        · skip
          refine V_ld (pc := 79) dX11_number_79 (v := vi (((10 * 0) + (mI m 34 ((mI m 30 7).toNat))) - 48)) rfl rfl ?_
          refine V_reti (pc := 80) dX11_number_80 trivial ?_
          first
            | (exfalso; omega)
            | (have e_ := num1 (tx := tx) (n := n) (S := S) (by unfold isDg; omega) (by unfold isDg; omega)
               refine ⟨mI (setI m 30 7 ((mI m 30 7) + 1)), rfl, by rw [e_]; show _ = cS tx n S - 48; omega, ?_, ?_⟩
               · rw [e_]; exact hP1
               · exact RFs.set RFs.rf (by omega))
        · skip
          refine V_ld (pc := 66) dX11_number_66 (v := vr 30) rfl rfl ?_
          refine V_getIv (pc := 67) dX11_number_67 (v := (mI m 30 7) + 1) fw_RX11_125 rfl hL.t30 (by first | rfl | (simp only [mI_setI, up2]; repeat (first | rfl | rw [if_neg (by omega)] | rw [if_pos (by omega)]))) (fun g67 => ?_)
          refine V_ld (pc := 70) dX11_number_70 (v := vi (mI m 30 7)) rfl rfl ?_
          refine V_icmp_ne (pc := 71) dX11_number_71 (tgt := 79) rfl (fun h71 => ?_) (fun h71 => ?_)
          · skip
            refine V_ld (pc := 79) dX11_number_79 (v := vi (((10 * 0) + (mI m 34 ((mI m 30 7).toNat))) - 48)) rfl rfl ?_
            refine V_reti (pc := 80) dX11_number_80 trivial ?_
            first
              | (exfalso; omega)
              | (have e_ := num1 (tx := tx) (n := n) (S := S) (by unfold isDg; omega) (by unfold isDg; omega)
                 refine ⟨mI (setI m 30 7 ((mI m 30 7) + 1)), rfl, by rw [e_]; show _ = cS tx n S - 48; omega, ?_, ?_⟩
                 · rw [e_]; exact hP1
                 · exact RFs.set RFs.rf (by omega))
          · skip
            refine V_ld (pc := 74) dX11_number_74 (v := vr 30) rfl rfl ?_
            refine V_iconst (pc := 75) dX11_number_75 (by unfold I32; omega) ?_
            refine V_putI (pc := 76) dX11_number_76 fw_RX11_128 rfl hL.t30 (Or.inl rfl) (Or.inr ⟨rfl, by first | exact Or.inl rfl | exact Or.inr rfl | omega⟩) ?_
            refine V_ld (pc := 79) dX11_number_79 (v := vi (((10 * 0) + (mI m 34 ((mI m 30 7).toNat))) - 48)) rfl rfl ?_
            refine V_reti (pc := 80) dX11_number_80 trivial ?_
            first
              | (exfalso; omega)
              | (have e_ := num1 (tx := tx) (n := n) (S := S) (by unfold isDg; omega) (by unfold isDg; omega)
                 refine ⟨mI (setI (setI m 30 7 ((mI m 30 7) + 1)) 30 8 0), rfl, by rw [e_]; show _ = cS tx n S - 48; omega, ?_, ?_⟩
                 · rw [e_]; exact hP1
                 · exact RFs.set RFs.rf (by omega))
      · skip
        skip
        refine V_ld (pc := 17) dX11_number_17 (v := vr 30) rfl rfl ?_
        refine V_bipush (pc := 18) dX11_number_18 (by unfold I32; omega) (by decide) ?_
        refine V_bipush (pc := 20) dX11_number_20 (by unfold I32; omega) (by decide) ?_
        refine V_callV (pc := 22) dX11_number_22 (F' := 1) (As := [vi 48, vi 57]) (st := []) cw_RX11_135 rfl rfl hL.t30 (by decide) (Nat.le_of_ble_eq_true rfl) (by omega) (r_isAmong tx n (advP S) (setI m 30 7 ((mI m 30 7) + 1)) 48 57   (by first | assumption | omega) hP1 (by first | assumption | omega)) ?_
        rintro _ _ ⟨x222, rfl, hx222, rfl⟩ ok22 le22
        refine V_if_eq (pc := 25) dX11_number_25 (tgt := 59) rfl (fun h25 => ?_) (fun h25 => ?_)
        · skip
          refine V_ld (pc := 59) dX11_number_59 (v := vr 30) rfl rfl ?_
          refine V_getIv (pc := 60) dX11_number_60 (v := mI m 30 8) fw_RX11_128 rfl hL.t30 (by first | rfl | (simp only [mI_setI, up2]; repeat (first | rfl | rw [if_neg (by omega)] | rw [if_pos (by omega)]))) (fun g60 => ?_)
          refine V_if_eq (pc := 63) dX11_number_63 (tgt := 79) rfl (fun h63 => ?_) (fun h63 => ?_)
          · skip
            refine V_ld (pc := 79) dX11_number_79 (v := vi (((10 * 0) + (mI m 34 ((mI m 30 7).toNat))) - 48)) rfl rfl ?_
            refine V_reti (pc := 80) dX11_number_80 trivial ?_
            first
              | (exfalso; omega)
              | (have e_ := num1 (tx := tx) (n := n) (S := S) (by unfold isDg; omega) (by unfold isDg; omega)
                 refine ⟨mI (setI m 30 7 ((mI m 30 7) + 1)), rfl, by rw [e_]; show _ = cS tx n S - 48; omega, ?_, ?_⟩
                 · rw [e_]; exact hP1
                 · exact RFs.set RFs.rf (by omega))
          · skip
            refine V_ld (pc := 66) dX11_number_66 (v := vr 30) rfl rfl ?_
            refine V_getIv (pc := 67) dX11_number_67 (v := (mI m 30 7) + 1) fw_RX11_125 rfl hL.t30 (by first | rfl | (simp only [mI_setI, up2]; repeat (first | rfl | rw [if_neg (by omega)] | rw [if_pos (by omega)]))) (fun g67 => ?_)
            refine V_ld (pc := 70) dX11_number_70 (v := vi (mI m 30 7)) rfl rfl ?_
            refine V_icmp_ne (pc := 71) dX11_number_71 (tgt := 79) rfl (fun h71 => ?_) (fun h71 => ?_)
            · skip
              refine V_ld (pc := 79) dX11_number_79 (v := vi (((10 * 0) + (mI m 34 ((mI m 30 7).toNat))) - 48)) rfl rfl ?_
              refine V_reti (pc := 80) dX11_number_80 trivial ?_
              first
                | (exfalso; omega)
                | (have e_ := num1 (tx := tx) (n := n) (S := S) (by unfold isDg; omega) (by unfold isDg; omega)
                   refine ⟨mI (setI m 30 7 ((mI m 30 7) + 1)), rfl, by rw [e_]; show _ = cS tx n S - 48; omega, ?_, ?_⟩
                   · rw [e_]; exact hP1
                   · exact RFs.set RFs.rf (by omega))
            · skip
              refine V_ld (pc := 74) dX11_number_74 (v := vr 30) rfl rfl ?_
              refine V_iconst (pc := 75) dX11_number_75 (by unfold I32; omega) ?_
              refine V_putI (pc := 76) dX11_number_76 fw_RX11_128 rfl hL.t30 (Or.inl rfl) (Or.inr ⟨rfl, by first | exact Or.inl rfl | exact Or.inr rfl | omega⟩) ?_
              refine V_ld (pc := 79) dX11_number_79 (v := vi (((10 * 0) + (mI m 34 ((mI m 30 7).toNat))) - 48)) rfl rfl ?_
              refine V_reti (pc := 80) dX11_number_80 trivial ?_
              first
                | (exfalso; omega)
                | (have e_ := num1 (tx := tx) (n := n) (S := S) (by unfold isDg; omega) (by unfold isDg; omega)
                   refine ⟨mI (setI (setI m 30 7 ((mI m 30 7) + 1)) 30 8 0), rfl, by rw [e_]; show _ = cS tx n S - 48; omega, ?_, ?_⟩
                   · rw [e_]; exact hP1
                   · exact RFs.set RFs.rf (by omega))
        · skip
          refine V_bipush (pc := 28) dX11_number_28 (by unfold I32; omega) (by decide) ?_
          refine V_ld (pc := 30) dX11_number_30 (v := vi (((10 * 0) + (mI m 34 ((mI m 30 7).toNat))) - 48)) rfl rfl ?_
          refine V_imul (pc := 31) dX11_number_31 (by unfold I32 at *; omega) ?_
          refine V_ld (pc := 32) dX11_number_32 (v := vr 30) rfl rfl ?_
          refine V_getRv (pc := 33) dX11_number_33 (o' := 34) fw_RX11_21 rfl hL.t30 hL.r30_5 ?_
          refine V_ld (pc := 36) dX11_number_36 (v := vr 30) rfl rfl ?_
          refine V_getIv (pc := 37) dX11_number_37 (v := (mI m 30 7) + 1) fw_RX11_125 rfl hL.t30 (by first | rfl | (simp only [mI_setI, up2]; repeat (first | rfl | rw [if_neg (by omega)] | rw [if_pos (by omega)]))) (fun g37 => ?_)
          refine V_ialdv (pc := 40) dX11_number_40 (v := mI m 34 (((mI m 30 7) + 1).toNat)) hL.t34 (by omega) (by first | rfl | (simp only [mI_setI, up2]; repeat (first | rfl | rw [if_neg (by omega)] | rw [if_pos (by omega)]))) (fun g40 => ?_)
          refine V_iadd (pc := 41) dX11_number_41 (by unfold I32 at *; omega) ?_
          refine V_bipush (pc := 42) dX11_number_42 (by unfold I32; omega) (by decide) ?_
          refine V_isub (pc := 44) dX11_number_44 (by unfold I32 at *; omega) ?_
          refine V_st (pc := 45) dX11_number_45 (ls' := [(3, vi (((10 * (((10 * 0) + (mI m 34 ((mI m 30 7).toNat))) - 48)) + (mI m 34 (((mI m 30 7) + 1).toNat))) - 48)), (2, vi (mI m 30 7)), (0, vr 30), (1, vi f)]) rfl (Nat.le_of_ble_eq_true rfl) rfl ?_
          refine V_ld (pc := 46) dX11_number_46 (v := vr 30) rfl rfl ?_
          refine V_dup (pc := 47) dX11_number_47 rfl ?_
          refine V_getIv (pc := 48) dX11_number_48 (v := (mI m 30 7) + 1) fw_RX11_125 rfl hL.t30 (by first | rfl | (simp only [mI_setI, up2]; repeat (first | rfl | rw [if_neg (by omega)] | rw [if_pos (by omega)]))) (fun g48 => ?_)
          refine V_iconst (pc := 51) dX11_number_51 (by unfold I32; omega) ?_
          refine V_iadd (pc := 52) dX11_number_52 (by unfold I32 at *; omega) ?_
          refine V_putI (pc := 53) dX11_number_53 fw_RX11_125 rfl hL.t30 (Or.inl rfl) (Or.inl rfl) ?_
          refine V_goto (pc := 56) dX11_number_56 (tgt := 7) rfl ?_
          have hP2 : RP (mI (setI (setI m 30 7 ((mI m 30 7) + 1)) 30 7 (((mI m 30 7) + 1) + 1))) tx n (advP (advP S)) := RP.adv hP1 rfl (show mI m 30 7 + 1 < mI m 30 6 from by omega)
          have hs2 : cS tx n (advP (advP S)) = if mI m 30 8 = 1 ∧ ((mI m 30 7) + 1) + 1 < mI m 30 6 then mI m 34 (((mI m 30 7) + 1) + 1).toNat else -1 := (RP.cS hP2).1
          have ht2 : ((mI m 30 7) + 1) + 1 < mI m 30 6 → 1 ≤ mI m 34 (((mI m 30 7) + 1) + 1).toNat ∧ mI m 34 (((mI m 30 7) + 1) + 1).toNat ≤ 127 := (RP.cS hP2).2.2.2.2.2.1
          have hl2 : ((mI m 30 7) + 1) + 1 ≤ mI m 30 6 := (RP.cS hP2).2.2.1
          refine V_ld (pc := 7) dX11_number_7 (v := vr 30) rfl rfl ?_
          refine V_getIv (pc := 8) dX11_number_8 (v := ((mI m 30 7) + 1) + 1) fw_RX11_125 rfl hL.t30 (by first | rfl | (simp only [mI_setI, up2]; repeat (first | rfl | rw [if_neg (by omega)] | rw [if_pos (by omega)]))) (fun g8 => ?_)
          refine V_ld (pc := 11) dX11_number_11 (v := vi (mI m 30 7)) rfl rfl ?_
          refine V_isub (pc := 12) dX11_number_12 (by unfold I32 at *; omega) ?_
          refine V_ld (pc := 13) dX11_number_13 (v := vi f) rfl rfl ?_
          refine V_icmp_ge (pc := 14) dX11_number_14 (tgt := 59) rfl (fun h14 => ?_) (fun h14 => ?_)
          · skip
            refine V_ld (pc := 59) dX11_number_59 (v := vr 30) rfl rfl ?_
            refine V_getIv (pc := 60) dX11_number_60 (v := mI m 30 8) fw_RX11_128 rfl hL.t30 (by first | rfl | (simp only [mI_setI, up2]; repeat (first | rfl | rw [if_neg (by omega)] | rw [if_pos (by omega)]))) (fun g60 => ?_)
            refine V_if_eq (pc := 63) dX11_number_63 (tgt := 79) rfl (fun h63 => ?_) (fun h63 => ?_)
            · skip
              refine V_ld (pc := 79) dX11_number_79 (v := vi (((10 * (((10 * 0) + (mI m 34 ((mI m 30 7).toNat))) - 48)) + (mI m 34 (((mI m 30 7) + 1).toNat))) - 48)) rfl rfl ?_
              refine V_reti (pc := 80) dX11_number_80 trivial ?_
              first
                | (exfalso; omega)
                | (have e_ := num2 (tx := tx) (n := n) (S := S) (by unfold isDg; omega) (by unfold isDg; omega)
                   refine ⟨mI (setI (setI m 30 7 ((mI m 30 7) + 1)) 30 7 (((mI m 30 7) + 1) + 1)), rfl, by rw [e_]; show _ = 10 * (cS tx n S - 48) + (cS tx n (advP S) - 48); omega, ?_, ?_⟩
                   · rw [e_]; exact hP2
                   · exact RFs.set (RFs.set RFs.rf (by omega)) (by omega))
            · skip
              refine V_ld (pc := 66) dX11_number_66 (v := vr 30) rfl rfl ?_
              refine V_getIv (pc := 67) dX11_number_67 (v := ((mI m 30 7) + 1) + 1) fw_RX11_125 rfl hL.t30 (by first | rfl | (simp only [mI_setI, up2]; repeat (first | rfl | rw [if_neg (by omega)] | rw [if_pos (by omega)]))) (fun g67 => ?_)
              refine V_ld (pc := 70) dX11_number_70 (v := vi (mI m 30 7)) rfl rfl ?_
              refine V_icmp_ne (pc := 71) dX11_number_71 (tgt := 79) rfl (fun h71 => ?_) (fun h71 => ?_)
              · skip
                refine V_ld (pc := 79) dX11_number_79 (v := vi (((10 * (((10 * 0) + (mI m 34 ((mI m 30 7).toNat))) - 48)) + (mI m 34 (((mI m 30 7) + 1).toNat))) - 48)) rfl rfl ?_
                refine V_reti (pc := 80) dX11_number_80 trivial ?_
                first
                  | (exfalso; omega)
                  | (have e_ := num2 (tx := tx) (n := n) (S := S) (by unfold isDg; omega) (by unfold isDg; omega)
                     refine ⟨mI (setI (setI m 30 7 ((mI m 30 7) + 1)) 30 7 (((mI m 30 7) + 1) + 1)), rfl, by rw [e_]; show _ = 10 * (cS tx n S - 48) + (cS tx n (advP S) - 48); omega, ?_, ?_⟩
                     · rw [e_]; exact hP2
                     · exact RFs.set (RFs.set RFs.rf (by omega)) (by omega))
              · skip
                refine V_ld (pc := 74) dX11_number_74 (v := vr 30) rfl rfl ?_
                refine V_iconst (pc := 75) dX11_number_75 (by unfold I32; omega) ?_
                refine V_putI (pc := 76) dX11_number_76 fw_RX11_128 rfl hL.t30 (Or.inl rfl) (Or.inr ⟨rfl, by first | exact Or.inl rfl | exact Or.inr rfl | omega⟩) ?_
                refine V_ld (pc := 79) dX11_number_79 (v := vi (((10 * (((10 * 0) + (mI m 34 ((mI m 30 7).toNat))) - 48)) + (mI m 34 (((mI m 30 7) + 1).toNat))) - 48)) rfl rfl ?_
                refine V_reti (pc := 80) dX11_number_80 trivial ?_
                first
                  | (exfalso; omega)
                  | (have e_ := num2 (tx := tx) (n := n) (S := S) (by unfold isDg; omega) (by unfold isDg; omega)
                     refine ⟨mI (setI (setI (setI m 30 7 ((mI m 30 7) + 1)) 30 7 (((mI m 30 7) + 1) + 1)) 30 8 0), rfl, by rw [e_]; show _ = 10 * (cS tx n S - 48) + (cS tx n (advP S) - 48); omega, ?_, ?_⟩
                     · rw [e_]; exact hP2
                     · exact RFs.set (RFs.set RFs.rf (by omega)) (by omega))
          · skip
            exfalso; omega

set_option maxHeartbeats 4000000 in
theorem r_curly (tx : Nat → Int) (n : Nat) (S : PS) (m : Mem)    (hL : Lay (mT m) (mR m)) (hP : RP (mI m) tx n S) (hc : cS tx n S = 123) : Ct μX11_curly 3 [vr 30] m (rv fun m' => ∃ I_ : Nat → Nat → Int, wI m I_ = m' ∧ I_ 30 19 = (curlP tx n S).1 ∧ I_ 30 20 = (curlP tx n S).2.1 ∧ RP I_ tx n (curlP tx n S).2.2 ∧ RFr (mI m) I_) := by
  refine Ct_of_V rfl (by decide) rfl (Nat.le_of_ble_eq_true rfl) ?_
  show V μX11_curly 3 m _ 0 [(0, vr 30)] [] m
  obtain ⟨hs, ha0, ha1, ha2, hw, ht, hb, hi⟩ := RP.cS hP
  have hn120 := hP.2.2.2.2.2.2.1
  refine V_ld (pc := 0) dX11_curly_0 (v := vr 30) rfl rfl ?_
  refine V_dup (pc := 1) dX11_curly_1 rfl ?_
  refine V_getIv (pc := 2) dX11_curly_2 (v := mI m 30 7) fw_RX11_125 rfl hL.t30 rfl (fun g2 => ?_)
  refine V_iconst (pc := 5) dX11_curly_5 (by unfold I32; omega) ?_
  refine V_iadd (pc := 6) dX11_curly_6 (by unfold I32 at *; omega) ?_
  refine V_putI (pc := 7) dX11_curly_7 fw_RX11_125 rfl hL.t30 (Or.inl rfl) (Or.inl rfl) ?_
  have hP1 : RP (mI (setI m 30 7 ((mI m 30 7) + 1))) tx n (advP S) := RP.adv hP rfl (by omega)
  refine V_ld (pc := 10) dX11_curly_10 (v := vr 30) rfl rfl ?_
  refine V_ld (pc := 11) dX11_curly_11 (v := vr 30) rfl rfl ?_
  refine V_iconst (pc := 12) dX11_curly_12 (by unfold I32; omega) ?_
  refine V_callV (pc := 13) dX11_curly_13 (F' := 2) (As := [vi 2]) (st := [vr 30]) cw_RX11_160 rfl rfl hL.t30 (by decide) (Nat.le_of_ble_eq_true rfl) (by omega) (r_number tx n (advP S) (setI m 30 7 ((mI m 30 7) + 1)) 2   (by first | assumption | omega) hP1 rfl) ?_
  rintro _ _ ⟨x13, rfl, Ix13, rfl, hx13, hP13, hF13⟩ ok13 le13
  have hB13 := hP13.2.2.2.2.1
  refine V_putI (pc := 16) dX11_curly_16 fw_RX11_163 rfl hL.t30 (Or.inl rfl) (Or.inl rfl) ?_
  refine V_ld (pc := 19) dX11_curly_19 (v := vr 30) rfl rfl ?_
  refine V_ld (pc := 20) dX11_curly_20 (v := vr 30) rfl rfl ?_
  refine V_getIv (pc := 21) dX11_curly_21 (v := x13) fw_RX11_163 rfl hL.t30 (by first | rfl | (simp only [mI_setI, up2]; repeat (first | rfl | rw [if_neg (by omega)] | rw [if_pos (by omega)]))) (fun g21 => ?_)
  refine V_putI (pc := 24) dX11_curly_24 fw_RX11_166 rfl hL.t30 (Or.inl rfl) (Or.inl rfl) ?_
  have hP3 : RP (mI (setI (setI (wI (setI m 30 7 ((mI m 30 7) + 1)) Ix13) 30 19 x13) 30 20 x13)) tx n ((numP tx n (advP S)).2) := RP.oth (RP.oth hP13 (Or.inl rfl)) (Or.inr rfl)
  refine V_ld (pc := 27) dX11_curly_27 (v := vr 30) rfl rfl ?_
  refine V_bipush (pc := 28) dX11_curly_28 (by unfold I32; omega) (by decide) ?_
  refine V_callV (pc := 30) dX11_curly_30 (F' := 0) (As := [vi 44]) (st := []) cw_RX11_132 rfl rfl hL.t30 (by decide) (Nat.le_of_ble_eq_true rfl) (by omega) (r_isAt tx n ((numP tx n (advP S)).2) (setI (setI (wI (setI m 30 7 ((mI m 30 7) + 1)) Ix13) 30 19 x13) 30 20 x13) 44   (by first | assumption | omega) hP3 (by decide)) ?_
  rintro _ _ ⟨x30, rfl, hx30, rfl⟩ ok30 le30
  refine V_if_eq (pc := 33) dX11_curly_33 (tgt := 103) rfl (fun h33 => ?_) (fun h33 => ?_)
  · skip
    refine V_ld (pc := 103) dX11_curly_103 (v := vr 30) rfl rfl ?_
    refine V_getIv (pc := 104) dX11_curly_104 (v := x13) fw_RX11_163 rfl hL.t30 (by first | rfl | (simp only [mI_setI, up2]; repeat (first | rfl | rw [if_neg (by omega)] | rw [if_pos (by omega)]))) (fun g104 => ?_)
    refine V_if_ne (pc := 107) dX11_curly_107 (tgt := 115) rfl (fun h107 => ?_) (fun h107 => ?_)
    · skip
      skip
      refine V_ld (pc := 115) dX11_curly_115 (v := vr 30) rfl rfl ?_
      refine V_bipush (pc := 116) dX11_curly_116 (by unfold I32; omega) (by decide) ?_
      refine V_callV (pc := 118) dX11_curly_118 (F' := 1) (As := [vi 125]) (st := []) cw_RX11_146 rfl rfl hL.t30 (by decide) (Nat.le_of_ble_eq_true rfl) (by omega) (r_takes tx n ((numP tx n (advP S)).2) (setI (setI (wI (setI m 30 7 ((mI m 30 7) + 1)) Ix13) 30 19 x13) 30 20 x13) 125   (by first | assumption | omega) hP3 (by decide)) ?_
      rintro _ _ ⟨rfl, Ix118, rfl, hP118, hF118⟩ ok118 le118
      have hB118 := hP118.2.2.2.2.1
      refine V_retv (pc := 121) dX11_curly_121 trivial ?_
      first
        | (exfalso; omega)
        | (have hq1 : ¬ cS tx n (numP tx n (advP S)).2 = 44 := by omega
           have hq4 : ¬ (numP tx n (advP S)).1 = 0 := by omega
           have e_ : curlP tx n S = ((numP tx n (advP S)).1, (numP tx n (advP S)).1, takeP tx n ((numP tx n (advP S)).2) 125) := by unfold curlP; rw [if_neg hq1, if_neg hq4]
           refine ⟨mI (wI (setI (setI (wI (setI m 30 7 ((mI m 30 7) + 1)) Ix13) 30 19 x13) 30 20 x13) Ix118), rfl, ?_, ?_, ?_, (RFr.tr (RFr.set (RFr.set (RFr.tr (RFr.set RFr.rf (by omega)) (RFs.r hF13)) (by omega)) (by omega)) (RFs.r hF118))⟩
           · rw [e_]; have kl_ : mI (wI (setI (setI (wI (setI m 30 7 ((mI m 30 7) + 1)) Ix13) 30 19 x13) 30 20 x13) Ix118) 30 19 = x13 := ((hF118 30 19 (by omega)).trans (by first | rfl | (simp only [mI_setI, up2]; repeat (first | rfl | rw [if_neg (by omega)] | rw [if_pos (by omega)])))); exact kl_.trans (show x13 = (numP tx n (advP S)).1 from by omega)
           · rw [e_]; have kh_ : mI (wI (setI (setI (wI (setI m 30 7 ((mI m 30 7) + 1)) Ix13) 30 19 x13) 30 20 x13) Ix118) 30 20 = x13 := ((hF118 30 20 (by omega)).trans (by first | rfl | (simp only [mI_setI, up2]; repeat (first | rfl | rw [if_neg (by omega)] | rw [if_pos (by omega)])))); exact kh_.trans (show x13 = (numP tx n (advP S)).1 from by omega)
           · rw [e_]; exact hP118)
    · skip
      skip
      refine V_ld (pc := 110) dX11_curly_110 (v := vr 30) rfl rfl ?_
      refine V_iconst (pc := 111) dX11_curly_111 (by unfold I32; omega) ?_
      refine V_putI (pc := 112) dX11_curly_112 fw_RX11_128 rfl hL.t30 (Or.inl rfl) (Or.inr ⟨rfl, by first | exact Or.inl rfl | exact Or.inr rfl | omega⟩) ?_
      have hP8 : RP (mI (setI (setI (setI (wI (setI m 30 7 ((mI m 30 7) + 1)) Ix13) 30 19 x13) 30 20 x13) 30 8 0)) tx n (badP (numP tx n (advP S)).2) := RP.bad hP3
      refine V_ld (pc := 115) dX11_curly_115 (v := vr 30) rfl rfl ?_
      refine V_bipush (pc := 116) dX11_curly_116 (by unfold I32; omega) (by decide) ?_
      refine V_callV (pc := 118) dX11_curly_118 (F' := 1) (As := [vi 125]) (st := []) cw_RX11_146 rfl rfl hL.t30 (by decide) (Nat.le_of_ble_eq_true rfl) (by omega) (r_takes tx n (badP (numP tx n (advP S)).2) (setI (setI (setI (wI (setI m 30 7 ((mI m 30 7) + 1)) Ix13) 30 19 x13) 30 20 x13) 30 8 0) 125   (by first | assumption | omega) hP8 (by decide)) ?_
      rintro _ _ ⟨rfl, Ix118, rfl, hP118, hF118⟩ ok118 le118
      have hB118 := hP118.2.2.2.2.1
      refine V_retv (pc := 121) dX11_curly_121 trivial ?_
      first
        | (exfalso; omega)
        | (have hq1 : ¬ cS tx n (numP tx n (advP S)).2 = 44 := by omega
           have hq4 : (numP tx n (advP S)).1 = 0 := by omega
           have e_ : curlP tx n S = ((numP tx n (advP S)).1, (numP tx n (advP S)).1, takeP tx n (badP (numP tx n (advP S)).2) 125) := by unfold curlP; rw [if_neg hq1, if_pos hq4]
           refine ⟨mI (wI (setI (setI (setI (wI (setI m 30 7 ((mI m 30 7) + 1)) Ix13) 30 19 x13) 30 20 x13) 30 8 0) Ix118), rfl, ?_, ?_, ?_, (RFr.tr (RFr.set (RFr.set (RFr.set (RFr.tr (RFr.set RFr.rf (by omega)) (RFs.r hF13)) (by omega)) (by omega)) (by omega)) (RFs.r hF118))⟩
           · rw [e_]; have kl_ : mI (wI (setI (setI (setI (wI (setI m 30 7 ((mI m 30 7) + 1)) Ix13) 30 19 x13) 30 20 x13) 30 8 0) Ix118) 30 19 = x13 := ((hF118 30 19 (by omega)).trans (by first | rfl | (simp only [mI_setI, up2]; repeat (first | rfl | rw [if_neg (by omega)] | rw [if_pos (by omega)])))); exact kl_.trans (show x13 = (numP tx n (advP S)).1 from by omega)
           · rw [e_]; have kh_ : mI (wI (setI (setI (setI (wI (setI m 30 7 ((mI m 30 7) + 1)) Ix13) 30 19 x13) 30 20 x13) 30 8 0) Ix118) 30 20 = x13 := ((hF118 30 20 (by omega)).trans (by first | rfl | (simp only [mI_setI, up2]; repeat (first | rfl | rw [if_neg (by omega)] | rw [if_pos (by omega)])))); exact kh_.trans (show x13 = (numP tx n (advP S)).1 from by omega)
           · rw [e_]; exact hP118)
  · skip
    refine V_ld (pc := 36) dX11_curly_36 (v := vr 30) rfl rfl ?_
    refine V_dup (pc := 37) dX11_curly_37 rfl ?_
    refine V_getIv (pc := 38) dX11_curly_38 (v := (((numP tx n (advP S)).2).2.1 : Int)) fw_RX11_125 rfl hL.t30 (by first | exact hP13.2.1 | (simp only [mI_setI, up2]; repeat (first | exact hP13.2.1 | rw [if_neg (by omega)]))) (fun g38 => ?_)
    refine V_iconst (pc := 41) dX11_curly_41 (by unfold I32; omega) ?_
    refine V_iadd (pc := 42) dX11_curly_42 (by unfold I32 at *; omega) ?_
    refine V_putI (pc := 43) dX11_curly_43 fw_RX11_125 rfl hL.t30 (Or.inl rfl) (Or.inl rfl) ?_
    obtain ⟨hs3, hb0, hb1, hb2, hbw, hbt, -, -⟩ := RP.cS hP3
    have hP4 : RP (mI (setI (setI (setI (wI (setI m 30 7 ((mI m 30 7) + 1)) Ix13) 30 19 x13) 30 20 x13) 30 7 ((((numP tx n (advP S)).2).2.1 : Int) + 1))) tx n (advP (numP tx n (advP S)).2) := RP.adv hP3 (congrArg (fun z => z + 1) hP3.2.1.symm) (by omega)
    refine V_ld (pc := 46) dX11_curly_46 (v := vr 30) rfl rfl ?_
    refine V_bipush (pc := 47) dX11_curly_47 (by unfold I32; omega) (by decide) ?_
    refine V_putI (pc := 49) dX11_curly_49 fw_RX11_166 rfl hL.t30 (Or.inl rfl) (Or.inl rfl) ?_
    have hP5 : RP (mI (setI (setI (setI (setI (wI (setI m 30 7 ((mI m 30 7) + 1)) Ix13) 30 19 x13) 30 20 x13) 30 7 ((((numP tx n (advP S)).2).2.1 : Int) + 1)) 30 20 100)) tx n (advP (numP tx n (advP S)).2) := RP.oth hP4 (Or.inr rfl)
    refine V_ld (pc := 52) dX11_curly_52 (v := vr 30) rfl rfl ?_
    refine V_bipush (pc := 53) dX11_curly_53 (by unfold I32; omega) (by decide) ?_
    refine V_bipush (pc := 55) dX11_curly_55 (by unfold I32; omega) (by decide) ?_
    refine V_callV (pc := 57) dX11_curly_57 (F' := 1) (As := [vi 48, vi 57]) (st := []) cw_RX11_135 rfl rfl hL.t30 (by decide) (Nat.le_of_ble_eq_true rfl) (by omega) (r_isAmong tx n (advP (numP tx n (advP S)).2) (setI (setI (setI (setI (wI (setI m 30 7 ((mI m 30 7) + 1)) Ix13) 30 19 x13) 30 20 x13) 30 7 ((((numP tx n (advP S)).2).2.1 : Int) + 1)) 30 20 100) 48 57   (by first | assumption | omega) hP5 (by decide)) ?_
    rintro _ _ ⟨x57, rfl, hx57, rfl⟩ ok57 le57
    refine V_if_eq (pc := 60) dX11_curly_60 (tgt := 115) rfl (fun h60 => ?_) (fun h60 => ?_)
    · skip
      skip
      refine V_ld (pc := 115) dX11_curly_115 (v := vr 30) rfl rfl ?_
      refine V_bipush (pc := 116) dX11_curly_116 (by unfold I32; omega) (by decide) ?_
      refine V_callV (pc := 118) dX11_curly_118 (F' := 1) (As := [vi 125]) (st := []) cw_RX11_146 rfl rfl hL.t30 (by decide) (Nat.le_of_ble_eq_true rfl) (by omega) (r_takes tx n (advP (numP tx n (advP S)).2) (setI (setI (setI (setI (wI (setI m 30 7 ((mI m 30 7) + 1)) Ix13) 30 19 x13) 30 20 x13) 30 7 ((((numP tx n (advP S)).2).2.1 : Int) + 1)) 30 20 100) 125   (by first | assumption | omega) hP5 (by decide)) ?_
      rintro _ _ ⟨rfl, Ix118, rfl, hP118, hF118⟩ ok118 le118
      have hB118 := hP118.2.2.2.2.1
      refine V_retv (pc := 121) dX11_curly_121 trivial ?_
      first
        | (exfalso; omega)
        | (have hq1 : cS tx n (numP tx n (advP S)).2 = 44 := by omega
           have hq2 : ¬ isDg (cS tx n (advP (numP tx n (advP S)).2)) := by unfold isDg; omega
           have e_ : curlP tx n S = ((numP tx n (advP S)).1, 100, takeP tx n (advP (numP tx n (advP S)).2) 125) := by unfold curlP; rw [if_pos hq1, if_neg hq2]
           refine ⟨mI (wI (setI (setI (setI (setI (wI (setI m 30 7 ((mI m 30 7) + 1)) Ix13) 30 19 x13) 30 20 x13) 30 7 ((((numP tx n (advP S)).2).2.1 : Int) + 1)) 30 20 100) Ix118), rfl, ?_, ?_, ?_, (RFr.tr (RFr.set (RFr.set (RFr.set (RFr.set (RFr.tr (RFr.set RFr.rf (by omega)) (RFs.r hF13)) (by omega)) (by omega)) (by omega)) (by omega)) (RFs.r hF118))⟩
           · rw [e_]; have kl_ : mI (wI (setI (setI (setI (setI (wI (setI m 30 7 ((mI m 30 7) + 1)) Ix13) 30 19 x13) 30 20 x13) 30 7 ((((numP tx n (advP S)).2).2.1 : Int) + 1)) 30 20 100) Ix118) 30 19 = x13 := ((hF118 30 19 (by omega)).trans (by first | rfl | (simp only [mI_setI, up2]; repeat (first | rfl | rw [if_neg (by omega)] | rw [if_pos (by omega)])))); exact kl_.trans (show x13 = (numP tx n (advP S)).1 from by omega)
           · rw [e_]; have kh_ : mI (wI (setI (setI (setI (setI (wI (setI m 30 7 ((mI m 30 7) + 1)) Ix13) 30 19 x13) 30 20 x13) 30 7 ((((numP tx n (advP S)).2).2.1 : Int) + 1)) 30 20 100) Ix118) 30 20 = 100 := ((hF118 30 20 (by omega)).trans (by first | rfl | (simp only [mI_setI, up2]; repeat (first | rfl | rw [if_neg (by omega)] | rw [if_pos (by omega)])))); exact kh_.trans (show 100 = 100 from by omega)
           · rw [e_]; exact hP118)
    · skip
      skip
      refine V_ld (pc := 63) dX11_curly_63 (v := vr 30) rfl rfl ?_
      refine V_getIv (pc := 64) dX11_curly_64 (v := ((advP (numP tx n (advP S)).2).2.1 : Int)) fw_RX11_125 rfl hL.t30 (by first | exact hP5.2.1 | (simp only [mI_setI, up2]; repeat (first | exact hP5.2.1 | rw [if_neg (by omega)]))) (fun g64 => ?_)
      refine V_st (pc := 67) dX11_curly_67 (ls' := [(1, vi ((advP (numP tx n (advP S)).2).2.1 : Int)), (0, vr 30)]) rfl (Nat.le_of_ble_eq_true rfl) rfl ?_
      refine V_ld (pc := 68) dX11_curly_68 (v := vr 30) rfl rfl ?_
      refine V_ld (pc := 69) dX11_curly_69 (v := vr 30) rfl rfl ?_
      refine V_iconst (pc := 70) dX11_curly_70 (by unfold I32; omega) ?_
      refine V_callV (pc := 71) dX11_curly_71 (F' := 2) (As := [vi 2]) (st := [vr 30]) cw_RX11_160 rfl rfl hL.t30 (by decide) (Nat.le_of_ble_eq_true rfl) (by omega) (r_number tx n (advP (numP tx n (advP S)).2) (setI (setI (setI (setI (wI (setI m 30 7 ((mI m 30 7) + 1)) Ix13) 30 19 x13) 30 20 x13) 30 7 ((((numP tx n (advP S)).2).2.1 : Int) + 1)) 30 20 100) 2   (by first | assumption | omega) hP5 rfl) ?_
      rintro _ _ ⟨x71, rfl, Ix71, rfl, hx71, hP71, hF71⟩ ok71 le71
      have hB71 := hP71.2.2.2.2.1
      refine V_putI (pc := 74) dX11_curly_74 fw_RX11_166 rfl hL.t30 (Or.inl rfl) (Or.inl rfl) ?_
      have hP7 : RP (mI (setI (wI (setI (setI (setI (setI (wI (setI m 30 7 ((mI m 30 7) + 1)) Ix13) 30 19 x13) 30 20 x13) 30 7 ((((numP tx n (advP S)).2).2.1 : Int) + 1)) 30 20 100) Ix71) 30 20 x71)) tx n ((numP tx n (advP (numP tx n (advP S)).2)).2) := RP.oth hP71 (Or.inr rfl)
      refine V_ld (pc := 77) dX11_curly_77 (v := vr 30) rfl rfl ?_
      refine V_getIv (pc := 78) dX11_curly_78 (v := x71) fw_RX11_166 rfl hL.t30 (by first | rfl | (simp only [mI_setI, up2]; repeat (first | rfl | rw [if_neg (by omega)] | rw [if_pos (by omega)]))) (fun g78 => ?_)
      refine V_if_eq (pc := 81) dX11_curly_81 (tgt := 95) rfl (fun h81 => ?_) (fun h81 => ?_)
      · skip
        refine V_ld (pc := 95) dX11_curly_95 (v := vr 30) rfl rfl ?_
        refine V_ld (pc := 96) dX11_curly_96 (v := vi ((advP (numP tx n (advP S)).2).2.1 : Int)) rfl rfl ?_
        refine V_callV (pc := 97) dX11_curly_97 (F' := 0) (As := [vi ((advP (numP tx n (advP S)).2).2.1 : Int)]) (st := []) cw_RX11_169 rfl rfl hL.t30 (by decide) (Nat.le_of_ble_eq_true rfl) (by omega) (r_fails tx n ((numP tx n (advP (numP tx n (advP S)).2)).2) (setI (wI (setI (setI (setI (setI (wI (setI m 30 7 ((mI m 30 7) + 1)) Ix13) 30 19 x13) 30 20 x13) 30 7 ((((numP tx n (advP S)).2).2.1 : Int) + 1)) 30 20 100) Ix71) 30 20 x71) ((advP (numP tx n (advP S)).2).2.1 : Int)   (by first | assumption | omega) hP7 ⟨by omega, Int.ofNat_le.mpr hP5.2.2.2.2.1⟩) ?_
        rintro _ _ ⟨rfl, Ix97, rfl, hP97, hF97⟩ ok97 le97
        have hB97 := hP97.2.2.2.2.1
        refine V_goto (pc := 100) dX11_curly_100 (tgt := 115) rfl ?_
        skip
        refine V_ld (pc := 115) dX11_curly_115 (v := vr 30) rfl rfl ?_
        refine V_bipush (pc := 116) dX11_curly_116 (by unfold I32; omega) (by decide) ?_
        refine V_callV (pc := 118) dX11_curly_118 (F' := 1) (As := [vi 125]) (st := []) cw_RX11_146 rfl rfl hL.t30 (by decide) (Nat.le_of_ble_eq_true rfl) (by omega) (r_takes tx n (badAt (numP tx n (advP (numP tx n (advP S)).2)).2 (advP (numP tx n (advP S)).2).2.1) (wI (setI (wI (setI (setI (setI (setI (wI (setI m 30 7 ((mI m 30 7) + 1)) Ix13) 30 19 x13) 30 20 x13) 30 7 ((((numP tx n (advP S)).2).2.1 : Int) + 1)) 30 20 100) Ix71) 30 20 x71) Ix97) 125   (by first | assumption | omega) hP97 (by decide)) ?_
        rintro _ _ ⟨rfl, Ix118, rfl, hP118, hF118⟩ ok118 le118
        have hB118 := hP118.2.2.2.2.1
        refine V_retv (pc := 121) dX11_curly_121 trivial ?_
        first
          | (exfalso; omega)
          | (have hq1 : cS tx n (numP tx n (advP S)).2 = 44 := by omega
             have hq2 : isDg (cS tx n (advP (numP tx n (advP S)).2)) := by unfold isDg; omega
             have hq3 : (numP tx n (advP (numP tx n (advP S)).2)).1 = 0 ∨ (numP tx n (advP (numP tx n (advP S)).2)).1 < (numP tx n (advP S)).1 := by omega
             have e_ : curlP tx n S = ((numP tx n (advP S)).1, (numP tx n (advP (numP tx n (advP S)).2)).1, takeP tx n (badAt (numP tx n (advP (numP tx n (advP S)).2)).2 (advP (numP tx n (advP S)).2).2.1) 125) := by unfold curlP; rw [if_pos hq1, if_pos hq2, if_pos hq3]
             refine ⟨mI (wI (wI (setI (wI (setI (setI (setI (setI (wI (setI m 30 7 ((mI m 30 7) + 1)) Ix13) 30 19 x13) 30 20 x13) 30 7 ((((numP tx n (advP S)).2).2.1 : Int) + 1)) 30 20 100) Ix71) 30 20 x71) Ix97) Ix118), rfl, ?_, ?_, ?_, (RFr.tr (RFr.tr (RFr.set (RFr.tr (RFr.set (RFr.set (RFr.set (RFr.set (RFr.tr (RFr.set RFr.rf (by omega)) (RFs.r hF13)) (by omega)) (by omega)) (by omega)) (by omega)) (RFs.r hF71)) (by omega)) (RFs.r hF97)) (RFs.r hF118))⟩
             · rw [e_]; have kl_ : mI (wI (wI (setI (wI (setI (setI (setI (setI (wI (setI m 30 7 ((mI m 30 7) + 1)) Ix13) 30 19 x13) 30 20 x13) 30 7 ((((numP tx n (advP S)).2).2.1 : Int) + 1)) 30 20 100) Ix71) 30 20 x71) Ix97) Ix118) 30 19 = x13 := ((hF118 30 19 (by omega)).trans ((hF97 30 19 (by omega)).trans (hF71 30 19 (by omega)))); exact kl_.trans (show x13 = (numP tx n (advP S)).1 from by omega)
             · rw [e_]; have kh_ : mI (wI (wI (setI (wI (setI (setI (setI (setI (wI (setI m 30 7 ((mI m 30 7) + 1)) Ix13) 30 19 x13) 30 20 x13) 30 7 ((((numP tx n (advP S)).2).2.1 : Int) + 1)) 30 20 100) Ix71) 30 20 x71) Ix97) Ix118) 30 20 = x71 := ((hF118 30 20 (by omega)).trans (hF97 30 20 (by omega))); exact kh_.trans (show x71 = (numP tx n (advP (numP tx n (advP S)).2)).1 from by omega)
             · rw [e_]; exact hP118)
      · skip
        refine V_ld (pc := 84) dX11_curly_84 (v := vr 30) rfl rfl ?_
        refine V_getIv (pc := 85) dX11_curly_85 (v := x71) fw_RX11_166 rfl hL.t30 (by first | rfl | (simp only [mI_setI, up2]; repeat (first | rfl | rw [if_neg (by omega)] | rw [if_pos (by omega)]))) (fun g85 => ?_)
        refine V_ld (pc := 88) dX11_curly_88 (v := vr 30) rfl rfl ?_
        refine V_getIv (pc := 89) dX11_curly_89 (v := x13) fw_RX11_163 rfl hL.t30 (by first | exact (hF71 30 19 (by omega)) | (simp only [mI_setI, up2]; repeat (first | exact (hF71 30 19 (by omega)) | rw [if_neg (by omega)]))) (fun g89 => ?_)
        refine V_icmp_ge (pc := 92) dX11_curly_92 (tgt := 100) rfl (fun h92 => ?_) (fun h92 => ?_)
        · skip
          refine V_goto (pc := 100) dX11_curly_100 (tgt := 115) rfl ?_
          skip
          refine V_ld (pc := 115) dX11_curly_115 (v := vr 30) rfl rfl ?_
          refine V_bipush (pc := 116) dX11_curly_116 (by unfold I32; omega) (by decide) ?_
          refine V_callV (pc := 118) dX11_curly_118 (F' := 1) (As := [vi 125]) (st := []) cw_RX11_146 rfl rfl hL.t30 (by decide) (Nat.le_of_ble_eq_true rfl) (by omega) (r_takes tx n ((numP tx n (advP (numP tx n (advP S)).2)).2) (setI (wI (setI (setI (setI (setI (wI (setI m 30 7 ((mI m 30 7) + 1)) Ix13) 30 19 x13) 30 20 x13) 30 7 ((((numP tx n (advP S)).2).2.1 : Int) + 1)) 30 20 100) Ix71) 30 20 x71) 125   (by first | assumption | omega) hP7 (by decide)) ?_
          rintro _ _ ⟨rfl, Ix118, rfl, hP118, hF118⟩ ok118 le118
          have hB118 := hP118.2.2.2.2.1
          refine V_retv (pc := 121) dX11_curly_121 trivial ?_
          first
            | (exfalso; omega)
            | (have hq1 : cS tx n (numP tx n (advP S)).2 = 44 := by omega
               have hq2 : isDg (cS tx n (advP (numP tx n (advP S)).2)) := by unfold isDg; omega
               have hq3 : ¬ ((numP tx n (advP (numP tx n (advP S)).2)).1 = 0 ∨ (numP tx n (advP (numP tx n (advP S)).2)).1 < (numP tx n (advP S)).1) := by omega
               have e_ : curlP tx n S = ((numP tx n (advP S)).1, (numP tx n (advP (numP tx n (advP S)).2)).1, takeP tx n ((numP tx n (advP (numP tx n (advP S)).2)).2) 125) := by unfold curlP; rw [if_pos hq1, if_pos hq2, if_neg hq3]
               refine ⟨mI (wI (setI (wI (setI (setI (setI (setI (wI (setI m 30 7 ((mI m 30 7) + 1)) Ix13) 30 19 x13) 30 20 x13) 30 7 ((((numP tx n (advP S)).2).2.1 : Int) + 1)) 30 20 100) Ix71) 30 20 x71) Ix118), rfl, ?_, ?_, ?_, (RFr.tr (RFr.set (RFr.tr (RFr.set (RFr.set (RFr.set (RFr.set (RFr.tr (RFr.set RFr.rf (by omega)) (RFs.r hF13)) (by omega)) (by omega)) (by omega)) (by omega)) (RFs.r hF71)) (by omega)) (RFs.r hF118))⟩
               · rw [e_]; have kl_ : mI (wI (setI (wI (setI (setI (setI (setI (wI (setI m 30 7 ((mI m 30 7) + 1)) Ix13) 30 19 x13) 30 20 x13) 30 7 ((((numP tx n (advP S)).2).2.1 : Int) + 1)) 30 20 100) Ix71) 30 20 x71) Ix118) 30 19 = x13 := ((hF118 30 19 (by omega)).trans (by first | exact (hF71 30 19 (by omega)) | (simp only [mI_setI, up2]; repeat (first | exact (hF71 30 19 (by omega)) | rw [if_neg (by omega)])))); exact kl_.trans (show x13 = (numP tx n (advP S)).1 from by omega)
               · rw [e_]; have kh_ : mI (wI (setI (wI (setI (setI (setI (setI (wI (setI m 30 7 ((mI m 30 7) + 1)) Ix13) 30 19 x13) 30 20 x13) 30 7 ((((numP tx n (advP S)).2).2.1 : Int) + 1)) 30 20 100) Ix71) 30 20 x71) Ix118) 30 20 = x71 := ((hF118 30 20 (by omega)).trans (by first | rfl | (simp only [mI_setI, up2]; repeat (first | rfl | rw [if_neg (by omega)] | rw [if_pos (by omega)])))); exact kh_.trans (show x71 = (numP tx n (advP (numP tx n (advP S)).2)).1 from by omega)
               · rw [e_]; exact hP118)
        · skip
          refine V_ld (pc := 95) dX11_curly_95 (v := vr 30) rfl rfl ?_
          refine V_ld (pc := 96) dX11_curly_96 (v := vi ((advP (numP tx n (advP S)).2).2.1 : Int)) rfl rfl ?_
          refine V_callV (pc := 97) dX11_curly_97 (F' := 0) (As := [vi ((advP (numP tx n (advP S)).2).2.1 : Int)]) (st := []) cw_RX11_169 rfl rfl hL.t30 (by decide) (Nat.le_of_ble_eq_true rfl) (by omega) (r_fails tx n ((numP tx n (advP (numP tx n (advP S)).2)).2) (setI (wI (setI (setI (setI (setI (wI (setI m 30 7 ((mI m 30 7) + 1)) Ix13) 30 19 x13) 30 20 x13) 30 7 ((((numP tx n (advP S)).2).2.1 : Int) + 1)) 30 20 100) Ix71) 30 20 x71) ((advP (numP tx n (advP S)).2).2.1 : Int)   (by first | assumption | omega) hP7 ⟨by omega, Int.ofNat_le.mpr hP5.2.2.2.2.1⟩) ?_
          rintro _ _ ⟨rfl, Ix97, rfl, hP97, hF97⟩ ok97 le97
          have hB97 := hP97.2.2.2.2.1
          refine V_goto (pc := 100) dX11_curly_100 (tgt := 115) rfl ?_
          skip
          refine V_ld (pc := 115) dX11_curly_115 (v := vr 30) rfl rfl ?_
          refine V_bipush (pc := 116) dX11_curly_116 (by unfold I32; omega) (by decide) ?_
          refine V_callV (pc := 118) dX11_curly_118 (F' := 1) (As := [vi 125]) (st := []) cw_RX11_146 rfl rfl hL.t30 (by decide) (Nat.le_of_ble_eq_true rfl) (by omega) (r_takes tx n (badAt (numP tx n (advP (numP tx n (advP S)).2)).2 (advP (numP tx n (advP S)).2).2.1) (wI (setI (wI (setI (setI (setI (setI (wI (setI m 30 7 ((mI m 30 7) + 1)) Ix13) 30 19 x13) 30 20 x13) 30 7 ((((numP tx n (advP S)).2).2.1 : Int) + 1)) 30 20 100) Ix71) 30 20 x71) Ix97) 125   (by first | assumption | omega) hP97 (by decide)) ?_
          rintro _ _ ⟨rfl, Ix118, rfl, hP118, hF118⟩ ok118 le118
          have hB118 := hP118.2.2.2.2.1
          refine V_retv (pc := 121) dX11_curly_121 trivial ?_
          first
            | (exfalso; omega)
            | (have hq1 : cS tx n (numP tx n (advP S)).2 = 44 := by omega
               have hq2 : isDg (cS tx n (advP (numP tx n (advP S)).2)) := by unfold isDg; omega
               have hq3 : (numP tx n (advP (numP tx n (advP S)).2)).1 = 0 ∨ (numP tx n (advP (numP tx n (advP S)).2)).1 < (numP tx n (advP S)).1 := by omega
               have e_ : curlP tx n S = ((numP tx n (advP S)).1, (numP tx n (advP (numP tx n (advP S)).2)).1, takeP tx n (badAt (numP tx n (advP (numP tx n (advP S)).2)).2 (advP (numP tx n (advP S)).2).2.1) 125) := by unfold curlP; rw [if_pos hq1, if_pos hq2, if_pos hq3]
               refine ⟨mI (wI (wI (setI (wI (setI (setI (setI (setI (wI (setI m 30 7 ((mI m 30 7) + 1)) Ix13) 30 19 x13) 30 20 x13) 30 7 ((((numP tx n (advP S)).2).2.1 : Int) + 1)) 30 20 100) Ix71) 30 20 x71) Ix97) Ix118), rfl, ?_, ?_, ?_, (RFr.tr (RFr.tr (RFr.set (RFr.tr (RFr.set (RFr.set (RFr.set (RFr.set (RFr.tr (RFr.set RFr.rf (by omega)) (RFs.r hF13)) (by omega)) (by omega)) (by omega)) (by omega)) (RFs.r hF71)) (by omega)) (RFs.r hF97)) (RFs.r hF118))⟩
               · rw [e_]; have kl_ : mI (wI (wI (setI (wI (setI (setI (setI (setI (wI (setI m 30 7 ((mI m 30 7) + 1)) Ix13) 30 19 x13) 30 20 x13) 30 7 ((((numP tx n (advP S)).2).2.1 : Int) + 1)) 30 20 100) Ix71) 30 20 x71) Ix97) Ix118) 30 19 = x13 := ((hF118 30 19 (by omega)).trans ((hF97 30 19 (by omega)).trans (hF71 30 19 (by omega)))); exact kl_.trans (show x13 = (numP tx n (advP S)).1 from by omega)
               · rw [e_]; have kh_ : mI (wI (wI (setI (wI (setI (setI (setI (setI (wI (setI m 30 7 ((mI m 30 7) + 1)) Ix13) 30 19 x13) 30 20 x13) 30 7 ((((numP tx n (advP S)).2).2.1 : Int) + 1)) 30 20 100) Ix71) 30 20 x71) Ix97) Ix118) 30 20 = x71 := ((hF118 30 20 (by omega)).trans (hF97 30 20 (by omega))); exact kh_.trans (show x71 = (numP tx n (advP (numP tx n (advP S)).2)).1 from by omega)
               · rw [e_]; exact hP118)
