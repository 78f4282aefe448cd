/-! the reference reads conditions: signs, numbers, rows -/
/-- the reference stands in the state S of a condition's text -/
def RQ (I : Nat → Nat → Int) (tx : Nat → Int) (n : Nat) (S : CS) : Prop := I 30 6 = (n : Int) ∧ I 30 7 = (S.2 : Int) ∧ I 30 8 = (if S.1 = true then 1 else 0) ∧ S.2 ≤ n ∧ n ≤ 120 ∧ (∀ k, k < n → I 34 k = tx k ∧ 1 ≤ tx k ∧ tx k ≤ 127)
def QFr (I I' : Nat → Nat → Int) : Prop := ∀ o k, ¬ (o = 30 ∧ (k = 7 ∨ k = 8 ∨ k = 26 ∨ k = 27)) → I' o k = I o k
theorem QFr.rf {I : Nat → Nat → Int} : QFr I I := fun _ _ _ => rfl
theorem QFr.tr {I J K : Nat → Nat → Int} (h : QFr I J) (h2 : QFr J K) : QFr I K := fun o k a => (h2 o k a).trans (h o k a)
theorem QFr.set {I J : Nat → Nat → Int} {o k : Nat} {v : Int} (h : QFr I J) (hk : o = 30 ∧ (k = 7 ∨ k = 8 ∨ k = 26 ∨ k = 27)) : QFr I (up2 J o k v) := fun o' k' a => by
  have e : up2 J o k v o' k' = J o' k' := if_neg fun e => by
    obtain ⟨rfl, rfl⟩ := e
    exact a hk
  rw [e]
  exact h o' k' a
/-- the place and whether all is well alone -/
def QFs (I I' : Nat → Nat → Int) : Prop := ∀ o k, ¬ (o = 30 ∧ (k = 7 ∨ k = 8)) → I' o k = I o k
theorem QFs.r {I I' : Nat → Nat → Int} (h : QFs I I') : QFr I I' := fun o k a => h o k (by omega)
theorem QFs.rf {I : Nat → Nat → Int} : QFs I I := fun _ _ _ => rfl
theorem QFs.tr {I J K : Nat → Nat → Int} (h : QFs I J) (h2 : QFs J K) : QFs I K := fun o k a => (h2 o k a).trans (h o k a)
theorem QFs.set {I J : Nat → Nat → Int} {o k : Nat} {v : Int} (h : QFs I J) (hk : o = 30 ∧ (k = 7 ∨ k = 8)) : QFs I (up2 J o k v) := fun o' k' a => by
  have e : up2 J o k v o' k' = J o' k' := if_neg fun e => by
    obtain ⟨rfl, rfl⟩ := e
    exact a hk
  rw [e]
  exact h o' k' a
theorem RQ.cS {I : Nat → Nat → Int} {tx : Nat → Int} {n : Nat} {S : CS} (h : RQ I tx n S) : ccS tx n S = (if I 30 8 = 1 ∧ I 30 7 < I 30 6 ∧ I 34 (I 30 7).toNat ≠ 59 then I 34 (I 30 7).toNat else -1) ∧ 0 ≤ I 30 7 ∧ I 30 7 ≤ I 30 6 ∧ I 30 6 ≤ 120 ∧ (I 30 8 = 0 ∨ I 30 8 = 1) ∧ (I 30 7 < I 30 6 → 1 ≤ I 34 (I 30 7).toNat ∧ I 34 (I 30 7).toNat ≤ 127) ∧ (S.1 = true ↔ I 30 8 = 1) ∧ I 30 7 = (S.2 : Int) := by
  obtain ⟨h1, h2, h3, h5, h7, h8⟩ := h
  have e : (I 30 7).toNat = S.2 := by omega
  have hw : S.1 = true ↔ I 30 8 = 1 := by
    by_cases a : S.1 = true
    · rw [if_pos a] at h3; exact ⟨fun _ => h3, fun _ => a⟩
    · rw [if_neg a] at h3; exact ⟨fun e => absurd e a, fun e => by omega⟩
  refine ⟨?_, by omega, by omega, by omega, ?_, fun hl => ?_, hw, h2⟩
  · unfold ccS
    rw [e]
    by_cases b : S.2 < n
    · rw [(h8 _ b).1]
      by_cases c : S.1 = true ∧ tx S.2 ≠ 59
      · rw [if_pos ⟨c.1, b, c.2⟩, if_pos ⟨hw.mp c.1, by omega, c.2⟩]
      · rw [if_neg (fun x => c ⟨x.1, x.2.2⟩), if_neg (fun x => c ⟨hw.mpr x.1, x.2.2⟩)]
    · rw [if_neg (fun x => b x.2.1), if_neg (by omega)]
  · by_cases a : S.1 = true
    · rw [if_pos a] at h3; exact Or.inr h3
    · rw [if_neg a] at h3; exact Or.inl h3
  · rw [e, (h8 _ (by omega)).1]; exact (h8 _ (by omega)).2
theorem RQ.adv {I : Nat → Nat → Int} {tx : Nat → Int} {n : Nat} {S : CS} {v : Int} (h : RQ I tx n S) (hv : v = I 30 7 + 1) (hlt : I 30 7 < I 30 6) : RQ (up2 I 30 7 v) tx n (cAdv S) := by
  obtain ⟨h1, h2, h3, h5, h7, h8⟩ := h
  refine ⟨h1, ?_, h3, ?_, h7, h8⟩
  · show v = ((S.2 + 1 : Nat) : Int); omega
  · show S.2 + 1 ≤ n; omega
theorem RQ.bad {I : Nat → Nat → Int} {tx : Nat → Int} {n : Nat} {S : CS} (h : RQ I tx n S) : RQ (up2 I 30 8 0) tx n (cBad S) := by
  obtain ⟨h1, h2, h3, h5, h7, h8⟩ := h
  exact ⟨h1, h2, rfl, h5, h7, h8⟩
theorem RQ.bad' {I : Nat → Nat → Int} {tx : Nat → Int} {n : Nat} {S : CS} (h : RQ I tx n S) (h0 : I 30 8 = 0) : RQ I tx n (cBad S) := by
  have e : S.1 = false := by
    have := (RQ.cS h).2.2.2.2.2.2.1
    cases hS : S.1 with
    | false => rfl
    | true => have := this.mp hS; omega
  rw [cbad_dead e]; exact h
theorem RQ.fr {I J : Nat → Nat → Int} {tx : Nat → Int} {n : Nat} {S : CS} (h : RQ I tx n S) (hJ : ∀ o k, (o = 30 ∧ (k = 6 ∨ k = 7 ∨ k = 8)) ∨ o = 34 → J o k = I o k) : RQ J tx n S := by
  obtain ⟨h1, h2, h3, h5, h7, h8⟩ := h
  exact ⟨(hJ _ _ (by omega)).trans h1, (hJ _ _ (by omega)).trans h2, (hJ _ _ (by omega)).trans h3, h5, h7, fun k hk => ⟨(hJ _ _ (by omega)).trans (h8 k hk).1, (h8 k hk).2⟩⟩
def envR (I : Nat → Nat → Int) : CEnv := (I 30 24, I 30 25, fun k => I 45 k, I 31 64, fun k => I 31 k)
theorem envR_fr {I J : Nat → Nat → Int} (h : QFr I J) : envR J = envR I := by
  have e1 : (fun k => J 45 k) = fun k => I 45 k := funext fun k => h 45 k (by omega)
  have e2 : (fun k => J 31 k) = fun k => I 31 k := funext fun k => h 31 k (by omega)
  unfold envR
  rw [h 30 24 (by omega), h 30 25 (by omega), h 31 64 (by omega), e1, e2]
/-- rows and letters are such that values can be worked out -/
def EOK (I : Nat → Nat → Int) : Prop := 0 ≤ I 31 64 ∧ I 31 64 ≤ 32 ∧ -1 ≤ I 30 25 ∧ (I 30 27 = 0 ∨ I 30 27 = 1) ∧ (0 ≤ I 30 25 → 0 ≤ I 30 24 ∧ I 30 24 ≤ I 30 25 ∧ I 30 25 < I 31 64) ∧ I 30 25 < 32 ∧ ∀ k, k < 64 → -999 ≤ I 31 k ∧ I 31 k ≤ 1000
theorem EOK.fr {I J : Nat → Nat → Int} (h : EOK I) (hf : QFr I J) (hl : J 30 27 = 0 ∨ J 30 27 = 1) : EOK J := by
  obtain ⟨h1, h2, h3, h4, h5, h6, h7⟩ := h
  refine ⟨?_, ?_, ?_, hl, ?_, ?_, fun k hk => ?_⟩
  · rw [hf 31 64 (by omega)]; exact h1
  · rw [hf 31 64 (by omega)]; exact h2
  · rw [hf 30 25 (by omega)]; exact h3
  · rw [hf 31 64 (by omega), hf 30 25 (by omega), hf 30 24 (by omega)]; exact h5
  · rw [hf 30 25 (by omega)]; exact h6
  · rw [hf 31 k (by omega)]; exact h7 k hk
theorem EOK.frs {I J : Nat → Nat → Int} (h : EOK I) (hf : QFs I J) : EOK J := h.fr hf.r (by rw [hf 30 27 (by omega)]; exact h.2.2.2.1)

set_option maxHeartbeats 4000000 in
theorem q_isAt (tx : Nat → Int) (n : Nat) (S : CS) (m : Mem) (c : Int)   (hL : Lay (mT m) (mR m)) (hP : RQ (mI m) tx n S) (hc : c ≠ -1 ∧ c ≠ 59) : Ct μX11_isAt 0 [vr 30, vi c] m (ri fun x_ m' => (x_ = if ccS tx n S = c then 1 else 0) ∧ m = m') := by
  refine Ct_of_V rfl (by decide) rfl (Nat.le_of_ble_eq_true rfl) ?_
  show V μX11_isAt 0 m _ 0 [(0, vr 30), (1, vi c)] [] m
  refine V_rg (k := 1) (x := c) rfl fun r_c => ?_
  obtain ⟨hs, ha0, ha1, ha2, hw, ht, hb, hi⟩ := RQ.cS hP
  refine V_ld (pc := 0) dX11_isAt_0 (v := vr 30) rfl rfl ?_
  refine V_getIv (pc := 1) dX11_isAt_1 (v := mI m 30 8) fw_RX11_128 rfl hL.t30 rfl (fun g1 => ?_)
  refine V_if_eq (pc := 4) dX11_isAt_4 (tgt := 35) rfl (fun h4 => ?_) (fun h4 => ?_)
  · skip
    refine V_iconst (pc := 35) dX11_isAt_35 (by unfold I32; omega) ?_
    refine V_reti (pc := 36) dX11_isAt_36 (show _ = (0 : Int) ∨ _ = (1 : Int) from by first | exact Or.inl rfl | exact Or.inr rfl | omega) ?_
    exact ⟨by rw [hs]; omega, rfl⟩
  · skip
    refine V_ld (pc := 7) dX11_isAt_7 (v := vr 30) rfl rfl ?_
    refine V_getIv (pc := 8) dX11_isAt_8 (v := mI m 30 7) fw_RX11_125 rfl hL.t30 rfl (fun g8 => ?_)
    refine V_ld (pc := 11) dX11_isAt_11 (v := vr 30) rfl rfl ?_
    refine V_getIv (pc := 12) dX11_isAt_12 (v := mI m 30 6) fw_RX11_122 rfl hL.t30 rfl (fun g12 => ?_)
    refine V_icmp_ge (pc := 15) dX11_isAt_15 (tgt := 35) rfl (fun h15 => ?_) (fun h15 => ?_)
    · skip
      refine V_iconst (pc := 35) dX11_isAt_35 (by unfold I32; omega) ?_
      refine V_reti (pc := 36) dX11_isAt_36 (show _ = (0 : Int) ∨ _ = (1 : Int) from by first | exact Or.inl rfl | exact Or.inr rfl | omega) ?_
      exact ⟨by rw [hs]; omega, rfl⟩
    · skip
      refine V_ld (pc := 18) dX11_isAt_18 (v := vr 30) rfl rfl ?_
      refine V_getRv (pc := 19) dX11_isAt_19 (o' := 34) fw_RX11_21 rfl hL.t30 hL.r30_5 ?_
      refine V_ld (pc := 22) dX11_isAt_22 (v := vr 30) rfl rfl ?_
      refine V_getIv (pc := 23) dX11_isAt_23 (v := mI m 30 7) fw_RX11_125 rfl hL.t30 rfl (fun g23 => ?_)
      refine V_ialdv (pc := 26) dX11_isAt_26 (v := mI m 34 ((mI m 30 7).toNat)) hL.t34 (by omega) rfl (fun g26 => ?_)
      refine V_ld (pc := 27) dX11_isAt_27 (v := vi c) rfl rfl ?_
      refine V_icmp_ne (pc := 28) dX11_isAt_28 (tgt := 35) rfl (fun h28 => ?_) (fun h28 => ?_)
      · skip
        refine V_iconst (pc := 35) dX11_isAt_35 (by unfold I32; omega) ?_
        refine V_reti (pc := 36) dX11_isAt_36 (show _ = (0 : Int) ∨ _ = (1 : Int) from by first | exact Or.inl rfl | exact Or.inr rfl | omega) ?_
        exact ⟨by rw [hs]; omega, rfl⟩
      · skip
        refine V_iconst (pc := 31) dX11_isAt_31 (by unfold I32; omega) ?_
        refine V_goto (pc := 32) dX11_isAt_32 (tgt := 36) rfl ?_
        refine V_reti (pc := 36) dX11_isAt_36 (show _ = (0 : Int) ∨ _ = (1 : Int) from by first | exact Or.inl rfl | exact Or.inr rfl | omega) ?_
        exact ⟨by rw [hs]; omega, rfl⟩

set_option maxHeartbeats 4000000 in
theorem q_isAmong (tx : Nat → Int) (n : Nat) (S : CS) (m : Mem) (a : Int) (b : Int)   (hL : Lay (mT m) (mR m)) (hP : RQ (mI m) tx n S) (hc : 0 ≤ a ∧ (59 < a ∨ b < 59)) : Ct μX11_isAmong 1 [vr 30, vi a, vi b] m (ri fun x_ m' => (x_ = if a ≤ ccS tx n S ∧ ccS tx n S ≤ b then 1 else 0) ∧ m = m') := by
  refine Ct_of_V rfl (by decide) rfl (Nat.le_of_ble_eq_true rfl) ?_
  show V μX11_isAmong 1 m _ 0 [(0, vr 30), (1, vi a), (2, vi b)] [] m
  refine V_rg (k := 1) (x := a) rfl fun r_a => ?_
  refine V_rg (k := 2) (x := b) rfl fun r_b => ?_
  obtain ⟨hs, ha0, ha1, ha2, hw, ht, hb, hi⟩ := RQ.cS hP
  refine V_ld (pc := 0) dX11_isAmong_0 (v := vr 30) rfl rfl ?_
  refine V_getIv (pc := 1) dX11_isAmong_1 (v := mI m 30 8) fw_RX11_128 rfl hL.t30 rfl (fun g1 => ?_)
  refine V_if_eq (pc := 4) dX11_isAmong_4 (tgt := 42) rfl (fun h4 => ?_) (fun h4 => ?_)
  · skip
    refine V_iconst (pc := 42) dX11_isAmong_42 (by unfold I32; omega) ?_
    refine V_reti (pc := 43) dX11_isAmong_43 (show _ = (0 : Int) ∨ _ = (1 : Int) from by first | exact Or.inl rfl | exact Or.inr rfl | omega) ?_
    exact ⟨by rw [hs]; omega, rfl⟩
  · skip
    refine V_ld (pc := 7) dX11_isAmong_7 (v := vr 30) rfl rfl ?_
    refine V_getIv (pc := 8) dX11_isAmong_8 (v := mI m 30 7) fw_RX11_125 rfl hL.t30 rfl (fun g8 => ?_)
    refine V_ld (pc := 11) dX11_isAmong_11 (v := vr 30) rfl rfl ?_
    refine V_getIv (pc := 12) dX11_isAmong_12 (v := mI m 30 6) fw_RX11_122 rfl hL.t30 rfl (fun g12 => ?_)
    refine V_icmp_ge (pc := 15) dX11_isAmong_15 (tgt := 42) rfl (fun h15 => ?_) (fun h15 => ?_)
    · skip
      refine V_iconst (pc := 42) dX11_isAmong_42 (by unfold I32; omega) ?_
      refine V_reti (pc := 43) dX11_isAmong_43 (show _ = (0 : Int) ∨ _ = (1 : Int) from by first | exact Or.inl rfl | exact Or.inr rfl | omega) ?_
      exact ⟨by rw [hs]; omega, rfl⟩
    · skip
      refine V_ld (pc := 18) dX11_isAmong_18 (v := vr 30) rfl rfl ?_
      refine V_getRv (pc := 19) dX11_isAmong_19 (o' := 34) fw_RX11_21 rfl hL.t30 hL.r30_5 ?_
      refine V_ld (pc := 22) dX11_isAmong_22 (v := vr 30) rfl rfl ?_
      refine V_getIv (pc := 23) dX11_isAmong_23 (v := mI m 30 7) fw_RX11_125 rfl hL.t30 rfl (fun g23 => ?_)
      refine V_ialdv (pc := 26) dX11_isAmong_26 (v := mI m 34 ((mI m 30 7).toNat)) hL.t34 (by omega) rfl (fun g26 => ?_)
      refine V_i2l (pc := 27) dX11_isAmong_27 ?_
      refine V_ld (pc := 28) dX11_isAmong_28 (v := vi a) rfl rfl ?_
      refine V_i2l (pc := 29) dX11_isAmong_29 ?_
      refine V_ld (pc := 30) dX11_isAmong_30 (v := vi b) rfl rfl ?_
      refine V_i2l (pc := 31) dX11_isAmong_31 ?_
      refine V_callS (pc := 32) dX11_isAmong_32 (F' := 0) (As := [vl (mI m 34 ((mI m 30 7).toNat)), vl a, vl b]) (st := []) cw_RX11_101 rfl rfl (Nat.le_of_ble_eq_true rfl) (by omega) (r_isIn  m (mI m 34 ((mI m 30 7).toNat)) a b   ) ?_
      rintro _ _ ⟨x32, rfl, hx32, rfl⟩ ok32 le32
      refine V_if_eq (pc := 35) dX11_isAmong_35 (tgt := 42) rfl (fun h35 => ?_) (fun h35 => ?_)
      · skip
        refine V_iconst (pc := 42) dX11_isAmong_42 (by unfold I32; omega) ?_
        refine V_reti (pc := 43) dX11_isAmong_43 (show _ = (0 : Int) ∨ _ = (1 : Int) from by first | exact Or.inl rfl | exact Or.inr rfl | omega) ?_
        exact ⟨by rw [hs]; omega, rfl⟩
      · skip
        refine V_iconst (pc := 38) dX11_isAmong_38 (by unfold I32; omega) ?_
        refine V_goto (pc := 39) dX11_isAmong_39 (tgt := 43) rfl ?_
        refine V_reti (pc := 43) dX11_isAmong_43 (show _ = (0 : Int) ∨ _ = (1 : Int) from by first | exact Or.inl rfl | exact Or.inr rfl | omega) ?_
        exact ⟨by rw [hs]; omega, rfl⟩

set_option maxHeartbeats 4000000 in
theorem q_takes (tx : Nat → Int) (n : Nat) (S : CS) (m : Mem) (c : Int)   (hL : Lay (mT m) (mR m)) (hP : RQ (mI m) tx n S) (hc : c ≠ -1 ∧ c ≠ 59) : Ct μX11_takes 1 [vr 30, vi c] m (rv fun m' => ∃ I_ : Nat → Nat → Int, wI m I_ = m' ∧ RQ I_ tx n (cTake tx n S c) ∧ QFs (mI m) I_) := by
  refine Ct_of_V rfl (by decide) rfl (Nat.le_of_ble_eq_true rfl) ?_
  show V μX11_takes 1 m _ 0 [(0, vr 30), (1, vi c)] [] m
  refine V_rg (k := 1) (x := c) rfl fun r_c => ?_
  obtain ⟨hs, ha0, ha1, ha2, hw, ht, hb, hi⟩ := RQ.cS hP
  refine V_ld (pc := 0) dX11_takes_0 (v := vr 30) rfl rfl ?_
  refine V_ld (pc := 1) dX11_takes_1 (v := vi c) rfl rfl ?_
  refine V_callV (pc := 2) dX11_takes_2 (F' := 0) (As := [vi c]) (st := []) cw_RX11_132 rfl rfl hL.t30 (by decide) (Nat.le_of_ble_eq_true rfl) (by omega) (q_isAt tx n S m c   (by first | assumption | omega) (by first | assumption | omega) (by first | assumption | omega)) ?_
  rintro _ _ ⟨x2, rfl, hx2, rfl⟩ ok2 le2
  refine V_if_eq (pc := 5) dX11_takes_5 (tgt := 21) rfl (fun h5 => ?_) (fun h5 => ?_)
  · skip
    refine V_ld (pc := 21) dX11_takes_21 (v := vr 30) rfl rfl ?_
    refine V_iconst (pc := 22) dX11_takes_22 (by unfold I32; omega) ?_
    refine V_putI (pc := 23) dX11_takes_23 fw_RX11_128 rfl hL.t30 (Or.inl rfl) (Or.inr ⟨rfl, by first | exact Or.inl rfl | exact Or.inr rfl | omega⟩) ?_
    refine V_retv (pc := 26) dX11_takes_26 trivial ?_
    refine ⟨mI (setI m 30 8 0), rfl, ?_, ?_⟩
    unfold cTake
    first
      | (rw [if_pos (by omega)]; exact RQ.adv hP (by omega) (by omega))
      | (rw [if_neg (by omega)]; exact RQ.bad hP)
    exact QFs.set QFs.rf (by omega)
  · skip
    refine V_ld (pc := 8) dX11_takes_8 (v := vr 30) rfl rfl ?_
    refine V_dup (pc := 9) dX11_takes_9 rfl ?_
    refine V_getIv (pc := 10) dX11_takes_10 (v := mI m 30 7) fw_RX11_125 rfl hL.t30 rfl (fun g10 => ?_)
    refine V_iconst (pc := 13) dX11_takes_13 (by unfold I32; omega) ?_
    refine V_iadd (pc := 14) dX11_takes_14 (by unfold I32 at *; omega) ?_
    refine V_putI (pc := 15) dX11_takes_15 fw_RX11_125 rfl hL.t30 (Or.inl rfl) (Or.inl rfl) ?_
    refine V_goto (pc := 18) dX11_takes_18 (tgt := 26) rfl ?_
    refine V_retv (pc := 26) dX11_takes_26 trivial ?_
    refine ⟨mI (setI m 30 7 ((mI m 30 7) + 1)), rfl, ?_, ?_⟩
    unfold cTake
    first
      | (rw [if_pos (by omega)]; exact RQ.adv hP (by omega) (by omega))
      | (rw [if_neg (by omega)]; exact RQ.bad hP)
    exact QFs.set QFs.rf (by omega)

theorem n30 {tx : Nat → Int} {n : Nat} {S : CS} (h : ¬ cDg (ccS tx n S)) : num3 tx n S = (0, cBad S) := if_neg h
theorem n31 {tx : Nat → Int} {n : Nat} {S : CS} (h : cDg (ccS tx n S)) (h2 : ¬ cDg (ccS tx n (cAdv S))) : num3 tx n S = (ccS tx n S - 48, cAdv S) := (if_pos h).trans (if_neg h2)
theorem n32 {tx : Nat → Int} {n : Nat} {S : CS} (h : cDg (ccS tx n S)) (h2 : cDg (ccS tx n (cAdv S))) (h3 : ¬ cDg (ccS tx n (cAdv (cAdv S)))) : num3 tx n S = (10 * (ccS tx n S - 48) + (ccS tx n (cAdv S) - 48), cAdv (cAdv S)) := (if_pos h).trans ((if_pos h2).trans (if_neg h3))
theorem n33 {tx : Nat → Int} {n : Nat} {S : CS} (h : cDg (ccS tx n S)) (h2 : cDg (ccS tx n (cAdv S))) (h3 : cDg (ccS tx n (cAdv (cAdv S)))) : num3 tx n S = (100 * (ccS tx n S - 48) + 10 * (ccS tx n (cAdv S) - 48) + (ccS tx n (cAdv (cAdv S)) - 48), cAdv (cAdv (cAdv S))) := (if_pos h).trans ((if_pos h2).trans (if_pos h3))

set_option maxHeartbeats 4000000 in
theorem q_number (tx : Nat → Int) (n : Nat) (S : CS) (m : Mem) (f : Int)   (hL : Lay (mT m) (mR m)) (hP : RQ (mI m) tx n S) (hf : f = 3) : Ct μX11_number 2 [vr 30, vi f] m (ri fun x_ m' => ∃ I_ : Nat → Nat → Int, wI m I_ = m' ∧ (x_ = (num3 tx n S).1) ∧ RQ I_ tx n ((num3 tx n S).2) ∧ QFs (mI m) I_) := by
  refine Ct_of_V rfl (by decide) rfl (Nat.le_of_ble_eq_true rfl) ?_
  show V μX11_number 2 m _ 0 [(0, vr 30), (1, vi f)] [] m
  refine V_rg (k := 1) (x := f) rfl fun r_f => ?_
  obtain ⟨hs, ha0, ha1, ha2, hw, ht, hb, hi⟩ := RQ.cS hP
  refine V_ld (pc := 0) dX11_number_0 (v := vr 30) rfl rfl ?_
  refine V_getIv (pc := 1) dX11_number_1 (v := mI m 30 7) fw_RX11_125 rfl hL.t30 rfl (fun g1 => ?_)
  refine V_st (pc := 4) dX11_number_4 (ls' := [(2, vi (mI m 30 7)), (0, vr 30), (1, vi f)]) rfl (Nat.le_of_ble_eq_true rfl) rfl ?_
  refine V_iconst (pc := 5) dX11_number_5 (by unfold I32; omega) ?_
  refine V_st (pc := 6) dX11_number_6 (ls' := [(3, vi 0), (2, vi (mI m 30 7)), (0, vr 30), (1, vi f)]) rfl (Nat.le_of_ble_eq_true rfl) rfl ?_
  skip
  refine V_ld (pc := 7) dX11_number_7 (v := vr 30) rfl rfl ?_
  refine V_getIv (pc := 8) dX11_number_8 (v := mI m 30 7) fw_RX11_125 rfl hL.t30 rfl (fun g8 => ?_)
  refine V_ld (pc := 11) dX11_number_11 (v := vi (mI m 30 7)) rfl rfl ?_
  refine V_isub (pc := 12) dX11_number_12 (by unfold I32 at *; omega) ?_
  refine V_ld (pc := 13) dX11_number_13 (v := vi f) rfl rfl ?_
  refine V_icmp_ge (pc := 14) dX11_number_14 (tgt := 59) rfl (fun h14 => ?_) (fun h14 => ?_)
  · skip
    refine V_ld (pc := 59) dX11_number_59 (v := vr 30) rfl rfl ?_
    refine V_getIv (pc := 60) dX11_number_60 (v := mI m 30 8) fw_RX11_128 rfl hL.t30 rfl (fun g60 => ?_)
    refine V_if_eq (pc := 63) dX11_number_63 (tgt := 79) rfl (fun h63 => ?_) (fun h63 => ?_)
    · skip
      refine V_ld (pc := 79) dX11_number_79 (v := vi 0) rfl rfl ?_
      refine V_reti (pc := 80) dX11_number_80 trivial ?_
      have e_ := n30 (tx := tx) (n := n) (S := S) (by unfold cDg; omega)
      first
        | (exfalso; omega)
        | (refine ⟨mI m, rfl, by rw [e_], ?_, ?_⟩
           · rw [e_]; first | exact RQ.bad hP | exact RQ.bad' hP (by omega)
           · first | exact QFs.rf | exact QFs.set QFs.rf (by omega))
    · skip
      refine V_ld (pc := 66) dX11_number_66 (v := vr 30) rfl rfl ?_
      refine V_getIv (pc := 67) dX11_number_67 (v := mI m 30 7) fw_RX11_125 rfl hL.t30 rfl (fun g67 => ?_)
      refine V_ld (pc := 70) dX11_number_70 (v := vi (mI m 30 7)) rfl rfl ?_
      refine V_icmp_ne (pc := 71) dX11_number_71 (tgt := 79) rfl (fun h71 => ?_) (fun h71 => ?_)
      · skip
        refine V_ld (pc := 79) dX11_number_79 (v := vi 0) rfl rfl ?_
        refine V_reti (pc := 80) dX11_number_80 trivial ?_
        have e_ := n30 (tx := tx) (n := n) (S := S) (by unfold cDg; omega)
        first
          | (exfalso; omega)
          | (refine ⟨mI m, rfl, by rw [e_], ?_, ?_⟩
             · rw [e_]; first | exact RQ.bad hP | exact RQ.bad' hP (by omega)
             · first | exact QFs.rf | exact QFs.set QFs.rf (by omega))
      · skip
        refine V_ld (pc := 74) dX11_number_74 (v := vr 30) rfl rfl ?_
        refine V_iconst (pc := 75) dX11_number_75 (by unfold I32; omega) ?_
        refine V_putI (pc := 76) dX11_number_76 fw_RX11_128 rfl hL.t30 (Or.inl rfl) (Or.inr ⟨rfl, by first | exact Or.inl rfl | exact Or.inr rfl | omega⟩) ?_
        refine V_ld (pc := 79) dX11_number_79 (v := vi 0) rfl rfl ?_
        refine V_reti (pc := 80) dX11_number_80 trivial ?_
        have e_ := n30 (tx := tx) (n := n) (S := S) (by unfold cDg; omega)
        first
          | (exfalso; omega)
          | (refine ⟨mI (setI m 30 8 0), rfl, by rw [e_], ?_, ?_⟩
             · rw [e_]; first | exact RQ.bad hP | exact RQ.bad' hP (by omega)
             · first | exact QFs.rf | exact QFs.set QFs.rf (by omega))
  · skip
    skip
    refine V_ld (pc := 17) dX11_number_17 (v := vr 30) rfl rfl ?_
    refine V_bipush (pc := 18) dX11_number_18 (by unfold I32; omega) (by decide) ?_
    refine V_bipush (pc := 20) dX11_number_20 (by unfold I32; omega) (by decide) ?_
    refine V_callV (pc := 22) dX11_number_22 (F' := 1) (As := [vi 48, vi 57]) (st := []) cw_RX11_135 rfl rfl hL.t30 (by decide) (Nat.le_of_ble_eq_true rfl) (by omega) (q_isAmong tx n S m 48 57   (by first | assumption | omega) hP (by first | assumption | omega)) ?_
    rintro _ _ ⟨x221, rfl, hx221, rfl⟩ ok22 le22
    refine V_if_eq (pc := 25) dX11_number_25 (tgt := 59) rfl (fun h25 => ?_) (fun h25 => ?_)
    · skip
      refine V_ld (pc := 59) dX11_number_59 (v := vr 30) rfl rfl ?_
      refine V_getIv (pc := 60) dX11_number_60 (v := mI m 30 8) fw_RX11_128 rfl hL.t30 rfl (fun g60 => ?_)
      refine V_if_eq (pc := 63) dX11_number_63 (tgt := 79) rfl (fun h63 => ?_) (fun h63 => ?_)
      · skip
        refine V_ld (pc := 79) dX11_number_79 (v := vi 0) rfl rfl ?_
        refine V_reti (pc := 80) dX11_number_80 trivial ?_
        have e_ := n30 (tx := tx) (n := n) (S := S) (by unfold cDg; omega)
        first
          | (exfalso; omega)
          | (refine ⟨mI m, rfl, by rw [e_], ?_, ?_⟩
             · rw [e_]; first | exact RQ.bad hP | exact RQ.bad' hP (by omega)
             · first | exact QFs.rf | exact QFs.set QFs.rf (by omega))
      · skip
        refine V_ld (pc := 66) dX11_number_66 (v := vr 30) rfl rfl ?_
        refine V_getIv (pc := 67) dX11_number_67 (v := mI m 30 7) fw_RX11_125 rfl hL.t30 rfl (fun g67 => ?_)
        refine V_ld (pc := 70) dX11_number_70 (v := vi (mI m 30 7)) rfl rfl ?_
        refine V_icmp_ne (pc := 71) dX11_number_71 (tgt := 79) rfl (fun h71 => ?_) (fun h71 => ?_)
        · skip
          refine V_ld (pc := 79) dX11_number_79 (v := vi 0) rfl rfl ?_
          refine V_reti (pc := 80) dX11_number_80 trivial ?_
          have e_ := n30 (tx := tx) (n := n) (S := S) (by unfold cDg; omega)
          first
            | (exfalso; omega)
            | (refine ⟨mI m, rfl, by rw [e_], ?_, ?_⟩
               · rw [e_]; first | exact RQ.bad hP | exact RQ.bad' hP (by omega)
               · first | exact QFs.rf | exact QFs.set QFs.rf (by omega))
        · skip
          refine V_ld (pc := 74) dX11_number_74 (v := vr 30) rfl rfl ?_
          refine V_iconst (pc := 75) dX11_number_75 (by unfold I32; omega) ?_
          refine V_putI (pc := 76) dX11_number_76 fw_RX11_128 rfl hL.t30 (Or.inl rfl) (Or.inr ⟨rfl, by first | exact Or.inl rfl | exact Or.inr rfl | omega⟩) ?_
          refine V_ld (pc := 79) dX11_number_79 (v := vi 0) rfl rfl ?_
          refine V_reti (pc := 80) dX11_number_80 trivial ?_
          have e_ := n30 (tx := tx) (n := n) (S := S) (by unfold cDg; omega)
          first
            | (exfalso; omega)
            | (refine ⟨mI (setI m 30 8 0), rfl, by rw [e_], ?_, ?_⟩
               · rw [e_]; first | exact RQ.bad hP | exact RQ.bad' hP (by omega)
               · first | exact QFs.rf | exact QFs.set QFs.rf (by omega))
    · skip
      refine V_bipush (pc := 28) dX11_number_28 (by unfold I32; omega) (by decide) ?_
      refine V_ld (pc := 30) dX11_number_30 (v := vi 0) rfl rfl ?_
      refine V_imul (pc := 31) dX11_number_31 (by unfold I32 at *; omega) ?_
      refine V_ld (pc := 32) dX11_number_32 (v := vr 30) rfl rfl ?_
      refine V_getRv (pc := 33) dX11_number_33 (o' := 34) fw_RX11_21 rfl hL.t30 hL.r30_5 ?_
      refine V_ld (pc := 36) dX11_number_36 (v := vr 30) rfl rfl ?_
      refine V_getIv (pc := 37) dX11_number_37 (v := mI m 30 7) fw_RX11_125 rfl hL.t30 rfl (fun g37 => ?_)
      refine V_ialdv (pc := 40) dX11_number_40 (v := mI m 34 ((mI m 30 7).toNat)) hL.t34 (by omega) rfl (fun g40 => ?_)
      refine V_iadd (pc := 41) dX11_number_41 (by unfold I32 at *; omega) ?_
      refine V_bipush (pc := 42) dX11_number_42 (by unfold I32; omega) (by decide) ?_
      refine V_isub (pc := 44) dX11_number_44 (by unfold I32 at *; omega) ?_
      refine V_st (pc := 45) dX11_number_45 (ls' := [(3, vi (((10 * 0) + (mI m 34 ((mI m 30 7).toNat))) - 48)), (2, vi (mI m 30 7)), (0, vr 30), (1, vi f)]) rfl (Nat.le_of_ble_eq_true rfl) rfl ?_
      refine V_ld (pc := 46) dX11_number_46 (v := vr 30) rfl rfl ?_
      refine V_dup (pc := 47) dX11_number_47 rfl ?_
      refine V_getIv (pc := 48) dX11_number_48 (v := mI m 30 7) fw_RX11_125 rfl hL.t30 rfl (fun g48 => ?_)
      refine V_iconst (pc := 51) dX11_number_51 (by unfold I32; omega) ?_
      refine V_iadd (pc := 52) dX11_number_52 (by unfold I32 at *; omega) ?_
      refine V_putI (pc := 53) dX11_number_53 fw_RX11_125 rfl hL.t30 (Or.inl rfl) (Or.inl rfl) ?_
      refine V_goto (pc := 56) dX11_number_56 (tgt := 7) rfl ?_
      have hP1 : RQ (mI (setI m 30 7 ((mI m 30 7) + 1))) tx n (cAdv S) := RQ.adv hP rfl (show mI m 30 7 < mI m 30 6 from by omega)
      have hs1 : ccS tx n (cAdv S) = if mI m 30 8 = 1 ∧ (mI m 30 7) + 1 < mI m 30 6 ∧ mI m 34 ((mI m 30 7) + 1).toNat ≠ 59 then mI m 34 ((mI m 30 7) + 1).toNat else -1 := (RQ.cS hP1).1
      have ht1 : (mI m 30 7) + 1 < mI m 30 6 → 1 ≤ mI m 34 ((mI m 30 7) + 1).toNat ∧ mI m 34 ((mI m 30 7) + 1).toNat ≤ 127 := (RQ.cS hP1).2.2.2.2.2.1
      have hl1 : (mI m 30 7) + 1 ≤ mI m 30 6 := (RQ.cS hP1).2.2.1
      refine V_ld (pc := 7) dX11_number_7 (v := vr 30) rfl rfl ?_
      refine V_getIv (pc := 8) dX11_number_8 (v := (mI m 30 7) + 1) fw_RX11_125 rfl hL.t30 (by first | rfl | (simp only [mI_setI, up2]; repeat (first | rfl | rw [if_neg (by omega)] | rw [if_pos (by omega)]))) (fun g8 => ?_)
      refine V_ld (pc := 11) dX11_number_11 (v := vi (mI m 30 7)) rfl rfl ?_
      refine V_isub (pc := 12) dX11_number_12 (by unfold I32 at *; omega) ?_
      refine V_ld (pc := 13) dX11_number_13 (v := vi f) rfl rfl ?_
      refine V_icmp_ge (pc := 14) dX11_number_14 (tgt := 59) rfl (fun h14 => ?_) (fun h14 => ?_)
      · skip
        refine V_ld (pc := 59) dX11_number_59 (v := vr 30) rfl rfl ?_
        refine V_getIv (pc := 60) dX11_number_60 (v := mI m 30 8) fw_RX11_128 rfl hL.t30 (by first | rfl | (simp only [mI_setI, up2]; repeat (first | rfl | rw [if_neg (by omega)] | rw [if_pos (by omega)]))) (fun g60 => ?_)
        refine V_if_eq (pc := 63) dX11_number_63 (tgt := 79) rfl (fun h63 => ?_) (fun h63 => ?_)
        · skip
          refine V_ld (pc := 79) dX11_number_79 (v := vi (((10 * 0) + (mI m 34 ((mI m 30 7).toNat))) - 48)) rfl rfl ?_
          refine V_reti (pc := 80) dX11_number_80 trivial ?_
          first
            | (exfalso; omega)
            | (have e_ := n31 (tx := tx) (n := n) (S := S) (by unfold cDg; omega) (by unfold cDg; omega)
               refine ⟨mI (setI m 30 7 ((mI m 30 7) + 1)), rfl, by rw [e_]; show _ = ccS tx n S - 48; omega, ?_, ?_⟩
               · rw [e_]; exact hP1
               · exact (QFs.set QFs.rf (by omega)))
        · skip
          refine V_ld (pc := 66) dX11_number_66 (v := vr 30) rfl rfl ?_
          refine V_getIv (pc := 67) dX11_number_67 (v := (mI m 30 7) + 1) fw_RX11_125 rfl hL.t30 (by first | rfl | (simp only [mI_setI, up2]; repeat (first | rfl | rw [if_neg (by omega)] | rw [if_pos (by omega)]))) (fun g67 => ?_)
          refine V_ld (pc := 70) dX11_number_70 (v := vi (mI m 30 7)) rfl rfl ?_
          refine V_icmp_ne (pc := 71) dX11_number_71 (tgt := 79) rfl (fun h71 => ?_) (fun h71 => ?_)
          · skip
            refine V_ld (pc := 79) dX11_number_79 (v := vi (((10 * 0) + (mI m 34 ((mI m 30 7).toNat))) - 48)) rfl rfl ?_
            refine V_reti (pc := 80) dX11_number_80 trivial ?_
            first
              | (exfalso; omega)
              | (have e_ := n31 (tx := tx) (n := n) (S := S) (by unfold cDg; omega) (by unfold cDg; omega)
                 refine ⟨mI (setI m 30 7 ((mI m 30 7) + 1)), rfl, by rw [e_]; show _ = ccS tx n S - 48; omega, ?_, ?_⟩
                 · rw [e_]; exact hP1
                 · exact (QFs.set QFs.rf (by omega)))
          · skip
            refine V_ld (pc := 74) dX11_number_74 (v := vr 30) rfl rfl ?_
            refine V_iconst (pc := 75) dX11_number_75 (by unfold I32; omega) ?_
            refine V_putI (pc := 76) dX11_number_76 fw_RX11_128 rfl hL.t30 (Or.inl rfl) (Or.inr ⟨rfl, by first | exact Or.inl rfl | exact Or.inr rfl | omega⟩) ?_
            refine V_ld (pc := 79) dX11_number_79 (v := vi (((10 * 0) + (mI m 34 ((mI m 30 7).toNat))) - 48)) rfl rfl ?_
            refine V_reti (pc := 80) dX11_number_80 trivial ?_
            first
              | (exfalso; omega)
              | (have e_ := n31 (tx := tx) (n := n) (S := S) (by unfold cDg; omega) (by unfold cDg; omega)
                 refine ⟨mI (setI (setI m 30 7 ((mI m 30 7) + 1)) 30 8 0), rfl, by rw [e_]; show _ = ccS tx n S - 48; omega, ?_, ?_⟩
                 · rw [e_]; exact hP1
                 · exact (QFs.set QFs.rf (by omega)))
      · skip
        skip
        refine V_ld (pc := 17) dX11_number_17 (v := vr 30) rfl rfl ?_
        refine V_bipush (pc := 18) dX11_number_18 (by unfold I32; omega) (by decide) ?_
        refine V_bipush (pc := 20) dX11_number_20 (by unfold I32; omega) (by decide) ?_
        refine V_callV (pc := 22) dX11_number_22 (F' := 1) (As := [vi 48, vi 57]) (st := []) cw_RX11_135 rfl rfl hL.t30 (by decide) (Nat.le_of_ble_eq_true rfl) (by omega) (q_isAmong tx n (cAdv S) (setI m 30 7 ((mI m 30 7) + 1)) 48 57   (by first | assumption | omega) hP1 (by first | assumption | omega)) ?_
        rintro _ _ ⟨x222, rfl, hx222, rfl⟩ ok22 le22
        refine V_if_eq (pc := 25) dX11_number_25 (tgt := 59) rfl (fun h25 => ?_) (fun h25 => ?_)
        · skip
          refine V_ld (pc := 59) dX11_number_59 (v := vr 30) rfl rfl ?_
          refine V_getIv (pc := 60) dX11_number_60 (v := mI m 30 8) fw_RX11_128 rfl hL.t30 (by first | rfl | (simp only [mI_setI, up2]; repeat (first | rfl | rw [if_neg (by omega)] | rw [if_pos (by omega)]))) (fun g60 => ?_)
          refine V_if_eq (pc := 63) dX11_number_63 (tgt := 79) rfl (fun h63 => ?_) (fun h63 => ?_)
          · skip
            refine V_ld (pc := 79) dX11_number_79 (v := vi (((10 * 0) + (mI m 34 ((mI m 30 7).toNat))) - 48)) rfl rfl ?_
            refine V_reti (pc := 80) dX11_number_80 trivial ?_
            first
              | (exfalso; omega)
              | (have e_ := n31 (tx := tx) (n := n) (S := S) (by unfold cDg; omega) (by unfold cDg; omega)
                 refine ⟨mI (setI m 30 7 ((mI m 30 7) + 1)), rfl, by rw [e_]; show _ = ccS tx n S - 48; omega, ?_, ?_⟩
                 · rw [e_]; exact hP1
                 · exact (QFs.set QFs.rf (by omega)))
          · skip
            refine V_ld (pc := 66) dX11_number_66 (v := vr 30) rfl rfl ?_
            refine V_getIv (pc := 67) dX11_number_67 (v := (mI m 30 7) + 1) fw_RX11_125 rfl hL.t30 (by first | rfl | (simp only [mI_setI, up2]; repeat (first | rfl | rw [if_neg (by omega)] | rw [if_pos (by omega)]))) (fun g67 => ?_)
            refine V_ld (pc := 70) dX11_number_70 (v := vi (mI m 30 7)) rfl rfl ?_
            refine V_icmp_ne (pc := 71) dX11_number_71 (tgt := 79) rfl (fun h71 => ?_) (fun h71 => ?_)
            · skip
              refine V_ld (pc := 79) dX11_number_79 (v := vi (((10 * 0) + (mI m 34 ((mI m 30 7).toNat))) - 48)) rfl rfl ?_
              refine V_reti (pc := 80) dX11_number_80 trivial ?_
              first
                | (exfalso; omega)
                | (have e_ := n31 (tx := tx) (n := n) (S := S) (by unfold cDg; omega) (by unfold cDg; omega)
                   refine ⟨mI (setI m 30 7 ((mI m 30 7) + 1)), rfl, by rw [e_]; show _ = ccS tx n S - 48; omega, ?_, ?_⟩
                   · rw [e_]; exact hP1
                   · exact (QFs.set QFs.rf (by omega)))
            · skip
              refine V_ld (pc := 74) dX11_number_74 (v := vr 30) rfl rfl ?_
              refine V_iconst (pc := 75) dX11_number_75 (by unfold I32; omega) ?_
              refine V_putI (pc := 76) dX11_number_76 fw_RX11_128 rfl hL.t30 (Or.inl rfl) (Or.inr ⟨rfl, by first | exact Or.inl rfl | exact Or.inr rfl | omega⟩) ?_
              refine V_ld (pc := 79) dX11_number_79 (v := vi (((10 * 0) + (mI m 34 ((mI m 30 7).toNat))) - 48)) rfl rfl ?_
              refine V_reti (pc := 80) dX11_number_80 trivial ?_
              first
                | (exfalso; omega)
                | (have e_ := n31 (tx := tx) (n := n) (S := S) (by unfold cDg; omega) (by unfold cDg; omega)
                   refine ⟨mI (setI (setI m 30 7 ((mI m 30 7) + 1)) 30 8 0), rfl, by rw [e_]; show _ = ccS tx n S - 48; omega, ?_, ?_⟩
                   · rw [e_]; exact hP1
                   · exact (QFs.set QFs.rf (by omega)))
        · skip
          refine V_bipush (pc := 28) dX11_number_28 (by unfold I32; omega) (by decide) ?_
          refine V_ld (pc := 30) dX11_number_30 (v := vi (((10 * 0) + (mI m 34 ((mI m 30 7).toNat))) - 48)) rfl rfl ?_
          refine V_imul (pc := 31) dX11_number_31 (by unfold I32 at *; omega) ?_
          refine V_ld (pc := 32) dX11_number_32 (v := vr 30) rfl rfl ?_
          refine V_getRv (pc := 33) dX11_number_33 (o' := 34) fw_RX11_21 rfl hL.t30 hL.r30_5 ?_
          refine V_ld (pc := 36) dX11_number_36 (v := vr 30) rfl rfl ?_
          refine V_getIv (pc := 37) dX11_number_37 (v := (mI m 30 7) + 1) fw_RX11_125 rfl hL.t30 (by first | rfl | (simp only [mI_setI, up2]; repeat (first | rfl | rw [if_neg (by omega)] | rw [if_pos (by omega)]))) (fun g37 => ?_)
          refine V_ialdv (pc := 40) dX11_number_40 (v := mI m 34 (((mI m 30 7) + 1).toNat)) hL.t34 (by omega) (by first | rfl | (simp only [mI_setI, up2]; repeat (first | rfl | rw [if_neg (by omega)] | rw [if_pos (by omega)]))) (fun g40 => ?_)
          refine V_iadd (pc := 41) dX11_number_41 (by unfold I32 at *; omega) ?_
          refine V_bipush (pc := 42) dX11_number_42 (by unfold I32; omega) (by decide) ?_
          refine V_isub (pc := 44) dX11_number_44 (by unfold I32 at *; omega) ?_
          refine V_st (pc := 45) dX11_number_45 (ls' := [(3, vi (((10 * (((10 * 0) + (mI m 34 ((mI m 30 7).toNat))) - 48)) + (mI m 34 (((mI m 30 7) + 1).toNat))) - 48)), (2, vi (mI m 30 7)), (0, vr 30), (1, vi f)]) rfl (Nat.le_of_ble_eq_true rfl) rfl ?_
          refine V_ld (pc := 46) dX11_number_46 (v := vr 30) rfl rfl ?_
          refine V_dup (pc := 47) dX11_number_47 rfl ?_
          refine V_getIv (pc := 48) dX11_number_48 (v := (mI m 30 7) + 1) fw_RX11_125 rfl hL.t30 (by first | rfl | (simp only [mI_setI, up2]; repeat (first | rfl | rw [if_neg (by omega)] | rw [if_pos (by omega)]))) (fun g48 => ?_)
          refine V_iconst (pc := 51) dX11_number_51 (by unfold I32; omega) ?_
          refine V_iadd (pc := 52) dX11_number_52 (by unfold I32 at *; omega) ?_
          refine V_putI (pc := 53) dX11_number_53 fw_RX11_125 rfl hL.t30 (Or.inl rfl) (Or.inl rfl) ?_
          refine V_goto (pc := 56) dX11_number_56 (tgt := 7) rfl ?_
          have hP2 : RQ (mI (setI (setI m 30 7 ((mI m 30 7) + 1)) 30 7 (((mI m 30 7) + 1) + 1))) tx n (cAdv (cAdv S)) := RQ.adv hP1 rfl (show mI m 30 7 + 1 < mI m 30 6 from by omega)
          have hs2 : ccS tx n (cAdv (cAdv S)) = if mI m 30 8 = 1 ∧ ((mI m 30 7) + 1) + 1 < mI m 30 6 ∧ mI m 34 (((mI m 30 7) + 1) + 1).toNat ≠ 59 then mI m 34 (((mI m 30 7) + 1) + 1).toNat else -1 := (RQ.cS hP2).1
          have ht2 : ((mI m 30 7) + 1) + 1 < mI m 30 6 → 1 ≤ mI m 34 (((mI m 30 7) + 1) + 1).toNat ∧ mI m 34 (((mI m 30 7) + 1) + 1).toNat ≤ 127 := (RQ.cS hP2).2.2.2.2.2.1
          have hl2 : ((mI m 30 7) + 1) + 1 ≤ mI m 30 6 := (RQ.cS hP2).2.2.1
          refine V_ld (pc := 7) dX11_number_7 (v := vr 30) rfl rfl ?_
          refine V_getIv (pc := 8) dX11_number_8 (v := ((mI m 30 7) + 1) + 1) fw_RX11_125 rfl hL.t30 (by first | rfl | (simp only [mI_setI, up2]; repeat (first | rfl | rw [if_neg (by omega)] | rw [if_pos (by omega)]))) (fun g8 => ?_)
          refine V_ld (pc := 11) dX11_number_11 (v := vi (mI m 30 7)) rfl rfl ?_
          refine V_isub (pc := 12) dX11_number_12 (by unfold I32 at *; omega) ?_
          refine V_ld (pc := 13) dX11_number_13 (v := vi f) rfl rfl ?_
          refine V_icmp_ge (pc := 14) dX11_number_14 (tgt := 59) rfl (fun h14 => ?_) (fun h14 => ?_)
          · skip
            refine V_ld (pc := 59) dX11_number_59 (v := vr 30) rfl rfl ?_
            refine V_getIv (pc := 60) dX11_number_60 (v := mI m 30 8) fw_RX11_128 rfl hL.t30 (by first | rfl | (simp only [mI_setI, up2]; repeat (first | rfl | rw [if_neg (by omega)] | rw [if_pos (by omega)]))) (fun g60 => ?_)
            refine V_if_eq (pc := 63) dX11_number_63 (tgt := 79) rfl (fun h63 => ?_) (fun h63 => ?_)
            · skip
              refine V_ld (pc := 79) dX11_number_79 (v := vi (((10 * (((10 * 0) + (mI m 34 ((mI m 30 7).toNat))) - 48)) + (mI m 34 (((mI m 30 7) + 1).toNat))) - 48)) rfl rfl ?_
              refine V_reti (pc := 80) dX11_number_80 trivial ?_
              first
                | (exfalso; omega)
                | (have e_ := n32 (tx := tx) (n := n) (S := S) (by unfold cDg; omega) (by unfold cDg; omega) (by unfold cDg; omega)
                   refine ⟨mI (setI (setI m 30 7 ((mI m 30 7) + 1)) 30 7 (((mI m 30 7) + 1) + 1)), rfl, by rw [e_]; show _ = 10 * (ccS tx n S - 48) + (ccS tx n (cAdv S) - 48); omega, ?_, ?_⟩
                   · rw [e_]; exact hP2
                   · exact (QFs.set (QFs.set QFs.rf (by omega)) (by omega)))
            · skip
              refine V_ld (pc := 66) dX11_number_66 (v := vr 30) rfl rfl ?_
              refine V_getIv (pc := 67) dX11_number_67 (v := ((mI m 30 7) + 1) + 1) fw_RX11_125 rfl hL.t30 (by first | rfl | (simp only [mI_setI, up2]; repeat (first | rfl | rw [if_neg (by omega)] | rw [if_pos (by omega)]))) (fun g67 => ?_)
              refine V_ld (pc := 70) dX11_number_70 (v := vi (mI m 30 7)) rfl rfl ?_
              refine V_icmp_ne (pc := 71) dX11_number_71 (tgt := 79) rfl (fun h71 => ?_) (fun h71 => ?_)
              · skip
                refine V_ld (pc := 79) dX11_number_79 (v := vi (((10 * (((10 * 0) + (mI m 34 ((mI m 30 7).toNat))) - 48)) + (mI m 34 (((mI m 30 7) + 1).toNat))) - 48)) rfl rfl ?_
                refine V_reti (pc := 80) dX11_number_80 trivial ?_
                first
                  | (exfalso; omega)
                  | (have e_ := n32 (tx := tx) (n := n) (S := S) (by unfold cDg; omega) (by unfold cDg; omega) (by unfold cDg; omega)
                     refine ⟨mI (setI (setI m 30 7 ((mI m 30 7) + 1)) 30 7 (((mI m 30 7) + 1) + 1)), rfl, by rw [e_]; show _ = 10 * (ccS tx n S - 48) + (ccS tx n (cAdv S) - 48); omega, ?_, ?_⟩
                     · rw [e_]; exact hP2
                     · exact (QFs.set (QFs.set QFs.rf (by omega)) (by omega)))
              · skip
                refine V_ld (pc := 74) dX11_number_74 (v := vr 30) rfl rfl ?_
                refine V_iconst (pc := 75) dX11_number_75 (by unfold I32; omega) ?_
                refine V_putI (pc := 76) dX11_number_76 fw_RX11_128 rfl hL.t30 (Or.inl rfl) (Or.inr ⟨rfl, by first | exact Or.inl rfl | exact Or.inr rfl | omega⟩) ?_
                refine V_ld (pc := 79) dX11_number_79 (v := vi (((10 * (((10 * 0) + (mI m 34 ((mI m 30 7).toNat))) - 48)) + (mI m 34 (((mI m 30 7) + 1).toNat))) - 48)) rfl rfl ?_
                refine V_reti (pc := 80) dX11_number_80 trivial ?_
                first
                  | (exfalso; omega)
                  | (have e_ := n32 (tx := tx) (n := n) (S := S) (by unfold cDg; omega) (by unfold cDg; omega) (by unfold cDg; omega)
                     refine ⟨mI (setI (setI (setI m 30 7 ((mI m 30 7) + 1)) 30 7 (((mI m 30 7) + 1) + 1)) 30 8 0), rfl, by rw [e_]; show _ = 10 * (ccS tx n S - 48) + (ccS tx n (cAdv S) - 48); omega, ?_, ?_⟩
                     · rw [e_]; exact hP2
                     · exact (QFs.set (QFs.set QFs.rf (by omega)) (by omega)))
          · skip
            skip
            refine V_ld (pc := 17) dX11_number_17 (v := vr 30) rfl rfl ?_
            refine V_bipush (pc := 18) dX11_number_18 (by unfold I32; omega) (by decide) ?_
            refine V_bipush (pc := 20) dX11_number_20 (by unfold I32; omega) (by decide) ?_
            refine V_callV (pc := 22) dX11_number_22 (F' := 1) (As := [vi 48, vi 57]) (st := []) cw_RX11_135 rfl rfl hL.t30 (by decide) (Nat.le_of_ble_eq_true rfl) (by omega) (q_isAmong tx n (cAdv (cAdv S)) (setI (setI m 30 7 ((mI m 30 7) + 1)) 30 7 (((mI m 30 7) + 1) + 1)) 48 57   (by first | assumption | omega) hP2 (by first | assumption | omega)) ?_
            rintro _ _ ⟨x223, rfl, hx223, rfl⟩ ok22 le22
            refine V_if_eq (pc := 25) dX11_number_25 (tgt := 59) rfl (fun h25 => ?_) (fun h25 => ?_)
            · skip
              refine V_ld (pc := 59) dX11_number_59 (v := vr 30) rfl rfl ?_
              refine V_getIv (pc := 60) dX11_number_60 (v := mI m 30 8) fw_RX11_128 rfl hL.t30 (by first | rfl | (simp only [mI_setI, up2]; repeat (first | rfl | rw [if_neg (by omega)] | rw [if_pos (by omega)]))) (fun g60 => ?_)
              refine V_if_eq (pc := 63) dX11_number_63 (tgt := 79) rfl (fun h63 => ?_) (fun h63 => ?_)
              · skip
                refine V_ld (pc := 79) dX11_number_79 (v := vi (((10 * (((10 * 0) + (mI m 34 ((mI m 30 7).toNat))) - 48)) + (mI m 34 (((mI m 30 7) + 1).toNat))) - 48)) rfl rfl ?_
                refine V_reti (pc := 80) dX11_number_80 trivial ?_
                first
                  | (exfalso; omega)
                  | (have e_ := n32 (tx := tx) (n := n) (S := S) (by unfold cDg; omega) (by unfold cDg; omega) (by unfold cDg; omega)
                     refine ⟨mI (setI (setI m 30 7 ((mI m 30 7) + 1)) 30 7 (((mI m 30 7) + 1) + 1)), rfl, by rw [e_]; show _ = 10 * (ccS tx n S - 48) + (ccS tx n (cAdv S) - 48); omega, ?_, ?_⟩
                     · rw [e_]; exact hP2
                     · exact (QFs.set (QFs.set QFs.rf (by omega)) (by omega)))
              · skip
                refine V_ld (pc := 66) dX11_number_66 (v := vr 30) rfl rfl ?_
                refine V_getIv (pc := 67) dX11_number_67 (v := ((mI m 30 7) + 1) + 1) fw_RX11_125 rfl hL.t30 (by first | rfl | (simp only [mI_setI, up2]; repeat (first | rfl | rw [if_neg (by omega)] | rw [if_pos (by omega)]))) (fun g67 => ?_)
                refine V_ld (pc := 70) dX11_number_70 (v := vi (mI m 30 7)) rfl rfl ?_
                refine V_icmp_ne (pc := 71) dX11_number_71 (tgt := 79) rfl (fun h71 => ?_) (fun h71 => ?_)
                · skip
                  refine V_ld (pc := 79) dX11_number_79 (v := vi (((10 * (((10 * 0) + (mI m 34 ((mI m 30 7).toNat))) - 48)) + (mI m 34 (((mI m 30 7) + 1).toNat))) - 48)) rfl rfl ?_
                  refine V_reti (pc := 80) dX11_number_80 trivial ?_
                  first
                    | (exfalso; omega)
                    | (have e_ := n32 (tx := tx) (n := n) (S := S) (by unfold cDg; omega) (by unfold cDg; omega) (by unfold cDg; omega)
                       refine ⟨mI (setI (setI m 30 7 ((mI m 30 7) + 1)) 30 7 (((mI m 30 7) + 1) + 1)), rfl, by rw [e_]; show _ = 10 * (ccS tx n S - 48) + (ccS tx n (cAdv S) - 48); omega, ?_, ?_⟩
                       · rw [e_]; exact hP2
                       · exact (QFs.set (QFs.set QFs.rf (by omega)) (by omega)))
                · skip
                  refine V_ld (pc := 74) dX11_number_74 (v := vr 30) rfl rfl ?_
                  refine V_iconst (pc := 75) dX11_number_75 (by unfold I32; omega) ?_
                  refine V_putI (pc := 76) dX11_number_76 fw_RX11_128 rfl hL.t30 (Or.inl rfl) (Or.inr ⟨rfl, by first | exact Or.inl rfl | exact Or.inr rfl | omega⟩) ?_
                  refine V_ld (pc := 79) dX11_number_79 (v := vi (((10 * (((10 * 0) + (mI m 34 ((mI m 30 7).toNat))) - 48)) + (mI m 34 (((mI m 30 7) + 1).toNat))) - 48)) rfl rfl ?_
                  refine V_reti (pc := 80) dX11_number_80 trivial ?_
                  first
                    | (exfalso; omega)
                    | (have e_ := n32 (tx := tx) (n := n) (S := S) (by unfold cDg; omega) (by unfold cDg; omega) (by unfold cDg; omega)
                       refine ⟨mI (setI (setI (setI m 30 7 ((mI m 30 7) + 1)) 30 7 (((mI m 30 7) + 1) + 1)) 30 8 0), rfl, by rw [e_]; show _ = 10 * (ccS tx n S - 48) + (ccS tx n (cAdv S) - 48); omega, ?_, ?_⟩
                       · rw [e_]; exact hP2
                       · exact (QFs.set (QFs.set QFs.rf (by omega)) (by omega)))
            · skip
              refine V_bipush (pc := 28) dX11_number_28 (by unfold I32; omega) (by decide) ?_
              refine V_ld (pc := 30) dX11_number_30 (v := vi (((10 * (((10 * 0) + (mI m 34 ((mI m 30 7).toNat))) - 48)) + (mI m 34 (((mI m 30 7) + 1).toNat))) - 48)) rfl rfl ?_
              refine V_imul (pc := 31) dX11_number_31 (by unfold I32 at *; omega) ?_
              refine V_ld (pc := 32) dX11_number_32 (v := vr 30) rfl rfl ?_
              refine V_getRv (pc := 33) dX11_number_33 (o' := 34) fw_RX11_21 rfl hL.t30 hL.r30_5 ?_
              refine V_ld (pc := 36) dX11_number_36 (v := vr 30) rfl rfl ?_
              refine V_getIv (pc := 37) dX11_number_37 (v := ((mI m 30 7) + 1) + 1) fw_RX11_125 rfl hL.t30 (by first | rfl | (simp only [mI_setI, up2]; repeat (first | rfl | rw [if_neg (by omega)] | rw [if_pos (by omega)]))) (fun g37 => ?_)
              refine V_ialdv (pc := 40) dX11_number_40 (v := mI m 34 ((((mI m 30 7) + 1) + 1).toNat)) hL.t34 (by omega) (by first | rfl | (simp only [mI_setI, up2]; repeat (first | rfl | rw [if_neg (by omega)] | rw [if_pos (by omega)]))) (fun g40 => ?_)
              refine V_iadd (pc := 41) dX11_number_41 (by unfold I32 at *; omega) ?_
              refine V_bipush (pc := 42) dX11_number_42 (by unfold I32; omega) (by decide) ?_
              refine V_isub (pc := 44) dX11_number_44 (by unfold I32 at *; omega) ?_
              refine V_st (pc := 45) dX11_number_45 (ls' := [(3, vi (((10 * (((10 * (((10 * 0) + (mI m 34 ((mI m 30 7).toNat))) - 48)) + (mI m 34 (((mI m 30 7) + 1).toNat))) - 48)) + (mI m 34 ((((mI m 30 7) + 1) + 1).toNat))) - 48)), (2, vi (mI m 30 7)), (0, vr 30), (1, vi f)]) rfl (Nat.le_of_ble_eq_true rfl) rfl ?_
              refine V_ld (pc := 46) dX11_number_46 (v := vr 30) rfl rfl ?_
              refine V_dup (pc := 47) dX11_number_47 rfl ?_
              refine V_getIv (pc := 48) dX11_number_48 (v := ((mI m 30 7) + 1) + 1) fw_RX11_125 rfl hL.t30 (by first | rfl | (simp only [mI_setI, up2]; repeat (first | rfl | rw [if_neg (by omega)] | rw [if_pos (by omega)]))) (fun g48 => ?_)
              refine V_iconst (pc := 51) dX11_number_51 (by unfold I32; omega) ?_
              refine V_iadd (pc := 52) dX11_number_52 (by unfold I32 at *; omega) ?_
              refine V_putI (pc := 53) dX11_number_53 fw_RX11_125 rfl hL.t30 (Or.inl rfl) (Or.inl rfl) ?_
              refine V_goto (pc := 56) dX11_number_56 (tgt := 7) rfl ?_
              have hP3 : RQ (mI (setI (setI (setI m 30 7 ((mI m 30 7) + 1)) 30 7 (((mI m 30 7) + 1) + 1)) 30 7 ((((mI m 30 7) + 1) + 1) + 1))) tx n (cAdv (cAdv (cAdv S))) := RQ.adv hP2 rfl (show mI m 30 7 + 1 + 1 < mI m 30 6 from by omega)
              have hs3 : ccS tx n (cAdv (cAdv (cAdv S))) = if mI m 30 8 = 1 ∧ (((mI m 30 7) + 1) + 1) + 1 < mI m 30 6 ∧ mI m 34 ((((mI m 30 7) + 1) + 1) + 1).toNat ≠ 59 then mI m 34 ((((mI m 30 7) + 1) + 1) + 1).toNat else -1 := (RQ.cS hP3).1
              have ht3 : (((mI m 30 7) + 1) + 1) + 1 < mI m 30 6 → 1 ≤ mI m 34 ((((mI m 30 7) + 1) + 1) + 1).toNat ∧ mI m 34 ((((mI m 30 7) + 1) + 1) + 1).toNat ≤ 127 := (RQ.cS hP3).2.2.2.2.2.1
              have hl3 : (((mI m 30 7) + 1) + 1) + 1 ≤ mI m 30 6 := (RQ.cS hP3).2.2.1
              refine V_ld (pc := 7) dX11_number_7 (v := vr 30) rfl rfl ?_
              refine V_getIv (pc := 8) dX11_number_8 (v := (((mI m 30 7) + 1) + 1) + 1) fw_RX11_125 rfl hL.t30 (by first | rfl | (simp only [mI_setI, up2]; repeat (first | rfl | rw [if_neg (by omega)] | rw [if_pos (by omega)]))) (fun g8 => ?_)
              refine V_ld (pc := 11) dX11_number_11 (v := vi (mI m 30 7)) rfl rfl ?_
              refine V_isub (pc := 12) dX11_number_12 (by unfold I32 at *; omega) ?_
              refine V_ld (pc := 13) dX11_number_13 (v := vi f) rfl rfl ?_
              refine V_icmp_ge (pc := 14) dX11_number_14 (tgt := 59) rfl (fun h14 => ?_) (fun h14 => ?_)
              · skip
                refine V_ld (pc := 59) dX11_number_59 (v := vr 30) rfl rfl ?_
                refine V_getIv (pc := 60) dX11_number_60 (v := mI m 30 8) fw_RX11_128 rfl hL.t30 (by first | rfl | (simp only [mI_setI, up2]; repeat (first | rfl | rw [if_neg (by omega)] | rw [if_pos (by omega)]))) (fun g60 => ?_)
                refine V_if_eq (pc := 63) dX11_number_63 (tgt := 79) rfl (fun h63 => ?_) (fun h63 => ?_)
                · skip
                  refine V_ld (pc := 79) dX11_number_79 (v := vi (((10 * (((10 * (((10 * 0) + (mI m 34 ((mI m 30 7).toNat))) - 48)) + (mI m 34 (((mI m 30 7) + 1).toNat))) - 48)) + (mI m 34 ((((mI m 30 7) + 1) + 1).toNat))) - 48)) rfl rfl ?_
                  refine V_reti (pc := 80) dX11_number_80 trivial ?_
                  first
                    | (exfalso; omega)
                    | (have e_ := n33 (tx := tx) (n := n) (S := S) (by unfold cDg; omega) (by unfold cDg; omega) (by unfold cDg; omega)
                       refine ⟨mI (setI (setI (setI m 30 7 ((mI m 30 7) + 1)) 30 7 (((mI m 30 7) + 1) + 1)) 30 7 ((((mI m 30 7) + 1) + 1) + 1)), rfl, by rw [e_]; show _ = 100 * (ccS tx n S - 48) + 10 * (ccS tx n (cAdv S) - 48) + (ccS tx n (cAdv (cAdv S)) - 48); omega, ?_, ?_⟩
                       · rw [e_]; exact hP3
                       · exact (QFs.set (QFs.set (QFs.set QFs.rf (by omega)) (by omega)) (by omega)))
                · skip
                  refine V_ld (pc := 66) dX11_number_66 (v := vr 30) rfl rfl ?_
                  refine V_getIv (pc := 67) dX11_number_67 (v := (((mI m 30 7) + 1) + 1) + 1) fw_RX11_125 rfl hL.t30 (by first | rfl | (simp only [mI_setI, up2]; repeat (first | rfl | rw [if_neg (by omega)] | rw [if_pos (by omega)]))) (fun g67 => ?_)
                  refine V_ld (pc := 70) dX11_number_70 (v := vi (mI m 30 7)) rfl rfl ?_
                  refine V_icmp_ne (pc := 71) dX11_number_71 (tgt := 79) rfl (fun h71 => ?_) (fun h71 => ?_)
                  · skip
                    refine V_ld (pc := 79) dX11_number_79 (v := vi (((10 * (((10 * (((10 * 0) + (mI m 34 ((mI m 30 7).toNat))) - 48)) + (mI m 34 (((mI m 30 7) + 1).toNat))) - 48)) + (mI m 34 ((((mI m 30 7) + 1) + 1).toNat))) - 48)) rfl rfl ?_
                    refine V_reti (pc := 80) dX11_number_80 trivial ?_
                    first
                      | (exfalso; omega)
                      | (have e_ := n33 (tx := tx) (n := n) (S := S) (by unfold cDg; omega) (by unfold cDg; omega) (by unfold cDg; omega)
                         refine ⟨mI (setI (setI (setI m 30 7 ((mI m 30 7) + 1)) 30 7 (((mI m 30 7) + 1) + 1)) 30 7 ((((mI m 30 7) + 1) + 1) + 1)), rfl, by rw [e_]; show _ = 100 * (ccS tx n S - 48) + 10 * (ccS tx n (cAdv S) - 48) + (ccS tx n (cAdv (cAdv S)) - 48); omega, ?_, ?_⟩
                         · rw [e_]; exact hP3
                         · exact (QFs.set (QFs.set (QFs.set QFs.rf (by omega)) (by omega)) (by omega)))
                  · skip
                    refine V_ld (pc := 74) dX11_number_74 (v := vr 30) rfl rfl ?_
                    refine V_iconst (pc := 75) dX11_number_75 (by unfold I32; omega) ?_
                    refine V_putI (pc := 76) dX11_number_76 fw_RX11_128 rfl hL.t30 (Or.inl rfl) (Or.inr ⟨rfl, by first | exact Or.inl rfl | exact Or.inr rfl | omega⟩) ?_
                    refine V_ld (pc := 79) dX11_number_79 (v := vi (((10 * (((10 * (((10 * 0) + (mI m 34 ((mI m 30 7).toNat))) - 48)) + (mI m 34 (((mI m 30 7) + 1).toNat))) - 48)) + (mI m 34 ((((mI m 30 7) + 1) + 1).toNat))) - 48)) rfl rfl ?_
                    refine V_reti (pc := 80) dX11_number_80 trivial ?_
                    first
                      | (exfalso; omega)
                      | (have e_ := n33 (tx := tx) (n := n) (S := S) (by unfold cDg; omega) (by unfold cDg; omega) (by unfold cDg; omega)
                         refine ⟨mI (setI (setI (setI (setI m 30 7 ((mI m 30 7) + 1)) 30 7 (((mI m 30 7) + 1) + 1)) 30 7 ((((mI m 30 7) + 1) + 1) + 1)) 30 8 0), rfl, by rw [e_]; show _ = 100 * (ccS tx n S - 48) + 10 * (ccS tx n (cAdv S) - 48) + (ccS tx n (cAdv (cAdv S)) - 48); omega, ?_, ?_⟩
                         · rw [e_]; exact hP3
                         · exact (QFs.set (QFs.set (QFs.set QFs.rf (by omega)) (by omega)) (by omega)))
              · skip
                exfalso; omega

set_option maxHeartbeats 4000000 in
theorem q_column (tx : Nat → Int) (n : Nat) (S : CS) (m : Mem)    (hL : Lay (mT m) (mR m)) (hP : RQ (mI m) tx n S) : Ct μX11_column 2 [vr 30] m (ri fun x_ m' => ∃ I_ : Nat → Nat → Int, wI m I_ = m' ∧ (x_ = (cCol tx n S).1) ∧ RQ I_ tx n ((cCol tx n S).2) ∧ QFs (mI m) I_) := by
  refine Ct_of_V rfl (by decide) rfl (Nat.le_of_ble_eq_true rfl) ?_
  show V μX11_column 2 m _ 0 [(0, vr 30)] [] m
  refine V_ld (pc := 0) dX11_column_0 (v := vr 30) rfl rfl ?_
  refine V_bipush (pc := 1) dX11_column_1 (by unfold I32; omega) (by decide) ?_
  refine V_callV (pc := 3) dX11_column_3 (F' := 0) (As := [vi 121]) (st := []) cw_RX11_132 rfl rfl hL.t30 (by decide) (Nat.le_of_ble_eq_true rfl) (by omega) (q_isAt tx n S m 121   (by first | assumption | omega) (by first | assumption | omega) (by decide)) ?_
  rintro _ _ ⟨x3, rfl, hx3, rfl⟩ ok3 le3
  refine V_if_eq (pc := 6) dX11_column_6 (tgt := 13) rfl (fun h6 => ?_) (fun h6 => ?_)
  · skip
    refine V_iconst (pc := 13) dX11_column_13 (by unfold I32; omega) ?_
    refine V_st (pc := 14) dX11_column_14 (ls' := [(1, vi 0), (0, vr 30)]) rfl (Nat.le_of_ble_eq_true rfl) rfl ?_
    refine V_ld (pc := 15) dX11_column_15 (v := vr 30) rfl rfl ?_
    refine V_ld (pc := 16) dX11_column_16 (v := vi 0) rfl rfl ?_
    refine V_iconst (pc := 17) dX11_column_17 (by unfold I32; omega) ?_
    refine V_icmp_ne (pc := 18) dX11_column_18 (tgt := 26) rfl (fun _ => ?_) (fun h_ => absurd h_ (by decide))
    refine V_bipush (pc := 26) dX11_column_26 (by unfold I32; omega) (by decide) ?_
    refine V_callV (pc := 28) dX11_column_28 (F' := 1) (As := [vi 120]) (st := []) cw_RX11_146 rfl rfl hL.t30 (by decide) (Nat.le_of_ble_eq_true rfl) (by omega) (q_takes tx n S m 120   (by first | assumption | omega) hP (by decide)) ?_
    rintro _ _ ⟨rfl, Ix28, rfl, hP28, hF28⟩ ok28 le28
    have hB28 := hP28.2.2.2.1
    refine V_ld (pc := 31) dX11_column_31 (v := vi 0) rfl rfl ?_
    refine V_reti (pc := 32) dX11_column_32 trivial ?_
    first
      | (have e_ : cCol tx n S = (1, cAdv S) := if_pos (by omega)
         have e2_ : cTake tx n S 121 = cAdv S := if_pos (by omega)
         refine ⟨mI (wI m Ix28), rfl, by rw [e_], ?_, hF28⟩
         rw [e_]
         have h_ := hP28
         rw [e2_] at h_
         exact h_)
      | (have e_ : cCol tx n S = (0, cTake tx n S 120) := if_neg (by omega)
         refine ⟨mI (wI m Ix28), rfl, by rw [e_], ?_, hF28⟩
         rw [e_]
         exact hP28)
  · skip
    refine V_iconst (pc := 9) dX11_column_9 (by unfold I32; omega) ?_
    refine V_goto (pc := 10) dX11_column_10 (tgt := 14) rfl ?_
    refine V_st (pc := 14) dX11_column_14 (ls' := [(1, vi 1), (0, vr 30)]) rfl (Nat.le_of_ble_eq_true rfl) rfl ?_
    refine V_ld (pc := 15) dX11_column_15 (v := vr 30) rfl rfl ?_
    refine V_ld (pc := 16) dX11_column_16 (v := vi 1) rfl rfl ?_
    refine V_iconst (pc := 17) dX11_column_17 (by unfold I32; omega) ?_
    refine V_icmp_ne (pc := 18) dX11_column_18 (tgt := 26) rfl (fun h_ => absurd h_ (by decide)) (fun _ => ?_)
    refine V_bipush (pc := 21) dX11_column_21 (by unfold I32; omega) (by decide) ?_
    refine V_goto (pc := 23) dX11_column_23 (tgt := 28) rfl ?_
    refine V_callV (pc := 28) dX11_column_28 (F' := 1) (As := [vi 121]) (st := []) cw_RX11_146 rfl rfl hL.t30 (by decide) (Nat.le_of_ble_eq_true rfl) (by omega) (q_takes tx n S m 121   (by first | assumption | omega) hP (by decide)) ?_
    rintro _ _ ⟨rfl, Ix28, rfl, hP28, hF28⟩ ok28 le28
    have hB28 := hP28.2.2.2.1
    refine V_ld (pc := 31) dX11_column_31 (v := vi 1) rfl rfl ?_
    refine V_reti (pc := 32) dX11_column_32 trivial ?_
    first
      | (have e_ : cCol tx n S = (1, cAdv S) := if_pos (by omega)
         have e2_ : cTake tx n S 121 = cAdv S := if_pos (by omega)
         refine ⟨mI (wI m Ix28), rfl, by rw [e_], ?_, hF28⟩
         rw [e_]
         have h_ := hP28
         rw [e2_] at h_
         exact h_)
      | (have e_ : cCol tx n S = (0, cTake tx n S 120) := if_neg (by omega)
         refine ⟨mI (wI m Ix28), rfl, by rw [e_], ?_, hF28⟩
         rw [e_]
         exact hP28)

theorem up2_nx {α : Type} {f : Nat → Nat → α} {o k o' k' : Nat} {v : α} (h : ¬ (o' = o ∧ k' = k)) : up2 f o k v o' k' = f o' k' := if_neg h

set_option maxHeartbeats 4000000 in
theorem q_seen  (m : Mem) (r : Int) (c : Int)   (hL : Lay (mT m) (mR m)) (hE : EOK (mI m)) (hc : 0 ≤ c ∧ c ≤ 1) : Ct μX11_seen 2 [vr 30, vi r, vi c] m (rl fun x_ m' => ∃ I_ : Nat → Nat → Int, wI m I_ = m' ∧ (0 ≤ mI m 30 25 → x_ = (cellE (envR (mI m)) r c).getD 0 ∧ I_ 30 27 = (if (cellE (envR (mI m)) r c).isSome = true then mI m 30 27 else 1)) ∧ (I_ 30 27 = 0 ∨ I_ 30 27 = 1) ∧ ∀ o k, ¬ (o = 30 ∧ k = 27) → I_ o k = mI m o k) := by
  refine Ct_of_V rfl (by decide) rfl (Nat.le_of_ble_eq_true rfl) ?_
  show V μX11_seen 2 m _ 0 [(0, vr 30), (1, vi r), (2, vi c)] [] m
  refine V_rg (k := 1) (x := r) rfl fun r_r => ?_
  refine V_rg (k := 2) (x := c) rfl fun r_c => ?_
  obtain ⟨e1, e2, e3, e4, e5, e6, e7⟩ := hE
  refine V_ld (pc := 0) dX11_seen_0 (v := vr 30) rfl rfl ?_
  refine V_getIv (pc := 1) dX11_seen_1 (v := mI m 30 25) fw_RX11_216 rfl hL.t30 rfl (fun g1 => ?_)
  refine V_if_ge (pc := 4) dX11_seen_4 (tgt := 9) rfl (fun h4 => ?_) (fun h4 => ?_)
  · skip
    refine V_ld (pc := 9) dX11_seen_9 (v := vr 30) rfl rfl ?_
    refine V_ld (pc := 10) dX11_seen_10 (v := vi r) rfl rfl ?_
    refine V_callV (pc := 11) dX11_seen_11 (F' := 1) (As := [vi r]) (st := []) cw_RX11_113 rfl rfl hL.t30 (by decide) (Nat.le_of_ble_eq_true rfl) (by omega) (r_isRow  m r   (by first | assumption | omega) ⟨e1, e2⟩) ?_
    rintro _ _ ⟨x11, rfl, hx11, rfl⟩ ok11 le11
    refine V_if_eq (pc := 14) dX11_seen_14 (tgt := 37) rfl (fun h14 => ?_) (fun h14 => ?_)
    · skip
      refine V_iconst (pc := 37) dX11_seen_37 (by unfold I32; omega) ?_
      refine V_st (pc := 38) dX11_seen_38 (ls' := [(3, vi 0), (0, vr 30), (1, vi r), (2, vi c)]) rfl (Nat.le_of_ble_eq_true rfl) rfl ?_
      refine V_ld (pc := 39) dX11_seen_39 (v := vr 30) rfl rfl ?_
      refine V_ld (pc := 40) dX11_seen_40 (v := vr 30) rfl rfl ?_
      refine V_getIv (pc := 41) dX11_seen_41 (v := mI m 30 27) fw_RX11_219 rfl hL.t30 rfl (fun g41 => ?_)
      refine V_if_ne (pc := 44) dX11_seen_44 (tgt := 51) rfl (fun h44 => ?_) (fun h44 => ?_)
      · skip
        refine V_iconst (pc := 51) dX11_seen_51 (by unfold I32; omega) ?_
        refine V_goto (pc := 52) dX11_seen_52 (tgt := 56) rfl ?_
        refine V_putI (pc := 56) dX11_seen_56 fw_RX11_219 rfl hL.t30 (Or.inl rfl) (Or.inr ⟨rfl, by first | exact Or.inl rfl | exact Or.inr rfl | omega⟩) ?_
        refine V_ld (pc := 59) dX11_seen_59 (v := vi 0) rfl rfl ?_
        refine V_if_eq (pc := 60) dX11_seen_60 (tgt := 77) rfl (fun _ => ?_) (fun h_ => absurd h_ (by decide))
        refine V_lconst (pc := 77) dX11_seen_77 (x := 0) (by unfold I64; omega) (by decide) ?_
        refine V_retl (pc := 78) dX11_seen_78 trivial ?_
        have v27 : mI (setI m 30 27 1) 30 27 = 1 := mI_sets
        first
          | (exfalso; omega)
          | (have e_ : cellE (envR (mI m)) r c = some (mI m 31 (2 * r + c).toNat) := if_pos ⟨by omega, (show r < mI m 31 64 from by omega), (show mI m 31 (2 * r + c).toNat ≠ 1000 from by omega)⟩
             refine ⟨mI (setI m 30 27 1), rfl, fun _ => ⟨by rw [e_]; rfl, ?_⟩, by omega, fun o k h_ => up2_nx h_⟩
             rw [e_, v27]
             show (1 : Int) = mI m 30 27
             omega)
          | (have e_ : cellE (envR (mI m)) r c = none := if_neg (fun h_ => by
               have h1_ := h_.1
               have h2_ : r < mI m 31 64 := h_.2.1
               have h3_ : mI m 31 (2 * r + c).toNat ≠ 1000 := h_.2.2
               omega)
             refine ⟨mI (setI m 30 27 1), rfl, fun _ => ⟨by rw [e_]; rfl, ?_⟩, by omega, fun o k h_ => up2_nx h_⟩
             rw [e_, v27]
             show (1 : Int) = 1
             omega)
      · skip
        refine V_ld (pc := 47) dX11_seen_47 (v := vi 0) rfl rfl ?_
        refine V_if_ne (pc := 48) dX11_seen_48 (tgt := 55) rfl (fun h_ => absurd h_ (by decide)) (fun _ => ?_)
        refine V_iconst (pc := 51) dX11_seen_51 (by unfold I32; omega) ?_
        refine V_goto (pc := 52) dX11_seen_52 (tgt := 56) rfl ?_
        refine V_putI (pc := 56) dX11_seen_56 fw_RX11_219 rfl hL.t30 (Or.inl rfl) (Or.inr ⟨rfl, by first | exact Or.inl rfl | exact Or.inr rfl | omega⟩) ?_
        refine V_ld (pc := 59) dX11_seen_59 (v := vi 0) rfl rfl ?_
        refine V_if_eq (pc := 60) dX11_seen_60 (tgt := 77) rfl (fun _ => ?_) (fun h_ => absurd h_ (by decide))
        refine V_lconst (pc := 77) dX11_seen_77 (x := 0) (by unfold I64; omega) (by decide) ?_
        refine V_retl (pc := 78) dX11_seen_78 trivial ?_
        have v27 : mI (setI m 30 27 1) 30 27 = 1 := mI_sets
        first
          | (exfalso; omega)
          | (have e_ : cellE (envR (mI m)) r c = some (mI m 31 (2 * r + c).toNat) := if_pos ⟨by omega, (show r < mI m 31 64 from by omega), (show mI m 31 (2 * r + c).toNat ≠ 1000 from by omega)⟩
             refine ⟨mI (setI m 30 27 1), rfl, fun _ => ⟨by rw [e_]; rfl, ?_⟩, by omega, fun o k h_ => up2_nx h_⟩
             rw [e_, v27]
             show (1 : Int) = mI m 30 27
             omega)
          | (have e_ : cellE (envR (mI m)) r c = none := if_neg (fun h_ => by
               have h1_ := h_.1
               have h2_ : r < mI m 31 64 := h_.2.1
               have h3_ : mI m 31 (2 * r + c).toNat ≠ 1000 := h_.2.2
               omega)
             refine ⟨mI (setI m 30 27 1), rfl, fun _ => ⟨by rw [e_]; rfl, ?_⟩, by omega, fun o k h_ => up2_nx h_⟩
             rw [e_, v27]
             show (1 : Int) = 1
             omega)
    · skip
      refine V_ld (pc := 17) dX11_seen_17 (v := vr 30) rfl rfl ?_
      refine V_getRv (pc := 18) dX11_seen_18 (o' := 31) fw_RX11_9 rfl hL.t30 hL.r30_0 ?_
      refine V_iconst (pc := 21) dX11_seen_21 (by unfold I32; omega) ?_
      refine V_ld (pc := 22) dX11_seen_22 (v := vi r) rfl rfl ?_
      refine V_imul (pc := 23) dX11_seen_23 (by unfold I32 at *; omega) ?_
      refine V_ld (pc := 24) dX11_seen_24 (v := vi c) rfl rfl ?_
      refine V_iadd (pc := 25) dX11_seen_25 (by unfold I32 at *; omega) ?_
      refine V_ialdv (pc := 26) dX11_seen_26 (v := mI m 31 (((2 * r) + c).toNat)) hL.t31 (by omega) rfl (fun g26 => ?_)
      refine V_sipush (pc := 27) dX11_seen_27 (by unfold I32; omega) (by decide) ?_
      refine V_icmp_eq (pc := 30) dX11_seen_30 (tgt := 37) rfl (fun h30 => ?_) (fun h30 => ?_)
      · skip
        refine V_iconst (pc := 37) dX11_seen_37 (by unfold I32; omega) ?_
        refine V_st (pc := 38) dX11_seen_38 (ls' := [(3, vi 0), (0, vr 30), (1, vi r), (2, vi c)]) rfl (Nat.le_of_ble_eq_true rfl) rfl ?_
        refine V_ld (pc := 39) dX11_seen_39 (v := vr 30) rfl rfl ?_
        refine V_ld (pc := 40) dX11_seen_40 (v := vr 30) rfl rfl ?_
        refine V_getIv (pc := 41) dX11_seen_41 (v := mI m 30 27) fw_RX11_219 rfl hL.t30 rfl (fun g41 => ?_)
        refine V_if_ne (pc := 44) dX11_seen_44 (tgt := 51) rfl (fun h44 => ?_) (fun h44 => ?_)
        · skip
          refine V_iconst (pc := 51) dX11_seen_51 (by unfold I32; omega) ?_
          refine V_goto (pc := 52) dX11_seen_52 (tgt := 56) rfl ?_
          refine V_putI (pc := 56) dX11_seen_56 fw_RX11_219 rfl hL.t30 (Or.inl rfl) (Or.inr ⟨rfl, by first | exact Or.inl rfl | exact Or.inr rfl | omega⟩) ?_
          refine V_ld (pc := 59) dX11_seen_59 (v := vi 0) rfl rfl ?_
          refine V_if_eq (pc := 60) dX11_seen_60 (tgt := 77) rfl (fun _ => ?_) (fun h_ => absurd h_ (by decide))
          refine V_lconst (pc := 77) dX11_seen_77 (x := 0) (by unfold I64; omega) (by decide) ?_
          refine V_retl (pc := 78) dX11_seen_78 trivial ?_
          have v27 : mI (setI m 30 27 1) 30 27 = 1 := mI_sets
          first
            | (exfalso; omega)
            | (have e_ : cellE (envR (mI m)) r c = some (mI m 31 (2 * r + c).toNat) := if_pos ⟨by omega, (show r < mI m 31 64 from by omega), (show mI m 31 (2 * r + c).toNat ≠ 1000 from by omega)⟩
               refine ⟨mI (setI m 30 27 1), rfl, fun _ => ⟨by rw [e_]; rfl, ?_⟩, by omega, fun o k h_ => up2_nx h_⟩
               rw [e_, v27]
               show (1 : Int) = mI m 30 27
               omega)
            | (have e_ : cellE (envR (mI m)) r c = none := if_neg (fun h_ => by
                 have h1_ := h_.1
                 have h2_ : r < mI m 31 64 := h_.2.1
                 have h3_ : mI m 31 (2 * r + c).toNat ≠ 1000 := h_.2.2
                 omega)
               refine ⟨mI (setI m 30 27 1), rfl, fun _ => ⟨by rw [e_]; rfl, ?_⟩, by omega, fun o k h_ => up2_nx h_⟩
               rw [e_, v27]
               show (1 : Int) = 1
               omega)
        · skip
          refine V_ld (pc := 47) dX11_seen_47 (v := vi 0) rfl rfl ?_
          refine V_if_ne (pc := 48) dX11_seen_48 (tgt := 55) rfl (fun h_ => absurd h_ (by decide)) (fun _ => ?_)
          refine V_iconst (pc := 51) dX11_seen_51 (by unfold I32; omega) ?_
          refine V_goto (pc := 52) dX11_seen_52 (tgt := 56) rfl ?_
          refine V_putI (pc := 56) dX11_seen_56 fw_RX11_219 rfl hL.t30 (Or.inl rfl) (Or.inr ⟨rfl, by first | exact Or.inl rfl | exact Or.inr rfl | omega⟩) ?_
          refine V_ld (pc := 59) dX11_seen_59 (v := vi 0) rfl rfl ?_
          refine V_if_eq (pc := 60) dX11_seen_60 (tgt := 77) rfl (fun _ => ?_) (fun h_ => absurd h_ (by decide))
          refine V_lconst (pc := 77) dX11_seen_77 (x := 0) (by unfold I64; omega) (by decide) ?_
          refine V_retl (pc := 78) dX11_seen_78 trivial ?_
          have v27 : mI (setI m 30 27 1) 30 27 = 1 := mI_sets
          first
            | (exfalso; omega)
            | (have e_ : cellE (envR (mI m)) r c = some (mI m 31 (2 * r + c).toNat) := if_pos ⟨by omega, (show r < mI m 31 64 from by omega), (show mI m 31 (2 * r + c).toNat ≠ 1000 from by omega)⟩
               refine ⟨mI (setI m 30 27 1), rfl, fun _ => ⟨by rw [e_]; rfl, ?_⟩, by omega, fun o k h_ => up2_nx h_⟩
               rw [e_, v27]
               show (1 : Int) = mI m 30 27
               omega)
            | (have e_ : cellE (envR (mI m)) r c = none := if_neg (fun h_ => by
                 have h1_ := h_.1
                 have h2_ : r < mI m 31 64 := h_.2.1
                 have h3_ : mI m 31 (2 * r + c).toNat ≠ 1000 := h_.2.2
                 omega)
               refine ⟨mI (setI m 30 27 1), rfl, fun _ => ⟨by rw [e_]; rfl, ?_⟩, by omega, fun o k h_ => up2_nx h_⟩
               rw [e_, v27]
               show (1 : Int) = 1
               omega)
      · skip
        refine V_iconst (pc := 33) dX11_seen_33 (by unfold I32; omega) ?_
        refine V_goto (pc := 34) dX11_seen_34 (tgt := 38) rfl ?_
        refine V_st (pc := 38) dX11_seen_38 (ls' := [(3, vi 1), (0, vr 30), (1, vi r), (2, vi c)]) rfl (Nat.le_of_ble_eq_true rfl) rfl ?_
        refine V_ld (pc := 39) dX11_seen_39 (v := vr 30) rfl rfl ?_
        refine V_ld (pc := 40) dX11_seen_40 (v := vr 30) rfl rfl ?_
        refine V_getIv (pc := 41) dX11_seen_41 (v := mI m 30 27) fw_RX11_219 rfl hL.t30 rfl (fun g41 => ?_)
        refine V_if_ne (pc := 44) dX11_seen_44 (tgt := 51) rfl (fun h44 => ?_) (fun h44 => ?_)
        · skip
          refine V_iconst (pc := 51) dX11_seen_51 (by unfold I32; omega) ?_
          refine V_goto (pc := 52) dX11_seen_52 (tgt := 56) rfl ?_
          refine V_putI (pc := 56) dX11_seen_56 fw_RX11_219 rfl hL.t30 (Or.inl rfl) (Or.inr ⟨rfl, by first | exact Or.inl rfl | exact Or.inr rfl | omega⟩) ?_
          refine V_ld (pc := 59) dX11_seen_59 (v := vi 1) rfl rfl ?_
          refine V_if_eq (pc := 60) dX11_seen_60 (tgt := 77) rfl (fun h_ => absurd h_ (by decide)) (fun _ => ?_)
          refine V_ld (pc := 63) dX11_seen_63 (v := vr 30) rfl rfl ?_
          refine V_getRv (pc := 64) dX11_seen_64 (o' := 31) fw_RX11_9 rfl hL.t30 hL.r30_0 ?_
          refine V_iconst (pc := 67) dX11_seen_67 (by unfold I32; omega) ?_
          refine V_ld (pc := 68) dX11_seen_68 (v := vi r) rfl rfl ?_
          refine V_imul (pc := 69) dX11_seen_69 (by unfold I32 at *; omega) ?_
          refine V_ld (pc := 70) dX11_seen_70 (v := vi c) rfl rfl ?_
          refine V_iadd (pc := 71) dX11_seen_71 (by unfold I32 at *; omega) ?_
          refine V_ialdv (pc := 72) dX11_seen_72 (v := mI m 31 (((2 * r) + c).toNat)) hL.t31 (by omega) (by first | rfl | (simp only [mI_setI, up2]; repeat (first | rfl | rw [if_neg (by omega)] | rw [if_pos (by omega)]))) (fun g72 => ?_)
          refine V_i2l (pc := 73) dX11_seen_73 ?_
          refine V_goto (pc := 74) dX11_seen_74 (tgt := 78) rfl ?_
          refine V_retl (pc := 78) dX11_seen_78 trivial ?_
          have v27 : mI (setI m 30 27 1) 30 27 = 1 := mI_sets
          first
            | (exfalso; omega)
            | (have e_ : cellE (envR (mI m)) r c = some (mI m 31 (2 * r + c).toNat) := if_pos ⟨by omega, (show r < mI m 31 64 from by omega), (show mI m 31 (2 * r + c).toNat ≠ 1000 from by omega)⟩
               refine ⟨mI (setI m 30 27 1), rfl, fun _ => ⟨by rw [e_]; rfl, ?_⟩, by omega, fun o k h_ => up2_nx h_⟩
               rw [e_, v27]
               show (1 : Int) = mI m 30 27
               omega)
            | (have e_ : cellE (envR (mI m)) r c = none := if_neg (fun h_ => by
                 have h1_ := h_.1
                 have h2_ : r < mI m 31 64 := h_.2.1
                 have h3_ : mI m 31 (2 * r + c).toNat ≠ 1000 := h_.2.2
                 omega)
               refine ⟨mI (setI m 30 27 1), rfl, fun _ => ⟨by rw [e_]; rfl, ?_⟩, by omega, fun o k h_ => up2_nx h_⟩
               rw [e_, v27]
               show (1 : Int) = 1
               omega)
        · skip
          refine V_ld (pc := 47) dX11_seen_47 (v := vi 1) rfl rfl ?_
          refine V_if_ne (pc := 48) dX11_seen_48 (tgt := 55) rfl (fun _ => ?_) (fun h_ => absurd h_ (by decide))
          refine V_iconst (pc := 55) dX11_seen_55 (by unfold I32; omega) ?_
          refine V_putI (pc := 56) dX11_seen_56 fw_RX11_219 rfl hL.t30 (Or.inl rfl) (Or.inr ⟨rfl, by first | exact Or.inl rfl | exact Or.inr rfl | omega⟩) ?_
          refine V_ld (pc := 59) dX11_seen_59 (v := vi 1) rfl rfl ?_
          refine V_if_eq (pc := 60) dX11_seen_60 (tgt := 77) rfl (fun h_ => absurd h_ (by decide)) (fun _ => ?_)
          refine V_ld (pc := 63) dX11_seen_63 (v := vr 30) rfl rfl ?_
          refine V_getRv (pc := 64) dX11_seen_64 (o' := 31) fw_RX11_9 rfl hL.t30 hL.r30_0 ?_
          refine V_iconst (pc := 67) dX11_seen_67 (by unfold I32; omega) ?_
          refine V_ld (pc := 68) dX11_seen_68 (v := vi r) rfl rfl ?_
          refine V_imul (pc := 69) dX11_seen_69 (by unfold I32 at *; omega) ?_
          refine V_ld (pc := 70) dX11_seen_70 (v := vi c) rfl rfl ?_
          refine V_iadd (pc := 71) dX11_seen_71 (by unfold I32 at *; omega) ?_
          refine V_ialdv (pc := 72) dX11_seen_72 (v := mI m 31 (((2 * r) + c).toNat)) hL.t31 (by omega) (by first | rfl | (simp only [mI_setI, up2]; repeat (first | rfl | rw [if_neg (by omega)] | rw [if_pos (by omega)]))) (fun g72 => ?_)
          refine V_i2l (pc := 73) dX11_seen_73 ?_
          refine V_goto (pc := 74) dX11_seen_74 (tgt := 78) rfl ?_
          refine V_retl (pc := 78) dX11_seen_78 trivial ?_
          have v27 : mI (setI m 30 27 0) 30 27 = 0 := mI_sets
          first
            | (exfalso; omega)
            | (have e_ : cellE (envR (mI m)) r c = some (mI m 31 (2 * r + c).toNat) := if_pos ⟨by omega, (show r < mI m 31 64 from by omega), (show mI m 31 (2 * r + c).toNat ≠ 1000 from by omega)⟩
               refine ⟨mI (setI m 30 27 0), rfl, fun _ => ⟨by rw [e_]; rfl, ?_⟩, by omega, fun o k h_ => up2_nx h_⟩
               rw [e_, v27]
               show (0 : Int) = mI m 30 27
               omega)
            | (have e_ : cellE (envR (mI m)) r c = none := if_neg (fun h_ => by
                 have h1_ := h_.1
                 have h2_ : r < mI m 31 64 := h_.2.1
                 have h3_ : mI m 31 (2 * r + c).toNat ≠ 1000 := h_.2.2
                 omega)
               refine ⟨mI (setI m 30 27 0), rfl, fun _ => ⟨by rw [e_]; rfl, ?_⟩, by omega, fun o k h_ => up2_nx h_⟩
               rw [e_, v27]
               show (0 : Int) = 1
               omega)
  · skip
    refine V_lconst (pc := 7) dX11_seen_7 (x := 0) (by unfold I64; omega) (by decide) ?_
    refine V_retl (pc := 8) dX11_seen_8 trivial ?_
    exact ⟨mI m, rfl, fun h_ => absurd h_ (by omega), e4, fun _ _ _ => rfl⟩

theorem frE_lo (le : Nat → Int) (w : Int) : ∀ (d : Nat) (r : Int), 0 ≤ r → frE le w d r = -1 ∨ (r ≤ frE le w d r ∧ frE le w d r < r + d)
  | 0, r, _ => Or.inl rfl
  | d + 1, r, h => by
    have e2 : frE le w (d + 1) r = if le r.toNat = w then r else frE le w d (r + 1) := rfl
    rw [e2]
    by_cases c : le r.toNat = w
    · rw [if_pos c]; omega
    · rw [if_neg c]
      have := frE_lo le w d (r + 1) (by omega)
      omega
theorem lsE_lo (le : Nat → Int) (w : Int) : ∀ (d : Nat) (r : Int), 0 ≤ r → lsE le w d r = -1 ∨ (r ≤ lsE le w d r ∧ lsE le w d r < r + d)
  | 0, r, _ => Or.inl rfl
  | d + 1, r, h => by
    have e2 : lsE le w (d + 1) r = if le (r + d).toNat = w then r + d else lsE le w d r := rfl
    rw [e2]
    by_cases c : le (r + d).toNat = w
    · rw [if_pos c]; omega
    · rw [if_neg c]
      have := lsE_lo le w d r h
      omega
theorem frE_s (le : Nat → Int) (w : Int) : ∀ (d : Nat) (r : Int), 0 ≤ r → frE le w (d + 1) r = if 0 ≤ frE le w d r then frE le w d r else if le (r + d).toNat = w then r + d else -1
  | 0, r, h => by
    show (if le r.toNat = w then r else -1) = if 0 ≤ (-1 : Int) then _ else if le (r + (0 : Nat)).toNat = w then r + (0 : Nat) else -1
    simp
  | d + 1, r, h => by
    have e : frE le w (d + 1 + 1) r = if le r.toNat = w then r else frE le w (d + 1) (r + 1) := rfl
    have e2 : frE le w (d + 1) r = if le r.toNat = w then r else frE le w d (r + 1) := rfl
    rw [e, e2]
    by_cases c : le r.toNat = w
    · rw [if_pos c, if_pos c, if_pos h]
    · rw [if_neg c, if_neg c, frE_s le w d (r + 1) (by omega)]
      have e3 : r + 1 + (d : Int) = r + ((d + 1 : Nat) : Int) := by omega
      rw [e3]
theorem cnE_b (le : Nat → Int) (w r : Int) : ∀ d : Nat, 0 ≤ cnE le w d r ∧ cnE le w d r ≤ d
  | 0 => ⟨Int.le_refl _, Int.le_refl _⟩
  | d + 1 => by
    have h := cnE_b le w r d
    show 0 ≤ cnE le w d r + (if le (r + d).toNat = w then 1 else 0) ∧ cnE le w d r + (if le (r + d).toNat = w then 1 else 0) ≤ ((d + 1 : Nat) : Int)
    split <;> omega
theorem smE_b (le ce : Nat → Int) (w c r : Int) (hc : ∀ k, k < 64 → -999 ≤ ce k ∧ ce k ≤ 1000) (hr : 0 ≤ r) (h01 : 0 ≤ c ∧ c ≤ 1) : ∀ d : Nat, r + d ≤ 32 → -1000 * (d : Int) ≤ smE le ce w c d r ∧ smE le ce w c d r ≤ 1000 * (d : Int)
  | 0, _ => ⟨Int.le_refl _, Int.le_refl _⟩
  | d + 1, hd => by
    have h := smE_b le ce w c r hc hr h01 d (by omega)
    have h2 := hc (2 * (r + d) + c).toNat (by omega)
    show _ ≤ smE le ce w c d r + (if le (r + d).toNat = w ∧ ce (2 * (r + d) + c).toNat ≠ 1000 then ce (2 * (r + d) + c).toNat else 0) ∧ smE le ce w c d r + (if le (r + d).toNat = w ∧ ce (2 * (r + d) + c).toNat ≠ 1000 then ce (2 * (r + d) + c).toNat else 0) ≤ _
    split <;> omega

set_option maxHeartbeats 4000000 in
theorem L_cnt {F : Nat} {m0 m : Mem} {post : Option AV → Mem → Prop} {N : Nat} {w : Int} (hL : Lay (mT m) (mR m)) (h0 : 0 ≤ mI m 30 24) (h1 : mI m 30 25 < 32) (hN : mI m 30 25 = mI m 30 24 + (N : Int) - 1)  (kx : ∀ r v : Int, v = cnE (fun k => mI m 45 k) w N (mI m 30 24) → V μX11_counted F m0 post 39 [(3, vi r), (2, vi v), (0, vr 30), (1, vi w)] [] m) : ∀ (d i : Nat) (r v : Int), i + d = N → r = mI m 30 24 + (i : Int) → v = cnE (fun k => mI m 45 k) w i (mI m 30 24) → V μX11_counted F m0 post 7 [(3, vi r), (2, vi v), (0, vr 30), (1, vi w)] [] m := by
  intro d
  induction d with
  | zero =>
    intro i r v hi hr hv
    obtain rfl : i = N := by omega
    have hcb := cnE_b (fun k => mI m 45 k) w (mI m 30 24) i
    refine V_ld (pc := 7) dX11_counted_7 (v := vi r) rfl rfl ?_
    refine V_ld (pc := 8) dX11_counted_8 (v := vr 30) rfl rfl ?_
    refine V_getIv (pc := 9) dX11_counted_9 (v := mI m 30 25) fw_RX11_216 rfl hL.t30 rfl (fun g9 => ?_)
    refine V_icmp_gt (pc := 12) dX11_counted_12 (tgt := 39) rfl (fun h12 => ?_) (fun h12 => ?_)
    · skip
      first | (exfalso; omega) | (skip; exact kx r v hv)
    · skip
      refine V_ld (pc := 15) dX11_counted_15 (v := vi v) rfl rfl ?_
      refine V_ld (pc := 16) dX11_counted_16 (v := vr 30) rfl rfl ?_
      refine V_getRv (pc := 17) dX11_counted_17 (o' := 45) fw_RX11_54 rfl hL.t30 hL.r30_23 ?_
      refine V_ld (pc := 20) dX11_counted_20 (v := vi r) rfl rfl ?_
      refine V_ialdv (pc := 21) dX11_counted_21 (v := mI m 45 r.toNat) hL.t45 (by omega) rfl (fun g21 => ?_)
      refine V_ld (pc := 22) dX11_counted_22 (v := vi w) rfl rfl ?_
      refine V_icmp_ne (pc := 23) dX11_counted_23 (tgt := 30) rfl (fun h23 => ?_) (fun h23 => ?_)
      · skip
        refine V_iconst (pc := 30) dX11_counted_30 (by unfold I32; omega) ?_
        refine V_iadd (pc := 31) dX11_counted_31 (by unfold I32 at *; omega) ?_
        refine V_st (pc := 32) dX11_counted_32 (ls' := [(2, vi (v + 0)), (3, vi r), (0, vr 30), (1, vi w)]) rfl (Nat.le_of_ble_eq_true rfl) rfl ?_
        refine V_iinc (pc := 33) dX11_counted_33 (x := r) (ls' := [(3, vi (r + 1)), (2, vi (v + 0)), (0, vr 30), (1, vi w)]) rfl (by unfold I32 at *; omega) (Nat.le_of_ble_eq_true rfl) rfl ?_
        refine V_goto (pc := 36) dX11_counted_36 (tgt := 7) rfl ?_
        exfalso; omega
      · skip
        refine V_iconst (pc := 26) dX11_counted_26 (by unfold I32; omega) ?_
        refine V_goto (pc := 27) dX11_counted_27 (tgt := 31) rfl ?_
        refine V_iadd (pc := 31) dX11_counted_31 (by unfold I32 at *; omega) ?_
        refine V_st (pc := 32) dX11_counted_32 (ls' := [(2, vi (v + 1)), (3, vi r), (0, vr 30), (1, vi w)]) rfl (Nat.le_of_ble_eq_true rfl) rfl ?_
        refine V_iinc (pc := 33) dX11_counted_33 (x := r) (ls' := [(3, vi (r + 1)), (2, vi (v + 1)), (0, vr 30), (1, vi w)]) rfl (by unfold I32 at *; omega) (Nat.le_of_ble_eq_true rfl) rfl ?_
        refine V_goto (pc := 36) dX11_counted_36 (tgt := 7) rfl ?_
        exfalso; omega
  | succ d ih =>
    intro i r v hi hr hv
    have hcb := cnE_b (fun k => mI m 45 k) w (mI m 30 24) i
    refine V_ld (pc := 7) dX11_counted_7 (v := vi r) rfl rfl ?_
    refine V_ld (pc := 8) dX11_counted_8 (v := vr 30) rfl rfl ?_
    refine V_getIv (pc := 9) dX11_counted_9 (v := mI m 30 25) fw_RX11_216 rfl hL.t30 rfl (fun g9 => ?_)
    refine V_icmp_gt (pc := 12) dX11_counted_12 (tgt := 39) rfl (fun h12 => ?_) (fun h12 => ?_)
    · skip
      exfalso; omega
    · skip
      refine V_ld (pc := 15) dX11_counted_15 (v := vi v) rfl rfl ?_
      refine V_ld (pc := 16) dX11_counted_16 (v := vr 30) rfl rfl ?_
      refine V_getRv (pc := 17) dX11_counted_17 (o' := 45) fw_RX11_54 rfl hL.t30 hL.r30_23 ?_
      refine V_ld (pc := 20) dX11_counted_20 (v := vi r) rfl rfl ?_
      refine V_ialdv (pc := 21) dX11_counted_21 (v := mI m 45 r.toNat) hL.t45 (by omega) rfl (fun g21 => ?_)
      refine V_ld (pc := 22) dX11_counted_22 (v := vi w) rfl rfl ?_
      refine V_icmp_ne (pc := 23) dX11_counted_23 (tgt := 30) rfl (fun h23 => ?_) (fun h23 => ?_)
      · skip
        refine V_iconst (pc := 30) dX11_counted_30 (by unfold I32; omega) ?_
        refine V_iadd (pc := 31) dX11_counted_31 (by unfold I32 at *; omega) ?_
        refine V_st (pc := 32) dX11_counted_32 (ls' := [(2, vi (v + 0)), (3, vi r), (0, vr 30), (1, vi w)]) rfl (Nat.le_of_ble_eq_true rfl) rfl ?_
        refine V_iinc (pc := 33) dX11_counted_33 (x := r) (ls' := [(3, vi (r + 1)), (2, vi (v + 0)), (0, vr 30), (1, vi w)]) rfl (by unfold I32 at *; omega) (Nat.le_of_ble_eq_true rfl) rfl ?_
        refine V_goto (pc := 36) dX11_counted_36 (tgt := 7) rfl ?_
        skip
        refine ih (i + 1) (r + 1) (v + 0) (by omega) (by omega) ?_
        show _ = cnE (fun k => mI m 45 k) w i (mI m 30 24) + (if mI m 45 (mI m 30 24 + (i : Int)).toNat = w then 1 else 0)
        rw [← hr]
        first | (rw [if_pos (by omega)]; omega) | (rw [if_neg (by omega)]; omega)
      · skip
        refine V_iconst (pc := 26) dX11_counted_26 (by unfold I32; omega) ?_
        refine V_goto (pc := 27) dX11_counted_27 (tgt := 31) rfl ?_
        refine V_iadd (pc := 31) dX11_counted_31 (by unfold I32 at *; omega) ?_
        refine V_st (pc := 32) dX11_counted_32 (ls' := [(2, vi (v + 1)), (3, vi r), (0, vr 30), (1, vi w)]) rfl (Nat.le_of_ble_eq_true rfl) rfl ?_
        refine V_iinc (pc := 33) dX11_counted_33 (x := r) (ls' := [(3, vi (r + 1)), (2, vi (v + 1)), (0, vr 30), (1, vi w)]) rfl (by unfold I32 at *; omega) (Nat.le_of_ble_eq_true rfl) rfl ?_
        refine V_goto (pc := 36) dX11_counted_36 (tgt := 7) rfl ?_
        skip
        refine ih (i + 1) (r + 1) (v + 1) (by omega) (by omega) ?_
        show _ = cnE (fun k => mI m 45 k) w i (mI m 30 24) + (if mI m 45 (mI m 30 24 + (i : Int)).toNat = w then 1 else 0)
        rw [← hr]
        first | (rw [if_pos (by omega)]; omega) | (rw [if_neg (by omega)]; omega)

set_option maxHeartbeats 4000000 in
theorem q_counted  (m : Mem) (w : Int)   (hL : Lay (mT m) (mR m)) (hE : EOK (mI m)) (hpl : 0 ≤ mI m 30 25) : Ct μX11_counted 0 [vr 30, vi w] m (ri fun x_ m' => (x_ = cnE (envR (mI m)).2.2.1 w (spE (envR (mI m))) (envR (mI m)).1) ∧ m = m') := by
  refine Ct_of_V rfl (by decide) rfl (Nat.le_of_ble_eq_true rfl) ?_
  show V μX11_counted 0 m _ 0 [(0, vr 30), (1, vi w)] [] m
  refine V_rg (k := 1) (x := w) rfl fun r_w => ?_
  obtain ⟨e1, e2, e3, e4, e5, e6, e7⟩ := hE
  refine V_iconst (pc := 0) dX11_counted_0 (by unfold I32; omega) ?_
  refine V_st (pc := 1) dX11_counted_1 (ls' := [(2, vi 0), (0, vr 30), (1, vi w)]) rfl (Nat.le_of_ble_eq_true rfl) rfl ?_
  refine V_ld (pc := 2) dX11_counted_2 (v := vr 30) rfl rfl ?_
  refine V_getIv (pc := 3) dX11_counted_3 (v := mI m 30 24) fw_RX11_222 rfl hL.t30 rfl (fun g3 => ?_)
  refine V_st (pc := 6) dX11_counted_6 (ls' := [(3, vi (mI m 30 24)), (2, vi 0), (0, vr 30), (1, vi w)]) rfl (Nat.le_of_ble_eq_true rfl) rfl ?_
  skip
  have hN_ : mI m 30 25 = mI m 30 24 + ((spE (envR (mI m)) : Nat) : Int) - 1 := by
    have h_ : spE (envR (mI m)) = (mI m 30 25 - mI m 30 24 + 1).toNat := rfl
    have h5_ := e5 hpl
    omega
  have h5_ := e5 hpl
  refine L_cnt (m := m) (N := spE (envR (mI m))) hL (by omega) (by omega) hN_  ?_ (spE (envR (mI m))) 0 (mI m 30 24) 0 (by omega) (by omega) rfl
  rintro r' v' rfl
  refine V_ld (pc := 39) dX11_counted_39 (v := vi (cnE (fun k => mI m 45 k) w (spE (envR (mI m))) (mI m 30 24))) rfl rfl ?_
  refine V_reti (pc := 40) dX11_counted_40 trivial ?_
  exact ⟨rfl, rfl⟩

set_option maxHeartbeats 4000000 in
theorem L_sum {F : Nat} {m0 m : Mem} {post : Option AV → Mem → Prop} {N : Nat} {w c : Int} (hL : Lay (mT m) (mR m)) (h0 : 0 ≤ mI m 30 24) (h1 : mI m 30 25 < 32) (hN : mI m 30 25 = mI m 30 24 + (N : Int) - 1) (h01 : 0 ≤ c ∧ c ≤ 1) (hcb : ∀ k, k < 64 → -999 ≤ mI m 31 k ∧ mI m 31 k ≤ 1000) (kx : ∀ r v : Int, v = smE (fun k => mI m 45 k) (fun k => mI m 31 k) w c N (mI m 30 24) → V μX11_summed F m0 post 70 [(5, vi r), (3, vl v), (0, vr 30), (1, vi w), (2, vi c)] [] m) : ∀ (d i : Nat) (r v : Int), i + d = N → r = mI m 30 24 + (i : Int) → v = smE (fun k => mI m 45 k) (fun k => mI m 31 k) w c i (mI m 30 24) → V μX11_summed F m0 post 8 [(5, vi r), (3, vl v), (0, vr 30), (1, vi w), (2, vi c)] [] m := by
  intro d
  induction d with
  | zero =>
    intro i r v hi hr hv
    obtain rfl : i = N := by omega
    have hsb := smE_b (fun k => mI m 45 k) (fun k => mI m 31 k) w c (mI m 30 24) hcb h0 h01 i (by omega)
    refine V_ld (pc := 8) dX11_summed_8 (v := vi r) rfl rfl ?_
    refine V_ld (pc := 10) dX11_summed_10 (v := vr 30) rfl rfl ?_
    refine V_getIv (pc := 11) dX11_summed_11 (v := mI m 30 25) fw_RX11_216 rfl hL.t30 rfl (fun g11 => ?_)
    refine V_icmp_gt (pc := 14) dX11_summed_14 (tgt := 70) rfl (fun h14 => ?_) (fun h14 => ?_)
    · skip
      first | (exfalso; omega) | (skip; exact kx r v hv)
    · skip
      refine V_ld (pc := 17) dX11_summed_17 (v := vl v) rfl rfl ?_
      refine V_ld (pc := 18) dX11_summed_18 (v := vr 30) rfl rfl ?_
      refine V_getRv (pc := 19) dX11_summed_19 (o' := 45) fw_RX11_54 rfl hL.t30 hL.r30_23 ?_
      refine V_ld (pc := 22) dX11_summed_22 (v := vi r) rfl rfl ?_
      refine V_ialdv (pc := 24) dX11_summed_24 (v := mI m 45 r.toNat) hL.t45 (by omega) rfl (fun g24 => ?_)
      refine V_ld (pc := 25) dX11_summed_25 (v := vi w) rfl rfl ?_
      refine V_icmp_ne (pc := 26) dX11_summed_26 (tgt := 61) rfl (fun h26 => ?_) (fun h26 => ?_)
      · skip
        refine V_lconst (pc := 61) dX11_summed_61 (x := 0) (by unfold I64; omega) (by decide) ?_
        refine V_ladd (pc := 62) dX11_summed_62 (by unfold I64 at *; (try unfold I32 at *); omega) ?_
        refine V_st (pc := 63) dX11_summed_63 (ls' := [(3, vl (v + 0)), (5, vi r), (0, vr 30), (1, vi w), (2, vi c)]) rfl (Nat.le_of_ble_eq_true rfl) rfl ?_
        refine V_iinc (pc := 64) dX11_summed_64 (x := r) (ls' := [(5, vi (r + 1)), (3, vl (v + 0)), (0, vr 30), (1, vi w), (2, vi c)]) rfl (by unfold I32 at *; omega) (Nat.le_of_ble_eq_true rfl) rfl ?_
        refine V_goto (pc := 67) dX11_summed_67 (tgt := 8) rfl ?_
        exfalso; omega
      · skip
        refine V_ld (pc := 29) dX11_summed_29 (v := vr 30) rfl rfl ?_
        refine V_getRv (pc := 30) dX11_summed_30 (o' := 31) fw_RX11_9 rfl hL.t30 hL.r30_0 ?_
        refine V_iconst (pc := 33) dX11_summed_33 (by unfold I32; omega) ?_
        refine V_ld (pc := 34) dX11_summed_34 (v := vi r) rfl rfl ?_
        refine V_imul (pc := 36) dX11_summed_36 (by unfold I32 at *; omega) ?_
        refine V_ld (pc := 37) dX11_summed_37 (v := vi c) rfl rfl ?_
        refine V_iadd (pc := 38) dX11_summed_38 (by unfold I32 at *; omega) ?_
        refine V_ialdv (pc := 39) dX11_summed_39 (v := mI m 31 (((2 * r) + c).toNat)) hL.t31 (by omega) rfl (fun g39 => ?_)
        refine V_sipush (pc := 40) dX11_summed_40 (by unfold I32; omega) (by decide) ?_
        refine V_icmp_eq (pc := 43) dX11_summed_43 (tgt := 61) rfl (fun h43 => ?_) (fun h43 => ?_)
        · skip
          refine V_lconst (pc := 61) dX11_summed_61 (x := 0) (by unfold I64; omega) (by decide) ?_
          refine V_ladd (pc := 62) dX11_summed_62 (by unfold I64 at *; (try unfold I32 at *); omega) ?_
          refine V_st (pc := 63) dX11_summed_63 (ls' := [(3, vl (v + 0)), (5, vi r), (0, vr 30), (1, vi w), (2, vi c)]) rfl (Nat.le_of_ble_eq_true rfl) rfl ?_
          refine V_iinc (pc := 64) dX11_summed_64 (x := r) (ls' := [(5, vi (r + 1)), (3, vl (v + 0)), (0, vr 30), (1, vi w), (2, vi c)]) rfl (by unfold I32 at *; omega) (Nat.le_of_ble_eq_true rfl) rfl ?_
          refine V_goto (pc := 67) dX11_summed_67 (tgt := 8) rfl ?_
          exfalso; omega
        · skip
          refine V_ld (pc := 46) dX11_summed_46 (v := vr 30) rfl rfl ?_
          refine V_getRv (pc := 47) dX11_summed_47 (o' := 31) fw_RX11_9 rfl hL.t30 hL.r30_0 ?_
          refine V_iconst (pc := 50) dX11_summed_50 (by unfold I32; omega) ?_
          refine V_ld (pc := 51) dX11_summed_51 (v := vi r) rfl rfl ?_
          refine V_imul (pc := 53) dX11_summed_53 (by unfold I32 at *; omega) ?_
          refine V_ld (pc := 54) dX11_summed_54 (v := vi c) rfl rfl ?_
          refine V_iadd (pc := 55) dX11_summed_55 (by unfold I32 at *; omega) ?_
          refine V_ialdv (pc := 56) dX11_summed_56 (v := mI m 31 (((2 * r) + c).toNat)) hL.t31 (by omega) rfl (fun g56 => ?_)
          refine V_i2l (pc := 57) dX11_summed_57 ?_
          refine V_goto (pc := 58) dX11_summed_58 (tgt := 62) rfl ?_
          refine V_ladd (pc := 62) dX11_summed_62 (by unfold I64 at *; (try unfold I32 at *); omega) ?_
          refine V_st (pc := 63) dX11_summed_63 (ls' := [(3, vl (v + (mI m 31 (((2 * r) + c).toNat)))), (5, vi r), (0, vr 30), (1, vi w), (2, vi c)]) rfl (Nat.le_of_ble_eq_true rfl) rfl ?_
          refine V_iinc (pc := 64) dX11_summed_64 (x := r) (ls' := [(5, vi (r + 1)), (3, vl (v + (mI m 31 (((2 * r) + c).toNat)))), (0, vr 30), (1, vi w), (2, vi c)]) rfl (by unfold I32 at *; omega) (Nat.le_of_ble_eq_true rfl) rfl ?_
          refine V_goto (pc := 67) dX11_summed_67 (tgt := 8) rfl ?_
          exfalso; omega
  | succ d ih =>
    intro i r v hi hr hv
    have hsb := smE_b (fun k => mI m 45 k) (fun k => mI m 31 k) w c (mI m 30 24) hcb h0 h01 i (by omega)
    refine V_ld (pc := 8) dX11_summed_8 (v := vi r) rfl rfl ?_
    refine V_ld (pc := 10) dX11_summed_10 (v := vr 30) rfl rfl ?_
    refine V_getIv (pc := 11) dX11_summed_11 (v := mI m 30 25) fw_RX11_216 rfl hL.t30 rfl (fun g11 => ?_)
    refine V_icmp_gt (pc := 14) dX11_summed_14 (tgt := 70) rfl (fun h14 => ?_) (fun h14 => ?_)
    · skip
      exfalso; omega
    · skip
      refine V_ld (pc := 17) dX11_summed_17 (v := vl v) rfl rfl ?_
      refine V_ld (pc := 18) dX11_summed_18 (v := vr 30) rfl rfl ?_
      refine V_getRv (pc := 19) dX11_summed_19 (o' := 45) fw_RX11_54 rfl hL.t30 hL.r30_23 ?_
      refine V_ld (pc := 22) dX11_summed_22 (v := vi r) rfl rfl ?_
      refine V_ialdv (pc := 24) dX11_summed_24 (v := mI m 45 r.toNat) hL.t45 (by omega) rfl (fun g24 => ?_)
      refine V_ld (pc := 25) dX11_summed_25 (v := vi w) rfl rfl ?_
      refine V_icmp_ne (pc := 26) dX11_summed_26 (tgt := 61) rfl (fun h26 => ?_) (fun h26 => ?_)
      · skip
        refine V_lconst (pc := 61) dX11_summed_61 (x := 0) (by unfold I64; omega) (by decide) ?_
        refine V_ladd (pc := 62) dX11_summed_62 (by unfold I64 at *; (try unfold I32 at *); omega) ?_
        refine V_st (pc := 63) dX11_summed_63 (ls' := [(3, vl (v + 0)), (5, vi r), (0, vr 30), (1, vi w), (2, vi c)]) rfl (Nat.le_of_ble_eq_true rfl) rfl ?_
        refine V_iinc (pc := 64) dX11_summed_64 (x := r) (ls' := [(5, vi (r + 1)), (3, vl (v + 0)), (0, vr 30), (1, vi w), (2, vi c)]) rfl (by unfold I32 at *; omega) (Nat.le_of_ble_eq_true rfl) rfl ?_
        refine V_goto (pc := 67) dX11_summed_67 (tgt := 8) rfl ?_
        skip
        refine ih (i + 1) (r + 1) (v + 0) (by omega) (by omega) ?_
        show _ = smE (fun k => mI m 45 k) (fun k => mI m 31 k) w c i (mI m 30 24) + (if mI m 45 (mI m 30 24 + (i : Int)).toNat = w ∧ mI m 31 (2 * (mI m 30 24 + (i : Int)) + c).toNat ≠ 1000 then mI m 31 (2 * (mI m 30 24 + (i : Int)) + c).toNat else 0)
        rw [← hr]
        first | (rw [if_pos (by omega)]; omega) | (rw [if_neg (by omega)]; omega)
      · skip
        refine V_ld (pc := 29) dX11_summed_29 (v := vr 30) rfl rfl ?_
        refine V_getRv (pc := 30) dX11_summed_30 (o' := 31) fw_RX11_9 rfl hL.t30 hL.r30_0 ?_
        refine V_iconst (pc := 33) dX11_summed_33 (by unfold I32; omega) ?_
        refine V_ld (pc := 34) dX11_summed_34 (v := vi r) rfl rfl ?_
        refine V_imul (pc := 36) dX11_summed_36 (by unfold I32 at *; omega) ?_
        refine V_ld (pc := 37) dX11_summed_37 (v := vi c) rfl rfl ?_
        refine V_iadd (pc := 38) dX11_summed_38 (by unfold I32 at *; omega) ?_
        refine V_ialdv (pc := 39) dX11_summed_39 (v := mI m 31 (((2 * r) + c).toNat)) hL.t31 (by omega) rfl (fun g39 => ?_)
        refine V_sipush (pc := 40) dX11_summed_40 (by unfold I32; omega) (by decide) ?_
        refine V_icmp_eq (pc := 43) dX11_summed_43 (tgt := 61) rfl (fun h43 => ?_) (fun h43 => ?_)
        · skip
          refine V_lconst (pc := 61) dX11_summed_61 (x := 0) (by unfold I64; omega) (by decide) ?_
          refine V_ladd (pc := 62) dX11_summed_62 (by unfold I64 at *; (try unfold I32 at *); omega) ?_
          refine V_st (pc := 63) dX11_summed_63 (ls' := [(3, vl (v + 0)), (5, vi r), (0, vr 30), (1, vi w), (2, vi c)]) rfl (Nat.le_of_ble_eq_true rfl) rfl ?_
          refine V_iinc (pc := 64) dX11_summed_64 (x := r) (ls' := [(5, vi (r + 1)), (3, vl (v + 0)), (0, vr 30), (1, vi w), (2, vi c)]) rfl (by unfold I32 at *; omega) (Nat.le_of_ble_eq_true rfl) rfl ?_
          refine V_goto (pc := 67) dX11_summed_67 (tgt := 8) rfl ?_
          skip
          refine ih (i + 1) (r + 1) (v + 0) (by omega) (by omega) ?_
          show _ = smE (fun k => mI m 45 k) (fun k => mI m 31 k) w c i (mI m 30 24) + (if mI m 45 (mI m 30 24 + (i : Int)).toNat = w ∧ mI m 31 (2 * (mI m 30 24 + (i : Int)) + c).toNat ≠ 1000 then mI m 31 (2 * (mI m 30 24 + (i : Int)) + c).toNat else 0)
          rw [← hr]
          first | (rw [if_pos (by omega)]; omega) | (rw [if_neg (by omega)]; omega)
        · skip
          refine V_ld (pc := 46) dX11_summed_46 (v := vr 30) rfl rfl ?_
          refine V_getRv (pc := 47) dX11_summed_47 (o' := 31) fw_RX11_9 rfl hL.t30 hL.r30_0 ?_
          refine V_iconst (pc := 50) dX11_summed_50 (by unfold I32; omega) ?_
          refine V_ld (pc := 51) dX11_summed_51 (v := vi r) rfl rfl ?_
          refine V_imul (pc := 53) dX11_summed_53 (by unfold I32 at *; omega) ?_
          refine V_ld (pc := 54) dX11_summed_54 (v := vi c) rfl rfl ?_
          refine V_iadd (pc := 55) dX11_summed_55 (by unfold I32 at *; omega) ?_
          refine V_ialdv (pc := 56) dX11_summed_56 (v := mI m 31 (((2 * r) + c).toNat)) hL.t31 (by omega) rfl (fun g56 => ?_)
          refine V_i2l (pc := 57) dX11_summed_57 ?_
          refine V_goto (pc := 58) dX11_summed_58 (tgt := 62) rfl ?_
          refine V_ladd (pc := 62) dX11_summed_62 (by unfold I64 at *; (try unfold I32 at *); omega) ?_
          refine V_st (pc := 63) dX11_summed_63 (ls' := [(3, vl (v + (mI m 31 (((2 * r) + c).toNat)))), (5, vi r), (0, vr 30), (1, vi w), (2, vi c)]) rfl (Nat.le_of_ble_eq_true rfl) rfl ?_
          refine V_iinc (pc := 64) dX11_summed_64 (x := r) (ls' := [(5, vi (r + 1)), (3, vl (v + (mI m 31 (((2 * r) + c).toNat)))), (0, vr 30), (1, vi w), (2, vi c)]) rfl (by unfold I32 at *; omega) (Nat.le_of_ble_eq_true rfl) rfl ?_
          refine V_goto (pc := 67) dX11_summed_67 (tgt := 8) rfl ?_
          skip
          refine ih (i + 1) (r + 1) (v + (mI m 31 (((2 * r) + c).toNat))) (by omega) (by omega) ?_
          show _ = smE (fun k => mI m 45 k) (fun k => mI m 31 k) w c i (mI m 30 24) + (if mI m 45 (mI m 30 24 + (i : Int)).toNat = w ∧ mI m 31 (2 * (mI m 30 24 + (i : Int)) + c).toNat ≠ 1000 then mI m 31 (2 * (mI m 30 24 + (i : Int)) + c).toNat else 0)
          rw [← hr]
          first | (rw [if_pos (by omega)]; omega) | (rw [if_neg (by omega)]; omega)

set_option maxHeartbeats 4000000 in
theorem q_summed  (m : Mem) (w : Int) (c : Int)   (hL : Lay (mT m) (mR m)) (hE : EOK (mI m)) (hpl : 0 ≤ mI m 30 25) (h01 : 0 ≤ c ∧ c ≤ 1) : Ct μX11_summed 0 [vr 30, vi w, vi c] m (rl fun x_ m' => (x_ = smE (envR (mI m)).2.2.1 (envR (mI m)).2.2.2.2 w c (spE (envR (mI m))) (envR (mI m)).1) ∧ m = m') := by
  refine Ct_of_V rfl (by decide) rfl (Nat.le_of_ble_eq_true rfl) ?_
  show V μX11_summed 0 m _ 0 [(0, vr 30), (1, vi w), (2, vi c)] [] m
  refine V_rg (k := 1) (x := w) rfl fun r_w => ?_
  refine V_rg (k := 2) (x := c) rfl fun r_c => ?_
  obtain ⟨e1, e2, e3, e4, e5, e6, e7⟩ := hE
  refine V_lconst (pc := 0) dX11_summed_0 (x := 0) (by unfold I64; omega) (by decide) ?_
  refine V_st (pc := 1) dX11_summed_1 (ls' := [(3, vl 0), (0, vr 30), (1, vi w), (2, vi c)]) rfl (Nat.le_of_ble_eq_true rfl) rfl ?_
  refine V_ld (pc := 2) dX11_summed_2 (v := vr 30) rfl rfl ?_
  refine V_getIv (pc := 3) dX11_summed_3 (v := mI m 30 24) fw_RX11_222 rfl hL.t30 rfl (fun g3 => ?_)
  refine V_st (pc := 6) dX11_summed_6 (ls' := [(5, vi (mI m 30 24)), (3, vl 0), (0, vr 30), (1, vi w), (2, vi c)]) rfl (Nat.le_of_ble_eq_true rfl) rfl ?_
  skip
  have hN_ : mI m 30 25 = mI m 30 24 + ((spE (envR (mI m)) : Nat) : Int) - 1 := by
    have h_ : spE (envR (mI m)) = (mI m 30 25 - mI m 30 24 + 1).toNat := rfl
    have h5_ := e5 hpl
    omega
  have h5_ := e5 hpl
  refine L_sum (m := m) (N := spE (envR (mI m))) hL (by omega) (by omega) hN_ h01 e7 ?_ (spE (envR (mI m))) 0 (mI m 30 24) 0 (by omega) (by omega) rfl
  rintro r' v' rfl
  refine V_ld (pc := 70) dX11_summed_70 (v := vl (smE (fun k => mI m 45 k) (fun k => mI m 31 k) w c (spE (envR (mI m))) (mI m 30 24))) rfl rfl ?_
  refine V_retl (pc := 71) dX11_summed_71 trivial ?_
  exact ⟨rfl, rfl⟩

set_option maxHeartbeats 4000000 in
theorem L_let {F : Nat} {m0 m : Mem} {post : Option AV → Mem → Prop} {N : Nat} {w b : Int} (hL : Lay (mT m) (mR m)) (h0 : 0 ≤ mI m 30 24) (h1 : mI m 30 25 < 32) (hN : mI m 30 25 = mI m 30 24 + (N : Int) - 1)  (kx : ∀ r v : Int, v = (if b = 0 then lsE (fun k => mI m 45 k) w N (mI m 30 24) else frE (fun k => mI m 45 k) w N (mI m 30 24)) → V μX11_lettered F m0 post 49 [(4, vi r), (3, vi v), (0, vr 30), (1, vi w), (2, vi b)] [] m) : ∀ (d i : Nat) (r v : Int), i + d = N → r = mI m 30 24 + (i : Int) → v = (if b = 0 then lsE (fun k => mI m 45 k) w i (mI m 30 24) else frE (fun k => mI m 45 k) w i (mI m 30 24)) → V μX11_lettered F m0 post 8 [(4, vi r), (3, vi v), (0, vr 30), (1, vi w), (2, vi b)] [] m := by
  intro d
  induction d with
  | zero =>
    intro i r v hi hr hv
    obtain rfl : i = N := by omega
    have hlo1 := frE_lo (fun k => mI m 45 k) w i (mI m 30 24) h0
    have hlo2 := lsE_lo (fun k => mI m 45 k) w i (mI m 30 24) h0
    have hv2 : (b = 0 ∧ v = lsE (fun k => mI m 45 k) w i (mI m 30 24)) ∨ (b ≠ 0 ∧ v = frE (fun k => mI m 45 k) w i (mI m 30 24)) := by
      by_cases hb_ : b = 0
      · rw [if_pos hb_] at hv; exact Or.inl ⟨hb_, hv⟩
      · rw [if_neg hb_] at hv; exact Or.inr ⟨hb_, hv⟩
    refine V_ld (pc := 8) dX11_lettered_8 (v := vi r) rfl rfl ?_
    refine V_ld (pc := 10) dX11_lettered_10 (v := vr 30) rfl rfl ?_
    refine V_getIv (pc := 11) dX11_lettered_11 (v := mI m 30 25) fw_RX11_216 rfl hL.t30 rfl (fun g11 => ?_)
    refine V_icmp_gt (pc := 14) dX11_lettered_14 (tgt := 49) rfl (fun h14 => ?_) (fun h14 => ?_)
    · skip
      first | (exfalso; omega) | (skip; exact kx r v hv)
    · skip
      refine V_ld (pc := 17) dX11_lettered_17 (v := vr 30) rfl rfl ?_
      refine V_getRv (pc := 18) dX11_lettered_18 (o' := 45) fw_RX11_54 rfl hL.t30 hL.r30_23 ?_
      refine V_ld (pc := 21) dX11_lettered_21 (v := vi r) rfl rfl ?_
      refine V_ialdv (pc := 23) dX11_lettered_23 (v := mI m 45 r.toNat) hL.t45 (by omega) rfl (fun g23 => ?_)
      refine V_ld (pc := 24) dX11_lettered_24 (v := vi w) rfl rfl ?_
      refine V_icmp_ne (pc := 25) dX11_lettered_25 (tgt := 41) rfl (fun h25 => ?_) (fun h25 => ?_)
      · skip
        refine V_ld (pc := 41) dX11_lettered_41 (v := vi v) rfl rfl ?_
        refine V_st (pc := 42) dX11_lettered_42 (ls' := [(3, vi v), (4, vi r), (0, vr 30), (1, vi w), (2, vi b)]) rfl (Nat.le_of_ble_eq_true rfl) rfl ?_
        refine V_iinc (pc := 43) dX11_lettered_43 (x := r) (ls' := [(4, vi (r + 1)), (3, vi v), (0, vr 30), (1, vi w), (2, vi b)]) rfl (by unfold I32 at *; omega) (Nat.le_of_ble_eq_true rfl) rfl ?_
        refine V_goto (pc := 46) dX11_lettered_46 (tgt := 8) rfl ?_
        exfalso; omega
      · skip
        refine V_ld (pc := 28) dX11_lettered_28 (v := vi v) rfl rfl ?_
        refine V_if_lt (pc := 29) dX11_lettered_29 (tgt := 36) rfl (fun h29 => ?_) (fun h29 => ?_)
        · skip
          refine V_ld (pc := 36) dX11_lettered_36 (v := vi r) rfl rfl ?_
          refine V_goto (pc := 38) dX11_lettered_38 (tgt := 42) rfl ?_
          refine V_st (pc := 42) dX11_lettered_42 (ls' := [(3, vi r), (4, vi r), (0, vr 30), (1, vi w), (2, vi b)]) rfl (Nat.le_of_ble_eq_true rfl) rfl ?_
          refine V_iinc (pc := 43) dX11_lettered_43 (x := r) (ls' := [(4, vi (r + 1)), (3, vi r), (0, vr 30), (1, vi w), (2, vi b)]) rfl (by unfold I32 at *; omega) (Nat.le_of_ble_eq_true rfl) rfl ?_
          refine V_goto (pc := 46) dX11_lettered_46 (tgt := 8) rfl ?_
          exfalso; omega
        · skip
          refine V_ld (pc := 32) dX11_lettered_32 (v := vi b) rfl rfl ?_
          refine V_if_ne (pc := 33) dX11_lettered_33 (tgt := 41) rfl (fun h33 => ?_) (fun h33 => ?_)
          · skip
            refine V_ld (pc := 41) dX11_lettered_41 (v := vi v) rfl rfl ?_
            refine V_st (pc := 42) dX11_lettered_42 (ls' := [(3, vi v), (4, vi r), (0, vr 30), (1, vi w), (2, vi b)]) rfl (Nat.le_of_ble_eq_true rfl) rfl ?_
            refine V_iinc (pc := 43) dX11_lettered_43 (x := r) (ls' := [(4, vi (r + 1)), (3, vi v), (0, vr 30), (1, vi w), (2, vi b)]) rfl (by unfold I32 at *; omega) (Nat.le_of_ble_eq_true rfl) rfl ?_
            refine V_goto (pc := 46) dX11_lettered_46 (tgt := 8) rfl ?_
            exfalso; omega
          · skip
            refine V_ld (pc := 36) dX11_lettered_36 (v := vi r) rfl rfl ?_
            refine V_goto (pc := 38) dX11_lettered_38 (tgt := 42) rfl ?_
            refine V_st (pc := 42) dX11_lettered_42 (ls' := [(3, vi r), (4, vi r), (0, vr 30), (1, vi w), (2, vi b)]) rfl (Nat.le_of_ble_eq_true rfl) rfl ?_
            refine V_iinc (pc := 43) dX11_lettered_43 (x := r) (ls' := [(4, vi (r + 1)), (3, vi r), (0, vr 30), (1, vi w), (2, vi b)]) rfl (by unfold I32 at *; omega) (Nat.le_of_ble_eq_true rfl) rfl ?_
            refine V_goto (pc := 46) dX11_lettered_46 (tgt := 8) rfl ?_
            exfalso; omega
  | succ d ih =>
    intro i r v hi hr hv
    have hlo1 := frE_lo (fun k => mI m 45 k) w i (mI m 30 24) h0
    have hlo2 := lsE_lo (fun k => mI m 45 k) w i (mI m 30 24) h0
    have hv2 : (b = 0 ∧ v = lsE (fun k => mI m 45 k) w i (mI m 30 24)) ∨ (b ≠ 0 ∧ v = frE (fun k => mI m 45 k) w i (mI m 30 24)) := by
      by_cases hb_ : b = 0
      · rw [if_pos hb_] at hv; exact Or.inl ⟨hb_, hv⟩
      · rw [if_neg hb_] at hv; exact Or.inr ⟨hb_, hv⟩
    refine V_ld (pc := 8) dX11_lettered_8 (v := vi r) rfl rfl ?_
    refine V_ld (pc := 10) dX11_lettered_10 (v := vr 30) rfl rfl ?_
    refine V_getIv (pc := 11) dX11_lettered_11 (v := mI m 30 25) fw_RX11_216 rfl hL.t30 rfl (fun g11 => ?_)
    refine V_icmp_gt (pc := 14) dX11_lettered_14 (tgt := 49) rfl (fun h14 => ?_) (fun h14 => ?_)
    · skip
      exfalso; omega
    · skip
      refine V_ld (pc := 17) dX11_lettered_17 (v := vr 30) rfl rfl ?_
      refine V_getRv (pc := 18) dX11_lettered_18 (o' := 45) fw_RX11_54 rfl hL.t30 hL.r30_23 ?_
      refine V_ld (pc := 21) dX11_lettered_21 (v := vi r) rfl rfl ?_
      refine V_ialdv (pc := 23) dX11_lettered_23 (v := mI m 45 r.toNat) hL.t45 (by omega) rfl (fun g23 => ?_)
      refine V_ld (pc := 24) dX11_lettered_24 (v := vi w) rfl rfl ?_
      refine V_icmp_ne (pc := 25) dX11_lettered_25 (tgt := 41) rfl (fun h25 => ?_) (fun h25 => ?_)
      · skip
        refine V_ld (pc := 41) dX11_lettered_41 (v := vi v) rfl rfl ?_
        refine V_st (pc := 42) dX11_lettered_42 (ls' := [(3, vi v), (4, vi r), (0, vr 30), (1, vi w), (2, vi b)]) rfl (Nat.le_of_ble_eq_true rfl) rfl ?_
        refine V_iinc (pc := 43) dX11_lettered_43 (x := r) (ls' := [(4, vi (r + 1)), (3, vi v), (0, vr 30), (1, vi w), (2, vi b)]) rfl (by unfold I32 at *; omega) (Nat.le_of_ble_eq_true rfl) rfl ?_
        refine V_goto (pc := 46) dX11_lettered_46 (tgt := 8) rfl ?_
        skip
        refine ih (i + 1) (r + 1) (v) (by omega) (by omega) ?_
        have hfs := frE_s (fun k => mI m 45 k) w i (mI m 30 24) h0
        have hls : lsE (fun k => mI m 45 k) w (i + 1) (mI m 30 24) = if mI m 45 (mI m 30 24 + (i : Int)).toNat = w then mI m 30 24 + (i : Int) else lsE (fun k => mI m 45 k) w i (mI m 30 24) := rfl
        have hfs2 : frE (fun k => mI m 45 k) w (i + 1) (mI m 30 24) = if 0 ≤ frE (fun k => mI m 45 k) w i (mI m 30 24) then frE (fun k => mI m 45 k) w i (mI m 30 24) else if mI m 45 (mI m 30 24 + (i : Int)).toNat = w then mI m 30 24 + (i : Int) else -1 := hfs
        rw [hls, hfs2, ← hr]
        by_cases hb_ : b = 0
        · rw [if_pos hb_] at hv ⊢
          clear hls hfs2 hfs
          split <;> omega
        · rw [if_neg hb_] at hv ⊢
          clear hls hfs2 hfs
          split <;> first | omega | (split <;> omega)
      · skip
        refine V_ld (pc := 28) dX11_lettered_28 (v := vi v) rfl rfl ?_
        refine V_if_lt (pc := 29) dX11_lettered_29 (tgt := 36) rfl (fun h29 => ?_) (fun h29 => ?_)
        · skip
          refine V_ld (pc := 36) dX11_lettered_36 (v := vi r) rfl rfl ?_
          refine V_goto (pc := 38) dX11_lettered_38 (tgt := 42) rfl ?_
          refine V_st (pc := 42) dX11_lettered_42 (ls' := [(3, vi r), (4, vi r), (0, vr 30), (1, vi w), (2, vi b)]) rfl (Nat.le_of_ble_eq_true rfl) rfl ?_
          refine V_iinc (pc := 43) dX11_lettered_43 (x := r) (ls' := [(4, vi (r + 1)), (3, vi r), (0, vr 30), (1, vi w), (2, vi b)]) rfl (by unfold I32 at *; omega) (Nat.le_of_ble_eq_true rfl) rfl ?_
          refine V_goto (pc := 46) dX11_lettered_46 (tgt := 8) rfl ?_
          skip
          refine ih (i + 1) (r + 1) (r) (by omega) (by omega) ?_
          have hfs := frE_s (fun k => mI m 45 k) w i (mI m 30 24) h0
          have hls : lsE (fun k => mI m 45 k) w (i + 1) (mI m 30 24) = if mI m 45 (mI m 30 24 + (i : Int)).toNat = w then mI m 30 24 + (i : Int) else lsE (fun k => mI m 45 k) w i (mI m 30 24) := rfl
          have hfs2 : frE (fun k => mI m 45 k) w (i + 1) (mI m 30 24) = if 0 ≤ frE (fun k => mI m 45 k) w i (mI m 30 24) then frE (fun k => mI m 45 k) w i (mI m 30 24) else if mI m 45 (mI m 30 24 + (i : Int)).toNat = w then mI m 30 24 + (i : Int) else -1 := hfs
          rw [hls, hfs2, ← hr]
          by_cases hb_ : b = 0
          · rw [if_pos hb_] at hv ⊢
            clear hls hfs2 hfs
            split <;> omega
          · rw [if_neg hb_] at hv ⊢
            clear hls hfs2 hfs
            split <;> first | omega | (split <;> omega)
        · skip
          refine V_ld (pc := 32) dX11_lettered_32 (v := vi b) rfl rfl ?_
          refine V_if_ne (pc := 33) dX11_lettered_33 (tgt := 41) rfl (fun h33 => ?_) (fun h33 => ?_)
          · skip
            refine V_ld (pc := 41) dX11_lettered_41 (v := vi v) rfl rfl ?_
            refine V_st (pc := 42) dX11_lettered_42 (ls' := [(3, vi v), (4, vi r), (0, vr 30), (1, vi w), (2, vi b)]) rfl (Nat.le_of_ble_eq_true rfl) rfl ?_
            refine V_iinc (pc := 43) dX11_lettered_43 (x := r) (ls' := [(4, vi (r + 1)), (3, vi v), (0, vr 30), (1, vi w), (2, vi b)]) rfl (by unfold I32 at *; omega) (Nat.le_of_ble_eq_true rfl) rfl ?_
            refine V_goto (pc := 46) dX11_lettered_46 (tgt := 8) rfl ?_
            skip
            refine ih (i + 1) (r + 1) (v) (by omega) (by omega) ?_
            have hfs := frE_s (fun k => mI m 45 k) w i (mI m 30 24) h0
            have hls : lsE (fun k => mI m 45 k) w (i + 1) (mI m 30 24) = if mI m 45 (mI m 30 24 + (i : Int)).toNat = w then mI m 30 24 + (i : Int) else lsE (fun k => mI m 45 k) w i (mI m 30 24) := rfl
            have hfs2 : frE (fun k => mI m 45 k) w (i + 1) (mI m 30 24) = if 0 ≤ frE (fun k => mI m 45 k) w i (mI m 30 24) then frE (fun k => mI m 45 k) w i (mI m 30 24) else if mI m 45 (mI m 30 24 + (i : Int)).toNat = w then mI m 30 24 + (i : Int) else -1 := hfs
            rw [hls, hfs2, ← hr]
            by_cases hb_ : b = 0
            · rw [if_pos hb_] at hv ⊢
              clear hls hfs2 hfs
              split <;> omega
            · rw [if_neg hb_] at hv ⊢
              clear hls hfs2 hfs
              split <;> first | omega | (split <;> omega)
          · skip
            refine V_ld (pc := 36) dX11_lettered_36 (v := vi r) rfl rfl ?_
            refine V_goto (pc := 38) dX11_lettered_38 (tgt := 42) rfl ?_
            refine V_st (pc := 42) dX11_lettered_42 (ls' := [(3, vi r), (4, vi r), (0, vr 30), (1, vi w), (2, vi b)]) rfl (Nat.le_of_ble_eq_true rfl) rfl ?_
            refine V_iinc (pc := 43) dX11_lettered_43 (x := r) (ls' := [(4, vi (r + 1)), (3, vi r), (0, vr 30), (1, vi w), (2, vi b)]) rfl (by unfold I32 at *; omega) (Nat.le_of_ble_eq_true rfl) rfl ?_
            refine V_goto (pc := 46) dX11_lettered_46 (tgt := 8) rfl ?_
            skip
            refine ih (i + 1) (r + 1) (r) (by omega) (by omega) ?_
            have hfs := frE_s (fun k => mI m 45 k) w i (mI m 30 24) h0
            have hls : lsE (fun k => mI m 45 k) w (i + 1) (mI m 30 24) = if mI m 45 (mI m 30 24 + (i : Int)).toNat = w then mI m 30 24 + (i : Int) else lsE (fun k => mI m 45 k) w i (mI m 30 24) := rfl
            have hfs2 : frE (fun k => mI m 45 k) w (i + 1) (mI m 30 24) = if 0 ≤ frE (fun k => mI m 45 k) w i (mI m 30 24) then frE (fun k => mI m 45 k) w i (mI m 30 24) else if mI m 45 (mI m 30 24 + (i : Int)).toNat = w then mI m 30 24 + (i : Int) else -1 := hfs
            rw [hls, hfs2, ← hr]
            by_cases hb_ : b = 0
            · rw [if_pos hb_] at hv ⊢
              clear hls hfs2 hfs
              split <;> omega
            · rw [if_neg hb_] at hv ⊢
              clear hls hfs2 hfs
              split <;> first | omega | (split <;> omega)

set_option maxHeartbeats 4000000 in
theorem q_lettered  (m : Mem) (w : Int) (b : Int)   (hL : Lay (mT m) (mR m)) (hE : EOK (mI m)) (hpl : 0 ≤ mI m 30 25) : Ct μX11_lettered 0 [vr 30, vi w, vi b] m (ri fun x_ m' => (x_ = (if b = 0 then lsE (envR (mI m)).2.2.1 w (spE (envR (mI m))) (envR (mI m)).1 else frE (envR (mI m)).2.2.1 w (spE (envR (mI m))) (envR (mI m)).1)) ∧ m = m') := by
  refine Ct_of_V rfl (by decide) rfl (Nat.le_of_ble_eq_true rfl) ?_
  show V μX11_lettered 0 m _ 0 [(0, vr 30), (1, vi w), (2, vi b)] [] m
  refine V_rg (k := 1) (x := w) rfl fun r_w => ?_
  refine V_rg (k := 2) (x := b) rfl fun r_b => ?_
  obtain ⟨e1, e2, e3, e4, e5, e6, e7⟩ := hE
  refine V_iconst (pc := 0) dX11_lettered_0 (by unfold I32; omega) ?_
  refine V_st (pc := 1) dX11_lettered_1 (ls' := [(3, vi (-1)), (0, vr 30), (1, vi w), (2, vi b)]) rfl (Nat.le_of_ble_eq_true rfl) rfl ?_
  refine V_ld (pc := 2) dX11_lettered_2 (v := vr 30) rfl rfl ?_
  refine V_getIv (pc := 3) dX11_lettered_3 (v := mI m 30 24) fw_RX11_222 rfl hL.t30 rfl (fun g3 => ?_)
  refine V_st (pc := 6) dX11_lettered_6 (ls' := [(4, vi (mI m 30 24)), (3, vi (-1)), (0, vr 30), (1, vi w), (2, vi b)]) rfl (Nat.le_of_ble_eq_true rfl) rfl ?_
  skip
  have hN_ : mI m 30 25 = mI m 30 24 + ((spE (envR (mI m)) : Nat) : Int) - 1 := by
    have h_ : spE (envR (mI m)) = (mI m 30 25 - mI m 30 24 + 1).toNat := rfl
    have h5_ := e5 hpl
    omega
  have h5_ := e5 hpl
  refine L_let (m := m) (N := spE (envR (mI m))) hL (by omega) (by omega) hN_  ?_ (spE (envR (mI m))) 0 (mI m 30 24) (-1) (by omega) (by omega) (by split <;> rfl)
  rintro r' v' rfl
  refine V_ld (pc := 49) dX11_lettered_49 (v := vi (if b = 0 then lsE (fun k => mI m 45 k) w (spE (envR (mI m))) (mI m 30 24) else frE (fun k => mI m 45 k) w (spE (envR (mI m))) (mI m 30 24))) rfl rfl ?_
  refine V_reti (pc := 50) dX11_lettered_50 trivial ?_
  exact ⟨rfl, rfl⟩
