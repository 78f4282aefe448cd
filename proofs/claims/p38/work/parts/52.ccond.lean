/-! the class reads conditions: a reader object r, the conditions r + 1, the code r + 2 -/
def QLay (m : Mem) (r n : Nat) : Prop := (59 ≤ r ∧ n ≤ 120) ∧ mT m r = (1, 7) ∧ mR m r 0 = some 13 ∧ mR m r 1 = some (r + 2) ∧ mR m r 6 = some (r + 1) ∧ mT m (r + 1) = (23, 26) ∧ mT m (r + 2) = (20, n)
def DQ (I : Nat → Nat → Int) (r : Nat) (tx : Nat → Int) (n : Nat) (S : CS) (C : List Int) : Prop := I 13 1 = (n : Int) ∧ I r 3 = (S.2 : Int) ∧ I r 4 = -1 ∧ I r 2 = (C.length : Int) ∧ S.2 ≤ n ∧ n ≤ 120 ∧ (∀ k, k < n → I 14 k = tx k ∧ 1 ≤ tx k ∧ tx k ≤ 127) ∧ (∀ k x, C[k]? = some x → I (r + 2) k = x) ∧ S.1 = true ∧ 59 ≤ r
def DFr (r : Nat) (I I' : Nat → Nat → Int) : Prop := ∀ o k, ¬ (o = r ∧ (k = 2 ∨ k = 3 ∨ k = 4)) → o ≠ r + 2 → I' o k = I o k
theorem DFr.rf {r : Nat} {I : Nat → Nat → Int} : DFr r I I := fun _ _ _ _ => rfl
theorem DFr.tr {r : Nat} {I J K : Nat → Nat → Int} (h : DFr r I J) (h2 : DFr r J K) : DFr r I K := fun o k a b => (h2 o k a b).trans (h o k a b)
theorem DFr.set {r : Nat} {I J : Nat → Nat → Int} {o k : Nat} {v : Int} (h : DFr r I J) (hk : (o = r ∧ (k = 2 ∨ k = 3 ∨ k = 4)) ∨ o = r + 2) : DFr r I (up2 J o k v) := fun o' k' a b => by
  have e : up2 J o k v o' k' = J o' k' := if_neg fun e => by
    obtain ⟨rfl, rfl⟩ := e
    exact hk.elim a b
  rw [e]
  exact h o' k' a b
theorem DQ.at {I : Nat → Nat → Int} {r : Nat} {tx : Nat → Int} {n : Nat} {S : CS} {C : List Int} {v x : Int} (h : DQ I r tx n S C) (hv : v = (S.2 : Int)) (hx : x = if 0 ≤ v ∧ v < I 13 1 ∧ v < 120 then I 14 v.toNat else -1) : (x = ccS tx n S ∨ (x = 59 ∧ ccS tx n S = -1)) ∧ -1 ≤ x ∧ x ≤ 127 ∧ (x ≠ -1 → S.2 < n) := by
  obtain ⟨h1, h2, h3, h4, h5, h6, h7, h8, h9, h10⟩ := h
  subst hv hx
  unfold ccS
  by_cases c : S.2 < n
  · have e := h7 _ c
    rw [if_pos (by omega), Int.toNat_natCast, e.1]
    by_cases d : tx S.2 = 59
    · rw [if_neg (fun x => x.2.2 d)]; omega
    · rw [if_pos ⟨h9, c, d⟩]; omega
  · have k1 : ¬ (0 ≤ (S.2 : Int) ∧ (S.2 : Int) < I 13 1 ∧ (S.2 : Int) < 120) := by omega
    have k2 : ¬ (S.1 = true ∧ S.2 < n ∧ tx S.2 ≠ 59) := fun x => c x.2.1
    rw [if_neg k1, if_neg k2]
    omega
theorem DQ.adv {I : Nat → Nat → Int} {r : Nat} {tx : Nat → Int} {n : Nat} {S : CS} {C : List Int} {v : Int} (h : DQ I r tx n S C) (hv : v = (S.2 : Int) + 1) (hlt : S.2 < n) : DQ (up2 I r 3 v) r tx n (cAdv S) C := by
  obtain ⟨h1, h2, h3, h4, h5, h6, h7, h8, h9, h10⟩ := h
  refine ⟨?_, ?_, ?_, ?_, hlt, h6, fun k hk => ?_, fun k x hx => ?_, h9, h10⟩
  · rw [up2_no (by omega)]; exact h1
  · rw [up2_s]; show v = ((S.2 + 1 : Nat) : Int); omega
  · rw [up2_nk (by decide)]; exact h3
  · rw [up2_nk (by decide)]; exact h4
  · rw [up2_no (by omega)]; exact h7 k hk
  · rw [up2_no (by omega)]; exact h8 k x hx
theorem DQ.emit {I J : Nat → Nat → Int} {r : Nat} {tx : Nat → Int} {n : Nat} {S : CS} {C : List Int} {v : Int} (h : DQ I r tx n S C) (hJ : J = up2 (up2 I (r + 2) C.length v) r 2 ((C.length : Int) + 1)) : DQ J r tx n S (C ++ [v]) := by
  obtain ⟨h1, h2, h3, h4, h5, h6, h7, h8, h9, h10⟩ := h
  subst hJ
  refine ⟨?_, ?_, ?_, ?_, h5, h6, fun k hk => ?_, fun k x hx => ?_, h9, h10⟩
  · rw [up2_no (by omega), up2_no (by omega)]; exact h1
  · rw [up2_nk (by decide), up2_no (by omega)]; exact h2
  · rw [up2_nk (by decide), up2_no (by omega)]; exact h3
  · rw [up2_s, List.length_append]; rfl
  · rw [up2_no (by omega), up2_no (by omega)]; exact h7 k hk
  · rw [up2_no (by omega)]
    rw [List.getElem?_append] at hx
    by_cases c : k < C.length
    · rw [if_pos c] at hx
      rw [up2_nk (by omega)]
      exact h8 k x hx
    · rw [if_neg c] at hx
      by_cases d : k = C.length
      · subst d
        rw [Nat.sub_self] at hx
        rw [up2_s]
        exact Option.some.inj hx
      · have e : k - C.length = (k - C.length - 1) + 1 := by omega
        rw [e] at hx
        cases hx
theorem DQ.patch {I : Nat → Nat → Int} {r : Nat} {tx : Nat → Int} {n : Nat} {S : CS} {C D : List Int} {u v : Int} (h : DQ I r tx n S (C ++ u :: D)) : DQ (up2 I (r + 2) C.length v) r tx n S (C ++ v :: D) := by
  obtain ⟨h1, h2, h3, h4, h5, h6, h7, h8, h9, h10⟩ := h
  refine ⟨?_, ?_, ?_, ?_, h5, h6, fun k hk => ?_, fun k x hx => ?_, h9, h10⟩
  · rw [up2_no (by omega)]; exact h1
  · rw [up2_no (by omega)]; exact h2
  · rw [up2_no (by omega)]; exact h3
  · rw [up2_no (by omega), h4]; simp
  · rw [up2_no (by omega)]; exact h7 k hk
  · rw [List.getElem?_append] at hx
    have h8k := h8 k
    rw [List.getElem?_append] at h8k
    by_cases c : k < C.length
    · rw [if_pos c] at hx h8k
      rw [up2_nk (by omega)]
      exact h8k x hx
    · rw [if_neg c] at hx h8k
      by_cases d : k = C.length
      · subst d
        rw [Nat.sub_self] at hx
        rw [up2_s]
        exact Option.some.inj hx
      · have e : k - C.length = (k - C.length - 1) + 1 := by omega
        rw [e] at hx h8k
        rw [up2_nk d]
        exact h8k x hx
def DOut (I : Nat → Nat → Int) (r : Nat) (tx : Nat → Int) (n : Nat) (S : CS) (C : List Int) (x : Int) : Prop := (S.1 = true ∧ x = 1 ∧ DQ I r tx n S C) ∨ (S.1 = false ∧ x = 0 ∧ I r 4 = (S.2 : Int))

set_option maxHeartbeats 4000000 in
theorem d_failed (n : Nat) (m : Mem) (r : Nat)   (hQ : QLay m r n) : Ct μX1_failed 0 [vr r] m (ri fun x_ m' => ∃ I_ : Nat → Nat → Int, wI m I_ = m' ∧ (x_ = 0) ∧ I_ r 4 = (if mI m r 4 = -1 then mI m r 3 else mI m r 4) ∧ DFr r (mI m) I_) := by
  refine Ct_of_V rfl (by decide) rfl (Nat.le_of_ble_eq_true rfl) ?_
  show V μX1_failed 0 m _ 0 [(0, vr r)] [] m
  obtain ⟨hr59, hq120⟩ := hQ.1
  refine V_ld (pc := 0) dX1_failed_0 (v := vr r) rfl rfl ?_
  refine V_getIv (pc := 1) dX1_failed_1 (v := mI m r 4) fw_RX1_9 rfl hQ.2.1 rfl (fun g1 => ?_)
  refine V_iconst (pc := 4) dX1_failed_4 (by unfold I32; omega) ?_
  refine V_icmp_ne (pc := 5) dX1_failed_5 (tgt := 16) rfl (fun h5 => ?_) (fun h5 => ?_)
  · skip
    refine V_iconst (pc := 16) dX1_failed_16 (by unfold I32; omega) ?_
    refine V_reti (pc := 17) dX1_failed_17 (show _ = (0 : Int) ∨ _ = (1 : Int) from by first | exact Or.inl rfl | exact Or.inr rfl | omega) ?_
    refine ⟨mI m, rfl, rfl, ?_, ?_⟩
    · first
        | (rw [if_pos (by omega)]; exact up2_s)
        | (rw [if_neg (by omega)])
    · exact DFr.rf
  · skip
    refine V_ld (pc := 8) dX1_failed_8 (v := vr r) rfl rfl ?_
    refine V_ld (pc := 9) dX1_failed_9 (v := vr r) rfl rfl ?_
    refine V_getIv (pc := 10) dX1_failed_10 (v := mI m r 3) fw_RX1_34 rfl hQ.2.1 rfl (fun g10 => ?_)
    refine V_putI (pc := 13) dX1_failed_13 fw_RX1_9 rfl hQ.2.1 (Or.inl rfl) (Or.inl rfl) ?_
    refine V_iconst (pc := 16) dX1_failed_16 (by unfold I32; omega) ?_
    refine V_reti (pc := 17) dX1_failed_17 (show _ = (0 : Int) ∨ _ = (1 : Int) from by first | exact Or.inl rfl | exact Or.inr rfl | omega) ?_
    refine ⟨mI (setI m r 4 (mI m r 3)), rfl, rfl, ?_, ?_⟩
    · first
        | (rw [if_pos (by omega)]; exact up2_s)
        | (rw [if_neg (by omega)])
    · exact DFr.set DFr.rf (by omega)

set_option maxHeartbeats 4000000 in
theorem d_emitB (n : Nat) (m : Mem) (r : Nat) (v : Int)   (hQ : QLay m r n) : Ct μX1_emit 0 [vr r, vi v] m (rv fun m' => ∃ I_ : Nat → Nat → Int, wI m I_ = m' ∧ DFr r (mI m) I_ ∧ I_ r 4 = mI m r 4) := by
  refine Ct_of_V rfl (by decide) rfl (Nat.le_of_ble_eq_true rfl) ?_
  show V μX1_emit 0 m _ 0 [(0, vr r), (1, vi v)] [] m
  refine V_rg (k := 1) (x := v) rfl fun r_v => ?_
  obtain ⟨hr59, hq120⟩ := hQ.1
  refine V_ld (pc := 0) dX1_emit_0 (v := vr r) rfl rfl ?_
  refine V_getIv (pc := 1) dX1_emit_1 (v := mI m r 2) fw_RX1_55 rfl hQ.2.1 rfl (fun g1 => ?_)
  refine V_if_lt (pc := 4) dX1_emit_4 (tgt := 39) rfl (fun h4 => ?_) (fun h4 => ?_)
  · skip
    refine V_retv (pc := 39) dX1_emit_39 trivial ?_
    refine ⟨mI m, rfl, DFr.rf, rfl⟩
  · skip
    refine V_ld (pc := 7) dX1_emit_7 (v := vr r) rfl rfl ?_
    refine V_getIv (pc := 8) dX1_emit_8 (v := mI m r 2) fw_RX1_55 rfl hQ.2.1 rfl (fun g8 => ?_)
    refine V_ld (pc := 11) dX1_emit_11 (v := vr r) rfl rfl ?_
    refine V_getRv (pc := 12) dX1_emit_12 (o' := (r + 2)) fw_RX1_30 rfl hQ.2.1 hQ.2.2.2.1 ?_
    refine V_alen (pc := 15) dX1_emit_15 hQ.2.2.2.2.2.2 (by decide) (by omega) ?_
    refine V_icmp_ge (pc := 16) dX1_emit_16 (tgt := 39) rfl (fun h16 => ?_) (fun h16 => ?_)
    · skip
      refine V_retv (pc := 39) dX1_emit_39 trivial ?_
      refine ⟨mI m, rfl, DFr.rf, rfl⟩
    · skip
      refine V_ld (pc := 19) dX1_emit_19 (v := vr r) rfl rfl ?_
      refine V_getRv (pc := 20) dX1_emit_20 (o' := (r + 2)) fw_RX1_30 rfl hQ.2.1 hQ.2.2.2.1 ?_
      refine V_ld (pc := 23) dX1_emit_23 (v := vr r) rfl rfl ?_
      refine V_getIv (pc := 24) dX1_emit_24 (v := mI m r 2) fw_RX1_55 rfl hQ.2.1 rfl (fun g24 => ?_)
      refine V_ld (pc := 27) dX1_emit_27 (v := vi v) rfl rfl ?_
      refine V_iast (pc := 28) dX1_emit_28 hQ.2.2.2.2.2.2 (by omega) ?_
      refine V_ld (pc := 29) dX1_emit_29 (v := vr r) rfl rfl ?_
      refine V_dup (pc := 30) dX1_emit_30 rfl ?_
      refine V_getIv (pc := 31) dX1_emit_31 (v := mI m r 2) fw_RX1_55 rfl hQ.2.1 (by first | rfl | (simp only [mI_setI, up2]; repeat (first | rfl | rw [if_neg (by omega)] | rw [if_pos (by omega)]))) (fun g31 => ?_)
      refine V_iconst (pc := 34) dX1_emit_34 (by unfold I32; omega) ?_
      refine V_iadd (pc := 35) dX1_emit_35 (by unfold I32 at *; omega) ?_
      refine V_putI (pc := 36) dX1_emit_36 fw_RX1_55 rfl hQ.2.1 (Or.inl rfl) (Or.inl rfl) ?_
      refine V_retv (pc := 39) dX1_emit_39 trivial ?_
      refine ⟨mI (setI (setI m (r + 2) ((mI m r 2).toNat) v) r 2 ((mI m r 2) + 1)), rfl, DFr.set (DFr.set DFr.rf (by omega)) (by omega), (up2_nk (by decide)).trans (up2_no (by omega))⟩

set_option maxHeartbeats 4000000 in
theorem d_emit (tx : Nat → Int) (n : Nat) (S : CS) (C : List Int) (m : Mem) (r : Nat) (v : Int)   (hQ : QLay m r n) (hP : DQ (mI m) r tx n S C) (hlt : C.length < n) : Ct μX1_emit 0 [vr r, vi v] m (rv fun m' => ∃ I_ : Nat → Nat → Int, wI m I_ = m' ∧ DQ I_ r tx n S (C ++ [v]) ∧ DFr r (mI m) I_) := by
  refine Ct_of_V rfl (by decide) rfl (Nat.le_of_ble_eq_true rfl) ?_
  show V μX1_emit 0 m _ 0 [(0, vr r), (1, vi v)] [] m
  refine V_rg (k := 1) (x := v) rfl fun r_v => ?_
  have hn120 := hP.2.2.2.2.2.1
  have hb0 := hP.2.2.2.2.1
  obtain ⟨hr59, hq120⟩ := hQ.1
  refine V_ld (pc := 0) dX1_emit_0 (v := vr r) rfl rfl ?_
  refine V_getIv (pc := 1) dX1_emit_1 (v := (C.length : Int)) fw_RX1_55 rfl hQ.2.1 hP.2.2.2.1 (fun g1 => ?_)
  refine V_if_lt (pc := 4) dX1_emit_4 (tgt := 39) rfl (fun h4 => ?_) (fun h4 => ?_)
  · skip
    refine V_retv (pc := 39) dX1_emit_39 trivial ?_
    exfalso; omega
  · skip
    refine V_ld (pc := 7) dX1_emit_7 (v := vr r) rfl rfl ?_
    refine V_getIv (pc := 8) dX1_emit_8 (v := (C.length : Int)) fw_RX1_55 rfl hQ.2.1 hP.2.2.2.1 (fun g8 => ?_)
    refine V_ld (pc := 11) dX1_emit_11 (v := vr r) rfl rfl ?_
    refine V_getRv (pc := 12) dX1_emit_12 (o' := (r + 2)) fw_RX1_30 rfl hQ.2.1 hQ.2.2.2.1 ?_
    refine V_alen (pc := 15) dX1_emit_15 hQ.2.2.2.2.2.2 (by decide) (by omega) ?_
    refine V_icmp_ge (pc := 16) dX1_emit_16 (tgt := 39) rfl (fun h16 => ?_) (fun h16 => ?_)
    · skip
      refine V_retv (pc := 39) dX1_emit_39 trivial ?_
      exfalso; omega
    · skip
      refine V_ld (pc := 19) dX1_emit_19 (v := vr r) rfl rfl ?_
      refine V_getRv (pc := 20) dX1_emit_20 (o' := (r + 2)) fw_RX1_30 rfl hQ.2.1 hQ.2.2.2.1 ?_
      refine V_ld (pc := 23) dX1_emit_23 (v := vr r) rfl rfl ?_
      refine V_getIv (pc := 24) dX1_emit_24 (v := (C.length : Int)) fw_RX1_55 rfl hQ.2.1 hP.2.2.2.1 (fun g24 => ?_)
      refine V_ld (pc := 27) dX1_emit_27 (v := vi v) rfl rfl ?_
      refine V_iast (pc := 28) dX1_emit_28 hQ.2.2.2.2.2.2 (by omega) ?_
      refine V_ld (pc := 29) dX1_emit_29 (v := vr r) rfl rfl ?_
      refine V_dup (pc := 30) dX1_emit_30 rfl ?_
      refine V_getIv (pc := 31) dX1_emit_31 (v := (C.length : Int)) fw_RX1_55 rfl hQ.2.1 (by first | exact hP.2.2.2.1 | (simp only [mI_setI, up2]; repeat (first | exact hP.2.2.2.1 | rw [if_neg (by omega)]))) (fun g31 => ?_)
      refine V_iconst (pc := 34) dX1_emit_34 (by unfold I32; omega) ?_
      refine V_iadd (pc := 35) dX1_emit_35 (by unfold I32 at *; omega) ?_
      refine V_putI (pc := 36) dX1_emit_36 fw_RX1_55 rfl hQ.2.1 (Or.inl rfl) (Or.inl rfl) ?_
      refine V_retv (pc := 39) dX1_emit_39 trivial ?_
      first
        | (exfalso; omega)
        | exact ⟨mI (setI (setI m (r + 2) ((C.length : Int).toNat) v) r 2 ((C.length : Int) + 1)), rfl, DQ.emit hP (by rw [show ((C.length : Int)).toNat = C.length from by omega] ; rfl), DFr.set (DFr.set DFr.rf (by omega)) (by omega)⟩

set_option maxHeartbeats 4000000 in
theorem d_comes (tx : Nat → Int) (n : Nat) (S : CS) (C : List Int) (m : Mem) (r : Nat) (g : Int)   (hL : Lay (mT m) (mR m)) (hQ : QLay m r n) (hP : DQ (mI m) r tx n S C) (hc : g ≠ -1 ∧ g ≠ 59) : Ct μX1_comes 1 [vr r, vi g] m (ri fun x_ m' => (x_ = if ccS tx n S = g then 1 else 0) ∧ m = m') := by
  refine Ct_of_V rfl (by decide) rfl (Nat.le_of_ble_eq_true rfl) ?_
  show V μX1_comes 1 m _ 0 [(0, vr r), (1, vi g)] [] m
  refine V_rg (k := 1) (x := g) rfl fun r_g => ?_
  have hn120 := hP.2.2.2.2.2.1
  have hb0 := hP.2.2.2.2.1
  obtain ⟨hr59, hq120⟩ := hQ.1
  refine V_ld (pc := 0) dX1_comes_0 (v := vr r) rfl rfl ?_
  refine V_getRv (pc := 1) dX1_comes_1 (o' := 13) fw_RX1_21 rfl hQ.2.1 hQ.2.2.1 ?_
  refine V_ld (pc := 4) dX1_comes_4 (v := vr r) rfl rfl ?_
  refine V_getIv (pc := 5) dX1_comes_5 (v := (S.2 : Int)) fw_RX1_34 rfl hQ.2.1 hP.2.1 (fun g5 => ?_)
  refine V_callV (pc := 8) dX1_comes_8 (F' := 0) (As := [vi (S.2 : Int)]) (st := []) cw_RX1_37 rfl rfl hL.t13 (by decide) (Nat.le_of_ble_eq_true rfl) (by omega) (c_Text_at  m 13 (S.2 : Int) 14  hL.t13 hL.r13_0 hL.t14) ?_
  rintro _ _ ⟨x8, rfl, hx8, rfl⟩ ok8 le8
  obtain ⟨cr8, cr80, cr81, cr82⟩ := DQ.at hP rfl hx8
  refine V_ld (pc := 11) dX1_comes_11 (v := vi g) rfl rfl ?_
  refine V_icmp_ne (pc := 12) dX1_comes_12 (tgt := 19) rfl (fun h12 => ?_) (fun h12 => ?_)
  · skip
    refine V_iconst (pc := 19) dX1_comes_19 (by unfold I32; omega) ?_
    refine V_reti (pc := 20) dX1_comes_20 (show _ = (0 : Int) ∨ _ = (1 : Int) from by first | exact Or.inl rfl | exact Or.inr rfl | omega) ?_
    exact ⟨by omega, rfl⟩
  · skip
    refine V_iconst (pc := 15) dX1_comes_15 (by unfold I32; omega) ?_
    refine V_goto (pc := 16) dX1_comes_16 (tgt := 20) rfl ?_
    refine V_reti (pc := 20) dX1_comes_20 (show _ = (0 : Int) ∨ _ = (1 : Int) from by first | exact Or.inl rfl | exact Or.inr rfl | omega) ?_
    exact ⟨by omega, rfl⟩

set_option maxHeartbeats 4000000 in
theorem d_passes (tx : Nat → Int) (n : Nat) (S : CS) (C : List Int) (m : Mem) (r : Nat) (g : Int)   (hL : Lay (mT m) (mR m)) (hQ : QLay m r n) (hP : DQ (mI m) r tx n S C) (hc : g ≠ -1 ∧ g ≠ 59) : Ct μX1_passes 2 [vr r, vi g] m (ri fun x_ m' => ∃ I_ : Nat → Nat → Int, wI m I_ = m' ∧ (DFr r (mI m) I_) ∧ DOut I_ r tx n (cTake tx n S g) (C) x_) := by
  refine Ct_of_V rfl (by decide) rfl (Nat.le_of_ble_eq_true rfl) ?_
  show V μX1_passes 2 m _ 0 [(0, vr r), (1, vi g)] [] m
  refine V_rg (k := 1) (x := g) rfl fun r_g => ?_
  have hn120 := hP.2.2.2.2.2.1
  have hb0 := hP.2.2.2.2.1
  obtain ⟨hr59, hq120⟩ := hQ.1
  refine V_ld (pc := 0) dX1_passes_0 (v := vr r) rfl rfl ?_
  refine V_ld (pc := 1) dX1_passes_1 (v := vi g) rfl rfl ?_
  refine V_callV (pc := 2) dX1_passes_2 (F' := 1) (As := [vi g]) (st := []) cw_RX1_56 rfl rfl hQ.2.1 (by decide) (Nat.le_of_ble_eq_true rfl) (by omega) (d_comes tx n S C m r g   (by first | assumption | omega) hQ hP hc) ?_
  rintro _ _ ⟨x2, rfl, hx2, rfl⟩ ok2 le2
  refine V_if_ne (pc := 5) dX1_passes_5 (tgt := 13) rfl (fun h5 => ?_) (fun h5 => ?_)
  · skip
    refine V_ld (pc := 13) dX1_passes_13 (v := vr r) rfl rfl ?_
    refine V_dup (pc := 14) dX1_passes_14 rfl ?_
    refine V_getIv (pc := 15) dX1_passes_15 (v := (S.2 : Int)) fw_RX1_34 rfl hQ.2.1 hP.2.1 (fun g15 => ?_)
    refine V_iconst (pc := 18) dX1_passes_18 (by unfold I32; omega) ?_
    refine V_iadd (pc := 19) dX1_passes_19 (by unfold I32 at *; omega) ?_
    refine V_putI (pc := 20) dX1_passes_20 fw_RX1_34 rfl hQ.2.1 (Or.inl rfl) (Or.inl rfl) ?_
    have lthA23 : S.2 < n := by first | omega | exact (cc_lt (tx := tx) (n := n) (S := S) (by omega)).2
    have hA23 : DQ (mI (setI m r 3 ((S.2 : Int) + 1))) r tx n (cAdv S) C := DQ.adv hP rfl lthA23
    have ehA23 : (cAdv S).2 = S.2 + 1 := rfl
    refine V_iconst (pc := 23) dX1_passes_23 (by unfold I32; omega) ?_
    refine V_reti (pc := 24) dX1_passes_24 (show _ = (0 : Int) ∨ _ = (1 : Int) from by first | exact Or.inl rfl | exact Or.inr rfl | omega) ?_
    have e_ : cTake tx n S g = cAdv S := if_pos (by omega)
    refine ⟨mI (setI m r 3 ((S.2 : Int) + 1)), rfl, (DFr.set DFr.rf (by omega)), Or.inl ?_⟩
    rw [e_]
    exact ⟨hP.2.2.2.2.2.2.2.2.1, rfl, hA23⟩
  · skip
    refine V_ld (pc := 8) dX1_passes_8 (v := vr r) rfl rfl ?_
    refine V_callV (pc := 9) dX1_passes_9 (F' := 0) (As := []) (st := []) cw_RX1_45 rfl rfl hQ.2.1 (by decide) (Nat.le_of_ble_eq_true rfl) (by omega) (d_failed n m r   hQ) ?_
    rintro _ _ ⟨x9, rfl, Ix9, rfl, rfl, hI9, hF9⟩ ok9 le9
    refine V_reti (pc := 12) dX1_passes_12 (show _ = (0 : Int) ∨ _ = (1 : Int) from by first | exact Or.inl rfl | exact Or.inr rfl | omega) ?_
    have e_ : cTake tx n S g = cBad S := if_neg (by omega)
    refine ⟨mI (wI m Ix9), rfl, (DFr.tr DFr.rf hF9), Or.inr ?_⟩
    rw [e_]
    exact ⟨rfl, rfl, hI9.trans ((if_pos hP.2.2.1).trans hP.2.1)⟩

theorem col_y {tx : Nat → Int} {n : Nat} {S : CS} (h : ccS tx n S = 121) : cCol tx n S = (1, cAdv S) := if_pos h
theorem col_x {tx : Nat → Int} {n : Nat} {S : CS} (h : ccS tx n S = 120) : cCol tx n S = (0, cAdv S) := by
  unfold cCol cTake
  rw [if_neg (by omega), if_pos h]
theorem col_n {tx : Nat → Int} {n : Nat} {S : CS} (h : ccS tx n S ≠ 120 ∧ ccS tx n S ≠ 121) : cCol tx n S = (0, cBad S) := by
  unfold cCol cTake
  rw [if_neg h.2, if_neg h.1]

set_option maxHeartbeats 4000000 in
theorem d_opc  (m : Mem) (k : Int) (d : Int)    : Ct μX0_operand 0 [vi k, vi d] m (ri fun x_ m' => (x_ = opc k d) ∧ m = m') := by
  refine Ct_of_V rfl (by decide) rfl (Nat.le_of_ble_eq_true rfl) ?_
  show V μX0_operand 0 m _ 0 [(0, vi k), (1, vi d)] [] m
  refine V_rg (k := 0) (x := k) rfl fun r_k => ?_
  refine V_rg (k := 1) (x := d) rfl fun r_d => ?_
  refine V_ld (pc := 0) dX0_operand_0 (v := vi k) rfl rfl ?_
  refine V_bipush (pc := 1) dX0_operand_1 (by unfold I32; omega) (by decide) ?_
  refine V_ishl (pc := 3) dX0_operand_3 ?_
  refine V_ld (pc := 4) dX0_operand_4 (v := vi d) rfl rfl ?_
  refine V_ior (pc := 5) dX0_operand_5 ?_
  refine V_reti (pc := 6) dX0_operand_6 trivial ?_
  exact ⟨rfl, rfl⟩

set_option maxHeartbeats 4000000 in
theorem d_column (tx : Nat → Int) (n : Nat) (S : CS) (C : List Int) (m : Mem) (r : Nat) (kd : Int) (le : Int)   (hL : Lay (mT m) (mR m)) (hQ : QLay m r n) (hP : DQ (mI m) r tx n S C) (hlt : C.length < n ∧ 0 ≤ le ∧ le ≤ 25) : Ct μX1_column 2 [vr r, vi kd, vi le] m (ri fun x_ m' => ∃ I_ : Nat → Nat → Int, wI m I_ = m' ∧ (DFr r (mI m) I_) ∧ DOut I_ r tx n ((cCol tx n S).2) (C ++ [opc kd (2 * le + (cCol tx n S).1)]) x_) := by
  refine Ct_of_V rfl (by decide) rfl (Nat.le_of_ble_eq_true rfl) ?_
  show V μX1_column 2 m _ 0 [(0, vr r), (1, vi kd), (2, vi le)] [] m
  refine V_rg (k := 1) (x := kd) rfl fun r_kd => ?_
  refine V_rg (k := 2) (x := le) rfl fun r_le => ?_
  have hn120 := hP.2.2.2.2.2.1
  have hb0 := hP.2.2.2.2.1
  obtain ⟨hr59, hq120⟩ := hQ.1
  refine V_ld (pc := 0) dX1_column_0 (v := vr r) rfl rfl ?_
  refine V_getRv (pc := 1) dX1_column_1 (o' := 13) fw_RX1_21 rfl hQ.2.1 hQ.2.2.1 ?_
  refine V_ld (pc := 4) dX1_column_4 (v := vr r) rfl rfl ?_
  refine V_getIv (pc := 5) dX1_column_5 (v := (S.2 : Int)) fw_RX1_34 rfl hQ.2.1 hP.2.1 (fun g5 => ?_)
  refine V_callV (pc := 8) dX1_column_8 (F' := 0) (As := [vi (S.2 : Int)]) (st := []) cw_RX1_37 rfl rfl hL.t13 (by decide) (Nat.le_of_ble_eq_true rfl) (by omega) (c_Text_at  m 13 (S.2 : Int) 14  hL.t13 hL.r13_0 hL.t14) ?_
  rintro _ _ ⟨x8, rfl, hx8, rfl⟩ ok8 le8
  obtain ⟨cr8, cr80, cr81, cr82⟩ := DQ.at hP rfl hx8
  refine V_st (pc := 11) dX1_column_11 (ls' := [(3, vi x8), (0, vr r), (1, vi kd), (2, vi le)]) rfl (Nat.le_of_ble_eq_true rfl) rfl ?_
  refine V_ld (pc := 12) dX1_column_12 (v := vi x8) rfl rfl ?_
  refine V_bipush (pc := 13) dX1_column_13 (by unfold I32; omega) (by decide) ?_
  refine V_icmp_eq (pc := 15) dX1_column_15 (tgt := 29) rfl (fun h15 => ?_) (fun h15 => ?_)
  · skip
    refine V_ld (pc := 29) dX1_column_29 (v := vr r) rfl rfl ?_
    refine V_dup (pc := 30) dX1_column_30 rfl ?_
    refine V_getIv (pc := 31) dX1_column_31 (v := (S.2 : Int)) fw_RX1_34 rfl hQ.2.1 hP.2.1 (fun g31 => ?_)
    refine V_iconst (pc := 34) dX1_column_34 (by unfold I32; omega) ?_
    refine V_iadd (pc := 35) dX1_column_35 (by unfold I32 at *; omega) ?_
    refine V_putI (pc := 36) dX1_column_36 fw_RX1_34 rfl hQ.2.1 (Or.inl rfl) (Or.inl rfl) ?_
    have lthA39 : S.2 < n := by first | omega | exact (cc_lt (tx := tx) (n := n) (S := S) (by omega)).2
    have hA39 : DQ (mI (setI m r 3 ((S.2 : Int) + 1))) r tx n (cAdv S) C := DQ.adv hP rfl lthA39
    have ehA39 : (cAdv S).2 = S.2 + 1 := rfl
    refine V_ld (pc := 39) dX1_column_39 (v := vr r) rfl rfl ?_
    refine V_ld (pc := 40) dX1_column_40 (v := vi kd) rfl rfl ?_
    refine V_iconst (pc := 41) dX1_column_41 (by unfold I32; omega) ?_
    refine V_ld (pc := 42) dX1_column_42 (v := vi le) rfl rfl ?_
    refine V_imul (pc := 43) dX1_column_43 (by unfold I32 at *; omega) ?_
    refine V_ld (pc := 44) dX1_column_44 (v := vi x8) rfl rfl ?_
    refine V_bipush (pc := 45) dX1_column_45 (by unfold I32; omega) (by decide) ?_
    refine V_icmp_ne (pc := 47) dX1_column_47 (tgt := 54) rfl (fun h47 => ?_) (fun h47 => ?_)
    · skip
      refine V_iconst (pc := 54) dX1_column_54 (by unfold I32; omega) ?_
      skip
      refine V_iadd (pc := 55) dX1_column_55 (by unfold I32 at *; omega) ?_
      refine V_callS (pc := 56) dX1_column_56 (F' := 0) (As := [vi kd, vi ((2 * le) + 0)]) (st := [vr r]) cw_RX1_97 rfl rfl (Nat.le_of_ble_eq_true rfl) (by omega) (d_opc  (setI m r 3 ((S.2 : Int) + 1)) kd ((2 * le) + 0)   ) ?_
      rintro _ _ ⟨x56, rfl, rfl, rfl⟩ ok56 le56
      refine V_callV (pc := 59) dX1_column_59 (F' := 0) (As := [vi (opc kd ((2 * le) + 0))]) (st := []) cw_RX1_77 rfl rfl hQ.2.1 (by decide) (Nat.le_of_ble_eq_true rfl) (by omega) (d_emit tx n (cAdv S) C (setI m r 3 ((S.2 : Int) + 1)) r (opc kd ((2 * le) + 0))   hQ hA39 (by omega)) ?_
      rintro _ _ ⟨rfl, Ix59, rfl, hP59, hF59⟩ ok59 le59
      have lc59 : (C ++ [opc kd ((2 * le) + 0)]).length = C.length + 1 := by rw [List.length_append]; rfl
      refine V_iconst (pc := 62) dX1_column_62 (by unfold I32; omega) ?_
      refine V_reti (pc := 63) dX1_column_63 (show _ = (0 : Int) ∨ _ = (1 : Int) from by first | exact Or.inl rfl | exact Or.inr rfl | omega) ?_
      have e_ := col_x (tx := tx) (n := n) (S := S) (by omega)
      refine ⟨mI (wI (setI m r 3 ((S.2 : Int) + 1)) Ix59), rfl, (DFr.tr (DFr.set DFr.rf (by omega)) hF59), Or.inl ?_⟩
      rw [e_]
      exact ⟨hP.2.2.2.2.2.2.2.2.1, rfl, hP59⟩
    · skip
      refine V_iconst (pc := 50) dX1_column_50 (by unfold I32; omega) ?_
      refine V_goto (pc := 51) dX1_column_51 (tgt := 55) rfl ?_
      skip
      refine V_iadd (pc := 55) dX1_column_55 (by unfold I32 at *; omega) ?_
      refine V_callS (pc := 56) dX1_column_56 (F' := 0) (As := [vi kd, vi ((2 * le) + 1)]) (st := [vr r]) cw_RX1_97 rfl rfl (Nat.le_of_ble_eq_true rfl) (by omega) (d_opc  (setI m r 3 ((S.2 : Int) + 1)) kd ((2 * le) + 1)   ) ?_
      rintro _ _ ⟨x56, rfl, rfl, rfl⟩ ok56 le56
      refine V_callV (pc := 59) dX1_column_59 (F' := 0) (As := [vi (opc kd ((2 * le) + 1))]) (st := []) cw_RX1_77 rfl rfl hQ.2.1 (by decide) (Nat.le_of_ble_eq_true rfl) (by omega) (d_emit tx n (cAdv S) C (setI m r 3 ((S.2 : Int) + 1)) r (opc kd ((2 * le) + 1))   hQ hA39 (by omega)) ?_
      rintro _ _ ⟨rfl, Ix59, rfl, hP59, hF59⟩ ok59 le59
      have lc59 : (C ++ [opc kd ((2 * le) + 1)]).length = C.length + 1 := by rw [List.length_append]; rfl
      refine V_iconst (pc := 62) dX1_column_62 (by unfold I32; omega) ?_
      refine V_reti (pc := 63) dX1_column_63 (show _ = (0 : Int) ∨ _ = (1 : Int) from by first | exact Or.inl rfl | exact Or.inr rfl | omega) ?_
      have e_ := col_y (tx := tx) (n := n) (S := S) (by omega)
      refine ⟨mI (wI (setI m r 3 ((S.2 : Int) + 1)) Ix59), rfl, (DFr.tr (DFr.set DFr.rf (by omega)) hF59), Or.inl ?_⟩
      rw [e_]
      exact ⟨hP.2.2.2.2.2.2.2.2.1, rfl, hP59⟩
  · skip
    refine V_ld (pc := 18) dX1_column_18 (v := vi x8) rfl rfl ?_
    refine V_bipush (pc := 19) dX1_column_19 (by unfold I32; omega) (by decide) ?_
    refine V_icmp_eq (pc := 21) dX1_column_21 (tgt := 29) rfl (fun h21 => ?_) (fun h21 => ?_)
    · skip
      refine V_ld (pc := 29) dX1_column_29 (v := vr r) rfl rfl ?_
      refine V_dup (pc := 30) dX1_column_30 rfl ?_
      refine V_getIv (pc := 31) dX1_column_31 (v := (S.2 : Int)) fw_RX1_34 rfl hQ.2.1 hP.2.1 (fun g31 => ?_)
      refine V_iconst (pc := 34) dX1_column_34 (by unfold I32; omega) ?_
      refine V_iadd (pc := 35) dX1_column_35 (by unfold I32 at *; omega) ?_
      refine V_putI (pc := 36) dX1_column_36 fw_RX1_34 rfl hQ.2.1 (Or.inl rfl) (Or.inl rfl) ?_
      have lthA39 : S.2 < n := by first | omega | exact (cc_lt (tx := tx) (n := n) (S := S) (by omega)).2
      have hA39 : DQ (mI (setI m r 3 ((S.2 : Int) + 1))) r tx n (cAdv S) C := DQ.adv hP rfl lthA39
      have ehA39 : (cAdv S).2 = S.2 + 1 := rfl
      refine V_ld (pc := 39) dX1_column_39 (v := vr r) rfl rfl ?_
      refine V_ld (pc := 40) dX1_column_40 (v := vi kd) rfl rfl ?_
      refine V_iconst (pc := 41) dX1_column_41 (by unfold I32; omega) ?_
      refine V_ld (pc := 42) dX1_column_42 (v := vi le) rfl rfl ?_
      refine V_imul (pc := 43) dX1_column_43 (by unfold I32 at *; omega) ?_
      refine V_ld (pc := 44) dX1_column_44 (v := vi x8) rfl rfl ?_
      refine V_bipush (pc := 45) dX1_column_45 (by unfold I32; omega) (by decide) ?_
      refine V_icmp_ne (pc := 47) dX1_column_47 (tgt := 54) rfl (fun h47 => ?_) (fun h47 => ?_)
      · skip
        refine V_iconst (pc := 54) dX1_column_54 (by unfold I32; omega) ?_
        skip
        refine V_iadd (pc := 55) dX1_column_55 (by unfold I32 at *; omega) ?_
        refine V_callS (pc := 56) dX1_column_56 (F' := 0) (As := [vi kd, vi ((2 * le) + 0)]) (st := [vr r]) cw_RX1_97 rfl rfl (Nat.le_of_ble_eq_true rfl) (by omega) (d_opc  (setI m r 3 ((S.2 : Int) + 1)) kd ((2 * le) + 0)   ) ?_
        rintro _ _ ⟨x56, rfl, rfl, rfl⟩ ok56 le56
        refine V_callV (pc := 59) dX1_column_59 (F' := 0) (As := [vi (opc kd ((2 * le) + 0))]) (st := []) cw_RX1_77 rfl rfl hQ.2.1 (by decide) (Nat.le_of_ble_eq_true rfl) (by omega) (d_emit tx n (cAdv S) C (setI m r 3 ((S.2 : Int) + 1)) r (opc kd ((2 * le) + 0))   hQ hA39 (by omega)) ?_
        rintro _ _ ⟨rfl, Ix59, rfl, hP59, hF59⟩ ok59 le59
        have lc59 : (C ++ [opc kd ((2 * le) + 0)]).length = C.length + 1 := by rw [List.length_append]; rfl
        refine V_iconst (pc := 62) dX1_column_62 (by unfold I32; omega) ?_
        refine V_reti (pc := 63) dX1_column_63 (show _ = (0 : Int) ∨ _ = (1 : Int) from by first | exact Or.inl rfl | exact Or.inr rfl | omega) ?_
        have e_ := col_x (tx := tx) (n := n) (S := S) (by omega)
        refine ⟨mI (wI (setI m r 3 ((S.2 : Int) + 1)) Ix59), rfl, (DFr.tr (DFr.set DFr.rf (by omega)) hF59), Or.inl ?_⟩
        rw [e_]
        exact ⟨hP.2.2.2.2.2.2.2.2.1, rfl, hP59⟩
      · skip
        refine V_iconst (pc := 50) dX1_column_50 (by unfold I32; omega) ?_
        refine V_goto (pc := 51) dX1_column_51 (tgt := 55) rfl ?_
        skip
        refine V_iadd (pc := 55) dX1_column_55 (by unfold I32 at *; omega) ?_
        refine V_callS (pc := 56) dX1_column_56 (F' := 0) (As := [vi kd, vi ((2 * le) + 1)]) (st := [vr r]) cw_RX1_97 rfl rfl (Nat.le_of_ble_eq_true rfl) (by omega) (d_opc  (setI m r 3 ((S.2 : Int) + 1)) kd ((2 * le) + 1)   ) ?_
        rintro _ _ ⟨x56, rfl, rfl, rfl⟩ ok56 le56
        refine V_callV (pc := 59) dX1_column_59 (F' := 0) (As := [vi (opc kd ((2 * le) + 1))]) (st := []) cw_RX1_77 rfl rfl hQ.2.1 (by decide) (Nat.le_of_ble_eq_true rfl) (by omega) (d_emit tx n (cAdv S) C (setI m r 3 ((S.2 : Int) + 1)) r (opc kd ((2 * le) + 1))   hQ hA39 (by omega)) ?_
        rintro _ _ ⟨rfl, Ix59, rfl, hP59, hF59⟩ ok59 le59
        have lc59 : (C ++ [opc kd ((2 * le) + 1)]).length = C.length + 1 := by rw [List.length_append]; rfl
        refine V_iconst (pc := 62) dX1_column_62 (by unfold I32; omega) ?_
        refine V_reti (pc := 63) dX1_column_63 (show _ = (0 : Int) ∨ _ = (1 : Int) from by first | exact Or.inl rfl | exact Or.inr rfl | omega) ?_
        have e_ := col_y (tx := tx) (n := n) (S := S) (by omega)
        refine ⟨mI (wI (setI m r 3 ((S.2 : Int) + 1)) Ix59), rfl, (DFr.tr (DFr.set DFr.rf (by omega)) hF59), Or.inl ?_⟩
        rw [e_]
        exact ⟨hP.2.2.2.2.2.2.2.2.1, rfl, hP59⟩
    · skip
      refine V_ld (pc := 24) dX1_column_24 (v := vr r) rfl rfl ?_
      refine V_callV (pc := 25) dX1_column_25 (F' := 0) (As := []) (st := []) cw_RX1_45 rfl rfl hQ.2.1 (by decide) (Nat.le_of_ble_eq_true rfl) (by omega) (d_failed n m r   hQ) ?_
      rintro _ _ ⟨x25, rfl, Ix25, rfl, rfl, hI25, hF25⟩ ok25 le25
      refine V_reti (pc := 28) dX1_column_28 (show _ = (0 : Int) ∨ _ = (1 : Int) from by first | exact Or.inl rfl | exact Or.inr rfl | omega) ?_
      have e_ := col_n (tx := tx) (n := n) (S := S) (by omega)
      refine ⟨mI (wI m Ix25), rfl, (DFr.tr DFr.rf hF25), Or.inr ?_⟩
      rw [e_]
      exact ⟨rfl, rfl, hI25.trans ((if_pos hP.2.2.1).trans hP.2.1)⟩

theorem opS_num {tx : Nat → Int} {n : Nat} {S : CS} (h : ccS tx n S ≠ 120 ∧ ccS tx n S ≠ 121 ∧ ccS tx n S ≠ 112 ∧ ccS tx n S ≠ 110 ∧ ccS tx n S ≠ 102 ∧ ccS tx n S ≠ 108 ∧ ccS tx n S ≠ 115 ∧ ccS tx n S ≠ 99) (h2 : ccS tx n S ≠ 45) : (opS tx n S).1 = opc 48 ((num3 tx n S).1 + 1000) ∧ (opS tx n S).2.2 = (num3 tx n S).2 := by
  have e : opK tx n S = (48, (num3 tx n S).1 + 1000, (num3 tx n S).2) := (if_neg (by omega)).trans ((if_neg (by omega)).trans ((if_neg (by omega)).trans (if_neg h2)))
  unfold opS
  rw [e]
  exact ⟨rfl, rfl⟩
theorem opS_neg {tx : Nat → Int} {n : Nat} {S : CS} (h2 : ccS tx n S = 45) : (opS tx n S).1 = opc 48 (1000 - (num3 tx n (cAdv S)).1) ∧ (opS tx n S).2.2 = (num3 tx n (cAdv S)).2 := by
  have e : opK tx n S = (48, 1000 - (num3 tx n (cAdv S)).1, (num3 tx n (cAdv S)).2) := (if_neg (by omega)).trans ((if_neg (by omega)).trans ((if_neg (by omega)).trans (if_pos h2)))
  unfold opS
  rw [e]
  exact ⟨rfl, rfl⟩

set_option maxHeartbeats 8000000 in
theorem d_number (tx : Nat → Int) (n : Nat) (S : CS) (C : List Int) (m : Mem) (r : Nat)   (hL : Lay (mT m) (mR m)) (hQ : QLay m r n) (hP : DQ (mI m) r tx n S C) (hlt : C.length < n) (hno : ccS tx n S ≠ 120 ∧ ccS tx n S ≠ 121 ∧ ccS tx n S ≠ 112 ∧ ccS tx n S ≠ 110 ∧ ccS tx n S ≠ 102 ∧ ccS tx n S ≠ 108 ∧ ccS tx n S ≠ 115 ∧ ccS tx n S ≠ 99) : Ct μX1_number 2 [vr r] m (ri fun x_ m' => ∃ I_ : Nat → Nat → Int, wI m I_ = m' ∧ (DFr r (mI m) I_) ∧ DOut I_ r tx n ((opS tx n S).2.2) (C ++ [(opS tx n S).1]) x_) := by
  refine Ct_of_V rfl (by decide) rfl (Nat.le_of_ble_eq_true rfl) ?_
  show V μX1_number 2 m _ 0 [(0, vr r)] [] m
  have hn120 := hP.2.2.2.2.2.1
  have hb0 := hP.2.2.2.2.1
  obtain ⟨hr59, hq120⟩ := hQ.1
  refine V_iconst (pc := 0) dX1_number_0 (by unfold I32; omega) ?_
  refine V_st (pc := 1) dX1_number_1 (ls' := [(1, vi 1), (0, vr r)]) rfl (Nat.le_of_ble_eq_true rfl) rfl ?_
  refine V_ld (pc := 2) dX1_number_2 (v := vr r) rfl rfl ?_
  refine V_getRv (pc := 3) dX1_number_3 (o' := 13) fw_RX1_21 rfl hQ.2.1 hQ.2.2.1 ?_
  refine V_ld (pc := 6) dX1_number_6 (v := vr r) rfl rfl ?_
  refine V_getIv (pc := 7) dX1_number_7 (v := (S.2 : Int)) fw_RX1_34 rfl hQ.2.1 hP.2.1 (fun g7 => ?_)
  refine V_callV (pc := 10) dX1_number_10 (F' := 0) (As := [vi (S.2 : Int)]) (st := []) cw_RX1_37 rfl rfl hL.t13 (by decide) (Nat.le_of_ble_eq_true rfl) (by omega) (c_Text_at  m 13 (S.2 : Int) 14  hL.t13 hL.r13_0 hL.t14) ?_
  rintro _ _ ⟨x10, rfl, hx10, rfl⟩ ok10 le10
  obtain ⟨cr10, cr100, cr101, cr102⟩ := DQ.at hP rfl hx10
  refine V_bipush (pc := 13) dX1_number_13 (by unfold I32; omega) (by decide) ?_
  refine V_icmp_ne (pc := 15) dX1_number_15 (tgt := 30) rfl (fun h15 => ?_) (fun h15 => ?_)
  · skip
    have hm_ : ccS tx n S ≠ 45 := by omega
    refine V_ld (pc := 30) dX1_number_30 (v := vr r) rfl rfl ?_
    refine V_getIv (pc := 31) dX1_number_31 (v := (S.2 : Int)) fw_RX1_34 rfl hQ.2.1 hP.2.1 (fun g31 => ?_)
    refine V_st (pc := 34) dX1_number_34 (ls' := [(2, vi (S.2 : Int)), (1, vi 1), (0, vr r)]) rfl (Nat.le_of_ble_eq_true rfl) rfl ?_
    refine V_iconst (pc := 35) dX1_number_35 (by unfold I32; omega) ?_
    refine V_st (pc := 36) dX1_number_36 (ls' := [(3, vi 0), (2, vi (S.2 : Int)), (1, vi 1), (0, vr r)]) rfl (Nat.le_of_ble_eq_true rfl) rfl ?_
    refine V_iconst (pc := 37) dX1_number_37 (by unfold I32; omega) ?_
    refine V_st (pc := 38) dX1_number_38 (ls' := [(4, vi 0), (3, vi 0), (2, vi (S.2 : Int)), (1, vi 1), (0, vr r)]) rfl (Nat.le_of_ble_eq_true rfl) rfl ?_
    skip
    refine V_ld (pc := 40) dX1_number_40 (v := vi 0) rfl rfl ?_
    refine V_iconst (pc := 42) dX1_number_42 (by unfold I32; omega) ?_
    refine V_icmp_ge (pc := 43) dX1_number_43 (tgt := 101) rfl (fun h_ => absurd h_ (by decide)) (fun _ => ?_)
    skip
    refine V_ld (pc := 46) dX1_number_46 (v := vr r) rfl rfl ?_
    refine V_getRv (pc := 47) dX1_number_47 (o' := 13) fw_RX1_21 rfl hQ.2.1 hQ.2.2.1 ?_
    refine V_ld (pc := 50) dX1_number_50 (v := vr r) rfl rfl ?_
    refine V_getIv (pc := 51) dX1_number_51 (v := (S.2 : Int)) fw_RX1_34 rfl hQ.2.1 hP.2.1 (fun g51 => ?_)
    refine V_callV (pc := 54) dX1_number_54 (F' := 0) (As := [vi (S.2 : Int)]) (st := []) cw_RX1_37 rfl rfl hL.t13 (by decide) (Nat.le_of_ble_eq_true rfl) (by omega) (c_Text_at  m 13 (S.2 : Int) 14  hL.t13 hL.r13_0 hL.t14) ?_
    rintro _ _ ⟨x541, rfl, hx541, rfl⟩ ok54 le54
    obtain ⟨cs1, cs10, cs11, cs12⟩ := DQ.at hP rfl hx541
    refine V_bipush (pc := 57) dX1_number_57 (by unfold I32; omega) (by decide) ?_
    refine V_isub (pc := 59) dX1_number_59 (by unfold I32 at *; omega) ?_
    refine V_st (pc := 60) dX1_number_60 (ls' := [(5, vi (x541 - 48)), (4, vi 0), (3, vi 0), (2, vi (S.2 : Int)), (1, vi 1), (0, vr r)]) rfl (Nat.le_of_ble_eq_true rfl) rfl ?_
    refine V_ld (pc := 62) dX1_number_62 (v := vi (x541 - 48)) rfl rfl ?_
    refine V_if_lt (pc := 64) dX1_number_64 (tgt := 101) rfl (fun h64 => ?_) (fun h64 => ?_)
    · skip
      refine V_ld (pc := 101) dX1_number_101 (v := vr r) rfl rfl ?_
      refine V_getIv (pc := 102) dX1_number_102 (v := (S.2 : Int)) fw_RX1_34 rfl hQ.2.1 hP.2.1 (fun g102 => ?_)
      refine V_ld (pc := 105) dX1_number_105 (v := vi (S.2 : Int)) rfl rfl ?_
      refine V_icmp_ne (pc := 106) dX1_number_106 (tgt := 114) rfl (fun h106 => ?_) (fun h106 => ?_)
      · skip
        refine V_ld (pc := 114) dX1_number_114 (v := vr r) rfl rfl ?_
        refine V_bipush (pc := 115) dX1_number_115 (by unfold I32; omega) (by decide) ?_
        refine V_ld (pc := 117) dX1_number_117 (v := vi 1) rfl rfl ?_
        refine V_ld (pc := 118) dX1_number_118 (v := vi 0) rfl rfl ?_
        refine V_imul (pc := 119) dX1_number_119 (by unfold I32 at *; omega) ?_
        refine V_sipush (pc := 120) dX1_number_120 (by unfold I32; omega) (by decide) ?_
        refine V_iadd (pc := 123) dX1_number_123 (by unfold I32 at *; omega) ?_
        refine V_callS (pc := 124) dX1_number_124 (F' := 0) (As := [vi 48, vi ((1 * 0) + 1000)]) (st := [vr r]) cw_RX1_97 rfl rfl (Nat.le_of_ble_eq_true rfl) (by omega) (d_opc  m 48 ((1 * 0) + 1000)   ) ?_
        rintro _ _ ⟨x124, rfl, rfl, rfl⟩ ok124 le124
        refine V_callV (pc := 127) dX1_number_127 (F' := 0) (As := [vi (opc 48 ((1 * 0) + 1000))]) (st := []) cw_RX1_77 rfl rfl hQ.2.1 (by decide) (Nat.le_of_ble_eq_true rfl) (by omega) (d_emit tx n S C m r (opc 48 ((1 * 0) + 1000))   hQ hP (by omega)) ?_
        rintro _ _ ⟨rfl, Ix127, rfl, hP127, hF127⟩ ok127 le127
        have lc127 : (C ++ [opc 48 ((1 * 0) + 1000)]).length = C.length + 1 := by rw [List.length_append]; rfl
        refine V_iconst (pc := 130) dX1_number_130 (by unfold I32; omega) ?_
        refine V_reti (pc := 131) dX1_number_131 (show _ = (0 : Int) ∨ _ = (1 : Int) from by first | exact Or.inl rfl | exact Or.inr rfl | omega) ?_
        exfalso; omega
      · skip
        refine V_ld (pc := 109) dX1_number_109 (v := vr r) rfl rfl ?_
        refine V_callV (pc := 110) dX1_number_110 (F' := 0) (As := []) (st := []) cw_RX1_45 rfl rfl hQ.2.1 (by decide) (Nat.le_of_ble_eq_true rfl) (by omega) (d_failed n m r   hQ) ?_
        rintro _ _ ⟨x110, rfl, Ix110, rfl, rfl, hI110, hF110⟩ ok110 le110
        refine V_reti (pc := 113) dX1_number_113 (show _ = (0 : Int) ∨ _ = (1 : Int) from by first | exact Or.inl rfl | exact Or.inr rfl | omega) ?_
        first
          | (exfalso; omega)
          | (have en_ := n30 (tx := tx) (n := n) (S := S) (by unfold cDg; omega)
             have oo_ := opS_num (tx := tx) (n := n) (S := S) hno hm_
             rw [en_] at oo_
             refine ⟨mI (wI m Ix110), rfl, (DFr.tr DFr.rf hF110), Or.inr ?_⟩
             rw [oo_.2]
             exact ⟨rfl, rfl, hI110.trans ((if_pos hP.2.2.1).trans hP.2.1)⟩)
    · skip
      refine V_ld (pc := 67) dX1_number_67 (v := vi (x541 - 48)) rfl rfl ?_
      refine V_bipush (pc := 69) dX1_number_69 (by unfold I32; omega) (by decide) ?_
      refine V_icmp_le (pc := 71) dX1_number_71 (tgt := 77) rfl (fun h71 => ?_) (fun h71 => ?_)
      · skip
        refine V_ld (pc := 77) dX1_number_77 (v := vi 0) rfl rfl ?_
        refine V_bipush (pc := 78) dX1_number_78 (by unfold I32; omega) (by decide) ?_
        refine V_imul (pc := 80) dX1_number_80 (by unfold I32 at *; omega) ?_
        refine V_ld (pc := 81) dX1_number_81 (v := vi (x541 - 48)) rfl rfl ?_
        refine V_iadd (pc := 83) dX1_number_83 (by unfold I32 at *; omega) ?_
        refine V_st (pc := 84) dX1_number_84 (ls' := [(3, vi ((0 * 10) + (x541 - 48))), (5, vi (x541 - 48)), (4, vi 0), (2, vi (S.2 : Int)), (1, vi 1), (0, vr r)]) rfl (Nat.le_of_ble_eq_true rfl) rfl ?_
        refine V_ld (pc := 85) dX1_number_85 (v := vr r) rfl rfl ?_
        refine V_dup (pc := 86) dX1_number_86 rfl ?_
        refine V_getIv (pc := 87) dX1_number_87 (v := (S.2 : Int)) fw_RX1_34 rfl hQ.2.1 hP.2.1 (fun g87 => ?_)
        refine V_iconst (pc := 90) dX1_number_90 (by unfold I32; omega) ?_
        refine V_iadd (pc := 91) dX1_number_91 (by unfold I32 at *; omega) ?_
        refine V_putI (pc := 92) dX1_number_92 fw_RX1_34 rfl hQ.2.1 (Or.inl rfl) (Or.inl rfl) ?_
        refine V_iinc (pc := 95) dX1_number_95 (x := 0) (ls' := [(4, vi (0 + 1)), (3, vi ((0 * 10) + (x541 - 48))), (5, vi (x541 - 48)), (2, vi (S.2 : Int)), (1, vi 1), (0, vr r)]) rfl (by unfold I32 at *; omega) (Nat.le_of_ble_eq_true rfl) rfl ?_
        refine V_goto (pc := 98) dX1_number_98 (tgt := 40) rfl ?_
        have lthN1 : S.2 < n := by first | omega | exact (cc_lt (tx := tx) (n := n) (S := S) (by omega)).2
        have hN1 : DQ (mI (setI m r 3 ((S.2 : Int) + 1))) r tx n (cAdv S) C := DQ.adv hP rfl lthN1
        have ehN1 : (cAdv S).2 = S.2 + 1 := rfl
        refine V_ld (pc := 40) dX1_number_40 (v := vi (0 + 1)) rfl rfl ?_
        refine V_iconst (pc := 42) dX1_number_42 (by unfold I32; omega) ?_
        refine V_icmp_ge (pc := 43) dX1_number_43 (tgt := 101) rfl (fun h43 => ?_) (fun h43 => ?_)
        · skip
          refine V_ld (pc := 101) dX1_number_101 (v := vr r) rfl rfl ?_
          refine V_getIv (pc := 102) dX1_number_102 (v := ((cAdv S).2 : Int)) fw_RX1_34 rfl hQ.2.1 hN1.2.1 (fun g102 => ?_)
          refine V_ld (pc := 105) dX1_number_105 (v := vi (S.2 : Int)) rfl rfl ?_
          refine V_icmp_ne (pc := 106) dX1_number_106 (tgt := 114) rfl (fun h106 => ?_) (fun h106 => ?_)
          · skip
            refine V_ld (pc := 114) dX1_number_114 (v := vr r) rfl rfl ?_
            refine V_bipush (pc := 115) dX1_number_115 (by unfold I32; omega) (by decide) ?_
            refine V_ld (pc := 117) dX1_number_117 (v := vi 1) rfl rfl ?_
            refine V_ld (pc := 118) dX1_number_118 (v := vi ((0 * 10) + (x541 - 48))) rfl rfl ?_
            refine V_imul (pc := 119) dX1_number_119 (by unfold I32 at *; omega) ?_
            refine V_sipush (pc := 120) dX1_number_120 (by unfold I32; omega) (by decide) ?_
            refine V_iadd (pc := 123) dX1_number_123 (by unfold I32 at *; omega) ?_
            refine V_callS (pc := 124) dX1_number_124 (F' := 0) (As := [vi 48, vi ((1 * ((0 * 10) + (x541 - 48))) + 1000)]) (st := [vr r]) cw_RX1_97 rfl rfl (Nat.le_of_ble_eq_true rfl) (by omega) (d_opc  (setI m r 3 ((S.2 : Int) + 1)) 48 ((1 * ((0 * 10) + (x541 - 48))) + 1000)   ) ?_
            rintro _ _ ⟨x124, rfl, rfl, rfl⟩ ok124 le124
            refine V_callV (pc := 127) dX1_number_127 (F' := 0) (As := [vi (opc 48 ((1 * ((0 * 10) + (x541 - 48))) + 1000))]) (st := []) cw_RX1_77 rfl rfl hQ.2.1 (by decide) (Nat.le_of_ble_eq_true rfl) (by omega) (d_emit tx n (cAdv S) C (setI m r 3 ((S.2 : Int) + 1)) r (opc 48 ((1 * ((0 * 10) + (x541 - 48))) + 1000))   hQ hN1 (by omega)) ?_
            rintro _ _ ⟨rfl, Ix127, rfl, hP127, hF127⟩ ok127 le127
            have lc127 : (C ++ [opc 48 ((1 * ((0 * 10) + (x541 - 48))) + 1000)]).length = C.length + 1 := by rw [List.length_append]; rfl
            refine V_iconst (pc := 130) dX1_number_130 (by unfold I32; omega) ?_
            refine V_reti (pc := 131) dX1_number_131 (show _ = (0 : Int) ∨ _ = (1 : Int) from by first | exact Or.inl rfl | exact Or.inr rfl | omega) ?_
            first
              | (exfalso; omega)
              | (have en_ := n31 (tx := tx) (n := n) (S := S) (by unfold cDg; omega) (by unfold cDg; omega)
                 have oo_ := opS_num (tx := tx) (n := n) (S := S) hno hm_
                 rw [en_] at oo_
                 refine ⟨mI (wI (setI m r 3 ((S.2 : Int) + 1)) Ix127), rfl, (DFr.tr (DFr.set DFr.rf (by omega)) hF127), Or.inl ?_⟩
                 have hO_ : opc 48 ((1 * ((0 * 10) + (x541 - 48))) + 1000) = (opS tx n S).1 := by rw [oo_.1]; congr 1; show _ = _ + 1000; simp only []; omega
                 have hP_ := hP127
                 rw [hO_] at hP_
                 rw [oo_.2]
                 exact ⟨hP.2.2.2.2.2.2.2.2.1, rfl, hP_⟩)
          · skip
            refine V_ld (pc := 109) dX1_number_109 (v := vr r) rfl rfl ?_
            refine V_callV (pc := 110) dX1_number_110 (F' := 0) (As := []) (st := []) cw_RX1_45 rfl rfl hQ.2.1 (by decide) (Nat.le_of_ble_eq_true rfl) (by omega) (d_failed n (setI m r 3 ((S.2 : Int) + 1)) r   hQ) ?_
            rintro _ _ ⟨x110, rfl, Ix110, rfl, rfl, hI110, hF110⟩ ok110 le110
            refine V_reti (pc := 113) dX1_number_113 (show _ = (0 : Int) ∨ _ = (1 : Int) from by first | exact Or.inl rfl | exact Or.inr rfl | omega) ?_
            exfalso; omega
        · skip
          skip
          refine V_ld (pc := 46) dX1_number_46 (v := vr r) rfl rfl ?_
          refine V_getRv (pc := 47) dX1_number_47 (o' := 13) fw_RX1_21 rfl hQ.2.1 hQ.2.2.1 ?_
          refine V_ld (pc := 50) dX1_number_50 (v := vr r) rfl rfl ?_
          refine V_getIv (pc := 51) dX1_number_51 (v := ((cAdv S).2 : Int)) fw_RX1_34 rfl hQ.2.1 hN1.2.1 (fun g51 => ?_)
          refine V_callV (pc := 54) dX1_number_54 (F' := 0) (As := [vi ((cAdv S).2 : Int)]) (st := []) cw_RX1_37 rfl rfl hL.t13 (by decide) (Nat.le_of_ble_eq_true rfl) (by omega) (c_Text_at  (setI m r 3 ((S.2 : Int) + 1)) 13 ((cAdv S).2 : Int) 14  hL.t13 hL.r13_0 hL.t14) ?_
          rintro _ _ ⟨x542, rfl, hx542, rfl⟩ ok54 le54
          obtain ⟨cs2, cs20, cs21, cs22⟩ := DQ.at hN1 rfl hx542
          refine V_bipush (pc := 57) dX1_number_57 (by unfold I32; omega) (by decide) ?_
          refine V_isub (pc := 59) dX1_number_59 (by unfold I32 at *; omega) ?_
          refine V_st (pc := 60) dX1_number_60 (ls' := [(5, vi (x542 - 48)), (4, vi (0 + 1)), (3, vi ((0 * 10) + (x541 - 48))), (2, vi (S.2 : Int)), (1, vi 1), (0, vr r)]) rfl (Nat.le_of_ble_eq_true rfl) rfl ?_
          refine V_ld (pc := 62) dX1_number_62 (v := vi (x542 - 48)) rfl rfl ?_
          refine V_if_lt (pc := 64) dX1_number_64 (tgt := 101) rfl (fun h64 => ?_) (fun h64 => ?_)
          · skip
            refine V_ld (pc := 101) dX1_number_101 (v := vr r) rfl rfl ?_
            refine V_getIv (pc := 102) dX1_number_102 (v := ((cAdv S).2 : Int)) fw_RX1_34 rfl hQ.2.1 hN1.2.1 (fun g102 => ?_)
            refine V_ld (pc := 105) dX1_number_105 (v := vi (S.2 : Int)) rfl rfl ?_
            refine V_icmp_ne (pc := 106) dX1_number_106 (tgt := 114) rfl (fun h106 => ?_) (fun h106 => ?_)
            · skip
              refine V_ld (pc := 114) dX1_number_114 (v := vr r) rfl rfl ?_
              refine V_bipush (pc := 115) dX1_number_115 (by unfold I32; omega) (by decide) ?_
              refine V_ld (pc := 117) dX1_number_117 (v := vi 1) rfl rfl ?_
              refine V_ld (pc := 118) dX1_number_118 (v := vi ((0 * 10) + (x541 - 48))) rfl rfl ?_
              refine V_imul (pc := 119) dX1_number_119 (by unfold I32 at *; omega) ?_
              refine V_sipush (pc := 120) dX1_number_120 (by unfold I32; omega) (by decide) ?_
              refine V_iadd (pc := 123) dX1_number_123 (by unfold I32 at *; omega) ?_
              refine V_callS (pc := 124) dX1_number_124 (F' := 0) (As := [vi 48, vi ((1 * ((0 * 10) + (x541 - 48))) + 1000)]) (st := [vr r]) cw_RX1_97 rfl rfl (Nat.le_of_ble_eq_true rfl) (by omega) (d_opc  (setI m r 3 ((S.2 : Int) + 1)) 48 ((1 * ((0 * 10) + (x541 - 48))) + 1000)   ) ?_
              rintro _ _ ⟨x124, rfl, rfl, rfl⟩ ok124 le124
              refine V_callV (pc := 127) dX1_number_127 (F' := 0) (As := [vi (opc 48 ((1 * ((0 * 10) + (x541 - 48))) + 1000))]) (st := []) cw_RX1_77 rfl rfl hQ.2.1 (by decide) (Nat.le_of_ble_eq_true rfl) (by omega) (d_emit tx n (cAdv S) C (setI m r 3 ((S.2 : Int) + 1)) r (opc 48 ((1 * ((0 * 10) + (x541 - 48))) + 1000))   hQ hN1 (by omega)) ?_
              rintro _ _ ⟨rfl, Ix127, rfl, hP127, hF127⟩ ok127 le127
              have lc127 : (C ++ [opc 48 ((1 * ((0 * 10) + (x541 - 48))) + 1000)]).length = C.length + 1 := by rw [List.length_append]; rfl
              refine V_iconst (pc := 130) dX1_number_130 (by unfold I32; omega) ?_
              refine V_reti (pc := 131) dX1_number_131 (show _ = (0 : Int) ∨ _ = (1 : Int) from by first | exact Or.inl rfl | exact Or.inr rfl | omega) ?_
              first
                | (exfalso; omega)
                | (have en_ := n31 (tx := tx) (n := n) (S := S) (by unfold cDg; omega) (by unfold cDg; omega)
                   have oo_ := opS_num (tx := tx) (n := n) (S := S) hno hm_
                   rw [en_] at oo_
                   refine ⟨mI (wI (setI m r 3 ((S.2 : Int) + 1)) Ix127), rfl, (DFr.tr (DFr.set DFr.rf (by omega)) hF127), Or.inl ?_⟩
                   have hO_ : opc 48 ((1 * ((0 * 10) + (x541 - 48))) + 1000) = (opS tx n S).1 := by rw [oo_.1]; congr 1; show _ = _ + 1000; simp only []; omega
                   have hP_ := hP127
                   rw [hO_] at hP_
                   rw [oo_.2]
                   exact ⟨hP.2.2.2.2.2.2.2.2.1, rfl, hP_⟩)
            · skip
              refine V_ld (pc := 109) dX1_number_109 (v := vr r) rfl rfl ?_
              refine V_callV (pc := 110) dX1_number_110 (F' := 0) (As := []) (st := []) cw_RX1_45 rfl rfl hQ.2.1 (by decide) (Nat.le_of_ble_eq_true rfl) (by omega) (d_failed n (setI m r 3 ((S.2 : Int) + 1)) r   hQ) ?_
              rintro _ _ ⟨x110, rfl, Ix110, rfl, rfl, hI110, hF110⟩ ok110 le110
              refine V_reti (pc := 113) dX1_number_113 (show _ = (0 : Int) ∨ _ = (1 : Int) from by first | exact Or.inl rfl | exact Or.inr rfl | omega) ?_
              exfalso; omega
          · skip
            refine V_ld (pc := 67) dX1_number_67 (v := vi (x542 - 48)) rfl rfl ?_
            refine V_bipush (pc := 69) dX1_number_69 (by unfold I32; omega) (by decide) ?_
            refine V_icmp_le (pc := 71) dX1_number_71 (tgt := 77) rfl (fun h71 => ?_) (fun h71 => ?_)
            · skip
              refine V_ld (pc := 77) dX1_number_77 (v := vi ((0 * 10) + (x541 - 48))) rfl rfl ?_
              refine V_bipush (pc := 78) dX1_number_78 (by unfold I32; omega) (by decide) ?_
              refine V_imul (pc := 80) dX1_number_80 (by unfold I32 at *; omega) ?_
              refine V_ld (pc := 81) dX1_number_81 (v := vi (x542 - 48)) rfl rfl ?_
              refine V_iadd (pc := 83) dX1_number_83 (by unfold I32 at *; omega) ?_
              refine V_st (pc := 84) dX1_number_84 (ls' := [(3, vi ((((0 * 10) + (x541 - 48)) * 10) + (x542 - 48))), (5, vi (x542 - 48)), (4, vi (0 + 1)), (2, vi (S.2 : Int)), (1, vi 1), (0, vr r)]) rfl (Nat.le_of_ble_eq_true rfl) rfl ?_
              refine V_ld (pc := 85) dX1_number_85 (v := vr r) rfl rfl ?_
              refine V_dup (pc := 86) dX1_number_86 rfl ?_
              refine V_getIv (pc := 87) dX1_number_87 (v := ((cAdv S).2 : Int)) fw_RX1_34 rfl hQ.2.1 hN1.2.1 (fun g87 => ?_)
              refine V_iconst (pc := 90) dX1_number_90 (by unfold I32; omega) ?_
              refine V_iadd (pc := 91) dX1_number_91 (by unfold I32 at *; omega) ?_
              refine V_putI (pc := 92) dX1_number_92 fw_RX1_34 rfl hQ.2.1 (Or.inl rfl) (Or.inl rfl) ?_
              refine V_iinc (pc := 95) dX1_number_95 (x := (0 + 1)) (ls' := [(4, vi ((0 + 1) + 1)), (3, vi ((((0 * 10) + (x541 - 48)) * 10) + (x542 - 48))), (5, vi (x542 - 48)), (2, vi (S.2 : Int)), (1, vi 1), (0, vr r)]) rfl (by unfold I32 at *; omega) (Nat.le_of_ble_eq_true rfl) rfl ?_
              refine V_goto (pc := 98) dX1_number_98 (tgt := 40) rfl ?_
              have lthN2 : (cAdv S).2 < n := by first | omega | exact (cc_lt (tx := tx) (n := n) (S := (cAdv S)) (by omega)).2
              have hN2 : DQ (mI (setI (setI m r 3 ((S.2 : Int) + 1)) r 3 (((cAdv S).2 : Int) + 1))) r tx n (cAdv (cAdv S)) C := DQ.adv hN1 rfl lthN2
              have ehN2 : (cAdv (cAdv S)).2 = (cAdv S).2 + 1 := rfl
              refine V_ld (pc := 40) dX1_number_40 (v := vi ((0 + 1) + 1)) rfl rfl ?_
              refine V_iconst (pc := 42) dX1_number_42 (by unfold I32; omega) ?_
              refine V_icmp_ge (pc := 43) dX1_number_43 (tgt := 101) rfl (fun h43 => ?_) (fun h43 => ?_)
              · skip
                refine V_ld (pc := 101) dX1_number_101 (v := vr r) rfl rfl ?_
                refine V_getIv (pc := 102) dX1_number_102 (v := ((cAdv (cAdv S)).2 : Int)) fw_RX1_34 rfl hQ.2.1 hN2.2.1 (fun g102 => ?_)
                refine V_ld (pc := 105) dX1_number_105 (v := vi (S.2 : Int)) rfl rfl ?_
                refine V_icmp_ne (pc := 106) dX1_number_106 (tgt := 114) rfl (fun h106 => ?_) (fun h106 => ?_)
                · skip
                  refine V_ld (pc := 114) dX1_number_114 (v := vr r) rfl rfl ?_
                  refine V_bipush (pc := 115) dX1_number_115 (by unfold I32; omega) (by decide) ?_
                  refine V_ld (pc := 117) dX1_number_117 (v := vi 1) rfl rfl ?_
                  refine V_ld (pc := 118) dX1_number_118 (v := vi ((((0 * 10) + (x541 - 48)) * 10) + (x542 - 48))) rfl rfl ?_
                  refine V_imul (pc := 119) dX1_number_119 (by unfold I32 at *; omega) ?_
                  refine V_sipush (pc := 120) dX1_number_120 (by unfold I32; omega) (by decide) ?_
                  refine V_iadd (pc := 123) dX1_number_123 (by unfold I32 at *; omega) ?_
                  refine V_callS (pc := 124) dX1_number_124 (F' := 0) (As := [vi 48, vi ((1 * ((((0 * 10) + (x541 - 48)) * 10) + (x542 - 48))) + 1000)]) (st := [vr r]) cw_RX1_97 rfl rfl (Nat.le_of_ble_eq_true rfl) (by omega) (d_opc  (setI (setI m r 3 ((S.2 : Int) + 1)) r 3 (((cAdv S).2 : Int) + 1)) 48 ((1 * ((((0 * 10) + (x541 - 48)) * 10) + (x542 - 48))) + 1000)   ) ?_
                  rintro _ _ ⟨x124, rfl, rfl, rfl⟩ ok124 le124
                  refine V_callV (pc := 127) dX1_number_127 (F' := 0) (As := [vi (opc 48 ((1 * ((((0 * 10) + (x541 - 48)) * 10) + (x542 - 48))) + 1000))]) (st := []) cw_RX1_77 rfl rfl hQ.2.1 (by decide) (Nat.le_of_ble_eq_true rfl) (by omega) (d_emit tx n (cAdv (cAdv S)) C (setI (setI m r 3 ((S.2 : Int) + 1)) r 3 (((cAdv S).2 : Int) + 1)) r (opc 48 ((1 * ((((0 * 10) + (x541 - 48)) * 10) + (x542 - 48))) + 1000))   hQ hN2 (by omega)) ?_
                  rintro _ _ ⟨rfl, Ix127, rfl, hP127, hF127⟩ ok127 le127
                  have lc127 : (C ++ [opc 48 ((1 * ((((0 * 10) + (x541 - 48)) * 10) + (x542 - 48))) + 1000)]).length = C.length + 1 := by rw [List.length_append]; rfl
                  refine V_iconst (pc := 130) dX1_number_130 (by unfold I32; omega) ?_
                  refine V_reti (pc := 131) dX1_number_131 (show _ = (0 : Int) ∨ _ = (1 : Int) from by first | exact Or.inl rfl | exact Or.inr rfl | omega) ?_
                  first
                    | (exfalso; omega)
                    | (have en_ := n32 (tx := tx) (n := n) (S := S) (by unfold cDg; omega) (by unfold cDg; omega) (by unfold cDg; omega)
                       have oo_ := opS_num (tx := tx) (n := n) (S := S) hno hm_
                       rw [en_] at oo_
                       refine ⟨mI (wI (setI (setI m r 3 ((S.2 : Int) + 1)) r 3 (((cAdv S).2 : Int) + 1)) Ix127), rfl, (DFr.tr (DFr.set (DFr.set DFr.rf (by omega)) (by omega)) hF127), Or.inl ?_⟩
                       have hO_ : opc 48 ((1 * ((((0 * 10) + (x541 - 48)) * 10) + (x542 - 48))) + 1000) = (opS tx n S).1 := by rw [oo_.1]; congr 1; show _ = _ + 1000; simp only []; omega
                       have hP_ := hP127
                       rw [hO_] at hP_
                       rw [oo_.2]
                       exact ⟨hP.2.2.2.2.2.2.2.2.1, rfl, hP_⟩)
                · skip
                  refine V_ld (pc := 109) dX1_number_109 (v := vr r) rfl rfl ?_
                  refine V_callV (pc := 110) dX1_number_110 (F' := 0) (As := []) (st := []) cw_RX1_45 rfl rfl hQ.2.1 (by decide) (Nat.le_of_ble_eq_true rfl) (by omega) (d_failed n (setI (setI m r 3 ((S.2 : Int) + 1)) r 3 (((cAdv S).2 : Int) + 1)) r   hQ) ?_
                  rintro _ _ ⟨x110, rfl, Ix110, rfl, rfl, hI110, hF110⟩ ok110 le110
                  refine V_reti (pc := 113) dX1_number_113 (show _ = (0 : Int) ∨ _ = (1 : Int) from by first | exact Or.inl rfl | exact Or.inr rfl | omega) ?_
                  exfalso; omega
              · skip
                skip
                refine V_ld (pc := 46) dX1_number_46 (v := vr r) rfl rfl ?_
                refine V_getRv (pc := 47) dX1_number_47 (o' := 13) fw_RX1_21 rfl hQ.2.1 hQ.2.2.1 ?_
                refine V_ld (pc := 50) dX1_number_50 (v := vr r) rfl rfl ?_
                refine V_getIv (pc := 51) dX1_number_51 (v := ((cAdv (cAdv S)).2 : Int)) fw_RX1_34 rfl hQ.2.1 hN2.2.1 (fun g51 => ?_)
                refine V_callV (pc := 54) dX1_number_54 (F' := 0) (As := [vi ((cAdv (cAdv S)).2 : Int)]) (st := []) cw_RX1_37 rfl rfl hL.t13 (by decide) (Nat.le_of_ble_eq_true rfl) (by omega) (c_Text_at  (setI (setI m r 3 ((S.2 : Int) + 1)) r 3 (((cAdv S).2 : Int) + 1)) 13 ((cAdv (cAdv S)).2 : Int) 14  hL.t13 hL.r13_0 hL.t14) ?_
                rintro _ _ ⟨x543, rfl, hx543, rfl⟩ ok54 le54
                obtain ⟨cs3, cs30, cs31, cs32⟩ := DQ.at hN2 rfl hx543
                refine V_bipush (pc := 57) dX1_number_57 (by unfold I32; omega) (by decide) ?_
                refine V_isub (pc := 59) dX1_number_59 (by unfold I32 at *; omega) ?_
                refine V_st (pc := 60) dX1_number_60 (ls' := [(5, vi (x543 - 48)), (4, vi ((0 + 1) + 1)), (3, vi ((((0 * 10) + (x541 - 48)) * 10) + (x542 - 48))), (2, vi (S.2 : Int)), (1, vi 1), (0, vr r)]) rfl (Nat.le_of_ble_eq_true rfl) rfl ?_
                refine V_ld (pc := 62) dX1_number_62 (v := vi (x543 - 48)) rfl rfl ?_
                refine V_if_lt (pc := 64) dX1_number_64 (tgt := 101) rfl (fun h64 => ?_) (fun h64 => ?_)
                · skip
                  refine V_ld (pc := 101) dX1_number_101 (v := vr r) rfl rfl ?_
                  refine V_getIv (pc := 102) dX1_number_102 (v := ((cAdv (cAdv S)).2 : Int)) fw_RX1_34 rfl hQ.2.1 hN2.2.1 (fun g102 => ?_)
                  refine V_ld (pc := 105) dX1_number_105 (v := vi (S.2 : Int)) rfl rfl ?_
                  refine V_icmp_ne (pc := 106) dX1_number_106 (tgt := 114) rfl (fun h106 => ?_) (fun h106 => ?_)
                  · skip
                    refine V_ld (pc := 114) dX1_number_114 (v := vr r) rfl rfl ?_
                    refine V_bipush (pc := 115) dX1_number_115 (by unfold I32; omega) (by decide) ?_
                    refine V_ld (pc := 117) dX1_number_117 (v := vi 1) rfl rfl ?_
                    refine V_ld (pc := 118) dX1_number_118 (v := vi ((((0 * 10) + (x541 - 48)) * 10) + (x542 - 48))) rfl rfl ?_
                    refine V_imul (pc := 119) dX1_number_119 (by unfold I32 at *; omega) ?_
                    refine V_sipush (pc := 120) dX1_number_120 (by unfold I32; omega) (by decide) ?_
                    refine V_iadd (pc := 123) dX1_number_123 (by unfold I32 at *; omega) ?_
                    refine V_callS (pc := 124) dX1_number_124 (F' := 0) (As := [vi 48, vi ((1 * ((((0 * 10) + (x541 - 48)) * 10) + (x542 - 48))) + 1000)]) (st := [vr r]) cw_RX1_97 rfl rfl (Nat.le_of_ble_eq_true rfl) (by omega) (d_opc  (setI (setI m r 3 ((S.2 : Int) + 1)) r 3 (((cAdv S).2 : Int) + 1)) 48 ((1 * ((((0 * 10) + (x541 - 48)) * 10) + (x542 - 48))) + 1000)   ) ?_
                    rintro _ _ ⟨x124, rfl, rfl, rfl⟩ ok124 le124
                    refine V_callV (pc := 127) dX1_number_127 (F' := 0) (As := [vi (opc 48 ((1 * ((((0 * 10) + (x541 - 48)) * 10) + (x542 - 48))) + 1000))]) (st := []) cw_RX1_77 rfl rfl hQ.2.1 (by decide) (Nat.le_of_ble_eq_true rfl) (by omega) (d_emit tx n (cAdv (cAdv S)) C (setI (setI m r 3 ((S.2 : Int) + 1)) r 3 (((cAdv S).2 : Int) + 1)) r (opc 48 ((1 * ((((0 * 10) + (x541 - 48)) * 10) + (x542 - 48))) + 1000))   hQ hN2 (by omega)) ?_
                    rintro _ _ ⟨rfl, Ix127, rfl, hP127, hF127⟩ ok127 le127
                    have lc127 : (C ++ [opc 48 ((1 * ((((0 * 10) + (x541 - 48)) * 10) + (x542 - 48))) + 1000)]).length = C.length + 1 := by rw [List.length_append]; rfl
                    refine V_iconst (pc := 130) dX1_number_130 (by unfold I32; omega) ?_
                    refine V_reti (pc := 131) dX1_number_131 (show _ = (0 : Int) ∨ _ = (1 : Int) from by first | exact Or.inl rfl | exact Or.inr rfl | omega) ?_
                    first
                      | (exfalso; omega)
                      | (have en_ := n32 (tx := tx) (n := n) (S := S) (by unfold cDg; omega) (by unfold cDg; omega) (by unfold cDg; omega)
                         have oo_ := opS_num (tx := tx) (n := n) (S := S) hno hm_
                         rw [en_] at oo_
                         refine ⟨mI (wI (setI (setI m r 3 ((S.2 : Int) + 1)) r 3 (((cAdv S).2 : Int) + 1)) Ix127), rfl, (DFr.tr (DFr.set (DFr.set DFr.rf (by omega)) (by omega)) hF127), Or.inl ?_⟩
                         have hO_ : opc 48 ((1 * ((((0 * 10) + (x541 - 48)) * 10) + (x542 - 48))) + 1000) = (opS tx n S).1 := by rw [oo_.1]; congr 1; show _ = _ + 1000; simp only []; omega
                         have hP_ := hP127
                         rw [hO_] at hP_
                         rw [oo_.2]
                         exact ⟨hP.2.2.2.2.2.2.2.2.1, rfl, hP_⟩)
                  · skip
                    refine V_ld (pc := 109) dX1_number_109 (v := vr r) rfl rfl ?_
                    refine V_callV (pc := 110) dX1_number_110 (F' := 0) (As := []) (st := []) cw_RX1_45 rfl rfl hQ.2.1 (by decide) (Nat.le_of_ble_eq_true rfl) (by omega) (d_failed n (setI (setI m r 3 ((S.2 : Int) + 1)) r 3 (((cAdv S).2 : Int) + 1)) r   hQ) ?_
                    rintro _ _ ⟨x110, rfl, Ix110, rfl, rfl, hI110, hF110⟩ ok110 le110
                    refine V_reti (pc := 113) dX1_number_113 (show _ = (0 : Int) ∨ _ = (1 : Int) from by first | exact Or.inl rfl | exact Or.inr rfl | omega) ?_
                    exfalso; omega
                · skip
                  refine V_ld (pc := 67) dX1_number_67 (v := vi (x543 - 48)) rfl rfl ?_
                  refine V_bipush (pc := 69) dX1_number_69 (by unfold I32; omega) (by decide) ?_
                  refine V_icmp_le (pc := 71) dX1_number_71 (tgt := 77) rfl (fun h71 => ?_) (fun h71 => ?_)
                  · skip
                    refine V_ld (pc := 77) dX1_number_77 (v := vi ((((0 * 10) + (x541 - 48)) * 10) + (x542 - 48))) rfl rfl ?_
                    refine V_bipush (pc := 78) dX1_number_78 (by unfold I32; omega) (by decide) ?_
                    refine V_imul (pc := 80) dX1_number_80 (by unfold I32 at *; omega) ?_
                    refine V_ld (pc := 81) dX1_number_81 (v := vi (x543 - 48)) rfl rfl ?_
                    refine V_iadd (pc := 83) dX1_number_83 (by unfold I32 at *; omega) ?_
                    refine V_st (pc := 84) dX1_number_84 (ls' := [(3, vi ((((((0 * 10) + (x541 - 48)) * 10) + (x542 - 48)) * 10) + (x543 - 48))), (5, vi (x543 - 48)), (4, vi ((0 + 1) + 1)), (2, vi (S.2 : Int)), (1, vi 1), (0, vr r)]) rfl (Nat.le_of_ble_eq_true rfl) rfl ?_
                    refine V_ld (pc := 85) dX1_number_85 (v := vr r) rfl rfl ?_
                    refine V_dup (pc := 86) dX1_number_86 rfl ?_
                    refine V_getIv (pc := 87) dX1_number_87 (v := ((cAdv (cAdv S)).2 : Int)) fw_RX1_34 rfl hQ.2.1 hN2.2.1 (fun g87 => ?_)
                    refine V_iconst (pc := 90) dX1_number_90 (by unfold I32; omega) ?_
                    refine V_iadd (pc := 91) dX1_number_91 (by unfold I32 at *; omega) ?_
                    refine V_putI (pc := 92) dX1_number_92 fw_RX1_34 rfl hQ.2.1 (Or.inl rfl) (Or.inl rfl) ?_
                    refine V_iinc (pc := 95) dX1_number_95 (x := ((0 + 1) + 1)) (ls' := [(4, vi (((0 + 1) + 1) + 1)), (3, vi ((((((0 * 10) + (x541 - 48)) * 10) + (x542 - 48)) * 10) + (x543 - 48))), (5, vi (x543 - 48)), (2, vi (S.2 : Int)), (1, vi 1), (0, vr r)]) rfl (by unfold I32 at *; omega) (Nat.le_of_ble_eq_true rfl) rfl ?_
                    refine V_goto (pc := 98) dX1_number_98 (tgt := 40) rfl ?_
                    have lthN3 : (cAdv (cAdv S)).2 < n := by first | omega | exact (cc_lt (tx := tx) (n := n) (S := (cAdv (cAdv S))) (by omega)).2
                    have hN3 : DQ (mI (setI (setI (setI m r 3 ((S.2 : Int) + 1)) r 3 (((cAdv S).2 : Int) + 1)) r 3 (((cAdv (cAdv S)).2 : Int) + 1))) r tx n (cAdv (cAdv (cAdv S))) C := DQ.adv hN2 rfl lthN3
                    have ehN3 : (cAdv (cAdv (cAdv S))).2 = (cAdv (cAdv S)).2 + 1 := rfl
                    refine V_ld (pc := 40) dX1_number_40 (v := vi (((0 + 1) + 1) + 1)) rfl rfl ?_
                    refine V_iconst (pc := 42) dX1_number_42 (by unfold I32; omega) ?_
                    refine V_icmp_ge (pc := 43) dX1_number_43 (tgt := 101) rfl (fun h43 => ?_) (fun h43 => ?_)
                    · skip
                      refine V_ld (pc := 101) dX1_number_101 (v := vr r) rfl rfl ?_
                      refine V_getIv (pc := 102) dX1_number_102 (v := ((cAdv (cAdv (cAdv S))).2 : Int)) fw_RX1_34 rfl hQ.2.1 hN3.2.1 (fun g102 => ?_)
                      refine V_ld (pc := 105) dX1_number_105 (v := vi (S.2 : Int)) rfl rfl ?_
                      refine V_icmp_ne (pc := 106) dX1_number_106 (tgt := 114) rfl (fun h106 => ?_) (fun h106 => ?_)
                      · skip
                        refine V_ld (pc := 114) dX1_number_114 (v := vr r) rfl rfl ?_
                        refine V_bipush (pc := 115) dX1_number_115 (by unfold I32; omega) (by decide) ?_
                        refine V_ld (pc := 117) dX1_number_117 (v := vi 1) rfl rfl ?_
                        refine V_ld (pc := 118) dX1_number_118 (v := vi ((((((0 * 10) + (x541 - 48)) * 10) + (x542 - 48)) * 10) + (x543 - 48))) rfl rfl ?_
                        refine V_imul (pc := 119) dX1_number_119 (by unfold I32 at *; omega) ?_
                        refine V_sipush (pc := 120) dX1_number_120 (by unfold I32; omega) (by decide) ?_
                        refine V_iadd (pc := 123) dX1_number_123 (by unfold I32 at *; omega) ?_
                        refine V_callS (pc := 124) dX1_number_124 (F' := 0) (As := [vi 48, vi ((1 * ((((((0 * 10) + (x541 - 48)) * 10) + (x542 - 48)) * 10) + (x543 - 48))) + 1000)]) (st := [vr r]) cw_RX1_97 rfl rfl (Nat.le_of_ble_eq_true rfl) (by omega) (d_opc  (setI (setI (setI m r 3 ((S.2 : Int) + 1)) r 3 (((cAdv S).2 : Int) + 1)) r 3 (((cAdv (cAdv S)).2 : Int) + 1)) 48 ((1 * ((((((0 * 10) + (x541 - 48)) * 10) + (x542 - 48)) * 10) + (x543 - 48))) + 1000)   ) ?_
                        rintro _ _ ⟨x124, rfl, rfl, rfl⟩ ok124 le124
                        refine V_callV (pc := 127) dX1_number_127 (F' := 0) (As := [vi (opc 48 ((1 * ((((((0 * 10) + (x541 - 48)) * 10) + (x542 - 48)) * 10) + (x543 - 48))) + 1000))]) (st := []) cw_RX1_77 rfl rfl hQ.2.1 (by decide) (Nat.le_of_ble_eq_true rfl) (by omega) (d_emit tx n (cAdv (cAdv (cAdv S))) C (setI (setI (setI m r 3 ((S.2 : Int) + 1)) r 3 (((cAdv S).2 : Int) + 1)) r 3 (((cAdv (cAdv S)).2 : Int) + 1)) r (opc 48 ((1 * ((((((0 * 10) + (x541 - 48)) * 10) + (x542 - 48)) * 10) + (x543 - 48))) + 1000))   hQ hN3 (by omega)) ?_
                        rintro _ _ ⟨rfl, Ix127, rfl, hP127, hF127⟩ ok127 le127
                        have lc127 : (C ++ [opc 48 ((1 * ((((((0 * 10) + (x541 - 48)) * 10) + (x542 - 48)) * 10) + (x543 - 48))) + 1000)]).length = C.length + 1 := by rw [List.length_append]; rfl
                        refine V_iconst (pc := 130) dX1_number_130 (by unfold I32; omega) ?_
                        refine V_reti (pc := 131) dX1_number_131 (show _ = (0 : Int) ∨ _ = (1 : Int) from by first | exact Or.inl rfl | exact Or.inr rfl | omega) ?_
                        first
                          | (exfalso; omega)
                          | (have en_ := n33 (tx := tx) (n := n) (S := S) (by unfold cDg; omega) (by unfold cDg; omega) (by unfold cDg; omega)
                             have oo_ := opS_num (tx := tx) (n := n) (S := S) hno hm_
                             rw [en_] at oo_
                             refine ⟨mI (wI (setI (setI (setI m r 3 ((S.2 : Int) + 1)) r 3 (((cAdv S).2 : Int) + 1)) r 3 (((cAdv (cAdv S)).2 : Int) + 1)) Ix127), rfl, (DFr.tr (DFr.set (DFr.set (DFr.set DFr.rf (by omega)) (by omega)) (by omega)) hF127), Or.inl ?_⟩
                             have hO_ : opc 48 ((1 * ((((((0 * 10) + (x541 - 48)) * 10) + (x542 - 48)) * 10) + (x543 - 48))) + 1000) = (opS tx n S).1 := by rw [oo_.1]; congr 1; show _ = _ + 1000; simp only []; omega
                             have hP_ := hP127
                             rw [hO_] at hP_
                             rw [oo_.2]
                             exact ⟨hP.2.2.2.2.2.2.2.2.1, rfl, hP_⟩)
                      · skip
                        refine V_ld (pc := 109) dX1_number_109 (v := vr r) rfl rfl ?_
                        refine V_callV (pc := 110) dX1_number_110 (F' := 0) (As := []) (st := []) cw_RX1_45 rfl rfl hQ.2.1 (by decide) (Nat.le_of_ble_eq_true rfl) (by omega) (d_failed n (setI (setI (setI m r 3 ((S.2 : Int) + 1)) r 3 (((cAdv S).2 : Int) + 1)) r 3 (((cAdv (cAdv S)).2 : Int) + 1)) r   hQ) ?_
                        rintro _ _ ⟨x110, rfl, Ix110, rfl, rfl, hI110, hF110⟩ ok110 le110
                        refine V_reti (pc := 113) dX1_number_113 (show _ = (0 : Int) ∨ _ = (1 : Int) from by first | exact Or.inl rfl | exact Or.inr rfl | omega) ?_
                        exfalso; omega
                    · skip
                      exfalso; omega
                  · skip
                    refine V_goto (pc := 74) dX1_number_74 (tgt := 101) rfl ?_
                    refine V_ld (pc := 101) dX1_number_101 (v := vr r) rfl rfl ?_
                    refine V_getIv (pc := 102) dX1_number_102 (v := ((cAdv (cAdv S)).2 : Int)) fw_RX1_34 rfl hQ.2.1 hN2.2.1 (fun g102 => ?_)
                    refine V_ld (pc := 105) dX1_number_105 (v := vi (S.2 : Int)) rfl rfl ?_
                    refine V_icmp_ne (pc := 106) dX1_number_106 (tgt := 114) rfl (fun h106 => ?_) (fun h106 => ?_)
                    · skip
                      refine V_ld (pc := 114) dX1_number_114 (v := vr r) rfl rfl ?_
                      refine V_bipush (pc := 115) dX1_number_115 (by unfold I32; omega) (by decide) ?_
                      refine V_ld (pc := 117) dX1_number_117 (v := vi 1) rfl rfl ?_
                      refine V_ld (pc := 118) dX1_number_118 (v := vi ((((0 * 10) + (x541 - 48)) * 10) + (x542 - 48))) rfl rfl ?_
                      refine V_imul (pc := 119) dX1_number_119 (by unfold I32 at *; omega) ?_
                      refine V_sipush (pc := 120) dX1_number_120 (by unfold I32; omega) (by decide) ?_
                      refine V_iadd (pc := 123) dX1_number_123 (by unfold I32 at *; omega) ?_
                      refine V_callS (pc := 124) dX1_number_124 (F' := 0) (As := [vi 48, vi ((1 * ((((0 * 10) + (x541 - 48)) * 10) + (x542 - 48))) + 1000)]) (st := [vr r]) cw_RX1_97 rfl rfl (Nat.le_of_ble_eq_true rfl) (by omega) (d_opc  (setI (setI m r 3 ((S.2 : Int) + 1)) r 3 (((cAdv S).2 : Int) + 1)) 48 ((1 * ((((0 * 10) + (x541 - 48)) * 10) + (x542 - 48))) + 1000)   ) ?_
                      rintro _ _ ⟨x124, rfl, rfl, rfl⟩ ok124 le124
                      refine V_callV (pc := 127) dX1_number_127 (F' := 0) (As := [vi (opc 48 ((1 * ((((0 * 10) + (x541 - 48)) * 10) + (x542 - 48))) + 1000))]) (st := []) cw_RX1_77 rfl rfl hQ.2.1 (by decide) (Nat.le_of_ble_eq_true rfl) (by omega) (d_emit tx n (cAdv (cAdv S)) C (setI (setI m r 3 ((S.2 : Int) + 1)) r 3 (((cAdv S).2 : Int) + 1)) r (opc 48 ((1 * ((((0 * 10) + (x541 - 48)) * 10) + (x542 - 48))) + 1000))   hQ hN2 (by omega)) ?_
                      rintro _ _ ⟨rfl, Ix127, rfl, hP127, hF127⟩ ok127 le127
                      have lc127 : (C ++ [opc 48 ((1 * ((((0 * 10) + (x541 - 48)) * 10) + (x542 - 48))) + 1000)]).length = C.length + 1 := by rw [List.length_append]; rfl
                      refine V_iconst (pc := 130) dX1_number_130 (by unfold I32; omega) ?_
                      refine V_reti (pc := 131) dX1_number_131 (show _ = (0 : Int) ∨ _ = (1 : Int) from by first | exact Or.inl rfl | exact Or.inr rfl | omega) ?_
                      first
                        | (exfalso; omega)
                        | (have en_ := n32 (tx := tx) (n := n) (S := S) (by unfold cDg; omega) (by unfold cDg; omega) (by unfold cDg; omega)
                           have oo_ := opS_num (tx := tx) (n := n) (S := S) hno hm_
                           rw [en_] at oo_
                           refine ⟨mI (wI (setI (setI m r 3 ((S.2 : Int) + 1)) r 3 (((cAdv S).2 : Int) + 1)) Ix127), rfl, (DFr.tr (DFr.set (DFr.set DFr.rf (by omega)) (by omega)) hF127), Or.inl ?_⟩
                           have hO_ : opc 48 ((1 * ((((0 * 10) + (x541 - 48)) * 10) + (x542 - 48))) + 1000) = (opS tx n S).1 := by rw [oo_.1]; congr 1; show _ = _ + 1000; simp only []; omega
                           have hP_ := hP127
                           rw [hO_] at hP_
                           rw [oo_.2]
                           exact ⟨hP.2.2.2.2.2.2.2.2.1, rfl, hP_⟩)
                    · skip
                      refine V_ld (pc := 109) dX1_number_109 (v := vr r) rfl rfl ?_
                      refine V_callV (pc := 110) dX1_number_110 (F' := 0) (As := []) (st := []) cw_RX1_45 rfl rfl hQ.2.1 (by decide) (Nat.le_of_ble_eq_true rfl) (by omega) (d_failed n (setI (setI m r 3 ((S.2 : Int) + 1)) r 3 (((cAdv S).2 : Int) + 1)) r   hQ) ?_
                      rintro _ _ ⟨x110, rfl, Ix110, rfl, rfl, hI110, hF110⟩ ok110 le110
                      refine V_reti (pc := 113) dX1_number_113 (show _ = (0 : Int) ∨ _ = (1 : Int) from by first | exact Or.inl rfl | exact Or.inr rfl | omega) ?_
                      exfalso; omega
            · skip
              refine V_goto (pc := 74) dX1_number_74 (tgt := 101) rfl ?_
              refine V_ld (pc := 101) dX1_number_101 (v := vr r) rfl rfl ?_
              refine V_getIv (pc := 102) dX1_number_102 (v := ((cAdv S).2 : Int)) fw_RX1_34 rfl hQ.2.1 hN1.2.1 (fun g102 => ?_)
              refine V_ld (pc := 105) dX1_number_105 (v := vi (S.2 : Int)) rfl rfl ?_
              refine V_icmp_ne (pc := 106) dX1_number_106 (tgt := 114) rfl (fun h106 => ?_) (fun h106 => ?_)
              · skip
                refine V_ld (pc := 114) dX1_number_114 (v := vr r) rfl rfl ?_
                refine V_bipush (pc := 115) dX1_number_115 (by unfold I32; omega) (by decide) ?_
                refine V_ld (pc := 117) dX1_number_117 (v := vi 1) rfl rfl ?_
                refine V_ld (pc := 118) dX1_number_118 (v := vi ((0 * 10) + (x541 - 48))) rfl rfl ?_
                refine V_imul (pc := 119) dX1_number_119 (by unfold I32 at *; omega) ?_
                refine V_sipush (pc := 120) dX1_number_120 (by unfold I32; omega) (by decide) ?_
                refine V_iadd (pc := 123) dX1_number_123 (by unfold I32 at *; omega) ?_
                refine V_callS (pc := 124) dX1_number_124 (F' := 0) (As := [vi 48, vi ((1 * ((0 * 10) + (x541 - 48))) + 1000)]) (st := [vr r]) cw_RX1_97 rfl rfl (Nat.le_of_ble_eq_true rfl) (by omega) (d_opc  (setI m r 3 ((S.2 : Int) + 1)) 48 ((1 * ((0 * 10) + (x541 - 48))) + 1000)   ) ?_
                rintro _ _ ⟨x124, rfl, rfl, rfl⟩ ok124 le124
                refine V_callV (pc := 127) dX1_number_127 (F' := 0) (As := [vi (opc 48 ((1 * ((0 * 10) + (x541 - 48))) + 1000))]) (st := []) cw_RX1_77 rfl rfl hQ.2.1 (by decide) (Nat.le_of_ble_eq_true rfl) (by omega) (d_emit tx n (cAdv S) C (setI m r 3 ((S.2 : Int) + 1)) r (opc 48 ((1 * ((0 * 10) + (x541 - 48))) + 1000))   hQ hN1 (by omega)) ?_
                rintro _ _ ⟨rfl, Ix127, rfl, hP127, hF127⟩ ok127 le127
                have lc127 : (C ++ [opc 48 ((1 * ((0 * 10) + (x541 - 48))) + 1000)]).length = C.length + 1 := by rw [List.length_append]; rfl
                refine V_iconst (pc := 130) dX1_number_130 (by unfold I32; omega) ?_
                refine V_reti (pc := 131) dX1_number_131 (show _ = (0 : Int) ∨ _ = (1 : Int) from by first | exact Or.inl rfl | exact Or.inr rfl | omega) ?_
                first
                  | (exfalso; omega)
                  | (have en_ := n31 (tx := tx) (n := n) (S := S) (by unfold cDg; omega) (by unfold cDg; omega)
                     have oo_ := opS_num (tx := tx) (n := n) (S := S) hno hm_
                     rw [en_] at oo_
                     refine ⟨mI (wI (setI m r 3 ((S.2 : Int) + 1)) Ix127), rfl, (DFr.tr (DFr.set DFr.rf (by omega)) hF127), Or.inl ?_⟩
                     have hO_ : opc 48 ((1 * ((0 * 10) + (x541 - 48))) + 1000) = (opS tx n S).1 := by rw [oo_.1]; congr 1; show _ = _ + 1000; simp only []; omega
                     have hP_ := hP127
                     rw [hO_] at hP_
                     rw [oo_.2]
                     exact ⟨hP.2.2.2.2.2.2.2.2.1, rfl, hP_⟩)
              · skip
                refine V_ld (pc := 109) dX1_number_109 (v := vr r) rfl rfl ?_
                refine V_callV (pc := 110) dX1_number_110 (F' := 0) (As := []) (st := []) cw_RX1_45 rfl rfl hQ.2.1 (by decide) (Nat.le_of_ble_eq_true rfl) (by omega) (d_failed n (setI m r 3 ((S.2 : Int) + 1)) r   hQ) ?_
                rintro _ _ ⟨x110, rfl, Ix110, rfl, rfl, hI110, hF110⟩ ok110 le110
                refine V_reti (pc := 113) dX1_number_113 (show _ = (0 : Int) ∨ _ = (1 : Int) from by first | exact Or.inl rfl | exact Or.inr rfl | omega) ?_
                exfalso; omega
      · skip
        refine V_goto (pc := 74) dX1_number_74 (tgt := 101) rfl ?_
        refine V_ld (pc := 101) dX1_number_101 (v := vr r) rfl rfl ?_
        refine V_getIv (pc := 102) dX1_number_102 (v := (S.2 : Int)) fw_RX1_34 rfl hQ.2.1 hP.2.1 (fun g102 => ?_)
        refine V_ld (pc := 105) dX1_number_105 (v := vi (S.2 : Int)) rfl rfl ?_
        refine V_icmp_ne (pc := 106) dX1_number_106 (tgt := 114) rfl (fun h106 => ?_) (fun h106 => ?_)
        · skip
          refine V_ld (pc := 114) dX1_number_114 (v := vr r) rfl rfl ?_
          refine V_bipush (pc := 115) dX1_number_115 (by unfold I32; omega) (by decide) ?_
          refine V_ld (pc := 117) dX1_number_117 (v := vi 1) rfl rfl ?_
          refine V_ld (pc := 118) dX1_number_118 (v := vi 0) rfl rfl ?_
          refine V_imul (pc := 119) dX1_number_119 (by unfold I32 at *; omega) ?_
          refine V_sipush (pc := 120) dX1_number_120 (by unfold I32; omega) (by decide) ?_
          refine V_iadd (pc := 123) dX1_number_123 (by unfold I32 at *; omega) ?_
          refine V_callS (pc := 124) dX1_number_124 (F' := 0) (As := [vi 48, vi ((1 * 0) + 1000)]) (st := [vr r]) cw_RX1_97 rfl rfl (Nat.le_of_ble_eq_true rfl) (by omega) (d_opc  m 48 ((1 * 0) + 1000)   ) ?_
          rintro _ _ ⟨x124, rfl, rfl, rfl⟩ ok124 le124
          refine V_callV (pc := 127) dX1_number_127 (F' := 0) (As := [vi (opc 48 ((1 * 0) + 1000))]) (st := []) cw_RX1_77 rfl rfl hQ.2.1 (by decide) (Nat.le_of_ble_eq_true rfl) (by omega) (d_emit tx n S C m r (opc 48 ((1 * 0) + 1000))   hQ hP (by omega)) ?_
          rintro _ _ ⟨rfl, Ix127, rfl, hP127, hF127⟩ ok127 le127
          have lc127 : (C ++ [opc 48 ((1 * 0) + 1000)]).length = C.length + 1 := by rw [List.length_append]; rfl
          refine V_iconst (pc := 130) dX1_number_130 (by unfold I32; omega) ?_
          refine V_reti (pc := 131) dX1_number_131 (show _ = (0 : Int) ∨ _ = (1 : Int) from by first | exact Or.inl rfl | exact Or.inr rfl | omega) ?_
          exfalso; omega
        · skip
          refine V_ld (pc := 109) dX1_number_109 (v := vr r) rfl rfl ?_
          refine V_callV (pc := 110) dX1_number_110 (F' := 0) (As := []) (st := []) cw_RX1_45 rfl rfl hQ.2.1 (by decide) (Nat.le_of_ble_eq_true rfl) (by omega) (d_failed n m r   hQ) ?_
          rintro _ _ ⟨x110, rfl, Ix110, rfl, rfl, hI110, hF110⟩ ok110 le110
          refine V_reti (pc := 113) dX1_number_113 (show _ = (0 : Int) ∨ _ = (1 : Int) from by first | exact Or.inl rfl | exact Or.inr rfl | omega) ?_
          first
            | (exfalso; omega)
            | (have en_ := n30 (tx := tx) (n := n) (S := S) (by unfold cDg; omega)
               have oo_ := opS_num (tx := tx) (n := n) (S := S) hno hm_
               rw [en_] at oo_
               refine ⟨mI (wI m Ix110), rfl, (DFr.tr DFr.rf hF110), Or.inr ?_⟩
               rw [oo_.2]
               exact ⟨rfl, rfl, hI110.trans ((if_pos hP.2.2.1).trans hP.2.1)⟩)
  · skip
    refine V_iconst (pc := 18) dX1_number_18 (by unfold I32; omega) ?_
    refine V_st (pc := 19) dX1_number_19 (ls' := [(1, vi (-1)), (0, vr r)]) rfl (Nat.le_of_ble_eq_true rfl) rfl ?_
    refine V_ld (pc := 20) dX1_number_20 (v := vr r) rfl rfl ?_
    refine V_dup (pc := 21) dX1_number_21 rfl ?_
    refine V_getIv (pc := 22) dX1_number_22 (v := (S.2 : Int)) fw_RX1_34 rfl hQ.2.1 hP.2.1 (fun g22 => ?_)
    refine V_iconst (pc := 25) dX1_number_25 (by unfold I32; omega) ?_
    refine V_iadd (pc := 26) dX1_number_26 (by unfold I32 at *; omega) ?_
    refine V_putI (pc := 27) dX1_number_27 fw_RX1_34 rfl hQ.2.1 (Or.inl rfl) (Or.inl rfl) ?_
    have lthA30 : S.2 < n := by first | omega | exact (cc_lt (tx := tx) (n := n) (S := S) (by omega)).2
    have hA30 : DQ (mI (setI m r 3 ((S.2 : Int) + 1))) r tx n (cAdv S) C := DQ.adv hP rfl lthA30
    have ehA30 : (cAdv S).2 = S.2 + 1 := rfl
    have hm_ : ccS tx n S = 45 := by omega
    refine V_ld (pc := 30) dX1_number_30 (v := vr r) rfl rfl ?_
    refine V_getIv (pc := 31) dX1_number_31 (v := ((cAdv S).2 : Int)) fw_RX1_34 rfl hQ.2.1 hA30.2.1 (fun g31 => ?_)
    refine V_st (pc := 34) dX1_number_34 (ls' := [(2, vi ((cAdv S).2 : Int)), (1, vi (-1)), (0, vr r)]) rfl (Nat.le_of_ble_eq_true rfl) rfl ?_
    refine V_iconst (pc := 35) dX1_number_35 (by unfold I32; omega) ?_
    refine V_st (pc := 36) dX1_number_36 (ls' := [(3, vi 0), (2, vi ((cAdv S).2 : Int)), (1, vi (-1)), (0, vr r)]) rfl (Nat.le_of_ble_eq_true rfl) rfl ?_
    refine V_iconst (pc := 37) dX1_number_37 (by unfold I32; omega) ?_
    refine V_st (pc := 38) dX1_number_38 (ls' := [(4, vi 0), (3, vi 0), (2, vi ((cAdv S).2 : Int)), (1, vi (-1)), (0, vr r)]) rfl (Nat.le_of_ble_eq_true rfl) rfl ?_
    skip
    refine V_ld (pc := 40) dX1_number_40 (v := vi 0) rfl rfl ?_
    refine V_iconst (pc := 42) dX1_number_42 (by unfold I32; omega) ?_
    refine V_icmp_ge (pc := 43) dX1_number_43 (tgt := 101) rfl (fun h_ => absurd h_ (by decide)) (fun _ => ?_)
    skip
    refine V_ld (pc := 46) dX1_number_46 (v := vr r) rfl rfl ?_
    refine V_getRv (pc := 47) dX1_number_47 (o' := 13) fw_RX1_21 rfl hQ.2.1 hQ.2.2.1 ?_
    refine V_ld (pc := 50) dX1_number_50 (v := vr r) rfl rfl ?_
    refine V_getIv (pc := 51) dX1_number_51 (v := ((cAdv S).2 : Int)) fw_RX1_34 rfl hQ.2.1 hA30.2.1 (fun g51 => ?_)
    refine V_callV (pc := 54) dX1_number_54 (F' := 0) (As := [vi ((cAdv S).2 : Int)]) (st := []) cw_RX1_37 rfl rfl hL.t13 (by decide) (Nat.le_of_ble_eq_true rfl) (by omega) (c_Text_at  (setI m r 3 ((S.2 : Int) + 1)) 13 ((cAdv S).2 : Int) 14  hL.t13 hL.r13_0 hL.t14) ?_
    rintro _ _ ⟨x541, rfl, hx541, rfl⟩ ok54 le54
    obtain ⟨cs1, cs10, cs11, cs12⟩ := DQ.at hA30 rfl hx541
    refine V_bipush (pc := 57) dX1_number_57 (by unfold I32; omega) (by decide) ?_
    refine V_isub (pc := 59) dX1_number_59 (by unfold I32 at *; omega) ?_
    refine V_st (pc := 60) dX1_number_60 (ls' := [(5, vi (x541 - 48)), (4, vi 0), (3, vi 0), (2, vi ((cAdv S).2 : Int)), (1, vi (-1)), (0, vr r)]) rfl (Nat.le_of_ble_eq_true rfl) rfl ?_
    refine V_ld (pc := 62) dX1_number_62 (v := vi (x541 - 48)) rfl rfl ?_
    refine V_if_lt (pc := 64) dX1_number_64 (tgt := 101) rfl (fun h64 => ?_) (fun h64 => ?_)
    · skip
      refine V_ld (pc := 101) dX1_number_101 (v := vr r) rfl rfl ?_
      refine V_getIv (pc := 102) dX1_number_102 (v := ((cAdv S).2 : Int)) fw_RX1_34 rfl hQ.2.1 hA30.2.1 (fun g102 => ?_)
      refine V_ld (pc := 105) dX1_number_105 (v := vi ((cAdv S).2 : Int)) rfl rfl ?_
      refine V_icmp_ne (pc := 106) dX1_number_106 (tgt := 114) rfl (fun h106 => ?_) (fun h106 => ?_)
      · skip
        refine V_ld (pc := 114) dX1_number_114 (v := vr r) rfl rfl ?_
        refine V_bipush (pc := 115) dX1_number_115 (by unfold I32; omega) (by decide) ?_
        refine V_ld (pc := 117) dX1_number_117 (v := vi (-1)) rfl rfl ?_
        refine V_ld (pc := 118) dX1_number_118 (v := vi 0) rfl rfl ?_
        refine V_imul (pc := 119) dX1_number_119 (by unfold I32 at *; omega) ?_
        refine V_sipush (pc := 120) dX1_number_120 (by unfold I32; omega) (by decide) ?_
        refine V_iadd (pc := 123) dX1_number_123 (by unfold I32 at *; omega) ?_
        refine V_callS (pc := 124) dX1_number_124 (F' := 0) (As := [vi 48, vi (((-1) * 0) + 1000)]) (st := [vr r]) cw_RX1_97 rfl rfl (Nat.le_of_ble_eq_true rfl) (by omega) (d_opc  (setI m r 3 ((S.2 : Int) + 1)) 48 (((-1) * 0) + 1000)   ) ?_
        rintro _ _ ⟨x124, rfl, rfl, rfl⟩ ok124 le124
        refine V_callV (pc := 127) dX1_number_127 (F' := 0) (As := [vi (opc 48 (((-1) * 0) + 1000))]) (st := []) cw_RX1_77 rfl rfl hQ.2.1 (by decide) (Nat.le_of_ble_eq_true rfl) (by omega) (d_emit tx n (cAdv S) C (setI m r 3 ((S.2 : Int) + 1)) r (opc 48 (((-1) * 0) + 1000))   hQ hA30 (by omega)) ?_
        rintro _ _ ⟨rfl, Ix127, rfl, hP127, hF127⟩ ok127 le127
        have lc127 : (C ++ [opc 48 (((-1) * 0) + 1000)]).length = C.length + 1 := by rw [List.length_append]; rfl
        refine V_iconst (pc := 130) dX1_number_130 (by unfold I32; omega) ?_
        refine V_reti (pc := 131) dX1_number_131 (show _ = (0 : Int) ∨ _ = (1 : Int) from by first | exact Or.inl rfl | exact Or.inr rfl | omega) ?_
        exfalso; omega
      · skip
        refine V_ld (pc := 109) dX1_number_109 (v := vr r) rfl rfl ?_
        refine V_callV (pc := 110) dX1_number_110 (F' := 0) (As := []) (st := []) cw_RX1_45 rfl rfl hQ.2.1 (by decide) (Nat.le_of_ble_eq_true rfl) (by omega) (d_failed n (setI m r 3 ((S.2 : Int) + 1)) r   hQ) ?_
        rintro _ _ ⟨x110, rfl, Ix110, rfl, rfl, hI110, hF110⟩ ok110 le110
        refine V_reti (pc := 113) dX1_number_113 (show _ = (0 : Int) ∨ _ = (1 : Int) from by first | exact Or.inl rfl | exact Or.inr rfl | omega) ?_
        first
          | (exfalso; omega)
          | (have en_ := n30 (tx := tx) (n := n) (S := (cAdv S)) (by unfold cDg; omega)
             have oo_ := opS_neg (tx := tx) (n := n) (S := S) hm_
             rw [en_] at oo_
             refine ⟨mI (wI (setI m r 3 ((S.2 : Int) + 1)) Ix110), rfl, (DFr.tr (DFr.set DFr.rf (by omega)) hF110), Or.inr ?_⟩
             rw [oo_.2]
             exact ⟨rfl, rfl, hI110.trans ((if_pos hA30.2.2.1).trans hA30.2.1)⟩)
    · skip
      refine V_ld (pc := 67) dX1_number_67 (v := vi (x541 - 48)) rfl rfl ?_
      refine V_bipush (pc := 69) dX1_number_69 (by unfold I32; omega) (by decide) ?_
      refine V_icmp_le (pc := 71) dX1_number_71 (tgt := 77) rfl (fun h71 => ?_) (fun h71 => ?_)
      · skip
        refine V_ld (pc := 77) dX1_number_77 (v := vi 0) rfl rfl ?_
        refine V_bipush (pc := 78) dX1_number_78 (by unfold I32; omega) (by decide) ?_
        refine V_imul (pc := 80) dX1_number_80 (by unfold I32 at *; omega) ?_
        refine V_ld (pc := 81) dX1_number_81 (v := vi (x541 - 48)) rfl rfl ?_
        refine V_iadd (pc := 83) dX1_number_83 (by unfold I32 at *; omega) ?_
        refine V_st (pc := 84) dX1_number_84 (ls' := [(3, vi ((0 * 10) + (x541 - 48))), (5, vi (x541 - 48)), (4, vi 0), (2, vi ((cAdv S).2 : Int)), (1, vi (-1)), (0, vr r)]) rfl (Nat.le_of_ble_eq_true rfl) rfl ?_
        refine V_ld (pc := 85) dX1_number_85 (v := vr r) rfl rfl ?_
        refine V_dup (pc := 86) dX1_number_86 rfl ?_
        refine V_getIv (pc := 87) dX1_number_87 (v := ((cAdv S).2 : Int)) fw_RX1_34 rfl hQ.2.1 hA30.2.1 (fun g87 => ?_)
        refine V_iconst (pc := 90) dX1_number_90 (by unfold I32; omega) ?_
        refine V_iadd (pc := 91) dX1_number_91 (by unfold I32 at *; omega) ?_
        refine V_putI (pc := 92) dX1_number_92 fw_RX1_34 rfl hQ.2.1 (Or.inl rfl) (Or.inl rfl) ?_
        refine V_iinc (pc := 95) dX1_number_95 (x := 0) (ls' := [(4, vi (0 + 1)), (3, vi ((0 * 10) + (x541 - 48))), (5, vi (x541 - 48)), (2, vi ((cAdv S).2 : Int)), (1, vi (-1)), (0, vr r)]) rfl (by unfold I32 at *; omega) (Nat.le_of_ble_eq_true rfl) rfl ?_
        refine V_goto (pc := 98) dX1_number_98 (tgt := 40) rfl ?_
        have lthN1 : (cAdv S).2 < n := by first | omega | exact (cc_lt (tx := tx) (n := n) (S := (cAdv S)) (by omega)).2
        have hN1 : DQ (mI (setI (setI m r 3 ((S.2 : Int) + 1)) r 3 (((cAdv S).2 : Int) + 1))) r tx n (cAdv (cAdv S)) C := DQ.adv hA30 rfl lthN1
        have ehN1 : (cAdv (cAdv S)).2 = (cAdv S).2 + 1 := rfl
        refine V_ld (pc := 40) dX1_number_40 (v := vi (0 + 1)) rfl rfl ?_
        refine V_iconst (pc := 42) dX1_number_42 (by unfold I32; omega) ?_
        refine V_icmp_ge (pc := 43) dX1_number_43 (tgt := 101) rfl (fun h43 => ?_) (fun h43 => ?_)
        · skip
          refine V_ld (pc := 101) dX1_number_101 (v := vr r) rfl rfl ?_
          refine V_getIv (pc := 102) dX1_number_102 (v := ((cAdv (cAdv S)).2 : Int)) fw_RX1_34 rfl hQ.2.1 hN1.2.1 (fun g102 => ?_)
          refine V_ld (pc := 105) dX1_number_105 (v := vi ((cAdv S).2 : Int)) rfl rfl ?_
          refine V_icmp_ne (pc := 106) dX1_number_106 (tgt := 114) rfl (fun h106 => ?_) (fun h106 => ?_)
          · skip
            refine V_ld (pc := 114) dX1_number_114 (v := vr r) rfl rfl ?_
            refine V_bipush (pc := 115) dX1_number_115 (by unfold I32; omega) (by decide) ?_
            refine V_ld (pc := 117) dX1_number_117 (v := vi (-1)) rfl rfl ?_
            refine V_ld (pc := 118) dX1_number_118 (v := vi ((0 * 10) + (x541 - 48))) rfl rfl ?_
            refine V_imul (pc := 119) dX1_number_119 (by unfold I32 at *; omega) ?_
            refine V_sipush (pc := 120) dX1_number_120 (by unfold I32; omega) (by decide) ?_
            refine V_iadd (pc := 123) dX1_number_123 (by unfold I32 at *; omega) ?_
            refine V_callS (pc := 124) dX1_number_124 (F' := 0) (As := [vi 48, vi (((-1) * ((0 * 10) + (x541 - 48))) + 1000)]) (st := [vr r]) cw_RX1_97 rfl rfl (Nat.le_of_ble_eq_true rfl) (by omega) (d_opc  (setI (setI m r 3 ((S.2 : Int) + 1)) r 3 (((cAdv S).2 : Int) + 1)) 48 (((-1) * ((0 * 10) + (x541 - 48))) + 1000)   ) ?_
            rintro _ _ ⟨x124, rfl, rfl, rfl⟩ ok124 le124
            refine V_callV (pc := 127) dX1_number_127 (F' := 0) (As := [vi (opc 48 (((-1) * ((0 * 10) + (x541 - 48))) + 1000))]) (st := []) cw_RX1_77 rfl rfl hQ.2.1 (by decide) (Nat.le_of_ble_eq_true rfl) (by omega) (d_emit tx n (cAdv (cAdv S)) C (setI (setI m r 3 ((S.2 : Int) + 1)) r 3 (((cAdv S).2 : Int) + 1)) r (opc 48 (((-1) * ((0 * 10) + (x541 - 48))) + 1000))   hQ hN1 (by omega)) ?_
            rintro _ _ ⟨rfl, Ix127, rfl, hP127, hF127⟩ ok127 le127
            have lc127 : (C ++ [opc 48 (((-1) * ((0 * 10) + (x541 - 48))) + 1000)]).length = C.length + 1 := by rw [List.length_append]; rfl
            refine V_iconst (pc := 130) dX1_number_130 (by unfold I32; omega) ?_
            refine V_reti (pc := 131) dX1_number_131 (show _ = (0 : Int) ∨ _ = (1 : Int) from by first | exact Or.inl rfl | exact Or.inr rfl | omega) ?_
            first
              | (exfalso; omega)
              | (have en_ := n31 (tx := tx) (n := n) (S := (cAdv S)) (by unfold cDg; omega) (by unfold cDg; omega)
                 have oo_ := opS_neg (tx := tx) (n := n) (S := S) hm_
                 rw [en_] at oo_
                 refine ⟨mI (wI (setI (setI m r 3 ((S.2 : Int) + 1)) r 3 (((cAdv S).2 : Int) + 1)) Ix127), rfl, (DFr.tr (DFr.set (DFr.set DFr.rf (by omega)) (by omega)) hF127), Or.inl ?_⟩
                 have hO_ : opc 48 (((-1) * ((0 * 10) + (x541 - 48))) + 1000) = (opS tx n S).1 := by rw [oo_.1]; congr 1; show _ = 1000 - _; simp only []; omega
                 have hP_ := hP127
                 rw [hO_] at hP_
                 rw [oo_.2]
                 exact ⟨hP.2.2.2.2.2.2.2.2.1, rfl, hP_⟩)
          · skip
            refine V_ld (pc := 109) dX1_number_109 (v := vr r) rfl rfl ?_
            refine V_callV (pc := 110) dX1_number_110 (F' := 0) (As := []) (st := []) cw_RX1_45 rfl rfl hQ.2.1 (by decide) (Nat.le_of_ble_eq_true rfl) (by omega) (d_failed n (setI (setI m r 3 ((S.2 : Int) + 1)) r 3 (((cAdv S).2 : Int) + 1)) r   hQ) ?_
            rintro _ _ ⟨x110, rfl, Ix110, rfl, rfl, hI110, hF110⟩ ok110 le110
            refine V_reti (pc := 113) dX1_number_113 (show _ = (0 : Int) ∨ _ = (1 : Int) from by first | exact Or.inl rfl | exact Or.inr rfl | omega) ?_
            exfalso; omega
        · skip
          skip
          refine V_ld (pc := 46) dX1_number_46 (v := vr r) rfl rfl ?_
          refine V_getRv (pc := 47) dX1_number_47 (o' := 13) fw_RX1_21 rfl hQ.2.1 hQ.2.2.1 ?_
          refine V_ld (pc := 50) dX1_number_50 (v := vr r) rfl rfl ?_
          refine V_getIv (pc := 51) dX1_number_51 (v := ((cAdv (cAdv S)).2 : Int)) fw_RX1_34 rfl hQ.2.1 hN1.2.1 (fun g51 => ?_)
          refine V_callV (pc := 54) dX1_number_54 (F' := 0) (As := [vi ((cAdv (cAdv S)).2 : Int)]) (st := []) cw_RX1_37 rfl rfl hL.t13 (by decide) (Nat.le_of_ble_eq_true rfl) (by omega) (c_Text_at  (setI (setI m r 3 ((S.2 : Int) + 1)) r 3 (((cAdv S).2 : Int) + 1)) 13 ((cAdv (cAdv S)).2 : Int) 14  hL.t13 hL.r13_0 hL.t14) ?_
          rintro _ _ ⟨x542, rfl, hx542, rfl⟩ ok54 le54
          obtain ⟨cs2, cs20, cs21, cs22⟩ := DQ.at hN1 rfl hx542
          refine V_bipush (pc := 57) dX1_number_57 (by unfold I32; omega) (by decide) ?_
          refine V_isub (pc := 59) dX1_number_59 (by unfold I32 at *; omega) ?_
          refine V_st (pc := 60) dX1_number_60 (ls' := [(5, vi (x542 - 48)), (4, vi (0 + 1)), (3, vi ((0 * 10) + (x541 - 48))), (2, vi ((cAdv S).2 : Int)), (1, vi (-1)), (0, vr r)]) rfl (Nat.le_of_ble_eq_true rfl) rfl ?_
          refine V_ld (pc := 62) dX1_number_62 (v := vi (x542 - 48)) rfl rfl ?_
          refine V_if_lt (pc := 64) dX1_number_64 (tgt := 101) rfl (fun h64 => ?_) (fun h64 => ?_)
          · skip
            refine V_ld (pc := 101) dX1_number_101 (v := vr r) rfl rfl ?_
            refine V_getIv (pc := 102) dX1_number_102 (v := ((cAdv (cAdv S)).2 : Int)) fw_RX1_34 rfl hQ.2.1 hN1.2.1 (fun g102 => ?_)
            refine V_ld (pc := 105) dX1_number_105 (v := vi ((cAdv S).2 : Int)) rfl rfl ?_
            refine V_icmp_ne (pc := 106) dX1_number_106 (tgt := 114) rfl (fun h106 => ?_) (fun h106 => ?_)
            · skip
              refine V_ld (pc := 114) dX1_number_114 (v := vr r) rfl rfl ?_
              refine V_bipush (pc := 115) dX1_number_115 (by unfold I32; omega) (by decide) ?_
              refine V_ld (pc := 117) dX1_number_117 (v := vi (-1)) rfl rfl ?_
              refine V_ld (pc := 118) dX1_number_118 (v := vi ((0 * 10) + (x541 - 48))) rfl rfl ?_
              refine V_imul (pc := 119) dX1_number_119 (by unfold I32 at *; omega) ?_
              refine V_sipush (pc := 120) dX1_number_120 (by unfold I32; omega) (by decide) ?_
              refine V_iadd (pc := 123) dX1_number_123 (by unfold I32 at *; omega) ?_
              refine V_callS (pc := 124) dX1_number_124 (F' := 0) (As := [vi 48, vi (((-1) * ((0 * 10) + (x541 - 48))) + 1000)]) (st := [vr r]) cw_RX1_97 rfl rfl (Nat.le_of_ble_eq_true rfl) (by omega) (d_opc  (setI (setI m r 3 ((S.2 : Int) + 1)) r 3 (((cAdv S).2 : Int) + 1)) 48 (((-1) * ((0 * 10) + (x541 - 48))) + 1000)   ) ?_
              rintro _ _ ⟨x124, rfl, rfl, rfl⟩ ok124 le124
              refine V_callV (pc := 127) dX1_number_127 (F' := 0) (As := [vi (opc 48 (((-1) * ((0 * 10) + (x541 - 48))) + 1000))]) (st := []) cw_RX1_77 rfl rfl hQ.2.1 (by decide) (Nat.le_of_ble_eq_true rfl) (by omega) (d_emit tx n (cAdv (cAdv S)) C (setI (setI m r 3 ((S.2 : Int) + 1)) r 3 (((cAdv S).2 : Int) + 1)) r (opc 48 (((-1) * ((0 * 10) + (x541 - 48))) + 1000))   hQ hN1 (by omega)) ?_
              rintro _ _ ⟨rfl, Ix127, rfl, hP127, hF127⟩ ok127 le127
              have lc127 : (C ++ [opc 48 (((-1) * ((0 * 10) + (x541 - 48))) + 1000)]).length = C.length + 1 := by rw [List.length_append]; rfl
              refine V_iconst (pc := 130) dX1_number_130 (by unfold I32; omega) ?_
              refine V_reti (pc := 131) dX1_number_131 (show _ = (0 : Int) ∨ _ = (1 : Int) from by first | exact Or.inl rfl | exact Or.inr rfl | omega) ?_
              first
                | (exfalso; omega)
                | (have en_ := n31 (tx := tx) (n := n) (S := (cAdv S)) (by unfold cDg; omega) (by unfold cDg; omega)
                   have oo_ := opS_neg (tx := tx) (n := n) (S := S) hm_
                   rw [en_] at oo_
                   refine ⟨mI (wI (setI (setI m r 3 ((S.2 : Int) + 1)) r 3 (((cAdv S).2 : Int) + 1)) Ix127), rfl, (DFr.tr (DFr.set (DFr.set DFr.rf (by omega)) (by omega)) hF127), Or.inl ?_⟩
                   have hO_ : opc 48 (((-1) * ((0 * 10) + (x541 - 48))) + 1000) = (opS tx n S).1 := by rw [oo_.1]; congr 1; show _ = 1000 - _; simp only []; omega
                   have hP_ := hP127
                   rw [hO_] at hP_
                   rw [oo_.2]
                   exact ⟨hP.2.2.2.2.2.2.2.2.1, rfl, hP_⟩)
            · skip
              refine V_ld (pc := 109) dX1_number_109 (v := vr r) rfl rfl ?_
              refine V_callV (pc := 110) dX1_number_110 (F' := 0) (As := []) (st := []) cw_RX1_45 rfl rfl hQ.2.1 (by decide) (Nat.le_of_ble_eq_true rfl) (by omega) (d_failed n (setI (setI m r 3 ((S.2 : Int) + 1)) r 3 (((cAdv S).2 : Int) + 1)) r   hQ) ?_
              rintro _ _ ⟨x110, rfl, Ix110, rfl, rfl, hI110, hF110⟩ ok110 le110
              refine V_reti (pc := 113) dX1_number_113 (show _ = (0 : Int) ∨ _ = (1 : Int) from by first | exact Or.inl rfl | exact Or.inr rfl | omega) ?_
              exfalso; omega
          · skip
            refine V_ld (pc := 67) dX1_number_67 (v := vi (x542 - 48)) rfl rfl ?_
            refine V_bipush (pc := 69) dX1_number_69 (by unfold I32; omega) (by decide) ?_
            refine V_icmp_le (pc := 71) dX1_number_71 (tgt := 77) rfl (fun h71 => ?_) (fun h71 => ?_)
            · skip
              refine V_ld (pc := 77) dX1_number_77 (v := vi ((0 * 10) + (x541 - 48))) rfl rfl ?_
              refine V_bipush (pc := 78) dX1_number_78 (by unfold I32; omega) (by decide) ?_
              refine V_imul (pc := 80) dX1_number_80 (by unfold I32 at *; omega) ?_
              refine V_ld (pc := 81) dX1_number_81 (v := vi (x542 - 48)) rfl rfl ?_
              refine V_iadd (pc := 83) dX1_number_83 (by unfold I32 at *; omega) ?_
              refine V_st (pc := 84) dX1_number_84 (ls' := [(3, vi ((((0 * 10) + (x541 - 48)) * 10) + (x542 - 48))), (5, vi (x542 - 48)), (4, vi (0 + 1)), (2, vi ((cAdv S).2 : Int)), (1, vi (-1)), (0, vr r)]) rfl (Nat.le_of_ble_eq_true rfl) rfl ?_
              refine V_ld (pc := 85) dX1_number_85 (v := vr r) rfl rfl ?_
              refine V_dup (pc := 86) dX1_number_86 rfl ?_
              refine V_getIv (pc := 87) dX1_number_87 (v := ((cAdv (cAdv S)).2 : Int)) fw_RX1_34 rfl hQ.2.1 hN1.2.1 (fun g87 => ?_)
              refine V_iconst (pc := 90) dX1_number_90 (by unfold I32; omega) ?_
              refine V_iadd (pc := 91) dX1_number_91 (by unfold I32 at *; omega) ?_
              refine V_putI (pc := 92) dX1_number_92 fw_RX1_34 rfl hQ.2.1 (Or.inl rfl) (Or.inl rfl) ?_
              refine V_iinc (pc := 95) dX1_number_95 (x := (0 + 1)) (ls' := [(4, vi ((0 + 1) + 1)), (3, vi ((((0 * 10) + (x541 - 48)) * 10) + (x542 - 48))), (5, vi (x542 - 48)), (2, vi ((cAdv S).2 : Int)), (1, vi (-1)), (0, vr r)]) rfl (by unfold I32 at *; omega) (Nat.le_of_ble_eq_true rfl) rfl ?_
              refine V_goto (pc := 98) dX1_number_98 (tgt := 40) rfl ?_
              have lthN2 : (cAdv (cAdv S)).2 < n := by first | omega | exact (cc_lt (tx := tx) (n := n) (S := (cAdv (cAdv S))) (by omega)).2
              have hN2 : DQ (mI (setI (setI (setI m r 3 ((S.2 : Int) + 1)) r 3 (((cAdv S).2 : Int) + 1)) r 3 (((cAdv (cAdv S)).2 : Int) + 1))) r tx n (cAdv (cAdv (cAdv S))) C := DQ.adv hN1 rfl lthN2
              have ehN2 : (cAdv (cAdv (cAdv S))).2 = (cAdv (cAdv S)).2 + 1 := rfl
              refine V_ld (pc := 40) dX1_number_40 (v := vi ((0 + 1) + 1)) rfl rfl ?_
              refine V_iconst (pc := 42) dX1_number_42 (by unfold I32; omega) ?_
              refine V_icmp_ge (pc := 43) dX1_number_43 (tgt := 101) rfl (fun h43 => ?_) (fun h43 => ?_)
              · skip
                refine V_ld (pc := 101) dX1_number_101 (v := vr r) rfl rfl ?_
                refine V_getIv (pc := 102) dX1_number_102 (v := ((cAdv (cAdv (cAdv S))).2 : Int)) fw_RX1_34 rfl hQ.2.1 hN2.2.1 (fun g102 => ?_)
                refine V_ld (pc := 105) dX1_number_105 (v := vi ((cAdv S).2 : Int)) rfl rfl ?_
                refine V_icmp_ne (pc := 106) dX1_number_106 (tgt := 114) rfl (fun h106 => ?_) (fun h106 => ?_)
                · skip
                  refine V_ld (pc := 114) dX1_number_114 (v := vr r) rfl rfl ?_
                  refine V_bipush (pc := 115) dX1_number_115 (by unfold I32; omega) (by decide) ?_
                  refine V_ld (pc := 117) dX1_number_117 (v := vi (-1)) rfl rfl ?_
                  refine V_ld (pc := 118) dX1_number_118 (v := vi ((((0 * 10) + (x541 - 48)) * 10) + (x542 - 48))) rfl rfl ?_
                  refine V_imul (pc := 119) dX1_number_119 (by unfold I32 at *; omega) ?_
                  refine V_sipush (pc := 120) dX1_number_120 (by unfold I32; omega) (by decide) ?_
                  refine V_iadd (pc := 123) dX1_number_123 (by unfold I32 at *; omega) ?_
                  refine V_callS (pc := 124) dX1_number_124 (F' := 0) (As := [vi 48, vi (((-1) * ((((0 * 10) + (x541 - 48)) * 10) + (x542 - 48))) + 1000)]) (st := [vr r]) cw_RX1_97 rfl rfl (Nat.le_of_ble_eq_true rfl) (by omega) (d_opc  (setI (setI (setI m r 3 ((S.2 : Int) + 1)) r 3 (((cAdv S).2 : Int) + 1)) r 3 (((cAdv (cAdv S)).2 : Int) + 1)) 48 (((-1) * ((((0 * 10) + (x541 - 48)) * 10) + (x542 - 48))) + 1000)   ) ?_
                  rintro _ _ ⟨x124, rfl, rfl, rfl⟩ ok124 le124
                  refine V_callV (pc := 127) dX1_number_127 (F' := 0) (As := [vi (opc 48 (((-1) * ((((0 * 10) + (x541 - 48)) * 10) + (x542 - 48))) + 1000))]) (st := []) cw_RX1_77 rfl rfl hQ.2.1 (by decide) (Nat.le_of_ble_eq_true rfl) (by omega) (d_emit tx n (cAdv (cAdv (cAdv S))) C (setI (setI (setI m r 3 ((S.2 : Int) + 1)) r 3 (((cAdv S).2 : Int) + 1)) r 3 (((cAdv (cAdv S)).2 : Int) + 1)) r (opc 48 (((-1) * ((((0 * 10) + (x541 - 48)) * 10) + (x542 - 48))) + 1000))   hQ hN2 (by omega)) ?_
                  rintro _ _ ⟨rfl, Ix127, rfl, hP127, hF127⟩ ok127 le127
                  have lc127 : (C ++ [opc 48 (((-1) * ((((0 * 10) + (x541 - 48)) * 10) + (x542 - 48))) + 1000)]).length = C.length + 1 := by rw [List.length_append]; rfl
                  refine V_iconst (pc := 130) dX1_number_130 (by unfold I32; omega) ?_
                  refine V_reti (pc := 131) dX1_number_131 (show _ = (0 : Int) ∨ _ = (1 : Int) from by first | exact Or.inl rfl | exact Or.inr rfl | omega) ?_
                  first
                    | (exfalso; omega)
                    | (have en_ := n32 (tx := tx) (n := n) (S := (cAdv S)) (by unfold cDg; omega) (by unfold cDg; omega) (by unfold cDg; omega)
                       have oo_ := opS_neg (tx := tx) (n := n) (S := S) hm_
                       rw [en_] at oo_
                       refine ⟨mI (wI (setI (setI (setI m r 3 ((S.2 : Int) + 1)) r 3 (((cAdv S).2 : Int) + 1)) r 3 (((cAdv (cAdv S)).2 : Int) + 1)) Ix127), rfl, (DFr.tr (DFr.set (DFr.set (DFr.set DFr.rf (by omega)) (by omega)) (by omega)) hF127), Or.inl ?_⟩
                       have hO_ : opc 48 (((-1) * ((((0 * 10) + (x541 - 48)) * 10) + (x542 - 48))) + 1000) = (opS tx n S).1 := by rw [oo_.1]; congr 1; show _ = 1000 - _; simp only []; omega
                       have hP_ := hP127
                       rw [hO_] at hP_
                       rw [oo_.2]
                       exact ⟨hP.2.2.2.2.2.2.2.2.1, rfl, hP_⟩)
                · skip
                  refine V_ld (pc := 109) dX1_number_109 (v := vr r) rfl rfl ?_
                  refine V_callV (pc := 110) dX1_number_110 (F' := 0) (As := []) (st := []) cw_RX1_45 rfl rfl hQ.2.1 (by decide) (Nat.le_of_ble_eq_true rfl) (by omega) (d_failed n (setI (setI (setI m r 3 ((S.2 : Int) + 1)) r 3 (((cAdv S).2 : Int) + 1)) r 3 (((cAdv (cAdv S)).2 : Int) + 1)) r   hQ) ?_
                  rintro _ _ ⟨x110, rfl, Ix110, rfl, rfl, hI110, hF110⟩ ok110 le110
                  refine V_reti (pc := 113) dX1_number_113 (show _ = (0 : Int) ∨ _ = (1 : Int) from by first | exact Or.inl rfl | exact Or.inr rfl | omega) ?_
                  exfalso; omega
              · skip
                skip
                refine V_ld (pc := 46) dX1_number_46 (v := vr r) rfl rfl ?_
                refine V_getRv (pc := 47) dX1_number_47 (o' := 13) fw_RX1_21 rfl hQ.2.1 hQ.2.2.1 ?_
                refine V_ld (pc := 50) dX1_number_50 (v := vr r) rfl rfl ?_
                refine V_getIv (pc := 51) dX1_number_51 (v := ((cAdv (cAdv (cAdv S))).2 : Int)) fw_RX1_34 rfl hQ.2.1 hN2.2.1 (fun g51 => ?_)
                refine V_callV (pc := 54) dX1_number_54 (F' := 0) (As := [vi ((cAdv (cAdv (cAdv S))).2 : Int)]) (st := []) cw_RX1_37 rfl rfl hL.t13 (by decide) (Nat.le_of_ble_eq_true rfl) (by omega) (c_Text_at  (setI (setI (setI m r 3 ((S.2 : Int) + 1)) r 3 (((cAdv S).2 : Int) + 1)) r 3 (((cAdv (cAdv S)).2 : Int) + 1)) 13 ((cAdv (cAdv (cAdv S))).2 : Int) 14  hL.t13 hL.r13_0 hL.t14) ?_
                rintro _ _ ⟨x543, rfl, hx543, rfl⟩ ok54 le54
                obtain ⟨cs3, cs30, cs31, cs32⟩ := DQ.at hN2 rfl hx543
                refine V_bipush (pc := 57) dX1_number_57 (by unfold I32; omega) (by decide) ?_
                refine V_isub (pc := 59) dX1_number_59 (by unfold I32 at *; omega) ?_
                refine V_st (pc := 60) dX1_number_60 (ls' := [(5, vi (x543 - 48)), (4, vi ((0 + 1) + 1)), (3, vi ((((0 * 10) + (x541 - 48)) * 10) + (x542 - 48))), (2, vi ((cAdv S).2 : Int)), (1, vi (-1)), (0, vr r)]) rfl (Nat.le_of_ble_eq_true rfl) rfl ?_
                refine V_ld (pc := 62) dX1_number_62 (v := vi (x543 - 48)) rfl rfl ?_
                refine V_if_lt (pc := 64) dX1_number_64 (tgt := 101) rfl (fun h64 => ?_) (fun h64 => ?_)
                · skip
                  refine V_ld (pc := 101) dX1_number_101 (v := vr r) rfl rfl ?_
                  refine V_getIv (pc := 102) dX1_number_102 (v := ((cAdv (cAdv (cAdv S))).2 : Int)) fw_RX1_34 rfl hQ.2.1 hN2.2.1 (fun g102 => ?_)
                  refine V_ld (pc := 105) dX1_number_105 (v := vi ((cAdv S).2 : Int)) rfl rfl ?_
                  refine V_icmp_ne (pc := 106) dX1_number_106 (tgt := 114) rfl (fun h106 => ?_) (fun h106 => ?_)
                  · skip
                    refine V_ld (pc := 114) dX1_number_114 (v := vr r) rfl rfl ?_
                    refine V_bipush (pc := 115) dX1_number_115 (by unfold I32; omega) (by decide) ?_
                    refine V_ld (pc := 117) dX1_number_117 (v := vi (-1)) rfl rfl ?_
                    refine V_ld (pc := 118) dX1_number_118 (v := vi ((((0 * 10) + (x541 - 48)) * 10) + (x542 - 48))) rfl rfl ?_
                    refine V_imul (pc := 119) dX1_number_119 (by unfold I32 at *; omega) ?_
                    refine V_sipush (pc := 120) dX1_number_120 (by unfold I32; omega) (by decide) ?_
                    refine V_iadd (pc := 123) dX1_number_123 (by unfold I32 at *; omega) ?_
                    refine V_callS (pc := 124) dX1_number_124 (F' := 0) (As := [vi 48, vi (((-1) * ((((0 * 10) + (x541 - 48)) * 10) + (x542 - 48))) + 1000)]) (st := [vr r]) cw_RX1_97 rfl rfl (Nat.le_of_ble_eq_true rfl) (by omega) (d_opc  (setI (setI (setI m r 3 ((S.2 : Int) + 1)) r 3 (((cAdv S).2 : Int) + 1)) r 3 (((cAdv (cAdv S)).2 : Int) + 1)) 48 (((-1) * ((((0 * 10) + (x541 - 48)) * 10) + (x542 - 48))) + 1000)   ) ?_
                    rintro _ _ ⟨x124, rfl, rfl, rfl⟩ ok124 le124
                    refine V_callV (pc := 127) dX1_number_127 (F' := 0) (As := [vi (opc 48 (((-1) * ((((0 * 10) + (x541 - 48)) * 10) + (x542 - 48))) + 1000))]) (st := []) cw_RX1_77 rfl rfl hQ.2.1 (by decide) (Nat.le_of_ble_eq_true rfl) (by omega) (d_emit tx n (cAdv (cAdv (cAdv S))) C (setI (setI (setI m r 3 ((S.2 : Int) + 1)) r 3 (((cAdv S).2 : Int) + 1)) r 3 (((cAdv (cAdv S)).2 : Int) + 1)) r (opc 48 (((-1) * ((((0 * 10) + (x541 - 48)) * 10) + (x542 - 48))) + 1000))   hQ hN2 (by omega)) ?_
                    rintro _ _ ⟨rfl, Ix127, rfl, hP127, hF127⟩ ok127 le127
                    have lc127 : (C ++ [opc 48 (((-1) * ((((0 * 10) + (x541 - 48)) * 10) + (x542 - 48))) + 1000)]).length = C.length + 1 := by rw [List.length_append]; rfl
                    refine V_iconst (pc := 130) dX1_number_130 (by unfold I32; omega) ?_
                    refine V_reti (pc := 131) dX1_number_131 (show _ = (0 : Int) ∨ _ = (1 : Int) from by first | exact Or.inl rfl | exact Or.inr rfl | omega) ?_
                    first
                      | (exfalso; omega)
                      | (have en_ := n32 (tx := tx) (n := n) (S := (cAdv S)) (by unfold cDg; omega) (by unfold cDg; omega) (by unfold cDg; omega)
                         have oo_ := opS_neg (tx := tx) (n := n) (S := S) hm_
                         rw [en_] at oo_
                         refine ⟨mI (wI (setI (setI (setI m r 3 ((S.2 : Int) + 1)) r 3 (((cAdv S).2 : Int) + 1)) r 3 (((cAdv (cAdv S)).2 : Int) + 1)) Ix127), rfl, (DFr.tr (DFr.set (DFr.set (DFr.set DFr.rf (by omega)) (by omega)) (by omega)) hF127), Or.inl ?_⟩
                         have hO_ : opc 48 (((-1) * ((((0 * 10) + (x541 - 48)) * 10) + (x542 - 48))) + 1000) = (opS tx n S).1 := by rw [oo_.1]; congr 1; show _ = 1000 - _; simp only []; omega
                         have hP_ := hP127
                         rw [hO_] at hP_
                         rw [oo_.2]
                         exact ⟨hP.2.2.2.2.2.2.2.2.1, rfl, hP_⟩)
                  · skip
                    refine V_ld (pc := 109) dX1_number_109 (v := vr r) rfl rfl ?_
                    refine V_callV (pc := 110) dX1_number_110 (F' := 0) (As := []) (st := []) cw_RX1_45 rfl rfl hQ.2.1 (by decide) (Nat.le_of_ble_eq_true rfl) (by omega) (d_failed n (setI (setI (setI m r 3 ((S.2 : Int) + 1)) r 3 (((cAdv S).2 : Int) + 1)) r 3 (((cAdv (cAdv S)).2 : Int) + 1)) r   hQ) ?_
                    rintro _ _ ⟨x110, rfl, Ix110, rfl, rfl, hI110, hF110⟩ ok110 le110
                    refine V_reti (pc := 113) dX1_number_113 (show _ = (0 : Int) ∨ _ = (1 : Int) from by first | exact Or.inl rfl | exact Or.inr rfl | omega) ?_
                    exfalso; omega
                · skip
                  refine V_ld (pc := 67) dX1_number_67 (v := vi (x543 - 48)) rfl rfl ?_
                  refine V_bipush (pc := 69) dX1_number_69 (by unfold I32; omega) (by decide) ?_
                  refine V_icmp_le (pc := 71) dX1_number_71 (tgt := 77) rfl (fun h71 => ?_) (fun h71 => ?_)
                  · skip
                    refine V_ld (pc := 77) dX1_number_77 (v := vi ((((0 * 10) + (x541 - 48)) * 10) + (x542 - 48))) rfl rfl ?_
                    refine V_bipush (pc := 78) dX1_number_78 (by unfold I32; omega) (by decide) ?_
                    refine V_imul (pc := 80) dX1_number_80 (by unfold I32 at *; omega) ?_
                    refine V_ld (pc := 81) dX1_number_81 (v := vi (x543 - 48)) rfl rfl ?_
                    refine V_iadd (pc := 83) dX1_number_83 (by unfold I32 at *; omega) ?_
                    refine V_st (pc := 84) dX1_number_84 (ls' := [(3, vi ((((((0 * 10) + (x541 - 48)) * 10) + (x542 - 48)) * 10) + (x543 - 48))), (5, vi (x543 - 48)), (4, vi ((0 + 1) + 1)), (2, vi ((cAdv S).2 : Int)), (1, vi (-1)), (0, vr r)]) rfl (Nat.le_of_ble_eq_true rfl) rfl ?_
                    refine V_ld (pc := 85) dX1_number_85 (v := vr r) rfl rfl ?_
                    refine V_dup (pc := 86) dX1_number_86 rfl ?_
                    refine V_getIv (pc := 87) dX1_number_87 (v := ((cAdv (cAdv (cAdv S))).2 : Int)) fw_RX1_34 rfl hQ.2.1 hN2.2.1 (fun g87 => ?_)
                    refine V_iconst (pc := 90) dX1_number_90 (by unfold I32; omega) ?_
                    refine V_iadd (pc := 91) dX1_number_91 (by unfold I32 at *; omega) ?_
                    refine V_putI (pc := 92) dX1_number_92 fw_RX1_34 rfl hQ.2.1 (Or.inl rfl) (Or.inl rfl) ?_
                    refine V_iinc (pc := 95) dX1_number_95 (x := ((0 + 1) + 1)) (ls' := [(4, vi (((0 + 1) + 1) + 1)), (3, vi ((((((0 * 10) + (x541 - 48)) * 10) + (x542 - 48)) * 10) + (x543 - 48))), (5, vi (x543 - 48)), (2, vi ((cAdv S).2 : Int)), (1, vi (-1)), (0, vr r)]) rfl (by unfold I32 at *; omega) (Nat.le_of_ble_eq_true rfl) rfl ?_
                    refine V_goto (pc := 98) dX1_number_98 (tgt := 40) rfl ?_
                    have lthN3 : (cAdv (cAdv (cAdv S))).2 < n := by first | omega | exact (cc_lt (tx := tx) (n := n) (S := (cAdv (cAdv (cAdv S)))) (by omega)).2
                    have hN3 : DQ (mI (setI (setI (setI (setI m r 3 ((S.2 : Int) + 1)) r 3 (((cAdv S).2 : Int) + 1)) r 3 (((cAdv (cAdv S)).2 : Int) + 1)) r 3 (((cAdv (cAdv (cAdv S))).2 : Int) + 1))) r tx n (cAdv (cAdv (cAdv (cAdv S)))) C := DQ.adv hN2 rfl lthN3
                    have ehN3 : (cAdv (cAdv (cAdv (cAdv S)))).2 = (cAdv (cAdv (cAdv S))).2 + 1 := rfl
                    refine V_ld (pc := 40) dX1_number_40 (v := vi (((0 + 1) + 1) + 1)) rfl rfl ?_
                    refine V_iconst (pc := 42) dX1_number_42 (by unfold I32; omega) ?_
                    refine V_icmp_ge (pc := 43) dX1_number_43 (tgt := 101) rfl (fun h43 => ?_) (fun h43 => ?_)
                    · skip
                      refine V_ld (pc := 101) dX1_number_101 (v := vr r) rfl rfl ?_
                      refine V_getIv (pc := 102) dX1_number_102 (v := ((cAdv (cAdv (cAdv (cAdv S)))).2 : Int)) fw_RX1_34 rfl hQ.2.1 hN3.2.1 (fun g102 => ?_)
                      refine V_ld (pc := 105) dX1_number_105 (v := vi ((cAdv S).2 : Int)) rfl rfl ?_
                      refine V_icmp_ne (pc := 106) dX1_number_106 (tgt := 114) rfl (fun h106 => ?_) (fun h106 => ?_)
                      · skip
                        refine V_ld (pc := 114) dX1_number_114 (v := vr r) rfl rfl ?_
                        refine V_bipush (pc := 115) dX1_number_115 (by unfold I32; omega) (by decide) ?_
                        refine V_ld (pc := 117) dX1_number_117 (v := vi (-1)) rfl rfl ?_
                        refine V_ld (pc := 118) dX1_number_118 (v := vi ((((((0 * 10) + (x541 - 48)) * 10) + (x542 - 48)) * 10) + (x543 - 48))) rfl rfl ?_
                        refine V_imul (pc := 119) dX1_number_119 (by unfold I32 at *; omega) ?_
                        refine V_sipush (pc := 120) dX1_number_120 (by unfold I32; omega) (by decide) ?_
                        refine V_iadd (pc := 123) dX1_number_123 (by unfold I32 at *; omega) ?_
                        refine V_callS (pc := 124) dX1_number_124 (F' := 0) (As := [vi 48, vi (((-1) * ((((((0 * 10) + (x541 - 48)) * 10) + (x542 - 48)) * 10) + (x543 - 48))) + 1000)]) (st := [vr r]) cw_RX1_97 rfl rfl (Nat.le_of_ble_eq_true rfl) (by omega) (d_opc  (setI (setI (setI (setI m r 3 ((S.2 : Int) + 1)) r 3 (((cAdv S).2 : Int) + 1)) r 3 (((cAdv (cAdv S)).2 : Int) + 1)) r 3 (((cAdv (cAdv (cAdv S))).2 : Int) + 1)) 48 (((-1) * ((((((0 * 10) + (x541 - 48)) * 10) + (x542 - 48)) * 10) + (x543 - 48))) + 1000)   ) ?_
                        rintro _ _ ⟨x124, rfl, rfl, rfl⟩ ok124 le124
                        refine V_callV (pc := 127) dX1_number_127 (F' := 0) (As := [vi (opc 48 (((-1) * ((((((0 * 10) + (x541 - 48)) * 10) + (x542 - 48)) * 10) + (x543 - 48))) + 1000))]) (st := []) cw_RX1_77 rfl rfl hQ.2.1 (by decide) (Nat.le_of_ble_eq_true rfl) (by omega) (d_emit tx n (cAdv (cAdv (cAdv (cAdv S)))) C (setI (setI (setI (setI m r 3 ((S.2 : Int) + 1)) r 3 (((cAdv S).2 : Int) + 1)) r 3 (((cAdv (cAdv S)).2 : Int) + 1)) r 3 (((cAdv (cAdv (cAdv S))).2 : Int) + 1)) r (opc 48 (((-1) * ((((((0 * 10) + (x541 - 48)) * 10) + (x542 - 48)) * 10) + (x543 - 48))) + 1000))   hQ hN3 (by omega)) ?_
                        rintro _ _ ⟨rfl, Ix127, rfl, hP127, hF127⟩ ok127 le127
                        have lc127 : (C ++ [opc 48 (((-1) * ((((((0 * 10) + (x541 - 48)) * 10) + (x542 - 48)) * 10) + (x543 - 48))) + 1000)]).length = C.length + 1 := by rw [List.length_append]; rfl
                        refine V_iconst (pc := 130) dX1_number_130 (by unfold I32; omega) ?_
                        refine V_reti (pc := 131) dX1_number_131 (show _ = (0 : Int) ∨ _ = (1 : Int) from by first | exact Or.inl rfl | exact Or.inr rfl | omega) ?_
                        first
                          | (exfalso; omega)
                          | (have en_ := n33 (tx := tx) (n := n) (S := (cAdv S)) (by unfold cDg; omega) (by unfold cDg; omega) (by unfold cDg; omega)
                             have oo_ := opS_neg (tx := tx) (n := n) (S := S) hm_
                             rw [en_] at oo_
                             refine ⟨mI (wI (setI (setI (setI (setI m r 3 ((S.2 : Int) + 1)) r 3 (((cAdv S).2 : Int) + 1)) r 3 (((cAdv (cAdv S)).2 : Int) + 1)) r 3 (((cAdv (cAdv (cAdv S))).2 : Int) + 1)) Ix127), rfl, (DFr.tr (DFr.set (DFr.set (DFr.set (DFr.set DFr.rf (by omega)) (by omega)) (by omega)) (by omega)) hF127), Or.inl ?_⟩
                             have hO_ : opc 48 (((-1) * ((((((0 * 10) + (x541 - 48)) * 10) + (x542 - 48)) * 10) + (x543 - 48))) + 1000) = (opS tx n S).1 := by rw [oo_.1]; congr 1; show _ = 1000 - _; simp only []; omega
                             have hP_ := hP127
                             rw [hO_] at hP_
                             rw [oo_.2]
                             exact ⟨hP.2.2.2.2.2.2.2.2.1, rfl, hP_⟩)
                      · skip
                        refine V_ld (pc := 109) dX1_number_109 (v := vr r) rfl rfl ?_
                        refine V_callV (pc := 110) dX1_number_110 (F' := 0) (As := []) (st := []) cw_RX1_45 rfl rfl hQ.2.1 (by decide) (Nat.le_of_ble_eq_true rfl) (by omega) (d_failed n (setI (setI (setI (setI m r 3 ((S.2 : Int) + 1)) r 3 (((cAdv S).2 : Int) + 1)) r 3 (((cAdv (cAdv S)).2 : Int) + 1)) r 3 (((cAdv (cAdv (cAdv S))).2 : Int) + 1)) r   hQ) ?_
                        rintro _ _ ⟨x110, rfl, Ix110, rfl, rfl, hI110, hF110⟩ ok110 le110
                        refine V_reti (pc := 113) dX1_number_113 (show _ = (0 : Int) ∨ _ = (1 : Int) from by first | exact Or.inl rfl | exact Or.inr rfl | omega) ?_
                        exfalso; omega
                    · skip
                      exfalso; omega
                  · skip
                    refine V_goto (pc := 74) dX1_number_74 (tgt := 101) rfl ?_
                    refine V_ld (pc := 101) dX1_number_101 (v := vr r) rfl rfl ?_
                    refine V_getIv (pc := 102) dX1_number_102 (v := ((cAdv (cAdv (cAdv S))).2 : Int)) fw_RX1_34 rfl hQ.2.1 hN2.2.1 (fun g102 => ?_)
                    refine V_ld (pc := 105) dX1_number_105 (v := vi ((cAdv S).2 : Int)) rfl rfl ?_
                    refine V_icmp_ne (pc := 106) dX1_number_106 (tgt := 114) rfl (fun h106 => ?_) (fun h106 => ?_)
                    · skip
                      refine V_ld (pc := 114) dX1_number_114 (v := vr r) rfl rfl ?_
                      refine V_bipush (pc := 115) dX1_number_115 (by unfold I32; omega) (by decide) ?_
                      refine V_ld (pc := 117) dX1_number_117 (v := vi (-1)) rfl rfl ?_
                      refine V_ld (pc := 118) dX1_number_118 (v := vi ((((0 * 10) + (x541 - 48)) * 10) + (x542 - 48))) rfl rfl ?_
                      refine V_imul (pc := 119) dX1_number_119 (by unfold I32 at *; omega) ?_
                      refine V_sipush (pc := 120) dX1_number_120 (by unfold I32; omega) (by decide) ?_
                      refine V_iadd (pc := 123) dX1_number_123 (by unfold I32 at *; omega) ?_
                      refine V_callS (pc := 124) dX1_number_124 (F' := 0) (As := [vi 48, vi (((-1) * ((((0 * 10) + (x541 - 48)) * 10) + (x542 - 48))) + 1000)]) (st := [vr r]) cw_RX1_97 rfl rfl (Nat.le_of_ble_eq_true rfl) (by omega) (d_opc  (setI (setI (setI m r 3 ((S.2 : Int) + 1)) r 3 (((cAdv S).2 : Int) + 1)) r 3 (((cAdv (cAdv S)).2 : Int) + 1)) 48 (((-1) * ((((0 * 10) + (x541 - 48)) * 10) + (x542 - 48))) + 1000)   ) ?_
                      rintro _ _ ⟨x124, rfl, rfl, rfl⟩ ok124 le124
                      refine V_callV (pc := 127) dX1_number_127 (F' := 0) (As := [vi (opc 48 (((-1) * ((((0 * 10) + (x541 - 48)) * 10) + (x542 - 48))) + 1000))]) (st := []) cw_RX1_77 rfl rfl hQ.2.1 (by decide) (Nat.le_of_ble_eq_true rfl) (by omega) (d_emit tx n (cAdv (cAdv (cAdv S))) C (setI (setI (setI m r 3 ((S.2 : Int) + 1)) r 3 (((cAdv S).2 : Int) + 1)) r 3 (((cAdv (cAdv S)).2 : Int) + 1)) r (opc 48 (((-1) * ((((0 * 10) + (x541 - 48)) * 10) + (x542 - 48))) + 1000))   hQ hN2 (by omega)) ?_
                      rintro _ _ ⟨rfl, Ix127, rfl, hP127, hF127⟩ ok127 le127
                      have lc127 : (C ++ [opc 48 (((-1) * ((((0 * 10) + (x541 - 48)) * 10) + (x542 - 48))) + 1000)]).length = C.length + 1 := by rw [List.length_append]; rfl
                      refine V_iconst (pc := 130) dX1_number_130 (by unfold I32; omega) ?_
                      refine V_reti (pc := 131) dX1_number_131 (show _ = (0 : Int) ∨ _ = (1 : Int) from by first | exact Or.inl rfl | exact Or.inr rfl | omega) ?_
                      first
                        | (exfalso; omega)
                        | (have en_ := n32 (tx := tx) (n := n) (S := (cAdv S)) (by unfold cDg; omega) (by unfold cDg; omega) (by unfold cDg; omega)
                           have oo_ := opS_neg (tx := tx) (n := n) (S := S) hm_
                           rw [en_] at oo_
                           refine ⟨mI (wI (setI (setI (setI m r 3 ((S.2 : Int) + 1)) r 3 (((cAdv S).2 : Int) + 1)) r 3 (((cAdv (cAdv S)).2 : Int) + 1)) Ix127), rfl, (DFr.tr (DFr.set (DFr.set (DFr.set DFr.rf (by omega)) (by omega)) (by omega)) hF127), Or.inl ?_⟩
                           have hO_ : opc 48 (((-1) * ((((0 * 10) + (x541 - 48)) * 10) + (x542 - 48))) + 1000) = (opS tx n S).1 := by rw [oo_.1]; congr 1; show _ = 1000 - _; simp only []; omega
                           have hP_ := hP127
                           rw [hO_] at hP_
                           rw [oo_.2]
                           exact ⟨hP.2.2.2.2.2.2.2.2.1, rfl, hP_⟩)
                    · skip
                      refine V_ld (pc := 109) dX1_number_109 (v := vr r) rfl rfl ?_
                      refine V_callV (pc := 110) dX1_number_110 (F' := 0) (As := []) (st := []) cw_RX1_45 rfl rfl hQ.2.1 (by decide) (Nat.le_of_ble_eq_true rfl) (by omega) (d_failed n (setI (setI (setI m r 3 ((S.2 : Int) + 1)) r 3 (((cAdv S).2 : Int) + 1)) r 3 (((cAdv (cAdv S)).2 : Int) + 1)) r   hQ) ?_
                      rintro _ _ ⟨x110, rfl, Ix110, rfl, rfl, hI110, hF110⟩ ok110 le110
                      refine V_reti (pc := 113) dX1_number_113 (show _ = (0 : Int) ∨ _ = (1 : Int) from by first | exact Or.inl rfl | exact Or.inr rfl | omega) ?_
                      exfalso; omega
            · skip
              refine V_goto (pc := 74) dX1_number_74 (tgt := 101) rfl ?_
              refine V_ld (pc := 101) dX1_number_101 (v := vr r) rfl rfl ?_
              refine V_getIv (pc := 102) dX1_number_102 (v := ((cAdv (cAdv S)).2 : Int)) fw_RX1_34 rfl hQ.2.1 hN1.2.1 (fun g102 => ?_)
              refine V_ld (pc := 105) dX1_number_105 (v := vi ((cAdv S).2 : Int)) rfl rfl ?_
              refine V_icmp_ne (pc := 106) dX1_number_106 (tgt := 114) rfl (fun h106 => ?_) (fun h106 => ?_)
              · skip
                refine V_ld (pc := 114) dX1_number_114 (v := vr r) rfl rfl ?_
                refine V_bipush (pc := 115) dX1_number_115 (by unfold I32; omega) (by decide) ?_
                refine V_ld (pc := 117) dX1_number_117 (v := vi (-1)) rfl rfl ?_
                refine V_ld (pc := 118) dX1_number_118 (v := vi ((0 * 10) + (x541 - 48))) rfl rfl ?_
                refine V_imul (pc := 119) dX1_number_119 (by unfold I32 at *; omega) ?_
                refine V_sipush (pc := 120) dX1_number_120 (by unfold I32; omega) (by decide) ?_
                refine V_iadd (pc := 123) dX1_number_123 (by unfold I32 at *; omega) ?_
                refine V_callS (pc := 124) dX1_number_124 (F' := 0) (As := [vi 48, vi (((-1) * ((0 * 10) + (x541 - 48))) + 1000)]) (st := [vr r]) cw_RX1_97 rfl rfl (Nat.le_of_ble_eq_true rfl) (by omega) (d_opc  (setI (setI m r 3 ((S.2 : Int) + 1)) r 3 (((cAdv S).2 : Int) + 1)) 48 (((-1) * ((0 * 10) + (x541 - 48))) + 1000)   ) ?_
                rintro _ _ ⟨x124, rfl, rfl, rfl⟩ ok124 le124
                refine V_callV (pc := 127) dX1_number_127 (F' := 0) (As := [vi (opc 48 (((-1) * ((0 * 10) + (x541 - 48))) + 1000))]) (st := []) cw_RX1_77 rfl rfl hQ.2.1 (by decide) (Nat.le_of_ble_eq_true rfl) (by omega) (d_emit tx n (cAdv (cAdv S)) C (setI (setI m r 3 ((S.2 : Int) + 1)) r 3 (((cAdv S).2 : Int) + 1)) r (opc 48 (((-1) * ((0 * 10) + (x541 - 48))) + 1000))   hQ hN1 (by omega)) ?_
                rintro _ _ ⟨rfl, Ix127, rfl, hP127, hF127⟩ ok127 le127
                have lc127 : (C ++ [opc 48 (((-1) * ((0 * 10) + (x541 - 48))) + 1000)]).length = C.length + 1 := by rw [List.length_append]; rfl
                refine V_iconst (pc := 130) dX1_number_130 (by unfold I32; omega) ?_
                refine V_reti (pc := 131) dX1_number_131 (show _ = (0 : Int) ∨ _ = (1 : Int) from by first | exact Or.inl rfl | exact Or.inr rfl | omega) ?_
                first
                  | (exfalso; omega)
                  | (have en_ := n31 (tx := tx) (n := n) (S := (cAdv S)) (by unfold cDg; omega) (by unfold cDg; omega)
                     have oo_ := opS_neg (tx := tx) (n := n) (S := S) hm_
                     rw [en_] at oo_
                     refine ⟨mI (wI (setI (setI m r 3 ((S.2 : Int) + 1)) r 3 (((cAdv S).2 : Int) + 1)) Ix127), rfl, (DFr.tr (DFr.set (DFr.set DFr.rf (by omega)) (by omega)) hF127), Or.inl ?_⟩
                     have hO_ : opc 48 (((-1) * ((0 * 10) + (x541 - 48))) + 1000) = (opS tx n S).1 := by rw [oo_.1]; congr 1; show _ = 1000 - _; simp only []; omega
                     have hP_ := hP127
                     rw [hO_] at hP_
                     rw [oo_.2]
                     exact ⟨hP.2.2.2.2.2.2.2.2.1, rfl, hP_⟩)
              · skip
                refine V_ld (pc := 109) dX1_number_109 (v := vr r) rfl rfl ?_
                refine V_callV (pc := 110) dX1_number_110 (F' := 0) (As := []) (st := []) cw_RX1_45 rfl rfl hQ.2.1 (by decide) (Nat.le_of_ble_eq_true rfl) (by omega) (d_failed n (setI (setI m r 3 ((S.2 : Int) + 1)) r 3 (((cAdv S).2 : Int) + 1)) r   hQ) ?_
                rintro _ _ ⟨x110, rfl, Ix110, rfl, rfl, hI110, hF110⟩ ok110 le110
                refine V_reti (pc := 113) dX1_number_113 (show _ = (0 : Int) ∨ _ = (1 : Int) from by first | exact Or.inl rfl | exact Or.inr rfl | omega) ?_
                exfalso; omega
      · skip
        refine V_goto (pc := 74) dX1_number_74 (tgt := 101) rfl ?_
        refine V_ld (pc := 101) dX1_number_101 (v := vr r) rfl rfl ?_
        refine V_getIv (pc := 102) dX1_number_102 (v := ((cAdv S).2 : Int)) fw_RX1_34 rfl hQ.2.1 hA30.2.1 (fun g102 => ?_)
        refine V_ld (pc := 105) dX1_number_105 (v := vi ((cAdv S).2 : Int)) rfl rfl ?_
        refine V_icmp_ne (pc := 106) dX1_number_106 (tgt := 114) rfl (fun h106 => ?_) (fun h106 => ?_)
        · skip
          refine V_ld (pc := 114) dX1_number_114 (v := vr r) rfl rfl ?_
          refine V_bipush (pc := 115) dX1_number_115 (by unfold I32; omega) (by decide) ?_
          refine V_ld (pc := 117) dX1_number_117 (v := vi (-1)) rfl rfl ?_
          refine V_ld (pc := 118) dX1_number_118 (v := vi 0) rfl rfl ?_
          refine V_imul (pc := 119) dX1_number_119 (by unfold I32 at *; omega) ?_
          refine V_sipush (pc := 120) dX1_number_120 (by unfold I32; omega) (by decide) ?_
          refine V_iadd (pc := 123) dX1_number_123 (by unfold I32 at *; omega) ?_
          refine V_callS (pc := 124) dX1_number_124 (F' := 0) (As := [vi 48, vi (((-1) * 0) + 1000)]) (st := [vr r]) cw_RX1_97 rfl rfl (Nat.le_of_ble_eq_true rfl) (by omega) (d_opc  (setI m r 3 ((S.2 : Int) + 1)) 48 (((-1) * 0) + 1000)   ) ?_
          rintro _ _ ⟨x124, rfl, rfl, rfl⟩ ok124 le124
          refine V_callV (pc := 127) dX1_number_127 (F' := 0) (As := [vi (opc 48 (((-1) * 0) + 1000))]) (st := []) cw_RX1_77 rfl rfl hQ.2.1 (by decide) (Nat.le_of_ble_eq_true rfl) (by omega) (d_emit tx n (cAdv S) C (setI m r 3 ((S.2 : Int) + 1)) r (opc 48 (((-1) * 0) + 1000))   hQ hA30 (by omega)) ?_
          rintro _ _ ⟨rfl, Ix127, rfl, hP127, hF127⟩ ok127 le127
          have lc127 : (C ++ [opc 48 (((-1) * 0) + 1000)]).length = C.length + 1 := by rw [List.length_append]; rfl
          refine V_iconst (pc := 130) dX1_number_130 (by unfold I32; omega) ?_
          refine V_reti (pc := 131) dX1_number_131 (show _ = (0 : Int) ∨ _ = (1 : Int) from by first | exact Or.inl rfl | exact Or.inr rfl | omega) ?_
          exfalso; omega
        · skip
          refine V_ld (pc := 109) dX1_number_109 (v := vr r) rfl rfl ?_
          refine V_callV (pc := 110) dX1_number_110 (F' := 0) (As := []) (st := []) cw_RX1_45 rfl rfl hQ.2.1 (by decide) (Nat.le_of_ble_eq_true rfl) (by omega) (d_failed n (setI m r 3 ((S.2 : Int) + 1)) r   hQ) ?_
          rintro _ _ ⟨x110, rfl, Ix110, rfl, rfl, hI110, hF110⟩ ok110 le110
          refine V_reti (pc := 113) dX1_number_113 (show _ = (0 : Int) ∨ _ = (1 : Int) from by first | exact Or.inl rfl | exact Or.inr rfl | omega) ?_
          first
            | (exfalso; omega)
            | (have en_ := n30 (tx := tx) (n := n) (S := (cAdv S)) (by unfold cDg; omega)
               have oo_ := opS_neg (tx := tx) (n := n) (S := S) hm_
               rw [en_] at oo_
               refine ⟨mI (wI (setI m r 3 ((S.2 : Int) + 1)) Ix110), rfl, (DFr.tr (DFr.set DFr.rf (by omega)) hF110), Or.inr ?_⟩
               rw [oo_.2]
               exact ⟨rfl, rfl, hI110.trans ((if_pos hA30.2.2.1).trans hA30.2.1)⟩)
