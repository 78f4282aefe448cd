/-! the class works a condition out -/
def KDc (a : Int) : Prop := ∃ k d, KD k d ∧ a = opc k d
def okL : List Int → Prop
  | [] => True
  | [_] => True
  | [_, _] => True
  | s :: a :: b :: r => if isOp s then okL (a :: b :: r) else (KDc a ∧ KDc b ∧ okL r)
theorem okL_op {s : Int} {r : List Int} (h : isOp s) : okL (s :: r) ↔ okL r := by
  match r with
  | [] => exact Iff.rfl
  | [a] => exact Iff.rfl
  | a :: b :: r =>
    show (if isOp s then _ else _) ↔ _
    rw [if_pos h]
theorem okL_tst {s a b : Int} {r : List Int} (h : ¬ isOp s) : okL (s :: a :: b :: r) ↔ (KDc a ∧ KDc b ∧ okL r) := by
  show (if isOp s then _ else _) ↔ _
  rw [if_neg h]
def okS (R : CR) : Prop := ∀ r, okL r → okL (R.1 ++ r)
theorem tst_okS {tx : Nat → Int} {n : Nat} {S : CS} (hw : (tstS tx n S).2.2.1 = true) : okS (tstS tx n S) := by
  intro r h
  have n2 := opK_ni tx n (cTake tx n (opS tx n S).2.2 (sgn tx n (opS tx n S).2.2))
  have k2 := n2.2 hw
  have w2 := (n2.1.2.1 hw).1
  have hs := sgn_v tx n (opS tx n S).2.2
  have w1 := ((CNi.take (tx := tx) (n := n) (S := (opS tx n S).2.2) (c := sgn tx n (opS tx n S).2.2) (by rcases hs with h | h | h <;> rw [h] <;> decide)).2.1 w2).1
  have k1 := (opK_ni tx n S).2 w1
  show okL (sgn tx n (opS tx n S).2.2 :: (opS tx n S).1 :: (opS tx n (cTake tx n (opS tx n S).2.2 (sgn tx n (opS tx n S).2.2))).1 :: r)
  rw [okL_tst (by unfold isOp; omega)]
  exact ⟨⟨_, _, k1, rfl⟩, ⟨_, _, k2, rfl⟩, h⟩
theorem join_okS {ch : Int} {A C : CR} (hch : ch = 38 ∨ ch = 124) (hA : okS A) (hC : okS C) : okS (joinC ch A C) := by
  intro r h
  show okL ((A.1 ++ C.1 ++ [ch]) ++ r)
  rw [List.append_assoc, List.append_assoc]
  exact hA _ (hC _ ((okL_op (r := r) (by unfold isOp; omega)).mpr h))
theorem lpC_okS {tx : Nat → Int} {n : Nat} {ch : Int} {go : CS → CR} (hch : ch = 38 ∨ ch = 124) (hg : ∀ S, (go S).2.2.1 = true → okS (go S)) : ∀ (f : Nat) (R : CR), (R.2.2.1 = true → okS R) → (lpC tx n ch go f R).2.2.1 = true → okS (lpC tx n ch go f R)
  | 0, R, h, hw => h hw
  | f + 1, R, h, hw => by
    have e : lpC tx n ch go (f + 1) R = (if ccS tx n R.2.2 = ch then lpC tx n ch go f (joinC ch R (go (cAdv R.2.2))) else R) := rfl
    by_cases c : ccS tx n R.2.2 = ch
    · rw [e, if_pos c] at hw ⊢
      have wR := (cc_lt (tx := tx) (n := n) (S := R.2.2) (by omega)).1
      exact lpC_okS hch hg f _ (fun w => join_okS hch (h wR) (hg _ w)) hw
    · rw [e, if_neg c] at hw ⊢
      exact h hw
theorem eitF_okS {tx : Nat → Int} {n : Nat} {fac : CS → CR} (hg : ∀ S, (fac S).2.2.1 = true → okS (fac S)) (S : CS) (hw : (eitF tx n fac S).2.2.1 = true) : okS (eitF tx n fac S) := by
  have hb : ∀ S, (bthC tx n fac S).2.2.1 = true → okS (bthC tx n fac S) := fun S => lpC_okS (Or.inl rfl) hg _ _ (hg S)
  exact lpC_okS (Or.inr rfl) hb _ _ (hb S) hw
theorem fac_okS (tx : Nat → Int) (n : Nat) : ∀ k S, (facC tx n k S).2.2.1 = true → okS (facC tx n k S)
  | 0, S, hw => tst_okS hw
  | k + 1, S, hw => by
    have e : facC tx n (k + 1) S = (if ccS tx n S = 33 then ((facC tx n k (cAdv S)).1 ++ [33], (fun e => !((facC tx n k (cAdv S)).2.1 e)), (facC tx n k (cAdv S)).2.2)
      else if ccS tx n S = 40 then ((eitF tx n (facC tx n k) (cAdv S)).1, (eitF tx n (facC tx n k) (cAdv S)).2.1, cTake tx n (eitF tx n (facC tx n k) (cAdv S)).2.2 41)
      else tstS tx n S) := rfl
    by_cases h1 : ccS tx n S = 33
    · rw [e, if_pos h1] at hw ⊢
      intro r h
      show okL (((facC tx n k (cAdv S)).1 ++ [33]) ++ r)
      rw [List.append_assoc]
      exact fac_okS tx n k (cAdv S) hw _ ((okL_op (r := r) (by unfold isOp; omega)).mpr h)
    · rw [e, if_neg h1] at hw ⊢
      by_cases h2 : ccS tx n S = 40
      · rw [if_pos h2] at hw ⊢
        have w := ((CNi.take (tx := tx) (n := n) (S := (eitF tx n (facC tx n k) (cAdv S)).2.2) (c := 41) (by decide)).2.1 hw).1
        exact eitF_okS (fac_okS tx n k) (cAdv S) w
      · rw [if_neg h2] at hw ⊢
        exact tst_okS hw
theorem eit_okL {tx : Nat → Int} {n : Nat} {S : CS} (hw : (eitL tx n 4 S).2.2.1 = true) : okL (eitL tx n 4 S).1 := by
  have h := eitF_okS (fac_okS tx n 4) S hw [] trivial
  rw [List.append_nil] at h
  exact h
def AgC (I : Nat → Nat → Int) (row : Int) (e : CEnv) : Prop := e.1 = I 9 6 ∧ e.2.1 = row ∧ (∀ k, k < 32 → e.2.2.1 k = I 10 k) ∧ e.2.2.2.1 = I 2 1 ∧ (∀ k, k < 64 → e.2.2.2.2 k = I 3 k) ∧ 0 ≤ I 2 1 ∧ I 2 1 ≤ 32 ∧ 0 ≤ I 9 6 ∧ I 9 6 ≤ row ∧ row < I 2 1 ∧ ∀ k, k < 64 → -999 ≤ I 3 k ∧ I 3 k ≤ 1000
theorem AgC.cell {I : Nat → Nat → Int} {row : Int} {e : CEnv} (h : AgC I row e) {r c x : Int} (hc : 0 ≤ c ∧ c ≤ 1) (hx : x = if 0 ≤ r ∧ r < I 2 1 ∧ r < 32 ∧ 0 ≤ c ∧ c < 2 then I 3 (r * 2 + c).toNat else 1000) : (cellE e r c = none ∧ x = 1000) ∨ (cellE e r c = some x ∧ x ≠ 1000 ∧ -999 ≤ x) := by
  obtain ⟨h1, h2, h3, h4, h5, h6, h7, h8, h9, h10, h11⟩ := h
  unfold cellE
  rw [h4]
  by_cases a : 0 ≤ r ∧ r < I 2 1
  · rw [if_pos (by omega)] at hx
    have e1 : (2 * r + c).toNat = (r * 2 + c).toNat := by omega
    have e2 := h5 (2 * r + c).toNat (by omega)
    have e3 := h11 (r * 2 + c).toNat (by omega)
    rw [e2, e1, ← hx]
    rw [← hx] at e3
    by_cases b : x = 1000
    · rw [if_neg (fun z => z.2.2 b)]; exact Or.inl ⟨rfl, b⟩
    · rw [if_pos ⟨a.1, a.2, b⟩]; exact Or.inr ⟨rfl, b, e3.1⟩
  · rw [if_neg (by omega)] at hx
    rw [if_neg (fun z => a ⟨z.1, z.2.1⟩)]
    exact Or.inl ⟨rfl, hx⟩

set_option maxHeartbeats 4000000 in
theorem d_letterAt  (m : Mem) (i : Int)   (hL : Lay (mT m) (mR m)) : Ct μX6_letterAt 0 [vr 9, vi i] m (ri fun x_ m' => (x_ = if 0 ≤ i ∧ i < 32 then mI m 10 i.toNat else -5) ∧ m = m') := by
  refine Ct_of_V rfl (by decide) rfl (Nat.le_of_ble_eq_true rfl) ?_
  show V μX6_letterAt 0 m _ 0 [(0, vr 9), (1, vi i)] [] m
  refine V_rg (k := 1) (x := i) rfl fun r_i => ?_
  refine V_ld (pc := 0) dX6_letterAt_0 (v := vi i) rfl rfl ?_
  refine V_if_lt (pc := 1) dX6_letterAt_1 (tgt := 10) rfl (fun h1 => ?_) (fun h1 => ?_)
  · skip
    refine V_bipush (pc := 10) dX6_letterAt_10 (by unfold I32; omega) (by decide) ?_
    refine V_goto (pc := 12) dX6_letterAt_12 (tgt := 21) rfl ?_
    refine V_reti (pc := 21) dX6_letterAt_21 trivial ?_
    exact ⟨by omega, rfl⟩
  · skip
    refine V_ld (pc := 4) dX6_letterAt_4 (v := vi i) rfl rfl ?_
    refine V_bipush (pc := 5) dX6_letterAt_5 (by unfold I32; omega) (by decide) ?_
    refine V_icmp_lt (pc := 7) dX6_letterAt_7 (tgt := 15) rfl (fun h7 => ?_) (fun h7 => ?_)
    · skip
      refine V_ld (pc := 15) dX6_letterAt_15 (v := vr 9) rfl rfl ?_
      refine V_getRv (pc := 16) dX6_letterAt_16 (o' := 10) fw_RX6_9 rfl hL.t9 hL.r9_1 ?_
      refine V_ld (pc := 19) dX6_letterAt_19 (v := vi i) rfl rfl ?_
      refine V_ialdv (pc := 20) dX6_letterAt_20 (v := mI m 10 i.toNat) hL.t10 (by omega) rfl (fun g20 => ?_)
      refine V_reti (pc := 21) dX6_letterAt_21 trivial ?_
      exact ⟨by omega, rfl⟩
    · skip
      refine V_bipush (pc := 10) dX6_letterAt_10 (by unfold I32; omega) (by decide) ?_
      refine V_goto (pc := 12) dX6_letterAt_12 (tgt := 21) rfl ?_
      refine V_reti (pc := 21) dX6_letterAt_21 trivial ?_
      exact ⟨by omega, rfl⟩

set_option maxHeartbeats 4000000 in
theorem L_dcnt {F : Nat} {m0 m : Mem} {post : Option AV → Mem → Prop} {N : Nat} {e : CEnv} {row : Int} {w : Int} (hL : Lay (mT m) (mR m)) (hF : 0 < F) (hA : AgC (mI m) row e) (hN : row = mI m 9 6 + (N : Int) - 1) (hw : 0 ≤ w) (kx : ∀ r v : Int, v = cnE e.2.2.1 w N (mI m 9 6) → V μX6_count F m0 post 33 [(4, vi r), (3, vi v), (0, vr 9), (1, vi w), (2, vi row)] [] m) : ∀ (d i : Nat) (r v : Int), i + d = N → r = mI m 9 6 + (i : Int) → v = cnE e.2.2.1 w i (mI m 9 6) → V μX6_count F m0 post 8 [(4, vi r), (3, vi v), (0, vr 9), (1, vi w), (2, vi row)] [] m := by
  obtain ⟨a1, a2, a3, a4, a5, a6, a7, a8, a9, a10, a11⟩ := hA
  intro d
  induction d with
  | zero =>
    intro i r v hi hr hv
    obtain rfl : i = N := by omega
    have hcb := cnE_b e.2.2.1 w (mI m 9 6) i
    refine V_ld (pc := 8) dX6_count_8 (v := vi r) rfl rfl ?_
    refine V_ld (pc := 10) dX6_count_10 (v := vi row) rfl rfl ?_
    refine V_icmp_gt (pc := 11) dX6_count_11 (tgt := 33) rfl (fun h11 => ?_) (fun h11 => ?_)
    · skip
      first | (exfalso; omega) | (skip; exact kx r v hv)
    · skip
      refine V_ld (pc := 14) dX6_count_14 (v := vr 9) rfl rfl ?_
      refine V_ld (pc := 15) dX6_count_15 (v := vi r) rfl rfl ?_
      refine V_callV (pc := 17) dX6_count_17 (F' := 0) (As := [vi r]) (st := []) cw_RX6_171 rfl rfl hL.t9 (by decide) (Nat.le_of_ble_eq_true rfl) hF (d_letterAt  m r   (by first | assumption | omega)) ?_
      rintro _ _ ⟨x17, rfl, hx17, rfl⟩ ok17 le17
      refine V_ld (pc := 20) dX6_count_20 (v := vi w) rfl rfl ?_
      refine V_icmp_ne (pc := 21) dX6_count_21 (tgt := 27) rfl (fun h21 => ?_) (fun h21 => ?_)
      · skip
        refine V_iinc (pc := 27) dX6_count_27 (x := r) (ls' := [(4, vi (r + 1)), (3, vi v), (0, vr 9), (1, vi w), (2, vi row)]) rfl (by unfold I32 at *; omega) (Nat.le_of_ble_eq_true rfl) rfl ?_
        refine V_goto (pc := 30) dX6_count_30 (tgt := 8) rfl ?_
        exfalso; omega
      · skip
        refine V_iinc (pc := 24) dX6_count_24 (x := v) (ls' := [(3, vi (v + 1)), (4, vi r), (0, vr 9), (1, vi w), (2, vi row)]) rfl (by unfold I32 at *; omega) (Nat.le_of_ble_eq_true rfl) rfl ?_
        refine V_iinc (pc := 27) dX6_count_27 (x := r) (ls' := [(4, vi (r + 1)), (3, vi (v + 1)), (0, vr 9), (1, vi w), (2, vi row)]) rfl (by unfold I32 at *; omega) (Nat.le_of_ble_eq_true rfl) rfl ?_
        refine V_goto (pc := 30) dX6_count_30 (tgt := 8) rfl ?_
        exfalso; omega
  | succ d ih =>
    intro i r v hi hr hv
    have hcb := cnE_b e.2.2.1 w (mI m 9 6) i
    refine V_ld (pc := 8) dX6_count_8 (v := vi r) rfl rfl ?_
    refine V_ld (pc := 10) dX6_count_10 (v := vi row) rfl rfl ?_
    refine V_icmp_gt (pc := 11) dX6_count_11 (tgt := 33) rfl (fun h11 => ?_) (fun h11 => ?_)
    · skip
      exfalso; omega
    · skip
      refine V_ld (pc := 14) dX6_count_14 (v := vr 9) rfl rfl ?_
      refine V_ld (pc := 15) dX6_count_15 (v := vi r) rfl rfl ?_
      refine V_callV (pc := 17) dX6_count_17 (F' := 0) (As := [vi r]) (st := []) cw_RX6_171 rfl rfl hL.t9 (by decide) (Nat.le_of_ble_eq_true rfl) hF (d_letterAt  m r   (by first | assumption | omega)) ?_
      rintro _ _ ⟨x17, rfl, hx17, rfl⟩ ok17 le17
      refine V_ld (pc := 20) dX6_count_20 (v := vi w) rfl rfl ?_
      refine V_icmp_ne (pc := 21) dX6_count_21 (tgt := 27) rfl (fun h21 => ?_) (fun h21 => ?_)
      · skip
        refine V_iinc (pc := 27) dX6_count_27 (x := r) (ls' := [(4, vi (r + 1)), (3, vi v), (0, vr 9), (1, vi w), (2, vi row)]) rfl (by unfold I32 at *; omega) (Nat.le_of_ble_eq_true rfl) rfl ?_
        refine V_goto (pc := 30) dX6_count_30 (tgt := 8) rfl ?_
        skip
        refine ih (i + 1) (r + 1) (v) (by omega) (by omega) ?_
        have ha_ := a3 r.toNat (by omega)
        show _ = cnE e.2.2.1 w i (mI m 9 6) + (if e.2.2.1 (mI m 9 6 + (i : Int)).toNat = w then 1 else 0)
        rw [← hr, ha_]
        first | (rw [if_pos (by omega)]; omega) | (rw [if_neg (by omega)]; omega)
      · skip
        refine V_iinc (pc := 24) dX6_count_24 (x := v) (ls' := [(3, vi (v + 1)), (4, vi r), (0, vr 9), (1, vi w), (2, vi row)]) rfl (by unfold I32 at *; omega) (Nat.le_of_ble_eq_true rfl) rfl ?_
        refine V_iinc (pc := 27) dX6_count_27 (x := r) (ls' := [(4, vi (r + 1)), (3, vi (v + 1)), (0, vr 9), (1, vi w), (2, vi row)]) rfl (by unfold I32 at *; omega) (Nat.le_of_ble_eq_true rfl) rfl ?_
        refine V_goto (pc := 30) dX6_count_30 (tgt := 8) rfl ?_
        skip
        refine ih (i + 1) (r + 1) (v + 1) (by omega) (by omega) ?_
        have ha_ := a3 r.toNat (by omega)
        show _ = cnE e.2.2.1 w i (mI m 9 6) + (if e.2.2.1 (mI m 9 6 + (i : Int)).toNat = w then 1 else 0)
        rw [← hr, ha_]
        first | (rw [if_pos (by omega)]; omega) | (rw [if_neg (by omega)]; omega)

set_option maxHeartbeats 4000000 in
theorem d_count (e : CEnv) (m : Mem) (w : Int) (row : Int)   (hL : Lay (mT m) (mR m)) (hA : AgC (mI m) row e) (hw : 0 ≤ w) : Ct μX6_count 1 [vr 9, vi w, vi row] m (ri fun x_ m' => (x_ = cnE e.2.2.1 w (spE e) e.1) ∧ m = m') := by
  refine Ct_of_V rfl (by decide) rfl (Nat.le_of_ble_eq_true rfl) ?_
  show V μX6_count 1 m _ 0 [(0, vr 9), (1, vi w), (2, vi row)] [] m
  refine V_rg (k := 1) (x := w) rfl fun r_w => ?_
  refine V_rg (k := 2) (x := row) rfl fun r_row => ?_
  obtain ⟨a1, a2, a3, a4, a5, a6, a7, a8, a9, a10, a11⟩ := hA
  have hA : AgC (mI m) row e := ⟨a1, a2, a3, a4, a5, a6, a7, a8, a9, a10, a11⟩
  refine V_iconst (pc := 0) dX6_count_0 (by unfold I32; omega) ?_
  refine V_st (pc := 1) dX6_count_1 (ls' := [(3, vi 0), (0, vr 9), (1, vi w), (2, vi row)]) rfl (Nat.le_of_ble_eq_true rfl) rfl ?_
  refine V_ld (pc := 2) dX6_count_2 (v := vr 9) rfl rfl ?_
  refine V_getIv (pc := 3) dX6_count_3 (v := mI m 9 6) fw_RX6_73 rfl hL.t9 rfl (fun g3 => ?_)
  refine V_st (pc := 6) dX6_count_6 (ls' := [(4, vi (mI m 9 6)), (3, vi 0), (0, vr 9), (1, vi w), (2, vi row)]) rfl (Nat.le_of_ble_eq_true rfl) rfl ?_
  skip
  have hN_ : row = mI m 9 6 + ((spE e : Nat) : Int) - 1 := by
    have h_ : spE e = (e.2.1 - e.1 + 1).toNat := rfl
    omega
  refine L_dcnt (m := m) (N := spE e) (e := e) (row := row) hL (by omega) hA hN_ hw ?_ (spE e) 0 (mI m 9 6) 0 (by omega) (by omega) rfl
  rintro r' v' rfl
  refine V_ld (pc := 33) dX6_count_33 (v := vi (cnE e.2.2.1 w (spE e) (mI m 9 6))) rfl rfl ?_
  refine V_reti (pc := 34) dX6_count_34 trivial ?_
  exact ⟨by rw [a1], rfl⟩

set_option maxHeartbeats 4000000 in
theorem L_dsum {F : Nat} {m0 m : Mem} {post : Option AV → Mem → Prop} {N : Nat} {e : CEnv} {row : Int} {w c : Int} (hL : Lay (mT m) (mR m)) (hF : 0 < F) (hA : AgC (mI m) row e) (hN : row = mI m 9 6 + (N : Int) - 1) (hw : 0 ≤ w) (h01 : 0 ≤ c ∧ c ≤ 1) (kx : ∀ r v : Int, v = smE e.2.2.1 e.2.2.2.2 w c N (mI m 9 6) → V μX6_sum F m0 post 61 [(5, vi r), (4, vi v), (0, vr 9), (1, vi w), (2, vi c), (3, vi row)] [] m) : ∀ (d i : Nat) (r v : Int), i + d = N → r = mI m 9 6 + (i : Int) → v = smE e.2.2.1 e.2.2.2.2 w c i (mI m 9 6) → V μX6_sum F m0 post 9 [(5, vi r), (4, vi v), (0, vr 9), (1, vi w), (2, vi c), (3, vi row)] [] m := by
  obtain ⟨a1, a2, a3, a4, a5, a6, a7, a8, a9, a10, a11⟩ := hA
  intro d
  induction d with
  | zero =>
    intro i r v hi hr hv
    obtain rfl : i = N := by omega
    have hsb := smE_b e.2.2.1 e.2.2.2.2 w c (mI m 9 6) (fun k hk => by rw [a5 k hk]; exact a11 k hk) a8 h01 i (by omega)
    have hcb_ := a11 (r * 2 + c).toNat
    refine V_ld (pc := 9) dX6_sum_9 (v := vi r) rfl rfl ?_
    refine V_ld (pc := 11) dX6_sum_11 (v := vi row) rfl rfl ?_
    refine V_icmp_gt (pc := 12) dX6_sum_12 (tgt := 61) rfl (fun h12 => ?_) (fun h12 => ?_)
    · skip
      first | (exfalso; omega) | (skip; exact kx r v hv)
    · skip
      refine V_ld (pc := 15) dX6_sum_15 (v := vr 9) rfl rfl ?_
      refine V_getRv (pc := 16) dX6_sum_16 (o' := 1) fw_RX6_21 rfl hL.t9 hL.r9_0 ?_
      refine V_getRv (pc := 19) dX6_sum_19 (o' := 2) fw_RX6_31 rfl hL.t1 hL.r1_0 ?_
      refine V_ld (pc := 22) dX6_sum_22 (v := vi r) rfl rfl ?_
      refine V_ld (pc := 24) dX6_sum_24 (v := vi c) rfl rfl ?_
      refine V_callV (pc := 25) dX6_sum_25 (F' := 0) (As := [vi r, vi c]) (st := []) cw_RX6_174 rfl rfl hL.t2 (by decide) (Nat.le_of_ble_eq_true rfl) hF (c_number  m 2 r c 3  hL.t2 hL.r2_0 hL.t3) ?_
      rintro _ _ ⟨x25, rfl, hx25, rfl⟩ ok25 le25
      refine V_st (pc := 28) dX6_sum_28 (ls' := [(6, vi x25), (5, vi r), (4, vi v), (0, vr 9), (1, vi w), (2, vi c), (3, vi row)]) rfl (Nat.le_of_ble_eq_true rfl) rfl ?_
      refine V_ld (pc := 30) dX6_sum_30 (v := vr 9) rfl rfl ?_
      refine V_ld (pc := 31) dX6_sum_31 (v := vi r) rfl rfl ?_
      refine V_callV (pc := 33) dX6_sum_33 (F' := 0) (As := [vi r]) (st := []) cw_RX6_171 rfl rfl hL.t9 (by decide) (Nat.le_of_ble_eq_true rfl) hF (d_letterAt  m r   (by first | assumption | omega)) ?_
      rintro _ _ ⟨x33, rfl, hx33, rfl⟩ ok33 le33
      refine V_ld (pc := 36) dX6_sum_36 (v := vi w) rfl rfl ?_
      refine V_icmp_ne (pc := 37) dX6_sum_37 (tgt := 55) rfl (fun h37 => ?_) (fun h37 => ?_)
      · skip
        refine V_iinc (pc := 55) dX6_sum_55 (x := r) (ls' := [(5, vi (r + 1)), (6, vi x25), (4, vi v), (0, vr 9), (1, vi w), (2, vi c), (3, vi row)]) rfl (by unfold I32 at *; omega) (Nat.le_of_ble_eq_true rfl) rfl ?_
        refine V_goto (pc := 58) dX6_sum_58 (tgt := 9) rfl ?_
        exfalso; omega
      · skip
        refine V_ld (pc := 40) dX6_sum_40 (v := vi x25) rfl rfl ?_
        refine V_sipush (pc := 42) dX6_sum_42 (by unfold I32; omega) (by decide) ?_
        refine V_icmp_eq (pc := 45) dX6_sum_45 (tgt := 55) rfl (fun h45 => ?_) (fun h45 => ?_)
        · skip
          refine V_iinc (pc := 55) dX6_sum_55 (x := r) (ls' := [(5, vi (r + 1)), (6, vi x25), (4, vi v), (0, vr 9), (1, vi w), (2, vi c), (3, vi row)]) rfl (by unfold I32 at *; omega) (Nat.le_of_ble_eq_true rfl) rfl ?_
          refine V_goto (pc := 58) dX6_sum_58 (tgt := 9) rfl ?_
          exfalso; omega
        · skip
          refine V_ld (pc := 48) dX6_sum_48 (v := vi v) rfl rfl ?_
          refine V_ld (pc := 50) dX6_sum_50 (v := vi x25) rfl rfl ?_
          refine V_iadd (pc := 52) dX6_sum_52 (by unfold I32 at *; omega) ?_
          refine V_st (pc := 53) dX6_sum_53 (ls' := [(4, vi (v + x25)), (6, vi x25), (5, vi r), (0, vr 9), (1, vi w), (2, vi c), (3, vi row)]) rfl (Nat.le_of_ble_eq_true rfl) rfl ?_
          refine V_iinc (pc := 55) dX6_sum_55 (x := r) (ls' := [(5, vi (r + 1)), (4, vi (v + x25)), (6, vi x25), (0, vr 9), (1, vi w), (2, vi c), (3, vi row)]) rfl (by unfold I32 at *; omega) (Nat.le_of_ble_eq_true rfl) rfl ?_
          refine V_goto (pc := 58) dX6_sum_58 (tgt := 9) rfl ?_
          exfalso; omega
  | succ d ih =>
    intro i r v hi hr hv
    have hsb := smE_b e.2.2.1 e.2.2.2.2 w c (mI m 9 6) (fun k hk => by rw [a5 k hk]; exact a11 k hk) a8 h01 i (by omega)
    have hcb_ := a11 (r * 2 + c).toNat
    refine V_ld (pc := 9) dX6_sum_9 (v := vi r) rfl rfl ?_
    refine V_ld (pc := 11) dX6_sum_11 (v := vi row) rfl rfl ?_
    refine V_icmp_gt (pc := 12) dX6_sum_12 (tgt := 61) rfl (fun h12 => ?_) (fun h12 => ?_)
    · skip
      exfalso; omega
    · skip
      refine V_ld (pc := 15) dX6_sum_15 (v := vr 9) rfl rfl ?_
      refine V_getRv (pc := 16) dX6_sum_16 (o' := 1) fw_RX6_21 rfl hL.t9 hL.r9_0 ?_
      refine V_getRv (pc := 19) dX6_sum_19 (o' := 2) fw_RX6_31 rfl hL.t1 hL.r1_0 ?_
      refine V_ld (pc := 22) dX6_sum_22 (v := vi r) rfl rfl ?_
      refine V_ld (pc := 24) dX6_sum_24 (v := vi c) rfl rfl ?_
      refine V_callV (pc := 25) dX6_sum_25 (F' := 0) (As := [vi r, vi c]) (st := []) cw_RX6_174 rfl rfl hL.t2 (by decide) (Nat.le_of_ble_eq_true rfl) hF (c_number  m 2 r c 3  hL.t2 hL.r2_0 hL.t3) ?_
      rintro _ _ ⟨x25, rfl, hx25, rfl⟩ ok25 le25
      refine V_st (pc := 28) dX6_sum_28 (ls' := [(6, vi x25), (5, vi r), (4, vi v), (0, vr 9), (1, vi w), (2, vi c), (3, vi row)]) rfl (Nat.le_of_ble_eq_true rfl) rfl ?_
      refine V_ld (pc := 30) dX6_sum_30 (v := vr 9) rfl rfl ?_
      refine V_ld (pc := 31) dX6_sum_31 (v := vi r) rfl rfl ?_
      refine V_callV (pc := 33) dX6_sum_33 (F' := 0) (As := [vi r]) (st := []) cw_RX6_171 rfl rfl hL.t9 (by decide) (Nat.le_of_ble_eq_true rfl) hF (d_letterAt  m r   (by first | assumption | omega)) ?_
      rintro _ _ ⟨x33, rfl, hx33, rfl⟩ ok33 le33
      refine V_ld (pc := 36) dX6_sum_36 (v := vi w) rfl rfl ?_
      refine V_icmp_ne (pc := 37) dX6_sum_37 (tgt := 55) rfl (fun h37 => ?_) (fun h37 => ?_)
      · skip
        refine V_iinc (pc := 55) dX6_sum_55 (x := r) (ls' := [(5, vi (r + 1)), (6, vi x25), (4, vi v), (0, vr 9), (1, vi w), (2, vi c), (3, vi row)]) rfl (by unfold I32 at *; omega) (Nat.le_of_ble_eq_true rfl) rfl ?_
        refine V_goto (pc := 58) dX6_sum_58 (tgt := 9) rfl ?_
        refine V_ls (ls' := [(5, vi (r + 1)), (4, vi v), (0, vr 9), (1, vi w), (2, vi c), (3, vi row)]) (by intro q_ h_; simp only [List.mem_cons, List.not_mem_nil, or_false] at h_ ⊢; rcases h_ with rfl | rfl | rfl | rfl | rfl | rfl <;> simp) ?_
        refine ih (i + 1) (r + 1) (v) (by omega) (by omega) ?_
        have ha_ := a3 r.toNat (by omega)
        have hb_ := a5 (2 * r + c).toNat (by omega)
        show _ = smE e.2.2.1 e.2.2.2.2 w c i (mI m 9 6) + (if e.2.2.1 (mI m 9 6 + (i : Int)).toNat = w ∧ e.2.2.2.2 (2 * (mI m 9 6 + (i : Int)) + c).toNat ≠ 1000 then e.2.2.2.2 (2 * (mI m 9 6 + (i : Int)) + c).toNat else 0)
        rw [← hr, ha_, hb_]
        have he_ : (2 * r + c).toNat = (r * 2 + c).toNat := by omega
        rw [he_]
        first | (rw [if_pos (by omega)]; omega) | (rw [if_neg (by omega)]; omega)
      · skip
        refine V_ld (pc := 40) dX6_sum_40 (v := vi x25) rfl rfl ?_
        refine V_sipush (pc := 42) dX6_sum_42 (by unfold I32; omega) (by decide) ?_
        refine V_icmp_eq (pc := 45) dX6_sum_45 (tgt := 55) rfl (fun h45 => ?_) (fun h45 => ?_)
        · skip
          refine V_iinc (pc := 55) dX6_sum_55 (x := r) (ls' := [(5, vi (r + 1)), (6, vi x25), (4, vi v), (0, vr 9), (1, vi w), (2, vi c), (3, vi row)]) rfl (by unfold I32 at *; omega) (Nat.le_of_ble_eq_true rfl) rfl ?_
          refine V_goto (pc := 58) dX6_sum_58 (tgt := 9) rfl ?_
          refine V_ls (ls' := [(5, vi (r + 1)), (4, vi v), (0, vr 9), (1, vi w), (2, vi c), (3, vi row)]) (by intro q_ h_; simp only [List.mem_cons, List.not_mem_nil, or_false] at h_ ⊢; rcases h_ with rfl | rfl | rfl | rfl | rfl | rfl <;> simp) ?_
          refine ih (i + 1) (r + 1) (v) (by omega) (by omega) ?_
          have ha_ := a3 r.toNat (by omega)
          have hb_ := a5 (2 * r + c).toNat (by omega)
          show _ = smE e.2.2.1 e.2.2.2.2 w c i (mI m 9 6) + (if e.2.2.1 (mI m 9 6 + (i : Int)).toNat = w ∧ e.2.2.2.2 (2 * (mI m 9 6 + (i : Int)) + c).toNat ≠ 1000 then e.2.2.2.2 (2 * (mI m 9 6 + (i : Int)) + c).toNat else 0)
          rw [← hr, ha_, hb_]
          have he_ : (2 * r + c).toNat = (r * 2 + c).toNat := by omega
          rw [he_]
          first | (rw [if_pos (by omega)]; omega) | (rw [if_neg (by omega)]; omega)
        · skip
          refine V_ld (pc := 48) dX6_sum_48 (v := vi v) rfl rfl ?_
          refine V_ld (pc := 50) dX6_sum_50 (v := vi x25) rfl rfl ?_
          refine V_iadd (pc := 52) dX6_sum_52 (by unfold I32 at *; omega) ?_
          refine V_st (pc := 53) dX6_sum_53 (ls' := [(4, vi (v + x25)), (6, vi x25), (5, vi r), (0, vr 9), (1, vi w), (2, vi c), (3, vi row)]) rfl (Nat.le_of_ble_eq_true rfl) rfl ?_
          refine V_iinc (pc := 55) dX6_sum_55 (x := r) (ls' := [(5, vi (r + 1)), (4, vi (v + x25)), (6, vi x25), (0, vr 9), (1, vi w), (2, vi c), (3, vi row)]) rfl (by unfold I32 at *; omega) (Nat.le_of_ble_eq_true rfl) rfl ?_
          refine V_goto (pc := 58) dX6_sum_58 (tgt := 9) rfl ?_
          refine V_ls (ls' := [(5, vi (r + 1)), (4, vi (v + x25)), (0, vr 9), (1, vi w), (2, vi c), (3, vi row)]) (by intro q_ h_; simp only [List.mem_cons, List.not_mem_nil, or_false] at h_ ⊢; rcases h_ with rfl | rfl | rfl | rfl | rfl | rfl <;> simp) ?_
          refine ih (i + 1) (r + 1) (v + x25) (by omega) (by omega) ?_
          have ha_ := a3 r.toNat (by omega)
          have hb_ := a5 (2 * r + c).toNat (by omega)
          show _ = smE e.2.2.1 e.2.2.2.2 w c i (mI m 9 6) + (if e.2.2.1 (mI m 9 6 + (i : Int)).toNat = w ∧ e.2.2.2.2 (2 * (mI m 9 6 + (i : Int)) + c).toNat ≠ 1000 then e.2.2.2.2 (2 * (mI m 9 6 + (i : Int)) + c).toNat else 0)
          rw [← hr, ha_, hb_]
          have he_ : (2 * r + c).toNat = (r * 2 + c).toNat := by omega
          rw [he_]
          first | (rw [if_pos (by omega)]; omega) | (rw [if_neg (by omega)]; omega)

set_option maxHeartbeats 4000000 in
theorem d_sum (e : CEnv) (m : Mem) (w : Int) (c : Int) (row : Int)   (hL : Lay (mT m) (mR m)) (hA : AgC (mI m) row e) (hw : 0 ≤ w) (h01 : 0 ≤ c ∧ c ≤ 1) : Ct μX6_sum 1 [vr 9, vi w, vi c, vi row] m (ri fun x_ m' => (x_ = smE e.2.2.1 e.2.2.2.2 w c (spE e) e.1) ∧ m = m') := by
  refine Ct_of_V rfl (by decide) rfl (Nat.le_of_ble_eq_true rfl) ?_
  show V μX6_sum 1 m _ 0 [(0, vr 9), (1, vi w), (2, vi c), (3, vi row)] [] m
  refine V_rg (k := 1) (x := w) rfl fun r_w => ?_
  refine V_rg (k := 2) (x := c) rfl fun r_c => ?_
  refine V_rg (k := 3) (x := row) rfl fun r_row => ?_
  obtain ⟨a1, a2, a3, a4, a5, a6, a7, a8, a9, a10, a11⟩ := hA
  have hA : AgC (mI m) row e := ⟨a1, a2, a3, a4, a5, a6, a7, a8, a9, a10, a11⟩
  refine V_iconst (pc := 0) dX6_sum_0 (by unfold I32; omega) ?_
  refine V_st (pc := 1) dX6_sum_1 (ls' := [(4, vi 0), (0, vr 9), (1, vi w), (2, vi c), (3, vi row)]) rfl (Nat.le_of_ble_eq_true rfl) rfl ?_
  refine V_ld (pc := 3) dX6_sum_3 (v := vr 9) rfl rfl ?_
  refine V_getIv (pc := 4) dX6_sum_4 (v := mI m 9 6) fw_RX6_73 rfl hL.t9 rfl (fun g4 => ?_)
  refine V_st (pc := 7) dX6_sum_7 (ls' := [(5, vi (mI m 9 6)), (4, vi 0), (0, vr 9), (1, vi w), (2, vi c), (3, vi row)]) rfl (Nat.le_of_ble_eq_true rfl) rfl ?_
  skip
  have hN_ : row = mI m 9 6 + ((spE e : Nat) : Int) - 1 := by
    have h_ : spE e = (e.2.1 - e.1 + 1).toNat := rfl
    omega
  refine L_dsum (m := m) (N := spE e) (e := e) (row := row) hL (by omega) hA hN_ hw h01 ?_ (spE e) 0 (mI m 9 6) 0 (by omega) (by omega) rfl
  rintro r' v' rfl
  refine V_ld (pc := 61) dX6_sum_61 (v := vi (smE e.2.2.1 e.2.2.2.2 w c (spE e) (mI m 9 6))) rfl rfl ?_
  refine V_reti (pc := 63) dX6_sum_63 trivial ?_
  exact ⟨by rw [a1], rfl⟩

set_option maxHeartbeats 4000000 in
theorem L_dear {F : Nat} {m : Mem} {e : CEnv} {row w : Int} (hL : Lay (mT m) (mR m)) (hF : 0 < F) (hA : AgC (mI m) row e) (hw : 0 ≤ w) : ∀ (d : Nat) (r : Int), r + (d : Int) = row + 1 ∧ 0 ≤ r → frE e.2.2.1 w d r = frE e.2.2.1 w (spE e) e.1 → V μX6_earliest F m (ri fun x_ m' => (x_ = frE e.2.2.1 w (spE e) e.1) ∧ m = m') 5 [(3, vi r), (0, vr 9), (1, vi w), (2, vi row)] [] m := by
  obtain ⟨a1, a2, a3, a4, a5, a6, a7, a8, a9, a10, a11⟩ := hA
  intro d
  induction d with
  | zero =>
    intro r hr hv
    refine V_ld (pc := 5) dX6_earliest_5 (v := vi r) rfl rfl ?_
    refine V_ld (pc := 6) dX6_earliest_6 (v := vi row) rfl rfl ?_
    refine V_icmp_gt (pc := 7) dX6_earliest_7 (tgt := 27) rfl (fun h7 => ?_) (fun h7 => ?_)
    · skip
      refine V_iconst (pc := 27) dX6_earliest_27 (by unfold I32; omega) ?_
      refine V_reti (pc := 28) dX6_earliest_28 trivial ?_
      first | (exfalso; omega) | exact ⟨hv, rfl⟩
    · skip
      refine V_ld (pc := 10) dX6_earliest_10 (v := vr 9) rfl rfl ?_
      refine V_ld (pc := 11) dX6_earliest_11 (v := vi r) rfl rfl ?_
      refine V_callV (pc := 12) dX6_earliest_12 (F' := 0) (As := [vi r]) (st := []) cw_RX6_171 rfl rfl hL.t9 (by decide) (Nat.le_of_ble_eq_true rfl) hF (d_letterAt  m r   (by first | assumption | omega)) ?_
      rintro _ _ ⟨x12, rfl, hx12, rfl⟩ ok12 le12
      refine V_ld (pc := 15) dX6_earliest_15 (v := vi w) rfl rfl ?_
      refine V_icmp_ne (pc := 16) dX6_earliest_16 (tgt := 21) rfl (fun h16 => ?_) (fun h16 => ?_)
      · skip
        refine V_iinc (pc := 21) dX6_earliest_21 (x := r) (ls' := [(3, vi (r + 1)), (0, vr 9), (1, vi w), (2, vi row)]) rfl (by unfold I32 at *; omega) (Nat.le_of_ble_eq_true rfl) rfl ?_
        refine V_goto (pc := 24) dX6_earliest_24 (tgt := 5) rfl ?_
        exfalso; omega
      · skip
        refine V_ld (pc := 19) dX6_earliest_19 (v := vi r) rfl rfl ?_
        refine V_reti (pc := 20) dX6_earliest_20 trivial ?_
        first | (exfalso; omega) | exact ⟨hv, rfl⟩
  | succ d ih =>
    intro r hr hv
    have ha_ := a3 r.toNat
    refine V_ld (pc := 5) dX6_earliest_5 (v := vi r) rfl rfl ?_
    refine V_ld (pc := 6) dX6_earliest_6 (v := vi row) rfl rfl ?_
    refine V_icmp_gt (pc := 7) dX6_earliest_7 (tgt := 27) rfl (fun h7 => ?_) (fun h7 => ?_)
    · skip
      refine V_iconst (pc := 27) dX6_earliest_27 (by unfold I32; omega) ?_
      refine V_reti (pc := 28) dX6_earliest_28 trivial ?_
      first
        | (exfalso; omega)
        | (have h_ : frE e.2.2.1 w (d + 1) r = if e.2.2.1 r.toNat = w then r else frE e.2.2.1 w d (r + 1) := rfl
           rw [if_pos (by have h1_ := ha_ (by omega); omega)] at h_
           exact ⟨h_.symm.trans hv, rfl⟩)
    · skip
      refine V_ld (pc := 10) dX6_earliest_10 (v := vr 9) rfl rfl ?_
      refine V_ld (pc := 11) dX6_earliest_11 (v := vi r) rfl rfl ?_
      refine V_callV (pc := 12) dX6_earliest_12 (F' := 0) (As := [vi r]) (st := []) cw_RX6_171 rfl rfl hL.t9 (by decide) (Nat.le_of_ble_eq_true rfl) hF (d_letterAt  m r   (by first | assumption | omega)) ?_
      rintro _ _ ⟨x12, rfl, hx12, rfl⟩ ok12 le12
      refine V_ld (pc := 15) dX6_earliest_15 (v := vi w) rfl rfl ?_
      refine V_icmp_ne (pc := 16) dX6_earliest_16 (tgt := 21) rfl (fun h16 => ?_) (fun h16 => ?_)
      · skip
        refine V_iinc (pc := 21) dX6_earliest_21 (x := r) (ls' := [(3, vi (r + 1)), (0, vr 9), (1, vi w), (2, vi row)]) rfl (by unfold I32 at *; omega) (Nat.le_of_ble_eq_true rfl) rfl ?_
        refine V_goto (pc := 24) dX6_earliest_24 (tgt := 5) rfl ?_
        skip
        have h_ : frE e.2.2.1 w (d + 1) r = if e.2.2.1 r.toNat = w then r else frE e.2.2.1 w d (r + 1) := rfl
        rw [if_neg (by have h1_ := ha_ (by omega); omega)] at h_
        exact ih (r + 1) (by omega) (h_.symm.trans hv)
      · skip
        refine V_ld (pc := 19) dX6_earliest_19 (v := vi r) rfl rfl ?_
        refine V_reti (pc := 20) dX6_earliest_20 trivial ?_
        first
          | (exfalso; omega)
          | (have h_ : frE e.2.2.1 w (d + 1) r = if e.2.2.1 r.toNat = w then r else frE e.2.2.1 w d (r + 1) := rfl
             rw [if_pos (by have h1_ := ha_ (by omega); omega)] at h_
             exact ⟨h_.symm.trans hv, rfl⟩)

set_option maxHeartbeats 4000000 in
theorem d_earliest (e : CEnv) (m : Mem) (w : Int) (row : Int)   (hL : Lay (mT m) (mR m)) (hA : AgC (mI m) row e) (hw : 0 ≤ w) : Ct μX6_earliest 1 [vr 9, vi w, vi row] m (ri fun x_ m' => (x_ = frE e.2.2.1 w (spE e) e.1) ∧ m = m') := by
  refine Ct_of_V rfl (by decide) rfl (Nat.le_of_ble_eq_true rfl) ?_
  show V μX6_earliest 1 m _ 0 [(0, vr 9), (1, vi w), (2, vi row)] [] m
  refine V_rg (k := 1) (x := w) rfl fun r_w => ?_
  refine V_rg (k := 2) (x := row) rfl fun r_row => ?_
  obtain ⟨a1, a2, a3, a4, a5, a6, a7, a8, a9, a10, a11⟩ := hA
  have hA : AgC (mI m) row e := ⟨a1, a2, a3, a4, a5, a6, a7, a8, a9, a10, a11⟩
  refine V_ld (pc := 0) dX6_earliest_0 (v := vr 9) rfl rfl ?_
  refine V_getIv (pc := 1) dX6_earliest_1 (v := mI m 9 6) fw_RX6_73 rfl hL.t9 rfl (fun g1 => ?_)
  refine V_st (pc := 4) dX6_earliest_4 (ls' := [(3, vi (mI m 9 6)), (0, vr 9), (1, vi w), (2, vi row)]) rfl (Nat.le_of_ble_eq_true rfl) rfl ?_
  skip
  have hN_ : row = mI m 9 6 + ((spE e : Nat) : Int) - 1 := by
    have h_ : spE e = (e.2.1 - e.1 + 1).toNat := rfl
    omega
  exact L_dear hL (by omega) hA hw (spE e) (mI m 9 6) (by omega) (by rw [a1])

set_option maxHeartbeats 4000000 in
theorem L_dlat {F : Nat} {m : Mem} {e : CEnv} {row w : Int} (hL : Lay (mT m) (mR m)) (hF : 0 < F) (hA : AgC (mI m) row e) (hw : 0 ≤ w) : ∀ (d : Nat) (r : Int), r + 1 = mI m 9 6 + (d : Int) ∧ r ≤ row → lsE e.2.2.1 w d (mI m 9 6) = lsE e.2.2.1 w (spE e) e.1 → V μX6_latest F m (ri fun x_ m' => (x_ = lsE e.2.2.1 w (spE e) e.1) ∧ m = m') 2 [(3, vi r), (0, vr 9), (1, vi w), (2, vi row)] [] m := by
  obtain ⟨a1, a2, a3, a4, a5, a6, a7, a8, a9, a10, a11⟩ := hA
  intro d
  induction d with
  | zero =>
    intro r hr hv
    refine V_ld (pc := 2) dX6_latest_2 (v := vi r) rfl rfl ?_
    refine V_ld (pc := 3) dX6_latest_3 (v := vr 9) rfl rfl ?_
    refine V_getIv (pc := 4) dX6_latest_4 (v := mI m 9 6) fw_RX6_73 rfl hL.t9 rfl (fun g4 => ?_)
    refine V_icmp_lt (pc := 7) dX6_latest_7 (tgt := 27) rfl (fun h7 => ?_) (fun h7 => ?_)
    · skip
      refine V_iconst (pc := 27) dX6_latest_27 (by unfold I32; omega) ?_
      refine V_reti (pc := 28) dX6_latest_28 trivial ?_
      first | (exfalso; omega) | exact ⟨hv, rfl⟩
    · skip
      refine V_ld (pc := 10) dX6_latest_10 (v := vr 9) rfl rfl ?_
      refine V_ld (pc := 11) dX6_latest_11 (v := vi r) rfl rfl ?_
      refine V_callV (pc := 12) dX6_latest_12 (F' := 0) (As := [vi r]) (st := []) cw_RX6_171 rfl rfl hL.t9 (by decide) (Nat.le_of_ble_eq_true rfl) hF (d_letterAt  m r   (by first | assumption | omega)) ?_
      rintro _ _ ⟨x12, rfl, hx12, rfl⟩ ok12 le12
      refine V_ld (pc := 15) dX6_latest_15 (v := vi w) rfl rfl ?_
      refine V_icmp_ne (pc := 16) dX6_latest_16 (tgt := 21) rfl (fun h16 => ?_) (fun h16 => ?_)
      · skip
        refine V_iinc (pc := 21) dX6_latest_21 (x := r) (ls' := [(3, vi (r + (-1))), (0, vr 9), (1, vi w), (2, vi row)]) rfl (by unfold I32 at *; omega) (Nat.le_of_ble_eq_true rfl) rfl ?_
        refine V_goto (pc := 24) dX6_latest_24 (tgt := 2) rfl ?_
        exfalso; omega
      · skip
        refine V_ld (pc := 19) dX6_latest_19 (v := vi r) rfl rfl ?_
        refine V_reti (pc := 20) dX6_latest_20 trivial ?_
        first | (exfalso; omega) | exact ⟨hv, rfl⟩
  | succ d ih =>
    intro r hr hv
    have ha_ := a3 r.toNat
    refine V_ld (pc := 2) dX6_latest_2 (v := vi r) rfl rfl ?_
    refine V_ld (pc := 3) dX6_latest_3 (v := vr 9) rfl rfl ?_
    refine V_getIv (pc := 4) dX6_latest_4 (v := mI m 9 6) fw_RX6_73 rfl hL.t9 rfl (fun g4 => ?_)
    refine V_icmp_lt (pc := 7) dX6_latest_7 (tgt := 27) rfl (fun h7 => ?_) (fun h7 => ?_)
    · skip
      refine V_iconst (pc := 27) dX6_latest_27 (by unfold I32; omega) ?_
      refine V_reti (pc := 28) dX6_latest_28 trivial ?_
      first
        | (exfalso; omega)
        | (have h_ : lsE e.2.2.1 w (d + 1) (mI m 9 6) = if e.2.2.1 (mI m 9 6 + (d : Int)).toNat = w then mI m 9 6 + (d : Int) else lsE e.2.2.1 w d (mI m 9 6) := rfl
           rw [show mI m 9 6 + (d : Int) = r from by omega, if_pos (by have h1_ := ha_ (by omega); omega)] at h_
           exact ⟨h_.symm.trans hv, rfl⟩)
    · skip
      refine V_ld (pc := 10) dX6_latest_10 (v := vr 9) rfl rfl ?_
      refine V_ld (pc := 11) dX6_latest_11 (v := vi r) rfl rfl ?_
      refine V_callV (pc := 12) dX6_latest_12 (F' := 0) (As := [vi r]) (st := []) cw_RX6_171 rfl rfl hL.t9 (by decide) (Nat.le_of_ble_eq_true rfl) hF (d_letterAt  m r   (by first | assumption | omega)) ?_
      rintro _ _ ⟨x12, rfl, hx12, rfl⟩ ok12 le12
      refine V_ld (pc := 15) dX6_latest_15 (v := vi w) rfl rfl ?_
      refine V_icmp_ne (pc := 16) dX6_latest_16 (tgt := 21) rfl (fun h16 => ?_) (fun h16 => ?_)
      · skip
        refine V_iinc (pc := 21) dX6_latest_21 (x := r) (ls' := [(3, vi (r + (-1))), (0, vr 9), (1, vi w), (2, vi row)]) rfl (by unfold I32 at *; omega) (Nat.le_of_ble_eq_true rfl) rfl ?_
        refine V_goto (pc := 24) dX6_latest_24 (tgt := 2) rfl ?_
        skip
        have h_ : lsE e.2.2.1 w (d + 1) (mI m 9 6) = if e.2.2.1 (mI m 9 6 + (d : Int)).toNat = w then mI m 9 6 + (d : Int) else lsE e.2.2.1 w d (mI m 9 6) := rfl
        rw [show mI m 9 6 + (d : Int) = r from by omega, if_neg (by have h1_ := ha_ (by omega); omega)] at h_
        exact ih (r + (-1)) (by omega) (h_.symm.trans hv)
      · skip
        refine V_ld (pc := 19) dX6_latest_19 (v := vi r) rfl rfl ?_
        refine V_reti (pc := 20) dX6_latest_20 trivial ?_
        first
          | (exfalso; omega)
          | (have h_ : lsE e.2.2.1 w (d + 1) (mI m 9 6) = if e.2.2.1 (mI m 9 6 + (d : Int)).toNat = w then mI m 9 6 + (d : Int) else lsE e.2.2.1 w d (mI m 9 6) := rfl
             rw [show mI m 9 6 + (d : Int) = r from by omega, if_pos (by have h1_ := ha_ (by omega); omega)] at h_
             exact ⟨h_.symm.trans hv, rfl⟩)

set_option maxHeartbeats 4000000 in
theorem d_latest (e : CEnv) (m : Mem) (w : Int) (row : Int)   (hL : Lay (mT m) (mR m)) (hA : AgC (mI m) row e) (hw : 0 ≤ w) : Ct μX6_latest 1 [vr 9, vi w, vi row] m (ri fun x_ m' => (x_ = lsE e.2.2.1 w (spE e) e.1) ∧ m = m') := by
  refine Ct_of_V rfl (by decide) rfl (Nat.le_of_ble_eq_true rfl) ?_
  show V μX6_latest 1 m _ 0 [(0, vr 9), (1, vi w), (2, vi row)] [] m
  refine V_rg (k := 1) (x := w) rfl fun r_w => ?_
  refine V_rg (k := 2) (x := row) rfl fun r_row => ?_
  obtain ⟨a1, a2, a3, a4, a5, a6, a7, a8, a9, a10, a11⟩ := hA
  have hA : AgC (mI m) row e := ⟨a1, a2, a3, a4, a5, a6, a7, a8, a9, a10, a11⟩
  refine V_ld (pc := 0) dX6_latest_0 (v := vi row) rfl rfl ?_
  refine V_st (pc := 1) dX6_latest_1 (ls' := [(3, vi row), (0, vr 9), (1, vi w), (2, vi row)]) rfl (Nat.le_of_ble_eq_true rfl) rfl ?_
  skip
  have hN_ : row = mI m 9 6 + ((spE e : Nat) : Int) - 1 := by
    have h_ : spE e = (e.2.1 - e.1 + 1).toNat := rfl
    omega
  exact L_dlat hL (by omega) hA hw (spE e) row (by omega) (by rw [a1])

set_option maxHeartbeats 8000000 in
theorem d_value (e : CEnv) (k : Int) (d : Int) (m : Mem) (op : Int) (row : Int)   (hL : Lay (mT m) (mR m)) (hA : AgC (mI m) row e) (hk : KD k d ∧ op = opc k d) : Ct μX0_value 2 [vi op, vr 9, vi row] m (ri fun x_ m' => ((valC e k d = none ∧ x_ = -2147483648) ∨ (valC e k d = some x_ ∧ x_ ≠ -2147483648)) ∧ m = m') := by
  refine Ct_of_V rfl (by decide) rfl (Nat.le_of_ble_eq_true rfl) ?_
  show V μX0_value 2 m _ 0 [(0, vi op), (1, vr 9), (2, vi row)] [] m
  refine V_rg (k := 0) (x := op) rfl fun r_op => ?_
  refine V_rg (k := 2) (x := row) rfl fun r_row => ?_
  obtain ⟨a1, a2, a3, a4, a5, a6, a7, a8, a9, a10, a11⟩ := hA
  have hA : AgC (mI m) row e := ⟨a1, a2, a3, a4, a5, a6, a7, a8, a9, a10, a11⟩
  refine V_ld (pc := 0) dX0_value_0 (v := vi op) rfl rfl ?_
  refine V_bipush (pc := 1) dX0_value_1 (by unfold I32; omega) (by decide) ?_
  refine V_ishr (pc := 3) dX0_value_3 ?_
  refine V_st (pc := 4) dX0_value_4 (ls' := [(3, vi (shr32 op 12)), (0, vi op), (1, vr 9), (2, vi row)]) rfl (Nat.le_of_ble_eq_true rfl) rfl ?_
  refine V_ld (pc := 5) dX0_value_5 (v := vi op) rfl rfl ?_
  refine V_sipush (pc := 6) dX0_value_6 (by unfold I32; omega) (by decide) ?_
  refine V_iand (pc := 9) dX0_value_9 ?_
  refine V_st (pc := 10) dX0_value_10 (ls' := [(4, vi (and32 op 4095)), (3, vi (shr32 op 12)), (0, vi op), (1, vr 9), (2, vi row)]) rfl (Nat.le_of_ble_eq_true rfl) rfl ?_
  have hkk : shr32 op 12 = k := by rw [hk.2, opc_eq (by unfold KD at hk; omega) (by unfold KD at hk; omega), shr12 (by unfold KD at hk; omega)]; unfold KD at hk; omega
  have hdd : and32 op 4095 = d := by rw [hk.2, opc_eq (by unfold KD at hk; omega) (by unfold KD at hk; omega), and4095 (by unfold KD at hk; omega)]; unfold KD at hk; omega
  rw [hkk, hdd]
  have hkd := hk.1
  unfold KD at hkd
  refine V_ld (pc := 12) dX0_value_12 (v := vr 9) rfl rfl ?_
  refine V_getRv (pc := 13) dX0_value_13 (o' := 1) fw_RX0_28 rfl hL.t9 hL.r9_0 ?_
  refine V_getRv (pc := 16) dX0_value_16 (o' := 2) fw_RX0_34 rfl hL.t1 hL.r1_0 ?_
  refine V_st (pc := 19) dX0_value_19 (ls' := [(5, vr 2), (4, vi d), (3, vi k), (0, vi op), (1, vr 9), (2, vi row)]) rfl (Nat.le_of_ble_eq_true rfl) rfl ?_
  refine V_ld (pc := 21) dX0_value_21 (v := vi k) rfl rfl ?_
  by_cases h22_48 : k = 48
  · skip
    refine V_lsw (pc := 22) dX0_value_22 (off := 66) (tgt := 88) (by decide) (by rw [h22_48]; decide) rfl ?_
    refine V_ld (pc := 88) dX0_value_88 (v := vi d) rfl rfl ?_
    refine V_sipush (pc := 90) dX0_value_90 (by unfold I32; omega) (by decide) ?_
    refine V_isub (pc := 93) dX0_value_93 (by unfold I32 at *; omega) ?_
    refine V_reti (pc := 94) dX0_value_94 trivial ?_
    refine ⟨Or.inr ⟨?_, by omega⟩, rfl⟩
    rw [h22_48, valC_48]
  by_cases h22_102 : k = 102
  · skip
    refine V_lsw (pc := 22) dX0_value_22 (off := 116) (tgt := 138) (by decide) (by rw [h22_102]; decide) rfl ?_
    refine V_ld (pc := 138) dX0_value_138 (v := vr 2) rfl rfl ?_
    refine V_ld (pc := 140) dX0_value_140 (v := vr 9) rfl rfl ?_
    refine V_ld (pc := 141) dX0_value_141 (v := vi d) rfl rfl ?_
    refine V_iconst (pc := 143) dX0_value_143 (by unfold I32; omega) ?_
    refine V_idiv (pc := 144) dX0_value_144 (by omega) (by omega) ?_
    refine V_ld (pc := 145) dX0_value_145 (v := vi row) rfl rfl ?_
    refine V_callV (pc := 146) dX0_value_146 (F' := 1) (As := [vi (d / 2), vi row]) (st := [vr 2]) cw_RX0_46 rfl rfl hL.t9 (by decide) (Nat.le_of_ble_eq_true rfl) (by omega) (d_earliest e m (d / 2) row   (by first | assumption | omega) hA (by omega)) ?_
    rintro _ _ ⟨x146, rfl, hx146, rfl⟩ ok146 le146
    refine V_ld (pc := 149) dX0_value_149 (v := vi d) rfl rfl ?_
    refine V_iconst (pc := 151) dX0_value_151 (by unfold I32; omega) ?_
    refine V_irem (pc := 152) dX0_value_152 (by omega) (by omega) ?_
    refine V_callV (pc := 153) dX0_value_153 (F' := 0) (As := [vi x146, vi (d % 2)]) (st := []) cw_RX0_40 rfl rfl hL.t2 (by decide) (Nat.le_of_ble_eq_true rfl) (by omega) (c_number  m 2 x146 (d % 2) 3  hL.t2 hL.r2_0 hL.t3) ?_
    rintro _ _ ⟨x153, rfl, hx153, rfl⟩ ok153 le153
    refine V_st (pc := 156) dX0_value_156 (ls' := [(6, vi x153), (5, vr 2), (4, vi d), (3, vi k), (0, vi op), (1, vr 9), (2, vi row)]) rfl (Nat.le_of_ble_eq_true rfl) rfl ?_
    refine V_goto (pc := 158) dX0_value_158 (tgt := 208) rfl ?_
    refine V_ld (pc := 208) dX0_value_208 (v := vi x153) rfl rfl ?_
    refine V_sipush (pc := 210) dX0_value_210 (by unfold I32; omega) (by decide) ?_
    refine V_icmp_ne (pc := 213) dX0_value_213 (tgt := 221) rfl (fun h213 => ?_) (fun h213 => ?_)
    · skip
      refine V_ld (pc := 221) dX0_value_221 (v := vi x153) rfl rfl ?_
      refine V_reti (pc := 223) dX0_value_223 trivial ?_
      have hce_ := hA.cell (r := x146) (c := d % 2) (by omega) hx153
      refine ⟨?_, rfl⟩
      rw [h22_102, valC_102, ← hx146]
      first
        | (have h_ := hce_.resolve_right (fun z => by omega)
           exact Or.inl ⟨h_.1, by omega⟩)
        | (have h_ := hce_.resolve_left (fun z => by omega)
           exact Or.inr ⟨h_.1, by omega⟩)
    · skip
      refine V_ldc (pc := 216) dX0_value_216 (x := (-2147483648)) kc_RX0_27 (by unfold I32; omega) rfl ?_
      refine V_goto (pc := 218) dX0_value_218 (tgt := 223) rfl ?_
      refine V_reti (pc := 223) dX0_value_223 trivial ?_
      have hce_ := hA.cell (r := x146) (c := d % 2) (by omega) hx153
      refine ⟨?_, rfl⟩
      rw [h22_102, valC_102, ← hx146]
      first
        | (have h_ := hce_.resolve_right (fun z => by omega)
           exact Or.inl ⟨h_.1, by omega⟩)
        | (have h_ := hce_.resolve_left (fun z => by omega)
           exact Or.inr ⟨h_.1, by omega⟩)
  by_cases h22_108 : k = 108
  · skip
    refine V_lsw (pc := 22) dX0_value_22 (off := 139) (tgt := 161) (by decide) (by rw [h22_108]; decide) rfl ?_
    refine V_ld (pc := 161) dX0_value_161 (v := vr 2) rfl rfl ?_
    refine V_ld (pc := 163) dX0_value_163 (v := vr 9) rfl rfl ?_
    refine V_ld (pc := 164) dX0_value_164 (v := vi d) rfl rfl ?_
    refine V_iconst (pc := 166) dX0_value_166 (by unfold I32; omega) ?_
    refine V_idiv (pc := 167) dX0_value_167 (by omega) (by omega) ?_
    refine V_ld (pc := 168) dX0_value_168 (v := vi row) rfl rfl ?_
    refine V_callV (pc := 169) dX0_value_169 (F' := 1) (As := [vi (d / 2), vi row]) (st := [vr 2]) cw_RX0_49 rfl rfl hL.t9 (by decide) (Nat.le_of_ble_eq_true rfl) (by omega) (d_latest e m (d / 2) row   (by first | assumption | omega) hA (by omega)) ?_
    rintro _ _ ⟨x169, rfl, hx169, rfl⟩ ok169 le169
    refine V_ld (pc := 172) dX0_value_172 (v := vi d) rfl rfl ?_
    refine V_iconst (pc := 174) dX0_value_174 (by unfold I32; omega) ?_
    refine V_irem (pc := 175) dX0_value_175 (by omega) (by omega) ?_
    refine V_callV (pc := 176) dX0_value_176 (F' := 0) (As := [vi x169, vi (d % 2)]) (st := []) cw_RX0_40 rfl rfl hL.t2 (by decide) (Nat.le_of_ble_eq_true rfl) (by omega) (c_number  m 2 x169 (d % 2) 3  hL.t2 hL.r2_0 hL.t3) ?_
    rintro _ _ ⟨x176, rfl, hx176, rfl⟩ ok176 le176
    refine V_st (pc := 179) dX0_value_179 (ls' := [(6, vi x176), (5, vr 2), (4, vi d), (3, vi k), (0, vi op), (1, vr 9), (2, vi row)]) rfl (Nat.le_of_ble_eq_true rfl) rfl ?_
    refine V_goto (pc := 181) dX0_value_181 (tgt := 208) rfl ?_
    refine V_ld (pc := 208) dX0_value_208 (v := vi x176) rfl rfl ?_
    refine V_sipush (pc := 210) dX0_value_210 (by unfold I32; omega) (by decide) ?_
    refine V_icmp_ne (pc := 213) dX0_value_213 (tgt := 221) rfl (fun h213 => ?_) (fun h213 => ?_)
    · skip
      refine V_ld (pc := 221) dX0_value_221 (v := vi x176) rfl rfl ?_
      refine V_reti (pc := 223) dX0_value_223 trivial ?_
      have hce_ := hA.cell (r := x169) (c := d % 2) (by omega) hx176
      refine ⟨?_, rfl⟩
      rw [h22_108, valC_108, ← hx169]
      first
        | (have h_ := hce_.resolve_right (fun z => by omega)
           exact Or.inl ⟨h_.1, by omega⟩)
        | (have h_ := hce_.resolve_left (fun z => by omega)
           exact Or.inr ⟨h_.1, by omega⟩)
    · skip
      refine V_ldc (pc := 216) dX0_value_216 (x := (-2147483648)) kc_RX0_27 (by unfold I32; omega) rfl ?_
      refine V_goto (pc := 218) dX0_value_218 (tgt := 223) rfl ?_
      refine V_reti (pc := 223) dX0_value_223 trivial ?_
      have hce_ := hA.cell (r := x169) (c := d % 2) (by omega) hx176
      refine ⟨?_, rfl⟩
      rw [h22_108, valC_108, ← hx169]
      first
        | (have h_ := hce_.resolve_right (fun z => by omega)
           exact Or.inl ⟨h_.1, by omega⟩)
        | (have h_ := hce_.resolve_left (fun z => by omega)
           exact Or.inr ⟨h_.1, by omega⟩)
  by_cases h22_110 : k = 110
  · skip
    refine V_lsw (pc := 22) dX0_value_22 (off := 101) (tgt := 123) (by decide) (by rw [h22_110]; decide) rfl ?_
    refine V_ld (pc := 123) dX0_value_123 (v := vr 2) rfl rfl ?_
    refine V_ld (pc := 125) dX0_value_125 (v := vi row) rfl rfl ?_
    refine V_iconst (pc := 126) dX0_value_126 (by unfold I32; omega) ?_
    refine V_iadd (pc := 127) dX0_value_127 (by unfold I32 at *; omega) ?_
    refine V_ld (pc := 128) dX0_value_128 (v := vi d) rfl rfl ?_
    refine V_callV (pc := 130) dX0_value_130 (F' := 0) (As := [vi (row + 1), vi d]) (st := []) cw_RX0_40 rfl rfl hL.t2 (by decide) (Nat.le_of_ble_eq_true rfl) (by omega) (c_number  m 2 (row + 1) d 3  hL.t2 hL.r2_0 hL.t3) ?_
    rintro _ _ ⟨x130, rfl, hx130, rfl⟩ ok130 le130
    refine V_st (pc := 133) dX0_value_133 (ls' := [(6, vi x130), (5, vr 2), (4, vi d), (3, vi k), (0, vi op), (1, vr 9), (2, vi row)]) rfl (Nat.le_of_ble_eq_true rfl) rfl ?_
    refine V_goto (pc := 135) dX0_value_135 (tgt := 208) rfl ?_
    refine V_ld (pc := 208) dX0_value_208 (v := vi x130) rfl rfl ?_
    refine V_sipush (pc := 210) dX0_value_210 (by unfold I32; omega) (by decide) ?_
    refine V_icmp_ne (pc := 213) dX0_value_213 (tgt := 221) rfl (fun h213 => ?_) (fun h213 => ?_)
    · skip
      refine V_ld (pc := 221) dX0_value_221 (v := vi x130) rfl rfl ?_
      refine V_reti (pc := 223) dX0_value_223 trivial ?_
      have hce_ := hA.cell (r := row + 1) (c := d) (by omega) hx130
      refine ⟨?_, rfl⟩
      rw [h22_110, valC_110, a2]
      first
        | (have h_ := hce_.resolve_right (fun z => by omega)
           exact Or.inl ⟨h_.1, by omega⟩)
        | (have h_ := hce_.resolve_left (fun z => by omega)
           exact Or.inr ⟨h_.1, by omega⟩)
    · skip
      refine V_ldc (pc := 216) dX0_value_216 (x := (-2147483648)) kc_RX0_27 (by unfold I32; omega) rfl ?_
      refine V_goto (pc := 218) dX0_value_218 (tgt := 223) rfl ?_
      refine V_reti (pc := 223) dX0_value_223 trivial ?_
      have hce_ := hA.cell (r := row + 1) (c := d) (by omega) hx130
      refine ⟨?_, rfl⟩
      rw [h22_110, valC_110, a2]
      first
        | (have h_ := hce_.resolve_right (fun z => by omega)
           exact Or.inl ⟨h_.1, by omega⟩)
        | (have h_ := hce_.resolve_left (fun z => by omega)
           exact Or.inr ⟨h_.1, by omega⟩)
  by_cases h22_112 : k = 112
  · skip
    refine V_lsw (pc := 22) dX0_value_22 (off := 86) (tgt := 108) (by decide) (by rw [h22_112]; decide) rfl ?_
    refine V_ld (pc := 108) dX0_value_108 (v := vr 2) rfl rfl ?_
    refine V_ld (pc := 110) dX0_value_110 (v := vi row) rfl rfl ?_
    refine V_iconst (pc := 111) dX0_value_111 (by unfold I32; omega) ?_
    refine V_isub (pc := 112) dX0_value_112 (by unfold I32 at *; omega) ?_
    refine V_ld (pc := 113) dX0_value_113 (v := vi d) rfl rfl ?_
    refine V_callV (pc := 115) dX0_value_115 (F' := 0) (As := [vi (row - 1), vi d]) (st := []) cw_RX0_40 rfl rfl hL.t2 (by decide) (Nat.le_of_ble_eq_true rfl) (by omega) (c_number  m 2 (row - 1) d 3  hL.t2 hL.r2_0 hL.t3) ?_
    rintro _ _ ⟨x115, rfl, hx115, rfl⟩ ok115 le115
    refine V_st (pc := 118) dX0_value_118 (ls' := [(6, vi x115), (5, vr 2), (4, vi d), (3, vi k), (0, vi op), (1, vr 9), (2, vi row)]) rfl (Nat.le_of_ble_eq_true rfl) rfl ?_
    refine V_goto (pc := 120) dX0_value_120 (tgt := 208) rfl ?_
    refine V_ld (pc := 208) dX0_value_208 (v := vi x115) rfl rfl ?_
    refine V_sipush (pc := 210) dX0_value_210 (by unfold I32; omega) (by decide) ?_
    refine V_icmp_ne (pc := 213) dX0_value_213 (tgt := 221) rfl (fun h213 => ?_) (fun h213 => ?_)
    · skip
      refine V_ld (pc := 221) dX0_value_221 (v := vi x115) rfl rfl ?_
      refine V_reti (pc := 223) dX0_value_223 trivial ?_
      have hce_ := hA.cell (r := row - 1) (c := d) (by omega) hx115
      refine ⟨?_, rfl⟩
      rw [h22_112, valC_112, a2]
      first
        | (have h_ := hce_.resolve_right (fun z => by omega)
           exact Or.inl ⟨h_.1, by omega⟩)
        | (have h_ := hce_.resolve_left (fun z => by omega)
           exact Or.inr ⟨h_.1, by omega⟩)
    · skip
      refine V_ldc (pc := 216) dX0_value_216 (x := (-2147483648)) kc_RX0_27 (by unfold I32; omega) rfl ?_
      refine V_goto (pc := 218) dX0_value_218 (tgt := 223) rfl ?_
      refine V_reti (pc := 223) dX0_value_223 trivial ?_
      have hce_ := hA.cell (r := row - 1) (c := d) (by omega) hx115
      refine ⟨?_, rfl⟩
      rw [h22_112, valC_112, a2]
      first
        | (have h_ := hce_.resolve_right (fun z => by omega)
           exact Or.inl ⟨h_.1, by omega⟩)
        | (have h_ := hce_.resolve_left (fun z => by omega)
           exact Or.inr ⟨h_.1, by omega⟩)
  by_cases h22_115 : k = 115
  · skip
    refine V_lsw (pc := 22) dX0_value_22 (off := 162) (tgt := 184) (by decide) (by rw [h22_115]; decide) rfl ?_
    refine V_ld (pc := 184) dX0_value_184 (v := vr 9) rfl rfl ?_
    refine V_ld (pc := 185) dX0_value_185 (v := vi d) rfl rfl ?_
    refine V_iconst (pc := 187) dX0_value_187 (by unfold I32; omega) ?_
    refine V_idiv (pc := 188) dX0_value_188 (by omega) (by omega) ?_
    refine V_ld (pc := 189) dX0_value_189 (v := vi d) rfl rfl ?_
    refine V_iconst (pc := 191) dX0_value_191 (by unfold I32; omega) ?_
    refine V_irem (pc := 192) dX0_value_192 (by omega) (by omega) ?_
    refine V_ld (pc := 193) dX0_value_193 (v := vi row) rfl rfl ?_
    refine V_callV (pc := 194) dX0_value_194 (F' := 1) (As := [vi (d / 2), vi (d % 2), vi row]) (st := []) cw_RX0_52 rfl rfl hL.t9 (by decide) (Nat.le_of_ble_eq_true rfl) (by omega) (d_sum e m (d / 2) (d % 2) row   (by first | assumption | omega) hA (by omega) (by omega)) ?_
    rintro _ _ ⟨x194, rfl, hx194, rfl⟩ ok194 le194
    refine V_reti (pc := 197) dX0_value_197 trivial ?_
    have hsb_ := smE_b e.2.2.1 e.2.2.2.2 (d / 2) (d % 2) e.1 (fun k hk => by rw [a5 k hk]; exact a11 k hk) (by omega) (by omega) (spE e) (by have h_ : spE e = (e.2.1 - e.1 + 1).toNat := rfl; omega)
    have hsp_ : spE e = (e.2.1 - e.1 + 1).toNat := rfl
    rw [← hx194] at hsb_
    refine ⟨Or.inr ⟨?_, by omega⟩, rfl⟩
    rw [h22_115, valC_115, hx194]
  by_cases h22_120 : k = 120
  · skip
    refine V_lsw (pc := 22) dX0_value_22 (off := 73) (tgt := 95) (by decide) (by rw [h22_120]; decide) rfl ?_
    refine V_ld (pc := 95) dX0_value_95 (v := vr 2) rfl rfl ?_
    refine V_ld (pc := 97) dX0_value_97 (v := vi row) rfl rfl ?_
    refine V_ld (pc := 98) dX0_value_98 (v := vi d) rfl rfl ?_
    refine V_callV (pc := 100) dX0_value_100 (F' := 0) (As := [vi row, vi d]) (st := []) cw_RX0_40 rfl rfl hL.t2 (by decide) (Nat.le_of_ble_eq_true rfl) (by omega) (c_number  m 2 row d 3  hL.t2 hL.r2_0 hL.t3) ?_
    rintro _ _ ⟨x100, rfl, hx100, rfl⟩ ok100 le100
    refine V_st (pc := 103) dX0_value_103 (ls' := [(6, vi x100), (5, vr 2), (4, vi d), (3, vi k), (0, vi op), (1, vr 9), (2, vi row)]) rfl (Nat.le_of_ble_eq_true rfl) rfl ?_
    refine V_goto (pc := 105) dX0_value_105 (tgt := 208) rfl ?_
    refine V_ld (pc := 208) dX0_value_208 (v := vi x100) rfl rfl ?_
    refine V_sipush (pc := 210) dX0_value_210 (by unfold I32; omega) (by decide) ?_
    refine V_icmp_ne (pc := 213) dX0_value_213 (tgt := 221) rfl (fun h213 => ?_) (fun h213 => ?_)
    · skip
      refine V_ld (pc := 221) dX0_value_221 (v := vi x100) rfl rfl ?_
      refine V_reti (pc := 223) dX0_value_223 trivial ?_
      have hce_ := hA.cell (r := row) (c := d) (by omega) hx100
      refine ⟨?_, rfl⟩
      rw [h22_120, valC_120, a2]
      first
        | (have h_ := hce_.resolve_right (fun z => by omega)
           exact Or.inl ⟨h_.1, by omega⟩)
        | (have h_ := hce_.resolve_left (fun z => by omega)
           exact Or.inr ⟨h_.1, by omega⟩)
    · skip
      refine V_ldc (pc := 216) dX0_value_216 (x := (-2147483648)) kc_RX0_27 (by unfold I32; omega) rfl ?_
      refine V_goto (pc := 218) dX0_value_218 (tgt := 223) rfl ?_
      refine V_reti (pc := 223) dX0_value_223 trivial ?_
      have hce_ := hA.cell (r := row) (c := d) (by omega) hx100
      refine ⟨?_, rfl⟩
      rw [h22_120, valC_120, a2]
      first
        | (have h_ := hce_.resolve_right (fun z => by omega)
           exact Or.inl ⟨h_.1, by omega⟩)
        | (have h_ := hce_.resolve_left (fun z => by omega)
           exact Or.inr ⟨h_.1, by omega⟩)
  refine V_lsw (pc := 22) dX0_value_22 (off := 176) (tgt := 198) (by decide) (by simp [Op.lookupswitch.offset, List.find?, Ne.symm h22_48, h22_48, Ne.symm h22_102, h22_102, Ne.symm h22_108, h22_108, Ne.symm h22_110, h22_110, Ne.symm h22_112, h22_112, Ne.symm h22_115, h22_115, Ne.symm h22_120, h22_120]) rfl ?_
  refine V_ld (pc := 198) dX0_value_198 (v := vr 9) rfl rfl ?_
  refine V_ld (pc := 199) dX0_value_199 (v := vi d) rfl rfl ?_
  refine V_iconst (pc := 201) dX0_value_201 (by unfold I32; omega) ?_
  refine V_idiv (pc := 202) dX0_value_202 (by omega) (by omega) ?_
  refine V_ld (pc := 203) dX0_value_203 (v := vi row) rfl rfl ?_
  refine V_callV (pc := 204) dX0_value_204 (F' := 1) (As := [vi (d / 2), vi row]) (st := []) cw_RX0_56 rfl rfl hL.t9 (by decide) (Nat.le_of_ble_eq_true rfl) (by omega) (d_count e m (d / 2) row   (by first | assumption | omega) hA (by omega)) ?_
  rintro _ _ ⟨x204, rfl, hx204, rfl⟩ ok204 le204
  refine V_reti (pc := 207) dX0_value_207 trivial ?_
  have hcb_ := cnE_b e.2.2.1 (d / 2) e.1 (spE e)
  rw [← hx204] at hcb_
  refine ⟨Or.inr ⟨?_, by omega⟩, rfl⟩
  rw [show k = 99 from by omega, valC_99, hx204]

theorem cmpB_ss {sg a b : Int} : cmpB sg (some a) (some b) = (if sg = 60 then decide (a < b) else if sg = 61 then decide (a = b) else decide (b < a)) := rfl
theorem bI_dec (p : Prop) [Decidable p] : bI (decide p) = if p then 1 else 0 := by
  by_cases h : p
  · simp [bI, h]
  · simp [bI, h]
theorem cmpB_n1 {sg : Int} {b : Option Int} : cmpB sg none b = false := rfl
theorem cmpB_n2 {sg : Int} {a : Option Int} : cmpB sg a none = false := by cases a <;> rfl

set_option maxHeartbeats 4000000 in
theorem d_compared (va : Option Int) (vb : Option Int) (m : Mem) (a : Int) (sg : Int) (b : Int)   (hva : (va = none ∧ a = -2147483648) ∨ (va = some a ∧ a ≠ -2147483648)) (hvb : (vb = none ∧ b = -2147483648) ∨ (vb = some b ∧ b ≠ -2147483648)) : Ct μX0_compared 0 [vi a, vi sg, vi b] m (ri fun x_ m' => (x_ = bI (cmpB sg va vb)) ∧ m = m') := by
  refine Ct_of_V rfl (by decide) rfl (Nat.le_of_ble_eq_true rfl) ?_
  show V μX0_compared 0 m _ 0 [(0, vi a), (1, vi sg), (2, vi b)] [] m
  refine V_rg (k := 0) (x := a) rfl fun r_a => ?_
  refine V_rg (k := 1) (x := sg) rfl fun r_sg => ?_
  refine V_rg (k := 2) (x := b) rfl fun r_b => ?_
  refine V_ld (pc := 0) dX0_compared_0 (v := vi a) rfl rfl ?_
  refine V_ldc (pc := 1) dX0_compared_1 (x := (-2147483648)) kc_RX0_27 (by unfold I32; omega) rfl ?_
  refine V_icmp_eq (pc := 3) dX0_compared_3 (tgt := 12) rfl (fun h3 => ?_) (fun h3 => ?_)
  · skip
    refine V_iconst (pc := 12) dX0_compared_12 (by unfold I32; omega) ?_
    refine V_reti (pc := 13) dX0_compared_13 (show _ = (0 : Int) ∨ _ = (1 : Int) from by first | exact Or.inl rfl | exact Or.inr rfl | omega) ?_
    refine ⟨?_, rfl⟩
    rcases hva with h1_ | h1_
    · rw [h1_.1, cmpB_n1]; rfl
    · rcases hvb with h2_ | h2_
      · rw [h2_.1, cmpB_n2]; rfl
      · exfalso; omega
  · skip
    refine V_ld (pc := 6) dX0_compared_6 (v := vi b) rfl rfl ?_
    refine V_ldc (pc := 7) dX0_compared_7 (x := (-2147483648)) kc_RX0_27 (by unfold I32; omega) rfl ?_
    refine V_icmp_ne (pc := 9) dX0_compared_9 (tgt := 14) rfl (fun h9 => ?_) (fun h9 => ?_)
    · skip
      refine V_ld (pc := 14) dX0_compared_14 (v := vi sg) rfl rfl ?_
      refine V_bipush (pc := 15) dX0_compared_15 (by unfold I32; omega) (by decide) ?_
      refine V_icmp_ne (pc := 17) dX0_compared_17 (tgt := 33) rfl (fun h17 => ?_) (fun h17 => ?_)
      · skip
        refine V_ld (pc := 33) dX0_compared_33 (v := vi sg) rfl rfl ?_
        refine V_bipush (pc := 34) dX0_compared_34 (by unfold I32; omega) (by decide) ?_
        refine V_icmp_ne (pc := 36) dX0_compared_36 (tgt := 52) rfl (fun h36 => ?_) (fun h36 => ?_)
        · skip
          refine V_ld (pc := 52) dX0_compared_52 (v := vi a) rfl rfl ?_
          refine V_ld (pc := 53) dX0_compared_53 (v := vi b) rfl rfl ?_
          refine V_icmp_le (pc := 54) dX0_compared_54 (tgt := 61) rfl (fun h54 => ?_) (fun h54 => ?_)
          · skip
            refine V_iconst (pc := 61) dX0_compared_61 (by unfold I32; omega) ?_
            refine V_reti (pc := 62) dX0_compared_62 (show _ = (0 : Int) ∨ _ = (1 : Int) from by first | exact Or.inl rfl | exact Or.inr rfl | omega) ?_
            refine ⟨?_, rfl⟩
            have h1_ := hva.resolve_left (fun z => by omega)
            have h2_ := hvb.resolve_left (fun z => by omega)
            rw [h1_.1, h2_.1, cmpB_ss]
            first
              | (rw [if_pos (by omega), bI_dec]; omega)
              | (rw [if_neg (by omega), if_pos (by omega), bI_dec]; omega)
              | (rw [if_neg (by omega), if_neg (by omega), bI_dec]; omega)
          · skip
            refine V_iconst (pc := 57) dX0_compared_57 (by unfold I32; omega) ?_
            refine V_goto (pc := 58) dX0_compared_58 (tgt := 62) rfl ?_
            refine V_reti (pc := 62) dX0_compared_62 (show _ = (0 : Int) ∨ _ = (1 : Int) from by first | exact Or.inl rfl | exact Or.inr rfl | omega) ?_
            refine ⟨?_, rfl⟩
            have h1_ := hva.resolve_left (fun z => by omega)
            have h2_ := hvb.resolve_left (fun z => by omega)
            rw [h1_.1, h2_.1, cmpB_ss]
            first
              | (rw [if_pos (by omega), bI_dec]; omega)
              | (rw [if_neg (by omega), if_pos (by omega), bI_dec]; omega)
              | (rw [if_neg (by omega), if_neg (by omega), bI_dec]; omega)
        · skip
          refine V_ld (pc := 39) dX0_compared_39 (v := vi a) rfl rfl ?_
          refine V_ld (pc := 40) dX0_compared_40 (v := vi b) rfl rfl ?_
          refine V_icmp_ne (pc := 41) dX0_compared_41 (tgt := 48) rfl (fun h41 => ?_) (fun h41 => ?_)
          · skip
            refine V_iconst (pc := 48) dX0_compared_48 (by unfold I32; omega) ?_
            refine V_goto (pc := 49) dX0_compared_49 (tgt := 62) rfl ?_
            refine V_reti (pc := 62) dX0_compared_62 (show _ = (0 : Int) ∨ _ = (1 : Int) from by first | exact Or.inl rfl | exact Or.inr rfl | omega) ?_
            refine ⟨?_, rfl⟩
            have h1_ := hva.resolve_left (fun z => by omega)
            have h2_ := hvb.resolve_left (fun z => by omega)
            rw [h1_.1, h2_.1, cmpB_ss]
            first
              | (rw [if_pos (by omega), bI_dec]; omega)
              | (rw [if_neg (by omega), if_pos (by omega), bI_dec]; omega)
              | (rw [if_neg (by omega), if_neg (by omega), bI_dec]; omega)
          · skip
            refine V_iconst (pc := 44) dX0_compared_44 (by unfold I32; omega) ?_
            refine V_goto (pc := 45) dX0_compared_45 (tgt := 62) rfl ?_
            refine V_reti (pc := 62) dX0_compared_62 (show _ = (0 : Int) ∨ _ = (1 : Int) from by first | exact Or.inl rfl | exact Or.inr rfl | omega) ?_
            refine ⟨?_, rfl⟩
            have h1_ := hva.resolve_left (fun z => by omega)
            have h2_ := hvb.resolve_left (fun z => by omega)
            rw [h1_.1, h2_.1, cmpB_ss]
            first
              | (rw [if_pos (by omega), bI_dec]; omega)
              | (rw [if_neg (by omega), if_pos (by omega), bI_dec]; omega)
              | (rw [if_neg (by omega), if_neg (by omega), bI_dec]; omega)
      · skip
        refine V_ld (pc := 20) dX0_compared_20 (v := vi a) rfl rfl ?_
        refine V_ld (pc := 21) dX0_compared_21 (v := vi b) rfl rfl ?_
        refine V_icmp_ge (pc := 22) dX0_compared_22 (tgt := 29) rfl (fun h22 => ?_) (fun h22 => ?_)
        · skip
          refine V_iconst (pc := 29) dX0_compared_29 (by unfold I32; omega) ?_
          refine V_goto (pc := 30) dX0_compared_30 (tgt := 62) rfl ?_
          refine V_reti (pc := 62) dX0_compared_62 (show _ = (0 : Int) ∨ _ = (1 : Int) from by first | exact Or.inl rfl | exact Or.inr rfl | omega) ?_
          refine ⟨?_, rfl⟩
          have h1_ := hva.resolve_left (fun z => by omega)
          have h2_ := hvb.resolve_left (fun z => by omega)
          rw [h1_.1, h2_.1, cmpB_ss]
          first
            | (rw [if_pos (by omega), bI_dec]; omega)
            | (rw [if_neg (by omega), if_pos (by omega), bI_dec]; omega)
            | (rw [if_neg (by omega), if_neg (by omega), bI_dec]; omega)
        · skip
          refine V_iconst (pc := 25) dX0_compared_25 (by unfold I32; omega) ?_
          refine V_goto (pc := 26) dX0_compared_26 (tgt := 62) rfl ?_
          refine V_reti (pc := 62) dX0_compared_62 (show _ = (0 : Int) ∨ _ = (1 : Int) from by first | exact Or.inl rfl | exact Or.inr rfl | omega) ?_
          refine ⟨?_, rfl⟩
          have h1_ := hva.resolve_left (fun z => by omega)
          have h2_ := hvb.resolve_left (fun z => by omega)
          rw [h1_.1, h2_.1, cmpB_ss]
          first
            | (rw [if_pos (by omega), bI_dec]; omega)
            | (rw [if_neg (by omega), if_pos (by omega), bI_dec]; omega)
            | (rw [if_neg (by omega), if_neg (by omega), bI_dec]; omega)
    · skip
      refine V_iconst (pc := 12) dX0_compared_12 (by unfold I32; omega) ?_
      refine V_reti (pc := 13) dX0_compared_13 (show _ = (0 : Int) ∨ _ = (1 : Int) from by first | exact Or.inl rfl | exact Or.inr rfl | omega) ?_
      refine ⟨?_, rfl⟩
      rcases hva with h1_ | h1_
      · rw [h1_.1, cmpB_n1]; rfl
      · rcases hvb with h2_ | h2_
        · rw [h2_.1, cmpB_n2]; rfl
        · exfalso; omega
