/-! the reference reads a whole text: the tape, the pattern that holds -/
def S0 : PS := (true, 0, 0, fun _ _ => 0)
abbrev txR (I : Nat → Nat → Int) (a q : Nat) (tx : Nat → Int) (n : Nat) : Prop := ∀ k, k < n → I a (q + k) = tx k ∧ 1 ≤ tx k ∧ tx k ≤ 127
def RFt (I I' : Nat → Nat → Int) : Prop := ∀ o k, o ≠ 34 → ¬ (o = 30 ∧ (k = 4 ∨ k = 6 ∨ k = 7 ∨ k = 8)) → I' o k = I o k
/-- what reading a text and parsing it may change -/
def RFq (I I' : Nat → Nat → Int) : Prop := ∀ o k, ¬ (34 ≤ o ∧ o ≤ 43) → ¬ (o = 30 ∧ (k = 4 ∨ k = 6 ∨ k = 7 ∨ k = 8 ∨ k = 9 ∨ k = 19 ∨ k = 20)) → I' o k = I o k
theorem RFr.q {I J : Nat → Nat → Int} (h : RFr I J) : RFq I J := fun o k a b => h o k (by omega) (by omega)
theorem RFt.q {I J : Nat → Nat → Int} (h : RFt I J) : RFq I J := fun o k a b => h o k (by omega) (by omega)
theorem RFq.tr {I J K : Nat → Nat → Int} (h : RFq I J) (h2 : RFq J K) : RFq I K := fun o k a b => (h2 o k a b).trans (h o k a b)
theorem RP.S0 {I : Nat → Nat → Int} {tx : Nat → Int} {n : Nat} (h6 : I 30 6 = (n : Int)) (h7 : I 30 7 = 0) (h8 : I 30 8 = 1) (h9 : I 30 9 = 0) (hn : n ≤ 120) (ht : txR I 34 0 tx n) : RP I tx n S0 :=
  ⟨h6, h7, h8, h9, Nat.zero_le _, fun _ => Nat.zero_le _, hn, fun k hk => by have := ht k hk; rw [Nat.zero_add] at this; exact this, fun p hp => absurd hp (Nat.not_lt_zero p)⟩

set_option maxHeartbeats 4000000 in
theorem L_takes {F : Nat} {m0 m : Mem} {post : Option AV → Mem → Prop} {n : Nat} (hL : Lay (mT m) (mR m)) (hsz : mI m 30 6 = (n : Int)) (hn : n ≤ 120) (kx : V μX11_takesTape F m0 post 41 [(1, vi ((n : Nat) : Int)), (0, vr 30)] [] (cpyI m 33 0 34 0 n)) : ∀ (dd i : Nat), dd + i = n → V μX11_takesTape F m0 post 15 [(1, vi ((i : Nat) : Int)), (0, vr 30)] [] (cpyI m 33 0 34 0 i) := by
  intro dd
  induction dd with
  | zero =>
    intro i hi
    obtain rfl : n = i := by omega
    refine V_ld (pc := 15) dX11_takesTape_15 (v := vi ((n : Nat) : Int)) rfl rfl ?_
    refine V_ld (pc := 16) dX11_takesTape_16 (v := vr 30) rfl rfl ?_
    refine V_getIv (pc := 17) dX11_takesTape_17 (v := (n : Int)) fw_RX11_122 rfl hL.t30 (by rw [mI_cpyI, if_neg (by omega)]; exact hsz) (fun g17 => ?_)
    refine V_icmp_ge (pc := 20) dX11_takesTape_20 (tgt := 41) rfl (fun h20 => ?_) (fun h20 => ?_)
    · skip
      first | exact kx | (skip; exact kx) | (exfalso; omega)
    · skip
      refine V_ld (pc := 23) dX11_takesTape_23 (v := vr 30) rfl rfl ?_
      refine V_getRv (pc := 24) dX11_takesTape_24 (o' := 34) fw_RX11_21 rfl hL.t30 hL.r30_5 ?_
      refine V_ld (pc := 27) dX11_takesTape_27 (v := vi ((n : Nat) : Int)) rfl rfl ?_
      refine V_ld (pc := 28) dX11_takesTape_28 (v := vr 30) rfl rfl ?_
      refine V_getRv (pc := 29) dX11_takesTape_29 (o' := 33) fw_RX11_18 rfl hL.t30 hL.r30_3 ?_
      refine V_ld (pc := 32) dX11_takesTape_32 (v := vi ((n : Nat) : Int)) rfl rfl ?_
      refine V_ialdv (pc := 33) dX11_takesTape_33 (v := mI (cpyI m 33 0 34 0 n) 33 (((n : Nat) : Int).toNat)) hL.t33 (by omega) rfl (fun g33 => ?_)
      refine V_iast (pc := 34) dX11_takesTape_34 hL.t34 (by omega) ?_
      refine V_iinc (pc := 35) dX11_takesTape_35 (x := ((n : Nat) : Int)) (ls' := [(1, vi (((n : Nat) : Int) + 1)), (0, vr 30)]) rfl (by unfold I32 at *; omega) (Nat.le_of_ble_eq_true rfl) rfl ?_
      refine V_goto (pc := 38) dX11_takesTape_38 (tgt := 15) rfl ?_
      exfalso; omega
  | succ dd ih =>
    intro i hi
    refine V_ld (pc := 15) dX11_takesTape_15 (v := vi ((i : Nat) : Int)) rfl rfl ?_
    refine V_ld (pc := 16) dX11_takesTape_16 (v := vr 30) rfl rfl ?_
    refine V_getIv (pc := 17) dX11_takesTape_17 (v := (n : Int)) fw_RX11_122 rfl hL.t30 (by rw [mI_cpyI, if_neg (by omega)]; exact hsz) (fun g17 => ?_)
    refine V_icmp_ge (pc := 20) dX11_takesTape_20 (tgt := 41) rfl (fun h20 => ?_) (fun h20 => ?_)
    · skip
      exfalso; omega
    · skip
      refine V_ld (pc := 23) dX11_takesTape_23 (v := vr 30) rfl rfl ?_
      refine V_getRv (pc := 24) dX11_takesTape_24 (o' := 34) fw_RX11_21 rfl hL.t30 hL.r30_5 ?_
      refine V_ld (pc := 27) dX11_takesTape_27 (v := vi ((i : Nat) : Int)) rfl rfl ?_
      refine V_ld (pc := 28) dX11_takesTape_28 (v := vr 30) rfl rfl ?_
      refine V_getRv (pc := 29) dX11_takesTape_29 (o' := 33) fw_RX11_18 rfl hL.t30 hL.r30_3 ?_
      refine V_ld (pc := 32) dX11_takesTape_32 (v := vi ((i : Nat) : Int)) rfl rfl ?_
      refine V_ialdv (pc := 33) dX11_takesTape_33 (v := mI (cpyI m 33 0 34 0 i) 33 (((i : Nat) : Int).toNat)) hL.t33 (by omega) rfl (fun g33 => ?_)
      refine V_iast (pc := 34) dX11_takesTape_34 hL.t34 (by omega) ?_
      refine V_iinc (pc := 35) dX11_takesTape_35 (x := ((i : Nat) : Int)) (ls' := [(1, vi (((i : Nat) : Int) + 1)), (0, vr 30)]) rfl (by unfold I32 at *; omega) (Nat.le_of_ble_eq_true rfl) rfl ?_
      refine V_goto (pc := 38) dX11_takesTape_38 (tgt := 15) rfl ?_
      skip
      refine V_mem (cpyI_s (by omega) (by (rw [mI_cpyI, if_neg (by omega)]) <;> (first | rfl | (congr 1; omega)))) ?_
      exact ih (i + 1) (by omega)

set_option maxHeartbeats 4000000 in
theorem L_isread {F : Nat} {m0 m : Mem} {post : Option AV → Mem → Prop} {n : Nat} (hL : Lay (mT m) (mR m)) (hsz : mI m 30 6 = (n : Int)) (hn : n ≤ 120) (kx : V μX11_isRead F m0 post 42 [(1, vi ((n : Nat) : Int)), (0, vr 30)] [] (cpyI m 31 66 34 0 n)) : ∀ (dd i : Nat), dd + i = n → V μX11_isRead F m0 post 13 [(1, vi ((i : Nat) : Int)), (0, vr 30)] [] (cpyI m 31 66 34 0 i) := by
  intro dd
  induction dd with
  | zero =>
    intro i hi
    obtain rfl : n = i := by omega
    refine V_ld (pc := 13) dX11_isRead_13 (v := vi ((n : Nat) : Int)) rfl rfl ?_
    refine V_ld (pc := 14) dX11_isRead_14 (v := vr 30) rfl rfl ?_
    refine V_getIv (pc := 15) dX11_isRead_15 (v := (n : Int)) fw_RX11_122 rfl hL.t30 (by rw [mI_cpyI, if_neg (by omega)]; exact hsz) (fun g15 => ?_)
    refine V_icmp_ge (pc := 18) dX11_isRead_18 (tgt := 42) rfl (fun h18 => ?_) (fun h18 => ?_)
    · skip
      first | exact kx | (skip; exact kx) | (exfalso; omega)
    · skip
      refine V_ld (pc := 21) dX11_isRead_21 (v := vr 30) rfl rfl ?_
      refine V_getRv (pc := 22) dX11_isRead_22 (o' := 34) fw_RX11_21 rfl hL.t30 hL.r30_5 ?_
      refine V_ld (pc := 25) dX11_isRead_25 (v := vi ((n : Nat) : Int)) rfl rfl ?_
      refine V_ld (pc := 26) dX11_isRead_26 (v := vr 30) rfl rfl ?_
      refine V_getRv (pc := 27) dX11_isRead_27 (o' := 31) fw_RX11_9 rfl hL.t30 hL.r30_0 ?_
      refine V_bipush (pc := 30) dX11_isRead_30 (by unfold I32; omega) (by decide) ?_
      refine V_ld (pc := 32) dX11_isRead_32 (v := vi ((n : Nat) : Int)) rfl rfl ?_
      refine V_iadd (pc := 33) dX11_isRead_33 (by unfold I32 at *; omega) ?_
      refine V_ialdv (pc := 34) dX11_isRead_34 (v := mI (cpyI m 31 66 34 0 n) 31 ((66 + ((n : Nat) : Int)).toNat)) hL.t31 (by omega) rfl (fun g34 => ?_)
      refine V_iast (pc := 35) dX11_isRead_35 hL.t34 (by omega) ?_
      refine V_iinc (pc := 36) dX11_isRead_36 (x := ((n : Nat) : Int)) (ls' := [(1, vi (((n : Nat) : Int) + 1)), (0, vr 30)]) rfl (by unfold I32 at *; omega) (Nat.le_of_ble_eq_true rfl) rfl ?_
      refine V_goto (pc := 39) dX11_isRead_39 (tgt := 13) rfl ?_
      exfalso; omega
  | succ dd ih =>
    intro i hi
    refine V_ld (pc := 13) dX11_isRead_13 (v := vi ((i : Nat) : Int)) rfl rfl ?_
    refine V_ld (pc := 14) dX11_isRead_14 (v := vr 30) rfl rfl ?_
    refine V_getIv (pc := 15) dX11_isRead_15 (v := (n : Int)) fw_RX11_122 rfl hL.t30 (by rw [mI_cpyI, if_neg (by omega)]; exact hsz) (fun g15 => ?_)
    refine V_icmp_ge (pc := 18) dX11_isRead_18 (tgt := 42) rfl (fun h18 => ?_) (fun h18 => ?_)
    · skip
      exfalso; omega
    · skip
      refine V_ld (pc := 21) dX11_isRead_21 (v := vr 30) rfl rfl ?_
      refine V_getRv (pc := 22) dX11_isRead_22 (o' := 34) fw_RX11_21 rfl hL.t30 hL.r30_5 ?_
      refine V_ld (pc := 25) dX11_isRead_25 (v := vi ((i : Nat) : Int)) rfl rfl ?_
      refine V_ld (pc := 26) dX11_isRead_26 (v := vr 30) rfl rfl ?_
      refine V_getRv (pc := 27) dX11_isRead_27 (o' := 31) fw_RX11_9 rfl hL.t30 hL.r30_0 ?_
      refine V_bipush (pc := 30) dX11_isRead_30 (by unfold I32; omega) (by decide) ?_
      refine V_ld (pc := 32) dX11_isRead_32 (v := vi ((i : Nat) : Int)) rfl rfl ?_
      refine V_iadd (pc := 33) dX11_isRead_33 (by unfold I32 at *; omega) ?_
      refine V_ialdv (pc := 34) dX11_isRead_34 (v := mI (cpyI m 31 66 34 0 i) 31 ((66 + ((i : Nat) : Int)).toNat)) hL.t31 (by omega) rfl (fun g34 => ?_)
      refine V_iast (pc := 35) dX11_isRead_35 hL.t34 (by omega) ?_
      refine V_iinc (pc := 36) dX11_isRead_36 (x := ((i : Nat) : Int)) (ls' := [(1, vi (((i : Nat) : Int) + 1)), (0, vr 30)]) rfl (by unfold I32 at *; omega) (Nat.le_of_ble_eq_true rfl) rfl ?_
      refine V_goto (pc := 39) dX11_isRead_39 (tgt := 13) rfl ?_
      skip
      refine V_mem (cpyI_s (by omega) (by (rw [mI_cpyI, if_neg (by omega)]) <;> (first | rfl | (congr 1; omega)))) ?_
      exact ih (i + 1) (by omega)

set_option maxHeartbeats 4000000 in
theorem r_takesTape (n : Nat) (m : Mem)    (hL : Lay (mT m) (mR m)) (ht : mI m 30 4 = (n : Int) ∧ n ≤ 120) : Ct μX11_takesTape 0 [vr 30] m (rv fun m' => ∃ I_ : Nat → Nat → Int, wI m I_ = m' ∧ I_ 30 6 = (n : Int) ∧ I_ 30 4 = 0 ∧ I_ 30 7 = 0 ∧ I_ 30 8 = 1 ∧ (∀ k, k < n → I_ 34 k = mI m 33 k) ∧ RFt (mI m) I_) := by
  refine Ct_of_V rfl (by decide) rfl (Nat.le_of_ble_eq_true rfl) ?_
  show V μX11_takesTape 0 m _ 0 [(0, vr 30)] [] m
  refine V_ld (pc := 0) dX11_takesTape_0 (v := vr 30) rfl rfl ?_
  refine V_ld (pc := 1) dX11_takesTape_1 (v := vr 30) rfl rfl ?_
  refine V_getIv (pc := 2) dX11_takesTape_2 (v := (n : Int)) fw_RX11_118 rfl hL.t30 ht.1 (fun g2 => ?_)
  refine V_putI (pc := 5) dX11_takesTape_5 fw_RX11_122 rfl hL.t30 (Or.inl rfl) (Or.inl rfl) ?_
  refine V_ld (pc := 8) dX11_takesTape_8 (v := vr 30) rfl rfl ?_
  refine V_iconst (pc := 9) dX11_takesTape_9 (by unfold I32; omega) ?_
  refine V_putI (pc := 10) dX11_takesTape_10 fw_RX11_118 rfl hL.t30 (Or.inl rfl) (Or.inl rfl) ?_
  refine V_iconst (pc := 13) dX11_takesTape_13 (by unfold I32; omega) ?_
  refine V_st (pc := 14) dX11_takesTape_14 (ls' := [(1, vi 0), (0, vr 30)]) rfl (Nat.le_of_ble_eq_true rfl) rfl ?_
  refine V_ls (ls' := [(1, vi ((0 : Nat) : Int)), (0, vr 30)]) (by intro q_ h_; simp only [List.mem_cons, List.not_mem_nil, or_false] at h_ ⊢; rcases h_ with rfl | rfl <;> simp) ?_
  refine V_mem (cpyI_0 (a := 33) (sp := 0) (b := 34) (dp := 0)).symm ?_
  refine L_takes (m := setI (setI m 30 6 (n : Int)) 30 4 0) (n := n) hL rfl (by omega) ?_ n 0 (by omega)
  refine V_ld (pc := 41) dX11_takesTape_41 (v := vr 30) rfl rfl ?_
  refine V_iconst (pc := 42) dX11_takesTape_42 (by unfold I32; omega) ?_
  refine V_putI (pc := 43) dX11_takesTape_43 fw_RX11_125 rfl hL.t30 (Or.inl rfl) (Or.inl rfl) ?_
  refine V_ld (pc := 46) dX11_takesTape_46 (v := vr 30) rfl rfl ?_
  refine V_iconst (pc := 47) dX11_takesTape_47 (by unfold I32; omega) ?_
  refine V_putI (pc := 48) dX11_takesTape_48 fw_RX11_128 rfl hL.t30 (Or.inl rfl) (Or.inr ⟨rfl, by first | exact Or.inl rfl | exact Or.inr rfl | omega⟩) ?_
  refine V_retv (pc := 51) dX11_takesTape_51 trivial ?_
  refine ⟨mI (setI (setI (cpyI (setI (setI m 30 6 (n : Int)) 30 4 0) 33 0 34 0 n) 30 7 0) 30 8 1), rfl, rfl, rfl, rfl, rfl, fun k hk => ?_, fun o k h1 h2 => ?_⟩
  · show mI (cpyI (setI (setI m 30 6 (n : Int)) 30 4 0) 33 0 34 0 n) 34 k = _
    rw [mI_cpyI, if_pos (by omega), Nat.zero_add, Nat.sub_zero]
    rfl
  · show up2 (up2 (mI (cpyI (setI (setI m 30 6 (n : Int)) 30 4 0) 33 0 34 0 n)) 30 7 0) 30 8 1 o k = _
    unfold up2
    rw [if_neg (by omega), if_neg (by omega), mI_cpyI, if_neg (by omega)]
    show up2 (up2 (mI m) 30 6 _) 30 4 _ o k = _
    unfold up2
    rw [if_neg (by omega), if_neg (by omega)]

set_option maxHeartbeats 4000000 in
theorem r_isRead (tx : Nat → Int) (n : Nat) (m : Mem)    (hL : Lay (mT m) (mR m)) (ht : mI m 31 65 = (n : Int) ∧ n ≤ 120) (htx : txR (mI m) 31 66 tx n) : Ct μX11_isRead 32 [vr 30] m (ri fun x_ m' => ∃ I_ : Nat → Nat → Int, wI m I_ = m' ∧ (x_ = if 0 < n then 1 else 0) ∧ RFq (mI m) I_ ∧ (0 < n → RP I_ tx n (altL tx n 5 S0).2)) := by
  refine Ct_of_V rfl (by decide) rfl (Nat.le_of_ble_eq_true rfl) ?_
  show V μX11_isRead 32 m _ 0 [(0, vr 30)] [] m
  refine V_ld (pc := 0) dX11_isRead_0 (v := vr 30) rfl rfl ?_
  refine V_ld (pc := 1) dX11_isRead_1 (v := vr 30) rfl rfl ?_
  refine V_getRv (pc := 2) dX11_isRead_2 (o' := 31) fw_RX11_9 rfl hL.t30 hL.r30_0 ?_
  refine V_bipush (pc := 5) dX11_isRead_5 (by unfold I32; omega) (by decide) ?_
  refine V_ialdv (pc := 7) dX11_isRead_7 (v := (n : Int)) hL.t31 (by omega) ht.1 (fun g7 => ?_)
  refine V_putI (pc := 8) dX11_isRead_8 fw_RX11_122 rfl hL.t30 (Or.inl rfl) (Or.inl rfl) ?_
  refine V_iconst (pc := 11) dX11_isRead_11 (by unfold I32; omega) ?_
  refine V_st (pc := 12) dX11_isRead_12 (ls' := [(1, vi 0), (0, vr 30)]) rfl (Nat.le_of_ble_eq_true rfl) rfl ?_
  refine V_ls (ls' := [(1, vi ((0 : Nat) : Int)), (0, vr 30)]) (by intro q_ h_; simp only [List.mem_cons, List.not_mem_nil, or_false] at h_ ⊢; rcases h_ with rfl | rfl <;> simp) ?_
  refine V_mem (cpyI_0 (a := 31) (sp := 66) (b := 34) (dp := 0)).symm ?_
  refine L_isread (m := setI m 30 6 (n : Int)) (n := n) hL rfl (by omega) ?_ n 0 (by omega)
  refine V_ld (pc := 42) dX11_isRead_42 (v := vr 30) rfl rfl ?_
  refine V_iconst (pc := 43) dX11_isRead_43 (by unfold I32; omega) ?_
  refine V_putI (pc := 44) dX11_isRead_44 fw_RX11_125 rfl hL.t30 (Or.inl rfl) (Or.inl rfl) ?_
  refine V_ld (pc := 47) dX11_isRead_47 (v := vr 30) rfl rfl ?_
  refine V_iconst (pc := 48) dX11_isRead_48 (by unfold I32; omega) ?_
  refine V_putI (pc := 49) dX11_isRead_49 fw_RX11_128 rfl hL.t30 (Or.inl rfl) (Or.inr ⟨rfl, by first | exact Or.inl rfl | exact Or.inr rfl | omega⟩) ?_
  refine V_ld (pc := 52) dX11_isRead_52 (v := vr 30) rfl rfl ?_
  refine V_iconst (pc := 53) dX11_isRead_53 (by unfold I32; omega) ?_
  refine V_putI (pc := 54) dX11_isRead_54 fw_RX11_139 rfl hL.t30 (Or.inl rfl) (Or.inl rfl) ?_
  have hC : ∀ o k, mI (cpyI (setI m 30 6 (n : Int)) 31 66 34 0 n) o k = if o = 34 ∧ 0 ≤ k ∧ k < 0 + n then mI (setI m 30 6 (n : Int)) 31 (66 + (k - 0)) else mI (setI m 30 6 (n : Int)) o k := fun o k => mI_cpyI
  have hRP : RP (mI (setI (setI (setI (cpyI (setI m 30 6 (n : Int)) 31 66 34 0 n) 30 7 0) 30 8 1) 30 9 0)) tx n S0 := by
    refine RP.S0 ?_ rfl rfl rfl ht.2 (fun k hk => ?_)
    · show mI (cpyI (setI m 30 6 (n : Int)) 31 66 34 0 n) 30 6 = _
      rw [hC, if_neg (by omega)]; rfl
    · have h_ := htx k hk
      refine ⟨?_, h_.2⟩
      show mI (cpyI (setI m 30 6 (n : Int)) 31 66 34 0 n) 34 (0 + k) = _
      rw [hC, if_pos (by omega)]
      show mI m 31 (66 + (0 + k - 0)) = _
      rw [show 66 + (0 + k - 0) = 66 + k from by omega]
      exact h_.1
  have hF57 : RFq (mI m) (mI (setI (setI (setI (cpyI (setI m 30 6 (n : Int)) 31 66 34 0 n) 30 7 0) 30 8 1) 30 9 0)) := by
    intro o k h1 h2
    show up2 (up2 (up2 (mI (cpyI (setI m 30 6 (n : Int)) 31 66 34 0 n)) 30 7 0) 30 8 1) 30 9 0 o k = _
    unfold up2
    rw [if_neg (by omega), if_neg (by omega), if_neg (by omega), hC, if_neg (by omega)]
    show up2 (mI m) 30 6 _ o k = _
    unfold up2
    rw [if_neg (by omega)]
  refine V_ld (pc := 57) dX11_isRead_57 (v := vr 30) rfl rfl ?_
  refine V_getIv (pc := 58) dX11_isRead_58 (v := (n : Int)) fw_RX11_122 rfl hL.t30 (by first | exact (hRP.1) | (simp only [mI_setI, up2]; repeat (first | exact (hRP.1) | rw [if_neg (by omega)]))) (fun g58 => ?_)
  refine V_if_le (pc := 61) dX11_isRead_61 (tgt := 70) rfl (fun h61 => ?_) (fun h61 => ?_)
  · skip
    refine V_ld (pc := 70) dX11_isRead_70 (v := vr 30) rfl rfl ?_
    refine V_getIv (pc := 71) dX11_isRead_71 (v := (n : Int)) fw_RX11_122 rfl hL.t30 (by first | exact (hRP.1) | (simp only [mI_setI, up2]; repeat (first | exact (hRP.1) | rw [if_neg (by omega)]))) (fun g71 => ?_)
    refine V_if_le (pc := 74) dX11_isRead_74 (tgt := 81) rfl (fun h74 => ?_) (fun h74 => ?_)
    · skip
      refine V_iconst (pc := 81) dX11_isRead_81 (by unfold I32; omega) ?_
      refine V_reti (pc := 82) dX11_isRead_82 (show _ = (0 : Int) ∨ _ = (1 : Int) from by first | exact Or.inl rfl | exact Or.inr rfl | omega) ?_
      first
        | (exfalso; omega)
        | exact ⟨mI (setI (setI (setI (cpyI (setI m 30 6 (n : Int)) 31 66 34 0 n) 30 7 0) 30 8 1) 30 9 0), rfl, by rw [if_neg (by omega)], hF57, fun h_ => absurd h_ (by omega)⟩
    · skip
      refine V_iconst (pc := 77) dX11_isRead_77 (by unfold I32; omega) ?_
      refine V_goto (pc := 78) dX11_isRead_78 (tgt := 82) rfl ?_
      refine V_reti (pc := 82) dX11_isRead_82 (show _ = (0 : Int) ∨ _ = (1 : Int) from by first | exact Or.inl rfl | exact Or.inr rfl | omega) ?_
      first
        | (exfalso; omega)
        | exact ⟨mI (setI (setI (setI (cpyI (setI m 30 6 (n : Int)) 31 66 34 0 n) 30 7 0) 30 8 1) 30 9 0), rfl, by rw [if_neg (by omega)], hF57, fun h_ => absurd h_ (by omega)⟩
  · skip
    refine V_ld (pc := 64) dX11_isRead_64 (v := vr 30) rfl rfl ?_
    refine V_iconst (pc := 65) dX11_isRead_65 (by unfold I32; omega) ?_
    refine V_callV (pc := 66) dX11_isRead_66 (F' := (6 + 5 * 5)) (As := [vi 0]) (st := []) cw_RX11_150 rfl rfl hL.t30 (by decide) (Nat.le_of_ble_eq_true rfl) (by omega) ((RAlt_all tx n 5) S0 (setI (setI (setI (cpyI (setI m 30 6 (n : Int)) 31 66 34 0 n) 30 7 0) 30 8 1) 30 9 0) 0   (by first | assumption | omega) hRP (by decide)) ?_
    rintro _ _ ⟨x66, rfl, Ix66, rfl, rfl, hP66, hF66⟩ ok66 le66
    refine V_pop (pc := 69) dX11_isRead_69 rfl ?_
    refine V_ld (pc := 70) dX11_isRead_70 (v := vr 30) rfl rfl ?_
    refine V_getIv (pc := 71) dX11_isRead_71 (v := (n : Int)) fw_RX11_122 rfl hL.t30 (hP66.1) (fun g71 => ?_)
    refine V_if_le (pc := 74) dX11_isRead_74 (tgt := 81) rfl (fun h74 => ?_) (fun h74 => ?_)
    · skip
      refine V_iconst (pc := 81) dX11_isRead_81 (by unfold I32; omega) ?_
      refine V_reti (pc := 82) dX11_isRead_82 (show _ = (0 : Int) ∨ _ = (1 : Int) from by first | exact Or.inl rfl | exact Or.inr rfl | omega) ?_
      first
        | (exfalso; omega)
        | exact ⟨mI (wI (setI (setI (setI (cpyI (setI m 30 6 (n : Int)) 31 66 34 0 n) 30 7 0) 30 8 1) 30 9 0) Ix66), rfl, by rw [if_pos (by omega)], RFq.tr hF57 (RFr.q hF66), fun _ => hP66⟩
    · skip
      refine V_iconst (pc := 77) dX11_isRead_77 (by unfold I32; omega) ?_
      refine V_goto (pc := 78) dX11_isRead_78 (tgt := 82) rfl ?_
      refine V_reti (pc := 82) dX11_isRead_82 (show _ = (0 : Int) ∨ _ = (1 : Int) from by first | exact Or.inl rfl | exact Or.inr rfl | omega) ?_
      first
        | (exfalso; omega)
        | exact ⟨mI (wI (setI (setI (setI (cpyI (setI m 30 6 (n : Int)) 31 66 34 0 n) 30 7 0) 30 8 1) 30 9 0) Ix66), rfl, by rw [if_pos (by omega)], RFq.tr hF57 (RFr.q hF66), fun _ => hP66⟩

set_option maxHeartbeats 4000000 in
theorem L_rpat {F : Nat} {m0 m : Mem} {post : Option AV → Mem → Prop} {n : Nat} (hL : Lay (mT m) (mR m)) (hsz : mI m 30 6 = (n : Int)) (hn : n ≤ 120) (kx : V μX11_pattern F m0 post 92 [(1, vi ((n : Nat) : Int)), (0, vr 30)] [] (cpyI m 34 0 31 66 n)) : ∀ (dd i : Nat), dd + i = n → V μX11_pattern F m0 post 63 [(1, vi ((i : Nat) : Int)), (0, vr 30)] [] (cpyI m 34 0 31 66 i) := by
  intro dd
  induction dd with
  | zero =>
    intro i hi
    obtain rfl : n = i := by omega
    refine V_ld (pc := 63) dX11_pattern_63 (v := vi ((n : Nat) : Int)) rfl rfl ?_
    refine V_ld (pc := 64) dX11_pattern_64 (v := vr 30) rfl rfl ?_
    refine V_getIv (pc := 65) dX11_pattern_65 (v := (n : Int)) fw_RX11_122 rfl hL.t30 (by rw [mI_cpyI, if_neg (by omega)]; exact hsz) (fun g65 => ?_)
    refine V_icmp_ge (pc := 68) dX11_pattern_68 (tgt := 92) rfl (fun h68 => ?_) (fun h68 => ?_)
    · skip
      first | exact kx | (skip; exact kx) | (exfalso; omega)
    · skip
      refine V_ld (pc := 71) dX11_pattern_71 (v := vr 30) rfl rfl ?_
      refine V_getRv (pc := 72) dX11_pattern_72 (o' := 31) fw_RX11_9 rfl hL.t30 hL.r30_0 ?_
      refine V_bipush (pc := 75) dX11_pattern_75 (by unfold I32; omega) (by decide) ?_
      refine V_ld (pc := 77) dX11_pattern_77 (v := vi ((n : Nat) : Int)) rfl rfl ?_
      refine V_iadd (pc := 78) dX11_pattern_78 (by unfold I32 at *; omega) ?_
      refine V_ld (pc := 79) dX11_pattern_79 (v := vr 30) rfl rfl ?_
      refine V_getRv (pc := 80) dX11_pattern_80 (o' := 34) fw_RX11_21 rfl hL.t30 hL.r30_5 ?_
      refine V_ld (pc := 83) dX11_pattern_83 (v := vi ((n : Nat) : Int)) rfl rfl ?_
      refine V_ialdv (pc := 84) dX11_pattern_84 (v := mI (cpyI m 34 0 31 66 n) 34 (((n : Nat) : Int).toNat)) hL.t34 (by omega) rfl (fun g84 => ?_)
      refine V_iast (pc := 85) dX11_pattern_85 hL.t31 (by omega) ?_
      refine V_iinc (pc := 86) dX11_pattern_86 (x := ((n : Nat) : Int)) (ls' := [(1, vi (((n : Nat) : Int) + 1)), (0, vr 30)]) rfl (by unfold I32 at *; omega) (Nat.le_of_ble_eq_true rfl) rfl ?_
      refine V_goto (pc := 89) dX11_pattern_89 (tgt := 63) rfl ?_
      exfalso; omega
  | succ dd ih =>
    intro i hi
    refine V_ld (pc := 63) dX11_pattern_63 (v := vi ((i : Nat) : Int)) rfl rfl ?_
    refine V_ld (pc := 64) dX11_pattern_64 (v := vr 30) rfl rfl ?_
    refine V_getIv (pc := 65) dX11_pattern_65 (v := (n : Int)) fw_RX11_122 rfl hL.t30 (by rw [mI_cpyI, if_neg (by omega)]; exact hsz) (fun g65 => ?_)
    refine V_icmp_ge (pc := 68) dX11_pattern_68 (tgt := 92) rfl (fun h68 => ?_) (fun h68 => ?_)
    · skip
      exfalso; omega
    · skip
      refine V_ld (pc := 71) dX11_pattern_71 (v := vr 30) rfl rfl ?_
      refine V_getRv (pc := 72) dX11_pattern_72 (o' := 31) fw_RX11_9 rfl hL.t30 hL.r30_0 ?_
      refine V_bipush (pc := 75) dX11_pattern_75 (by unfold I32; omega) (by decide) ?_
      refine V_ld (pc := 77) dX11_pattern_77 (v := vi ((i : Nat) : Int)) rfl rfl ?_
      refine V_iadd (pc := 78) dX11_pattern_78 (by unfold I32 at *; omega) ?_
      refine V_ld (pc := 79) dX11_pattern_79 (v := vr 30) rfl rfl ?_
      refine V_getRv (pc := 80) dX11_pattern_80 (o' := 34) fw_RX11_21 rfl hL.t30 hL.r30_5 ?_
      refine V_ld (pc := 83) dX11_pattern_83 (v := vi ((i : Nat) : Int)) rfl rfl ?_
      refine V_ialdv (pc := 84) dX11_pattern_84 (v := mI (cpyI m 34 0 31 66 i) 34 (((i : Nat) : Int).toNat)) hL.t34 (by omega) rfl (fun g84 => ?_)
      refine V_iast (pc := 85) dX11_pattern_85 hL.t31 (by omega) ?_
      refine V_iinc (pc := 86) dX11_pattern_86 (x := ((i : Nat) : Int)) (ls' := [(1, vi (((i : Nat) : Int) + 1)), (0, vr 30)]) rfl (by unfold I32 at *; omega) (Nat.le_of_ble_eq_true rfl) rfl ?_
      refine V_goto (pc := 89) dX11_pattern_89 (tgt := 63) rfl ?_
      skip
      refine V_mem (cpyI_s (by omega) (by (rw [mI_cpyI, if_neg (by omega)]) <;> (first | rfl | (congr 1; omega)))) ?_
      exact ih (i + 1) (by omega)

set_option maxHeartbeats 4000000 in
theorem r_pattern (tx : Nat → Int) (n : Nat) (m : Mem)    (hL : Lay (mT m) (mR m)) (ht : mI m 30 4 = (n : Int) ∧ n ≤ 120) (htx : ∀ k, k < n → mI m 33 k = tx k ∧ 1 ≤ tx k ∧ tx k ≤ 127) : Ct μX11_pattern 32 [vr 30] m (ri fun x_ m' => ∃ I_ : Nat → Nat → Int, wI m I_ = m' ∧ (∀ o k, ¬ (34 ≤ o ∧ o ≤ 43) → o ≠ 31 → ¬ (o = 30 ∧ (k = 4 ∨ k = 6 ∨ k = 7 ∨ k = 8 ∨ k = 9 ∨ k = 19 ∨ k = 20)) → I_ o k = mI m o k) ∧ I_ 30 4 = 0 ∧ ((¬ ((altL tx n 5 S0).2.1 = true ∧ (altL tx n 5 S0).2.2.1 = n) ∧ x_ = -100 - ((altL tx n 5 S0).2.2.1 : Int) ∧ ∀ k, I_ 31 k = mI m 31 k) ∨ (((altL tx n 5 S0).2.1 = true ∧ (altL tx n 5 S0).2.2.1 = n) ∧ x_ = ((altL tx n 5 S0).2.2.2.1 : Int) ∧ I_ 31 3336 = 0 ∧ I_ 31 65 = (n : Int) ∧ (∀ k, k < n → I_ 31 (66 + k) = tx k) ∧ ∀ k, k ≠ 3336 → ¬ (65 ≤ k ∧ k < 66 + n) → I_ 31 k = mI m 31 k))) := by
  refine Ct_of_V rfl (by decide) rfl (Nat.le_of_ble_eq_true rfl) ?_
  show V μX11_pattern 32 m _ 0 [(0, vr 30)] [] m
  refine V_ld (pc := 0) dX11_pattern_0 (v := vr 30) rfl rfl ?_
  refine V_callV (pc := 1) dX11_pattern_1 (F' := 0) (As := []) (st := []) cw_RX11_192 rfl rfl hL.t30 (by decide) (Nat.le_of_ble_eq_true rfl) (by omega) (r_takesTape n m    (by first | assumption | omega) ht) ?_
  rintro _ _ ⟨rfl, Ix1, rfl, h61, h41, h71, h81, hk1, hF1⟩ ok1 le1
  skip
  refine V_ld (pc := 4) dX11_pattern_4 (v := vr 30) rfl rfl ?_
  refine V_iconst (pc := 5) dX11_pattern_5 (by unfold I32; omega) ?_
  refine V_putI (pc := 6) dX11_pattern_6 fw_RX11_139 rfl hL.t30 (Or.inl rfl) (Or.inl rfl) ?_
  have hRP : RP (mI (setI (wI m Ix1) 30 9 0)) tx n S0 := by
    refine RP.S0 h61 h71 h81 rfl ht.2 (fun k hk => ?_)
    have h_ := htx k hk
    rw [Nat.zero_add]
    exact ⟨(hk1 k hk).trans h_.1, h_.2⟩
  refine V_ld (pc := 9) dX11_pattern_9 (v := vr 30) rfl rfl ?_
  refine V_iconst (pc := 10) dX11_pattern_10 (by unfold I32; omega) ?_
  refine V_callV (pc := 11) dX11_pattern_11 (F' := (6 + 5 * 5)) (As := [vi 0]) (st := []) cw_RX11_150 rfl rfl hL.t30 (by decide) (Nat.le_of_ble_eq_true rfl) (by omega) ((RAlt_all tx n 5) S0 (setI (wI m Ix1) 30 9 0) 0   (by first | assumption | omega) hRP (by decide)) ?_
  rintro _ _ ⟨x11, rfl, Ix11, rfl, rfl, hP11, hF11⟩ ok11 le11
  have hwR := RP.wl hP11
  have hbR := hP11.2.2.2.2.1
  have hFR : RFq (mI m) Ix11 := RFq.tr (RFt.q hF1) (RFq.tr (RFr.q (RFr.set RFr.rf (by omega))) (RFr.q hF11))
  refine V_pop (pc := 14) dX11_pattern_14 rfl ?_
  refine V_ld (pc := 15) dX11_pattern_15 (v := vr 30) rfl rfl ?_
  refine V_getIv (pc := 16) dX11_pattern_16 (v := Ix11 30 8) fw_RX11_128 rfl hL.t30 rfl (fun g16 => ?_)
  refine V_if_eq (pc := 19) dX11_pattern_19 (tgt := 33) rfl (fun h19 => ?_) (fun h19 => ?_)
  · skip
    refine V_bipush (pc := 33) dX11_pattern_33 (by unfold I32; omega) (by decide) ?_
    refine V_ld (pc := 35) dX11_pattern_35 (v := vr 30) rfl rfl ?_
    refine V_getIv (pc := 36) dX11_pattern_36 (v := ((altL tx n 5 S0).2.2.1 : Int)) fw_RX11_125 rfl hL.t30 hP11.2.1 (fun g36 => ?_)
    refine V_isub (pc := 39) dX11_pattern_39 (by unfold I32 at *; omega) ?_
    refine V_reti (pc := 40) dX11_pattern_40 trivial ?_
    refine ⟨mI (wI (setI (wI m Ix1) 30 9 0) Ix11), rfl, fun o k h1 h2 h3 => hFR o k h1 h3, ?_, Or.inl ⟨?_, by omega, fun k => hFR 31 k (by omega) (by omega)⟩⟩
    · exact (hF11 30 4 (by omega) (by omega)).trans h41
    · rintro ⟨h1_, h2_⟩
      rcases hwR with ⟨-, h3_⟩ | ⟨h3_, -⟩
      · omega
      · rw [h1_] at h3_; cases h3_
  · skip
    refine V_ld (pc := 22) dX11_pattern_22 (v := vr 30) rfl rfl ?_
    refine V_getIv (pc := 23) dX11_pattern_23 (v := ((altL tx n 5 S0).2.2.1 : Int)) fw_RX11_125 rfl hL.t30 hP11.2.1 (fun g23 => ?_)
    refine V_ld (pc := 26) dX11_pattern_26 (v := vr 30) rfl rfl ?_
    refine V_getIv (pc := 27) dX11_pattern_27 (v := (n : Int)) fw_RX11_122 rfl hL.t30 (hP11.1) (fun g27 => ?_)
    refine V_icmp_ge (pc := 30) dX11_pattern_30 (tgt := 41) rfl (fun h30 => ?_) (fun h30 => ?_)
    · skip
      have hwT : (altL tx n 5 S0).2.1 = true := (hwR.resolve_right (fun h => h19 h.2)).1
      have hn1 : 1 ≤ n := by
        have h_ := ((altL_nice tx n 5 S0).2 hwT).2.1
        omega
      refine V_ld (pc := 41) dX11_pattern_41 (v := vr 30) rfl rfl ?_
      refine V_getRv (pc := 42) dX11_pattern_42 (o' := 31) fw_RX11_9 rfl hL.t30 hL.r30_0 ?_
      refine V_sipush (pc := 45) dX11_pattern_45 (by unfold I32; omega) (by decide) ?_
      refine V_iconst (pc := 48) dX11_pattern_48 (by unfold I32; omega) ?_
      refine V_iast (pc := 49) dX11_pattern_49 hL.t31 (by omega) ?_
      refine V_ld (pc := 50) dX11_pattern_50 (v := vr 30) rfl rfl ?_
      refine V_getRv (pc := 51) dX11_pattern_51 (o' := 31) fw_RX11_9 rfl hL.t30 hL.r30_0 ?_
      refine V_bipush (pc := 54) dX11_pattern_54 (by unfold I32; omega) (by decide) ?_
      refine V_ld (pc := 56) dX11_pattern_56 (v := vr 30) rfl rfl ?_
      refine V_getIv (pc := 57) dX11_pattern_57 (v := (n : Int)) fw_RX11_122 rfl hL.t30 (by first | exact (hP11.1) | (simp only [mI_setI, up2]; repeat (first | exact (hP11.1) | rw [if_neg (by omega)]))) (fun g57 => ?_)
      refine V_iast (pc := 60) dX11_pattern_60 hL.t31 (by omega) ?_
      refine V_iconst (pc := 61) dX11_pattern_61 (by unfold I32; omega) ?_
      refine V_st (pc := 62) dX11_pattern_62 (ls' := [(1, vi 0), (0, vr 30)]) rfl (Nat.le_of_ble_eq_true rfl) rfl ?_
      refine V_ls (ls' := [(1, vi ((0 : Nat) : Int)), (0, vr 30)]) (by intro q_ h_; simp only [List.mem_cons, List.not_mem_nil, or_false] at h_ ⊢; rcases h_ with rfl | rfl <;> simp) ?_
      refine V_mem (cpyI_0 (a := 34) (sp := 0) (b := 31) (dp := 66)).symm ?_
      refine L_rpat (m := setI (setI (wI (setI (wI m Ix1) 30 9 0) Ix11) 31 3336 0) 31 65 (n : Int)) (n := n) hL hP11.1 (by omega) ?_ n 0 (by omega)
      refine V_ld (pc := 92) dX11_pattern_92 (v := vr 30) rfl rfl ?_
      refine V_getIv (pc := 93) dX11_pattern_93 (v := ((altL tx n 5 S0).2.2.2.1 : Int)) fw_RX11_139 rfl hL.t30 (by rw [mI_cpyI, if_neg (by omega)]; exact hP11.2.2.2.1) (fun g93 => ?_)
      refine V_reti (pc := 96) dX11_pattern_96 trivial ?_
      have hC : ∀ o k, mI (cpyI (setI (setI (wI (setI (wI m Ix1) 30 9 0) Ix11) 31 3336 0) 31 65 (n : Int)) 34 0 31 66 n) o k = if o = 31 ∧ 66 ≤ k ∧ k < 66 + n then mI (setI (setI (wI (setI (wI m Ix1) 30 9 0) Ix11) 31 3336 0) 31 65 (n : Int)) 34 (0 + (k - 66)) else mI (setI (setI (wI (setI (wI m Ix1) 30 9 0) Ix11) 31 3336 0) 31 65 (n : Int)) o k := fun o k => mI_cpyI
      have hM0 : ∀ o k, mI (setI (setI (wI (setI (wI m Ix1) 30 9 0) Ix11) 31 3336 0) 31 65 (n : Int)) o k = up2 (up2 Ix11 31 3336 0) 31 65 (n : Int) o k := fun _ _ => rfl
      refine ⟨mI (cpyI (setI (setI (wI (setI (wI m Ix1) 30 9 0) Ix11) 31 3336 0) 31 65 (n : Int)) 34 0 31 66 n), rfl, fun o k h1 h2 h3 => ?_, ?_, Or.inr ⟨⟨hwT, by omega⟩, rfl, ?_, ?_, fun k hk => ?_, fun k h1 h2 => ?_⟩⟩
      · rw [hC, if_neg (fun h => h2 h.1), hM0, up2_no h2, up2_no h2]; exact hFR o k h1 h3
      · rw [hC, if_neg (by omega), hM0, up2_no (by omega), up2_no (by omega)]; exact (hF11 30 4 (by omega) (by omega)).trans h41
      · rw [hC, if_neg (by omega), hM0, up2_nk (by omega), up2_s]
      · rw [hC, if_neg (by omega), hM0, up2_s]
      · rw [hC, if_pos (by omega), hM0, up2_no (by omega), up2_no (by omega)]
        rw [show 0 + (66 + k - 66) = k from by omega]
        exact (hP11.2.2.2.2.2.2.2.1 k hk).1
      · rw [hC, if_neg (by omega), hM0, up2_nk (by omega), up2_nk h1]; exact hFR 31 k (by omega) (by omega)
    · skip
      refine V_bipush (pc := 33) dX11_pattern_33 (by unfold I32; omega) (by decide) ?_
      refine V_ld (pc := 35) dX11_pattern_35 (v := vr 30) rfl rfl ?_
      refine V_getIv (pc := 36) dX11_pattern_36 (v := ((altL tx n 5 S0).2.2.1 : Int)) fw_RX11_125 rfl hL.t30 hP11.2.1 (fun g36 => ?_)
      refine V_isub (pc := 39) dX11_pattern_39 (by unfold I32 at *; omega) ?_
      refine V_reti (pc := 40) dX11_pattern_40 trivial ?_
      refine ⟨mI (wI (setI (wI m Ix1) 30 9 0) Ix11), rfl, fun o k h1 h2 h3 => hFR o k h1 h3, ?_, Or.inl ⟨?_, by omega, fun k => hFR 31 k (by omega) (by omega)⟩⟩
      · exact (hF11 30 4 (by omega) (by omega)).trans h41
      · rintro ⟨h1_, h2_⟩
        rcases hwR with ⟨-, h3_⟩ | ⟨h3_, -⟩
        · omega
        · rw [h1_] at h3_; cases h3_
