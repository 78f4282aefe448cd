/-! spell(): numbers and quantities are written, class and reference -/
/-- a list written behind what stands at (ba), its size at (ct, ck) -/
def apI (ct ck ba : Nat) : (Nat → Nat → Int) → List Int → Nat → Nat → Int
  | I, [] => I
  | I, x :: l => apI ct ck ba (up2 (up2 I ba (I ct ck).toNat x) ct ck (I ct ck + 1)) l
def apM (ct ck ba : Nat) (m : Mem) (l : List Int) : Mem := wI m (apI ct ck ba (mI m) l)
theorem apI_app {ct ck ba : Nat} : ∀ (l l' : List Int) (I : Nat → Nat → Int), apI ct ck ba (apI ct ck ba I l) l' = apI ct ck ba I (l ++ l')
  | [], _, _ => rfl
  | x :: l, l', I => apI_app l l' _
theorem apM_app {ct ck ba : Nat} {m : Mem} {l l' : List Int} : apM ct ck ba (apM ct ck ba m l) l' = apM ct ck ba m (l ++ l') := congrArg (wI m) (apI_app l l' (mI m))
theorem apM_nil {ct ck ba : Nat} {m : Mem} : apM ct ck ba m [] = m := rfl
theorem apI_sz {ct ck ba : Nat} : ∀ (l : List Int) (I : Nat → Nat → Int), apI ct ck ba I l ct ck = I ct ck + (l.length : Int)
  | [], I => (Int.add_zero _).symm
  | x :: l, I => by
    show apI ct ck ba (up2 (up2 I ba (I ct ck).toNat x) ct ck (I ct ck + 1)) l ct ck = _
    rw [apI_sz l, up2_s, List.length_cons]
    omega
theorem apM_sz {ct ck ba : Nat} {m : Mem} {l : List Int} : mI (apM ct ck ba m l) ct ck = mI m ct ck + (l.length : Int) := apI_sz l (mI m)
theorem apI_ne {ct ck ba o k : Nat} (h1 : ¬ (o = ct ∧ k = ck)) (h2 : o ≠ ba) : ∀ (l : List Int) (I : Nat → Nat → Int), apI ct ck ba I l o k = I o k
  | [], I => rfl
  | x :: l, I => by
    show apI ct ck ba (up2 (up2 I ba (I ct ck).toNat x) ct ck (I ct ck + 1)) l o k = _
    rw [apI_ne h1 h2 l, up2_nx h1, up2_nx (fun e => h2 e.1)]
theorem apM_ne {ct ck ba o k : Nat} {m : Mem} {l : List Int} (h1 : ¬ (o = ct ∧ k = ck)) (h2 : o ≠ ba) : mI (apM ct ck ba m l) o k = mI m o k := apI_ne h1 h2 l (mI m)

set_option maxHeartbeats 4000000 in
theorem c_add1  (m : Mem) (g : Int)   (hL : Lay (mT m) (mR m)) (hs : 0 ≤ mI m 15 1 ∧ mI m 15 1 < 120) : Ct μX9_add 0 [vr 15, vi g] m (ri fun x_ m' => (True) ∧ apM 15 1 16 m [g] = m') := by
  refine Ct_of_V rfl (by decide) rfl (Nat.le_of_ble_eq_true rfl) ?_
  show V μX9_add 0 m _ 0 [(0, vr 15), (1, vi g)] [] m
  refine V_rg (k := 1) (x := g) rfl fun r_g => ?_
  refine V_ld (pc := 0) dX9_add_0 (v := vr 15) rfl rfl ?_
  refine V_getIv (pc := 1) dX9_add_1 (v := mI m 15 1) fw_RX9_15 rfl hL.t15 rfl (fun g1 => ?_)
  refine V_if_lt (pc := 4) dX9_add_4 (tgt := 16) rfl (fun h4 => ?_) (fun h4 => ?_)
  · skip
    refine V_iconst (pc := 16) dX9_add_16 (by unfold I32; omega) ?_
    refine V_reti (pc := 17) dX9_add_17 (show _ = (0 : Int) ∨ _ = (1 : Int) from by first | exact Or.inl rfl | exact Or.inr rfl | omega) ?_
    first | (exfalso; omega) | exact ⟨trivial, rfl⟩
  · skip
    refine V_ld (pc := 7) dX9_add_7 (v := vr 15) rfl rfl ?_
    refine V_getIv (pc := 8) dX9_add_8 (v := mI m 15 1) fw_RX9_15 rfl hL.t15 rfl (fun g8 => ?_)
    refine V_bipush (pc := 11) dX9_add_11 (by unfold I32; omega) (by decide) ?_
    refine V_icmp_lt (pc := 13) dX9_add_13 (tgt := 18) rfl (fun h13 => ?_) (fun h13 => ?_)
    · skip
      refine V_ld (pc := 18) dX9_add_18 (v := vr 15) rfl rfl ?_
      refine V_getRv (pc := 19) dX9_add_19 (o' := 16) fw_RX9_9 rfl hL.t15 hL.r15_0 ?_
      refine V_ld (pc := 22) dX9_add_22 (v := vr 15) rfl rfl ?_
      refine V_getIv (pc := 23) dX9_add_23 (v := mI m 15 1) fw_RX9_15 rfl hL.t15 rfl (fun g23 => ?_)
      refine V_ld (pc := 26) dX9_add_26 (v := vi g) rfl rfl ?_
      refine V_iast (pc := 27) dX9_add_27 hL.t16 (by omega) ?_
      refine V_ld (pc := 28) dX9_add_28 (v := vr 15) rfl rfl ?_
      refine V_dup (pc := 29) dX9_add_29 rfl ?_
      refine V_getIv (pc := 30) dX9_add_30 (v := mI m 15 1) fw_RX9_15 rfl hL.t15 (by first | rfl | (simp only [mI_setI, up2]; repeat (first | rfl | rw [if_neg (by omega)] | rw [if_pos (by omega)]))) (fun g30 => ?_)
      refine V_iconst (pc := 33) dX9_add_33 (by unfold I32; omega) ?_
      refine V_iadd (pc := 34) dX9_add_34 (by unfold I32 at *; omega) ?_
      refine V_putI (pc := 35) dX9_add_35 fw_RX9_15 rfl hL.t15 (Or.inl rfl) (Or.inl rfl) ?_
      refine V_iconst (pc := 38) dX9_add_38 (by unfold I32; omega) ?_
      refine V_reti (pc := 39) dX9_add_39 (show _ = (0 : Int) ∨ _ = (1 : Int) from by first | exact Or.inl rfl | exact Or.inr rfl | omega) ?_
      first | (exfalso; omega) | exact ⟨trivial, rfl⟩
    · skip
      refine V_iconst (pc := 16) dX9_add_16 (by unfold I32; omega) ?_
      refine V_reti (pc := 17) dX9_add_17 (show _ = (0 : Int) ∨ _ = (1 : Int) from by first | exact Or.inl rfl | exact Or.inr rfl | omega) ?_
      first | (exfalso; omega) | exact ⟨trivial, rfl⟩

set_option maxHeartbeats 4000000 in
theorem r_wr1  (m : Mem) (g : Int)   (hL : Lay (mT m) (mR m)) (hs : 0 ≤ mI m 30 22 ∧ mI m 30 22 < 120) : Ct μX11_writes 0 [vr 30, vi g] m (rv fun m' => apM 30 22 44 m [g] = m') := by
  refine Ct_of_V rfl (by decide) rfl (Nat.le_of_ble_eq_true rfl) ?_
  show V μX11_writes 0 m _ 0 [(0, vr 30), (1, vi g)] [] m
  refine V_rg (k := 1) (x := g) rfl fun r_g => ?_
  refine V_ld (pc := 0) dX11_writes_0 (v := vr 30) rfl rfl ?_
  refine V_getRv (pc := 1) dX11_writes_1 (o' := 44) fw_RX11_51 rfl hL.t30 hL.r30_21 ?_
  refine V_ld (pc := 4) dX11_writes_4 (v := vr 30) rfl rfl ?_
  refine V_getIv (pc := 5) dX11_writes_5 (v := mI m 30 22) fw_RX11_200 rfl hL.t30 rfl (fun g5 => ?_)
  refine V_ld (pc := 8) dX11_writes_8 (v := vi g) rfl rfl ?_
  refine V_iast (pc := 9) dX11_writes_9 hL.t44 (by omega) ?_
  refine V_ld (pc := 10) dX11_writes_10 (v := vr 30) rfl rfl ?_
  refine V_dup (pc := 11) dX11_writes_11 rfl ?_
  refine V_getIv (pc := 12) dX11_writes_12 (v := mI m 30 22) fw_RX11_200 rfl hL.t30 (by first | rfl | (simp only [mI_setI, up2]; repeat (first | rfl | rw [if_neg (by omega)] | rw [if_pos (by omega)]))) (fun g12 => ?_)
  refine V_iconst (pc := 15) dX11_writes_15 (by unfold I32; omega) ?_
  refine V_iadd (pc := 16) dX11_writes_16 (by unfold I32 at *; omega) ?_
  refine V_putI (pc := 17) dX11_writes_17 fw_RX11_200 rfl hL.t30 (Or.inl rfl) (Or.inl rfl) ?_
  refine V_retv (pc := 20) dX11_writes_20 trivial ?_
  first | exact rfl | exact ⟨rfl, rfl⟩

set_option maxHeartbeats 4000000 in
theorem c_wnum  (m : Mem) (v : Int)   (hL : Lay (mT m) (mR m)) (hx : 0 ≤ v ∧ v ≤ 99) (hr : 0 ≤ mI m 15 1 ∧ mI m 15 1 + (if 9 < v then 2 else 1) ≤ 120) : Ct μX4_writeNumber 1 [vi v, vr 15] m (rv fun m' => apM 15 1 16 m (numS v) = m') := by
  refine Ct_of_V rfl (by decide) rfl (Nat.le_of_ble_eq_true rfl) ?_
  show V μX4_writeNumber 1 m _ 0 [(0, vi v), (1, vr 15)] [] m
  refine V_rg (k := 0) (x := v) rfl fun r_v => ?_
  have hr2 : mI m 15 1 + 1 ≤ 120 ∧ (9 < v → mI m 15 1 + 2 ≤ 120) := ⟨by split at hr <;> omega, fun h => by rw [if_pos h] at hr; exact hr.2⟩
  refine V_ld (pc := 0) dX4_writeNumber_0 (v := vi v) rfl rfl ?_
  refine V_bipush (pc := 1) dX4_writeNumber_1 (by unfold I32; omega) (by decide) ?_
  refine V_icmp_le (pc := 3) dX4_writeNumber_3 (tgt := 18) rfl (fun h3 => ?_) (fun h3 => ?_)
  · skip
    refine V_ld (pc := 18) dX4_writeNumber_18 (v := vr 15) rfl rfl ?_
    refine V_bipush (pc := 19) dX4_writeNumber_19 (by unfold I32; omega) (by decide) ?_
    refine V_ld (pc := 21) dX4_writeNumber_21 (v := vi v) rfl rfl ?_
    refine V_bipush (pc := 22) dX4_writeNumber_22 (by unfold I32; omega) (by decide) ?_
    refine V_irem (pc := 24) dX4_writeNumber_24 (by omega) (by omega) ?_
    refine V_iadd (pc := 25) dX4_writeNumber_25 (by unfold I32 at *; omega) ?_
    refine V_callV (pc := 26) dX4_writeNumber_26 (F' := 0) (As := [vi (48 + (v % 10))]) (st := []) cw_RX4_35 rfl rfl hL.t15 (by decide) (Nat.le_of_ble_eq_true rfl) (by omega) (c_add1  m (48 + (v % 10))   (by first | assumption | omega) (by (try simp only [apM_sz, List.length_cons, List.length_nil, numS_len]); omega)) ?_
    rintro _ _ ⟨x26, rfl, -, rfl⟩ ok26 le26
    refine V_pop (pc := 29) dX4_writeNumber_29 rfl ?_
    refine V_retv (pc := 30) dX4_writeNumber_30 trivial ?_
    first
      | (exfalso; omega)
      | (rw [apM_app]
         exact congrArg (apM 15 1 16 m) (by unfold numS; rw [if_pos (by omega)]; first | done | rfl))
      | (exact congrArg (apM 15 1 16 m) (by unfold numS; rw [if_neg (by omega)]; first | done | rfl))
  · skip
    refine V_ld (pc := 6) dX4_writeNumber_6 (v := vr 15) rfl rfl ?_
    refine V_bipush (pc := 7) dX4_writeNumber_7 (by unfold I32; omega) (by decide) ?_
    refine V_ld (pc := 9) dX4_writeNumber_9 (v := vi v) rfl rfl ?_
    refine V_bipush (pc := 10) dX4_writeNumber_10 (by unfold I32; omega) (by decide) ?_
    refine V_idiv (pc := 12) dX4_writeNumber_12 (by omega) (by omega) ?_
    refine V_iadd (pc := 13) dX4_writeNumber_13 (by unfold I32 at *; omega) ?_
    refine V_callV (pc := 14) dX4_writeNumber_14 (F' := 0) (As := [vi (48 + (v / 10))]) (st := []) cw_RX4_35 rfl rfl hL.t15 (by decide) (Nat.le_of_ble_eq_true rfl) (by omega) (c_add1  m (48 + (v / 10))   (by first | assumption | omega) (by (try simp only [apM_sz, List.length_cons, List.length_nil, numS_len]); omega)) ?_
    rintro _ _ ⟨x14, rfl, -, rfl⟩ ok14 le14
    refine V_pop (pc := 17) dX4_writeNumber_17 rfl ?_
    refine V_ld (pc := 18) dX4_writeNumber_18 (v := vr 15) rfl rfl ?_
    refine V_bipush (pc := 19) dX4_writeNumber_19 (by unfold I32; omega) (by decide) ?_
    refine V_ld (pc := 21) dX4_writeNumber_21 (v := vi v) rfl rfl ?_
    refine V_bipush (pc := 22) dX4_writeNumber_22 (by unfold I32; omega) (by decide) ?_
    refine V_irem (pc := 24) dX4_writeNumber_24 (by omega) (by omega) ?_
    refine V_iadd (pc := 25) dX4_writeNumber_25 (by unfold I32 at *; omega) ?_
    refine V_callV (pc := 26) dX4_writeNumber_26 (F' := 0) (As := [vi (48 + (v % 10))]) (st := []) cw_RX4_35 rfl rfl hL.t15 (by decide) (Nat.le_of_ble_eq_true rfl) (by omega) (c_add1  (apM 15 1 16 m [(48 + (v / 10))]) (48 + (v % 10))   (by first | assumption | omega) (by (try simp only [apM_sz, List.length_cons, List.length_nil, numS_len]); omega)) ?_
    rintro _ _ ⟨x26, rfl, -, rfl⟩ ok26 le26
    refine V_pop (pc := 29) dX4_writeNumber_29 rfl ?_
    refine V_retv (pc := 30) dX4_writeNumber_30 trivial ?_
    first
      | (exfalso; omega)
      | (rw [apM_app]
         exact congrArg (apM 15 1 16 m) (by unfold numS; rw [if_pos (by omega)]; first | done | rfl))
      | (exact congrArg (apM 15 1 16 m) (by unfold numS; rw [if_neg (by omega)]; first | done | rfl))

set_option maxHeartbeats 4000000 in
theorem r_wnum  (m : Mem) (v : Int)   (hL : Lay (mT m) (mR m)) (hx : 0 ≤ v ∧ v ≤ 99) (hr : 0 ≤ mI m 30 22 ∧ mI m 30 22 + (if 9 < v then 2 else 1) ≤ 120) : Ct μX11_writesNumber 1 [vr 30, vi v] m (rv fun m' => apM 30 22 44 m (numS v) = m') := by
  refine Ct_of_V rfl (by decide) rfl (Nat.le_of_ble_eq_true rfl) ?_
  show V μX11_writesNumber 1 m _ 0 [(0, vr 30), (1, vi v)] [] m
  refine V_rg (k := 1) (x := v) rfl fun r_v => ?_
  have hr2 : mI m 30 22 + 1 ≤ 120 ∧ (9 < v → mI m 30 22 + 2 ≤ 120) := ⟨by split at hr <;> omega, fun h => by rw [if_pos h] at hr; exact hr.2⟩
  refine V_ld (pc := 0) dX11_writesNumber_0 (v := vi v) rfl rfl ?_
  refine V_bipush (pc := 1) dX11_writesNumber_1 (by unfold I32; omega) (by decide) ?_
  refine V_icmp_le (pc := 3) dX11_writesNumber_3 (tgt := 17) rfl (fun h3 => ?_) (fun h3 => ?_)
  · skip
    refine V_ld (pc := 17) dX11_writesNumber_17 (v := vr 30) rfl rfl ?_
    refine V_bipush (pc := 18) dX11_writesNumber_18 (by unfold I32; omega) (by decide) ?_
    refine V_ld (pc := 20) dX11_writesNumber_20 (v := vi v) rfl rfl ?_
    refine V_bipush (pc := 21) dX11_writesNumber_21 (by unfold I32; omega) (by decide) ?_
    refine V_irem (pc := 23) dX11_writesNumber_23 (by omega) (by omega) ?_
    refine V_iadd (pc := 24) dX11_writesNumber_24 (by unfold I32 at *; omega) ?_
    refine V_callV (pc := 25) dX11_writesNumber_25 (F' := 0) (As := [vi (48 + (v % 10))]) (st := []) cw_RX11_203 rfl rfl hL.t30 (by decide) (Nat.le_of_ble_eq_true rfl) (by omega) (r_wr1  m (48 + (v % 10))   (by first | assumption | omega) (by (try simp only [apM_sz, List.length_cons, List.length_nil, numS_len]); omega)) ?_
    rintro _ _ ⟨rfl, rfl⟩ ok25 le25
    refine V_retv (pc := 28) dX11_writesNumber_28 trivial ?_
    first
      | (exfalso; omega)
      | (rw [apM_app]
         exact congrArg (apM 30 22 44 m) (by unfold numS; rw [if_pos (by omega)]; first | done | rfl))
      | (exact congrArg (apM 30 22 44 m) (by unfold numS; rw [if_neg (by omega)]; first | done | rfl))
  · skip
    refine V_ld (pc := 6) dX11_writesNumber_6 (v := vr 30) rfl rfl ?_
    refine V_bipush (pc := 7) dX11_writesNumber_7 (by unfold I32; omega) (by decide) ?_
    refine V_ld (pc := 9) dX11_writesNumber_9 (v := vi v) rfl rfl ?_
    refine V_bipush (pc := 10) dX11_writesNumber_10 (by unfold I32; omega) (by decide) ?_
    refine V_idiv (pc := 12) dX11_writesNumber_12 (by omega) (by omega) ?_
    refine V_iadd (pc := 13) dX11_writesNumber_13 (by unfold I32 at *; omega) ?_
    refine V_callV (pc := 14) dX11_writesNumber_14 (F' := 0) (As := [vi (48 + (v / 10))]) (st := []) cw_RX11_203 rfl rfl hL.t30 (by decide) (Nat.le_of_ble_eq_true rfl) (by omega) (r_wr1  m (48 + (v / 10))   (by first | assumption | omega) (by (try simp only [apM_sz, List.length_cons, List.length_nil, numS_len]); omega)) ?_
    rintro _ _ ⟨rfl, rfl⟩ ok14 le14
    refine V_ld (pc := 17) dX11_writesNumber_17 (v := vr 30) rfl rfl ?_
    refine V_bipush (pc := 18) dX11_writesNumber_18 (by unfold I32; omega) (by decide) ?_
    refine V_ld (pc := 20) dX11_writesNumber_20 (v := vi v) rfl rfl ?_
    refine V_bipush (pc := 21) dX11_writesNumber_21 (by unfold I32; omega) (by decide) ?_
    refine V_irem (pc := 23) dX11_writesNumber_23 (by omega) (by omega) ?_
    refine V_iadd (pc := 24) dX11_writesNumber_24 (by unfold I32 at *; omega) ?_
    refine V_callV (pc := 25) dX11_writesNumber_25 (F' := 0) (As := [vi (48 + (v % 10))]) (st := []) cw_RX11_203 rfl rfl hL.t30 (by decide) (Nat.le_of_ble_eq_true rfl) (by omega) (r_wr1  (apM 30 22 44 m [(48 + (v / 10))]) (48 + (v % 10))   (by first | assumption | omega) (by (try simp only [apM_sz, List.length_cons, List.length_nil, numS_len]); omega)) ?_
    rintro _ _ ⟨rfl, rfl⟩ ok25 le25
    refine V_retv (pc := 28) dX11_writesNumber_28 trivial ?_
    first
      | (exfalso; omega)
      | (rw [apM_app]
         exact congrArg (apM 30 22 44 m) (by unfold numS; rw [if_pos (by omega)]; first | done | rfl))
      | (exact congrArg (apM 30 22 44 m) (by unfold numS; rw [if_neg (by omega)]; first | done | rfl))
