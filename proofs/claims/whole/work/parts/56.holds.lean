/-! holds(): class and reference ask a condition at a row -/
/-- a condition's code stands in the object c -/
def HasC (m : Mem) (c : Nat) (cd : List Int) : Prop := ∃ A, mT m c = (0, 1) ∧ mR m c 0 = some A ∧ mT m A = (20, cd.length) ∧ 59 ≤ c ∧ 59 ≤ A ∧ c < mN m ∧ A < mN m ∧ (∀ k x, cd[k]? = some x → mI m A k = x) ∧ okL cd ∧ cd.length ≤ 120
/-- what is at the letter w: no condition, or the code q -/
def CdAt (m : Mem) (arr w : Nat) (q : Option (List Int)) : Prop := match q with
  | none => mR m arr w = none
  | some cd => ∃ c, mR m arr w = some c ∧ HasC m c cd
/-- what a condition's code says -/
def cdV (e : CEnv) (q : Option (List Int)) : Int := match q with
  | none => 1
  | some cd => if and64 (runL e cd 0) 1 = 1 then 1 else 0
theorem HasC.fr {m m' : Mem} {c : Nat} {cd : List Int} (h : HasC m c cd) (hN : mN m ≤ mN m') (hT : ∀ o, 59 ≤ o → o < mN m → mT m' o = mT m o) (hR : ∀ o k, 59 ≤ o → o < mN m → mR m' o k = mR m o k) (hI : ∀ o k, 59 ≤ o → o < mN m → mT m o ≠ (9, 9) → mI m' o k = mI m o k) : HasC m' c cd := by
  obtain ⟨A, h1, h2, h3, h4, h5, h6, h7, h8, h9⟩ := h
  exact ⟨A, (hT c h4 h6).trans h1, (hR c 0 h4 h6).trans h2, (hT A h5 h7).trans h3, h4, h5, by omega, by omega, fun k x hx => (hI A k h5 h7 (by rw [h3]; intro e; cases e)).trans (h8 k x hx), h9⟩

set_option maxHeartbeats 4000000 in
theorem d_allowsN (e : CEnv) (m : Mem) (w : Int) (row : Int)   (hL : Lay (mT m) (mR m)) (hw : 0 ≤ w ∧ w < 26 ∧ 0 ≤ row ∧ row < 32) (hq : CdAt m 4 w.toNat none) : Ct μX6_allows 5 [vr 9, vi w, vi row] m (ri fun x_ m' => (x_ = cdV e none) ∧ setI (setI m 9 6 row) 10 row.toNat w = m') := by
  refine Ct_of_V rfl (by decide) rfl (Nat.le_of_ble_eq_true rfl) ?_
  show V μX6_allows 5 m _ 0 [(0, vr 9), (1, vi w), (2, vi row)] [] m
  refine V_rg (k := 1) (x := w) rfl fun r_w => ?_
  refine V_rg (k := 2) (x := row) rfl fun r_row => ?_
  refine V_ld (pc := 0) dX6_allows_0 (v := vi w) rfl rfl ?_
  refine V_callSN (pc := 1) dX6_allows_1 (F' := 0) (As := [vi w]) (st := []) cn_RX6_140 rfl rfl (Nat.le_of_ble_eq_true rfl) (by omega) (c_isLetter  m w   ) ?_
  rintro _ _ ⟨x1, rfl, hx1, rfl⟩ ok1 le1
  refine V_if_eq (pc := 4) dX6_allows_4 (tgt := 17) rfl (fun h4 => ?_) (fun h4 => ?_)
  · skip
    refine V_iconst (pc := 17) dX6_allows_17 (by unfold I32; omega) ?_
    refine V_reti (pc := 18) dX6_allows_18 (show _ = (0 : Int) ∨ _ = (1 : Int) from by first | exact Or.inl rfl | exact Or.inr rfl | omega) ?_
    first | (exfalso; omega) | exact ⟨rfl, rfl⟩
  · skip
    refine V_ld (pc := 7) dX6_allows_7 (v := vi row) rfl rfl ?_
    refine V_if_lt (pc := 8) dX6_allows_8 (tgt := 17) rfl (fun h8 => ?_) (fun h8 => ?_)
    · skip
      refine V_iconst (pc := 17) dX6_allows_17 (by unfold I32; omega) ?_
      refine V_reti (pc := 18) dX6_allows_18 (show _ = (0 : Int) ∨ _ = (1 : Int) from by first | exact Or.inl rfl | exact Or.inr rfl | omega) ?_
      first | (exfalso; omega) | exact ⟨rfl, rfl⟩
    · skip
      refine V_ld (pc := 11) dX6_allows_11 (v := vi row) rfl rfl ?_
      refine V_bipush (pc := 12) dX6_allows_12 (by unfold I32; omega) (by decide) ?_
      refine V_icmp_lt (pc := 14) dX6_allows_14 (tgt := 19) rfl (fun h14 => ?_) (fun h14 => ?_)
      · skip
        refine V_ld (pc := 19) dX6_allows_19 (v := vr 9) rfl rfl ?_
        refine V_getRv (pc := 20) dX6_allows_20 (o' := 1) fw_RX6_21 rfl hL.t9 hL.r9_0 ?_
        refine V_getRv (pc := 23) dX6_allows_23 (o' := 4) fw_RX6_144 rfl hL.t1 hL.r1_1 ?_
        refine V_ld (pc := 26) dX6_allows_26 (v := vi w) rfl rfl ?_
        refine V_aaldv (pc := 27) dX6_allows_27 (q := none) hL.t4 (by decide) (by omega) hq ?_
        refine V_st (pc := 28) dX6_allows_28 (ls' := [(3, vq none), (0, vr 9), (1, vi w), (2, vi row)]) rfl (Nat.le_of_ble_eq_true rfl) rfl ?_
        refine V_ld (pc := 29) dX6_allows_29 (v := vr 9) rfl rfl ?_
        refine V_ld (pc := 30) dX6_allows_30 (v := vi row) rfl rfl ?_
        refine V_putI (pc := 31) dX6_allows_31 fw_RX6_73 rfl hL.t9 (Or.inl rfl) (Or.inl rfl) ?_
        refine V_ld (pc := 34) dX6_allows_34 (v := vr 9) rfl rfl ?_
        refine V_getRv (pc := 35) dX6_allows_35 (o' := 10) fw_RX6_9 rfl hL.t9 hL.r9_1 ?_
        refine V_ld (pc := 38) dX6_allows_38 (v := vi row) rfl rfl ?_
        refine V_ld (pc := 39) dX6_allows_39 (v := vi w) rfl rfl ?_
        refine V_iast (pc := 40) dX6_allows_40 hL.t10 (by omega) ?_
        refine V_ld (pc := 41) dX6_allows_41 (v := vq none) rfl rfl ?_
        refine V_ifnull (pc := 42) dX6_allows_42 (tgt := 54) rfl (fun _ => ?_) (fun _ h_ => by cases h_)
        refine V_iconst (pc := 54) dX6_allows_54 (by unfold I32; omega) ?_
        refine V_goto (pc := 55) dX6_allows_55 (tgt := 59) rfl ?_
        refine V_reti (pc := 59) dX6_allows_59 (show _ = (0 : Int) ∨ _ = (1 : Int) from by first | exact Or.inl rfl | exact Or.inr rfl | omega) ?_
        first | (exfalso; omega) | exact ⟨rfl, rfl⟩
      · skip
        refine V_iconst (pc := 17) dX6_allows_17 (by unfold I32; omega) ?_
        refine V_reti (pc := 18) dX6_allows_18 (show _ = (0 : Int) ∨ _ = (1 : Int) from by first | exact Or.inl rfl | exact Or.inr rfl | omega) ?_
        first | (exfalso; omega) | exact ⟨rfl, rfl⟩

set_option maxHeartbeats 4000000 in
theorem d_allowsS (e : CEnv) (cd : List Int) (m : Mem) (w : Int) (row : Int)   (hL : Lay (mT m) (mR m)) (hw : 0 ≤ w ∧ w < 26 ∧ 0 ≤ row ∧ row < 32) (hq : CdAt m 4 w.toNat (some cd)) (hA : AgC (mI (setI (setI m 9 6 row) 10 row.toNat w)) row e) : Ct μX6_allows 5 [vr 9, vi w, vi row] m (ri fun x_ m' => (x_ = cdV e (some cd)) ∧ setI (setI m 9 6 row) 10 row.toNat w = m') := by
  refine Ct_of_V rfl (by decide) rfl (Nat.le_of_ble_eq_true rfl) ?_
  show V μX6_allows 5 m _ 0 [(0, vr 9), (1, vi w), (2, vi row)] [] m
  refine V_rg (k := 1) (x := w) rfl fun r_w => ?_
  refine V_rg (k := 2) (x := row) rfl fun r_row => ?_
  obtain ⟨c0, hc0, A, hc1, hc2, hc3, hc4, hc5, hc6, hc7, hc8, hc9⟩ := hq
  refine V_ld (pc := 0) dX6_allows_0 (v := vi w) rfl rfl ?_
  refine V_callSN (pc := 1) dX6_allows_1 (F' := 0) (As := [vi w]) (st := []) cn_RX6_140 rfl rfl (Nat.le_of_ble_eq_true rfl) (by omega) (c_isLetter  m w   ) ?_
  rintro _ _ ⟨x1, rfl, hx1, rfl⟩ ok1 le1
  refine V_if_eq (pc := 4) dX6_allows_4 (tgt := 17) rfl (fun h4 => ?_) (fun h4 => ?_)
  · skip
    refine V_iconst (pc := 17) dX6_allows_17 (by unfold I32; omega) ?_
    refine V_reti (pc := 18) dX6_allows_18 (show _ = (0 : Int) ∨ _ = (1 : Int) from by first | exact Or.inl rfl | exact Or.inr rfl | omega) ?_
    first
      | (exfalso; omega)
      | (refine ⟨?_, rfl⟩
         show _ = (if and64 (runL e cd 0) 1 = 1 then 1 else 0)
         omega)
  · skip
    refine V_ld (pc := 7) dX6_allows_7 (v := vi row) rfl rfl ?_
    refine V_if_lt (pc := 8) dX6_allows_8 (tgt := 17) rfl (fun h8 => ?_) (fun h8 => ?_)
    · skip
      refine V_iconst (pc := 17) dX6_allows_17 (by unfold I32; omega) ?_
      refine V_reti (pc := 18) dX6_allows_18 (show _ = (0 : Int) ∨ _ = (1 : Int) from by first | exact Or.inl rfl | exact Or.inr rfl | omega) ?_
      first
        | (exfalso; omega)
        | (refine ⟨?_, rfl⟩
           show _ = (if and64 (runL e cd 0) 1 = 1 then 1 else 0)
           omega)
    · skip
      refine V_ld (pc := 11) dX6_allows_11 (v := vi row) rfl rfl ?_
      refine V_bipush (pc := 12) dX6_allows_12 (by unfold I32; omega) (by decide) ?_
      refine V_icmp_lt (pc := 14) dX6_allows_14 (tgt := 19) rfl (fun h14 => ?_) (fun h14 => ?_)
      · skip
        refine V_ld (pc := 19) dX6_allows_19 (v := vr 9) rfl rfl ?_
        refine V_getRv (pc := 20) dX6_allows_20 (o' := 1) fw_RX6_21 rfl hL.t9 hL.r9_0 ?_
        refine V_getRv (pc := 23) dX6_allows_23 (o' := 4) fw_RX6_144 rfl hL.t1 hL.r1_1 ?_
        refine V_ld (pc := 26) dX6_allows_26 (v := vi w) rfl rfl ?_
        refine V_aaldv (pc := 27) dX6_allows_27 (q := some c0) hL.t4 (by decide) (by omega) hc0 ?_
        refine V_st (pc := 28) dX6_allows_28 (ls' := [(3, vr c0), (0, vr 9), (1, vi w), (2, vi row)]) rfl (Nat.le_of_ble_eq_true rfl) rfl ?_
        refine V_ld (pc := 29) dX6_allows_29 (v := vr 9) rfl rfl ?_
        refine V_ld (pc := 30) dX6_allows_30 (v := vi row) rfl rfl ?_
        refine V_putI (pc := 31) dX6_allows_31 fw_RX6_73 rfl hL.t9 (Or.inl rfl) (Or.inl rfl) ?_
        refine V_ld (pc := 34) dX6_allows_34 (v := vr 9) rfl rfl ?_
        refine V_getRv (pc := 35) dX6_allows_35 (o' := 10) fw_RX6_9 rfl hL.t9 hL.r9_1 ?_
        refine V_ld (pc := 38) dX6_allows_38 (v := vi row) rfl rfl ?_
        refine V_ld (pc := 39) dX6_allows_39 (v := vi w) rfl rfl ?_
        refine V_iast (pc := 40) dX6_allows_40 hL.t10 (by omega) ?_
        refine V_ld (pc := 41) dX6_allows_41 (v := vr c0) rfl rfl ?_
        refine V_ifnull (pc := 42) dX6_allows_42 (tgt := 54) rfl (fun h_ => by cases h_) (fun _ _ => ?_)
        refine V_ld (pc := 45) dX6_allows_45 (v := vr c0) rfl rfl ?_
        refine V_ld (pc := 46) dX6_allows_46 (v := vr 9) rfl rfl ?_
        refine V_ld (pc := 47) dX6_allows_47 (v := vi row) rfl rfl ?_
        refine V_callV (pc := 48) dX6_allows_48 (F' := 4) (As := [vr 9, vi row]) (st := []) cw_RX6_148 rfl rfl hc1 (by decide) (Nat.le_of_ble_eq_true rfl) (by omega) (d_isTrue e cd (setI (setI m 9 6 row) 10 row.toNat w) c0 row A  (by first | assumption | omega) hc1 hc2 hc3 hA (fun k x hx => (up2_no (by omega)).trans ((up2_no (by omega)).trans (hc8 k x hx))) hc9) ?_
        rintro _ _ ⟨x48, rfl, hx48, rfl⟩ ok48 le48
        refine V_if_eq (pc := 51) dX6_allows_51 (tgt := 58) rfl (fun h51 => ?_) (fun h51 => ?_)
        · skip
          refine V_iconst (pc := 58) dX6_allows_58 (by unfold I32; omega) ?_
          refine V_reti (pc := 59) dX6_allows_59 (show _ = (0 : Int) ∨ _ = (1 : Int) from by first | exact Or.inl rfl | exact Or.inr rfl | omega) ?_
          first
            | (exfalso; omega)
            | (refine ⟨?_, rfl⟩
               show _ = (if and64 (runL e cd 0) 1 = 1 then 1 else 0)
               omega)
        · skip
          refine V_iconst (pc := 54) dX6_allows_54 (by unfold I32; omega) ?_
          refine V_goto (pc := 55) dX6_allows_55 (tgt := 59) rfl ?_
          refine V_reti (pc := 59) dX6_allows_59 (show _ = (0 : Int) ∨ _ = (1 : Int) from by first | exact Or.inl rfl | exact Or.inr rfl | omega) ?_
          first
            | (exfalso; omega)
            | (refine ⟨?_, rfl⟩
               show _ = (if and64 (runL e cd 0) 1 = 1 then 1 else 0)
               omega)
      · skip
        refine V_iconst (pc := 17) dX6_allows_17 (by unfold I32; omega) ?_
        refine V_reti (pc := 18) dX6_allows_18 (show _ = (0 : Int) ∨ _ = (1 : Int) from by first | exact Or.inl rfl | exact Or.inr rfl | omega) ?_
        first
          | (exfalso; omega)
          | (refine ⟨?_, rfl⟩
             show _ = (if and64 (runL e cd 0) 1 = 1 then 1 else 0)
             omega)

set_option maxHeartbeats 4000000 in
theorem L_hold {F : Nat} {m0 m : Mem} {post : Option AV → Mem → Prop} {n : Nat} {w fro row : Int} (hL : Lay (mT m) (mR m)) (hw : 0 ≤ w ∧ w < 26) (hsz : mI m 30 6 = (n : Int)) (hn : n ≤ 120) (kx : V μX11_isHolding F m0 post 74 [(5, vi ((n : Nat) : Int)), (4, vi (186 + 121 * w)), (0, vr 30), (1, vi w), (2, vi fro), (3, vi row)] [] (cpyI m 31 (187 + 121 * w).toNat 34 0 n)) : ∀ (dd i : Nat), dd + i = n → V μX11_isHolding F m0 post 40 [(5, vi ((i : Nat) : Int)), (4, vi (186 + 121 * w)), (0, vr 30), (1, vi w), (2, vi fro), (3, vi row)] [] (cpyI m 31 (187 + 121 * w).toNat 34 0 i) := by
  intro dd
  induction dd with
  | zero =>
    intro i hi
    obtain rfl : n = i := by omega
    refine V_ld (pc := 40) dX11_isHolding_40 (v := vi ((n : Nat) : Int)) rfl rfl ?_
    refine V_ld (pc := 42) dX11_isHolding_42 (v := vr 30) rfl rfl ?_
    refine V_getIv (pc := 43) dX11_isHolding_43 (v := (n : Int)) fw_RX11_122 rfl hL.t30 (by rw [mI_cpyI, if_neg (by omega)]; exact hsz) (fun g43 => ?_)
    refine V_icmp_ge (pc := 46) dX11_isHolding_46 (tgt := 74) rfl (fun h46 => ?_) (fun h46 => ?_)
    · skip
      first | exact kx | (skip; exact kx) | (exfalso; omega)
    · skip
      refine V_ld (pc := 49) dX11_isHolding_49 (v := vr 30) rfl rfl ?_
      refine V_getRv (pc := 50) dX11_isHolding_50 (o' := 34) fw_RX11_21 rfl hL.t30 hL.r30_5 ?_
      refine V_ld (pc := 53) dX11_isHolding_53 (v := vi ((n : Nat) : Int)) rfl rfl ?_
      refine V_ld (pc := 55) dX11_isHolding_55 (v := vr 30) rfl rfl ?_
      refine V_getRv (pc := 56) dX11_isHolding_56 (o' := 31) fw_RX11_9 rfl hL.t30 hL.r30_0 ?_
      refine V_ld (pc := 59) dX11_isHolding_59 (v := vi (186 + 121 * w)) rfl rfl ?_
      refine V_iconst (pc := 61) dX11_isHolding_61 (by unfold I32; omega) ?_
      refine V_iadd (pc := 62) dX11_isHolding_62 (by unfold I32 at *; omega) ?_
      refine V_ld (pc := 63) dX11_isHolding_63 (v := vi ((n : Nat) : Int)) rfl rfl ?_
      refine V_iadd (pc := 65) dX11_isHolding_65 (by unfold I32 at *; omega) ?_
      refine V_ialdv (pc := 66) dX11_isHolding_66 (v := mI (cpyI m 31 (187 + 121 * w).toNat 34 0 n) 31 ((((186 + 121 * w) + 1) + ((n : Nat) : Int)).toNat)) hL.t31 (by omega) rfl (fun g66 => ?_)
      refine V_iast (pc := 67) dX11_isHolding_67 hL.t34 (by omega) ?_
      refine V_iinc (pc := 68) dX11_isHolding_68 (x := ((n : Nat) : Int)) (ls' := [(5, vi (((n : Nat) : Int) + 1)), (4, vi (186 + 121 * w)), (0, vr 30), (1, vi w), (2, vi fro), (3, vi row)]) rfl (by unfold I32 at *; omega) (Nat.le_of_ble_eq_true rfl) rfl ?_
      refine V_goto (pc := 71) dX11_isHolding_71 (tgt := 40) rfl ?_
      exfalso; omega
  | succ dd ih =>
    intro i hi
    refine V_ld (pc := 40) dX11_isHolding_40 (v := vi ((i : Nat) : Int)) rfl rfl ?_
    refine V_ld (pc := 42) dX11_isHolding_42 (v := vr 30) rfl rfl ?_
    refine V_getIv (pc := 43) dX11_isHolding_43 (v := (n : Int)) fw_RX11_122 rfl hL.t30 (by rw [mI_cpyI, if_neg (by omega)]; exact hsz) (fun g43 => ?_)
    refine V_icmp_ge (pc := 46) dX11_isHolding_46 (tgt := 74) rfl (fun h46 => ?_) (fun h46 => ?_)
    · skip
      exfalso; omega
    · skip
      refine V_ld (pc := 49) dX11_isHolding_49 (v := vr 30) rfl rfl ?_
      refine V_getRv (pc := 50) dX11_isHolding_50 (o' := 34) fw_RX11_21 rfl hL.t30 hL.r30_5 ?_
      refine V_ld (pc := 53) dX11_isHolding_53 (v := vi ((i : Nat) : Int)) rfl rfl ?_
      refine V_ld (pc := 55) dX11_isHolding_55 (v := vr 30) rfl rfl ?_
      refine V_getRv (pc := 56) dX11_isHolding_56 (o' := 31) fw_RX11_9 rfl hL.t30 hL.r30_0 ?_
      refine V_ld (pc := 59) dX11_isHolding_59 (v := vi (186 + 121 * w)) rfl rfl ?_
      refine V_iconst (pc := 61) dX11_isHolding_61 (by unfold I32; omega) ?_
      refine V_iadd (pc := 62) dX11_isHolding_62 (by unfold I32 at *; omega) ?_
      refine V_ld (pc := 63) dX11_isHolding_63 (v := vi ((i : Nat) : Int)) rfl rfl ?_
      refine V_iadd (pc := 65) dX11_isHolding_65 (by unfold I32 at *; omega) ?_
      refine V_ialdv (pc := 66) dX11_isHolding_66 (v := mI (cpyI m 31 (187 + 121 * w).toNat 34 0 i) 31 ((((186 + 121 * w) + 1) + ((i : Nat) : Int)).toNat)) hL.t31 (by omega) rfl (fun g66 => ?_)
      refine V_iast (pc := 67) dX11_isHolding_67 hL.t34 (by omega) ?_
      refine V_iinc (pc := 68) dX11_isHolding_68 (x := ((i : Nat) : Int)) (ls' := [(5, vi (((i : Nat) : Int) + 1)), (4, vi (186 + 121 * w)), (0, vr 30), (1, vi w), (2, vi fro), (3, vi row)]) rfl (by unfold I32 at *; omega) (Nat.le_of_ble_eq_true rfl) rfl ?_
      refine V_goto (pc := 71) dX11_isHolding_71 (tgt := 40) rfl ?_
      skip
      refine V_mem (cpyI_s (by omega) (by (rw [mI_cpyI, if_neg (by omega)]) <;> (first | rfl | (congr 1; omega)))) ?_
      exact ih (i + 1) (by omega)

/-- the environment of a search: letters with one more -/
def envH (I : Nat → Nat → Int) (fro row w : Int) : CEnv := (fro, row, fun k => up2 (I) 45 row.toNat w 45 k, I 31 64, fun k => I 31 k)
def RFh (row : Int) (I I' : Nat → Nat → Int) : Prop := ∀ o k, o ≠ 34 → ¬ (o = 45 ∧ k = row.toNat) → ¬ (o = 30 ∧ (k = 6 ∨ k = 7 ∨ k = 8 ∨ k = 24 ∨ k = 25 ∨ k = 26 ∨ k = 27)) → I' o k = I o k
/-- the text of a letter's condition in a row of numbers -/
def CdTx (I : Nat → Nat → Int) (arr w : Nat) (tx : Nat → Int) (n : Nat) : Prop := I arr (186 + 121 * w) = (n : Int) ∧ n ≤ 120 ∧ ∀ k, k < n → I arr (187 + 121 * w + k) = tx k ∧ 1 ≤ tx k ∧ tx k ≤ 127
def cdR (e : CEnv) (tx : Nat → Int) (n : Nat) : Int := if n = 0 then 1 else bI ((eitL tx n 4 (true, 0)).2.1 e)

set_option maxHeartbeats 8000000 in
theorem r_isHolding (tx : Nat → Int) (n : Nat) (m : Mem) (w : Int) (fro : Int) (row : Int)   (hL : Lay (mT m) (mR m)) (hw : 0 ≤ w ∧ w < 26 ∧ 0 ≤ fro ∧ fro ≤ row ∧ row < mI m 31 64 ∧ mI m 31 64 ≤ 32 ∧ (mI m 30 27 = 0 ∨ mI m 30 27 = 1) ∧ ∀ k, k < 64 → -999 ≤ mI m 31 k ∧ mI m 31 k ≤ 1000) (ht : CdTx (mI m) 31 w.toNat tx n) (hv : n ≠ 0 → (eitL tx n 4 (true, 0)).2.2.1 = true) : Ct μX11_isHolding 20 [vr 30, vi w, vi fro, vi row] m (ri fun x_ m' => ∃ I_ : Nat → Nat → Int, wI m I_ = m' ∧ (x_ = cdR (envH (mI m) fro row w) tx n) ∧ RFh row (mI m) I_ ∧ I_ 45 row.toNat = w ∧ (I_ 30 27 = 0 ∨ I_ 30 27 = 1)) := by
  refine Ct_of_V rfl (by decide) rfl (Nat.le_of_ble_eq_true rfl) ?_
  show V μX11_isHolding 20 m _ 0 [(0, vr 30), (1, vi w), (2, vi fro), (3, vi row)] [] m
  refine V_rg (k := 1) (x := w) rfl fun r_w => ?_
  refine V_rg (k := 2) (x := fro) rfl fun r_fro => ?_
  refine V_rg (k := 3) (x := row) rfl fun r_row => ?_
  have hnn := ht.2.1
  refine V_ld (pc := 0) dX11_isHolding_0 (v := vr 30) rfl rfl ?_
  refine V_getRv (pc := 1) dX11_isHolding_1 (o' := 45) fw_RX11_54 rfl hL.t30 hL.r30_23 ?_
  refine V_ld (pc := 4) dX11_isHolding_4 (v := vi row) rfl rfl ?_
  refine V_ld (pc := 5) dX11_isHolding_5 (v := vi w) rfl rfl ?_
  refine V_iast (pc := 6) dX11_isHolding_6 hL.t45 (by omega) ?_
  refine V_sipush (pc := 7) dX11_isHolding_7 (by unfold I32; omega) (by decide) ?_
  refine V_bipush (pc := 10) dX11_isHolding_10 (by unfold I32; omega) (by decide) ?_
  refine V_ld (pc := 12) dX11_isHolding_12 (v := vi w) rfl rfl ?_
  refine V_imul (pc := 13) dX11_isHolding_13 (by unfold I32 at *; omega) ?_
  refine V_iadd (pc := 14) dX11_isHolding_14 (by unfold I32 at *; omega) ?_
  refine V_st (pc := 15) dX11_isHolding_15 (ls' := [(4, vi (186 + (121 * w))), (0, vr 30), (1, vi w), (2, vi fro), (3, vi row)]) rfl (Nat.le_of_ble_eq_true rfl) rfl ?_
  refine V_ld (pc := 17) dX11_isHolding_17 (v := vr 30) rfl rfl ?_
  refine V_ld (pc := 18) dX11_isHolding_18 (v := vr 30) rfl rfl ?_
  refine V_getRv (pc := 19) dX11_isHolding_19 (o' := 31) fw_RX11_9 rfl hL.t30 hL.r30_0 ?_
  refine V_ld (pc := 22) dX11_isHolding_22 (v := vi (186 + (121 * w))) rfl rfl ?_
  refine V_ialdv (pc := 24) dX11_isHolding_24 (v := (n : Int)) hL.t31 (by omega) (by first | exact (by have h_ := ht.1; rw [show 186 + 121 * w.toNat = (186 + 121 * w).toNat from by omega] at h_; exact h_) | (simp only [mI_setI, up2]; repeat (first | exact (by have h_ := ht.1; rw [show 186 + 121 * w.toNat = (186 + 121 * w).toNat from by omega] at h_; exact h_) | rw [if_neg (by omega)]))) (fun g24 => ?_)
  refine V_putI (pc := 25) dX11_isHolding_25 fw_RX11_122 rfl hL.t30 (Or.inl rfl) (Or.inl rfl) ?_
  refine V_ld (pc := 28) dX11_isHolding_28 (v := vr 30) rfl rfl ?_
  refine V_getIv (pc := 29) dX11_isHolding_29 (v := (n : Int)) fw_RX11_122 rfl hL.t30 (by first | rfl | (simp only [mI_setI, up2]; repeat (first | rfl | rw [if_neg (by omega)] | rw [if_pos (by omega)]))) (fun g29 => ?_)
  refine V_if_ne (pc := 32) dX11_isHolding_32 (tgt := 37) rfl (fun h32 => ?_) (fun h32 => ?_)
  · skip
    refine V_iconst (pc := 37) dX11_isHolding_37 (by unfold I32; omega) ?_
    refine V_st (pc := 38) dX11_isHolding_38 (ls' := [(5, vi 0), (4, vi (186 + (121 * w))), (0, vr 30), (1, vi w), (2, vi fro), (3, vi row)]) rfl (Nat.le_of_ble_eq_true rfl) rfl ?_
    have hsz_ : mI (setI (setI m 45 row.toNat w) 30 6 (n : Int)) 30 6 = (n : Int) := mI_sets
    refine V_ls (ls' := [(5, vi ((0 : Nat) : Int)), (4, vi (186 + 121 * w)), (0, vr 30), (1, vi w), (2, vi fro), (3, vi row)]) (by intro q_ h_; simp only [List.mem_cons, List.not_mem_nil, or_false] at h_ ⊢; rcases h_ with rfl | rfl | rfl | rfl | rfl | rfl <;> simp) ?_
    refine V_mem (cpyI_0 (a := 31) (sp := (187 + 121 * w).toNat) (b := 34) (dp := 0)).symm ?_
    refine L_hold (m := setI (setI m 45 row.toNat w) 30 6 (n : Int)) (n := n) (w := w) (fro := fro) (row := row) hL ⟨hw.1, hw.2.1⟩ hsz_ ht.2.1 ?_ n 0 (by omega)
    refine V_ld (pc := 74) dX11_isHolding_74 (v := vr 30) rfl rfl ?_
    refine V_iconst (pc := 75) dX11_isHolding_75 (by unfold I32; omega) ?_
    refine V_putI (pc := 76) dX11_isHolding_76 fw_RX11_125 rfl hL.t30 (Or.inl rfl) (Or.inl rfl) ?_
    refine V_ld (pc := 79) dX11_isHolding_79 (v := vr 30) rfl rfl ?_
    refine V_iconst (pc := 80) dX11_isHolding_80 (by unfold I32; omega) ?_
    refine V_putI (pc := 81) dX11_isHolding_81 fw_RX11_128 rfl hL.t30 (Or.inl rfl) (Or.inr ⟨rfl, by first | exact Or.inl rfl | exact Or.inr rfl | omega⟩) ?_
    refine V_ld (pc := 84) dX11_isHolding_84 (v := vr 30) rfl rfl ?_
    refine V_iconst (pc := 85) dX11_isHolding_85 (by unfold I32; omega) ?_
    refine V_putI (pc := 86) dX11_isHolding_86 fw_RX11_246 rfl hL.t30 (Or.inl rfl) (Or.inl rfl) ?_
    refine V_ld (pc := 89) dX11_isHolding_89 (v := vr 30) rfl rfl ?_
    refine V_ld (pc := 90) dX11_isHolding_90 (v := vi fro) rfl rfl ?_
    refine V_putI (pc := 91) dX11_isHolding_91 fw_RX11_222 rfl hL.t30 (Or.inl rfl) (Or.inl rfl) ?_
    refine V_ld (pc := 94) dX11_isHolding_94 (v := vr 30) rfl rfl ?_
    refine V_ld (pc := 95) dX11_isHolding_95 (v := vi row) rfl rfl ?_
    refine V_putI (pc := 96) dX11_isHolding_96 fw_RX11_216 rfl hL.t30 (Or.inl rfl) (Or.inl rfl) ?_
    have hC : ∀ o k, mI (setI (setI (setI (setI (setI (cpyI (setI (setI m 45 row.toNat w) 30 6 (n : Int)) 31 (187 + 121 * w).toNat 34 0 n) 30 7 0) 30 8 1) 30 26 0) 30 24 fro) 30 25 row) o k = up2 (up2 (up2 (up2 (up2 (mI (cpyI (setI (setI m 45 row.toNat w) 30 6 (n : Int)) 31 (187 + 121 * w).toNat 34 0 n)) 30 7 0) 30 8 1) 30 26 0) 30 24 fro) 30 25 row o k := fun _ _ => rfl
    have hC2 : ∀ o k, mI (cpyI (setI (setI m 45 row.toNat w) 30 6 (n : Int)) 31 (187 + 121 * w).toNat 34 0 n) o k = if o = 34 ∧ 0 ≤ k ∧ k < 0 + n then mI (setI (setI m 45 row.toNat w) 30 6 (n : Int)) 31 ((187 + 121 * w).toNat + (k - 0)) else mI (setI (setI m 45 row.toNat w) 30 6 (n : Int)) o k := fun _ _ => mI_cpyI
    have hC3 : ∀ o k, mI (setI (setI m 45 row.toNat w) 30 6 (n : Int)) o k = up2 (up2 (mI m) 45 row.toNat w) 30 6 (n : Int) o k := fun _ _ => rfl
    have hFq : RFh row (mI m) (mI (setI (setI (setI (setI (setI (cpyI (setI (setI m 45 row.toNat w) 30 6 (n : Int)) 31 (187 + 121 * w).toNat 34 0 n) 30 7 0) 30 8 1) 30 26 0) 30 24 fro) 30 25 row)) := by
      intro o k h1 h2 h3
      rw [hC, up2_nx (by omega), up2_nx (by omega), up2_nx (by omega), up2_nx (by omega), up2_nx (by omega), hC2, if_neg (by omega), hC3, up2_nx (by omega), up2_nx h2]
    have h45 : mI (setI (setI (setI (setI (setI (cpyI (setI (setI m 45 row.toNat w) 30 6 (n : Int)) 31 (187 + 121 * w).toNat 34 0 n) 30 7 0) 30 8 1) 30 26 0) 30 24 fro) 30 25 row) 45 row.toNat = w := by
      rw [hC, up2_nx (by omega), up2_nx (by omega), up2_nx (by omega), up2_nx (by omega), up2_nx (by omega), hC2, if_neg (by omega), hC3, up2_nx (by omega), up2_s]
    have h24 : mI (setI (setI (setI (setI (setI (cpyI (setI (setI m 45 row.toNat w) 30 6 (n : Int)) 31 (187 + 121 * w).toNat 34 0 n) 30 7 0) 30 8 1) 30 26 0) 30 24 fro) 30 25 row) 30 24 = fro := by rw [hC, up2_nx (by omega), up2_s]
    have h25 : mI (setI (setI (setI (setI (setI (cpyI (setI (setI m 45 row.toNat w) 30 6 (n : Int)) 31 (187 + 121 * w).toNat 34 0 n) 30 7 0) 30 8 1) 30 26 0) 30 24 fro) 30 25 row) 30 25 = row := by rw [hC, up2_s]
    have h26 : mI (setI (setI (setI (setI (setI (cpyI (setI (setI m 45 row.toNat w) 30 6 (n : Int)) 31 (187 + 121 * w).toNat 34 0 n) 30 7 0) 30 8 1) 30 26 0) 30 24 fro) 30 25 row) 30 26 = 0 := by rw [hC, up2_nx (by omega), up2_nx (by omega), up2_s]
    have hRQ : RQ (mI (setI (setI (setI (setI (setI (cpyI (setI (setI m 45 row.toNat w) 30 6 (n : Int)) 31 (187 + 121 * w).toNat 34 0 n) 30 7 0) 30 8 1) 30 26 0) 30 24 fro) 30 25 row)) tx n (true, 0) := by
      refine ⟨?_, ?_, ?_, Nat.zero_le _, ht.2.1, fun k hk => ⟨?_, (ht.2.2 k hk).2⟩⟩
      · rw [hC, up2_nx (by omega), up2_nx (by omega), up2_nx (by omega), up2_nx (by omega), up2_nx (by omega), hC2, if_neg (by omega), hC3, up2_s]
      · rw [hC, up2_nx (by omega), up2_nx (by omega), up2_nx (by omega), up2_nx (by omega), up2_s]; rfl
      · rw [hC, up2_nx (by omega), up2_nx (by omega), up2_nx (by omega), up2_s]; rfl
      · rw [hC, up2_nx (by omega), up2_nx (by omega), up2_nx (by omega), up2_nx (by omega), up2_nx (by omega), hC2, if_pos (by omega), hC3, up2_nx (by omega), up2_nx (by omega)]
        rw [show (187 + 121 * w).toNat + (k - 0) = 187 + 121 * w.toNat + k from by omega]
        exact (ht.2.2 k hk).1
    have h31 : ∀ k, mI (setI (setI (setI (setI (setI (cpyI (setI (setI m 45 row.toNat w) 30 6 (n : Int)) 31 (187 + 121 * w).toNat 34 0 n) 30 7 0) 30 8 1) 30 26 0) 30 24 fro) 30 25 row) 31 k = mI m 31 k := fun k => hFq 31 k (by omega) (by omega) (by omega)
    have h27 : mI (setI (setI (setI (setI (setI (cpyI (setI (setI m 45 row.toNat w) 30 6 (n : Int)) 31 (187 + 121 * w).toNat 34 0 n) 30 7 0) 30 8 1) 30 26 0) 30 24 fro) 30 25 row) 30 27 = mI m 30 27 := by
      rw [hC, up2_nx (by omega), up2_nx (by omega), up2_nx (by omega), up2_nx (by omega), up2_nx (by omega), hC2, if_neg (by omega), hC3, up2_nx (by omega), up2_nx (by omega)]
    obtain ⟨w1, w2, w3, w4, w5, w6, w7, w8⟩ := hw
    have hEO : EOK (mI (setI (setI (setI (setI (setI (cpyI (setI (setI m 45 row.toNat w) 30 6 (n : Int)) 31 (187 + 121 * w).toNat 34 0 n) 30 7 0) 30 8 1) 30 26 0) 30 24 fro) 30 25 row)) := by
      refine ⟨?_, ?_, ?_, ?_, fun _ => ⟨?_, ?_, ?_⟩, ?_, fun k hk => ?_⟩
      · rw [h31]; omega
      · rw [h31]; omega
      · rw [h25]; omega
      · rw [h27]; exact w7
      · rw [h24]; exact w3
      · rw [h24, h25]; exact w4
      · rw [h25, h31]; exact w5
      · rw [h25]; omega
      · rw [h31]; exact w8 k hk
    have hEnv : envR (mI (setI (setI (setI (setI (setI (cpyI (setI (setI m 45 row.toNat w) 30 6 (n : Int)) 31 (187 + 121 * w).toNat 34 0 n) 30 7 0) 30 8 1) 30 26 0) 30 24 fro) 30 25 row)) = envH (mI m) fro row w := by
      have e1 : (fun k => mI (setI (setI (setI (setI (setI (cpyI (setI (setI m 45 row.toNat w) 30 6 (n : Int)) 31 (187 + 121 * w).toNat 34 0 n) 30 7 0) 30 8 1) 30 26 0) 30 24 fro) 30 25 row) 45 k) = fun k => up2 (mI m) 45 row.toNat w 45 k := funext fun k => by
        by_cases e : k = row.toNat
        · rw [e, h45, up2_s]
        · rw [up2_nk e]; exact hFq 45 k (by omega) (by omega) (by omega)
      have e2 : (fun k => mI (setI (setI (setI (setI (setI (cpyI (setI (setI m 45 row.toNat w) 30 6 (n : Int)) 31 (187 + 121 * w).toNat 34 0 n) 30 7 0) 30 8 1) 30 26 0) 30 24 fro) 30 25 row) 31 k) = fun k => mI m 31 k := funext h31
      unfold envR envH
      rw [h24, h25, e1, h31, e2]
    refine V_ld (pc := 99) dX11_isHolding_99 (v := vr 30) rfl rfl ?_
    refine V_callV (pc := 100) dX11_isHolding_100 (F' := (7 + 3 * 4)) (As := []) (st := []) cw_RX11_252 rfl rfl hL.t30 (by decide) (Nat.le_of_ble_eq_true rfl) (by omega) ((QEit_all tx n 4) (true, 0) (setI (setI (setI (setI (setI (cpyI (setI (setI m 45 row.toNat w) 30 6 (n : Int)) 31 (187 + 121 * w).toNat 34 0 n) 30 7 0) 30 8 1) 30 26 0) 30 24 fro) 30 25 row)    (by first | assumption | omega) hRQ hEO (by rw [h26]; decide)) ?_
    rintro _ _ ⟨x100, rfl, Ix100, rfl, hx100, ⟨hP100, hF100, hl100, hi100, hb100, hv100⟩⟩ ok100 le100
    have hB100 := hP100.2.2.2.1
    refine V_reti (pc := 103) dX11_isHolding_103 (show _ = (0 : Int) ∨ _ = (1 : Int) from by first | exact Or.inl rfl | exact Or.inr rfl | omega) ?_
    have hn0 : n ≠ 0 := by omega
    have hx_ := hv100 (by rw [h25]; omega) (hv hn0)
    rw [hEnv] at hx_
    refine ⟨mI (wI (setI (setI (setI (setI (setI (cpyI (setI (setI m 45 row.toNat w) 30 6 (n : Int)) 31 (187 + 121 * w).toNat 34 0 n) 30 7 0) 30 8 1) 30 26 0) 30 24 fro) 30 25 row) Ix100), rfl, ?_, fun o k h1 h2 h3 => (hF100 o k (by omega)).trans (hFq o k h1 h2 h3), (hF100 45 row.toNat (by omega)).trans h45, hl100⟩
    unfold cdR
    rw [if_neg hn0]
    exact hx_
  · skip
    refine V_iconst (pc := 35) dX11_isHolding_35 (by unfold I32; omega) ?_
    refine V_reti (pc := 36) dX11_isHolding_36 (show _ = (0 : Int) ∨ _ = (1 : Int) from by first | exact Or.inl rfl | exact Or.inr rfl | omega) ?_
    have hn0 : n = 0 := by omega
    refine ⟨mI (setI (setI m 45 row.toNat w) 30 6 (n : Int)), rfl, ?_, fun o k h1 h2 h3 => (up2_nx (by omega)).trans (up2_nx h2), (mI_setne (by omega)).trans mI_sets, ?_⟩
    · unfold cdR; rw [if_pos hn0]
    · rw [show mI (setI (setI m 45 row.toNat w) 30 6 (n : Int)) 30 27 = mI m 30 27 from (mI_setne (by omega)).trans (mI_setne (by omega))]; exact hw.2.2.2.2.2.2.1
