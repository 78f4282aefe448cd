/-! spell(): class and reference; holds() -/
/-- what stands behind a list that was written from the start on -/
theorem apI_at {ct ck ba : Nat} (hne : ct ≠ ba) : ∀ (l : List Int) (I : Nat → Nat → Int) (s : Nat), I ct ck = (s : Int) → (∀ j, j < s → apI ct ck ba I l ba j = I ba j) ∧ ∀ k x, l[k]? = some x → apI ct ck ba I l ba (s + k) = x
  | [], I, s, h => ⟨fun _ _ => rfl, fun k x hk => by simp at hk⟩
  | y :: l, I, s, h => by
    have hs : (up2 (up2 I ba (I ct ck).toNat y) ct ck (I ct ck + 1)) ct ck = ((s + 1 : Nat) : Int) := by rw [up2_s, h]; rfl
    have i := apI_at hne l (up2 (up2 I ba (I ct ck).toNat y) ct ck (I ct ck + 1)) (s + 1) hs
    have hr : ∀ j, (up2 (up2 I ba (I ct ck).toNat y) ct ck (I ct ck + 1)) ba j = if j = s then y else I ba j := fun j => by
      rw [up2_no (Ne.symm hne), h, Int.toNat_natCast]
      by_cases e : j = s
      · subst e; rw [up2_s, if_pos rfl]
      · rw [up2_nk e, if_neg e]
    refine ⟨fun j hj => ?_, fun k x hk => ?_⟩
    · show apI ct ck ba (up2 (up2 I ba (I ct ck).toNat y) ct ck (I ct ck + 1)) l ba j = _
      rw [i.1 j (by omega), hr, if_neg (by omega)]
    · show apI ct ck ba (up2 (up2 I ba (I ct ck).toNat y) ct ck (I ct ck + 1)) l ba (s + k) = _
      cases k with
      | zero =>
        rw [Nat.add_zero, i.1 s (by omega), hr, if_pos rfl]
        exact Option.some.inj hk
      | succ k =>
        rw [show s + (k + 1) = s + 1 + k from by omega]
        exact i.2 k x hk
/-- the paper holds a list -/
def PapL (I : Nat → Nat → Int) (ct ck ba : Nat) (l : List Int) : Prop := I ct ck = (l.length : Int) ∧ ∀ k x, l[k]? = some x → I ba k = x
theorem PapL.ap {ct ck ba : Nat} (hne : ct ≠ ba) {m : Mem} {l : List Int} (h : mI m ct ck = 0) : PapL (mI (apM ct ck ba m l)) ct ck ba l := by
  refine ⟨?_, fun k x hk => ?_⟩
  · rw [apM_sz, h]; omega
  · have i := (apI_at hne l (mI m) 0 h).2 k x hk
    rw [Nat.zero_add] at i
    exact i

set_option maxHeartbeats 4000000 in
theorem c_spellN  (m : Mem)    (hL : Lay (mT m) (mR m)) (hq : mR m 1 2 = none) : Ct μX10_spell 52 [vr 0] m (ri fun x_ m' => (x_ = -3) ∧ m = m') := by
  refine Ct_of_V rfl (by decide) rfl (Nat.le_of_ble_eq_true rfl) ?_
  show V μX10_spell 52 m _ 0 [(0, vr 0)] [] m
  refine V_ld (pc := 0) dX10_spell_0 (v := vr 0) rfl rfl ?_
  refine V_getRv (pc := 1) dX10_spell_1 (o' := 1) fw_RX10_12 rfl hL.t0 hL.r0_0 ?_
  refine V_getRq (pc := 4) dX10_spell_4 (q := none) fw_RX10_103 rfl hL.t1 hq ?_
  refine V_ifnonnull (pc := 7) dX10_spell_7 (tgt := 13) rfl (fun _ h_ => by cases h_) (fun _ => ?_)
  refine V_bipush (pc := 10) dX10_spell_10 (by unfold I32; omega) (by decide) ?_
  refine V_reti (pc := 12) dX10_spell_12 trivial ?_
  exact ⟨rfl, rfl⟩

set_option maxHeartbeats 4000000 in
theorem c_writeW (L : Nat) (F : Tb) (c : Nat) (m : Mem) (P : Nat) (A : Nat)  (hL : Lay (mT m) (mR m)) (T_P : mT m P = (4, 2)) (R_P_0 : mR m P 0 = some A) (T_A : mT m A = (20, L)) (hc : mI m P 1 = (c : Int) ∧ c * 9 ≤ L ∧ L ≤ 2160) (hT : CTab (mI m) A F c) (h59 : 59 ≤ P ∧ 59 ≤ A) (hw : WfT F 0 c ∧ 1 ≤ c ∧ F (c - 1) 10 ≤ 23 ∧ F (c - 1) 11 ≤ 120) (h0 : mI m 15 1 = 0) : Ct μX4_write 51 [vr P, vr 15] m (rv fun m' => apM 15 1 16 m (splF F 24 (c - 1)) = m') := by
  refine Ct_of_V rfl (by decide) rfl (Nat.le_of_ble_eq_true rfl) ?_
  show V μX4_write 51 m _ 0 [(0, vr P), (1, vr 15)] [] m
  have hsub := CWr_all (L := L) hw.1 24
  have ec : ((c : Int) - 1).toNat = c - 1 := by omega
  have t11 := t11_p hw.1 (p := c - 1) (by omega)
  refine V_ld (pc := 0) dX4_write_0 (v := vr P) rfl rfl ?_
  refine V_ld (pc := 1) dX4_write_1 (v := vr P) rfl rfl ?_
  refine V_getIv (pc := 2) dX4_write_2 (v := (c : Int)) fw_RX4_15 rfl T_P hc.1 (fun g2 => ?_)
  refine V_iconst (pc := 5) dX4_write_5 (by unfold I32; omega) ?_
  refine V_isub (pc := 6) dX4_write_6 (by unfold I32 at *; omega) ?_
  refine V_ld (pc := 7) dX4_write_7 (v := vr 15) rfl rfl ?_
  refine V_iconst (pc := 8) dX4_write_8 (by unfold I32; omega) ?_
  refine V_callV (pc := 9) dX4_write_9 (F' := (2 * 24 + 2)) (As := [vi ((c : Int) - 1), vr 15, vi 0]) (st := []) cw_RX4_31 rfl rfl T_P (by decide) (Nat.le_of_ble_eq_true rfl) (by omega) (hsub  m P ((c : Int) - 1) 0 A  hL T_P R_P_0 T_A hc hT ⟨by omega, by omega⟩ h59 (by rw [ec]; omega) ⟨by decide, by decide⟩ (by rw [ec, h0]; omega)) ?_
  rintro _ _ ⟨rfl, rfl⟩ ok9 le9
  refine V_retv (pc := 12) dX4_write_12 trivial ?_
  rw [ec]

set_option maxHeartbeats 4000000 in
theorem c_spellS (P : Nat) (F : Tb) (c : Nat) (m : Mem)    (hL : Lay (mT m) (mR m)) (hq : mR m 1 2 = some P ∧ HasP m P F c) (hw : WfT F 0 c ∧ 1 ≤ c ∧ F (c - 1) 10 ≤ 23 ∧ F (c - 1) 11 ≤ 120) : Ct μX10_spell 52 [vr 0] m (ri fun x_ m' => (x_ = (((splF F 24 (c - 1)).length : Nat) : Int)) ∧ apM 15 1 16 (setI m 15 1 0) (splF F 24 (c - 1)) = m') := by
  refine Ct_of_V rfl (by decide) rfl (Nat.le_of_ble_eq_true rfl) ?_
  show V μX10_spell 52 m _ 0 [(0, vr 0)] [] m
  obtain ⟨hq0, A, L, hq1, hq2, hq3, hq4, hq5, hq6, hq7, hq8, hq9, hq10, hq11, hq12⟩ := hq
  refine V_ld (pc := 0) dX10_spell_0 (v := vr 0) rfl rfl ?_
  refine V_getRv (pc := 1) dX10_spell_1 (o' := 1) fw_RX10_12 rfl hL.t0 hL.r0_0 ?_
  refine V_getRv (pc := 4) dX10_spell_4 (o' := P) fw_RX10_103 rfl hL.t1 hq0 ?_
  refine V_ifnonnull (pc := 7) dX10_spell_7 (tgt := 13) rfl (fun _ _ => ?_) (fun h_ => by cases h_)
  refine V_ld (pc := 13) dX10_spell_13 (v := vr 0) rfl rfl ?_
  refine V_getRv (pc := 14) dX10_spell_14 (o' := 15) fw_RX10_34 rfl hL.t0 hL.r0_3 ?_
  refine V_callV (pc := 17) dX10_spell_17 (F' := 0) (As := []) (st := []) cw_RX10_87 rfl rfl hL.t15 (by decide) (Nat.le_of_ble_eq_true rfl) (by omega) (c_Text_empty  m 15   hL.t15) ?_
  rintro _ _ ⟨x17, rfl, hx17, rfl⟩ ok17 le17
  refine V_pop (pc := 20) dX10_spell_20 rfl ?_
  refine V_ld (pc := 21) dX10_spell_21 (v := vr 0) rfl rfl ?_
  refine V_getRv (pc := 22) dX10_spell_22 (o' := 1) fw_RX10_12 rfl hL.t0 hL.r0_0 ?_
  refine V_getRv (pc := 25) dX10_spell_25 (o' := P) fw_RX10_103 rfl hL.t1 hq0 ?_
  refine V_ld (pc := 28) dX10_spell_28 (v := vr 0) rfl rfl ?_
  refine V_getRv (pc := 29) dX10_spell_29 (o' := 15) fw_RX10_34 rfl hL.t0 hL.r0_3 ?_
  refine V_callV (pc := 32) dX10_spell_32 (F' := 51) (As := [vr 15]) (st := []) cw_RX10_129 rfl rfl hq1 (by decide) (Nat.le_of_ble_eq_true rfl) (by omega) (c_writeW L F c (setI m 15 1 0) P A  hL hq1 hq2 hq3 ⟨(mI_setne (by omega)).trans hq9, by omega, hq11⟩ (fun p_ w_ h1_ h2_ => (mI_setne (by omega)).trans (hq12 p_ w_ h1_ h2_)) ⟨hq4, hq5⟩ hw mI_sets) ?_
  rintro _ _ ⟨rfl, rfl⟩ ok32 le32
  refine V_ld (pc := 35) dX10_spell_35 (v := vr 0) rfl rfl ?_
  refine V_getRv (pc := 36) dX10_spell_36 (o' := 15) fw_RX10_34 rfl hL.t0 hL.r0_3 ?_
  refine V_getIv (pc := 39) dX10_spell_39 (v := mI (apM 15 1 16 (setI m 15 1 0) (splF F 24 (c - 1))) 15 1) fw_RX10_86 rfl hL.t15 rfl (fun g39 => ?_)
  refine V_reti (pc := 42) dX10_spell_42 trivial ?_
  refine ⟨?_, rfl⟩
  have h0_ : mI (setI m 15 1 0) 15 1 = 0 := mI_sets
  have h_ := apM_sz (ct := 15) (ck := 1) (ba := 16) (m := setI m 15 1 0) (l := splF F 24 (c - 1))
  omega

def RFsp (I I' : Nat → Nat → Int) : Prop := ∀ o k, ¬ (34 ≤ o ∧ o ≤ 44) → ¬ (o = 30 ∧ (k = 6 ∨ k = 7 ∨ k = 8 ∨ k = 9 ∨ k = 19 ∨ k = 20 ∨ k = 22)) → I' o k = I o k

set_option maxHeartbeats 4000000 in
theorem r_spell (tx : Nat → Int) (n : Nat) (F : Tb) (c : Nat) (m : Mem)    (hL : Lay (mT m) (mR m)) (ht : mI m 31 65 = (n : Int) ∧ n ≤ 120) (htx : txR (mI m) 31 66 tx n) (hv : n ≠ 0 → PatW tx n) (hFc : F = (altL tx n 5 S0).2.2.2.2 ∧ c = (altL tx n 5 S0).2.2.2.1) : Ct μX11_spell 33 [vr 30] m (ri fun x_ m' => ∃ I_ : Nat → Nat → Int, wI m I_ = m' ∧ (x_ = if n = 0 then -3 else ((((splF F 24 (c - 1))).length : Nat) : Int)) ∧ RFsp (mI m) I_ ∧ (n = 0 → I_ 30 22 = mI m 30 22 ∧ ∀ k, I_ 44 k = mI m 44 k) ∧ (n ≠ 0 → PapL I_ 30 22 44 (splF F 24 (c - 1)))) := by
  refine Ct_of_V rfl (by decide) rfl (Nat.le_of_ble_eq_true rfl) ?_
  show V μX11_spell 33 m _ 0 [(0, vr 30)] [] m
  refine V_ld (pc := 0) dX11_spell_0 (v := vr 30) rfl rfl ?_
  refine V_callV (pc := 1) dX11_spell_1 (F' := 32) (As := []) (st := []) cw_RX11_195 rfl rfl hL.t30 (by decide) (Nat.le_of_ble_eq_true rfl) (by omega) (r_isReadI tx n m    (by first | assumption | omega) ht htx) ?_
  rintro _ _ ⟨x1, rfl, Ix1, rfl, hx1, hF1, hP1⟩ ok1 le1
  have hcn : 0 < n → Ix1 30 9 = (c : Int) := fun h_ => by rw [hFc.2]; exact (hP1 h_).2.2.2.1
  have hRT : 0 < n → RTab Ix1 F c := fun h_ => by rw [hFc.1, hFc.2]; exact (hP1 h_).2.2.2.2.2.2.2.2
  have hpw := fun (h_ : 0 < n) => pat_wf (hv (by omega)) F c (c - 1) hFc.1 hFc.2 rfl
  have hsub := fun (h_ : 0 < n) => CRs_all (hpw h_).2.2.1 24
  have hnc : 0 < n → 1 ≤ c ∧ c ≤ 240 ∧ F (c - 1) 11 ≤ 120 ∧ F (c - 1) 10 ≤ 23 := fun h_ => by have h2_ := hpw h_; omega
  have ec : ((c : Int) - 1).toNat = c - 1 := by omega
  refine V_if_ne (pc := 4) dX11_spell_4 (tgt := 10) rfl (fun h4 => ?_) (fun h4 => ?_)
  · skip
    refine V_ld (pc := 10) dX11_spell_10 (v := vr 30) rfl rfl ?_
    refine V_iconst (pc := 11) dX11_spell_11 (by unfold I32; omega) ?_
    refine V_putI (pc := 12) dX11_spell_12 fw_RX11_200 rfl hL.t30 (Or.inl rfl) (Or.inl rfl) ?_
    refine V_ld (pc := 15) dX11_spell_15 (v := vr 30) rfl rfl ?_
    refine V_ld (pc := 16) dX11_spell_16 (v := vr 30) rfl rfl ?_
    refine V_getIv (pc := 17) dX11_spell_17 (v := (c : Int)) fw_RX11_139 rfl hL.t30 (by first | exact (hcn (by omega)) | (simp only [mI_setI, up2]; repeat (first | exact (hcn (by omega)) | rw [if_neg (by omega)]))) (fun g17 => ?_)
    refine V_iconst (pc := 20) dX11_spell_20 (by unfold I32; omega) ?_
    refine V_isub (pc := 21) dX11_spell_21 (by unfold I32 at *; omega) ?_
    refine V_iconst (pc := 22) dX11_spell_22 (by unfold I32; omega) ?_
    refine V_callV (pc := 23) dX11_spell_23 (F' := (24 + 3)) (As := [vi ((c : Int) - 1), vi 0]) (st := []) cw_RX11_206 rfl rfl hL.t30 (by decide) (Nat.le_of_ble_eq_true rfl) (by omega) (hsub (by omega) (setI (wI m Ix1) 30 22 0) ((c : Int) - 1) 0   hL (fun p_ hp_ => by have h_ := hRT (by omega) p_ hp_; exact h_) ⟨by omega, by omega, by omega⟩ (Or.inl rfl) (by rw [ec]; omega) (by rw [ec, mI_sets]; have t11 := t11_p (hpw (by omega)).2.2.1 (p := c - 1) (by omega); omega)) ?_
    rintro _ _ ⟨rfl, rfl⟩ ok23 le23
    refine V_ld (pc := 26) dX11_spell_26 (v := vr 30) rfl rfl ?_
    refine V_getIv (pc := 27) dX11_spell_27 (v := mI (apM 30 22 44 (setI (wI m Ix1) 30 22 0) (brS 0 (splF F 24 ((c : Int) - 1).toNat))) 30 22) fw_RX11_200 rfl hL.t30 rfl (fun g27 => ?_)
    refine V_reti (pc := 30) dX11_spell_30 trivial ?_
    first
      | (exfalso; omega)
      | (have hbr : brS 0 (splF F 24 (c - 1)) = splF F 24 (c - 1) := by unfold brS; rw [if_neg (by decide), if_neg (by decide)]; simp only [List.nil_append, List.append_nil]
         have h0_ : mI (setI (wI m Ix1) 30 22 0) 30 22 = 0 := mI_sets
         have hpl := PapL.ap (ct := 30) (ck := 22) (ba := 44) (by decide) (m := setI (wI m Ix1) 30 22 0) (l := brS 0 (splF F 24 ((c : Int) - 1).toNat)) h0_
         refine ⟨mI (apM 30 22 44 (setI (wI m Ix1) 30 22 0) (brS 0 (splF F 24 ((c : Int) - 1).toNat))), rfl, ?_, fun o k h1 h2 => ?_, fun h_ => absurd h_ (by omega), fun _ => ?_⟩
         · rw [if_neg (by omega), hpl.1, ec, hbr]
         · exact (apM_ne (by omega) (by omega)).trans ((mI_setne (by omega)).trans (hF1 o k (by omega) (by omega)))
         · rw [ec, hbr] at hpl
           rw [ec, hbr]
           exact hpl)
  · skip
    refine V_bipush (pc := 7) dX11_spell_7 (by unfold I32; omega) (by decide) ?_
    refine V_reti (pc := 9) dX11_spell_9 trivial ?_
    first
      | (exfalso; omega)
      | (refine ⟨Ix1, rfl, by rw [if_pos (by omega)], fun o k h1 h2 => hF1 o k (by omega) (by omega), fun _ => ⟨hF1 30 22 (by omega) (by omega), fun k => hF1 44 k (by omega) (by omega)⟩, fun h_ => absurd h_ (by omega)⟩)

set_option maxHeartbeats 4000000 in
theorem c_holdsB (n : Int) (m : Mem) (w : Int) (row : Int)   (hL : Lay (mT m) (mR m)) (hn : mI m 2 1 = n ∧ 0 ≤ n ∧ n ≤ 32) (hb : ¬ (0 ≤ w ∧ w < 26 ∧ 0 ≤ row ∧ row < n)) : Ct μX10_holds 6 [vr 0, vi w, vi row] m (ri fun x_ m' => (x_ = -1) ∧ m = m') := by
  refine Ct_of_V rfl (by decide) rfl (Nat.le_of_ble_eq_true rfl) ?_
  show V μX10_holds 6 m _ 0 [(0, vr 0), (1, vi w), (2, vi row)] [] m
  refine V_rg (k := 1) (x := w) rfl fun r_w => ?_
  refine V_rg (k := 2) (x := row) rfl fun r_row => ?_
  refine V_ld (pc := 0) dX10_holds_0 (v := vi w) rfl rfl ?_
  refine V_callS (pc := 1) dX10_holds_1 (F' := 0) (As := [vi w]) (st := []) cw_RX10_135 rfl rfl (Nat.le_of_ble_eq_true rfl) (by omega) (c_isLetter  m w   ) ?_
  rintro _ _ ⟨x1, rfl, hx1, rfl⟩ ok1 le1
  refine V_if_eq (pc := 4) dX10_holds_4 (tgt := 21) rfl (fun h4 => ?_) (fun h4 => ?_)
  · skip
    refine V_iconst (pc := 21) dX10_holds_21 (by unfold I32; omega) ?_
    refine V_reti (pc := 22) dX10_holds_22 trivial ?_
    exact ⟨rfl, rfl⟩
  · skip
    refine V_ld (pc := 7) dX10_holds_7 (v := vr 0) rfl rfl ?_
    refine V_getRv (pc := 8) dX10_holds_8 (o' := 1) fw_RX10_12 rfl hL.t0 hL.r0_0 ?_
    refine V_getRv (pc := 11) dX10_holds_11 (o' := 2) fw_RX10_55 rfl hL.t1 hL.r1_0 ?_
    refine V_ld (pc := 14) dX10_holds_14 (v := vi row) rfl rfl ?_
    refine V_callV (pc := 15) dX10_holds_15 (F' := 0) (As := [vi row]) (st := []) cw_RX10_73 rfl rfl hL.t2 (by decide) (Nat.le_of_ble_eq_true rfl) (by omega) (c_hasRow  m 2 row   hL.t2) ?_
    rintro _ _ ⟨x15, rfl, hx15, rfl⟩ ok15 le15
    refine V_if_ne (pc := 18) dX10_holds_18 (tgt := 23) rfl (fun h18 => ?_) (fun h18 => ?_)
    · skip
      exfalso; omega
    · skip
      refine V_iconst (pc := 21) dX10_holds_21 (by unfold I32; omega) ?_
      refine V_reti (pc := 22) dX10_holds_22 trivial ?_
      exact ⟨rfl, rfl⟩

theorem cdV_01 (e : CEnv) (q : Option (List Int)) : cdV e q = 0 ∨ cdV e q = 1 := by
  cases q with
  | none => exact Or.inr rfl
  | some cd =>
    show (if and64 (runL e cd 0) 1 = 1 then 1 else 0) = 0 ∨ (if and64 (runL e cd 0) 1 = 1 then 1 else 0) = (1 : Int)
    split
    · exact Or.inr rfl
    · exact Or.inl rfl
theorem cdv_p {e : CEnv} {q : Option (List Int)} {x : Int} (h : x = cdV e q) (hx : x ≠ 0) : 1 = cdV e q := by have := cdV_01 e q; omega
theorem cdv_z {e : CEnv} {q : Option (List Int)} {x : Int} (h : x = cdV e q) (hx : x = 0) : 0 = cdV e q := by omega

set_option maxHeartbeats 4000000 in
theorem c_holdsN (e : CEnv) (n : Int) (m : Mem) (w : Int) (row : Int)   (hL : Lay (mT m) (mR m)) (hn : mI m 2 1 = n ∧ 0 ≤ n ∧ n ≤ 32) (hw : 0 ≤ w ∧ w < 26 ∧ 0 ≤ row ∧ row < n) (hq : CdAt m 4 w.toNat none) : Ct μX10_holds 6 [vr 0, vi w, vi row] m (ri fun x_ m' => (x_ = cdV e none) ∧ setI (setI m 9 6 row) 10 row.toNat w = m') := by
  refine Ct_of_V rfl (by decide) rfl (Nat.le_of_ble_eq_true rfl) ?_
  show V μX10_holds 6 m _ 0 [(0, vr 0), (1, vi w), (2, vi row)] [] m
  refine V_rg (k := 1) (x := w) rfl fun r_w => ?_
  refine V_rg (k := 2) (x := row) rfl fun r_row => ?_
  refine V_ld (pc := 0) dX10_holds_0 (v := vi w) rfl rfl ?_
  refine V_callS (pc := 1) dX10_holds_1 (F' := 0) (As := [vi w]) (st := []) cw_RX10_135 rfl rfl (Nat.le_of_ble_eq_true rfl) (by omega) (c_isLetter  m w   ) ?_
  rintro _ _ ⟨x1, rfl, hx1, rfl⟩ ok1 le1
  refine V_if_eq (pc := 4) dX10_holds_4 (tgt := 21) rfl (fun h4 => ?_) (fun h4 => ?_)
  · skip
    refine V_iconst (pc := 21) dX10_holds_21 (by unfold I32; omega) ?_
    refine V_reti (pc := 22) dX10_holds_22 trivial ?_
    first | (exfalso; omega) | exact ⟨cdv_p hx29 (by omega), rfl⟩ | exact ⟨cdv_z hx29 (by omega), rfl⟩
  · skip
    refine V_ld (pc := 7) dX10_holds_7 (v := vr 0) rfl rfl ?_
    refine V_getRv (pc := 8) dX10_holds_8 (o' := 1) fw_RX10_12 rfl hL.t0 hL.r0_0 ?_
    refine V_getRv (pc := 11) dX10_holds_11 (o' := 2) fw_RX10_55 rfl hL.t1 hL.r1_0 ?_
    refine V_ld (pc := 14) dX10_holds_14 (v := vi row) rfl rfl ?_
    refine V_callV (pc := 15) dX10_holds_15 (F' := 0) (As := [vi row]) (st := []) cw_RX10_73 rfl rfl hL.t2 (by decide) (Nat.le_of_ble_eq_true rfl) (by omega) (c_hasRow  m 2 row   hL.t2) ?_
    rintro _ _ ⟨x15, rfl, hx15, rfl⟩ ok15 le15
    refine V_if_ne (pc := 18) dX10_holds_18 (tgt := 23) rfl (fun h18 => ?_) (fun h18 => ?_)
    · skip
      refine V_ld (pc := 23) dX10_holds_23 (v := vr 0) rfl rfl ?_
      refine V_getRv (pc := 24) dX10_holds_24 (o' := 9) fw_RX10_23 rfl hL.t0 hL.r0_1 ?_
      refine V_ld (pc := 27) dX10_holds_27 (v := vi w) rfl rfl ?_
      refine V_ld (pc := 28) dX10_holds_28 (v := vi row) rfl rfl ?_
      refine V_callV (pc := 29) dX10_holds_29 (F' := 5) (As := [vi w, vi row]) (st := []) cw_RX10_150 rfl rfl hL.t9 (by decide) (Nat.le_of_ble_eq_true rfl) (by omega) (d_allowsN e m w row   (by first | assumption | omega) (by omega) hq) ?_
      rintro _ _ ⟨x29, rfl, hx29, rfl⟩ ok29 le29
      refine V_if_eq (pc := 32) dX10_holds_32 (tgt := 39) rfl (fun h32 => ?_) (fun h32 => ?_)
      · skip
        refine V_iconst (pc := 39) dX10_holds_39 (by unfold I32; omega) ?_
        refine V_reti (pc := 40) dX10_holds_40 trivial ?_
        first | (exfalso; omega) | exact ⟨cdv_p hx29 (by omega), rfl⟩ | exact ⟨cdv_z hx29 (by omega), rfl⟩
      · skip
        refine V_iconst (pc := 35) dX10_holds_35 (by unfold I32; omega) ?_
        refine V_goto (pc := 36) dX10_holds_36 (tgt := 40) rfl ?_
        refine V_reti (pc := 40) dX10_holds_40 trivial ?_
        first | (exfalso; omega) | exact ⟨cdv_p hx29 (by omega), rfl⟩ | exact ⟨cdv_z hx29 (by omega), rfl⟩
    · skip
      refine V_iconst (pc := 21) dX10_holds_21 (by unfold I32; omega) ?_
      refine V_reti (pc := 22) dX10_holds_22 trivial ?_
      first | (exfalso; omega) | exact ⟨cdv_p hx29 (by omega), rfl⟩ | exact ⟨cdv_z hx29 (by omega), rfl⟩

set_option maxHeartbeats 4000000 in
theorem c_holdsS (e : CEnv) (cd : List Int) (n : Int) (m : Mem) (w : Int) (row : Int)   (hL : Lay (mT m) (mR m)) (hn : mI m 2 1 = n ∧ 0 ≤ n ∧ n ≤ 32) (hw : 0 ≤ w ∧ w < 26 ∧ 0 ≤ row ∧ row < n) (hq : CdAt m 4 w.toNat (some cd)) (hA : AgC (mI (setI (setI m 9 6 row) 10 row.toNat w)) row e) : Ct μX10_holds 6 [vr 0, vi w, vi row] m (ri fun x_ m' => (x_ = cdV e (some cd)) ∧ setI (setI m 9 6 row) 10 row.toNat w = m') := by
  refine Ct_of_V rfl (by decide) rfl (Nat.le_of_ble_eq_true rfl) ?_
  show V μX10_holds 6 m _ 0 [(0, vr 0), (1, vi w), (2, vi row)] [] m
  refine V_rg (k := 1) (x := w) rfl fun r_w => ?_
  refine V_rg (k := 2) (x := row) rfl fun r_row => ?_
  refine V_ld (pc := 0) dX10_holds_0 (v := vi w) rfl rfl ?_
  refine V_callS (pc := 1) dX10_holds_1 (F' := 0) (As := [vi w]) (st := []) cw_RX10_135 rfl rfl (Nat.le_of_ble_eq_true rfl) (by omega) (c_isLetter  m w   ) ?_
  rintro _ _ ⟨x1, rfl, hx1, rfl⟩ ok1 le1
  refine V_if_eq (pc := 4) dX10_holds_4 (tgt := 21) rfl (fun h4 => ?_) (fun h4 => ?_)
  · skip
    refine V_iconst (pc := 21) dX10_holds_21 (by unfold I32; omega) ?_
    refine V_reti (pc := 22) dX10_holds_22 trivial ?_
    first | (exfalso; omega) | exact ⟨cdv_p hx29 (by omega), rfl⟩ | exact ⟨cdv_z hx29 (by omega), rfl⟩
  · skip
    refine V_ld (pc := 7) dX10_holds_7 (v := vr 0) rfl rfl ?_
    refine V_getRv (pc := 8) dX10_holds_8 (o' := 1) fw_RX10_12 rfl hL.t0 hL.r0_0 ?_
    refine V_getRv (pc := 11) dX10_holds_11 (o' := 2) fw_RX10_55 rfl hL.t1 hL.r1_0 ?_
    refine V_ld (pc := 14) dX10_holds_14 (v := vi row) rfl rfl ?_
    refine V_callV (pc := 15) dX10_holds_15 (F' := 0) (As := [vi row]) (st := []) cw_RX10_73 rfl rfl hL.t2 (by decide) (Nat.le_of_ble_eq_true rfl) (by omega) (c_hasRow  m 2 row   hL.t2) ?_
    rintro _ _ ⟨x15, rfl, hx15, rfl⟩ ok15 le15
    refine V_if_ne (pc := 18) dX10_holds_18 (tgt := 23) rfl (fun h18 => ?_) (fun h18 => ?_)
    · skip
      refine V_ld (pc := 23) dX10_holds_23 (v := vr 0) rfl rfl ?_
      refine V_getRv (pc := 24) dX10_holds_24 (o' := 9) fw_RX10_23 rfl hL.t0 hL.r0_1 ?_
      refine V_ld (pc := 27) dX10_holds_27 (v := vi w) rfl rfl ?_
      refine V_ld (pc := 28) dX10_holds_28 (v := vi row) rfl rfl ?_
      refine V_callV (pc := 29) dX10_holds_29 (F' := 5) (As := [vi w, vi row]) (st := []) cw_RX10_150 rfl rfl hL.t9 (by decide) (Nat.le_of_ble_eq_true rfl) (by omega) (d_allowsS e cd m w row   (by first | assumption | omega) (by omega) hq hA) ?_
      rintro _ _ ⟨x29, rfl, hx29, rfl⟩ ok29 le29
      refine V_if_eq (pc := 32) dX10_holds_32 (tgt := 39) rfl (fun h32 => ?_) (fun h32 => ?_)
      · skip
        refine V_iconst (pc := 39) dX10_holds_39 (by unfold I32; omega) ?_
        refine V_reti (pc := 40) dX10_holds_40 trivial ?_
        first | (exfalso; omega) | exact ⟨cdv_p hx29 (by omega), rfl⟩ | exact ⟨cdv_z hx29 (by omega), rfl⟩
      · skip
        refine V_iconst (pc := 35) dX10_holds_35 (by unfold I32; omega) ?_
        refine V_goto (pc := 36) dX10_holds_36 (tgt := 40) rfl ?_
        refine V_reti (pc := 40) dX10_holds_40 trivial ?_
        first | (exfalso; omega) | exact ⟨cdv_p hx29 (by omega), rfl⟩ | exact ⟨cdv_z hx29 (by omega), rfl⟩
    · skip
      refine V_iconst (pc := 21) dX10_holds_21 (by unfold I32; omega) ?_
      refine V_reti (pc := 22) dX10_holds_22 trivial ?_
      first | (exfalso; omega) | exact ⟨cdv_p hx29 (by omega), rfl⟩ | exact ⟨cdv_z hx29 (by omega), rfl⟩

theorem cdr_01 (e : CEnv) (tx : Nat → Int) (k : Nat) : cdR e tx k = 0 ∨ cdR e tx k = 1 := by
  unfold cdR
  split
  · exact Or.inr rfl
  · exact bI_v _
theorem cdr_p {e : CEnv} {tx : Nat → Int} {k : Nat} {x : Int} (h : x = cdR e tx k) (hx : x ≠ 0) : 1 = cdR e tx k := by have := cdr_01 e tx k; omega
theorem cdr_z {e : CEnv} {tx : Nat → Int} {k : Nat} {x : Int} (h : x = cdR e tx k) (hx : x = 0) : 0 = cdR e tx k := by omega

set_option maxHeartbeats 4000000 in
theorem r_holds (tx : Nat → Int) (n : Nat) (m : Mem) (w : Int) (row : Int)   (hL : Lay (mT m) (mR m)) (hz : 0 ≤ mI m 31 64 ∧ mI m 31 64 ≤ 32 ∧ (mI m 30 27 = 0 ∨ mI m 30 27 = 1) ∧ ∀ k, k < 64 → -999 ≤ mI m 31 k ∧ mI m 31 k ≤ 1000) (hw : 0 ≤ w ∧ w < 26 ∧ 0 ≤ row ∧ row < mI m 31 64) (ht : CdTx (mI m) 31 w.toNat tx n) (hv : n ≠ 0 → (eitL tx n 4 (true, 0)).2.2.1 = true) : Ct μX11_holds 21 [vr 30, vi w, vi row] m (ri fun x_ m' => ∃ I_ : Nat → Nat → Int, wI m I_ = m' ∧ (x_ = cdR (envH (mI m) row row w) tx n) ∧ RFh row (mI m) I_ ∧ I_ 45 row.toNat = w ∧ (I_ 30 27 = 0 ∨ I_ 30 27 = 1)) := by
  refine Ct_of_V rfl (by decide) rfl (Nat.le_of_ble_eq_true rfl) ?_
  show V μX11_holds 21 m _ 0 [(0, vr 30), (1, vi w), (2, vi row)] [] m
  refine V_rg (k := 1) (x := w) rfl fun r_w => ?_
  refine V_rg (k := 2) (x := row) rfl fun r_row => ?_
  refine V_ld (pc := 0) dX11_holds_0 (v := vi w) rfl rfl ?_
  refine V_i2l (pc := 1) dX11_holds_1 ?_
  refine V_lconst (pc := 2) dX11_holds_2 (x := 0) (by unfold I64; omega) (by decide) ?_
  refine V_ldc2 (pc := 3) dX11_holds_3 (x := 25) kl_RX11_261 (by unfold I64; omega) rfl ?_
  refine V_callS (pc := 6) dX11_holds_6 (F' := 0) (As := [vl w, vl 0, vl 25]) (st := []) cw_RX11_101 rfl rfl (Nat.le_of_ble_eq_true rfl) (by omega) (r_isIn  m w 0 25   ) ?_
  rintro _ _ ⟨x6, rfl, hx6, rfl⟩ ok6 le6
  refine V_if_eq (pc := 9) dX11_holds_9 (tgt := 38) rfl (fun h9 => ?_) (fun h9 => ?_)
  · skip
    refine V_iconst (pc := 38) dX11_holds_38 (by unfold I32; omega) ?_
    refine V_reti (pc := 39) dX11_holds_39 trivial ?_
    first
      | (exfalso; omega)
      | exact ⟨Ix24, rfl, cdr_p hx24 (by omega), hF24, hw24, hl24⟩
      | exact ⟨Ix24, rfl, cdr_z hx24 (by omega), hF24, hw24, hl24⟩
  · skip
    refine V_ld (pc := 12) dX11_holds_12 (v := vr 30) rfl rfl ?_
    refine V_ld (pc := 13) dX11_holds_13 (v := vi row) rfl rfl ?_
    refine V_callV (pc := 14) dX11_holds_14 (F' := 1) (As := [vi row]) (st := []) cw_RX11_113 rfl rfl hL.t30 (by decide) (Nat.le_of_ble_eq_true rfl) (by omega) (r_isRow  m row   (by first | assumption | omega) (by first | assumption | omega)) ?_
    rintro _ _ ⟨x14, rfl, hx14, rfl⟩ ok14 le14
    refine V_if_eq (pc := 17) dX11_holds_17 (tgt := 38) rfl (fun h17 => ?_) (fun h17 => ?_)
    · skip
      refine V_iconst (pc := 38) dX11_holds_38 (by unfold I32; omega) ?_
      refine V_reti (pc := 39) dX11_holds_39 trivial ?_
      first
        | (exfalso; omega)
        | exact ⟨Ix24, rfl, cdr_p hx24 (by omega), hF24, hw24, hl24⟩
        | exact ⟨Ix24, rfl, cdr_z hx24 (by omega), hF24, hw24, hl24⟩
    · skip
      refine V_ld (pc := 20) dX11_holds_20 (v := vr 30) rfl rfl ?_
      refine V_ld (pc := 21) dX11_holds_21 (v := vi w) rfl rfl ?_
      refine V_ld (pc := 22) dX11_holds_22 (v := vi row) rfl rfl ?_
      refine V_ld (pc := 23) dX11_holds_23 (v := vi row) rfl rfl ?_
      refine V_callV (pc := 24) dX11_holds_24 (F' := 20) (As := [vi w, vi row, vi row]) (st := []) cw_RX11_263 rfl rfl hL.t30 (by decide) (Nat.le_of_ble_eq_true rfl) (by omega) (r_isHolding tx n m w row row   (by first | assumption | omega) ⟨hw.1, hw.2.1, hw.2.2.1, Int.le_refl _, hw.2.2.2, hz.2.1, hz.2.2.1, hz.2.2.2⟩ ht hv) ?_
      rintro _ _ ⟨x24, rfl, Ix24, rfl, hx24, hF24, hw24, hl24⟩ ok24 le24
      refine V_if_eq (pc := 27) dX11_holds_27 (tgt := 34) rfl (fun h27 => ?_) (fun h27 => ?_)
      · skip
        refine V_iconst (pc := 34) dX11_holds_34 (by unfold I32; omega) ?_
        refine V_goto (pc := 35) dX11_holds_35 (tgt := 39) rfl ?_
        refine V_reti (pc := 39) dX11_holds_39 trivial ?_
        first
          | (exfalso; omega)
          | exact ⟨Ix24, rfl, cdr_p hx24 (by omega), hF24, hw24, hl24⟩
          | exact ⟨Ix24, rfl, cdr_z hx24 (by omega), hF24, hw24, hl24⟩
      · skip
        refine V_iconst (pc := 30) dX11_holds_30 (by unfold I32; omega) ?_
        refine V_goto (pc := 31) dX11_holds_31 (tgt := 39) rfl ?_
        refine V_reti (pc := 39) dX11_holds_39 trivial ?_
        first
          | (exfalso; omega)
          | exact ⟨Ix24, rfl, cdr_p hx24 (by omega), hF24, hw24, hl24⟩
          | exact ⟨Ix24, rfl, cdr_z hx24 (by omega), hF24, hw24, hl24⟩

set_option maxHeartbeats 4000000 in
theorem r_holdsB  (m : Mem) (w : Int) (row : Int)   (hL : Lay (mT m) (mR m)) (hz : 0 ≤ mI m 31 64 ∧ mI m 31 64 ≤ 32) (hw : ¬ (0 ≤ w ∧ w < 26 ∧ 0 ≤ row ∧ row < mI m 31 64)) : Ct μX11_holds 21 [vr 30, vi w, vi row] m (ri fun x_ m' => (x_ = -1) ∧ m = m') := by
  refine Ct_of_V rfl (by decide) rfl (Nat.le_of_ble_eq_true rfl) ?_
  show V μX11_holds 21 m _ 0 [(0, vr 30), (1, vi w), (2, vi row)] [] m
  refine V_rg (k := 1) (x := w) rfl fun r_w => ?_
  refine V_rg (k := 2) (x := row) rfl fun r_row => ?_
  refine V_ld (pc := 0) dX11_holds_0 (v := vi w) rfl rfl ?_
  refine V_i2l (pc := 1) dX11_holds_1 ?_
  refine V_lconst (pc := 2) dX11_holds_2 (x := 0) (by unfold I64; omega) (by decide) ?_
  refine V_ldc2 (pc := 3) dX11_holds_3 (x := 25) kl_RX11_261 (by unfold I64; omega) rfl ?_
  refine V_callS (pc := 6) dX11_holds_6 (F' := 0) (As := [vl w, vl 0, vl 25]) (st := []) cw_RX11_101 rfl rfl (Nat.le_of_ble_eq_true rfl) (by omega) (r_isIn  m w 0 25   ) ?_
  rintro _ _ ⟨x6, rfl, hx6, rfl⟩ ok6 le6
  refine V_if_eq (pc := 9) dX11_holds_9 (tgt := 38) rfl (fun h9 => ?_) (fun h9 => ?_)
  · skip
    refine V_iconst (pc := 38) dX11_holds_38 (by unfold I32; omega) ?_
    refine V_reti (pc := 39) dX11_holds_39 trivial ?_
    exact ⟨rfl, rfl⟩
  · skip
    refine V_ld (pc := 12) dX11_holds_12 (v := vr 30) rfl rfl ?_
    refine V_ld (pc := 13) dX11_holds_13 (v := vi row) rfl rfl ?_
    refine V_callV (pc := 14) dX11_holds_14 (F' := 1) (As := [vi row]) (st := []) cw_RX11_113 rfl rfl hL.t30 (by decide) (Nat.le_of_ble_eq_true rfl) (by omega) (r_isRow  m row   (by first | assumption | omega) (by first | assumption | omega)) ?_
    rintro _ _ ⟨x14, rfl, hx14, rfl⟩ ok14 le14
    refine V_if_eq (pc := 17) dX11_holds_17 (tgt := 38) rfl (fun h17 => ?_) (fun h17 => ?_)
    · skip
      refine V_iconst (pc := 38) dX11_holds_38 (by unfold I32; omega) ?_
      refine V_reti (pc := 39) dX11_holds_39 trivial ?_
      exact ⟨rfl, rfl⟩
    · skip
      exfalso; omega
