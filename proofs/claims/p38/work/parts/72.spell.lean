/-! spell(): numbers and quantities are written, class and reference -/
def apI (ct ck ba : Nat) : (Nat → Nat → Int) → List Int → Nat → Nat → Int
  | I, [] => I
  | I, x :: l => apI ct ck ba (up2 (up2 I ba (I ct ck).toNat x) ct ck (I ct ck + 1)) l
def apM (ct ck ba : Nat) (m : Mem) (l : List Int) : Mem := wI m (apI ct ck ba (mI m) l)
theorem apI_app {ct ck ba : Nat} : ∀ (l l' : List Int) (I : Nat → Nat → Int), apI ct ck ba (apI ct ck ba I l) l' = apI ct ck ba I (l ++ l')
  | [], _, _ => rfl
  | x :: l, l', I => apI_app l l' _
theorem apM_app {ct ck ba : Nat} {m : Mem} {l l' : List Int} : apM ct ck ba (apM ct ck ba m l) l' = apM ct ck ba m (l ++ l') := congrArg (wI m) (apI_app l l' (mI m))
theorem apM_nil {ct ck ba : Nat} {m : Mem} : apM ct ck ba m [] = m := rfl
theorem apI_sz {ct ck ba : Nat} : ∀ (l : List Int) (I : Nat → Nat → Int), apI ct ck ba I l ct ck = I ct ck + (l.length : Int)
  | [], I => (Int.add_zero _).symm
  | x :: l, I => by
    show apI ct ck ba (up2 (up2 I ba (I ct ck).toNat x) ct ck (I ct ck + 1)) l ct ck = _
    rw [apI_sz l, up2_s, List.length_cons]
    omega
theorem apM_sz {ct ck ba : Nat} {m : Mem} {l : List Int} : mI (apM ct ck ba m l) ct ck = mI m ct ck + (l.length : Int) := apI_sz l (mI m)
theorem apI_ne {ct ck ba o k : Nat} (h1 : ¬ (o = ct ∧ k = ck)) (h2 : o ≠ ba) : ∀ (l : List Int) (I : Nat → Nat → Int), apI ct ck ba I l o k = I o k
  | [], I => rfl
  | x :: l, I => by
    show apI ct ck ba (up2 (up2 I ba (I ct ck).toNat x) ct ck (I ct ck + 1)) l o k = _
    rw [apI_ne h1 h2 l, up2_nx h1, up2_nx (fun e => h2 e.1)]
theorem apM_ne {ct ck ba o k : Nat} {m : Mem} {l : List Int} (h1 : ¬ (o = ct ∧ k = ck)) (h2 : o ≠ ba) : mI (apM ct ck ba m l) o k = mI m o k := apI_ne h1 h2 l (mI m)

set_option maxHeartbeats 4000000 in
theorem c_add1  (m : Mem) (g : Int)   (hL : Lay (mT m) (mR m)) (hs : 0 ≤ mI m 15 1 ∧ mI m 15 1 < 120) : Ct μX9_add 0 [vr 15, vi g] m (ri fun x_ m' => (True) ∧ apM 15 1 16 m [g] = m') := by
  refine Ct_of_V rfl (by decide) rfl (Nat.le_of_ble_eq_true rfl) ?_
  show V μX9_add 0 m _ 0 [(0, vr 15), (1, vi g)] [] m
  refine V_rg (k := 1) (x := g) rfl fun r_g => ?_
  refine V_ld (pc := 0) dX9_add_0 (v := vr 15) rfl rfl ?_
  refine V_getIv (pc := 1) dX9_add_1 (v := mI m 15 1) fw_RX9_15 rfl hL.t15 rfl (fun g1 => ?_)
  refine V_if_lt (pc := 4) dX9_add_4 (tgt := 16) rfl (fun h4 => ?_) (fun h4 => ?_)
  · skip
    refine V_iconst (pc := 16) dX9_add_16 (by unfold I32; omega) ?_
    refine V_reti (pc := 17) dX9_add_17 (show _ = (0 : Int) ∨ _ = (1 : Int) from by first | exact Or.inl rfl | exact Or.inr rfl | omega) ?_
    first | (exfalso; omega) | exact ⟨trivial, rfl⟩
  · skip
    refine V_ld (pc := 7) dX9_add_7 (v := vr 15) rfl rfl ?_
    refine V_getIv (pc := 8) dX9_add_8 (v := mI m 15 1) fw_RX9_15 rfl hL.t15 rfl (fun g8 => ?_)
    refine V_bipush (pc := 11) dX9_add_11 (by unfold I32; omega) (by decide) ?_
    refine V_icmp_lt (pc := 13) dX9_add_13 (tgt := 18) rfl (fun h13 => ?_) (fun h13 => ?_)
    · skip
      refine V_ld (pc := 18) dX9_add_18 (v := vr 15) rfl rfl ?_
      refine V_getRv (pc := 19) dX9_add_19 (o' := 16) fw_RX9_9 rfl hL.t15 hL.r15_0 ?_
      refine V_ld (pc := 22) dX9_add_22 (v := vr 15) rfl rfl ?_
      refine V_getIv (pc := 23) dX9_add_23 (v := mI m 15 1) fw_RX9_15 rfl hL.t15 rfl (fun g23 => ?_)
      refine V_ld (pc := 26) dX9_add_26 (v := vi g) rfl rfl ?_
      refine V_iast (pc := 27) dX9_add_27 hL.t16 (by omega) ?_
      refine V_ld (pc := 28) dX9_add_28 (v := vr 15) rfl rfl ?_
      refine V_dup (pc := 29) dX9_add_29 rfl ?_
      refine V_getIv (pc := 30) dX9_add_30 (v := mI m 15 1) fw_RX9_15 rfl hL.t15 (by first | rfl | (simp only [mI_setI, up2]; repeat (first | rfl | rw [if_neg (by omega)] | rw [if_pos (by omega)]))) (fun g30 => ?_)
      refine V_iconst (pc := 33) dX9_add_33 (by unfold I32; omega) ?_
      refine V_iadd (pc := 34) dX9_add_34 (by unfold I32 at *; omega) ?_
      refine V_putI (pc := 35) dX9_add_35 fw_RX9_15 rfl hL.t15 (Or.inl rfl) (Or.inl rfl) ?_
      refine V_iconst (pc := 38) dX9_add_38 (by unfold I32; omega) ?_
      refine V_reti (pc := 39) dX9_add_39 (show _ = (0 : Int) ∨ _ = (1 : Int) from by first | exact Or.inl rfl | exact Or.inr rfl | omega) ?_
      first | (exfalso; omega) | exact ⟨trivial, rfl⟩
    · skip
      refine V_iconst (pc := 16) dX9_add_16 (by unfold I32; omega) ?_
      refine V_reti (pc := 17) dX9_add_17 (show _ = (0 : Int) ∨ _ = (1 : Int) from by first | exact Or.inl rfl | exact Or.inr rfl | omega) ?_
      first | (exfalso; omega) | exact ⟨trivial, rfl⟩

