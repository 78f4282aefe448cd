/-! a situation becomes another: the class -/
/-- the objects of a situation: S, its table S + 1, cells S + 2, conditions S + 3; its matches M, M + 1 .. M + 3 -/
def SitL (T : Nat → Nat × Nat) (R : Nat → Nat → Option Nat) (S M : Nat) : Prop := T S = (7, 8) ∧ R S 0 = some (S + 1) ∧ R S 1 = some (S + 3) ∧ R S 3 = some M ∧ T (S + 1) = (8, 2) ∧ R (S + 1) 0 = some (S + 2) ∧ T (S + 2) = (20, 64) ∧ T (S + 3) = (23, 26) ∧ T M = (3, 4) ∧ R M 0 = some (M + 1) ∧ R M 1 = some (M + 2) ∧ R M 2 = some (M + 3) ∧ T (M + 1) = (20, 33) ∧ T (M + 2) = (20, 33) ∧ T (M + 3) = (20, 1056)
/-- m' is m, where the situation S has become S2 -/
def SitB (m m' : Mem) (S M S2 M2 : Nat) : Prop := mT m' = mT m ∧ mN m' = mN m ∧ mZ m' = mZ m ∧ mI m' (S + 1) 1 = mI m (S2 + 1) 1 ∧ (∀ k, k < 64 → mI m' (S + 2) k = mI m (S2 + 2) k) ∧ mI m' M 3 = mI m M2 3 ∧ (∀ k, k < 33 → mI m' (M + 1) k = mI m (M2 + 1) k) ∧ (∀ k, k < 33 → mI m' (M + 2) k = mI m (M2 + 2) k) ∧ (∀ k, k < 1056 → mI m' (M + 3) k = mI m (M2 + 3) k) ∧ (∀ k, 4 ≤ k → k ≤ 7 → mI m' S k = mI m S2 k) ∧ (∀ o k, o ≠ S → o ≠ S + 1 → o ≠ S + 2 → ¬ (M ≤ o ∧ o ≤ M + 3) → mI m' o k = mI m o k) ∧ (∀ k, k < 26 → mR m' (S + 3) k = mR m (S2 + 3) k) ∧ mR m' S 2 = mR m S2 2 ∧ ∀ o k, ¬ (o = S + 3 ∧ k < 26) → ¬ (o = S ∧ k = 2) → mR m' o k = mR m o k

theorem mI_cpyR {m : Mem} {a sp b dp n : Nat} : mI (cpyR m a sp b dp n) = mI m := rfl
theorem mR_cpyR {m : Mem} {a sp b dp n : Nat} {o k : Nat} : mR (cpyR m a sp b dp n) o k = if o = b ∧ dp ≤ k ∧ k < dp + n then mR m a (sp + (k - dp)) else mR m o k := rfl
theorem mR_cpyI {m : Mem} {a sp b dp n : Nat} : mR (cpyI m a sp b dp n) = mR m := rfl

set_option maxHeartbeats 4000000 in
theorem c_sitBecome (M : Nat) (M2 : Nat) (m : Mem) (S : Nat) (s_ : Nat)   (hs : SitL (mT m) (mR m) S M ∧ SitL (mT m) (mR m) s_ M2) (hd : (S + 3 < s_ ∨ s_ + 3 < S) ∧ (M + 3 < s_ ∨ s_ + 3 < M) ∧ (M + 3 < S ∨ S + 3 < M) ∧ (M2 + 3 < S ∨ S + 3 < M2) ∧ (M2 + 3 < M ∨ M + 3 < M2) ∧ (M2 + 3 < s_ ∨ s_ + 3 < M2)) (hel : ∀ k o, mR m (s_ + 3) k = some o → mT m o = (0, 1)) (hpa : ∀ o, mR m s_ 2 = some o → mT m o = (4, 2) ∧ o ≠ SC) : Ct μX7_become 2 [vr S, vr s_] m (rv fun m' => SitB m m' S M s_ M2) := by
  refine Ct_of_V rfl (by decide) rfl (Nat.le_of_ble_eq_true rfl) ?_
  show V μX7_become 2 m _ 0 [(0, vr S), (1, vr s_)] [] m
  refine V_ld (pc := 0) dX7_become_0 (v := vr S) rfl rfl ?_
  refine V_getRv (pc := 1) dX7_become_1 (o' := (S + 1)) fw_RX7_12 rfl hs.1.1 hs.1.2.1 ?_
  refine V_ld (pc := 4) dX7_become_4 (v := vr s_) rfl rfl ?_
  refine V_getRv (pc := 5) dX7_become_5 (o' := (s_ + 1)) fw_RX7_12 rfl hs.2.1 hs.2.2.1 ?_
  refine V_callV (pc := 8) dX7_become_8 (F' := 1) (As := [vr (s_ + 1)]) (st := []) cw_RX7_41 rfl rfl hs.1.2.2.2.2.1 (by decide) (Nat.le_of_ble_eq_true rfl) (by omega) (c_tabBecome  m (S + 1) (s_ + 1) (S + 2) (s_ + 2)  hs.1.2.2.2.2.1 hs.1.2.2.2.2.2.1 hs.1.2.2.2.2.2.2.1 hs.2.2.2.2.2.1 hs.2.2.2.2.2.2.1 hs.2.2.2.2.2.2.2.1 (by first | assumption | omega)) ?_
  rintro _ _ ⟨rfl, rfl⟩ ok8 le8
  refine V_ld (pc := 11) dX7_become_11 (v := vr s_) rfl rfl ?_
  refine V_getRv (pc := 12) dX7_become_12 (o' := (s_ + 3)) fw_RX7_20 rfl hs.2.1 hs.2.2.2.1 ?_
  refine V_iconst (pc := 15) dX7_become_15 (by unfold I32; omega) ?_
  refine V_ld (pc := 16) dX7_become_16 (v := vr S) rfl rfl ?_
  refine V_getRv (pc := 17) dX7_become_17 (o' := (S + 3)) fw_RX7_20 rfl hs.1.1 hs.1.2.2.1 ?_
  refine V_iconst (pc := 20) dX7_become_20 (by unfold I32; omega) ?_
  refine V_bipush (pc := 21) dX7_become_21 (by unfold I32; omega) (by decide) ?_
  refine V_acopyR (pc := 23) dX7_become_23 ac_RX7_45 hs.2.2.2.2.2.2.2.2.1 hs.1.2.2.2.2.2.2.2.1 (by omega) (by omega) (by omega) (by omega) (by omega) (fun k o h_ => hel k o h_) (by omega) (Nat.le_of_ble_eq_true rfl) ?_
  refine V_ld (pc := 26) dX7_become_26 (v := vr S) rfl rfl ?_
  refine V_ld (pc := 27) dX7_become_27 (v := vr s_) rfl rfl ?_
  refine V_getR (pc := 28) dX7_become_28 fw_RX7_51 rfl hs.2.1 ?_
  refine V_putR (pc := 31) dX7_become_31 fw_RX7_51 rfl hs.1.1 (Or.inl rfl) (fun o_ h_ => (hpa o_ ((show mR (cpyR (setI (cpyI m (s_ + 2) 0 (S + 2) 0 64) (S + 1) 1 (mI m (s_ + 1) 1)) (s_ + 3) 0 (S + 3) 0 26) s_ 2 = mR m s_ 2 from if_neg (by omega)).symm.trans h_)).2) ?_
  refine V_ld (pc := 34) dX7_become_34 (v := vr S) rfl rfl ?_
  refine V_getRv (pc := 35) dX7_become_35 (o' := M) fw_RX7_27 rfl hs.1.1 ((mR_setne (by omega)).trans ((show mR (cpyR (setI (cpyI m (s_ + 2) 0 (S + 2) 0 64) (S + 1) 1 (mI m (s_ + 1) 1)) (s_ + 3) 0 (S + 3) 0 26) S 3 = mR m S 3 from if_neg (by omega)).trans hs.1.2.2.2.1)) ?_
  refine V_ld (pc := 38) dX7_become_38 (v := vr s_) rfl rfl ?_
  refine V_getRv (pc := 39) dX7_become_39 (o' := M2) fw_RX7_27 rfl hs.2.1 ((mR_setne (by omega)).trans ((show mR (cpyR (setI (cpyI m (s_ + 2) 0 (S + 2) 0 64) (S + 1) 1 (mI m (s_ + 1) 1)) (s_ + 3) 0 (S + 3) 0 26) s_ 3 = mR m s_ 3 from if_neg (by omega)).trans hs.2.2.2.2.1)) ?_
  refine V_callV (pc := 42) dX7_become_42 (F' := 1) (As := [vr M2]) (st := []) cw_RX7_55 rfl rfl hs.1.2.2.2.2.2.2.2.2.1 (by decide) (Nat.le_of_ble_eq_true rfl) (by omega) (c_matBecome  (setR (cpyR (setI (cpyI m (s_ + 2) 0 (S + 2) 0 64) (S + 1) 1 (mI m (s_ + 1) 1)) (s_ + 3) 0 (S + 3) 0 26) S 2 (mR (cpyR (setI (cpyI m (s_ + 2) 0 (S + 2) 0 64) (S + 1) 1 (mI m (s_ + 1) 1)) (s_ + 3) 0 (S + 3) 0 26) s_ 2)) M M2 (M + 1) (M + 2) (M + 3) (M2 + 1) (M2 + 2) (M2 + 3)  hs.1.2.2.2.2.2.2.2.2.1 ((mR_setne (by omega)).trans ((show mR (cpyR (setI (cpyI m (s_ + 2) 0 (S + 2) 0 64) (S + 1) 1 (mI m (s_ + 1) 1)) (s_ + 3) 0 (S + 3) 0 26) M 0 = mR m M 0 from if_neg (by omega)).trans hs.1.2.2.2.2.2.2.2.2.2.1)) ((mR_setne (by omega)).trans ((show mR (cpyR (setI (cpyI m (s_ + 2) 0 (S + 2) 0 64) (S + 1) 1 (mI m (s_ + 1) 1)) (s_ + 3) 0 (S + 3) 0 26) M 1 = mR m M 1 from if_neg (by omega)).trans hs.1.2.2.2.2.2.2.2.2.2.2.1)) ((mR_setne (by omega)).trans ((show mR (cpyR (setI (cpyI m (s_ + 2) 0 (S + 2) 0 64) (S + 1) 1 (mI m (s_ + 1) 1)) (s_ + 3) 0 (S + 3) 0 26) M 2 = mR m M 2 from if_neg (by omega)).trans hs.1.2.2.2.2.2.2.2.2.2.2.2.1)) hs.1.2.2.2.2.2.2.2.2.2.2.2.2.1 hs.1.2.2.2.2.2.2.2.2.2.2.2.2.2.1 hs.1.2.2.2.2.2.2.2.2.2.2.2.2.2.2 hs.2.2.2.2.2.2.2.2.2.1 ((mR_setne (by omega)).trans ((show mR (cpyR (setI (cpyI m (s_ + 2) 0 (S + 2) 0 64) (S + 1) 1 (mI m (s_ + 1) 1)) (s_ + 3) 0 (S + 3) 0 26) M2 0 = mR m M2 0 from if_neg (by omega)).trans hs.2.2.2.2.2.2.2.2.2.2.1)) ((mR_setne (by omega)).trans ((show mR (cpyR (setI (cpyI m (s_ + 2) 0 (S + 2) 0 64) (S + 1) 1 (mI m (s_ + 1) 1)) (s_ + 3) 0 (S + 3) 0 26) M2 1 = mR m M2 1 from if_neg (by omega)).trans hs.2.2.2.2.2.2.2.2.2.2.2.1)) ((mR_setne (by omega)).trans ((show mR (cpyR (setI (cpyI m (s_ + 2) 0 (S + 2) 0 64) (S + 1) 1 (mI m (s_ + 1) 1)) (s_ + 3) 0 (S + 3) 0 26) M2 2 = mR m M2 2 from if_neg (by omega)).trans hs.2.2.2.2.2.2.2.2.2.2.2.2.1)) hs.2.2.2.2.2.2.2.2.2.2.2.2.2.1 hs.2.2.2.2.2.2.2.2.2.2.2.2.2.2.1 hs.2.2.2.2.2.2.2.2.2.2.2.2.2.2.2 (by first | assumption | omega)) ?_
  rintro _ _ ⟨rfl, rfl⟩ ok42 le42
  refine V_ld (pc := 45) dX7_become_45 (v := vr S) rfl rfl ?_
  refine V_ld (pc := 46) dX7_become_46 (v := vr s_) rfl rfl ?_
  refine V_getIv (pc := 47) dX7_become_47 (v := mI (setI (cpyI (cpyI (cpyI (setR (cpyR (setI (cpyI m (s_ + 2) 0 (S + 2) 0 64) (S + 1) 1 (mI m (s_ + 1) 1)) (s_ + 3) 0 (S + 3) 0 26) S 2 (mR (cpyR (setI (cpyI m (s_ + 2) 0 (S + 2) 0 64) (S + 1) 1 (mI m (s_ + 1) 1)) (s_ + 3) 0 (S + 3) 0 26) s_ 2)) (M2 + 1) 0 (M + 1) 0 33) (M2 + 2) 0 (M + 2) 0 33) (M2 + 3) 0 (M + 3) 0 1056) M 3 (mI (setR (cpyR (setI (cpyI m (s_ + 2) 0 (S + 2) 0 64) (S + 1) 1 (mI m (s_ + 1) 1)) (s_ + 3) 0 (S + 3) 0 26) S 2 (mR (cpyR (setI (cpyI m (s_ + 2) 0 (S + 2) 0 64) (S + 1) 1 (mI m (s_ + 1) 1)) (s_ + 3) 0 (S + 3) 0 26) s_ 2)) M2 3)) s_ 4) fw_RX7_31 rfl hs.2.1 rfl (fun g47 => ?_)
  refine V_putI (pc := 50) dX7_become_50 fw_RX7_31 rfl hs.1.1 (Or.inl rfl) (Or.inl rfl) ?_
  refine V_ld (pc := 53) dX7_become_53 (v := vr S) rfl rfl ?_
  refine V_ld (pc := 54) dX7_become_54 (v := vr s_) rfl rfl ?_
  refine V_getIv (pc := 55) dX7_become_55 (v := mI (setI (cpyI (cpyI (cpyI (setR (cpyR (setI (cpyI m (s_ + 2) 0 (S + 2) 0 64) (S + 1) 1 (mI m (s_ + 1) 1)) (s_ + 3) 0 (S + 3) 0 26) S 2 (mR (cpyR (setI (cpyI m (s_ + 2) 0 (S + 2) 0 64) (S + 1) 1 (mI m (s_ + 1) 1)) (s_ + 3) 0 (S + 3) 0 26) s_ 2)) (M2 + 1) 0 (M + 1) 0 33) (M2 + 2) 0 (M + 2) 0 33) (M2 + 3) 0 (M + 3) 0 1056) M 3 (mI (setR (cpyR (setI (cpyI m (s_ + 2) 0 (S + 2) 0 64) (S + 1) 1 (mI m (s_ + 1) 1)) (s_ + 3) 0 (S + 3) 0 26) S 2 (mR (cpyR (setI (cpyI m (s_ + 2) 0 (S + 2) 0 64) (S + 1) 1 (mI m (s_ + 1) 1)) (s_ + 3) 0 (S + 3) 0 26) s_ 2)) M2 3)) s_ 5) fw_RX7_58 rfl hs.2.1 (by first | rfl | (simp only [mI_setI, up2]; repeat (first | rfl | rw [if_neg (by omega)] | rw [if_pos (by omega)]))) (fun g55 => ?_)
  refine V_putI (pc := 58) dX7_become_58 fw_RX7_58 rfl hs.1.1 (Or.inl rfl) (Or.inl rfl) ?_
  refine V_ld (pc := 61) dX7_become_61 (v := vr S) rfl rfl ?_
  refine V_ld (pc := 62) dX7_become_62 (v := vr s_) rfl rfl ?_
  refine V_getIv (pc := 63) dX7_become_63 (v := mI (setI (cpyI (cpyI (cpyI (setR (cpyR (setI (cpyI m (s_ + 2) 0 (S + 2) 0 64) (S + 1) 1 (mI m (s_ + 1) 1)) (s_ + 3) 0 (S + 3) 0 26) S 2 (mR (cpyR (setI (cpyI m (s_ + 2) 0 (S + 2) 0 64) (S + 1) 1 (mI m (s_ + 1) 1)) (s_ + 3) 0 (S + 3) 0 26) s_ 2)) (M2 + 1) 0 (M + 1) 0 33) (M2 + 2) 0 (M + 2) 0 33) (M2 + 3) 0 (M + 3) 0 1056) M 3 (mI (setR (cpyR (setI (cpyI m (s_ + 2) 0 (S + 2) 0 64) (S + 1) 1 (mI m (s_ + 1) 1)) (s_ + 3) 0 (S + 3) 0 26) S 2 (mR (cpyR (setI (cpyI m (s_ + 2) 0 (S + 2) 0 64) (S + 1) 1 (mI m (s_ + 1) 1)) (s_ + 3) 0 (S + 3) 0 26) s_ 2)) M2 3)) s_ 6) fw_RX7_35 rfl hs.2.1 (by first | rfl | (simp only [mI_setI, up2]; repeat (first | rfl | rw [if_neg (by omega)] | rw [if_pos (by omega)]))) (fun g63 => ?_)
  refine V_putI (pc := 66) dX7_become_66 fw_RX7_35 rfl hs.1.1 (Or.inl rfl) (Or.inl rfl) ?_
  refine V_ld (pc := 69) dX7_become_69 (v := vr S) rfl rfl ?_
  refine V_ld (pc := 70) dX7_become_70 (v := vr s_) rfl rfl ?_
  refine V_getIv (pc := 71) dX7_become_71 (v := mI (setI (cpyI (cpyI (cpyI (setR (cpyR (setI (cpyI m (s_ + 2) 0 (S + 2) 0 64) (S + 1) 1 (mI m (s_ + 1) 1)) (s_ + 3) 0 (S + 3) 0 26) S 2 (mR (cpyR (setI (cpyI m (s_ + 2) 0 (S + 2) 0 64) (S + 1) 1 (mI m (s_ + 1) 1)) (s_ + 3) 0 (S + 3) 0 26) s_ 2)) (M2 + 1) 0 (M + 1) 0 33) (M2 + 2) 0 (M + 2) 0 33) (M2 + 3) 0 (M + 3) 0 1056) M 3 (mI (setR (cpyR (setI (cpyI m (s_ + 2) 0 (S + 2) 0 64) (S + 1) 1 (mI m (s_ + 1) 1)) (s_ + 3) 0 (S + 3) 0 26) S 2 (mR (cpyR (setI (cpyI m (s_ + 2) 0 (S + 2) 0 64) (S + 1) 1 (mI m (s_ + 1) 1)) (s_ + 3) 0 (S + 3) 0 26) s_ 2)) M2 3)) s_ 7) fw_RX7_38 rfl hs.2.1 (by first | rfl | (simp only [mI_setI, up2]; repeat (first | rfl | rw [if_neg (by omega)] | rw [if_pos (by omega)]))) (fun g71 => ?_)
  refine V_putI (pc := 74) dX7_become_74 fw_RX7_38 rfl hs.1.1 (Or.inl rfl) (Or.inl rfl) ?_
  refine V_retv (pc := 77) dX7_become_77 trivial ?_
  clear hs hel hpa
  refine ⟨rfl, rfl, rfl, ?_, fun k hk => ?_, ?_, fun k hk => ?_, fun k hk => ?_, fun k hk => ?_, fun k h4 h7 => ?_, fun o k n1 n2 n3 n4 => ?_, fun k hk => ?_, ?_, fun o k n1 n2 => ?_⟩
  · simp only [mI_setI, up2, mI_cpyI, mI_setR, mI_cpyR, Nat.zero_add, Nat.sub_zero, Nat.zero_le, true_and]; repeat (first | rfl | rw [if_pos trivial] | rw [if_neg not_false] | rw [if_neg (by omega)] | rw [if_pos (by omega)])
  · simp only [mI_setI, up2, mI_cpyI, mI_setR, mI_cpyR, Nat.zero_add, Nat.sub_zero, Nat.zero_le, true_and]; repeat (first | rfl | rw [if_pos trivial] | rw [if_neg not_false] | rw [if_neg (by omega)] | rw [if_pos (by omega)])
  · simp only [mI_setI, up2, mI_cpyI, mI_setR, mI_cpyR, Nat.zero_add, Nat.sub_zero, Nat.zero_le, true_and]; repeat (first | rfl | rw [if_pos trivial] | rw [if_neg not_false] | rw [if_neg (by omega)] | rw [if_pos (by omega)])
  · simp only [mI_setI, up2, mI_cpyI, mI_setR, mI_cpyR, Nat.zero_add, Nat.sub_zero, Nat.zero_le, true_and]; repeat (first | rfl | rw [if_pos trivial] | rw [if_neg not_false] | rw [if_neg (by omega)] | rw [if_pos (by omega)])
  · simp only [mI_setI, up2, mI_cpyI, mI_setR, mI_cpyR, Nat.zero_add, Nat.sub_zero, Nat.zero_le, true_and]; repeat (first | rfl | rw [if_pos trivial] | rw [if_neg not_false] | rw [if_neg (by omega)] | rw [if_pos (by omega)])
  · simp only [mI_setI, up2, mI_cpyI, mI_setR, mI_cpyR, Nat.zero_add, Nat.sub_zero, Nat.zero_le, true_and]; repeat (first | rfl | rw [if_pos trivial] | rw [if_neg not_false] | rw [if_neg (by omega)] | rw [if_pos (by omega)])
  · rcases (show k = 4 ∨ k = 5 ∨ k = 6 ∨ k = 7 by omega) with rfl | rfl | rfl | rfl <;> (simp only [mI_setI, up2, mI_cpyI, mI_setR, mI_cpyR, Nat.zero_add, Nat.sub_zero, Nat.zero_le, true_and]; repeat (first | rfl | rw [if_pos trivial] | rw [if_neg not_false] | rw [if_neg (by omega)] | rw [if_pos (by omega)]))
  · simp only [mI_setI, up2, mI_cpyI, mI_setR, mI_cpyR, Nat.zero_add, Nat.sub_zero, Nat.zero_le, true_and]; repeat (first | rfl | rw [if_pos trivial] | rw [if_neg not_false] | rw [if_neg (by omega)] | rw [if_pos (by omega)])
  · simp only [mR_setI, up2, mR_cpyI, mR_setR, mR_cpyR, Nat.zero_add, Nat.sub_zero, Nat.zero_le, true_and]; repeat (first | rfl | rw [if_pos trivial] | rw [if_neg not_false] | rw [if_neg (by omega)] | rw [if_pos (by omega)])
  · simp only [mR_setI, up2, mR_cpyI, mR_setR, mR_cpyR, Nat.zero_add, Nat.sub_zero, Nat.zero_le, true_and]; repeat (first | rfl | rw [if_pos trivial] | rw [if_neg not_false] | rw [if_neg (by omega)] | rw [if_pos (by omega)])
  · simp only [mR_setI, up2, mR_cpyI, mR_setR, mR_cpyR, Nat.zero_add, Nat.sub_zero, Nat.zero_le, true_and]; repeat (first | rfl | rw [if_pos trivial] | rw [if_neg not_false] | rw [if_neg (by omega)] | rw [if_pos (by omega)])
