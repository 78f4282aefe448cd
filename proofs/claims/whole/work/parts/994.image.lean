/-! image() and undo() of the class -/
set_option maxHeartbeats 4000000 in
theorem c_sitBecome2 (M : Nat) (M2 : Nat) (m : Mem) (S : Nat) (s_ : Nat)   (hs : SitL (mT m) (mR m) S M ∧ SitL (mT m) (mR m) s_ M2) (hd : (S + 3 < s_ ∨ s_ + 3 < S) ∧ (M + 3 < s_ ∨ s_ + 3 < M) ∧ (M + 3 < S ∨ S + 3 < M) ∧ (M2 + 3 < S ∨ S + 3 < M2) ∧ (M2 + 3 < M ∨ M + 3 < M2) ∧ (M2 + 3 < s_ ∨ s_ + 3 < M2)) (hel : ∀ k o, k < 26 → mR m (s_ + 3) k = some o → mT m o = (0, 1)) (hpa : ∀ o, mR m s_ 2 = some o → mT m o = (4, 2) ∧ o ≠ SC) : Ct μX7_become 2 [vr S, vr s_] m (rv fun m' => SitB m m' S M s_ M2) := by
  refine Ct_of_V rfl (by decide) rfl (Nat.le_of_ble_eq_true rfl) ?_
  show V μX7_become 2 m _ 0 [(0, vr S), (1, vr s_)] [] m
  refine V_ld (pc := 0) dX7_become_0 (v := vr S) rfl rfl ?_
  refine V_getRv (pc := 1) dX7_become_1 (o' := (S + 1)) fw_RX7_12 rfl hs.1.1 hs.1.2.1 ?_
  refine V_ld (pc := 4) dX7_become_4 (v := vr s_) rfl rfl ?_
  refine V_getRv (pc := 5) dX7_become_5 (o' := (s_ + 1)) fw_RX7_12 rfl hs.2.1 hs.2.2.1 ?_
  refine V_callV (pc := 8) dX7_become_8 (F' := 1) (As := [vr (s_ + 1)]) (st := []) cw_RX7_41 rfl rfl hs.1.2.2.2.2.1 (by decide) (Nat.le_of_ble_eq_true rfl) (by omega) (c_tabBecome  m (S + 1) (s_ + 1) (S + 2) (s_ + 2)  hs.1.2.2.2.2.1 hs.1.2.2.2.2.2.1 hs.1.2.2.2.2.2.2.1 hs.2.2.2.2.2.1 hs.2.2.2.2.2.2.1 hs.2.2.2.2.2.2.2.1 (by first | assumption | omega)) ?_
  rintro _ _ ⟨rfl, rfl⟩ ok8 le8
  refine V_iconst (pc := 11) dX7_become_11 (by unfold I32; omega) ?_
  refine V_st (pc := 12) dX7_become_12 (ls' := [(2, vi 0), (0, vr S), (1, vr s_)]) rfl (Nat.le_of_ble_eq_true rfl) rfl ?_
  refine V_ls (ls' := [(2, vi ((0 : Nat) : Int)), (0, vr S), (1, vr s_)]) (by intro q_ h_; simp only [List.mem_cons, List.not_mem_nil, or_false] at h_ ⊢; rcases h_ with rfl | rfl | rfl <;> simp) ?_
  refine V_mem (cpyR_0 (a := s_ + 3) (sp := 0) (b := S + 3) (dp := 0)).symm ?_
  refine L_sitC (m := (setI (cpyI m (s_ + 2) 0 (S + 2) 0 64) (S + 1) 1 (mI m (s_ + 1) 1))) hs.1.1 hs.2.1 hs.1.2.2.2.2.2.2.2.1 hs.2.2.2.2.2.2.2.2.1 hs.1.2.2.1 hs.2.2.2.1 hd.1 hel ?_ 26 0 (by omega)
  refine V_ld (pc := 37) dX7_become_37 (v := vr S) rfl rfl ?_
  refine V_ld (pc := 38) dX7_become_38 (v := vr s_) rfl rfl ?_
  refine V_getR (pc := 39) dX7_become_39 fw_RX7_45 rfl hs.2.1 ?_
  refine V_putR (pc := 42) dX7_become_42 fw_RX7_45 rfl hs.1.1 (Or.inl rfl) (fun o_ h_ => (hpa o_ ((show mR (cpyR (setI (cpyI m (s_ + 2) 0 (S + 2) 0 64) (S + 1) 1 (mI m (s_ + 1) 1)) (s_ + 3) 0 (S + 3) 0 26) s_ 2 = mR m s_ 2 from if_neg (by omega)).symm.trans h_)).2) ?_
  refine V_ld (pc := 45) dX7_become_45 (v := vr S) rfl rfl ?_
  refine V_getRv (pc := 46) dX7_become_46 (o' := M) fw_RX7_27 rfl hs.1.1 ((mR_setne (by omega)).trans ((show mR (cpyR (setI (cpyI m (s_ + 2) 0 (S + 2) 0 64) (S + 1) 1 (mI m (s_ + 1) 1)) (s_ + 3) 0 (S + 3) 0 26) S 3 = mR m S 3 from if_neg (by omega)).trans hs.1.2.2.2.1)) ?_
  refine V_ld (pc := 49) dX7_become_49 (v := vr s_) rfl rfl ?_
  refine V_getRv (pc := 50) dX7_become_50 (o' := M2) fw_RX7_27 rfl hs.2.1 ((mR_setne (by omega)).trans ((show mR (cpyR (setI (cpyI m (s_ + 2) 0 (S + 2) 0 64) (S + 1) 1 (mI m (s_ + 1) 1)) (s_ + 3) 0 (S + 3) 0 26) s_ 3 = mR m s_ 3 from if_neg (by omega)).trans hs.2.2.2.2.1)) ?_
  refine V_callV (pc := 53) dX7_become_53 (F' := 1) (As := [vr M2]) (st := []) cw_RX7_49 rfl rfl hs.1.2.2.2.2.2.2.2.2.1 (by decide) (Nat.le_of_ble_eq_true rfl) (by omega) (c_matBecome  (setR (cpyR (setI (cpyI m (s_ + 2) 0 (S + 2) 0 64) (S + 1) 1 (mI m (s_ + 1) 1)) (s_ + 3) 0 (S + 3) 0 26) S 2 (mR (cpyR (setI (cpyI m (s_ + 2) 0 (S + 2) 0 64) (S + 1) 1 (mI m (s_ + 1) 1)) (s_ + 3) 0 (S + 3) 0 26) s_ 2)) M M2 (M + 1) (M + 2) (M + 3) (M2 + 1) (M2 + 2) (M2 + 3)  hs.1.2.2.2.2.2.2.2.2.1 ((mR_setne (by omega)).trans ((show mR (cpyR (setI (cpyI m (s_ + 2) 0 (S + 2) 0 64) (S + 1) 1 (mI m (s_ + 1) 1)) (s_ + 3) 0 (S + 3) 0 26) M 0 = mR m M 0 from if_neg (by omega)).trans hs.1.2.2.2.2.2.2.2.2.2.1)) ((mR_setne (by omega)).trans ((show mR (cpyR (setI (cpyI m (s_ + 2) 0 (S + 2) 0 64) (S + 1) 1 (mI m (s_ + 1) 1)) (s_ + 3) 0 (S + 3) 0 26) M 1 = mR m M 1 from if_neg (by omega)).trans hs.1.2.2.2.2.2.2.2.2.2.2.1)) ((mR_setne (by omega)).trans ((show mR (cpyR (setI (cpyI m (s_ + 2) 0 (S + 2) 0 64) (S + 1) 1 (mI m (s_ + 1) 1)) (s_ + 3) 0 (S + 3) 0 26) M 2 = mR m M 2 from if_neg (by omega)).trans hs.1.2.2.2.2.2.2.2.2.2.2.2.1)) hs.1.2.2.2.2.2.2.2.2.2.2.2.2.1 hs.1.2.2.2.2.2.2.2.2.2.2.2.2.2.1 hs.1.2.2.2.2.2.2.2.2.2.2.2.2.2.2 hs.2.2.2.2.2.2.2.2.2.1 ((mR_setne (by omega)).trans ((show mR (cpyR (setI (cpyI m (s_ + 2) 0 (S + 2) 0 64) (S + 1) 1 (mI m (s_ + 1) 1)) (s_ + 3) 0 (S + 3) 0 26) M2 0 = mR m M2 0 from if_neg (by omega)).trans hs.2.2.2.2.2.2.2.2.2.2.1)) ((mR_setne (by omega)).trans ((show mR (cpyR (setI (cpyI m (s_ + 2) 0 (S + 2) 0 64) (S + 1) 1 (mI m (s_ + 1) 1)) (s_ + 3) 0 (S + 3) 0 26) M2 1 = mR m M2 1 from if_neg (by omega)).trans hs.2.2.2.2.2.2.2.2.2.2.2.1)) ((mR_setne (by omega)).trans ((show mR (cpyR (setI (cpyI m (s_ + 2) 0 (S + 2) 0 64) (S + 1) 1 (mI m (s_ + 1) 1)) (s_ + 3) 0 (S + 3) 0 26) M2 2 = mR m M2 2 from if_neg (by omega)).trans hs.2.2.2.2.2.2.2.2.2.2.2.2.1)) hs.2.2.2.2.2.2.2.2.2.2.2.2.2.1 hs.2.2.2.2.2.2.2.2.2.2.2.2.2.2.1 hs.2.2.2.2.2.2.2.2.2.2.2.2.2.2.2 (by first | assumption | omega)) ?_
  rintro _ _ ⟨rfl, rfl⟩ ok53 le53
  refine V_ld (pc := 56) dX7_become_56 (v := vr S) rfl rfl ?_
  refine V_ld (pc := 57) dX7_become_57 (v := vr s_) rfl rfl ?_
  refine V_getIv (pc := 58) dX7_become_58 (v := mI (setI (cpyI (cpyI (cpyI (setR (cpyR (setI (cpyI m (s_ + 2) 0 (S + 2) 0 64) (S + 1) 1 (mI m (s_ + 1) 1)) (s_ + 3) 0 (S + 3) 0 26) S 2 (mR (cpyR (setI (cpyI m (s_ + 2) 0 (S + 2) 0 64) (S + 1) 1 (mI m (s_ + 1) 1)) (s_ + 3) 0 (S + 3) 0 26) s_ 2)) (M2 + 1) 0 (M + 1) 0 33) (M2 + 2) 0 (M + 2) 0 33) (M2 + 3) 0 (M + 3) 0 1056) M 3 (mI (setR (cpyR (setI (cpyI m (s_ + 2) 0 (S + 2) 0 64) (S + 1) 1 (mI m (s_ + 1) 1)) (s_ + 3) 0 (S + 3) 0 26) S 2 (mR (cpyR (setI (cpyI m (s_ + 2) 0 (S + 2) 0 64) (S + 1) 1 (mI m (s_ + 1) 1)) (s_ + 3) 0 (S + 3) 0 26) s_ 2)) M2 3)) s_ 4) fw_RX7_31 rfl hs.2.1 rfl (fun g58 => ?_)
  refine V_putI (pc := 61) dX7_become_61 fw_RX7_31 rfl hs.1.1 (Or.inl rfl) (Or.inl rfl) ?_
  refine V_ld (pc := 64) dX7_become_64 (v := vr S) rfl rfl ?_
  refine V_ld (pc := 65) dX7_become_65 (v := vr s_) rfl rfl ?_
  refine V_getIv (pc := 66) dX7_become_66 (v := mI (setI (cpyI (cpyI (cpyI (setR (cpyR (setI (cpyI m (s_ + 2) 0 (S + 2) 0 64) (S + 1) 1 (mI m (s_ + 1) 1)) (s_ + 3) 0 (S + 3) 0 26) S 2 (mR (cpyR (setI (cpyI m (s_ + 2) 0 (S + 2) 0 64) (S + 1) 1 (mI m (s_ + 1) 1)) (s_ + 3) 0 (S + 3) 0 26) s_ 2)) (M2 + 1) 0 (M + 1) 0 33) (M2 + 2) 0 (M + 2) 0 33) (M2 + 3) 0 (M + 3) 0 1056) M 3 (mI (setR (cpyR (setI (cpyI m (s_ + 2) 0 (S + 2) 0 64) (S + 1) 1 (mI m (s_ + 1) 1)) (s_ + 3) 0 (S + 3) 0 26) S 2 (mR (cpyR (setI (cpyI m (s_ + 2) 0 (S + 2) 0 64) (S + 1) 1 (mI m (s_ + 1) 1)) (s_ + 3) 0 (S + 3) 0 26) s_ 2)) M2 3)) s_ 5) fw_RX7_52 rfl hs.2.1 (by first | rfl | (simp only [mI_setI, up2]; repeat (first | rfl | rw [if_neg (by omega)] | rw [if_pos (by omega)]))) (fun g66 => ?_)
  refine V_putI (pc := 69) dX7_become_69 fw_RX7_52 rfl hs.1.1 (Or.inl rfl) (Or.inl rfl) ?_
  refine V_ld (pc := 72) dX7_become_72 (v := vr S) rfl rfl ?_
  refine V_ld (pc := 73) dX7_become_73 (v := vr s_) rfl rfl ?_
  refine V_getIv (pc := 74) dX7_become_74 (v := mI (setI (cpyI (cpyI (cpyI (setR (cpyR (setI (cpyI m (s_ + 2) 0 (S + 2) 0 64) (S + 1) 1 (mI m (s_ + 1) 1)) (s_ + 3) 0 (S + 3) 0 26) S 2 (mR (cpyR (setI (cpyI m (s_ + 2) 0 (S + 2) 0 64) (S + 1) 1 (mI m (s_ + 1) 1)) (s_ + 3) 0 (S + 3) 0 26) s_ 2)) (M2 + 1) 0 (M + 1) 0 33) (M2 + 2) 0 (M + 2) 0 33) (M2 + 3) 0 (M + 3) 0 1056) M 3 (mI (setR (cpyR (setI (cpyI m (s_ + 2) 0 (S + 2) 0 64) (S + 1) 1 (mI m (s_ + 1) 1)) (s_ + 3) 0 (S + 3) 0 26) S 2 (mR (cpyR (setI (cpyI m (s_ + 2) 0 (S + 2) 0 64) (S + 1) 1 (mI m (s_ + 1) 1)) (s_ + 3) 0 (S + 3) 0 26) s_ 2)) M2 3)) s_ 6) fw_RX7_35 rfl hs.2.1 (by first | rfl | (simp only [mI_setI, up2]; repeat (first | rfl | rw [if_neg (by omega)] | rw [if_pos (by omega)]))) (fun g74 => ?_)
  refine V_putI (pc := 77) dX7_become_77 fw_RX7_35 rfl hs.1.1 (Or.inl rfl) (Or.inl rfl) ?_
  refine V_ld (pc := 80) dX7_become_80 (v := vr S) rfl rfl ?_
  refine V_ld (pc := 81) dX7_become_81 (v := vr s_) rfl rfl ?_
  refine V_getIv (pc := 82) dX7_become_82 (v := mI (setI (cpyI (cpyI (cpyI (setR (cpyR (setI (cpyI m (s_ + 2) 0 (S + 2) 0 64) (S + 1) 1 (mI m (s_ + 1) 1)) (s_ + 3) 0 (S + 3) 0 26) S 2 (mR (cpyR (setI (cpyI m (s_ + 2) 0 (S + 2) 0 64) (S + 1) 1 (mI m (s_ + 1) 1)) (s_ + 3) 0 (S + 3) 0 26) s_ 2)) (M2 + 1) 0 (M + 1) 0 33) (M2 + 2) 0 (M + 2) 0 33) (M2 + 3) 0 (M + 3) 0 1056) M 3 (mI (setR (cpyR (setI (cpyI m (s_ + 2) 0 (S + 2) 0 64) (S + 1) 1 (mI m (s_ + 1) 1)) (s_ + 3) 0 (S + 3) 0 26) S 2 (mR (cpyR (setI (cpyI m (s_ + 2) 0 (S + 2) 0 64) (S + 1) 1 (mI m (s_ + 1) 1)) (s_ + 3) 0 (S + 3) 0 26) s_ 2)) M2 3)) s_ 7) fw_RX7_38 rfl hs.2.1 (by first | rfl | (simp only [mI_setI, up2]; repeat (first | rfl | rw [if_neg (by omega)] | rw [if_pos (by omega)]))) (fun g82 => ?_)
  refine V_putI (pc := 85) dX7_become_85 fw_RX7_38 rfl hs.1.1 (Or.inl rfl) (Or.inl rfl) ?_
  refine V_retv (pc := 88) dX7_become_88 trivial ?_
  clear hs hel hpa
  refine ⟨rfl, rfl, rfl, ?_, fun k hk => ?_, ?_, fun k hk => ?_, fun k hk => ?_, fun k hk => ?_, fun k h4 h7 => ?_, fun o k n1 n2 n3 n4 => ?_, fun k hk => ?_, ?_, fun o k n1 n2 => ?_⟩
  · simp only [mI_setI, up2, mI_cpyI, mI_setR, mI_cpyR, Nat.zero_add, Nat.sub_zero, Nat.zero_le, true_and]; repeat (first | rfl | rw [if_pos trivial] | rw [if_neg not_false] | rw [if_neg (by omega)] | rw [if_pos (by omega)])
  · simp only [mI_setI, up2, mI_cpyI, mI_setR, mI_cpyR, Nat.zero_add, Nat.sub_zero, Nat.zero_le, true_and]; repeat (first | rfl | rw [if_pos trivial] | rw [if_neg not_false] | rw [if_neg (by omega)] | rw [if_pos (by omega)])
  · simp only [mI_setI, up2, mI_cpyI, mI_setR, mI_cpyR, Nat.zero_add, Nat.sub_zero, Nat.zero_le, true_and]; repeat (first | rfl | rw [if_pos trivial] | rw [if_neg not_false] | rw [if_neg (by omega)] | rw [if_pos (by omega)])
  · simp only [mI_setI, up2, mI_cpyI, mI_setR, mI_cpyR, Nat.zero_add, Nat.sub_zero, Nat.zero_le, true_and]; repeat (first | rfl | rw [if_pos trivial] | rw [if_neg not_false] | rw [if_neg (by omega)] | rw [if_pos (by omega)])
  · simp only [mI_setI, up2, mI_cpyI, mI_setR, mI_cpyR, Nat.zero_add, Nat.sub_zero, Nat.zero_le, true_and]; repeat (first | rfl | rw [if_pos trivial] | rw [if_neg not_false] | rw [if_neg (by omega)] | rw [if_pos (by omega)])
  · simp only [mI_setI, up2, mI_cpyI, mI_setR, mI_cpyR, Nat.zero_add, Nat.sub_zero, Nat.zero_le, true_and]; repeat (first | rfl | rw [if_pos trivial] | rw [if_neg not_false] | rw [if_neg (by omega)] | rw [if_pos (by omega)])
  · rcases (show k = 4 ∨ k = 5 ∨ k = 6 ∨ k = 7 by omega) with rfl | rfl | rfl | rfl <;> (simp only [mI_setI, up2, mI_cpyI, mI_setR, mI_cpyR, Nat.zero_add, Nat.sub_zero, Nat.zero_le, true_and]; repeat (first | rfl | rw [if_pos trivial] | rw [if_neg not_false] | rw [if_neg (by omega)] | rw [if_pos (by omega)]))
  · simp only [mI_setI, up2, mI_cpyI, mI_setR, mI_cpyR, Nat.zero_add, Nat.sub_zero, Nat.zero_le, true_and]; repeat (first | rfl | rw [if_pos trivial] | rw [if_neg not_false] | rw [if_neg (by omega)] | rw [if_pos (by omega)])
  · simp only [mR_setI, up2, mR_cpyI, mR_setR, mR_cpyR, Nat.zero_add, Nat.sub_zero, Nat.zero_le, true_and]; repeat (first | rfl | rw [if_pos trivial] | rw [if_neg not_false] | rw [if_neg (by omega)] | rw [if_pos (by omega)])
  · simp only [mR_setI, up2, mR_cpyI, mR_setR, mR_cpyR, Nat.zero_add, Nat.sub_zero, Nat.zero_le, true_and]; repeat (first | rfl | rw [if_pos trivial] | rw [if_neg not_false] | rw [if_neg (by omega)] | rw [if_pos (by omega)])
  · simp only [mR_setI, up2, mR_cpyI, mR_setR, mR_cpyR, Nat.zero_add, Nat.sub_zero, Nat.zero_le, true_and]; repeat (first | rfl | rw [if_pos trivial] | rw [if_neg not_false] | rw [if_neg (by omega)] | rw [if_pos (by omega)])

theorem SitL.mv {T T' : Nat → Nat × Nat} {R R' : Nat → Nat → Option Nat} {S M : Nat} (h : SitL T R S M) (hT : ∀ o, (S ≤ o ∧ o ≤ S + 3) ∨ (M ≤ o ∧ o ≤ M + 3) → T' o = T o) (hR : ∀ o k, (S ≤ o ∧ o ≤ S + 2) ∨ (M ≤ o ∧ o ≤ M + 3) → ¬ (o = S ∧ k = 2) → R' o k = R o k) (hd : S + 3 < M ∨ M + 3 < S) : SitL T' R' S M := by
  obtain ⟨h1, h2, h3, h4, h5, h6, h7, h8, h9, h10, h11, h12, h13, h14, h15⟩ := h
  exact ⟨(hT _ (by omega)).trans h1, (hR _ _ (by omega) (by omega)).trans h2, (hR _ _ (by omega) (by omega)).trans h3, (hR _ _ (by omega) (by omega)).trans h4, (hT _ (by omega)).trans h5, (hR _ _ (by omega) (by omega)).trans h6, (hT _ (by omega)).trans h7, (hT _ (by omega)).trans h8, (hT _ (by omega)).trans h9, (hR _ _ (by omega) (by omega)).trans h10, (hR _ _ (by omega) (by omega)).trans h11, (hR _ _ (by omega) (by omega)).trans h12, (hT _ (by omega)).trans h13, (hT _ (by omega)).trans h14, (hT _ (by omega)).trans h15⟩
theorem SitN.oT {m m1 : Mem} (h : SitN (newO m 7 8) m1 (mN m)) {o : Nat} (ho : o < mN m) : mT m1 o = mT m o := (h.2.2.2.1 o ho).trans (if_neg (by omega))
theorem SitN.oR {m m1 : Mem} (h : SitN (newO m 7 8) m1 (mN m)) {o k : Nat} (ho : o < mN m) : mR m1 o k = mR m o k := (h.2.2.2.2.2.1 o k ho).trans (if_neg (by omega))
theorem SitN.oI {m m1 : Mem} (h : SitN (newO m 7 8) m1 (mN m)) {o k : Nat} (ho : o < mN m) : mI m1 o k = mI m o k := (h.2.2.2.2.1 o k ho).trans (if_neg (by omega))
theorem SitN.hs {m m1 : Mem} {M : Nat} (h59 : 59 ≤ mN m) (hM : M = 5 ∨ M = 18) (hs : SitL (mT m) (mR m) 1 M) (h : SitN (newO m 7 8) m1 (mN m)) : SitL (mT (setR m1 0 6 (some (mN m)))) (mR (setR m1 0 6 (some (mN m)))) (mN m) (mN m + 4) ∧ SitL (mT (setR m1 0 6 (some (mN m)))) (mR (setR m1 0 6 (some (mN m)))) 1 M :=
  ⟨h.1.mv (fun o _ => congrFun mT_setR o) (fun o k ho _ => mR_setne (by omega)) (by omega), hs.mv (fun o ho => (congrFun mT_setR o).trans (h.oT (by omega))) (fun o k ho _ => (mR_setne (by omega)).trans (h.oR (by omega))) (by omega)⟩
/-- the image is made for the first time -/
def ImgN (m m' : Mem) (M : Nat) : Prop := ∃ m1, SitN (newO m 7 8) m1 (mN m) ∧ SitB (setR m1 0 6 (some (mN m))) m' (mN m) (mN m + 4) 1 M

set_option maxHeartbeats 4000000 in
theorem c_undoN  (m : Mem)    (hL : Lay (mT m) (mR m)) (hk : mR m 0 6 = none) : Ct μX10_undo 3 [vr 0] m (ri fun x_ m' => (x_ = -3) ∧ m = m') := by
  refine Ct_of_V rfl (by decide) rfl (Nat.le_of_ble_eq_true rfl) ?_
  show V μX10_undo 3 m _ 0 [(0, vr 0)] [] m
  refine V_ld (pc := 0) dX10_undo_0 (v := vr 0) rfl rfl ?_
  refine V_getRq (pc := 1) dX10_undo_1 (q := none) fw_RX10_251 rfl hL.t0 hk ?_
  refine V_ifnonnull (pc := 4) dX10_undo_4 (tgt := 10) rfl (fun _ h_ => by cases h_) (fun _ => ?_)
  refine V_bipush (pc := 7) dX10_undo_7 (by unfold I32; omega) (by decide) ?_
  refine V_reti (pc := 9) dX10_undo_9 trivial ?_
  exact ⟨rfl, rfl⟩

set_option maxHeartbeats 4000000 in
theorem c_undoS (M : Nat) (K : Nat) (m : Mem)    (hL : Lay (mT m) (mR m)) (R_0_6 : mR m 0 6 = some K) (hs : SitL (mT m) (mR m) 1 M ∧ SitL (mT m) (mR m) K (K + 4)) (hK : (M = 5 ∨ M = 18) ∧ 59 ≤ K ∧ K < SC) (hel : ∀ k o, k < 26 → mR m (K + 3) k = some o → mT m o = (0, 1)) (hpa : ∀ o, mR m K 2 = some o → mT m o = (4, 2) ∧ o ≠ SC) : Ct μX10_undo 3 [vr 0] m (ri fun x_ m' => (x_ = mI m' 2 1) ∧ SitB m m' 1 M K (K + 4)) := by
  refine Ct_of_V rfl (by decide) rfl (Nat.le_of_ble_eq_true rfl) ?_
  show V μX10_undo 3 m _ 0 [(0, vr 0)] [] m
  refine V_ld (pc := 0) dX10_undo_0 (v := vr 0) rfl rfl ?_
  refine V_getRv (pc := 1) dX10_undo_1 (o' := K) fw_RX10_251 rfl hL.t0 R_0_6 ?_
  refine V_ifnonnull (pc := 4) dX10_undo_4 (tgt := 10) rfl (fun _ _ => ?_) (fun h_ => by cases h_)
  refine V_ld (pc := 10) dX10_undo_10 (v := vr 0) rfl rfl ?_
  refine V_getRv (pc := 11) dX10_undo_11 (o' := 1) fw_RX10_12 rfl hL.t0 hL.r0_0 ?_
  refine V_ld (pc := 14) dX10_undo_14 (v := vr 0) rfl rfl ?_
  refine V_getRv (pc := 15) dX10_undo_15 (o' := K) fw_RX10_251 rfl hL.t0 R_0_6 ?_
  refine V_callV (pc := 18) dX10_undo_18 (F' := 2) (As := [vr K]) (st := []) cw_RX10_254 rfl rfl hL.t1 (by decide) (Nat.le_of_ble_eq_true rfl) (by omega) (c_sitBecome2 M (K + 4) m 1 K   hs (by omega) hel hpa) ?_
  rintro _ m18 ⟨rfl, hm18⟩ ok18 le18
  refine V_ld (pc := 21) dX10_undo_21 (v := vr 0) rfl rfl ?_
  refine V_getRv (pc := 22) dX10_undo_22 (o' := 1) fw_RX10_12 rfl ((congrFun hm18.1 0).trans hL.t0) ((hm18.2.2.2.2.2.2.2.2.2.2.2.2.2 0 0 (by omega) (by omega)).trans hL.r0_0) ?_
  refine V_getRv (pc := 25) dX10_undo_25 (o' := 2) fw_RX10_55 rfl ((congrFun hm18.1 1).trans hL.t1) ((hm18.2.2.2.2.2.2.2.2.2.2.2.2.2 1 0 (by omega) (by omega)).trans hL.r1_0) ?_
  refine V_getIv (pc := 28) dX10_undo_28 (v := mI m18 2 1) fw_RX10_59 rfl ((congrFun hm18.1 2).trans hL.t2) rfl (fun g28 => ?_)
  refine V_reti (pc := 31) dX10_undo_31 trivial ?_
  exact ⟨rfl, hm18⟩

set_option maxHeartbeats 4000000 in
theorem c_imageS (M : Nat) (K : Nat) (m : Mem)    (hL : Lay (mT m) (mR m)) (R_0_6 : mR m 0 6 = some K) (hs : SitL (mT m) (mR m) 1 M ∧ SitL (mT m) (mR m) K (K + 4)) (hK : (M = 5 ∨ M = 18) ∧ 59 ≤ K ∧ K < SC) (hel : ∀ k o, k < 26 → mR m 4 k = some o → mT m o = (0, 1)) (hpa : ∀ o, mR m 1 2 = some o → mT m o = (4, 2) ∧ o ≠ SC) : Ct μX10_image 4 [vr 0] m (ri fun x_ m' => (x_ = mI m' 2 1) ∧ SitB m m' K (K + 4) 1 M) := by
  refine Ct_of_V rfl (by decide) rfl (Nat.le_of_ble_eq_true rfl) ?_
  show V μX10_image 4 m _ 0 [(0, vr 0)] [] m
  refine V_ld (pc := 0) dX10_image_0 (v := vr 0) rfl rfl ?_
  refine V_getRv (pc := 1) dX10_image_1 (o' := K) fw_RX10_251 rfl hL.t0 R_0_6 ?_
  refine V_ifnonnull (pc := 4) dX10_image_4 (tgt := 18) rfl (fun _ _ => ?_) (fun h_ => by cases h_)
  refine V_ld (pc := 18) dX10_image_18 (v := vr 0) rfl rfl ?_
  refine V_getRv (pc := 19) dX10_image_19 (o' := K) fw_RX10_251 rfl hL.t0 R_0_6 ?_
  refine V_ld (pc := 22) dX10_image_22 (v := vr 0) rfl rfl ?_
  refine V_getRv (pc := 23) dX10_image_23 (o' := 1) fw_RX10_12 rfl hL.t0 hL.r0_0 ?_
  refine V_callV (pc := 26) dX10_image_26 (F' := 2) (As := [vr 1]) (st := []) cw_RX10_254 rfl rfl hs.2.1 (by decide) (Nat.le_of_ble_eq_true rfl) (by omega) (c_sitBecome2 (K + 4) M m K 1   ⟨hs.2, hs.1⟩ (by omega) hel hpa) ?_
  rintro _ m26 ⟨rfl, hm26⟩ ok26 le26
  refine V_ld (pc := 29) dX10_image_29 (v := vr 0) rfl rfl ?_
  refine V_getRv (pc := 30) dX10_image_30 (o' := 1) fw_RX10_12 rfl ((congrFun hm26.1 0).trans hL.t0) ((hm26.2.2.2.2.2.2.2.2.2.2.2.2.2 0 0 (by omega) (by omega)).trans hL.r0_0) ?_
  refine V_getRv (pc := 33) dX10_image_33 (o' := 2) fw_RX10_55 rfl ((congrFun hm26.1 1).trans hL.t1) ((hm26.2.2.2.2.2.2.2.2.2.2.2.2.2 1 0 (by omega) (by omega)).trans hL.r1_0) ?_
  refine V_getIv (pc := 36) dX10_image_36 (v := mI m26 2 1) fw_RX10_59 rfl ((congrFun hm26.1 2).trans hL.t2) rfl (fun g36 => ?_)
  refine V_reti (pc := 39) dX10_image_39 trivial ?_
  exact ⟨rfl, hm26⟩

set_option maxHeartbeats 4000000 in
theorem c_imageN (M : Nat) (m : Mem)    (hL : Lay (mT m) (mR m)) (hk : mR m 0 6 = none) (hs : SitL (mT m) (mR m) 1 M) (hK : (M = 5 ∨ M = 18) ∧ 59 ≤ mN m ∧ mN m + 8 ≤ NN ∧ mZ m + 1226 ≤ ZZ) (hel : ∀ k o, k < 26 → mR m 4 k = some o → mT m o = (0, 1) ∧ o < mN m) (hpa : ∀ o, mR m 1 2 = some o → mT m o = (4, 2) ∧ o < mN m) : Ct μX10_image 4 [vr 0] m (ri fun x_ m' => (x_ = mI m' 2 1) ∧ ImgN m m' M) := by
  refine Ct_of_V rfl (by decide) rfl (Nat.le_of_ble_eq_true rfl) ?_
  show V μX10_image 4 m _ 0 [(0, vr 0)] [] m
  refine V_ld (pc := 0) dX10_image_0 (v := vr 0) rfl rfl ?_
  refine V_getRq (pc := 1) dX10_image_1 (q := none) fw_RX10_251 rfl hL.t0 hk ?_
  refine V_ifnonnull (pc := 4) dX10_image_4 (tgt := 18) rfl (fun _ h_ => by cases h_) (fun _ => ?_)
  refine V_ld (pc := 7) dX10_image_7 (v := vr 0) rfl rfl ?_
  refine V_newv (pc := 8) (mN m) rfl dX10_image_8 nw_RX10_9 (by omega) (by show mZ m + 8 ≤ ZZ; omega) ?_
  refine V_dup (pc := 11) dX10_image_11 rfl ?_
  refine V_callN (pc := 12) dX10_image_12 (F' := 3) (As := []) (st := [vr (mN m), vr 0]) cn_RX10_11 rfl rfl (Nat.le_of_ble_eq_true rfl) (by omega) (c_sitInit  (newO m 7 8) (mN m)   (mT_news (M := m) rfl) ⟨rfl, by show mN m + 8 ≤ NN; omega, by show mZ m + 8 + 1218 ≤ ZZ; omega, hK.2.1, fun k => if_pos rfl⟩) ?_
  rintro _ m12 ⟨rfl, hm12⟩ ok12 le12
  refine V_putR (pc := 15) dX10_image_15 fw_RX10_251 rfl ((hm12.oT (by omega)).trans hL.t0) (Or.inl rfl) (fun o_ h_ => by cases h_; (try unfold NN at *); unfold SC; omega) ?_
  refine V_ld (pc := 18) dX10_image_18 (v := vr 0) rfl rfl ?_
  refine V_getRv (pc := 19) dX10_image_19 (o' := (mN m)) fw_RX10_251 rfl ((congrFun mT_setR 0).trans ((hm12.oT (by omega)).trans hL.t0)) mR_sets ?_
  refine V_ld (pc := 22) dX10_image_22 (v := vr 0) rfl rfl ?_
  refine V_getRv (pc := 23) dX10_image_23 (o' := 1) fw_RX10_12 rfl ((congrFun mT_setR 0).trans ((hm12.oT (by omega)).trans hL.t0)) ((mR_setne (M := m12) (by decide)).trans ((hm12.oR (by omega)).trans hL.r0_0)) ?_
  refine V_callV (pc := 26) dX10_image_26 (F' := 2) (As := [vr 1]) (st := []) cw_RX10_254 rfl rfl ((congrFun mT_setR (mN m)).trans hm12.1.1) (by decide) (Nat.le_of_ble_eq_true rfl) (by omega) (c_sitBecome2 (mN m + 4) M (setR m12 0 6 (some (mN m))) (mN m) 1   (hm12.hs hK.2.1 hK.1 hs) (by omega) (fun k o hk_ h_ => have h2 := hel k o hk_ (((mR_setne (by omega)).trans (hm12.oR (by omega))).symm.trans h_); ((congrFun mT_setR o).trans (hm12.oT h2.2)).trans h2.1) (fun o h_ => have h2 := hpa o (((mR_setne (by omega)).trans (hm12.oR (by omega))).symm.trans h_); ⟨((congrFun mT_setR o).trans (hm12.oT h2.2)).trans h2.1, by have := h2.2; unfold NN at *; unfold SC; omega⟩)) ?_
  rintro _ m26 ⟨rfl, hm26⟩ ok26 le26
  refine V_ld (pc := 29) dX10_image_29 (v := vr 0) rfl rfl ?_
  refine V_getRv (pc := 30) dX10_image_30 (o' := 1) fw_RX10_12 rfl ((congrFun hm26.1 0).trans ((congrFun mT_setR 0).trans ((hm12.oT (by omega)).trans hL.t0))) ((hm26.2.2.2.2.2.2.2.2.2.2.2.2.2 0 0 (by omega) (by omega)).trans ((mR_setne (M := m12) (by decide)).trans ((hm12.oR (by omega)).trans hL.r0_0))) ?_
  refine V_getRv (pc := 33) dX10_image_33 (o' := 2) fw_RX10_55 rfl ((congrFun hm26.1 1).trans ((congrFun mT_setR 1).trans ((hm12.oT (by omega)).trans hL.t1))) ((hm26.2.2.2.2.2.2.2.2.2.2.2.2.2 1 0 (by omega) (by omega)).trans ((mR_setne (M := m12) (by decide)).trans ((hm12.oR (by omega)).trans hL.r1_0))) ?_
  refine V_getIv (pc := 36) dX10_image_36 (v := mI m26 2 1) fw_RX10_59 rfl ((congrFun hm26.1 2).trans ((congrFun mT_setR 2).trans ((hm12.oT (by omega)).trans hL.t2))) rfl (fun g36 => ?_)
  refine V_reti (pc := 39) dX10_image_39 trivial ?_
  exact ⟨rfl, m12, hm12, hm26⟩
