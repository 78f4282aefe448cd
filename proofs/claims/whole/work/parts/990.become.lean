/-! a situation becomes another: the class -/
/-- the objects of a situation: S, its table S + 1, cells S + 2, conditions S + 3; its matches M, M + 1 .. M + 3 -/
def SitL (T : Nat → Nat × Nat) (R : Nat → Nat → Option Nat) (S M : Nat) : Prop := T S = (7, 8) ∧ R S 0 = some (S + 1) ∧ R S 1 = some (S + 3) ∧ R S 3 = some M ∧ T (S + 1) = (8, 2) ∧ R (S + 1) 0 = some (S + 2) ∧ T (S + 2) = (20, 64) ∧ T (S + 3) = (23, 26) ∧ T M = (3, 4) ∧ R M 0 = some (M + 1) ∧ R M 1 = some (M + 2) ∧ R M 2 = some (M + 3) ∧ T (M + 1) = (20, 33) ∧ T (M + 2) = (20, 33) ∧ T (M + 3) = (20, 1056)
/-- m' is m, where the situation S has become S2 -/
def SitB (m m' : Mem) (S M S2 M2 : Nat) : Prop := mT m' = mT m ∧ mN m' = mN m ∧ mZ m' = mZ m ∧ mI m' (S + 1) 1 = mI m (S2 + 1) 1 ∧ (∀ k, k < 64 → mI m' (S + 2) k = mI m (S2 + 2) k) ∧ mI m' M 3 = mI m M2 3 ∧ (∀ k, k < 33 → mI m' (M + 1) k = mI m (M2 + 1) k) ∧ (∀ k, k < 33 → mI m' (M + 2) k = mI m (M2 + 2) k) ∧ (∀ k, k < 1056 → mI m' (M + 3) k = mI m (M2 + 3) k) ∧ (∀ k, 4 ≤ k → k ≤ 7 → mI m' S k = mI m S2 k) ∧ (∀ o k, o ≠ S → o ≠ S + 1 → o ≠ S + 2 → ¬ (M ≤ o ∧ o ≤ M + 3) → mI m' o k = mI m o k) ∧ (∀ k, k < 26 → mR m' (S + 3) k = mR m (S2 + 3) k) ∧ mR m' S 2 = mR m S2 2 ∧ ∀ o k, ¬ (o = S + 3 ∧ k < 26) → ¬ (o = S ∧ k = 2) → mR m' o k = mR m o k

theorem mI_cpyR {m : Mem} {a sp b dp n : Nat} : mI (cpyR m a sp b dp n) = mI m := rfl
theorem mR_cpyR {m : Mem} {a sp b dp n : Nat} {o k : Nat} : mR (cpyR m a sp b dp n) o k = if o = b ∧ dp ≤ k ∧ k < dp + n then mR m a (sp + (k - dp)) else mR m o k := rfl
theorem mR_cpyI {m : Mem} {a sp b dp n : Nat} : mR (cpyI m a sp b dp n) = mR m := rfl

theorem cpyR_0 {m : Mem} {a sp b dp : Nat} : cpyR m a sp b dp 0 = m := by
  have h : (fun o k => if o = b ∧ dp ≤ k ∧ k < dp + 0 then mR m a (sp + (k - dp)) else mR m o k) = mR m := by
    funext o k; exact if_neg (by omega)
  unfold cpyR; rw [h]; rfl
theorem cpyR_ne {m : Mem} {a sp b dp n o k : Nat} (h : o ≠ b) : mR (cpyR m a sp b dp n) o k = mR m o k := if_neg fun z => h z.1
theorem cpyR_s {m : Mem} {a sp b dp n q : Nat} {v : Option Nat} (hq : q = dp + n) (hv : v = mR m a (sp + n)) : setR (cpyR m a sp b dp n) b q v = cpyR m a sp b dp (n + 1) := by
  subst hq; subst hv
  have h : up2 (mR (cpyR m a sp b dp n)) b (dp + n) (mR m a (sp + n)) = fun o k => if o = b ∧ dp ≤ k ∧ k < dp + (n + 1) then mR m a (sp + (k - dp)) else mR m o k := by
    funext o k
    unfold up2
    rw [mR_cpyR]
    by_cases h1 : o = b ∧ k = dp + n
    · rw [if_pos h1, if_pos (by omega)]
      congr 1
      omega
    · rw [if_neg h1]
      by_cases h2 : o = b ∧ dp ≤ k ∧ k < dp + n
      · rw [if_pos h2, if_pos (by omega)]
      · rw [if_neg h2, if_neg (by omega)]
  unfold setR; rw [h]; rfl

set_option maxHeartbeats 4000000 in
theorem L_sitC {F : Nat} {m0 m : Mem} {post : Option AV → Mem → Prop} {S s_ : Nat} (TS : mT m S = (7, 8)) (Ts : mT m s_ = (7, 8)) (TS3 : mT m (S + 3) = (23, 26)) (Ts3 : mT m (s_ + 3) = (23, 26)) (RS : mR m S 1 = some (S + 3)) (Rs : mR m s_ 1 = some (s_ + 3)) (hd : S + 3 < s_ ∨ s_ + 3 < S) (hel : ∀ k o, k < 26 → mR m (s_ + 3) k = some o → mT m o = (0, 1)) (kx : V μX7_become F m0 post 37 [(2, vi ((26 : Nat) : Int)), (0, vr S), (1, vr s_)] [] (cpyR m (s_ + 3) 0 (S + 3) 0 26)) : ∀ (dd i : Nat), dd + i = 26 → V μX7_become F m0 post 13 [(2, vi ((i : Nat) : Int)), (0, vr S), (1, vr s_)] [] (cpyR m (s_ + 3) 0 (S + 3) 0 i) := by
  intro dd
  induction dd with
  | zero =>
    intro i hi
    obtain rfl : 26 = i := by omega
    refine V_ld (pc := 13) dX7_become_13 (v := vi ((26 : Nat) : Int)) rfl rfl ?_
    refine V_bipush (pc := 14) dX7_become_14 (by unfold I32; omega) (by decide) ?_
    refine V_icmp_ge (pc := 16) dX7_become_16 (tgt := 37) rfl (fun h16 => ?_) (fun h16 => ?_)
    · skip
      first | exact kx | (skip; exact kx) | (exfalso; omega)
    · skip
      refine V_ld (pc := 19) dX7_become_19 (v := vr S) rfl rfl ?_
      refine V_getRv (pc := 20) dX7_become_20 (o' := (S + 3)) fw_RX7_20 rfl TS ((cpyR_ne (by omega)).trans RS) ?_
      refine V_ld (pc := 23) dX7_become_23 (v := vi ((26 : Nat) : Int)) rfl rfl ?_
      refine V_ld (pc := 24) dX7_become_24 (v := vr s_) rfl rfl ?_
      refine V_getRv (pc := 25) dX7_become_25 (o' := (s_ + 3)) fw_RX7_20 rfl Ts ((cpyR_ne (by omega)).trans Rs) ?_
      refine V_ld (pc := 28) dX7_become_28 (v := vi ((26 : Nat) : Int)) rfl rfl ?_
      refine V_aald (pc := 29) dX7_become_29 Ts3 (by decide) (by omega) ?_
      refine V_aast (pc := 30) dX7_become_30 TS3 (Or.inr ⟨rfl, rfl⟩) (by omega) (fun o_ h_ => hel _ o_ (by omega) ((cpyR_ne (by omega)).symm.trans h_)) ?_
      refine V_iinc (pc := 31) dX7_become_31 (x := ((26 : Nat) : Int)) (ls' := [(2, vi (((26 : Nat) : Int) + 1)), (0, vr S), (1, vr s_)]) rfl (by unfold I32 at *; omega) (Nat.le_of_ble_eq_true rfl) rfl ?_
      refine V_goto (pc := 34) dX7_become_34 (tgt := 13) rfl ?_
      exfalso; omega
  | succ dd ih =>
    intro i hi
    refine V_ld (pc := 13) dX7_become_13 (v := vi ((i : Nat) : Int)) rfl rfl ?_
    refine V_bipush (pc := 14) dX7_become_14 (by unfold I32; omega) (by decide) ?_
    refine V_icmp_ge (pc := 16) dX7_become_16 (tgt := 37) rfl (fun h16 => ?_) (fun h16 => ?_)
    · skip
      exfalso; omega
    · skip
      refine V_ld (pc := 19) dX7_become_19 (v := vr S) rfl rfl ?_
      refine V_getRv (pc := 20) dX7_become_20 (o' := (S + 3)) fw_RX7_20 rfl TS ((cpyR_ne (by omega)).trans RS) ?_
      refine V_ld (pc := 23) dX7_become_23 (v := vi ((i : Nat) : Int)) rfl rfl ?_
      refine V_ld (pc := 24) dX7_become_24 (v := vr s_) rfl rfl ?_
      refine V_getRv (pc := 25) dX7_become_25 (o' := (s_ + 3)) fw_RX7_20 rfl Ts ((cpyR_ne (by omega)).trans Rs) ?_
      refine V_ld (pc := 28) dX7_become_28 (v := vi ((i : Nat) : Int)) rfl rfl ?_
      refine V_aald (pc := 29) dX7_become_29 Ts3 (by decide) (by omega) ?_
      refine V_aast (pc := 30) dX7_become_30 TS3 (Or.inr ⟨rfl, rfl⟩) (by omega) (fun o_ h_ => hel _ o_ (by omega) ((cpyR_ne (by omega)).symm.trans h_)) ?_
      refine V_iinc (pc := 31) dX7_become_31 (x := ((i : Nat) : Int)) (ls' := [(2, vi (((i : Nat) : Int) + 1)), (0, vr S), (1, vr s_)]) rfl (by unfold I32 at *; omega) (Nat.le_of_ble_eq_true rfl) rfl ?_
      refine V_goto (pc := 34) dX7_become_34 (tgt := 13) rfl ?_
      skip
      refine V_mem (cpyR_s (by omega) ((cpyR_ne (by omega)).trans (congrArg (mR m (s_ + 3)) (by omega)))) ?_
      exact ih (i + 1) (by omega)

set_option maxHeartbeats 4000000 in
theorem c_sitBecome (M : Nat) (M2 : Nat) (m : Mem) (S : Nat) (s_ : Nat)   (hs : SitL (mT m) (mR m) S M ∧ SitL (mT m) (mR m) s_ M2) (hd : (S + 3 < s_ ∨ s_ + 3 < S) ∧ (M + 3 < s_ ∨ s_ + 3 < M) ∧ (M + 3 < S ∨ S + 3 < M) ∧ (M2 + 3 < S ∨ S + 3 < M2) ∧ (M2 + 3 < M ∨ M + 3 < M2) ∧ (M2 + 3 < s_ ∨ s_ + 3 < M2)) (hel : ∀ k o, mR m (s_ + 3) k = some o → mT m o = (0, 1)) (hpa : ∀ o, mR m s_ 2 = some o → mT m o = (4, 2) ∧ o ≠ SC) : Ct μX7_become 2 [vr S, vr s_] m (rv fun m' => SitB m m' S M s_ M2) := by
  refine Ct_of_V rfl (by decide) rfl (Nat.le_of_ble_eq_true rfl) ?_
  show V μX7_become 2 m _ 0 [(0, vr S), (1, vr s_)] [] m
  refine V_ld (pc := 0) dX7_become_0 (v := vr S) rfl rfl ?_
  refine V_getRv (pc := 1) dX7_become_1 (o' := (S + 1)) fw_RX7_12 rfl hs.1.1 hs.1.2.1 ?_
  refine V_ld (pc := 4) dX7_become_4 (v := vr s_) rfl rfl ?_
  refine V_getRv (pc := 5) dX7_become_5 (o' := (s_ + 1)) fw_RX7_12 rfl hs.2.1 hs.2.2.1 ?_
  refine V_callV (pc := 8) dX7_become_8 (F' := 1) (As := [vr (s_ + 1)]) (st := []) cw_RX7_41 rfl rfl hs.1.2.2.2.2.1 (by decide) (Nat.le_of_ble_eq_true rfl) (by omega) (c_tabBecome  m (S + 1) (s_ + 1) (S + 2) (s_ + 2)  hs.1.2.2.2.2.1 hs.1.2.2.2.2.2.1 hs.1.2.2.2.2.2.2.1 hs.2.2.2.2.2.1 hs.2.2.2.2.2.2.1 hs.2.2.2.2.2.2.2.1 (by first | assumption | omega)) ?_
  rintro _ _ ⟨rfl, rfl⟩ ok8 le8
  refine V_iconst (pc := 11) dX7_become_11 (by unfold I32; omega) ?_
  refine V_st (pc := 12) dX7_become_12 (ls' := [(2, vi 0), (0, vr S), (1, vr s_)]) rfl (Nat.le_of_ble_eq_true rfl) rfl ?_
  refine V_ls (ls' := [(2, vi ((0 : Nat) : Int)), (0, vr S), (1, vr s_)]) (by intro q_ h_; simp only [List.mem_cons, List.not_mem_nil, or_false] at h_ ⊢; rcases h_ with rfl | rfl | rfl <;> simp) ?_
  refine V_mem (cpyR_0 (a := s_ + 3) (sp := 0) (b := S + 3) (dp := 0)).symm ?_
  refine L_sitC (m := (setI (cpyI m (s_ + 2) 0 (S + 2) 0 64) (S + 1) 1 (mI m (s_ + 1) 1))) hs.1.1 hs.2.1 hs.1.2.2.2.2.2.2.2.1 hs.2.2.2.2.2.2.2.2.1 hs.1.2.2.1 hs.2.2.2.1 hd.1 (fun k o _ h_ => hel k o h_) ?_ 26 0 (by omega)
  refine V_ld (pc := 37) dX7_become_37 (v := vr S) rfl rfl ?_
  refine V_ld (pc := 38) dX7_become_38 (v := vr s_) rfl rfl ?_
  refine V_getR (pc := 39) dX7_become_39 fw_RX7_45 rfl hs.2.1 ?_
  refine V_putR (pc := 42) dX7_become_42 fw_RX7_45 rfl hs.1.1 (Or.inl rfl) (fun o_ h_ => (hpa o_ ((show mR (cpyR (setI (cpyI m (s_ + 2) 0 (S + 2) 0 64) (S + 1) 1 (mI m (s_ + 1) 1)) (s_ + 3) 0 (S + 3) 0 26) s_ 2 = mR m s_ 2 from if_neg (by omega)).symm.trans h_)).2) ?_
  refine V_ld (pc := 45) dX7_become_45 (v := vr S) rfl rfl ?_
  refine V_getRv (pc := 46) dX7_become_46 (o' := M) fw_RX7_27 rfl hs.1.1 ((mR_setne (by omega)).trans ((show mR (cpyR (setI (cpyI m (s_ + 2) 0 (S + 2) 0 64) (S + 1) 1 (mI m (s_ + 1) 1)) (s_ + 3) 0 (S + 3) 0 26) S 3 = mR m S 3 from if_neg (by omega)).trans hs.1.2.2.2.1)) ?_
  refine V_ld (pc := 49) dX7_become_49 (v := vr s_) rfl rfl ?_
  refine V_getRv (pc := 50) dX7_become_50 (o' := M2) fw_RX7_27 rfl hs.2.1 ((mR_setne (by omega)).trans ((show mR (cpyR (setI (cpyI m (s_ + 2) 0 (S + 2) 0 64) (S + 1) 1 (mI m (s_ + 1) 1)) (s_ + 3) 0 (S + 3) 0 26) s_ 3 = mR m s_ 3 from if_neg (by omega)).trans hs.2.2.2.2.1)) ?_
  refine V_callV (pc := 53) dX7_become_53 (F' := 1) (As := [vr M2]) (st := []) cw_RX7_49 rfl rfl hs.1.2.2.2.2.2.2.2.2.1 (by decide) (Nat.le_of_ble_eq_true rfl) (by omega) (c_matBecome  (setR (cpyR (setI (cpyI m (s_ + 2) 0 (S + 2) 0 64) (S + 1) 1 (mI m (s_ + 1) 1)) (s_ + 3) 0 (S + 3) 0 26) S 2 (mR (cpyR (setI (cpyI m (s_ + 2) 0 (S + 2) 0 64) (S + 1) 1 (mI m (s_ + 1) 1)) (s_ + 3) 0 (S + 3) 0 26) s_ 2)) M M2 (M + 1) (M + 2) (M + 3) (M2 + 1) (M2 + 2) (M2 + 3)  hs.1.2.2.2.2.2.2.2.2.1 ((mR_setne (by omega)).trans ((show mR (cpyR (setI (cpyI m (s_ + 2) 0 (S + 2) 0 64) (S + 1) 1 (mI m (s_ + 1) 1)) (s_ + 3) 0 (S + 3) 0 26) M 0 = mR m M 0 from if_neg (by omega)).trans hs.1.2.2.2.2.2.2.2.2.2.1)) ((mR_setne (by omega)).trans ((show mR (cpyR (setI (cpyI m (s_ + 2) 0 (S + 2) 0 64) (S + 1) 1 (mI m (s_ + 1) 1)) (s_ + 3) 0 (S + 3) 0 26) M 1 = mR m M 1 from if_neg (by omega)).trans hs.1.2.2.2.2.2.2.2.2.2.2.1)) ((mR_setne (by omega)).trans ((show mR (cpyR (setI (cpyI m (s_ + 2) 0 (S + 2) 0 64) (S + 1) 1 (mI m (s_ + 1) 1)) (s_ + 3) 0 (S + 3) 0 26) M 2 = mR m M 2 from if_neg (by omega)).trans hs.1.2.2.2.2.2.2.2.2.2.2.2.1)) hs.1.2.2.2.2.2.2.2.2.2.2.2.2.1 hs.1.2.2.2.2.2.2.2.2.2.2.2.2.2.1 hs.1.2.2.2.2.2.2.2.2.2.2.2.2.2.2 hs.2.2.2.2.2.2.2.2.2.1 ((mR_setne (by omega)).trans ((show mR (cpyR (setI (cpyI m (s_ + 2) 0 (S + 2) 0 64) (S + 1) 1 (mI m (s_ + 1) 1)) (s_ + 3) 0 (S + 3) 0 26) M2 0 = mR m M2 0 from if_neg (by omega)).trans hs.2.2.2.2.2.2.2.2.2.2.1)) ((mR_setne (by omega)).trans ((show mR (cpyR (setI (cpyI m (s_ + 2) 0 (S + 2) 0 64) (S + 1) 1 (mI m (s_ + 1) 1)) (s_ + 3) 0 (S + 3) 0 26) M2 1 = mR m M2 1 from if_neg (by omega)).trans hs.2.2.2.2.2.2.2.2.2.2.2.1)) ((mR_setne (by omega)).trans ((show mR (cpyR (setI (cpyI m (s_ + 2) 0 (S + 2) 0 64) (S + 1) 1 (mI m (s_ + 1) 1)) (s_ + 3) 0 (S + 3) 0 26) M2 2 = mR m M2 2 from if_neg (by omega)).trans hs.2.2.2.2.2.2.2.2.2.2.2.2.1)) hs.2.2.2.2.2.2.2.2.2.2.2.2.2.1 hs.2.2.2.2.2.2.2.2.2.2.2.2.2.2.1 hs.2.2.2.2.2.2.2.2.2.2.2.2.2.2.2 (by first | assumption | omega)) ?_
  rintro _ _ ⟨rfl, rfl⟩ ok53 le53
  refine V_ld (pc := 56) dX7_become_56 (v := vr S) rfl rfl ?_
  refine V_ld (pc := 57) dX7_become_57 (v := vr s_) rfl rfl ?_
  refine V_getIv (pc := 58) dX7_become_58 (v := mI (setI (cpyI (cpyI (cpyI (setR (cpyR (setI (cpyI m (s_ + 2) 0 (S + 2) 0 64) (S + 1) 1 (mI m (s_ + 1) 1)) (s_ + 3) 0 (S + 3) 0 26) S 2 (mR (cpyR (setI (cpyI m (s_ + 2) 0 (S + 2) 0 64) (S + 1) 1 (mI m (s_ + 1) 1)) (s_ + 3) 0 (S + 3) 0 26) s_ 2)) (M2 + 1) 0 (M + 1) 0 33) (M2 + 2) 0 (M + 2) 0 33) (M2 + 3) 0 (M + 3) 0 1056) M 3 (mI (setR (cpyR (setI (cpyI m (s_ + 2) 0 (S + 2) 0 64) (S + 1) 1 (mI m (s_ + 1) 1)) (s_ + 3) 0 (S + 3) 0 26) S 2 (mR (cpyR (setI (cpyI m (s_ + 2) 0 (S + 2) 0 64) (S + 1) 1 (mI m (s_ + 1) 1)) (s_ + 3) 0 (S + 3) 0 26) s_ 2)) M2 3)) s_ 4) fw_RX7_31 rfl hs.2.1 rfl (fun g58 => ?_)
  refine V_putI (pc := 61) dX7_become_61 fw_RX7_31 rfl hs.1.1 (Or.inl rfl) (Or.inl rfl) ?_
  refine V_ld (pc := 64) dX7_become_64 (v := vr S) rfl rfl ?_
  refine V_ld (pc := 65) dX7_become_65 (v := vr s_) rfl rfl ?_
  refine V_getIv (pc := 66) dX7_become_66 (v := mI (setI (cpyI (cpyI (cpyI (setR (cpyR (setI (cpyI m (s_ + 2) 0 (S + 2) 0 64) (S + 1) 1 (mI m (s_ + 1) 1)) (s_ + 3) 0 (S + 3) 0 26) S 2 (mR (cpyR (setI (cpyI m (s_ + 2) 0 (S + 2) 0 64) (S + 1) 1 (mI m (s_ + 1) 1)) (s_ + 3) 0 (S + 3) 0 26) s_ 2)) (M2 + 1) 0 (M + 1) 0 33) (M2 + 2) 0 (M + 2) 0 33) (M2 + 3) 0 (M + 3) 0 1056) M 3 (mI (setR (cpyR (setI (cpyI m (s_ + 2) 0 (S + 2) 0 64) (S + 1) 1 (mI m (s_ + 1) 1)) (s_ + 3) 0 (S + 3) 0 26) S 2 (mR (cpyR (setI (cpyI m (s_ + 2) 0 (S + 2) 0 64) (S + 1) 1 (mI m (s_ + 1) 1)) (s_ + 3) 0 (S + 3) 0 26) s_ 2)) M2 3)) s_ 5) fw_RX7_52 rfl hs.2.1 (by first | rfl | (simp only [mI_setI, up2]; repeat (first | rfl | rw [if_neg (by omega)] | rw [if_pos (by omega)]))) (fun g66 => ?_)
  refine V_putI (pc := 69) dX7_become_69 fw_RX7_52 rfl hs.1.1 (Or.inl rfl) (Or.inl rfl) ?_
  refine V_ld (pc := 72) dX7_become_72 (v := vr S) rfl rfl ?_
  refine V_ld (pc := 73) dX7_become_73 (v := vr s_) rfl rfl ?_
  refine V_getIv (pc := 74) dX7_become_74 (v := mI (setI (cpyI (cpyI (cpyI (setR (cpyR (setI (cpyI m (s_ + 2) 0 (S + 2) 0 64) (S + 1) 1 (mI m (s_ + 1) 1)) (s_ + 3) 0 (S + 3) 0 26) S 2 (mR (cpyR (setI (cpyI m (s_ + 2) 0 (S + 2) 0 64) (S + 1) 1 (mI m (s_ + 1) 1)) (s_ + 3) 0 (S + 3) 0 26) s_ 2)) (M2 + 1) 0 (M + 1) 0 33) (M2 + 2) 0 (M + 2) 0 33) (M2 + 3) 0 (M + 3) 0 1056) M 3 (mI (setR (cpyR (setI (cpyI m (s_ + 2) 0 (S + 2) 0 64) (S + 1) 1 (mI m (s_ + 1) 1)) (s_ + 3) 0 (S + 3) 0 26) S 2 (mR (cpyR (setI (cpyI m (s_ + 2) 0 (S + 2) 0 64) (S + 1) 1 (mI m (s_ + 1) 1)) (s_ + 3) 0 (S + 3) 0 26) s_ 2)) M2 3)) s_ 6) fw_RX7_35 rfl hs.2.1 (by first | rfl | (simp only [mI_setI, up2]; repeat (first | rfl | rw [if_neg (by omega)] | rw [if_pos (by omega)]))) (fun g74 => ?_)
  refine V_putI (pc := 77) dX7_become_77 fw_RX7_35 rfl hs.1.1 (Or.inl rfl) (Or.inl rfl) ?_
  refine V_ld (pc := 80) dX7_become_80 (v := vr S) rfl rfl ?_
  refine V_ld (pc := 81) dX7_become_81 (v := vr s_) rfl rfl ?_
  refine V_getIv (pc := 82) dX7_become_82 (v := mI (setI (cpyI (cpyI (cpyI (setR (cpyR (setI (cpyI m (s_ + 2) 0 (S + 2) 0 64) (S + 1) 1 (mI m (s_ + 1) 1)) (s_ + 3) 0 (S + 3) 0 26) S 2 (mR (cpyR (setI (cpyI m (s_ + 2) 0 (S + 2) 0 64) (S + 1) 1 (mI m (s_ + 1) 1)) (s_ + 3) 0 (S + 3) 0 26) s_ 2)) (M2 + 1) 0 (M + 1) 0 33) (M2 + 2) 0 (M + 2) 0 33) (M2 + 3) 0 (M + 3) 0 1056) M 3 (mI (setR (cpyR (setI (cpyI m (s_ + 2) 0 (S + 2) 0 64) (S + 1) 1 (mI m (s_ + 1) 1)) (s_ + 3) 0 (S + 3) 0 26) S 2 (mR (cpyR (setI (cpyI m (s_ + 2) 0 (S + 2) 0 64) (S + 1) 1 (mI m (s_ + 1) 1)) (s_ + 3) 0 (S + 3) 0 26) s_ 2)) M2 3)) s_ 7) fw_RX7_38 rfl hs.2.1 (by first | rfl | (simp only [mI_setI, up2]; repeat (first | rfl | rw [if_neg (by omega)] | rw [if_pos (by omega)]))) (fun g82 => ?_)
  refine V_putI (pc := 85) dX7_become_85 fw_RX7_38 rfl hs.1.1 (Or.inl rfl) (Or.inl rfl) ?_
  refine V_retv (pc := 88) dX7_become_88 trivial ?_
  clear hs hel hpa
  refine ⟨rfl, rfl, rfl, ?_, fun k hk => ?_, ?_, fun k hk => ?_, fun k hk => ?_, fun k hk => ?_, fun k h4 h7 => ?_, fun o k n1 n2 n3 n4 => ?_, fun k hk => ?_, ?_, fun o k n1 n2 => ?_⟩
  · simp only [mI_setI, up2, mI_cpyI, mI_setR, mI_cpyR, Nat.zero_add, Nat.sub_zero, Nat.zero_le, true_and]; repeat (first | rfl | rw [if_pos trivial] | rw [if_neg not_false] | rw [if_neg (by omega)] | rw [if_pos (by omega)])
  · simp only [mI_setI, up2, mI_cpyI, mI_setR, mI_cpyR, Nat.zero_add, Nat.sub_zero, Nat.zero_le, true_and]; repeat (first | rfl | rw [if_pos trivial] | rw [if_neg not_false] | rw [if_neg (by omega)] | rw [if_pos (by omega)])
  · simp only [mI_setI, up2, mI_cpyI, mI_setR, mI_cpyR, Nat.zero_add, Nat.sub_zero, Nat.zero_le, true_and]; repeat (first | rfl | rw [if_pos trivial] | rw [if_neg not_false] | rw [if_neg (by omega)] | rw [if_pos (by omega)])
  · simp only [mI_setI, up2, mI_cpyI, mI_setR, mI_cpyR, Nat.zero_add, Nat.sub_zero, Nat.zero_le, true_and]; repeat (first | rfl | rw [if_pos trivial] | rw [if_neg not_false] | rw [if_neg (by omega)] | rw [if_pos (by omega)])
  · simp only [mI_setI, up2, mI_cpyI, mI_setR, mI_cpyR, Nat.zero_add, Nat.sub_zero, Nat.zero_le, true_and]; repeat (first | rfl | rw [if_pos trivial] | rw [if_neg not_false] | rw [if_neg (by omega)] | rw [if_pos (by omega)])
  · simp only [mI_setI, up2, mI_cpyI, mI_setR, mI_cpyR, Nat.zero_add, Nat.sub_zero, Nat.zero_le, true_and]; repeat (first | rfl | rw [if_pos trivial] | rw [if_neg not_false] | rw [if_neg (by omega)] | rw [if_pos (by omega)])
  · rcases (show k = 4 ∨ k = 5 ∨ k = 6 ∨ k = 7 by omega) with rfl | rfl | rfl | rfl <;> (simp only [mI_setI, up2, mI_cpyI, mI_setR, mI_cpyR, Nat.zero_add, Nat.sub_zero, Nat.zero_le, true_and]; repeat (first | rfl | rw [if_pos trivial] | rw [if_neg not_false] | rw [if_neg (by omega)] | rw [if_pos (by omega)]))
  · simp only [mI_setI, up2, mI_cpyI, mI_setR, mI_cpyR, Nat.zero_add, Nat.sub_zero, Nat.zero_le, true_and]; repeat (first | rfl | rw [if_pos trivial] | rw [if_neg not_false] | rw [if_neg (by omega)] | rw [if_pos (by omega)])
  · simp only [mR_setI, up2, mR_cpyI, mR_setR, mR_cpyR, Nat.zero_add, Nat.sub_zero, Nat.zero_le, true_and]; repeat (first | rfl | rw [if_pos trivial] | rw [if_neg not_false] | rw [if_neg (by omega)] | rw [if_pos (by omega)])
  · simp only [mR_setI, up2, mR_cpyI, mR_setR, mR_cpyR, Nat.zero_add, Nat.sub_zero, Nat.zero_le, true_and]; repeat (first | rfl | rw [if_pos trivial] | rw [if_neg not_false] | rw [if_neg (by omega)] | rw [if_pos (by omega)])
  · simp only [mR_setI, up2, mR_cpyI, mR_setR, mR_cpyR, Nat.zero_add, Nat.sub_zero, Nat.zero_le, true_and]; repeat (first | rfl | rw [if_pos trivial] | rw [if_neg not_false] | rw [if_neg (by omega)] | rw [if_pos (by omega)])
