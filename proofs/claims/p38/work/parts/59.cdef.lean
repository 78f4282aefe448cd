/-! define(): the class makes conditions -/
set_option maxHeartbeats 4000000 in
theorem j_copyS (n : Nat) (nl : Nat) (m : Mem) (a : Nat) (L : Int)   (T_a : mT m a = (20, n)) (hp : L = (nl : Int) ∧ nl < n ∧ n ≤ 100000 ∧ nl ≤ 100000 ∧ a < mN m ∧ mN m + 1 ≤ NN ∧ mZ m + nl ≤ ZZ) : Ct μJ7_copyOf_59c91 1 [vr a, vi L] m (rq fun x_ m' => (x_ = some (mN m)) ∧ cpyI (newO m 20 nl) a 0 (mN m) 0 nl = m') := by
  refine Ct_of_VF rfl (by decide +kernel) rfl (Nat.le_of_ble_eq_true rfl) ?_
  show V μJ7_copyOf_59c91 1 m _ 0 [(0, vr a), (1, vi L)] [] m
  refine V_rg (k := 1) (x := L) rfl fun r_L => ?_
  refine V_ld (pc := 0) dJ7_copyOf_59c91_0 (v := vi L) rfl rfl ?_
  refine V_ld (pc := 1) dJ7_copyOf_59c91_1 (v := vr a) rfl rfl ?_
  refine V_alen (pc := 2) dJ7_copyOf_59c91_2 T_a (by decide) (by omega) ?_
  refine V_icmp_ne (pc := 3) dJ7_copyOf_59c91_3 (tgt := 14) rfl (fun h3 => ?_) (fun h3 => ?_)
  · skip
    refine V_ld (pc := 14) dJ7_copyOf_59c91_14 (v := vi L) rfl rfl ?_
    refine V_newIv (pc := 15) (N := nl) (mN m) rfl (by omega) dJ7_copyOf_59c91_15 (by omega) (by show mZ m + nl ≤ ZZ; omega) (by omega) (by omega) wa_int ?_
    refine V_st (pc := 17) dJ7_copyOf_59c91_17 (ls' := [(2, vr (mN m)), (0, vr a), (1, vi L)]) rfl (Nat.le_of_ble_eq_true rfl) rfl ?_
    refine V_ld (pc := 18) dJ7_copyOf_59c91_18 (v := vr a) rfl rfl ?_
    refine V_iconst (pc := 19) dJ7_copyOf_59c91_19 (by unfold I32; omega) ?_
    refine V_ld (pc := 20) dJ7_copyOf_59c91_20 (v := vr (mN m)) rfl rfl ?_
    refine V_iconst (pc := 21) dJ7_copyOf_59c91_21 (by unfold I32; omega) ?_
    refine V_ld (pc := 22) dJ7_copyOf_59c91_22 (v := vr a) rfl rfl ?_
    refine V_alen (pc := 23) dJ7_copyOf_59c91_23 ((mT_newne (M := m) (c := 20) (n := nl) (o := a) (mN m) rfl (by omega)).trans T_a) (by decide) (by omega) ?_
    refine V_ld (pc := 24) dJ7_copyOf_59c91_24 (v := vi L) rfl rfl ?_
    refine V_callS (pc := 25) dJ7_copyOf_59c91_25 (F' := 0) (As := [vi ((n : Nat) : Int), vi L]) (st := [vi 0, vr (mN m), vi 0, vr a]) cw_RJ7_304 rfl rfl (Nat.le_of_ble_eq_true rfl) (by omega) (j_min_i  (newO m 20 nl) ((n : Nat) : Int) L   ) ?_
    rintro _ _ ⟨x25, rfl, hx25, rfl⟩ ok25 le25
    refine V_acopy (pc := 28) dJ7_copyOf_59c91_28 ac_RJ7_150 ((mT_newne (M := m) (c := 20) (n := nl) (o := a) (mN m) rfl (by omega)).trans T_a) (mT_news (M := m) rfl) (by decide) (by omega) (by omega) (by omega) (by omega) (by omega) (by omega) (Nat.le_of_ble_eq_true rfl) ?_
    refine V_ld (pc := 31) dJ7_copyOf_59c91_31 (v := vr (mN m)) rfl rfl ?_
    refine V_retq (pc := 32) dJ7_copyOf_59c91_32 trivial ?_
    refine ⟨rfl, ?_⟩
    rw [show x25.toNat = nl from by omega]
    rfl
  · skip
    exfalso; omega

set_option maxHeartbeats 4000000 in
theorem j_copyG (n : Nat) (nl : Nat) (m : Mem) (a : Nat) (L : Int)   (T_a : mT m a = (20, n)) (hp : L = (nl : Int) ∧ n < nl ∧ n ≤ 100000 ∧ nl ≤ 100000 ∧ a < mN m ∧ mN m + 1 ≤ NN ∧ mZ m + nl ≤ ZZ) : Ct μJ7_copyOf_59c91 1 [vr a, vi L] m (rq fun x_ m' => (x_ = some (mN m)) ∧ cpyI (newO m 20 nl) a 0 (mN m) 0 n = m') := by
  refine Ct_of_VF rfl (by decide +kernel) rfl (Nat.le_of_ble_eq_true rfl) ?_
  show V μJ7_copyOf_59c91 1 m _ 0 [(0, vr a), (1, vi L)] [] m
  refine V_rg (k := 1) (x := L) rfl fun r_L => ?_
  refine V_ld (pc := 0) dJ7_copyOf_59c91_0 (v := vi L) rfl rfl ?_
  refine V_ld (pc := 1) dJ7_copyOf_59c91_1 (v := vr a) rfl rfl ?_
  refine V_alen (pc := 2) dJ7_copyOf_59c91_2 T_a (by decide) (by omega) ?_
  refine V_icmp_ne (pc := 3) dJ7_copyOf_59c91_3 (tgt := 14) rfl (fun h3 => ?_) (fun h3 => ?_)
  · skip
    refine V_ld (pc := 14) dJ7_copyOf_59c91_14 (v := vi L) rfl rfl ?_
    refine V_newIv (pc := 15) (N := nl) (mN m) rfl (by omega) dJ7_copyOf_59c91_15 (by omega) (by show mZ m + nl ≤ ZZ; omega) (by omega) (by omega) wa_int ?_
    refine V_st (pc := 17) dJ7_copyOf_59c91_17 (ls' := [(2, vr (mN m)), (0, vr a), (1, vi L)]) rfl (Nat.le_of_ble_eq_true rfl) rfl ?_
    refine V_ld (pc := 18) dJ7_copyOf_59c91_18 (v := vr a) rfl rfl ?_
    refine V_iconst (pc := 19) dJ7_copyOf_59c91_19 (by unfold I32; omega) ?_
    refine V_ld (pc := 20) dJ7_copyOf_59c91_20 (v := vr (mN m)) rfl rfl ?_
    refine V_iconst (pc := 21) dJ7_copyOf_59c91_21 (by unfold I32; omega) ?_
    refine V_ld (pc := 22) dJ7_copyOf_59c91_22 (v := vr a) rfl rfl ?_
    refine V_alen (pc := 23) dJ7_copyOf_59c91_23 ((mT_newne (M := m) (c := 20) (n := nl) (o := a) (mN m) rfl (by omega)).trans T_a) (by decide) (by omega) ?_
    refine V_ld (pc := 24) dJ7_copyOf_59c91_24 (v := vi L) rfl rfl ?_
    refine V_callS (pc := 25) dJ7_copyOf_59c91_25 (F' := 0) (As := [vi ((n : Nat) : Int), vi L]) (st := [vi 0, vr (mN m), vi 0, vr a]) cw_RJ7_304 rfl rfl (Nat.le_of_ble_eq_true rfl) (by omega) (j_min_i  (newO m 20 nl) ((n : Nat) : Int) L   ) ?_
    rintro _ _ ⟨x25, rfl, hx25, rfl⟩ ok25 le25
    refine V_acopy (pc := 28) dJ7_copyOf_59c91_28 ac_RJ7_150 ((mT_newne (M := m) (c := 20) (n := nl) (o := a) (mN m) rfl (by omega)).trans T_a) (mT_news (M := m) rfl) (by decide) (by omega) (by omega) (by omega) (by omega) (by omega) (by omega) (Nat.le_of_ble_eq_true rfl) ?_
    refine V_ld (pc := 31) dJ7_copyOf_59c91_31 (v := vr (mN m)) rfl rfl ?_
    refine V_retq (pc := 32) dJ7_copyOf_59c91_32 trivial ?_
    refine ⟨rfl, ?_⟩
    rw [show x25.toNat = n from by omega]
    rfl
  · skip
    exfalso; omega

set_option maxHeartbeats 4000000 in
theorem d_C_init  (m : Mem) (c : Nat) (a : Nat)   (T_c : mT m c = (0, 1)) (hsc : a ≠ SC) : Ct μX0_init 1 [vr c, vr a] m (rv fun m' => setR m c 0 (some a) = m') := by
  refine Ct_of_V rfl (by decide) rfl (Nat.le_of_ble_eq_true rfl) ?_
  show V μX0_init 1 m _ 0 [(0, vr c), (1, vr a)] [] m
  refine V_ld (pc := 0) dX0_init_0 (v := vr c) rfl rfl ?_
  refine V_objInit (pc := 1) dX0_init_1 oi_RX0_5 wo_i wo_c (by omega) (Nat.le_of_ble_eq_true rfl) ?_
  refine V_ld (pc := 4) dX0_init_4 (v := vr c) rfl rfl ?_
  refine V_ld (pc := 5) dX0_init_5 (v := vr a) rfl rfl ?_
  refine V_putR (pc := 6) dX0_init_6 fw_RX0_11 rfl T_c (Or.inr ⟨rfl, rfl⟩) (fun o_ h_ => by cases h_; exact hsc) ?_
  refine V_retv (pc := 9) dX0_init_9 trivial ?_
  first | exact ⟨rfl, rfl⟩ | exact rfl

set_option maxHeartbeats 4000000 in
theorem d_CR_init (n : Nat) (m : Mem) (r : Nat)   (T_r : mT m r = (1, 7)) (T_13 : mT m 13 = (9, 2)) (hp : mI m 13 1 = (n : Int) ∧ n ≤ 120 ∧ 59 ≤ r ∧ r < mN m ∧ mN m + 2 ≤ NN ∧ mZ m + 26 + n ≤ ZZ) : Ct μX1_init 1 [vr r, vr 13] m (rv fun m' => setR (newO (setR (setR (newO (setI m r 4 (-1)) 23 26) r 6 (some (mN m))) r 0 (some 13)) 20 n) r 1 (some (mN m + 1)) = m') := by
  refine Ct_of_V rfl (by decide) rfl (Nat.le_of_ble_eq_true rfl) ?_
  show V μX1_init 1 m _ 0 [(0, vr r), (1, vr 13)] [] m
  refine V_ld (pc := 0) dX1_init_0 (v := vr r) rfl rfl ?_
  refine V_objInit (pc := 1) dX1_init_1 oi_RX1_3 wo_i wo_c (by omega) (Nat.le_of_ble_eq_true rfl) ?_
  refine V_ld (pc := 4) dX1_init_4 (v := vr r) rfl rfl ?_
  refine V_iconst (pc := 5) dX1_init_5 (by unfold I32; omega) ?_
  refine V_putI (pc := 6) dX1_init_6 fw_RX1_9 rfl T_r (Or.inl rfl) (Or.inl rfl) ?_
  refine V_ld (pc := 9) dX1_init_9 (v := vr r) rfl rfl ?_
  refine V_bipush (pc := 10) dX1_init_10 (by unfold I32; omega) (by decide) ?_
  refine V_newQv (pc := 12) (N := 26) (mN m) rfl rfl dX1_init_12 (by omega) (by show mZ m + 26 ≤ ZZ; omega) (by omega) (by omega) (Or.inr ⟨rfl, rfl⟩) cl_RX1_15 ?_
  refine V_putR (pc := 15) dX1_init_15 fw_RX1_17 rfl ((mT_newne (M := (setI m r 4 (-1))) (c := 23) (n := 26) (o := r) (mN m) rfl (by omega)).trans T_r) (Or.inr ⟨rfl, rfl⟩) (fun o_ h_ => by cases h_; (try unfold NN at *); unfold SC; omega) ?_
  refine V_ld (pc := 18) dX1_init_18 (v := vr r) rfl rfl ?_
  refine V_ld (pc := 19) dX1_init_19 (v := vr 13) rfl rfl ?_
  refine V_putR (pc := 20) dX1_init_20 fw_RX1_21 rfl ((mT_newne (M := (setI m r 4 (-1))) (c := 23) (n := 26) (o := r) (mN m) rfl (by omega)).trans T_r) (Or.inr ⟨rfl, rfl⟩) (fun o_ h_ => by cases h_; (try unfold NN at *); unfold SC; omega) ?_
  refine V_ld (pc := 23) dX1_init_23 (v := vr r) rfl rfl ?_
  refine V_ld (pc := 24) dX1_init_24 (v := vr 13) rfl rfl ?_
  refine V_getIv (pc := 25) dX1_init_25 (v := (n : Int)) fw_RX1_25 rfl ((mT_newne (M := (setI m r 4 (-1))) (c := 23) (n := 26) (o := 13) (mN m) rfl (by omega)).trans T_13) ((mI_newne (M := (setI m r 4 (-1))) (c := 23) (n := 26) (o := 13) (mN m) rfl (by omega)).trans (by first | exact hp.1 | (simp only [mI_setI, up2]; repeat (first | exact hp.1 | rw [if_neg (by omega)])))) (fun g25 => ?_)
  refine V_if_ge (pc := 28) dX1_init_28 (tgt := 35) rfl (fun h28 => ?_) (fun h28 => ?_)
  · skip
    refine V_ld (pc := 35) dX1_init_35 (v := vr 13) rfl rfl ?_
    refine V_getIv (pc := 36) dX1_init_36 (v := (n : Int)) fw_RX1_25 rfl ((mT_newne (M := (setI m r 4 (-1))) (c := 23) (n := 26) (o := 13) (mN m) rfl (by omega)).trans T_13) ((mI_newne (M := (setI m r 4 (-1))) (c := 23) (n := 26) (o := 13) (mN m) rfl (by omega)).trans (by first | exact hp.1 | (simp only [mI_setI, up2]; repeat (first | exact hp.1 | rw [if_neg (by omega)])))) (fun g36 => ?_)
    refine V_newIv (pc := 39) (N := n) (mN m + 1) rfl (by omega) dX1_init_39 (by omega) (by show mZ m + 26 + n ≤ ZZ; omega) (by omega) (by omega) wa_int ?_
    refine V_putR (pc := 41) dX1_init_41 fw_RX1_30 rfl ((mT_newne (M := (setR (setR (newO (setI m r 4 (-1)) 23 26) r 6 (some (mN m))) r 0 (some 13))) (c := 20) (n := n) (o := r) (mN m + 1) rfl (by omega)).trans ((mT_newne (M := (setI m r 4 (-1))) (c := 23) (n := 26) (o := r) (mN m) rfl (by omega)).trans T_r)) (Or.inr ⟨rfl, rfl⟩) (fun o_ h_ => by cases h_; (try unfold NN at *); unfold SC; omega) ?_
    refine V_retv (pc := 44) dX1_init_44 trivial ?_
    first | (exfalso; omega) | exact ⟨rfl, rfl⟩ | exact rfl
  · skip
    refine V_iconst (pc := 31) dX1_init_31 (by unfold I32; omega) ?_
    refine V_goto (pc := 32) dX1_init_32 (tgt := 39) rfl ?_
    refine V_newIv (pc := 39) (N := n) (mN m + 1) rfl (by omega) dX1_init_39 (by omega) (by show mZ m + 26 + n ≤ ZZ; omega) (by omega) (by omega) wa_int ?_
    refine V_putR (pc := 41) dX1_init_41 fw_RX1_30 rfl ((mT_newne (M := (setR (setR (newO (setI m r 4 (-1)) 23 26) r 6 (some (mN m))) r 0 (some 13))) (c := 20) (n := n) (o := r) (mN m + 1) rfl (by omega)).trans ((mT_newne (M := (setI m r 4 (-1))) (c := 23) (n := 26) (o := r) (mN m) rfl (by omega)).trans T_r)) (Or.inr ⟨rfl, rfl⟩) (fun o_ h_ => by cases h_; (try unfold NN at *); unfold SC; omega) ?_
    refine V_retv (pc := 44) dX1_init_44 trivial ?_
    first | (exfalso; omega) | exact ⟨rfl, rfl⟩ | exact rfl

def HasG (m : Mem) (lo c : Nat) (cd : List Int) : Prop := ∃ A, mT m c = (0, 1) ∧ mR m c 0 = some A ∧ mT m A = (20, cd.length) ∧ lo ≤ c ∧ lo ≤ A ∧ c < mN m ∧ A < mN m ∧ (∀ k x, cd[k]? = some x → mI m A k = x) ∧ okL cd ∧ cd.length ≤ 120
theorem HasG.c {m : Mem} {lo c : Nat} {cd : List Int} (h : HasG m lo c cd) (hl : 59 ≤ lo) : HasC m c cd := by
  obtain ⟨A, h1, h2, h3, h4, h5, h6⟩ := h
  exact ⟨A, h1, h2, h3, by omega, by omega, h6⟩
def FrC (m m' : Mem) (r : Nat) : Prop := mN m ≤ mN m' ∧ mZ m ≤ mZ m' ∧ (∀ o, o < mN m → mT m' o = mT m o) ∧ (∀ o k, o < mN m → o ≠ r + 1 → mR m' o k = mR m o k) ∧ ∀ o k, o < mN m → ¬ (o = r ∧ (k = 2 ∨ k = 3 ∨ k = 4 ∨ k = 5)) → o ≠ r + 2 → mI m' o k = mI m o k
theorem FrC.rf {m : Mem} {r : Nat} : FrC m m r := ⟨Nat.le_refl _, Nat.le_refl _, fun _ _ => rfl, fun _ _ _ _ => rfl, fun _ _ _ _ _ => rfl⟩
theorem FrC.tr {m m1 m2 : Mem} {r : Nat} (h : FrC m m1 r) (h2 : FrC m1 m2 r) : FrC m m2 r := ⟨Nat.le_trans h.1 h2.1, Nat.le_trans h.2.1 h2.2.1, fun o ho => (h2.2.2.1 o (Nat.lt_of_lt_of_le ho h.1)).trans (h.2.2.1 o ho), fun o k ho a => (h2.2.2.2.1 o k (Nat.lt_of_lt_of_le ho h.1) a).trans (h.2.2.2.1 o k ho a), fun o k ho a b => (h2.2.2.2.2 o k (Nat.lt_of_lt_of_le ho h.1) a b).trans (h.2.2.2.2 o k ho a b)⟩
theorem HasG.fr {m m' : Mem} {r c : Nat} {cd : List Int} (h : HasG m (r + 3) c cd) (hf : FrC m m' r) : HasG m' (r + 3) c cd := by
  obtain ⟨A, h1, h2, h3, h4, h5, h6, h7, h8, h9⟩ := h
  exact ⟨A, (hf.2.2.1 c h6).trans h1, (hf.2.2.2.1 c 0 h6 (by omega)).trans h2, (hf.2.2.1 A h7).trans h3, h4, h5, Nat.lt_of_lt_of_le h6 hf.1, Nat.lt_of_lt_of_le h7 hf.1, fun k x hx => (hf.2.2.2.2 A k h7 (by omega) (by omega)).trans (h8 k x hx), h9⟩
theorem QLay.fr {m m' : Mem} {r n : Nat} (h : QLay m r n) (hf : FrC m m' r) (hr : r + 2 < mN m) : QLay m' r n := by
  obtain ⟨h1, h2, h3, h4, h5, h6, h7⟩ := h
  exact ⟨h1, (hf.2.2.1 r (by omega)).trans h2, (hf.2.2.2.1 r 0 (by omega) (by omega)).trans h3, (hf.2.2.2.1 r 1 (by omega) (by omega)).trans h4, (hf.2.2.2.1 r 6 (by omega) (by omega)).trans h5, (hf.2.2.1 (r + 1) (by omega)).trans h6, (hf.2.2.1 (r + 2) (by omega)).trans h7⟩
theorem Lay.frc {m m' : Mem} {r : Nat} (h : Lay (mT m) (mR m)) (hf : FrC m m' r) (hr : 59 ≤ r ∧ r < mN m) : Lay (mT m') (mR m') := by
  refine ⟨fun p hp => ?_, fun p hp => ?_⟩
  · have hl : p.1 < 59 := by
      have : ∀ q ∈ layT, q.1 < 59 := by decide
      exact this p hp
    rw [hf.2.2.1 p.1 (by omega)]
    exact h.1 p hp
  · have hl : p.1.1 < 59 := by
      have : ∀ q ∈ layR, q.1.1 < 59 := by decide
      exact this p hp
    rw [hf.2.2.2.1 p.1.1 _ (by omega) (by omega)]
    exact h.2 p hp
def CM (M : Mem) (r w nl : Nat) : Mem := setR (setR (cpyI (newO (newO M 0 1) 20 nl) (r + 2) 0 (mN M + 1) 0 nl) (mN M) 0 (some (mN M + 1))) (r + 1) w (some (mN M))
theorem CM_ok {M : Mem} {r w nl : Nat} {cd : List Int} (hr : r + 2 < mN M) (hcd : ∀ k x, cd[k]? = some x → mI M (r + 2) k = x) (hl : nl = cd.length) (hok : okL cd) (h120 : cd.length ≤ 120) : HasG (CM M r w nl) (r + 3) (mN M) cd ∧ mR (CM M r w nl) (r + 1) w = some (mN M) ∧ (∀ o, o < mN M → mT (CM M r w nl) o = mT M o ∧ ∀ k, mI (CM M r w nl) o k = mI M o k) ∧ (∀ o k, o < mN M → ¬ (o = r + 1 ∧ k = w) → mR (CM M r w nl) o k = mR M o k) ∧ mN (CM M r w nl) = mN M + 2 ∧ mZ (CM M r w nl) = mZ M + 1 + nl := by
  subst hl
  have e1 : mN (newO M 0 1) = mN M + 1 := rfl
  have hT : ∀ o, mT (CM M r w cd.length) o = mT (newO (newO M 0 1) 20 cd.length) o := fun _ => rfl
  have hI : ∀ o k, mI (CM M r w cd.length) o k = if o = mN M + 1 ∧ 0 ≤ k ∧ k < 0 + cd.length then mI (newO (newO M 0 1) 20 cd.length) (r + 2) (0 + (k - 0)) else mI (newO (newO M 0 1) 20 cd.length) o k := fun _ _ => rfl
  have hold : ∀ o k, o < mN M → mI (newO (newO M 0 1) 20 cd.length) o k = mI M o k := fun o k ho => (mI_newne (M := newO M 0 1) _ e1 (by omega)).trans (mI_newne (M := M) _ rfl (by omega))
  refine ⟨⟨mN M + 1, ?_, ?_, ?_, by omega, by omega, by show mN M < mN M + 2; omega, by show mN M + 1 < mN M + 2; omega, fun k x hx => ?_, hok, h120⟩, mR_sets, fun o ho => ⟨?_, fun k => ?_⟩, fun o k ho h => ?_, rfl, rfl⟩
  · rw [hT, mT_newne (M := newO M 0 1) _ e1 (by omega)]; exact mT_news rfl
  · exact (mR_setne (by omega)).trans mR_sets
  · rw [hT]; exact mT_news e1
  · have hk : k < cd.length := by
      by_cases c : k < cd.length
      · exact c
      · rw [List.getElem?_eq_none (by omega)] at hx; cases hx
    rw [hI, if_pos ⟨rfl, by omega, by omega⟩, hold _ _ hr, show 0 + (k - 0) = k from by omega]
    exact hcd k x hx
  · rw [hT, mT_newne (M := newO M 0 1) _ e1 (by omega), mT_newne (M := M) _ rfl (by omega)]
  · rw [hI, if_neg (by omega)]; exact hold o k ho
  · rw [show mR (CM M r w cd.length) o k = mR (newO (newO M 0 1) 20 cd.length) o k from (mR_setne (by omega)).trans (mR_setne (by omega)), mR_newne (M := newO M 0 1) _ e1 (by omega), mR_newne (M := M) _ rfl (by omega)]
def cofR (tx : Nat → Int) (n : Nat) (S : CS) : CR := if ccS tx n S = -1 then ([], fun _ => true, S) else eitL tx n 4 S
theorem dR_cof (tx : Nat → Int) (n : Nat) (S : CS) : dR tx n S = cofR tx n (dS2 tx n S) := rfl
def CofR (m : Mem) (r : Nat) (tx : Nat → Int) (n : Nat) (S : CS) (w x : Int) (m' : Mem) : Prop := FrC m m' r ∧ mN m' ≤ mN m + 2 ∧ mZ m' ≤ mZ m + 121 ∧
  ((x = 0 ∧ (cofR tx n S).2.2.1 = false ∧ mI m' r 4 = ((cofR tx n S).2.2.2 : Int)) ∨
   (x = 1 ∧ (cofR tx n S).2.2.1 = true ∧ (∃ C, DQ (mI m') r tx n (cofR tx n S).2.2 C) ∧ mI m' r 5 = or32 (mI m r 5) (shl32 1 w) ∧
     (if ccS tx n S = -1 then mR m' (r + 1) w.toNat = none else ∃ c, mR m' (r + 1) w.toNat = some c ∧ HasG m' (r + 3) c (cofR tx n S).1) ∧ ∀ k, k ≠ w.toNat → mR m' (r + 1) k = mR m (r + 1) k))
theorem DQ.zero {I : Nat → Nat → Int} {r : Nat} {tx : Nat → Int} {n : Nat} {S : CS} {C : List Int} (h : DQ I r tx n S C) : DQ (up2 I r 2 0) r tx n S [] := by
  obtain ⟨h1, h2, h3, h4, h5, h6, h7, h8, h9, h10⟩ := h
  refine ⟨?_, ?_, ?_, up2_s, h5, h6, fun k hk => ?_, fun k x hx => by simp at hx, h9, h10⟩
  · rw [up2_no (by omega)]; exact h1
  · rw [up2_nk (by decide)]; exact h2
  · rw [up2_nk (by decide)]; exact h3
  · rw [up2_no (by omega)]; exact h7 k hk
theorem DQ.fr {I J : Nat → Nat → Int} {r : Nat} {tx : Nat → Int} {n : Nat} {S : CS} {C : List Int} (h : DQ I r tx n S C) (hJ : ∀ o k, (o = 13 ∨ o = 14 ∨ (o = r ∧ (k = 2 ∨ k = 3 ∨ k = 4)) ∨ o = r + 2) → J o k = I o k) : DQ J r tx n S C := by
  obtain ⟨h1, h2, h3, h4, h5, h6, h7, h8, h9, h10⟩ := h
  exact ⟨(hJ _ _ (by omega)).trans h1, (hJ _ _ (by omega)).trans h2, (hJ _ _ (by omega)).trans h3, (hJ _ _ (by omega)).trans h4, h5, h6, fun k hk => ⟨(hJ _ _ (by omega)).trans (h7 k hk).1, (h7 k hk).2⟩, fun k x hx => (hJ _ _ (by omega)).trans (h8 k x hx), h9, h10⟩

theorem DQ.at2 {I : Nat → Nat → Int} {r : Nat} {tx : Nat → Int} {n : Nat} {S : CS} {C : List Int} {v x : Int} (h : DQ I r tx n S C) (hv : v = (S.2 : Int)) (hx : x = if 0 ≤ v ∧ v < I 13 1 ∧ v < 120 then I 14 v.toNat else -1) : (x = 59 ↔ dNx tx n S) ∧ (S.2 < n → x ≠ 59 → ccS tx n S = x ∧ 1 ≤ x) := by
  obtain ⟨h1, h2, h3, h4, h5, h6, h7, h8, h9, h10⟩ := h
  subst hv hx
  by_cases c : S.2 < n
  · have e := h7 _ c
    rw [if_pos (by omega), Int.toNat_natCast, e.1]
    refine ⟨⟨fun d => ⟨h9, c, d⟩, fun d => d.2.2⟩, fun _ d => ⟨?_, e.2.1⟩⟩
    unfold ccS
    rw [if_pos ⟨h9, c, d⟩]
  · rw [if_neg (by omega)]
    exact ⟨⟨fun d => by omega, fun d => absurd d.2.1 c⟩, fun d => absurd d c⟩

set_option maxHeartbeats 4000000 in
theorem d_comes59 (tx : Nat → Int) (n : Nat) (S : CS) (C : List Int) (m : Mem) (r : Nat) (g : Int)   (hL : Lay (mT m) (mR m)) (hQ : QLay m r n) (hP : DQ (mI m) r tx n S C) (hc : g = 59) : Ct μX1_comes 1 [vr r, vi g] m (ri fun x_ m' => ((x_ = 1 ∨ x_ = 0) ∧ (x_ = 1 → ccS tx n S = -1) ∧ (x_ = 0 → S.2 < n → ccS tx n S ≠ -1) ∧ (x_ = 1 ↔ dNx tx n S)) ∧ m = m') := by
  refine Ct_of_V rfl (by decide) rfl (Nat.le_of_ble_eq_true rfl) ?_
  show V μX1_comes 1 m _ 0 [(0, vr r), (1, vi g)] [] m
  refine V_rg (k := 1) (x := g) rfl fun r_g => ?_
  obtain ⟨hr59, hq120⟩ := hQ.1
  refine V_ld (pc := 0) dX1_comes_0 (v := vr r) rfl rfl ?_
  refine V_getRv (pc := 1) dX1_comes_1 (o' := 13) fw_RX1_21 rfl hQ.2.1 hQ.2.2.1 ?_
  refine V_ld (pc := 4) dX1_comes_4 (v := vr r) rfl rfl ?_
  refine V_getIv (pc := 5) dX1_comes_5 (v := (S.2 : Int)) fw_RX1_34 rfl hQ.2.1 hP.2.1 (fun g5 => ?_)
  refine V_callV (pc := 8) dX1_comes_8 (F' := 0) (As := [vi (S.2 : Int)]) (st := []) cw_RX1_37 rfl rfl hL.t13 (by decide) (Nat.le_of_ble_eq_true rfl) (by omega) (c_Text_at  m 13 (S.2 : Int) 14  hL.t13 hL.r13_0 hL.t14) ?_
  rintro _ _ ⟨x8, rfl, hx8, rfl⟩ ok8 le8
  obtain ⟨k8a, k8b⟩ := DQ.at2 hP rfl hx8
  obtain ⟨k8c, k8d, k8e, k8f⟩ := DQ.at hP rfl hx8
  refine V_ld (pc := 11) dX1_comes_11 (v := vi g) rfl rfl ?_
  refine V_icmp_ne (pc := 12) dX1_comes_12 (tgt := 19) rfl (fun h12 => ?_) (fun h12 => ?_)
  · skip
    refine V_iconst (pc := 19) dX1_comes_19 (by unfold I32; omega) ?_
    refine V_reti (pc := 20) dX1_comes_20 (show _ = (0 : Int) ∨ _ = (1 : Int) from by first | exact Or.inl rfl | exact Or.inr rfl | omega) ?_
    first
      | (have hx_ : x8 = 59 := by omega
         have hd_ := k8a.mp hx_
         refine ⟨⟨Or.inl rfl, fun _ => ?_, fun h_ => by omega, ⟨fun _ => hd_, fun _ => rfl⟩⟩, rfl⟩
         rcases k8c with h_ | h_
         · have h2_ := hd_.2.2
           unfold ccS
           rw [if_neg (fun z => z.2.2 h2_)]
         · exact h_.2)
      | (have hx_ : x8 ≠ 59 := by omega
         refine ⟨⟨Or.inr rfl, fun h_ => by omega, fun _ h2_ => by have h3_ := k8b h2_ hx_; omega, ⟨fun h_ => by omega, fun h_ => absurd (k8a.mpr h_) hx_⟩⟩, rfl⟩)
  · skip
    refine V_iconst (pc := 15) dX1_comes_15 (by unfold I32; omega) ?_
    refine V_goto (pc := 16) dX1_comes_16 (tgt := 20) rfl ?_
    refine V_reti (pc := 20) dX1_comes_20 (show _ = (0 : Int) ∨ _ = (1 : Int) from by first | exact Or.inl rfl | exact Or.inr rfl | omega) ?_
    first
      | (have hx_ : x8 = 59 := by omega
         have hd_ := k8a.mp hx_
         refine ⟨⟨Or.inl rfl, fun _ => ?_, fun h_ => by omega, ⟨fun _ => hd_, fun _ => rfl⟩⟩, rfl⟩
         rcases k8c with h_ | h_
         · have h2_ := hd_.2.2
           unfold ccS
           rw [if_neg (fun z => z.2.2 h2_)]
         · exact h_.2)
      | (have hx_ : x8 ≠ 59 := by omega
         refine ⟨⟨Or.inr rfl, fun h_ => by omega, fun _ h2_ => by have h3_ := k8b h2_ hx_; omega, ⟨fun h_ => by omega, fun h_ => absurd (k8a.mpr h_) hx_⟩⟩, rfl⟩)
