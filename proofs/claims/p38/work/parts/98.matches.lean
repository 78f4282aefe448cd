/-! matches: the list of them; the class adds one -/
abbrev ML : Type := List (Int × Int × (Nat → Int))
def rnA (F : Tb) (c : Nat) (n may : Int) (hc : Nat → CEnv → Int) (cl : Nat → Int) (mo by_ em : Int) : Nat → Int → ML → SJ → Int × ML × SJ
  | 0, _, Ms, J => (0, Ms, J)
  | f + 1, st, Ms, J =>
    if n < st then (0, Ms, J)
    else if (seekA F c n may hc cl (-1) st J).1 = -7 then (-7, Ms, (seekA F c n may hc cl (-1) st J).2)
    else if (seekA F c n may hc cl (-1) st J).1 = 1 ∧ (st < (seekA F c n may hc cl (-1) st J).2.1 9 ∨ em = 1) then rnA F c n may hc cl mo by_ em f (nextA mo by_ st ((seekA F c n may hc cl (-1) st J).2.1 9) (seekA F c n may hc cl (-1) st J).2.2.1) (Ms ++ [(st, (seekA F c n may hc cl (-1) st J).2.1 9, (seekA F c n may hc cl (-1) st J).2.2.1)]) (seekA F c n may hc cl (-1) st J).2
    else rnA F c n may hc cl mo by_ em f (st + 1) Ms (seekA F c n may hc cl (-1) st J).2
def MaC (I : Nat → Nat → Int) (M a b c : Nat) (Ms : ML) : Prop := I M 3 = (Ms.length : Int) ∧ ∀ j s e le, Ms[j]? = some (s, e, le) → I a j = s ∧ I b j = e ∧ ∀ r : Nat, r < 32 → I c (32 * j + r) = if s ≤ (r : Int) ∧ (r : Int) < e then le r else -5
def MaR (I : Nat → Nat → Int) (o off : Nat) (Ms : ML) : Prop := ∀ j s e le, Ms[j]? = some (s, e, le) → I o (off + 34 * j) = s ∧ I o (off + 34 * j + 1) = e - s ∧ ∀ r : Nat, s + (r : Int) < e → I o (off + 34 * j + 2 + r) = le (s + (r : Int)).toNat
def MsOK (n : Int) (Ms : ML) : Prop := ∀ x ∈ Ms, 0 ≤ x.1 ∧ x.1 ≤ x.2.1 ∧ x.2.1 ≤ n ∧ ∀ k, 0 ≤ x.2.2 k ∧ x.2.2 k ≤ 25
def adM (m : Mem) (c lo : Nat) (st en : Int) (i : Nat) : Mem := wI m (fun o k => if o = c ∧ lo ≤ k ∧ k < lo + i then (if st ≤ ((k - lo : Nat) : Int) ∧ ((k - lo : Nat) : Int) < en then mI m 10 (k - lo) else -5) else mI m o k)
theorem mI_adM {m : Mem} {c lo : Nat} {st en : Int} {i o k : Nat} : mI (adM m c lo st en i) o k = if o = c ∧ lo ≤ k ∧ k < lo + i then (if st ≤ ((k - lo : Nat) : Int) ∧ ((k - lo : Nat) : Int) < en then mI m 10 (k - lo) else -5) else mI m o k := rfl
theorem adM_0 {m : Mem} {c lo : Nat} {st en : Int} : adM m c lo st en 0 = m := by
  have h : (fun o k => if o = c ∧ lo ≤ k ∧ k < lo + 0 then (if st ≤ ((k - lo : Nat) : Int) ∧ ((k - lo : Nat) : Int) < en then mI m 10 (k - lo) else -5) else mI m o k) = mI m := by
    funext o k; exact if_neg (by omega)
  unfold adM; rw [h]; rfl
theorem adM_s {m : Mem} {c lo : Nat} {st en : Int} {i q : Nat} {v : Int} (hq : q = lo + i) (hv : v = if st ≤ (i : Int) ∧ (i : Int) < en then mI m 10 i else -5) : setI (adM m c lo st en i) c q v = adM m c lo st en (i + 1) := by
  subst hq
  have h : up2 (mI (adM m c lo st en i)) c (lo + i) v = fun o k => if o = c ∧ lo ≤ k ∧ k < lo + (i + 1) then (if st ≤ ((k - lo : Nat) : Int) ∧ ((k - lo : Nat) : Int) < en then mI m 10 (k - lo) else -5) else mI m o k := by
    funext o k
    unfold up2
    rw [mI_adM]
    by_cases h1 : o = c ∧ k = lo + i
    · rw [if_pos h1, if_pos (show o = c ∧ lo ≤ k ∧ k < lo + (i + 1) by omega), show k - lo = i from by omega]; exact hv
    · rw [if_neg h1]
      by_cases h2 : o = c ∧ lo ≤ k ∧ k < lo + i
      · rw [if_pos h2, if_pos (show o = c ∧ lo ≤ k ∧ k < lo + (i + 1) by omega)]
      · rw [if_neg h2, if_neg (show ¬ (o = c ∧ lo ≤ k ∧ k < lo + (i + 1)) by omega)]
  unfold setI; rw [h]; rfl

set_option maxHeartbeats 4000000 in
theorem L_madd {F : Nat} {m0 m : Mem} {post : Option AV → Mem → Prop} {M c q : Nat} {st en : Int} (hL : Lay (mT m) (mR m)) (TM : mT m M = (3, 4)) (RM : mR m M 2 = some c) (Tc : mT m c = (20, 1056)) (hq : q < 33) (hF : 0 < F) (hne : c ≠ 10) (hs : 0 ≤ st ∧ en ≤ 32) (kx : V μX3_add F m0 post 97 [(5, vi ((32 : Nat) : Int)), (4, vi (q : Int)), (0, vr M), (1, vi st), (2, vi en), (3, vr 9)] [] (adM m c (32 * q) st en 32)) : ∀ (dd i : Nat), dd + i = 32 → V μX3_add F m0 post 48 [(5, vi ((i : Nat) : Int)), (4, vi (q : Int)), (0, vr M), (1, vi st), (2, vi en), (3, vr 9)] [] (adM m c (32 * q) st en i) := by
  intro dd
  induction dd with
  | zero =>
    intro i hi
    obtain rfl : 32 = i := by omega
    refine V_ld (pc := 48) dX3_add_48 (v := vi ((32 : Nat) : Int)) rfl rfl ?_
    refine V_bipush (pc := 50) dX3_add_50 (by unfold I32; omega) (by decide) ?_
    refine V_icmp_ge (pc := 52) dX3_add_52 (tgt := 97) rfl (fun h52 => ?_) (fun h52 => ?_)
    · skip
      first | exact kx | (skip; exact kx) | (exfalso; omega)
    · skip
      exfalso; omega
  | succ dd ih =>
    intro i hi
    refine V_ld (pc := 48) dX3_add_48 (v := vi ((i : Nat) : Int)) rfl rfl ?_
    refine V_bipush (pc := 50) dX3_add_50 (by unfold I32; omega) (by decide) ?_
    refine V_icmp_ge (pc := 52) dX3_add_52 (tgt := 97) rfl (fun h52 => ?_) (fun h52 => ?_)
    · skip
      exfalso; omega
    · skip
      refine V_ld (pc := 55) dX3_add_55 (v := vr M) rfl rfl ?_
      refine V_getRv (pc := 56) dX3_add_56 (o' := c) fw_RX3_18 rfl TM RM ?_
      refine V_ld (pc := 59) dX3_add_59 (v := vi (q : Int)) rfl rfl ?_
      refine V_bipush (pc := 61) dX3_add_61 (by unfold I32; omega) (by decide) ?_
      refine V_imul (pc := 63) dX3_add_63 (by unfold I32 at *; omega) ?_
      refine V_ld (pc := 64) dX3_add_64 (v := vi ((i : Nat) : Int)) rfl rfl ?_
      refine V_iadd (pc := 66) dX3_add_66 (by unfold I32 at *; omega) ?_
      refine V_ld (pc := 67) dX3_add_67 (v := vi ((i : Nat) : Int)) rfl rfl ?_
      refine V_ld (pc := 69) dX3_add_69 (v := vi st) rfl rfl ?_
      refine V_icmp_lt (pc := 70) dX3_add_70 (tgt := 88) rfl (fun h70 => ?_) (fun h70 => ?_)
      · skip
        refine V_bipush (pc := 88) dX3_add_88 (by unfold I32; omega) (by decide) ?_
        refine V_iast (pc := 90) dX3_add_90 Tc (by omega) ?_
        refine V_iinc (pc := 91) dX3_add_91 (x := ((i : Nat) : Int)) (ls' := [(5, vi (((i : Nat) : Int) + 1)), (4, vi (q : Int)), (0, vr M), (1, vi st), (2, vi en), (3, vr 9)]) rfl (by unfold I32 at *; omega) (Nat.le_of_ble_eq_true rfl) rfl ?_
        refine V_goto (pc := 94) dX3_add_94 (tgt := 48) rfl ?_
        skip
        refine V_mem (adM_s (m := m) (c := c) (lo := 32 * q) (st := st) (en := en) (i := i) (q := (((q : Int) * 32) + ((i : Nat) : Int)).toNat) (v := (-5)) (by omega) ?_) ?_
        · first
            | (rw [if_neg (by omega)])
            | (rw [if_pos (by omega), hx82, if_pos (by omega), mI_adM, if_neg (by omega)]; rfl)
            | (exfalso; omega)
        · exact ih (i + 1) (by omega)
      · skip
        refine V_ld (pc := 73) dX3_add_73 (v := vi ((i : Nat) : Int)) rfl rfl ?_
        refine V_ld (pc := 75) dX3_add_75 (v := vi en) rfl rfl ?_
        refine V_icmp_ge (pc := 76) dX3_add_76 (tgt := 88) rfl (fun h76 => ?_) (fun h76 => ?_)
        · skip
          refine V_bipush (pc := 88) dX3_add_88 (by unfold I32; omega) (by decide) ?_
          refine V_iast (pc := 90) dX3_add_90 Tc (by omega) ?_
          refine V_iinc (pc := 91) dX3_add_91 (x := ((i : Nat) : Int)) (ls' := [(5, vi (((i : Nat) : Int) + 1)), (4, vi (q : Int)), (0, vr M), (1, vi st), (2, vi en), (3, vr 9)]) rfl (by unfold I32 at *; omega) (Nat.le_of_ble_eq_true rfl) rfl ?_
          refine V_goto (pc := 94) dX3_add_94 (tgt := 48) rfl ?_
          skip
          refine V_mem (adM_s (m := m) (c := c) (lo := 32 * q) (st := st) (en := en) (i := i) (q := (((q : Int) * 32) + ((i : Nat) : Int)).toNat) (v := (-5)) (by omega) ?_) ?_
          · first
              | (rw [if_neg (by omega)])
              | (rw [if_pos (by omega), hx82, if_pos (by omega), mI_adM, if_neg (by omega)]; rfl)
              | (exfalso; omega)
          · exact ih (i + 1) (by omega)
        · skip
          refine V_ld (pc := 79) dX3_add_79 (v := vr 9) rfl rfl ?_
          refine V_ld (pc := 80) dX3_add_80 (v := vi ((i : Nat) : Int)) rfl rfl ?_
          refine V_callV (pc := 82) dX3_add_82 (F' := 0) (As := [vi ((i : Nat) : Int)]) (st := [vi (((q : Int) * 32) + ((i : Nat) : Int)), vr c]) cw_RX3_25 rfl rfl hL.t9 (by decide) (Nat.le_of_ble_eq_true rfl) hF (d_letterAt  (adM m c (32 * q) st en i) ((i : Nat) : Int)   (by first | assumption | omega)) ?_
          rintro _ _ ⟨x82, rfl, hx82, rfl⟩ ok82 le82
          refine V_goto (pc := 85) dX3_add_85 (tgt := 90) rfl ?_
          refine V_iast (pc := 90) dX3_add_90 Tc (by omega) ?_
          refine V_iinc (pc := 91) dX3_add_91 (x := ((i : Nat) : Int)) (ls' := [(5, vi (((i : Nat) : Int) + 1)), (4, vi (q : Int)), (0, vr M), (1, vi st), (2, vi en), (3, vr 9)]) rfl (by unfold I32 at *; omega) (Nat.le_of_ble_eq_true rfl) rfl ?_
          refine V_goto (pc := 94) dX3_add_94 (tgt := 48) rfl ?_
          skip
          refine V_mem (adM_s (m := m) (c := c) (lo := 32 * q) (st := st) (en := en) (i := i) (q := (((q : Int) * 32) + ((i : Nat) : Int)).toNat) (v := x82) (by omega) ?_) ?_
          · first
              | (rw [if_neg (by omega)])
              | (rw [if_pos (by omega), hx82, if_pos (by omega), mI_adM, if_neg (by omega)]; rfl)
              | (exfalso; omega)
          · exact ih (i + 1) (by omega)

set_option maxHeartbeats 4000000 in
theorem z_add (Ms : ML) (le : Nat → Int) (m : Mem) (M : Nat) (st : Int) (en : Int) (a : Nat) (b : Nat) (c : Nat)  (hL : Lay (mT m) (mR m)) (T_M : mT m M = (3, 4)) (R_M_0 : mR m M 0 = some a) (R_M_1 : mR m M 1 = some b) (R_M_2 : mR m M 2 = some c) (T_a : mT m a = (20, 33)) (T_b : mT m b = (20, 33)) (T_c : mT m c = (20, 1056)) (hd : M ≠ a ∧ M ≠ b ∧ M ≠ c ∧ a ≠ b ∧ a ≠ c ∧ b ≠ c ∧ M ≠ 10 ∧ a ≠ 10 ∧ b ≠ 10 ∧ c ≠ 10) (hM : MaC (mI m) M a b c Ms ∧ Ms.length < 33) (hl : ∀ k, k < 32 → mI m 10 k = le k) (hs : 0 ≤ st ∧ st ≤ en ∧ en ≤ 32) : Ct μX3_add 1 [vr M, vi st, vi en, vr 9] m (rv fun m' => ∃ I_ : Nat → Nat → Int, wI m I_ = m' ∧ MaC I_ M a b c (Ms ++ [(st, en, le)]) ∧ ∀ o k, o ≠ M → o ≠ a → o ≠ b → o ≠ c → I_ o k = mI m o k) := by
  refine Ct_of_V rfl (by decide) rfl (Nat.le_of_ble_eq_true rfl) ?_
  show V μX3_add 1 m _ 0 [(0, vr M), (1, vi st), (2, vi en), (3, vr 9)] [] m
  refine V_rg (k := 1) (x := st) rfl fun r_st => ?_
  refine V_rg (k := 2) (x := en) rfl fun r_en => ?_
  refine V_ld (pc := 0) dX3_add_0 (v := vr M) rfl rfl ?_
  refine V_getIv (pc := 1) dX3_add_1 (v := (Ms.length : Int)) fw_RX3_21 rfl T_M hM.1.1 (fun g1 => ?_)
  refine V_st (pc := 4) dX3_add_4 (ls' := [(4, vi (Ms.length : Int)), (0, vr M), (1, vi st), (2, vi en), (3, vr 9)]) rfl (Nat.le_of_ble_eq_true rfl) rfl ?_
  refine V_ld (pc := 6) dX3_add_6 (v := vi (Ms.length : Int)) rfl rfl ?_
  refine V_if_lt (pc := 8) dX3_add_8 (tgt := 18) rfl (fun h8 => ?_) (fun h8 => ?_)
  · skip
    refine V_retv (pc := 18) dX3_add_18 trivial ?_
    exfalso; omega
  · skip
    refine V_ld (pc := 11) dX3_add_11 (v := vi (Ms.length : Int)) rfl rfl ?_
    refine V_bipush (pc := 13) dX3_add_13 (by unfold I32; omega) (by decide) ?_
    refine V_icmp_lt (pc := 15) dX3_add_15 (tgt := 19) rfl (fun h15 => ?_) (fun h15 => ?_)
    · skip
      refine V_ld (pc := 19) dX3_add_19 (v := vr M) rfl rfl ?_
      refine V_dup (pc := 20) dX3_add_20 rfl ?_
      refine V_getIv (pc := 21) dX3_add_21 (v := (Ms.length : Int)) fw_RX3_21 rfl T_M hM.1.1 (fun g21 => ?_)
      refine V_iconst (pc := 24) dX3_add_24 (by unfold I32; omega) ?_
      refine V_iadd (pc := 25) dX3_add_25 (by unfold I32 at *; omega) ?_
      refine V_putI (pc := 26) dX3_add_26 fw_RX3_21 rfl T_M (Or.inl rfl) (Or.inl rfl) ?_
      refine V_ld (pc := 29) dX3_add_29 (v := vr M) rfl rfl ?_
      refine V_getRv (pc := 30) dX3_add_30 (o' := a) fw_RX3_11 rfl T_M R_M_0 ?_
      refine V_ld (pc := 33) dX3_add_33 (v := vi (Ms.length : Int)) rfl rfl ?_
      refine V_ld (pc := 35) dX3_add_35 (v := vi st) rfl rfl ?_
      refine V_iast (pc := 36) dX3_add_36 T_a (by omega) ?_
      refine V_ld (pc := 37) dX3_add_37 (v := vr M) rfl rfl ?_
      refine V_getRv (pc := 38) dX3_add_38 (o' := b) fw_RX3_15 rfl T_M R_M_1 ?_
      refine V_ld (pc := 41) dX3_add_41 (v := vi (Ms.length : Int)) rfl rfl ?_
      refine V_ld (pc := 43) dX3_add_43 (v := vi en) rfl rfl ?_
      refine V_iast (pc := 44) dX3_add_44 T_b (by omega) ?_
      refine V_iconst (pc := 45) dX3_add_45 (by unfold I32; omega) ?_
      refine V_st (pc := 46) dX3_add_46 (ls' := [(5, vi 0), (4, vi (Ms.length : Int)), (0, vr M), (1, vi st), (2, vi en), (3, vr 9)]) rfl (Nat.le_of_ble_eq_true rfl) rfl ?_
      refine V_ls (ls' := [(5, vi ((0 : Nat) : Int)), (4, vi (Ms.length : Int)), (0, vr M), (1, vi st), (2, vi en), (3, vr 9)]) (by intro q_ h_; simp only [List.mem_cons, List.not_mem_nil, or_false] at h_ ⊢; rcases h_ with rfl | rfl | rfl | rfl | rfl | rfl <;> simp) ?_
      refine V_mem (adM_0 (c := c) (lo := 32 * Ms.length) (st := st) (en := en)).symm ?_
      refine L_madd (m := setI (setI (setI m M 3 ((Ms.length : Int) + 1)) a ((Ms.length : Int).toNat) st) b ((Ms.length : Int).toNat) en) (M := M) (c := c) (q := Ms.length) (st := st) (en := en) hL T_M R_M_2 T_c hM.2 (by omega) (by omega) ⟨hs.1, hs.2.2⟩ ?_ 32 0 (by omega)
      refine V_retv (pc := 97) dX3_add_97 trivial ?_
      have el : (Ms.length : Int).toNat = Ms.length := Int.toNat_natCast _
      have r3 : ∀ o k, mI (setI (setI (setI m M 3 ((Ms.length : Int) + 1)) a ((Ms.length : Int).toNat) st) b ((Ms.length : Int).toNat) en) o k = up2 (up2 (up2 (mI m) M 3 ((Ms.length : Int) + 1)) a Ms.length st) b Ms.length en o k := fun o k => by
        show up2 (up2 (up2 (mI m) M 3 ((Ms.length : Int) + 1)) a (Ms.length : Int).toNat st) b (Ms.length : Int).toNat en o k = _
        rw [el]
      have hr : ∀ o k, mI (adM (setI (setI (setI m M 3 ((Ms.length : Int) + 1)) a ((Ms.length : Int).toNat) st) b ((Ms.length : Int).toNat) en) c (32 * Ms.length) st en 32) o k = if o = c ∧ 32 * Ms.length ≤ k ∧ k < 32 * Ms.length + 32 then (if st ≤ ((k - 32 * Ms.length : Nat) : Int) ∧ ((k - 32 * Ms.length : Nat) : Int) < en then mI (setI (setI (setI m M 3 ((Ms.length : Int) + 1)) a ((Ms.length : Int).toNat) st) b ((Ms.length : Int).toNat) en) 10 (k - 32 * Ms.length) else -5) else mI (setI (setI (setI m M 3 ((Ms.length : Int) + 1)) a ((Ms.length : Int).toNat) st) b ((Ms.length : Int).toNat) en) o k := fun _ _ => mI_adM
      refine ⟨mI (adM (setI (setI (setI m M 3 ((Ms.length : Int) + 1)) a ((Ms.length : Int).toNat) st) b ((Ms.length : Int).toNat) en) c (32 * Ms.length) st en 32), rfl, ⟨?_, fun j s e l hj => ?_⟩, fun o k h1 h2 h3 h4 => ?_⟩
      · rw [hr, if_neg (by omega), r3, up2_nx (by omega), up2_nx (by omega), up2_s, List.length_append]
        rfl
      · by_cases ej : j < Ms.length
        · rw [List.getElem?_append_left ej] at hj
          obtain ⟨g1, g2, g3⟩ := hM.1.2 j s e l hj
          refine ⟨?_, ?_, fun r hr2 => ?_⟩
          · rw [hr, if_neg (by omega), r3, up2_nx (by omega), up2_nx (by omega), up2_nx (by omega)]; exact g1
          · rw [hr, if_neg (by omega), r3, up2_nx (by omega), up2_nx (by omega), up2_nx (by omega)]; exact g2
          · rw [hr, if_neg (by omega), r3, up2_nx (by omega), up2_nx (by omega), up2_nx (by omega)]; exact g3 r hr2
        · rw [List.getElem?_append_right (by omega)] at hj
          have e0 : j = Ms.length := by
            by_cases e1 : j - Ms.length = 0
            · omega
            · rw [List.getElem?_eq_none (by simp only [List.length_cons, List.length_nil]; omega)] at hj; cases hj
          subst e0
          rw [Nat.sub_self] at hj
          cases hj
          refine ⟨?_, ?_, fun r hr2 => ?_⟩
          · rw [hr, if_neg (by omega), r3, up2_nx (by omega), up2_s]
          · rw [hr, if_neg (by omega), r3, up2_s]
          · rw [hr, if_pos (by omega), show 32 * Ms.length + r - 32 * Ms.length = r from by omega, r3, up2_nx (by omega), up2_nx (by omega), up2_nx (by omega), hl r hr2]
      · rw [hr, if_neg (by omega), r3, up2_nx (by omega), up2_nx (by omega), up2_nx (by omega)]
    · skip
      refine V_retv (pc := 18) dX3_add_18 trivial ?_
      exfalso; omega
