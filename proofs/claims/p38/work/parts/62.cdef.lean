/-! define(): the class -/
def DM (m : Mem) (n : Nat) : Mem := setR (newO (setR (setR (newO (setI (newO m 1 7) (mN m) 4 (-1)) 23 26) (mN m) 6 (some (mN m + 1))) (mN m) 0 (some 13)) 20 n) (mN m) 1 (some (mN m + 2))
theorem DM_ext {m : Mem} {n : Nat} : Ext m (DM m n) := Ext.setR (Ext.tr (Ext.setR (Ext.setR (Ext.tr (Ext.setI Ext.new (Nat.le_refl _)) Ext.new) (Nat.le_refl _)) (Nat.le_refl _)) Ext.new) (Nat.le_refl _)
theorem DM_lay {m : Mem} {n : Nat} (h : 59 ≤ mN m) (hn : n ≤ 120) : QLay (DM m n) (mN m) n := by
  have e1 : mN (setI (newO m 1 7) (mN m) 4 (-1)) = mN m + 1 := rfl
  have e2 : mN (setR (setR (newO (setI (newO m 1 7) (mN m) 4 (-1)) 23 26) (mN m) 6 (some (mN m + 1))) (mN m) 0 (some 13)) = mN m + 2 := rfl
  refine ⟨⟨h, hn⟩, ?_, ?_, ?_, ?_, ?_, ?_⟩
  · show mT (newO (setR (setR (newO (setI (newO m 1 7) (mN m) 4 (-1)) 23 26) (mN m) 6 (some (mN m + 1))) (mN m) 0 (some 13)) 20 n) (mN m) = _
    rw [mT_newne (M := (setR (setR (newO (setI (newO m 1 7) (mN m) 4 (-1)) 23 26) (mN m) 6 (some (mN m + 1))) (mN m) 0 (some 13))) _ e2 (by omega)]
    show mT (newO (setI (newO m 1 7) (mN m) 4 (-1)) 23 26) (mN m) = _
    rw [mT_newne (M := (setI (newO m 1 7) (mN m) 4 (-1))) _ e1 (by omega)]; exact mT_news rfl
  · rw [show mR (DM m n) (mN m) 0 = mR (newO (setR (setR (newO (setI (newO m 1 7) (mN m) 4 (-1)) 23 26) (mN m) 6 (some (mN m + 1))) (mN m) 0 (some 13)) 20 n) (mN m) 0 from mR_setne (by omega), mR_newne (M := (setR (setR (newO (setI (newO m 1 7) (mN m) 4 (-1)) 23 26) (mN m) 6 (some (mN m + 1))) (mN m) 0 (some 13))) _ e2 (by omega)]; exact mR_sets
  · exact mR_sets
  · rw [show mR (DM m n) (mN m) 6 = mR (newO (setR (setR (newO (setI (newO m 1 7) (mN m) 4 (-1)) 23 26) (mN m) 6 (some (mN m + 1))) (mN m) 0 (some 13)) 20 n) (mN m) 6 from mR_setne (by omega), mR_newne (M := (setR (setR (newO (setI (newO m 1 7) (mN m) 4 (-1)) 23 26) (mN m) 6 (some (mN m + 1))) (mN m) 0 (some 13))) _ e2 (by omega)]; exact (mR_setne (by omega)).trans mR_sets
  · show mT (newO (setR (setR (newO (setI (newO m 1 7) (mN m) 4 (-1)) 23 26) (mN m) 6 (some (mN m + 1))) (mN m) 0 (some 13)) 20 n) (mN m + 1) = _
    rw [mT_newne (M := (setR (setR (newO (setI (newO m 1 7) (mN m) 4 (-1)) 23 26) (mN m) 6 (some (mN m + 1))) (mN m) 0 (some 13))) _ e2 (by omega)]
    exact mT_news (M := (setI (newO m 1 7) (mN m) 4 (-1))) e1
  · exact mT_news (M := (setR (setR (newO (setI (newO m 1 7) (mN m) 4 (-1)) 23 26) (mN m) 6 (some (mN m + 1))) (mN m) 0 (some 13))) e2
theorem DM_r {m : Mem} {n : Nat} (k : Nat) : mI (DM m n) (mN m) k = if k = 4 then -1 else 0 := by
  have e1 : mN (setI (newO m 1 7) (mN m) 4 (-1)) = mN m + 1 := rfl
  have e2 : mN (setR (setR (newO (setI (newO m 1 7) (mN m) 4 (-1)) 23 26) (mN m) 6 (some (mN m + 1))) (mN m) 0 (some 13)) = mN m + 2 := rfl
  show mI (newO (setR (setR (newO (setI (newO m 1 7) (mN m) 4 (-1)) 23 26) (mN m) 6 (some (mN m + 1))) (mN m) 0 (some 13)) 20 n) (mN m) k = _
  rw [mI_newne (M := (setR (setR (newO (setI (newO m 1 7) (mN m) 4 (-1)) 23 26) (mN m) 6 (some (mN m + 1))) (mN m) 0 (some 13))) _ e2 (by omega)]
  show mI (newO (setI (newO m 1 7) (mN m) 4 (-1)) 23 26) (mN m) k = _
  rw [mI_newne (M := (setI (newO m 1 7) (mN m) 4 (-1))) _ e1 (by omega)]
  by_cases c : k = 4
  · rw [if_pos c, c]; exact mI_sets
  · rw [if_neg c, mI_setne (by omega)]; exact mI_news rfl
theorem DM_DQ {m : Mem} {n : Nat} {tx : Nat → Int} (h59 : 59 ≤ mN m) (h1 : mI m 13 1 = (n : Int)) (hn : n ≤ 120) (htx : ∀ k, k < n → mI m 14 k = tx k ∧ 1 ≤ tx k ∧ tx k ≤ 127) : DQ (mI (DM m n)) (mN m) tx n (true, 0) [] := by
  have hE := DM_ext (m := m) (n := n)
  refine ⟨?_, ?_, ?_, ?_, Nat.zero_le _, hn, fun k hk => ?_, fun k x hx => by simp at hx, rfl, h59⟩
  · rw [(hE.2.2 13 (by omega)).2.2]; exact h1
  · rw [DM_r, if_neg (by decide)]; rfl
  · rw [DM_r, if_pos rfl]
  · rw [DM_r, if_neg (by decide)]; rfl
  · rw [(hE.2.2 14 (by omega)).2.2]; exact htx k hk
theorem DM_St {m : Mem} {n : Nat} : StC (DM m n) (mN m) [] := by
  refine ⟨by rw [DM_r, if_neg (by decide)]; exact Int.le_refl _, by rw [DM_r, if_neg (by decide)]; decide, fun w hw => ?_⟩
  show (mI (DM m n) (mN m) 5).toNat.testBit w = false
  rw [DM_r, if_neg (by decide)]
  exact Nat.zero_testBit w
theorem bit_is {x : Int} {l : Nat} (hx : 0 ≤ x ∧ x < 67108864) (hl : l < 26) : and32 (shr32 x (l : Int)) 1 = if x.toNat.testBit l = true then 1 else 0 := by
  have hs : ∀ l : Fin 26, ((Int32.ofInt (l.val : Int) &&& 31).toBitVec.smod 32).toNat = l.val := by decide +kernel
  have e : shr32 x (l : Int) = ((x.toNat / 2 ^ l : Nat) : Int) := by
    unfold shr32
    have e1 : (Int32.ofInt x >>> (Int32.ofInt (l : Int) &&& 31)) = nI (x.toNat / 2 ^ l) := by
      have h := pk_shrN (n := x.toNat) (by omega) (Int32.ofInt (l : Int) &&& 31) l (hs ⟨l, hl⟩)
      rw [← h]
      congr 1
      show Int32.ofInt x = Int32.ofNat x.toNat
      rw [← Int32.toBitVec_inj]
      show BitVec.ofInt 32 x = BitVec.ofNat 32 x.toNat
      rw [← BitVec.ofInt_natCast, Int.toNat_of_nonneg hx.1]
    have hd : x.toNat / 2 ^ l ≤ x.toNat := Nat.div_le_self _ _
    generalize x.toNat / 2 ^ l = z at *
    rw [e1]
    have e2 : (nI z).toBitVec.toNat = z := by
      show (BitVec.ofNat 32 z).toNat = _
      rw [BitVec.toNat_ofNat]
      omega
    rw [i32_nat (by rw [e2]; omega), e2]
  have hd : x.toNat / 2 ^ l ≤ x.toNat := Nat.div_le_self _ _
  rw [e, Nat.testBit_eq_decide_div_mod_eq]
  generalize x.toNat / 2 ^ l = z at *
  rw [and32_nat (by omega) (by omega), Int.toNat_natCast]
  rw [show (1 : Int).toNat = 1 from rfl, Nat.and_one_is_mod]
  by_cases c : z % 2 = 1
  · rw [c]; simp
  · have : z % 2 = 0 := by omega
    rw [this]; simp
def cpC (m : Mem) (r i : Nat) : Mem := wR m (fun o k => if o = 4 ∧ k < i ∧ (mI m r 5).toNat.testBit k = true then mR m (r + 1) k else mR m o k)
theorem cpC_0 {m : Mem} {r : Nat} : cpC m r 0 = m := by
  have h : (fun o k => if o = 4 ∧ k < 0 ∧ (mI m r 5).toNat.testBit k = true then mR m (r + 1) k else mR m o k) = mR m := by
    funext o k; exact if_neg (by omega)
  unfold cpC; rw [h]; rfl
theorem cpC_y {m : Mem} {r i : Nat} (hb : (mI m r 5).toNat.testBit i = true) : setR (cpC m r i) 4 i (mR m (r + 1) i) = cpC m r (i + 1) := by
  have h : up2 (mR (cpC m r i)) 4 i (mR m (r + 1) i) = fun o k => if o = 4 ∧ k < i + 1 ∧ (mI m r 5).toNat.testBit k = true then mR m (r + 1) k else mR m o k := by
    funext o k
    unfold up2
    by_cases c : o = 4 ∧ k = i
    · rw [if_pos c, if_pos ⟨c.1, by omega, by rw [c.2]; exact hb⟩, c.2]
    · rw [if_neg c]
      show (if o = 4 ∧ k < i ∧ (mI m r 5).toNat.testBit k = true then mR m (r + 1) k else mR m o k) = _
      by_cases d : o = 4 ∧ k < i ∧ (mI m r 5).toNat.testBit k = true
      · rw [if_pos d, if_pos ⟨d.1, by omega, d.2.2⟩]
      · rw [if_neg d, if_neg (fun z => d ⟨z.1, by omega, z.2.2⟩)]
  unfold setR; rw [h]; rfl
theorem cpC_n {m : Mem} {r i : Nat} (hb : ¬ (mI m r 5).toNat.testBit i = true) : cpC m r i = cpC m r (i + 1) := by
  have h : (fun o k => if o = 4 ∧ k < i ∧ (mI m r 5).toNat.testBit k = true then mR m (r + 1) k else mR m o k) = fun o k => if o = 4 ∧ k < i + 1 ∧ (mI m r 5).toNat.testBit k = true then mR m (r + 1) k else mR m o k := by
    funext o k
    by_cases c : k = i
    · subst c
      rw [if_neg (fun z => hb z.2.2), if_neg (fun z => hb z.2.2)]
    · by_cases d : o = 4 ∧ k < i ∧ (mI m r 5).toNat.testBit k = true
      · rw [if_pos d, if_pos ⟨d.1, by omega, d.2.2⟩]
      · rw [if_neg d, if_neg (fun z => d ⟨z.1, by omega, z.2.2⟩)]
  unfold cpC; rw [h]

set_option maxHeartbeats 8000000 in
theorem L_hand {F : Nat} {m0 m : Mem} {post : Option AV → Mem → Prop} {r n : Nat} {x2 : Int} (hL : Lay (mT m) (mR m)) (hQ : QLay m r n) (hn : 0 ≤ mI m r 5 ∧ mI m r 5 < 67108864) (hT : ∀ k o', k < 26 → (mI m r 5).toNat.testBit k = true → mR m (r + 1) k = some o' → mT m o' = (0, 1)) (kx : V μX10_define F m0 post 78 [(3, vi 26), (2, vi x2), (1, vr r), (0, vr 0)] [] (cpC m r 26)) : ∀ (d i : Nat), d + i = 26 → V μX10_define F m0 post 39 [(3, vi (i : Int)), (2, vi x2), (1, vr r), (0, vr 0)] [] (cpC m r i) := by
  have h59 := hQ.1.1
  have hLc : ∀ i, Lay (mT (cpC m r i)) (mR (cpC m r i)) := by
    intro i
    refine ⟨hL.1, fun p hp => ?_⟩
    have hne : ∀ q ∈ layR, q.1.1 ≠ 4 := by decide
    have h_ := hL.2 p hp
    rw [← h_]
    exact if_neg (fun z => hne p hp z.1)
  intro d
  induction d with
  | zero =>
    intro i hi
    obtain rfl : i = 26 := by omega
    have hLi := hLc 26
    refine V_ld (pc := 39) dX10_define_39 (v := vi ((26 : Nat) : Int)) rfl rfl ?_
    refine V_bipush (pc := 40) dX10_define_40 (by unfold I32; omega) (by decide) ?_
    refine V_icmp_ge (pc := 42) dX10_define_42 (tgt := 78) rfl (fun h42 => ?_) (fun h42 => ?_)
    · skip
      skip
      exact kx
    · skip
      exfalso; omega
  | succ d ih =>
    intro i hi
    have hLi := hLc i
    refine V_ld (pc := 39) dX10_define_39 (v := vi (i : Int)) rfl rfl ?_
    refine V_bipush (pc := 40) dX10_define_40 (by unfold I32; omega) (by decide) ?_
    refine V_icmp_ge (pc := 42) dX10_define_42 (tgt := 78) rfl (fun h42 => ?_) (fun h42 => ?_)
    · skip
      exfalso; omega
    · skip
      refine V_ld (pc := 45) dX10_define_45 (v := vr r) rfl rfl ?_
      refine V_getIv (pc := 46) dX10_define_46 (v := mI m r 5) fw_RX10_118 rfl hQ.2.1 rfl (fun g46 => ?_)
      refine V_ld (pc := 49) dX10_define_49 (v := vi (i : Int)) rfl rfl ?_
      refine V_ishr (pc := 50) dX10_define_50 ?_
      refine V_iconst (pc := 51) dX10_define_51 (by unfold I32; omega) ?_
      refine V_iand (pc := 52) dX10_define_52 ?_
      refine V_iconst (pc := 53) dX10_define_53 (by unfold I32; omega) ?_
      refine V_icmp_ne (pc := 54) dX10_define_54 (tgt := 72) rfl (fun h54 => ?_) (fun h54 => ?_)
      · skip
        skip
        refine V_iinc (pc := 72) dX10_define_72 (x := (i : Int)) (ls' := [(3, vi ((i : Int) + 1)), (2, vi x2), (1, vr r), (0, vr 0)]) rfl (by unfold I32 at *; omega) (Nat.le_of_ble_eq_true rfl) rfl ?_
        refine V_goto (pc := 75) dX10_define_75 (tgt := 39) rfl ?_
        skip
        have hb : ¬ (mI m r 5).toNat.testBit i = true := fun c_ => by rw [bit_is hn (by omega), if_pos c_] at h54; omega
        refine V_mem (cpC_n hb) ?_
        exact ih (i + 1) (by omega)
      · skip
        have hb : (mI m r 5).toNat.testBit i = true := by
          by_cases c_ : (mI m r 5).toNat.testBit i = true
          · exact c_
          · rw [bit_is hn (by omega), if_neg c_] at h54; omega
        refine V_ld (pc := 57) dX10_define_57 (v := vr 0) rfl rfl ?_
        refine V_getRv (pc := 58) dX10_define_58 (o' := 1) fw_RX10_12 rfl hLi.t0 hLi.r0_0 ?_
        refine V_getRv (pc := 61) dX10_define_61 (o' := 4) fw_RX10_121 rfl hLi.t1 hLi.r1_1 ?_
        refine V_ld (pc := 64) dX10_define_64 (v := vi (i : Int)) rfl rfl ?_
        refine V_ld (pc := 65) dX10_define_65 (v := vr r) rfl rfl ?_
        refine V_getRv (pc := 66) dX10_define_66 (o' := (r + 1)) fw_RX10_125 rfl hQ.2.1 ((if_neg (by omega)).trans hQ.2.2.2.2.1) ?_
        refine V_ld (pc := 69) dX10_define_69 (v := vi (i : Int)) rfl rfl ?_
        refine V_aaldv (pc := 70) dX10_define_70 (q := (mR m (r + 1) i)) hQ.2.2.2.2.2.1 (by decide) (by omega) (if_neg (by omega)) ?_
        refine V_aast (pc := 71) dX10_define_71 hLi.t4 (Or.inr ⟨rfl, rfl⟩) (by omega) (fun o_ h_ => hT i o_ (by omega) hb h_) ?_
        skip
        refine V_iinc (pc := 72) dX10_define_72 (x := (i : Int)) (ls' := [(3, vi ((i : Int) + 1)), (2, vi x2), (1, vr r), (0, vr 0)]) rfl (by unfold I32 at *; omega) (Nat.le_of_ble_eq_true rfl) rfl ?_
        refine V_goto (pc := 75) dX10_define_75 (tgt := 39) rfl ?_
        skip
        refine V_mem (cpC_y hb) ?_
        exact ih (i + 1) (by omega)

def DefC (m : Mem) (M n : Nat) (tx : Nat → Int) (x : Int) (m' : Mem) : Prop := mN m ≤ mN m' ∧ mN m' ≤ mN m + 85 ∧ mZ m' ≤ mZ m + 5114 ∧ (∀ o, o < mN m → mT m' o = mT m o) ∧ mI m' 13 1 = 0 ∧ (∀ o k, o < mN m → ¬ (o = 13 ∧ k = 1) → ¬ (o = M ∧ k = 3) → mI m' o k = mI m o k) ∧ (∀ o k, o < mN m → o ≠ 4 → mR m' o k = mR m o k) ∧
  ((¬ ((defL tx n (n + 1) (true, 0)).2.1 = true ∧ (defL tx n (n + 1) (true, 0)).2.2 = n) ∧ x = -100 - ((defL tx n (n + 1) (true, 0)).2.2 : Int) ∧ (∀ k, mR m' 4 k = mR m 4 k) ∧ mI m' M 3 = mI m M 3) ∨
   (((defL tx n (n + 1) (true, 0)).2.1 = true ∧ (defL tx n (n + 1) (true, 0)).2.2 = n) ∧ x = ((defL tx n (n + 1) (true, 0)).1.length : Int) ∧ mI m' M 3 = 0 ∧ ∀ w : Nat, w < 26 → match lastP (defL tx n (n + 1) (true, 0)).1 (w : Int) with
     | none => mR m' 4 w = mR m 4 w
     | some p => CdAt m' 4 w p.2.2.2))
theorem HasG.cm {m m' : Mem} {lo c : Nat} {cd : List Int} (h : HasG m lo c cd) (hl : 59 ≤ lo) (hN : mN m ≤ mN m') (hT : ∀ o, lo ≤ o → mT m' o = mT m o) (hR : ∀ o k, lo ≤ o → mR m' o k = mR m o k) (hI : ∀ o k, lo ≤ o → mI m' o k = mI m o k) : HasC m' c cd := by
  obtain ⟨A, h1, h2, h3, h4, h5, h6, h7, h8, h9⟩ := h
  exact ⟨A, (hT c h4).trans h1, (hR c 0 h4).trans h2, (hT A h5).trans h3, by omega, by omega, by omega, by omega, fun k x hx => (hI A k h5).trans (h8 k x hx), h9⟩

theorem defL_at (tx : Nat → Int) (n : Nat) : ∀ (f : Nat) (S : CS), S.2 ≤ n → (defL tx n f S).2.2 ≤ n
  | 0, S, h => h
  | f + 1, S, h => by
    have e : defL tx n (f + 1) S = (if (dR tx n S).2.2.1 = true then (if dNx tx n (dR tx n S).2.2 then (dPt tx n S :: (defL tx n f (cAdv (dR tx n S).2.2)).1, (defL tx n f (cAdv (dR tx n S).2.2)).2) else ([dPt tx n S], (dR tx n S).2.2)) else ([], (dR tx n S).2.2)) := rfl
    have hb := (dR_ni tx n S).1.1 h
    rw [e]
    by_cases c : (dR tx n S).2.2.1 = true
    · rw [if_pos c]
      by_cases d : dNx tx n (dR tx n S).2.2
      · rw [if_pos d]; exact defL_at tx n f _ d.2.1
      · rw [if_neg d]; exact hb
    · rw [if_neg c]; exact hb

set_option maxHeartbeats 16000000 in
theorem c_define (tx : Nat → Int) (n : Nat) (m : Mem)  (M : Nat)  (hL : Lay (mT m) (mR m)) (R_1_3 : mR m 1 3 = some M) (T_M : mT m M = (3, 4)) (hM : M = 5 ∨ M = 18) (ht : mI m 13 1 = (n : Int) ∧ n ≤ 120) (htx : ∀ k, k < n → mI m 14 k = tx k ∧ 1 ≤ tx k ∧ tx k ≤ 127) (hr : 59 ≤ mN m ∧ mN m + 85 ≤ NN ∧ mZ m + 5114 ≤ ZZ) : Ct μX10_define 22 [vr 0] m (ri fun x_ m' => (True) ∧ DefC m M n tx x_ m') := by
  refine Ct_of_V rfl (by decide) rfl (Nat.le_of_ble_eq_true rfl) ?_
  show V μX10_define 22 m _ 0 [(0, vr 0)] [] m
  refine V_newv (pc := 0) (mN m) rfl dX10_define_0 nw_RX10_112 (by omega) (by show mZ m + 7 ≤ ZZ; omega) ?_
  refine V_dup (pc := 3) dX10_define_3 rfl ?_
  refine V_ld (pc := 4) dX10_define_4 (v := vr 0) rfl rfl ?_
  refine V_getRv (pc := 5) dX10_define_5 (o' := 13) fw_RX10_30 rfl ((mT_newne (M := m) (c := 1) (n := 7) (o := 0) (mN m) rfl (by omega)).trans hL.t0) ((mR_newne (M := m) (c := 1) (n := 7) (o := 0) (mN m) rfl (by omega)).trans hL.r0_2) ?_
  refine V_callI (pc := 8) dX10_define_8 (F' := 1) (As := [vr 13]) (st := [vr (mN m)]) cw_RX10_114 rfl rfl (Nat.le_of_ble_eq_true rfl) (by omega) (d_CR_init n (newO m 1 7) (mN m)   (mT_news (M := m) rfl) ((mT_newne (M := m) (c := 1) (n := 7) (o := 13) (mN m) rfl (by omega)).trans hL.t13) ⟨(mI_newne (mN m) rfl (by omega)).trans ht.1, ht.2, by omega, Nat.lt_succ_self _, by show mN m + 1 + 2 ≤ NN; omega, by show mZ m + 7 + 26 + n ≤ ZZ; omega⟩) ?_
  rintro _ _ ⟨rfl, rfl⟩ ok8 le8
  refine V_mem (m' := DM m n) rfl ?_
  have hL2 : Lay (mT (DM m n)) (mR (DM m n)) := Lay.ext hL hr.1 DM_ext
  have hQ : QLay (DM m n) (mN m) n := DM_lay hr.1 ht.2
  have hP0 := DM_DQ (tx := tx) hr.1 ht.1 ht.2 htx
  have hE := DM_ext (m := m) (n := n)
  have hNm : mN (DM m n) = mN m + 3 := rfl
  have hZm : mZ (DM m n) = mZ m + 7 + 26 + n := rfl
  refine V_st (pc := 11) dX10_define_11 (ls' := [(1, vr (mN m)), (0, vr 0)]) rfl (Nat.le_of_ble_eq_true rfl) rfl ?_
  refine V_ld (pc := 12) dX10_define_12 (v := vr (mN m)) rfl rfl ?_
  refine V_callV (pc := 13) dX10_define_13 (F' := 21) (As := []) (st := []) cw_RX10_115 rfl rfl hQ.2.1 (by decide) (Nat.le_of_ble_eq_true rfl) (by omega) (d_read tx n (DM m n) (mN m)   hL2 hQ hP0 DM_St ⟨by omega, by omega, by omega, ht.2⟩) ?_
  rintro _ m13 ⟨x13, rfl, hx13, ⟨hC13, hN13, hZ13, h13⟩⟩ ok13 le13
  have hL3 : Lay (mT m13) (mR m13) := Lay.frc hL2 hC13 (by omega)
  have hQ3 : QLay m13 (mN m) n := QLay.fr hQ hC13 (by omega)
  have hrel : (∀ o, o < mN m → mT m13 o = mT m o) ∧ (∀ o k, o < mN m → mI m13 o k = mI m o k) ∧ ∀ o k, o < mN m → mR m13 o k = mR m o k := ⟨fun o ho => (hC13.2.2.1 o (by omega)).trans (hE.2.2 o ho).1, fun o k ho => (hC13.2.2.2.2 o k (by omega) (by omega) (by omega)).trans ((hE.2.2 o ho).2.2 k), fun o k ho => (hC13.2.2.2.1 o k (by omega) (by omega)).trans ((hE.2.2 o ho).2.1 k)⟩
  have hDn : (defL tx n (n + 1) (true, 0)).2.2 ≤ 120 ∨ True := Or.inr trivial
  refine V_st (pc := 16) dX10_define_16 (ls' := [(2, vi x13), (1, vr (mN m)), (0, vr 0)]) rfl (Nat.le_of_ble_eq_true rfl) rfl ?_
  refine V_ld (pc := 17) dX10_define_17 (v := vr 0) rfl rfl ?_
  refine V_getRv (pc := 18) dX10_define_18 (o' := 13) fw_RX10_30 rfl hL3.t0 hL3.r0_2 ?_
  refine V_callV (pc := 21) dX10_define_21 (F' := 0) (As := []) (st := []) cw_RX10_87 rfl rfl hL3.t13 (by decide) (Nat.le_of_ble_eq_true rfl) (by omega) (c_Text_empty  m13 13   hL3.t13) ?_
  rintro _ _ ⟨x21, rfl, hx21, rfl⟩ ok21 le21
  refine V_pop (pc := 24) dX10_define_24 rfl ?_
  refine V_ld (pc := 25) dX10_define_25 (v := vi x13) rfl rfl ?_
  refine V_if_ge (pc := 26) dX10_define_26 (tgt := 37) rfl (fun h26 => ?_) (fun h26 => ?_)
  · skip
    refine V_iconst (pc := 37) dX10_define_37 (by unfold I32; omega) ?_
    refine V_st (pc := 38) dX10_define_38 (ls' := [(3, vi 0), (2, vi x13), (1, vr (mN m)), (0, vr 0)]) rfl (Nat.le_of_ble_eq_true rfl) rfl ?_
    have hRc : ∀ o k, o ≠ 4 → mR (cpC (setI m13 13 1 0) (mN m) 26) o k = mR (setI m13 13 1 0) o k := fun o k h => if_neg (fun z => h z.1)
    have hgood := h13.resolve_right (fun z => by have z1 := z.2.1; omega)
    obtain ⟨hok, hxx, hst⟩ := hgood
    rw [List.nil_append] at hxx hst
    have h5_ : mI (setI m13 13 1 0) (mN m) 5 = mI m13 (mN m) 5 := mI_setne (by omega)
    have hb5 : 0 ≤ mI (setI m13 13 1 0) (mN m) 5 ∧ mI (setI m13 13 1 0) (mN m) 5 < 67108864 := by rw [h5_]; exact ⟨hst.1, hst.2.1⟩
    have hTc : ∀ k o', k < 26 → (mI (setI m13 13 1 0) (mN m) 5).toNat.testBit k = true → mR (setI m13 13 1 0) (mN m + 1) k = some o' → mT (setI m13 13 1 0) o' = (0, 1) := by
      intro k o' hk hb ho
      rw [h5_] at hb
      have hs := hst.2.2 k hk
      cases e : lastP (defL tx n (n + 1) (true, 0)).1 (k : Int) with
      | none => rw [e] at hs; have hs' : (mI m13 (mN m) 5).toNat.testBit k = false := hs; rw [hs'] at hb; cases hb
      | some p =>
        rw [e] at hs
        obtain ⟨-, hs2, hs3⟩ := hs
        have ho' : mR m13 (mN m + 1) k = some o' := ho
        cases eq : p.2.2.2 with
        | none => rw [hs2 eq] at ho'; cases ho'
        | some cd =>
          obtain ⟨c, hc1, A, hc2, -⟩ := hs3 cd eq
          rw [hc1] at ho'
          cases Option.some.inj ho'
          exact hc2
    refine V_mem (cpC_0 (r := mN m)).symm ?_
    refine V_ls (ls' := [(3, vi ((0 : Nat) : Int)), (2, vi x13), (1, vr (mN m)), (0, vr 0)]) (by intro q_ h_; simp only [List.mem_cons, List.not_mem_nil, or_false] at h_ ⊢; rcases h_ with rfl | rfl | rfl | rfl <;> simp) ?_
    refine L_hand (m := setI m13 13 1 0) (r := mN m) (n := n) (x2 := x13) hL3 hQ3 hb5 hTc ?_ 26 0 (by omega)
    refine V_ld (pc := 78) dX10_define_78 (v := vr 0) rfl rfl ?_
    refine V_getRv (pc := 79) dX10_define_79 (o' := 1) fw_RX10_12 rfl hL3.t0 ((hRc _ _ (by omega)).trans hL3.r0_0) ?_
    refine V_getRv (pc := 82) dX10_define_82 (o' := M) fw_RX10_69 rfl hL3.t1 ((hRc _ _ (by omega)).trans ((hC13.2.2.2.1 1 3 (by omega) (by omega)).trans ((DM_ext.2.2 1 (by omega)).2.1 3 |>.trans R_1_3))) ?_
    refine V_iconst (pc := 85) dX10_define_85 (by unfold I32; omega) ?_
    refine V_putI (pc := 86) dX10_define_86 fw_RX10_72 rfl ((hC13.2.2.1 M (by omega)).trans ((DM_ext.2.2 M (by omega)).1.trans T_M)) (Or.inl rfl) (Or.inl rfl) ?_
    refine V_ld (pc := 89) dX10_define_89 (v := vi x13) rfl rfl ?_
    refine V_reti (pc := 90) dX10_define_90 trivial ?_
    have hR : ∀ o k, mR (setI (cpC (setI m13 13 1 0) (mN m) 26) M 3 0) o k = if o = 4 ∧ k < 26 ∧ (mI (setI m13 13 1 0) (mN m) 5).toNat.testBit k = true then mR (setI m13 13 1 0) (mN m + 1) k else mR (setI m13 13 1 0) o k := fun _ _ => rfl
    have hI : ∀ o k, mI (setI (cpC (setI m13 13 1 0) (mN m) 26) M 3 0) o k = up2 (up2 (mI m13) 13 1 0) M 3 0 o k := fun _ _ => rfl
    refine ⟨trivial, (show mN m ≤ mN m13 from by omega), (show mN m13 ≤ mN m + 85 from by omega), (show mZ m13 ≤ mZ m + 5114 from by omega), fun o ho => hrel.1 o ho, ?_, fun o k ho h1 h2 => ?_, fun o k ho h1 => ?_, Or.inr ⟨hok, hxx, ?_, fun w hw => ?_⟩⟩
    · rw [hI, up2_nx (by omega), up2_s]
    · rw [hI, up2_nx h2, up2_nx h1]; exact hrel.2.1 o k ho
    · rw [hR, if_neg (fun z => h1 z.1)]; exact hrel.2.2 o k ho
    · rw [hI, up2_s]
    · have hs := hst.2.2 w hw
      cases e : lastP (defL tx n (n + 1) (true, 0)).1 (w : Int) with
      | none =>
        rw [e] at hs
        have hs' : (mI m13 (mN m) 5).toNat.testBit w = false := hs
        show mR (setI (cpC (setI m13 13 1 0) (mN m) 26) M 3 0) 4 w = mR m 4 w
        rw [hR, h5_, hs', if_neg (fun z => by cases z.2.2)]
        exact hrel.2.2 4 w (by omega)
      | some p =>
        rw [e] at hs
        obtain ⟨hs1, hs2, hs3⟩ := hs
        have hRw : mR (setI (cpC (setI m13 13 1 0) (mN m) 26) M 3 0) 4 w = mR m13 (mN m + 1) w := by rw [hR, h5_, hs1, if_pos ⟨rfl, hw, rfl⟩]; rfl
        show CdAt (setI (cpC (setI m13 13 1 0) (mN m) 26) M 3 0) 4 w p.2.2.2
        cases eq : p.2.2.2 with
        | none =>
          show mR (setI (cpC (setI m13 13 1 0) (mN m) 26) M 3 0) 4 w = none
          rw [hRw]; exact hs2 eq
        | some cd =>
          obtain ⟨c, hc1, hc2⟩ := hs3 cd eq
          exact ⟨c, hRw.trans hc1, HasG.cm hc2 (by omega) (Nat.le_refl _) (fun _ _ => rfl) (fun o k ho => by rw [hR, if_neg (by omega)]; rfl) (fun o k ho => by rw [hI, up2_nx (by omega), up2_nx (by omega)])⟩
  · skip
    have hbad := h13.resolve_left (fun z => by have z1 := z.2.1; omega)
    have hbn : (defL tx n (n + 1) (true, 0)).2.2 ≤ n := defL_at tx n (n + 1) (true, 0) (Nat.zero_le _)
    refine V_bipush (pc := 29) dX10_define_29 (by unfold I32; omega) (by decide) ?_
    refine V_ld (pc := 31) dX10_define_31 (v := vr (mN m)) rfl rfl ?_
    refine V_getIv (pc := 32) dX10_define_32 (v := ((defL tx n (n + 1) (true, 0)).2.2 : Int)) fw_RX10_117 rfl hQ3.2.1 ((mI_setne (by omega)).trans hbad.2.2) (fun g32 => ?_)
    refine V_isub (pc := 35) dX10_define_35 (by unfold I32 at *; omega) ?_
    refine V_reti (pc := 36) dX10_define_36 trivial ?_
    refine ⟨trivial, (show mN m ≤ mN m13 from by omega), (show mN m13 ≤ mN m + 85 from by omega), (show mZ m13 ≤ mZ m + 5114 from by omega), fun o ho => hrel.1 o ho, mI_sets, fun o k ho h1 h2 => (up2_nx h1).trans (hrel.2.1 o k ho), fun o k ho h1 => hrel.2.2 o k ho, Or.inl ⟨hbad.1, by omega, fun k => hrel.2.2 4 k (by omega), ?_⟩⟩
    exact (mI_setne (by omega)).trans (hrel.2.1 M 3 (by omega))
