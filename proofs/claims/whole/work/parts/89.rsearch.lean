/-! the reference searches: what is told, what is left, tries, kids -/
set_option maxHeartbeats 4000000 in
theorem y_tells (tl : Int) (m : Mem) (p : Int) (far : Int) (bg : Int) (bh : Int)   (hL : Lay (mT m) (mR m)) (ht : mI m 30 33 = tl ∧ 0 ≤ tl ∧ tl < 5030) (hr : 0 ≤ p ∧ p < 250 ∧ 0 ≤ far ∧ far ≤ 5001 ∧ 0 ≤ bg ∧ bg < 64 ∧ -1 ≤ bh ∧ bh ≤ 5030) : Ct μX11_tells 0 [vr 30, vi p, vi far, vi bg, vi bh] m (ri fun x_ m' => (x_ = tl) ∧ setI (setI (setI m 49 tl.toNat (far * 64 + bg)) 50 tl.toNat (p * 8192 + bh + 1)) 30 33 (tl + 1) = m') := by
  refine Ct_of_V rfl (by decide) rfl (Nat.le_of_ble_eq_true rfl) ?_
  show V μX11_tells 0 m _ 0 [(0, vr 30), (1, vi p), (2, vi far), (3, vi bg), (4, vi bh)] [] m
  refine V_rg (k := 1) (x := p) rfl fun r_p => ?_
  refine V_rg (k := 2) (x := far) rfl fun r_far => ?_
  refine V_rg (k := 3) (x := bg) rfl fun r_bg => ?_
  refine V_rg (k := 4) (x := bh) rfl fun r_bh => ?_
  refine V_ld (pc := 0) dX11_tells_0 (v := vr 30) rfl rfl ?_
  refine V_getRv (pc := 1) dX11_tells_1 (o' := 49) fw_RX11_66 rfl hL.t30 hL.r30_31 ?_
  refine V_ld (pc := 4) dX11_tells_4 (v := vr 30) rfl rfl ?_
  refine V_getIv (pc := 5) dX11_tells_5 (v := tl) fw_RX11_267 rfl hL.t30 ht.1 (fun g5 => ?_)
  refine V_ld (pc := 8) dX11_tells_8 (v := vi far) rfl rfl ?_
  refine V_bipush (pc := 9) dX11_tells_9 (by unfold I32; omega) (by decide) ?_
  refine V_imul (pc := 11) dX11_tells_11 (by unfold I32 at *; omega) ?_
  refine V_ld (pc := 12) dX11_tells_12 (v := vi bg) rfl rfl ?_
  refine V_iadd (pc := 13) dX11_tells_13 (by unfold I32 at *; omega) ?_
  refine V_iast (pc := 14) dX11_tells_14 hL.t49 (by omega) ?_
  refine V_ld (pc := 15) dX11_tells_15 (v := vr 30) rfl rfl ?_
  refine V_getRv (pc := 16) dX11_tells_16 (o' := 50) fw_RX11_69 rfl hL.t30 hL.r30_32 ?_
  refine V_ld (pc := 19) dX11_tells_19 (v := vr 30) rfl rfl ?_
  refine V_getIv (pc := 20) dX11_tells_20 (v := tl) fw_RX11_267 rfl hL.t30 (by first | exact ht.1 | (simp only [mI_setI, up2]; repeat (first | exact ht.1 | rw [if_neg (by omega)]))) (fun g20 => ?_)
  refine V_ld (pc := 23) dX11_tells_23 (v := vi p) rfl rfl ?_
  refine V_sipush (pc := 24) dX11_tells_24 (by unfold I32; omega) (by decide) ?_
  refine V_imul (pc := 27) dX11_tells_27 (by unfold I32 at *; omega) ?_
  refine V_ld (pc := 28) dX11_tells_28 (v := vi bh) rfl rfl ?_
  refine V_iadd (pc := 30) dX11_tells_30 (by unfold I32 at *; omega) ?_
  refine V_iconst (pc := 31) dX11_tells_31 (by unfold I32; omega) ?_
  refine V_iadd (pc := 32) dX11_tells_32 (by unfold I32 at *; omega) ?_
  refine V_iast (pc := 33) dX11_tells_33 hL.t50 (by omega) ?_
  refine V_ld (pc := 34) dX11_tells_34 (v := vr 30) rfl rfl ?_
  refine V_dup (pc := 35) dX11_tells_35 rfl ?_
  refine V_getIv (pc := 36) dX11_tells_36 (v := tl) fw_RX11_267 rfl hL.t30 (by first | exact ht.1 | (simp only [mI_setI, up2]; repeat (first | exact ht.1 | rw [if_neg (by omega)]))) (fun g36 => ?_)
  refine V_iconst (pc := 39) dX11_tells_39 (by unfold I32; omega) ?_
  refine V_iadd (pc := 40) dX11_tells_40 (by unfold I32 at *; omega) ?_
  refine V_putI (pc := 41) dX11_tells_41 fw_RX11_267 rfl hL.t30 (Or.inl rfl) (Or.inl rfl) ?_
  refine V_ld (pc := 44) dX11_tells_44 (v := vr 30) rfl rfl ?_
  refine V_getIv (pc := 45) dX11_tells_45 (v := tl + 1) fw_RX11_267 rfl hL.t30 (by first | rfl | (simp only [mI_setI, up2]; repeat (first | rfl | rw [if_neg (by omega)] | rw [if_pos (by omega)]))) (fun g45 => ?_)
  refine V_iconst (pc := 48) dX11_tells_48 (by unfold I32; omega) ?_
  refine V_isub (pc := 49) dX11_tells_49 (by unfold I32 at *; omega) ?_
  refine V_reti (pc := 50) dX11_tells_50 trivial ?_
  exact ⟨by omega, rfl⟩

set_option maxHeartbeats 4000000 in
theorem y_isTry (t : Int) (may : Int) (m : Mem)    (hL : Lay (mT m) (mR m)) (ht : mI m 30 39 = t ∧ 0 ≤ t ∧ t ≤ 5000) (hy : mI m 31 3335 = may) : Ct μX11_isTry 0 [vr 30] m (ri fun x_ m' => ((t = may) ∧ (x_ = 0) ∧ setI m 30 44 1 = m') ∨ ((¬ t = may) ∧ (x_ = 1) ∧ setI m 30 39 (t + 1) = m')) := by
  refine Ct_of_V rfl (by decide) rfl (Nat.le_of_ble_eq_true rfl) ?_
  show V μX11_isTry 0 m _ 0 [(0, vr 30)] [] m
  refine V_ld (pc := 0) dX11_isTry_0 (v := vr 30) rfl rfl ?_
  refine V_getIv (pc := 1) dX11_isTry_1 (v := t) fw_RX11_270 rfl hL.t30 ht.1 (fun g1 => ?_)
  refine V_ld (pc := 4) dX11_isTry_4 (v := vr 30) rfl rfl ?_
  refine V_getRv (pc := 5) dX11_isTry_5 (o' := 31) fw_RX11_9 rfl hL.t30 hL.r30_0 ?_
  refine V_sipush (pc := 8) dX11_isTry_8 (by unfold I32; omega) (by decide) ?_
  refine V_ialdv (pc := 11) dX11_isTry_11 (v := may) hL.t31 (by omega) hy (fun g11 => ?_)
  refine V_icmp_ne (pc := 12) dX11_isTry_12 (tgt := 22) rfl (fun h12 => ?_) (fun h12 => ?_)
  · skip
    refine V_ld (pc := 22) dX11_isTry_22 (v := vr 30) rfl rfl ?_
    refine V_dup (pc := 23) dX11_isTry_23 rfl ?_
    refine V_getIv (pc := 24) dX11_isTry_24 (v := t) fw_RX11_270 rfl hL.t30 ht.1 (fun g24 => ?_)
    refine V_iconst (pc := 27) dX11_isTry_27 (by unfold I32; omega) ?_
    refine V_iadd (pc := 28) dX11_isTry_28 (by unfold I32 at *; omega) ?_
    refine V_putI (pc := 29) dX11_isTry_29 fw_RX11_270 rfl hL.t30 (Or.inl rfl) (Or.inl rfl) ?_
    refine V_iconst (pc := 32) dX11_isTry_32 (by unfold I32; omega) ?_
    refine V_reti (pc := 33) dX11_isTry_33 (show _ = (0 : Int) ∨ _ = (1 : Int) from by first | exact Or.inl rfl | exact Or.inr rfl | omega) ?_
    first | exact (Or.inl ⟨by omega, by omega, rfl⟩) | exact (Or.inr ⟨by omega, by omega, rfl⟩)
  · skip
    refine V_ld (pc := 15) dX11_isTry_15 (v := vr 30) rfl rfl ?_
    refine V_iconst (pc := 16) dX11_isTry_16 (by unfold I32; omega) ?_
    refine V_putI (pc := 17) dX11_isTry_17 fw_RX11_273 rfl hL.t30 (Or.inl rfl) (Or.inr ⟨rfl, by first | exact Or.inl rfl | exact Or.inr rfl | omega⟩) ?_
    refine V_iconst (pc := 20) dX11_isTry_20 (by unfold I32; omega) ?_
    refine V_reti (pc := 21) dX11_isTry_21 (show _ = (0 : Int) ∨ _ = (1 : Int) from by first | exact Or.inl rfl | exact Or.inr rfl | omega) ?_
    first | exact (Or.inl ⟨by omega, by omega, rfl⟩) | exact (Or.inr ⟨by omega, by omega, rfl⟩)

set_option maxHeartbeats 4000000 in
theorem y_leaves (tl : Int) (ch : Int) (he : Int) (m : Mem) (p : Int) (far : Int) (bh : Int)   (hL : Lay (mT m) (mR m)) (ht : mI m 30 33 = tl ∧ 0 ≤ tl ∧ tl < 5030) (hc : mI m 30 38 = ch ∧ 0 ≤ ch ∧ ch < 5010) (hh : mI m 30 40 = he) (hr : -1 ≤ bh ∧ bh ≤ 5030) : Ct μX11_leaves 0 [vr 30, vi p, vi far, vi bh] m (rv fun m' => setI (setI (setI (setI (setI m 51 ch.toNat p) 52 ch.toNat far) 53 ch.toNat ((bh + 1) * 8192 + tl)) 54 ch.toNat he) 30 38 (ch + 1) = m') := by
  refine Ct_of_V rfl (by decide) rfl (Nat.le_of_ble_eq_true rfl) ?_
  show V μX11_leaves 0 m _ 0 [(0, vr 30), (1, vi p), (2, vi far), (3, vi bh)] [] m
  refine V_rg (k := 1) (x := p) rfl fun r_p => ?_
  refine V_rg (k := 2) (x := far) rfl fun r_far => ?_
  refine V_rg (k := 3) (x := bh) rfl fun r_bh => ?_
  refine V_ld (pc := 0) dX11_leaves_0 (v := vr 30) rfl rfl ?_
  refine V_getRv (pc := 1) dX11_leaves_1 (o' := 51) fw_RX11_72 rfl hL.t30 hL.r30_34 ?_
  refine V_ld (pc := 4) dX11_leaves_4 (v := vr 30) rfl rfl ?_
  refine V_getIv (pc := 5) dX11_leaves_5 (v := ch) fw_RX11_276 rfl hL.t30 hc.1 (fun g5 => ?_)
  refine V_ld (pc := 8) dX11_leaves_8 (v := vi p) rfl rfl ?_
  refine V_iast (pc := 9) dX11_leaves_9 hL.t51 (by omega) ?_
  refine V_ld (pc := 10) dX11_leaves_10 (v := vr 30) rfl rfl ?_
  refine V_getRv (pc := 11) dX11_leaves_11 (o' := 52) fw_RX11_75 rfl hL.t30 hL.r30_35 ?_
  refine V_ld (pc := 14) dX11_leaves_14 (v := vr 30) rfl rfl ?_
  refine V_getIv (pc := 15) dX11_leaves_15 (v := ch) fw_RX11_276 rfl hL.t30 (by first | exact hc.1 | (simp only [mI_setI, up2]; repeat (first | exact hc.1 | rw [if_neg (by omega)]))) (fun g15 => ?_)
  refine V_ld (pc := 18) dX11_leaves_18 (v := vi far) rfl rfl ?_
  refine V_iast (pc := 19) dX11_leaves_19 hL.t52 (by omega) ?_
  refine V_ld (pc := 20) dX11_leaves_20 (v := vr 30) rfl rfl ?_
  refine V_getRv (pc := 21) dX11_leaves_21 (o' := 53) fw_RX11_78 rfl hL.t30 hL.r30_36 ?_
  refine V_ld (pc := 24) dX11_leaves_24 (v := vr 30) rfl rfl ?_
  refine V_getIv (pc := 25) dX11_leaves_25 (v := ch) fw_RX11_276 rfl hL.t30 (by first | exact hc.1 | (simp only [mI_setI, up2]; repeat (first | exact hc.1 | rw [if_neg (by omega)]))) (fun g25 => ?_)
  refine V_ld (pc := 28) dX11_leaves_28 (v := vi bh) rfl rfl ?_
  refine V_iconst (pc := 29) dX11_leaves_29 (by unfold I32; omega) ?_
  refine V_iadd (pc := 30) dX11_leaves_30 (by unfold I32 at *; omega) ?_
  refine V_sipush (pc := 31) dX11_leaves_31 (by unfold I32; omega) (by decide) ?_
  refine V_imul (pc := 34) dX11_leaves_34 (by unfold I32 at *; omega) ?_
  refine V_ld (pc := 35) dX11_leaves_35 (v := vr 30) rfl rfl ?_
  refine V_getIv (pc := 36) dX11_leaves_36 (v := tl) fw_RX11_267 rfl hL.t30 (by first | exact ht.1 | (simp only [mI_setI, up2]; repeat (first | exact ht.1 | rw [if_neg (by omega)]))) (fun g36 => ?_)
  refine V_iadd (pc := 39) dX11_leaves_39 (by unfold I32 at *; omega) ?_
  refine V_iast (pc := 40) dX11_leaves_40 hL.t53 (by omega) ?_
  refine V_ld (pc := 41) dX11_leaves_41 (v := vr 30) rfl rfl ?_
  refine V_getRv (pc := 42) dX11_leaves_42 (o' := 54) fw_RX11_81 rfl hL.t30 hL.r30_37 ?_
  refine V_ld (pc := 45) dX11_leaves_45 (v := vr 30) rfl rfl ?_
  refine V_getIv (pc := 46) dX11_leaves_46 (v := ch) fw_RX11_276 rfl hL.t30 (by first | exact hc.1 | (simp only [mI_setI, up2]; repeat (first | exact hc.1 | rw [if_neg (by omega)]))) (fun g46 => ?_)
  refine V_ld (pc := 49) dX11_leaves_49 (v := vr 30) rfl rfl ?_
  refine V_getIv (pc := 50) dX11_leaves_50 (v := he) fw_RX11_279 rfl hL.t30 (by first | exact hh | (simp only [mI_setI, up2]; repeat (first | exact hh | rw [if_neg (by omega)]))) (fun g50 => ?_)
  refine V_iast (pc := 53) dX11_leaves_53 hL.t54 (by omega) ?_
  refine V_ld (pc := 54) dX11_leaves_54 (v := vr 30) rfl rfl ?_
  refine V_dup (pc := 55) dX11_leaves_55 rfl ?_
  refine V_getIv (pc := 56) dX11_leaves_56 (v := ch) fw_RX11_276 rfl hL.t30 (by first | exact hc.1 | (simp only [mI_setI, up2]; repeat (first | exact hc.1 | rw [if_neg (by omega)]))) (fun g56 => ?_)
  refine V_iconst (pc := 59) dX11_leaves_59 (by unfold I32; omega) ?_
  refine V_iadd (pc := 60) dX11_leaves_60 (by unfold I32 at *; omega) ?_
  refine V_putI (pc := 61) dX11_leaves_61 fw_RX11_276 rfl hL.t30 (Or.inl rfl) (Or.inl rfl) ?_
  refine V_retv (pc := 64) dX11_leaves_64 trivial ?_
  first | exact rfl | exact ⟨rfl, rfl⟩ | (exfalso; omega)

set_option maxHeartbeats 4000000 in
theorem y_goes  (m : Mem) (k : Int) (bh : Int)   (hL : Lay (mT m) (mR m)) : Ct μX11_goes 0 [vr 30, vi k, vi bh] m (rv fun m' => setI (setI m 30 46 k) 30 47 bh = m') := by
  refine Ct_of_V rfl (by decide) rfl (Nat.le_of_ble_eq_true rfl) ?_
  show V μX11_goes 0 m _ 0 [(0, vr 30), (1, vi k), (2, vi bh)] [] m
  refine V_rg (k := 1) (x := k) rfl fun r_k => ?_
  refine V_rg (k := 2) (x := bh) rfl fun r_bh => ?_
  refine V_ld (pc := 0) dX11_goes_0 (v := vr 30) rfl rfl ?_
  refine V_ld (pc := 1) dX11_goes_1 (v := vi k) rfl rfl ?_
  refine V_putI (pc := 2) dX11_goes_2 fw_RX11_282 rfl hL.t30 (Or.inl rfl) (Or.inl rfl) ?_
  refine V_ld (pc := 5) dX11_goes_5 (v := vr 30) rfl rfl ?_
  refine V_ld (pc := 6) dX11_goes_6 (v := vi bh) rfl rfl ?_
  refine V_putI (pc := 7) dX11_goes_7 fw_RX11_285 rfl hL.t30 (Or.inl rfl) (Or.inl rfl) ?_
  refine V_retv (pc := 10) dX11_goes_10 trivial ?_
  first | exact rfl | exact ⟨rfl, rfl⟩ | (exfalso; omega)

set_option maxHeartbeats 4000000 in
theorem L_yud {F0 : Nat} {m : Mem} {p d r0 inn : Int} (hL : Lay (mT m) (mR m)) (hk : mI m 40 p.toNat = inn ∧ 0 ≤ p ∧ p < 250) (hi : inn ≤ 100) : ∀ (f : Nat) (r : Int), r + (f : Int) = inn ∧ 0 ≤ r → ndF d inn f r = ndA d r0 inn → V μX11_undone F0 m (ri fun x_ m' => (x_ = ndA d r0 inn) ∧ m = m') 3 [(4, vi r), (0, vr 30), (1, vi p), (2, vi d), (3, vi r0)] [] m := by
  intro f
  induction f with
  | zero =>
    intro r hr hv
    have hv' : r = ndA d r0 inn := hv
    refine V_ld (pc := 3) dX11_undone_3 (v := vi r) rfl rfl ?_
    refine V_ld (pc := 5) dX11_undone_5 (v := vr 30) rfl rfl ?_
    refine V_getRv (pc := 6) dX11_undone_6 (o' := 40) fw_RX11_39 rfl hL.t30 hL.r30_15 ?_
    refine V_ld (pc := 9) dX11_undone_9 (v := vi p) rfl rfl ?_
    refine V_ialdv (pc := 10) dX11_undone_10 (v := inn) hL.t40 (by omega) hk.1 (fun g10 => ?_)
    refine V_icmp_ge (pc := 11) dX11_undone_11 (tgt := 30) rfl (fun h11 => ?_) (fun h11 => ?_)
    · skip
      refine V_ld (pc := 30) dX11_undone_30 (v := vi r) rfl rfl ?_
      refine V_reti (pc := 32) dX11_undone_32 trivial ?_
      first | (exfalso; omega) | exact ⟨hv', rfl⟩
    · skip
      refine V_ld (pc := 14) dX11_undone_14 (v := vi d) rfl rfl ?_
      refine V_ld (pc := 15) dX11_undone_15 (v := vi r) rfl rfl ?_
      refine V_ishr (pc := 17) dX11_undone_17 ?_
      refine V_iconst (pc := 18) dX11_undone_18 (by unfold I32; omega) ?_
      refine V_iand (pc := 19) dX11_undone_19 ?_
      refine V_iconst (pc := 20) dX11_undone_20 (by unfold I32; omega) ?_
      refine V_icmp_ne (pc := 21) dX11_undone_21 (tgt := 30) rfl (fun h21 => ?_) (fun h21 => ?_)
      · skip
        refine V_ld (pc := 30) dX11_undone_30 (v := vi r) rfl rfl ?_
        refine V_reti (pc := 32) dX11_undone_32 trivial ?_
        first | (exfalso; omega) | exact ⟨hv', rfl⟩
      · skip
        refine V_iinc (pc := 24) dX11_undone_24 (x := r) (ls' := [(4, vi (r + 1)), (0, vr 30), (1, vi p), (2, vi d), (3, vi r0)]) rfl (by unfold I32 at *; omega) (Nat.le_of_ble_eq_true rfl) rfl ?_
        refine V_goto (pc := 27) dX11_undone_27 (tgt := 3) rfl ?_
        exfalso; omega
  | succ f ih =>
    intro r hr hv
    have hv' : (if r < inn ∧ bitA d r = 1 then ndF d inn f (r + 1) else r) = ndA d r0 inn := hv
    refine V_ld (pc := 3) dX11_undone_3 (v := vi r) rfl rfl ?_
    refine V_ld (pc := 5) dX11_undone_5 (v := vr 30) rfl rfl ?_
    refine V_getRv (pc := 6) dX11_undone_6 (o' := 40) fw_RX11_39 rfl hL.t30 hL.r30_15 ?_
    refine V_ld (pc := 9) dX11_undone_9 (v := vi p) rfl rfl ?_
    refine V_ialdv (pc := 10) dX11_undone_10 (v := inn) hL.t40 (by omega) hk.1 (fun g10 => ?_)
    refine V_icmp_ge (pc := 11) dX11_undone_11 (tgt := 30) rfl (fun h11 => ?_) (fun h11 => ?_)
    · skip
      refine V_ld (pc := 30) dX11_undone_30 (v := vi r) rfl rfl ?_
      refine V_reti (pc := 32) dX11_undone_32 trivial ?_
      first
        | (exfalso; omega)
        | (rw [if_neg (fun e_ => by have e2_ : and32 (shr32 d r) 1 = 1 := e_.2; omega)] at hv'
           exact ⟨hv', rfl⟩)
    · skip
      refine V_ld (pc := 14) dX11_undone_14 (v := vi d) rfl rfl ?_
      refine V_ld (pc := 15) dX11_undone_15 (v := vi r) rfl rfl ?_
      refine V_ishr (pc := 17) dX11_undone_17 ?_
      refine V_iconst (pc := 18) dX11_undone_18 (by unfold I32; omega) ?_
      refine V_iand (pc := 19) dX11_undone_19 ?_
      refine V_iconst (pc := 20) dX11_undone_20 (by unfold I32; omega) ?_
      refine V_icmp_ne (pc := 21) dX11_undone_21 (tgt := 30) rfl (fun h21 => ?_) (fun h21 => ?_)
      · skip
        refine V_ld (pc := 30) dX11_undone_30 (v := vi r) rfl rfl ?_
        refine V_reti (pc := 32) dX11_undone_32 trivial ?_
        first
          | (exfalso; omega)
          | (rw [if_neg (fun e_ => by have e2_ : and32 (shr32 d r) 1 = 1 := e_.2; omega)] at hv'
             exact ⟨hv', rfl⟩)
      · skip
        refine V_iinc (pc := 24) dX11_undone_24 (x := r) (ls' := [(4, vi (r + 1)), (0, vr 30), (1, vi p), (2, vi d), (3, vi r0)]) rfl (by unfold I32 at *; omega) (Nat.le_of_ble_eq_true rfl) rfl ?_
        refine V_goto (pc := 27) dX11_undone_27 (tgt := 3) rfl ?_
        skip
        rw [if_pos ⟨by omega, by show and32 (shr32 d r) 1 = 1; omega⟩] at hv'
        exact ih (r + 1) (by omega) hv'

set_option maxHeartbeats 4000000 in
theorem y_undone (inn : Int) (m : Mem) (p : Int) (d : Int) (r0 : Int)   (hL : Lay (mT m) (mR m)) (hk : mI m 40 p.toNat = inn ∧ 0 ≤ p ∧ p < 250) (hr : 0 ≤ r0 ∧ r0 ≤ inn + 1 ∧ inn ≤ 100) : Ct μX11_undone 0 [vr 30, vi p, vi d, vi r0] m (ri fun x_ m' => (x_ = ndA d r0 inn) ∧ m = m') := by
  refine Ct_of_V rfl (by decide) rfl (Nat.le_of_ble_eq_true rfl) ?_
  show V μX11_undone 0 m _ 0 [(0, vr 30), (1, vi p), (2, vi d), (3, vi r0)] [] m
  refine V_rg (k := 3) (x := r0) rfl fun r_r0 => ?_
  refine V_ld (pc := 0) dX11_undone_0 (v := vi r0) rfl rfl ?_
  refine V_st (pc := 1) dX11_undone_1 (ls' := [(4, vi r0), (0, vr 30), (1, vi p), (2, vi d), (3, vi r0)]) rfl (Nat.le_of_ble_eq_true rfl) rfl ?_
  by_cases hgt : r0 ≤ inn
  · exact L_yud hL hk hr.2.2 (inn - r0).toNat r0 (by omega) rfl
  · have hv' : r0 = ndA d r0 inn := (ndA_hi (by omega)).symm
    refine V_ld (pc := 3) dX11_undone_3 (v := vi r0) rfl rfl ?_
    refine V_ld (pc := 5) dX11_undone_5 (v := vr 30) rfl rfl ?_
    refine V_getRv (pc := 6) dX11_undone_6 (o' := 40) fw_RX11_39 rfl hL.t30 hL.r30_15 ?_
    refine V_ld (pc := 9) dX11_undone_9 (v := vi p) rfl rfl ?_
    refine V_ialdv (pc := 10) dX11_undone_10 (v := inn) hL.t40 (by omega) hk.1 (fun g10 => ?_)
    refine V_icmp_ge (pc := 11) dX11_undone_11 (tgt := 30) rfl (fun h11 => ?_) (fun h11 => ?_)
    · skip
      refine V_ld (pc := 30) dX11_undone_30 (v := vi r0) rfl rfl ?_
      refine V_reti (pc := 32) dX11_undone_32 trivial ?_
      first | (exfalso; omega) | exact ⟨hv', rfl⟩
    · skip
      refine V_ld (pc := 14) dX11_undone_14 (v := vi d) rfl rfl ?_
      refine V_ld (pc := 15) dX11_undone_15 (v := vi r0) rfl rfl ?_
      refine V_ishr (pc := 17) dX11_undone_17 ?_
      refine V_iconst (pc := 18) dX11_undone_18 (by unfold I32; omega) ?_
      refine V_iand (pc := 19) dX11_undone_19 ?_
      refine V_iconst (pc := 20) dX11_undone_20 (by unfold I32; omega) ?_
      refine V_icmp_ne (pc := 21) dX11_undone_21 (tgt := 30) rfl (fun h21 => ?_) (fun h21 => ?_)
      · skip
        refine V_ld (pc := 30) dX11_undone_30 (v := vi r0) rfl rfl ?_
        refine V_reti (pc := 32) dX11_undone_32 trivial ?_
        first | (exfalso; omega) | exact ⟨hv', rfl⟩
      · skip
        refine V_iinc (pc := 24) dX11_undone_24 (x := r0) (ls' := [(4, vi (r0 + 1)), (0, vr 30), (1, vi p), (2, vi d), (3, vi r0)]) rfl (by unfold I32 at *; omega) (Nat.le_of_ble_eq_true rfl) rfl ?_
        refine V_goto (pc := 27) dX11_undone_27 (tgt := 3) rfl ?_
        exfalso; omega

set_option maxHeartbeats 4000000 in
theorem L_ykd {F0 : Nat} {m : Mem} {F : Tb} {c : Nat} {p i0 : Int} (hL : Lay (mT m) (mR m)) (hT : RTab (mI m) F c ∧ c ≤ 240) (hk : ∀ i : Nat, (i : Int) < i0 → 0 ≤ kidN F p i ∧ kidN F p i < (c : Int)) (hr : i0 ≤ 300) : ∀ (f i : Nat), (f : Int) + (i : Int) = i0 → V μX11_kid F0 m (ri fun x_ m' => (x_ = kidN F p i0.toNat) ∧ m = m') 10 [(4, vi (i : Int)), (3, vi (kidN F p i)), (0, vr 30), (1, vi p), (2, vi i0)] [] m := by
  intro f
  induction f with
  | zero =>
    intro i hi
    have hi' : i0.toNat = i := by omega
    refine V_ld (pc := 10) dX11_kid_10 (v := vi (i : Int)) rfl rfl ?_
    refine V_ld (pc := 12) dX11_kid_12 (v := vi i0) rfl rfl ?_
    refine V_icmp_ge (pc := 13) dX11_kid_13 (tgt := 29) rfl (fun h13 => ?_) (fun h13 => ?_)
    · skip
      refine V_ld (pc := 29) dX11_kid_29 (v := vi (kidN F p i)) rfl rfl ?_
      refine V_reti (pc := 30) dX11_kid_30 trivial ?_
      first | (exfalso; omega) | exact ⟨by rw [hi'], rfl⟩
    · skip
      exfalso; omega
  | succ f ih =>
    intro i hi
    have hki := hk i (by omega)
    have h8 := (hT.1 (kidN F p i).toNat (by omega)).2.2.2.2.2.2.2.2
    refine V_ld (pc := 10) dX11_kid_10 (v := vi (i : Int)) rfl rfl ?_
    refine V_ld (pc := 12) dX11_kid_12 (v := vi i0) rfl rfl ?_
    refine V_icmp_ge (pc := 13) dX11_kid_13 (tgt := 29) rfl (fun h13 => ?_) (fun h13 => ?_)
    · skip
      refine V_ld (pc := 29) dX11_kid_29 (v := vi (kidN F p i)) rfl rfl ?_
      refine V_reti (pc := 30) dX11_kid_30 trivial ?_
      exfalso; omega
    · skip
      refine V_ld (pc := 16) dX11_kid_16 (v := vr 30) rfl rfl ?_
      refine V_getRv (pc := 17) dX11_kid_17 (o' := 42) fw_RX11_45 rfl hL.t30 hL.r30_17 ?_
      refine V_ld (pc := 20) dX11_kid_20 (v := vi (kidN F p i)) rfl rfl ?_
      refine V_ialdv (pc := 21) dX11_kid_21 (v := (kidN F p (i + 1))) hL.t42 (by omega) h8 (fun g21 => ?_)
      refine V_st (pc := 22) dX11_kid_22 (ls' := [(3, vi (kidN F p (i + 1))), (4, vi (i : Int)), (0, vr 30), (1, vi p), (2, vi i0)]) rfl (Nat.le_of_ble_eq_true rfl) rfl ?_
      refine V_iinc (pc := 23) dX11_kid_23 (x := (i : Int)) (ls' := [(4, vi ((i : Int) + 1)), (3, vi (kidN F p (i + 1))), (0, vr 30), (1, vi p), (2, vi i0)]) rfl (by unfold I32 at *; omega) (Nat.le_of_ble_eq_true rfl) rfl ?_
      refine V_goto (pc := 26) dX11_kid_26 (tgt := 10) rfl ?_
      skip
      exact ih (i + 1) (by omega)

set_option maxHeartbeats 4000000 in
theorem y_kid (F : Tb) (c : Nat) (m : Mem) (p : Int) (i0 : Int)   (hL : Lay (mT m) (mR m)) (hT : RTab (mI m) F c ∧ c ≤ 240 ∧ 0 ≤ p ∧ p < (c : Int)) (hk : ∀ i : Nat, (i : Int) < i0 → 0 ≤ kidN F p i ∧ kidN F p i < (c : Int)) (hr : 0 ≤ i0 ∧ i0 ≤ 300) : Ct μX11_kid 0 [vr 30, vi p, vi i0] m (ri fun x_ m' => (x_ = kidN F p i0.toNat) ∧ m = m') := by
  refine Ct_of_V rfl (by decide) rfl (Nat.le_of_ble_eq_true rfl) ?_
  show V μX11_kid 0 m _ 0 [(0, vr 30), (1, vi p), (2, vi i0)] [] m
  refine V_rg (k := 1) (x := p) rfl fun r_p => ?_
  refine V_rg (k := 2) (x := i0) rfl fun r_i0 => ?_
  have h7 := (hT.1 p.toNat (by omega)).2.2.2.2.2.2.2.1
  refine V_ld (pc := 0) dX11_kid_0 (v := vr 30) rfl rfl ?_
  refine V_getRv (pc := 1) dX11_kid_1 (o' := 41) fw_RX11_42 rfl hL.t30 hL.r30_16 ?_
  refine V_ld (pc := 4) dX11_kid_4 (v := vi p) rfl rfl ?_
  refine V_ialdv (pc := 5) dX11_kid_5 (v := (kidN F p 0)) hL.t41 (by omega) h7 (fun g5 => ?_)
  refine V_st (pc := 6) dX11_kid_6 (ls' := [(3, vi (kidN F p 0)), (0, vr 30), (1, vi p), (2, vi i0)]) rfl (Nat.le_of_ble_eq_true rfl) rfl ?_
  refine V_iconst (pc := 7) dX11_kid_7 (by unfold I32; omega) ?_
  refine V_st (pc := 8) dX11_kid_8 (ls' := [(4, vi 0), (3, vi (kidN F p 0)), (0, vr 30), (1, vi p), (2, vi i0)]) rfl (Nat.le_of_ble_eq_true rfl) rfl ?_
  skip
  exact L_ykd hL ⟨hT.1, hT.2.1⟩ hk hr.2 i0.toNat 0 (by omega)
