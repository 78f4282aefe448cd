/-! isRead(), part(), told() of the reference: the tape stays -/
def RFi (I I' : Nat → Nat → Int) : Prop := ∀ o k, ¬ (34 ≤ o ∧ o ≤ 43) → ¬ (o = 30 ∧ (k = 6 ∨ k = 7 ∨ k = 8 ∨ k = 9 ∨ k = 19 ∨ k = 20)) → I' o k = I o k
theorem RFr.i {I J : Nat → Nat → Int} (h : RFr I J) : RFi I J := fun o k a b => h o k (by omega) (by omega)
theorem RFi.tr {I J K : Nat → Nat → Int} (h : RFi I J) (h2 : RFi J K) : RFi I K := fun o k a b => (h2 o k a b).trans (h o k a b)

set_option maxHeartbeats 4000000 in
theorem r_isReadI (tx : Nat → Int) (n : Nat) (m : Mem)    (hL : Lay (mT m) (mR m)) (ht : mI m 31 65 = (n : Int) ∧ n ≤ 120) (htx : txR (mI m) 31 66 tx n) : Ct μX11_isRead 32 [vr 30] m (ri fun x_ m' => ∃ I_ : Nat → Nat → Int, wI m I_ = m' ∧ (x_ = if 0 < n then 1 else 0) ∧ RFi (mI m) I_ ∧ (0 < n → RP I_ tx n (altL tx n 5 S0).2)) := by
  refine Ct_of_V rfl (by decide) rfl (Nat.le_of_ble_eq_true rfl) ?_
  show V μX11_isRead 32 m _ 0 [(0, vr 30)] [] m
  refine V_ld (pc := 0) dX11_isRead_0 (v := vr 30) rfl rfl ?_
  refine V_ld (pc := 1) dX11_isRead_1 (v := vr 30) rfl rfl ?_
  refine V_getRv (pc := 2) dX11_isRead_2 (o' := 31) fw_RX11_9 rfl hL.t30 hL.r30_0 ?_
  refine V_bipush (pc := 5) dX11_isRead_5 (by unfold I32; omega) (by decide) ?_
  refine V_ialdv (pc := 7) dX11_isRead_7 (v := (n : Int)) hL.t31 (by omega) ht.1 (fun g7 => ?_)
  refine V_putI (pc := 8) dX11_isRead_8 fw_RX11_122 rfl hL.t30 (Or.inl rfl) (Or.inl rfl) ?_
  refine V_iconst (pc := 11) dX11_isRead_11 (by unfold I32; omega) ?_
  refine V_st (pc := 12) dX11_isRead_12 (ls' := [(1, vi 0), (0, vr 30)]) rfl (Nat.le_of_ble_eq_true rfl) rfl ?_
  refine V_ls (ls' := [(1, vi ((0 : Nat) : Int)), (0, vr 30)]) (by intro q_ h_; simp only [List.mem_cons, List.not_mem_nil, or_false] at h_ ⊢; rcases h_ with rfl | rfl <;> simp) ?_
  refine V_mem (cpyI_0 (a := 31) (sp := 66) (b := 34) (dp := 0)).symm ?_
  refine L_isread (m := setI m 30 6 (n : Int)) (n := n) hL rfl (by omega) ?_ n 0 (by omega)
  refine V_ld (pc := 42) dX11_isRead_42 (v := vr 30) rfl rfl ?_
  refine V_iconst (pc := 43) dX11_isRead_43 (by unfold I32; omega) ?_
  refine V_putI (pc := 44) dX11_isRead_44 fw_RX11_125 rfl hL.t30 (Or.inl rfl) (Or.inl rfl) ?_
  refine V_ld (pc := 47) dX11_isRead_47 (v := vr 30) rfl rfl ?_
  refine V_iconst (pc := 48) dX11_isRead_48 (by unfold I32; omega) ?_
  refine V_putI (pc := 49) dX11_isRead_49 fw_RX11_128 rfl hL.t30 (Or.inl rfl) (Or.inr ⟨rfl, by first | exact Or.inl rfl | exact Or.inr rfl | omega⟩) ?_
  refine V_ld (pc := 52) dX11_isRead_52 (v := vr 30) rfl rfl ?_
  refine V_iconst (pc := 53) dX11_isRead_53 (by unfold I32; omega) ?_
  refine V_putI (pc := 54) dX11_isRead_54 fw_RX11_139 rfl hL.t30 (Or.inl rfl) (Or.inl rfl) ?_
  have hC : ∀ o k, mI (cpyI (setI m 30 6 (n : Int)) 31 66 34 0 n) o k = if o = 34 ∧ 0 ≤ k ∧ k < 0 + n then mI (setI m 30 6 (n : Int)) 31 (66 + (k - 0)) else mI (setI m 30 6 (n : Int)) o k := fun o k => mI_cpyI
  have hRP : RP (mI (setI (setI (setI (cpyI (setI m 30 6 (n : Int)) 31 66 34 0 n) 30 7 0) 30 8 1) 30 9 0)) tx n S0 := by
    refine RP.S0 ?_ rfl rfl rfl ht.2 (fun k hk => ?_)
    · show mI (cpyI (setI m 30 6 (n : Int)) 31 66 34 0 n) 30 6 = _
      rw [hC, if_neg (by omega)]; rfl
    · have h_ := htx k hk
      refine ⟨?_, h_.2⟩
      show mI (cpyI (setI m 30 6 (n : Int)) 31 66 34 0 n) 34 (0 + k) = _
      rw [hC, if_pos (by omega)]
      show mI m 31 (66 + (0 + k - 0)) = _
      rw [show 66 + (0 + k - 0) = 66 + k from by omega]
      exact h_.1
  have hF57 : RFi (mI m) (mI (setI (setI (setI (cpyI (setI m 30 6 (n : Int)) 31 66 34 0 n) 30 7 0) 30 8 1) 30 9 0)) := by
    intro o k h1 h2
    show up2 (up2 (up2 (mI (cpyI (setI m 30 6 (n : Int)) 31 66 34 0 n)) 30 7 0) 30 8 1) 30 9 0 o k = _
    unfold up2
    rw [if_neg (by omega), if_neg (by omega), if_neg (by omega), hC, if_neg (by omega)]
    show up2 (mI m) 30 6 _ o k = _
    unfold up2
    rw [if_neg (by omega)]
  refine V_ld (pc := 57) dX11_isRead_57 (v := vr 30) rfl rfl ?_
  refine V_getIv (pc := 58) dX11_isRead_58 (v := (n : Int)) fw_RX11_122 rfl hL.t30 (by first | exact (hRP.1) | (simp only [mI_setI, up2]; repeat (first | exact (hRP.1) | rw [if_neg (by omega)]))) (fun g58 => ?_)
  refine V_if_le (pc := 61) dX11_isRead_61 (tgt := 70) rfl (fun h61 => ?_) (fun h61 => ?_)
  · skip
    refine V_ld (pc := 70) dX11_isRead_70 (v := vr 30) rfl rfl ?_
    refine V_getIv (pc := 71) dX11_isRead_71 (v := (n : Int)) fw_RX11_122 rfl hL.t30 (by first | exact (hRP.1) | (simp only [mI_setI, up2]; repeat (first | exact (hRP.1) | rw [if_neg (by omega)]))) (fun g71 => ?_)
    refine V_if_le (pc := 74) dX11_isRead_74 (tgt := 81) rfl (fun h74 => ?_) (fun h74 => ?_)
    · skip
      refine V_iconst (pc := 81) dX11_isRead_81 (by unfold I32; omega) ?_
      refine V_reti (pc := 82) dX11_isRead_82 (show _ = (0 : Int) ∨ _ = (1 : Int) from by first | exact Or.inl rfl | exact Or.inr rfl | omega) ?_
      first
        | (exfalso; omega)
        | exact ⟨mI (setI (setI (setI (cpyI (setI m 30 6 (n : Int)) 31 66 34 0 n) 30 7 0) 30 8 1) 30 9 0), rfl, by rw [if_neg (by omega)], hF57, fun h_ => absurd h_ (by omega)⟩
    · skip
      refine V_iconst (pc := 77) dX11_isRead_77 (by unfold I32; omega) ?_
      refine V_goto (pc := 78) dX11_isRead_78 (tgt := 82) rfl ?_
      refine V_reti (pc := 82) dX11_isRead_82 (show _ = (0 : Int) ∨ _ = (1 : Int) from by first | exact Or.inl rfl | exact Or.inr rfl | omega) ?_
      first
        | (exfalso; omega)
        | exact ⟨mI (setI (setI (setI (cpyI (setI m 30 6 (n : Int)) 31 66 34 0 n) 30 7 0) 30 8 1) 30 9 0), rfl, by rw [if_neg (by omega)], hF57, fun h_ => absurd h_ (by omega)⟩
  · skip
    refine V_ld (pc := 64) dX11_isRead_64 (v := vr 30) rfl rfl ?_
    refine V_iconst (pc := 65) dX11_isRead_65 (by unfold I32; omega) ?_
    refine V_callV (pc := 66) dX11_isRead_66 (F' := (6 + 5 * 5)) (As := [vi 0]) (st := []) cw_RX11_150 rfl rfl hL.t30 (by decide) (Nat.le_of_ble_eq_true rfl) (by omega) ((RAlt_all tx n 5) S0 (setI (setI (setI (cpyI (setI m 30 6 (n : Int)) 31 66 34 0 n) 30 7 0) 30 8 1) 30 9 0) 0   (by first | assumption | omega) hRP (by decide)) ?_
    rintro _ _ ⟨x66, rfl, Ix66, rfl, rfl, hP66, hF66⟩ ok66 le66
    refine V_pop (pc := 69) dX11_isRead_69 rfl ?_
    refine V_ld (pc := 70) dX11_isRead_70 (v := vr 30) rfl rfl ?_
    refine V_getIv (pc := 71) dX11_isRead_71 (v := (n : Int)) fw_RX11_122 rfl hL.t30 (hP66.1) (fun g71 => ?_)
    refine V_if_le (pc := 74) dX11_isRead_74 (tgt := 81) rfl (fun h74 => ?_) (fun h74 => ?_)
    · skip
      refine V_iconst (pc := 81) dX11_isRead_81 (by unfold I32; omega) ?_
      refine V_reti (pc := 82) dX11_isRead_82 (show _ = (0 : Int) ∨ _ = (1 : Int) from by first | exact Or.inl rfl | exact Or.inr rfl | omega) ?_
      first
        | (exfalso; omega)
        | exact ⟨mI (wI (setI (setI (setI (cpyI (setI m 30 6 (n : Int)) 31 66 34 0 n) 30 7 0) 30 8 1) 30 9 0) Ix66), rfl, by rw [if_pos (by omega)], RFi.tr hF57 (RFr.i hF66), fun _ => hP66⟩
    · skip
      refine V_iconst (pc := 77) dX11_isRead_77 (by unfold I32; omega) ?_
      refine V_goto (pc := 78) dX11_isRead_78 (tgt := 82) rfl ?_
      refine V_reti (pc := 82) dX11_isRead_82 (show _ = (0 : Int) ∨ _ = (1 : Int) from by first | exact Or.inl rfl | exact Or.inr rfl | omega) ?_
      first
        | (exfalso; omega)
        | exact ⟨mI (wI (setI (setI (setI (cpyI (setI m 30 6 (n : Int)) 31 66 34 0 n) 30 7 0) 30 8 1) 30 9 0) Ix66), rfl, by rw [if_pos (by omega)], RFi.tr hF57 (RFr.i hF66), fun _ => hP66⟩


set_option maxHeartbeats 4000000 in
theorem r_partI (tx : Nat → Int) (n : Nat) (m : Mem) (p : Int) (w : Int)   (hL : Lay (mT m) (mR m)) (ht : mI m 31 65 = (n : Int) ∧ n ≤ 120) (htx : txR (mI m) 31 66 tx n) (hv : n ≠ 0 → PatW tx n) : Ct μX11_part 33 [vr 30, vi p, vi w] m (ri fun x_ m' => ∃ I_ : Nat → Nat → Int, wI m I_ = m' ∧ (x_ = if n = 0 then -1 else partV (altL tx n 5 S0).2.2.2.2 (altL tx n 5 S0).2.2.2.1 p w) ∧ RFi (mI m) I_) := by
  refine Ct_of_V rfl (by decide) rfl (Nat.le_of_ble_eq_true rfl) ?_
  show V μX11_part 33 m _ 0 [(0, vr 30), (1, vi p), (2, vi w)] [] m
  refine V_rg (k := 1) (x := p) rfl fun r_p => ?_
  refine V_rg (k := 2) (x := w) rfl fun r_w => ?_
  refine V_ld (pc := 0) dX11_part_0 (v := vr 30) rfl rfl ?_
  refine V_callV (pc := 1) dX11_part_1 (F' := 32) (As := []) (st := []) cw_RX11_195 rfl rfl hL.t30 (by decide) (Nat.le_of_ble_eq_true rfl) (by omega) (r_isReadI tx n m    (by first | assumption | omega) ht htx) ?_
  rintro _ _ ⟨x1, rfl, Ix1, rfl, hx1, hF1, hP1⟩ ok1 le1
  have hcn : 0 < n → mI (wI m Ix1) 30 9 = ((altL tx n 5 S0).2.2.2.1 : Int) ∧ (altL tx n 5 S0).2.2.2.1 ≤ 240 := fun h_ => by
    have hp_ := hP1 h_
    have hw_ : PatW tx n := hv (by omega)
    have h6_ := hp_.2.2.2.2.2.1 hw_.1
    have h7_ := hp_.2.2.2.2.1
    exact ⟨hp_.2.2.2.1, by omega⟩
  have hRT : 0 < n → RTab (mI (wI m Ix1)) (altL tx n 5 S0).2.2.2.2 (altL tx n 5 S0).2.2.2.1 := fun h_ => (hP1 h_).2.2.2.2.2.2.2.2
  refine V_if_eq (pc := 4) dX11_part_4 (tgt := 35) rfl (fun h4 => ?_) (fun h4 => ?_)
  · skip
    refine V_iconst (pc := 35) dX11_part_35 (by unfold I32; omega) ?_
    refine V_reti (pc := 36) dX11_part_36 trivial ?_
    refine ⟨mI (wI m Ix1), rfl, ?_, hF1⟩
    first
      | (exfalso; omega)
      | (rw [if_pos (by omega)])
      | (rw [if_neg (by omega), partV_n (by omega)])
      | (rw [if_neg (by omega)]; exact RTab.pv (hRT (by omega)) (by omega) 0 (by omega) (by decide))
      | (rw [if_neg (by omega)]; exact RTab.pv (hRT (by omega)) (by omega) 1 (by omega) (by decide))
      | (rw [if_neg (by omega)]; exact RTab.pv (hRT (by omega)) (by omega) 2 (by omega) (by decide))
      | (rw [if_neg (by omega)]; exact RTab.pv (hRT (by omega)) (by omega) 3 (by omega) (by decide))
      | (rw [if_neg (by omega)]; exact RTab.pv (hRT (by omega)) (by omega) 4 (by omega) (by decide))
      | (rw [if_neg (by omega)]; exact RTab.pv (hRT (by omega)) (by omega) 5 (by omega) (by decide))
      | (rw [if_neg (by omega)]; exact RTab.pv (hRT (by omega)) (by omega) 6 (by omega) (by decide))
  · skip
    refine V_ld (pc := 7) dX11_part_7 (v := vi p) rfl rfl ?_
    refine V_i2l (pc := 8) dX11_part_8 ?_
    refine V_lconst (pc := 9) dX11_part_9 (x := 0) (by unfold I64; omega) (by decide) ?_
    refine V_ld (pc := 10) dX11_part_10 (v := vr 30) rfl rfl ?_
    refine V_getIv (pc := 11) dX11_part_11 (v := mI (wI m Ix1) 30 9) fw_RX11_139 rfl hL.t30 rfl (fun g11 => ?_)
    refine V_iconst (pc := 14) dX11_part_14 (by unfold I32; omega) ?_
    refine V_isub (pc := 15) dX11_part_15 (by unfold I32 at *; omega) ?_
    refine V_i2l (pc := 16) dX11_part_16 ?_
    refine V_callS (pc := 17) dX11_part_17 (F' := 0) (As := [vl p, vl 0, vl ((mI (wI m Ix1) 30 9) - 1)]) (st := []) cw_RX11_101 rfl rfl (Nat.le_of_ble_eq_true rfl) (by omega) (r_isIn  (wI m Ix1) p 0 ((mI (wI m Ix1) 30 9) - 1)   ) ?_
    rintro _ _ ⟨x17, rfl, hx17, rfl⟩ ok17 le17
    refine V_if_eq (pc := 20) dX11_part_20 (tgt := 35) rfl (fun h20 => ?_) (fun h20 => ?_)
    · skip
      refine V_iconst (pc := 35) dX11_part_35 (by unfold I32; omega) ?_
      refine V_reti (pc := 36) dX11_part_36 trivial ?_
      refine ⟨mI (wI m Ix1), rfl, ?_, hF1⟩
      first
        | (exfalso; omega)
        | (rw [if_pos (by omega)])
        | (rw [if_neg (by omega), partV_n (by omega)])
        | (rw [if_neg (by omega)]; exact RTab.pv (hRT (by omega)) (by omega) 0 (by omega) (by decide))
        | (rw [if_neg (by omega)]; exact RTab.pv (hRT (by omega)) (by omega) 1 (by omega) (by decide))
        | (rw [if_neg (by omega)]; exact RTab.pv (hRT (by omega)) (by omega) 2 (by omega) (by decide))
        | (rw [if_neg (by omega)]; exact RTab.pv (hRT (by omega)) (by omega) 3 (by omega) (by decide))
        | (rw [if_neg (by omega)]; exact RTab.pv (hRT (by omega)) (by omega) 4 (by omega) (by decide))
        | (rw [if_neg (by omega)]; exact RTab.pv (hRT (by omega)) (by omega) 5 (by omega) (by decide))
        | (rw [if_neg (by omega)]; exact RTab.pv (hRT (by omega)) (by omega) 6 (by omega) (by decide))
    · skip
      refine V_ld (pc := 23) dX11_part_23 (v := vi w) rfl rfl ?_
      refine V_i2l (pc := 24) dX11_part_24 ?_
      refine V_lconst (pc := 25) dX11_part_25 (x := 0) (by unfold I64; omega) (by decide) ?_
      refine V_ldc2 (pc := 26) dX11_part_26 (x := 6) kl_RX11_198 (by unfold I64; omega) rfl ?_
      refine V_callS (pc := 29) dX11_part_29 (F' := 0) (As := [vl w, vl 0, vl 6]) (st := []) cw_RX11_101 rfl rfl (Nat.le_of_ble_eq_true rfl) (by omega) (r_isIn  (wI m Ix1) w 0 6   ) ?_
      rintro _ _ ⟨x29, rfl, hx29, rfl⟩ ok29 le29
      refine V_if_ne (pc := 32) dX11_part_32 (tgt := 37) rfl (fun h32 => ?_) (fun h32 => ?_)
      · skip
        refine V_ld (pc := 37) dX11_part_37 (v := vi w) rfl rfl ?_
        refine V_if_ne (pc := 38) dX11_part_38 (tgt := 50) rfl (fun h38 => ?_) (fun h38 => ?_)
        · skip
          refine V_ld (pc := 50) dX11_part_50 (v := vi w) rfl rfl ?_
          refine V_iconst (pc := 51) dX11_part_51 (by unfold I32; omega) ?_
          refine V_icmp_ne (pc := 52) dX11_part_52 (tgt := 64) rfl (fun h52 => ?_) (fun h52 => ?_)
          · skip
            refine V_ld (pc := 64) dX11_part_64 (v := vi w) rfl rfl ?_
            refine V_iconst (pc := 65) dX11_part_65 (by unfold I32; omega) ?_
            refine V_icmp_ne (pc := 66) dX11_part_66 (tgt := 78) rfl (fun h66 => ?_) (fun h66 => ?_)
            · skip
              refine V_ld (pc := 78) dX11_part_78 (v := vi w) rfl rfl ?_
              refine V_iconst (pc := 79) dX11_part_79 (by unfold I32; omega) ?_
              refine V_icmp_ne (pc := 80) dX11_part_80 (tgt := 92) rfl (fun h80 => ?_) (fun h80 => ?_)
              · skip
                refine V_ld (pc := 92) dX11_part_92 (v := vi w) rfl rfl ?_
                refine V_iconst (pc := 93) dX11_part_93 (by unfold I32; omega) ?_
                refine V_icmp_ne (pc := 94) dX11_part_94 (tgt := 106) rfl (fun h94 => ?_) (fun h94 => ?_)
                · skip
                  refine V_ld (pc := 106) dX11_part_106 (v := vi w) rfl rfl ?_
                  refine V_iconst (pc := 107) dX11_part_107 (by unfold I32; omega) ?_
                  refine V_icmp_ne (pc := 108) dX11_part_108 (tgt := 120) rfl (fun h108 => ?_) (fun h108 => ?_)
                  · skip
                    refine V_ld (pc := 120) dX11_part_120 (v := vr 30) rfl rfl ?_
                    refine V_getRv (pc := 121) dX11_part_121 (o' := 43) fw_RX11_48 rfl hL.t30 hL.r30_18 ?_
                    refine V_ld (pc := 124) dX11_part_124 (v := vi p) rfl rfl ?_
                    refine V_ialdv (pc := 125) dX11_part_125 (v := mI (wI m Ix1) 43 p.toNat) hL.t43 (by omega) rfl (fun g125 => ?_)
                    refine V_reti (pc := 126) dX11_part_126 trivial ?_
                    refine ⟨mI (wI m Ix1), rfl, ?_, hF1⟩
                    first
                      | (exfalso; omega)
                      | (rw [if_pos (by omega)])
                      | (rw [if_neg (by omega), partV_n (by omega)])
                      | (rw [if_neg (by omega)]; exact RTab.pv (hRT (by omega)) (by omega) 0 (by omega) (by decide))
                      | (rw [if_neg (by omega)]; exact RTab.pv (hRT (by omega)) (by omega) 1 (by omega) (by decide))
                      | (rw [if_neg (by omega)]; exact RTab.pv (hRT (by omega)) (by omega) 2 (by omega) (by decide))
                      | (rw [if_neg (by omega)]; exact RTab.pv (hRT (by omega)) (by omega) 3 (by omega) (by decide))
                      | (rw [if_neg (by omega)]; exact RTab.pv (hRT (by omega)) (by omega) 4 (by omega) (by decide))
                      | (rw [if_neg (by omega)]; exact RTab.pv (hRT (by omega)) (by omega) 5 (by omega) (by decide))
                      | (rw [if_neg (by omega)]; exact RTab.pv (hRT (by omega)) (by omega) 6 (by omega) (by decide))
                  · skip
                    refine V_ld (pc := 111) dX11_part_111 (v := vr 30) rfl rfl ?_
                    refine V_getRv (pc := 112) dX11_part_112 (o' := 39) fw_RX11_36 rfl hL.t30 hL.r30_14 ?_
                    refine V_ld (pc := 115) dX11_part_115 (v := vi p) rfl rfl ?_
                    refine V_ialdv (pc := 116) dX11_part_116 (v := mI (wI m Ix1) 39 p.toNat) hL.t39 (by omega) rfl (fun g116 => ?_)
                    refine V_goto (pc := 117) dX11_part_117 (tgt := 126) rfl ?_
                    refine V_reti (pc := 126) dX11_part_126 trivial ?_
                    refine ⟨mI (wI m Ix1), rfl, ?_, hF1⟩
                    first
                      | (exfalso; omega)
                      | (rw [if_pos (by omega)])
                      | (rw [if_neg (by omega), partV_n (by omega)])
                      | (rw [if_neg (by omega)]; exact RTab.pv (hRT (by omega)) (by omega) 0 (by omega) (by decide))
                      | (rw [if_neg (by omega)]; exact RTab.pv (hRT (by omega)) (by omega) 1 (by omega) (by decide))
                      | (rw [if_neg (by omega)]; exact RTab.pv (hRT (by omega)) (by omega) 2 (by omega) (by decide))
                      | (rw [if_neg (by omega)]; exact RTab.pv (hRT (by omega)) (by omega) 3 (by omega) (by decide))
                      | (rw [if_neg (by omega)]; exact RTab.pv (hRT (by omega)) (by omega) 4 (by omega) (by decide))
                      | (rw [if_neg (by omega)]; exact RTab.pv (hRT (by omega)) (by omega) 5 (by omega) (by decide))
                      | (rw [if_neg (by omega)]; exact RTab.pv (hRT (by omega)) (by omega) 6 (by omega) (by decide))
                · skip
                  refine V_ld (pc := 97) dX11_part_97 (v := vr 30) rfl rfl ?_
                  refine V_getRv (pc := 98) dX11_part_98 (o' := 38) fw_RX11_33 rfl hL.t30 hL.r30_13 ?_
                  refine V_ld (pc := 101) dX11_part_101 (v := vi p) rfl rfl ?_
                  refine V_ialdv (pc := 102) dX11_part_102 (v := mI (wI m Ix1) 38 p.toNat) hL.t38 (by omega) rfl (fun g102 => ?_)
                  refine V_goto (pc := 103) dX11_part_103 (tgt := 126) rfl ?_
                  refine V_reti (pc := 126) dX11_part_126 trivial ?_
                  refine ⟨mI (wI m Ix1), rfl, ?_, hF1⟩
                  first
                    | (exfalso; omega)
                    | (rw [if_pos (by omega)])
                    | (rw [if_neg (by omega), partV_n (by omega)])
                    | (rw [if_neg (by omega)]; exact RTab.pv (hRT (by omega)) (by omega) 0 (by omega) (by decide))
                    | (rw [if_neg (by omega)]; exact RTab.pv (hRT (by omega)) (by omega) 1 (by omega) (by decide))
                    | (rw [if_neg (by omega)]; exact RTab.pv (hRT (by omega)) (by omega) 2 (by omega) (by decide))
                    | (rw [if_neg (by omega)]; exact RTab.pv (hRT (by omega)) (by omega) 3 (by omega) (by decide))
                    | (rw [if_neg (by omega)]; exact RTab.pv (hRT (by omega)) (by omega) 4 (by omega) (by decide))
                    | (rw [if_neg (by omega)]; exact RTab.pv (hRT (by omega)) (by omega) 5 (by omega) (by decide))
                    | (rw [if_neg (by omega)]; exact RTab.pv (hRT (by omega)) (by omega) 6 (by omega) (by decide))
              · skip
                refine V_ld (pc := 83) dX11_part_83 (v := vr 30) rfl rfl ?_
                refine V_getRv (pc := 84) dX11_part_84 (o' := 37) fw_RX11_30 rfl hL.t30 hL.r30_12 ?_
                refine V_ld (pc := 87) dX11_part_87 (v := vi p) rfl rfl ?_
                refine V_ialdv (pc := 88) dX11_part_88 (v := mI (wI m Ix1) 37 p.toNat) hL.t37 (by omega) rfl (fun g88 => ?_)
                refine V_goto (pc := 89) dX11_part_89 (tgt := 126) rfl ?_
                refine V_reti (pc := 126) dX11_part_126 trivial ?_
                refine ⟨mI (wI m Ix1), rfl, ?_, hF1⟩
                first
                  | (exfalso; omega)
                  | (rw [if_pos (by omega)])
                  | (rw [if_neg (by omega), partV_n (by omega)])
                  | (rw [if_neg (by omega)]; exact RTab.pv (hRT (by omega)) (by omega) 0 (by omega) (by decide))
                  | (rw [if_neg (by omega)]; exact RTab.pv (hRT (by omega)) (by omega) 1 (by omega) (by decide))
                  | (rw [if_neg (by omega)]; exact RTab.pv (hRT (by omega)) (by omega) 2 (by omega) (by decide))
                  | (rw [if_neg (by omega)]; exact RTab.pv (hRT (by omega)) (by omega) 3 (by omega) (by decide))
                  | (rw [if_neg (by omega)]; exact RTab.pv (hRT (by omega)) (by omega) 4 (by omega) (by decide))
                  | (rw [if_neg (by omega)]; exact RTab.pv (hRT (by omega)) (by omega) 5 (by omega) (by decide))
                  | (rw [if_neg (by omega)]; exact RTab.pv (hRT (by omega)) (by omega) 6 (by omega) (by decide))
            · skip
              refine V_ld (pc := 69) dX11_part_69 (v := vr 30) rfl rfl ?_
              refine V_getRv (pc := 70) dX11_part_70 (o' := 40) fw_RX11_39 rfl hL.t30 hL.r30_15 ?_
              refine V_ld (pc := 73) dX11_part_73 (v := vi p) rfl rfl ?_
              refine V_ialdv (pc := 74) dX11_part_74 (v := mI (wI m Ix1) 40 p.toNat) hL.t40 (by omega) rfl (fun g74 => ?_)
              refine V_goto (pc := 75) dX11_part_75 (tgt := 126) rfl ?_
              refine V_reti (pc := 126) dX11_part_126 trivial ?_
              refine ⟨mI (wI m Ix1), rfl, ?_, hF1⟩
              first
                | (exfalso; omega)
                | (rw [if_pos (by omega)])
                | (rw [if_neg (by omega), partV_n (by omega)])
                | (rw [if_neg (by omega)]; exact RTab.pv (hRT (by omega)) (by omega) 0 (by omega) (by decide))
                | (rw [if_neg (by omega)]; exact RTab.pv (hRT (by omega)) (by omega) 1 (by omega) (by decide))
                | (rw [if_neg (by omega)]; exact RTab.pv (hRT (by omega)) (by omega) 2 (by omega) (by decide))
                | (rw [if_neg (by omega)]; exact RTab.pv (hRT (by omega)) (by omega) 3 (by omega) (by decide))
                | (rw [if_neg (by omega)]; exact RTab.pv (hRT (by omega)) (by omega) 4 (by omega) (by decide))
                | (rw [if_neg (by omega)]; exact RTab.pv (hRT (by omega)) (by omega) 5 (by omega) (by decide))
                | (rw [if_neg (by omega)]; exact RTab.pv (hRT (by omega)) (by omega) 6 (by omega) (by decide))
          · skip
            refine V_ld (pc := 55) dX11_part_55 (v := vr 30) rfl rfl ?_
            refine V_getRv (pc := 56) dX11_part_56 (o' := 36) fw_RX11_27 rfl hL.t30 hL.r30_11 ?_
            refine V_ld (pc := 59) dX11_part_59 (v := vi p) rfl rfl ?_
            refine V_ialdv (pc := 60) dX11_part_60 (v := mI (wI m Ix1) 36 p.toNat) hL.t36 (by omega) rfl (fun g60 => ?_)
            refine V_goto (pc := 61) dX11_part_61 (tgt := 126) rfl ?_
            refine V_reti (pc := 126) dX11_part_126 trivial ?_
            refine ⟨mI (wI m Ix1), rfl, ?_, hF1⟩
            first
              | (exfalso; omega)
              | (rw [if_pos (by omega)])
              | (rw [if_neg (by omega), partV_n (by omega)])
              | (rw [if_neg (by omega)]; exact RTab.pv (hRT (by omega)) (by omega) 0 (by omega) (by decide))
              | (rw [if_neg (by omega)]; exact RTab.pv (hRT (by omega)) (by omega) 1 (by omega) (by decide))
              | (rw [if_neg (by omega)]; exact RTab.pv (hRT (by omega)) (by omega) 2 (by omega) (by decide))
              | (rw [if_neg (by omega)]; exact RTab.pv (hRT (by omega)) (by omega) 3 (by omega) (by decide))
              | (rw [if_neg (by omega)]; exact RTab.pv (hRT (by omega)) (by omega) 4 (by omega) (by decide))
              | (rw [if_neg (by omega)]; exact RTab.pv (hRT (by omega)) (by omega) 5 (by omega) (by decide))
              | (rw [if_neg (by omega)]; exact RTab.pv (hRT (by omega)) (by omega) 6 (by omega) (by decide))
        · skip
          refine V_ld (pc := 41) dX11_part_41 (v := vr 30) rfl rfl ?_
          refine V_getRv (pc := 42) dX11_part_42 (o' := 35) fw_RX11_24 rfl hL.t30 hL.r30_10 ?_
          refine V_ld (pc := 45) dX11_part_45 (v := vi p) rfl rfl ?_
          refine V_ialdv (pc := 46) dX11_part_46 (v := mI (wI m Ix1) 35 p.toNat) hL.t35 (by omega) rfl (fun g46 => ?_)
          refine V_goto (pc := 47) dX11_part_47 (tgt := 126) rfl ?_
          refine V_reti (pc := 126) dX11_part_126 trivial ?_
          refine ⟨mI (wI m Ix1), rfl, ?_, hF1⟩
          first
            | (exfalso; omega)
            | (rw [if_pos (by omega)])
            | (rw [if_neg (by omega), partV_n (by omega)])
            | (rw [if_neg (by omega)]; exact RTab.pv (hRT (by omega)) (by omega) 0 (by omega) (by decide))
            | (rw [if_neg (by omega)]; exact RTab.pv (hRT (by omega)) (by omega) 1 (by omega) (by decide))
            | (rw [if_neg (by omega)]; exact RTab.pv (hRT (by omega)) (by omega) 2 (by omega) (by decide))
            | (rw [if_neg (by omega)]; exact RTab.pv (hRT (by omega)) (by omega) 3 (by omega) (by decide))
            | (rw [if_neg (by omega)]; exact RTab.pv (hRT (by omega)) (by omega) 4 (by omega) (by decide))
            | (rw [if_neg (by omega)]; exact RTab.pv (hRT (by omega)) (by omega) 5 (by omega) (by decide))
            | (rw [if_neg (by omega)]; exact RTab.pv (hRT (by omega)) (by omega) 6 (by omega) (by decide))
      · skip
        refine V_iconst (pc := 35) dX11_part_35 (by unfold I32; omega) ?_
        refine V_reti (pc := 36) dX11_part_36 trivial ?_
        refine ⟨mI (wI m Ix1), rfl, ?_, hF1⟩
        first
          | (exfalso; omega)
          | (rw [if_pos (by omega)])
          | (rw [if_neg (by omega), partV_n (by omega)])
          | (rw [if_neg (by omega)]; exact RTab.pv (hRT (by omega)) (by omega) 0 (by omega) (by decide))
          | (rw [if_neg (by omega)]; exact RTab.pv (hRT (by omega)) (by omega) 1 (by omega) (by decide))
          | (rw [if_neg (by omega)]; exact RTab.pv (hRT (by omega)) (by omega) 2 (by omega) (by decide))
          | (rw [if_neg (by omega)]; exact RTab.pv (hRT (by omega)) (by omega) 3 (by omega) (by decide))
          | (rw [if_neg (by omega)]; exact RTab.pv (hRT (by omega)) (by omega) 4 (by omega) (by decide))
          | (rw [if_neg (by omega)]; exact RTab.pv (hRT (by omega)) (by omega) 5 (by omega) (by decide))
          | (rw [if_neg (by omega)]; exact RTab.pv (hRT (by omega)) (by omega) 6 (by omega) (by decide))


set_option maxHeartbeats 4000000 in
theorem r_toldI (tx : Nat → Int) (n : Nat) (m : Mem) (k : Int)   (hL : Lay (mT m) (mR m)) (ht : mI m 31 65 = (n : Int) ∧ n ≤ 120) (htx : txR (mI m) 31 66 tx n) (hv : n ≠ 0 → PatW tx n) (hM : MatR m) (hz : 0 ≤ mI m 31 64 ∧ mI m 31 64 ≤ 32) : Ct μX11_told 33 [vr 30, vi k] m (ri fun x_ m' => ∃ I_ : Nat → Nat → Int, wI m I_ = m' ∧ (x_ = toldV (fun i_ : Nat => match i_ with | 0 => mI m 31 64 | 1 => if n = 0 then 0 else ((altL tx n 5 S0).2.2.2.1 : Int) | 2 => mI m 31 3336 | 3 => mI m 31 3332 | 4 => mI m 31 3333 | 5 => mI m 31 3334 | 6 => mI m 31 3335 | 7 => mskF (fun j_ : Nat => decide (0 < mI m 31 (186 + 121 * j_))) 26 | 8 => cn0 (fun i_ : Nat => covF (fun j_ : Nat => labR m (j_ : Int) (i_ : Int)) (mI m 31 3336).toNat) (mI m 31 64).toNat | _ => mI m 30 4) k) ∧ RFi (mI m) I_) := by
  refine Ct_of_V rfl (by decide) rfl (Nat.le_of_ble_eq_true rfl) ?_
  show V μX11_told 33 m _ 0 [(0, vr 30), (1, vi k)] [] m
  refine V_rg (k := 1) (x := k) rfl fun r_k => ?_
  refine V_ld (pc := 0) dX11_told_0 (v := vi k) rfl rfl ?_
  by_cases h1_0 : k = 0
  · skip
    refine V_tsIn (pc := 1) dX11_told_1 (cx := 0) (off := 55) (tgt := 56) h1_0 (by omega) rfl rfl ?_
    refine V_ld (pc := 56) dX11_told_56 (v := vr 30) rfl rfl ?_
    refine V_callV (pc := 57) dX11_told_57 (F' := 0) (As := []) (st := []) cw_RX11_97 rfl rfl hL.t30 (by decide) (Nat.le_of_ble_eq_true rfl) (by omega) (r_many  m    (by first | assumption | omega)) ?_
    rintro _ _ ⟨x57, rfl, hx57, rfl⟩ ok57 le57
    obtain rfl : x57 = mI m 31 64 := hx57.trans rfl
    refine V_reti (pc := 60) dX11_told_60 trivial ?_
    refine ⟨mI m, rfl, ?_, (fun _ _ _ _ => rfl)⟩
    first
      | (exfalso; omega)
      | exact (toldV_n (by omega)).symm
      | exact toldV_r 0 (by omega) (by decide) rfl
      | exact toldV_r 1 (by omega) (by decide) rfl
      | exact toldV_r 2 (by omega) (by decide) rfl
      | exact toldV_r 3 (by omega) (by decide) rfl
      | exact toldV_r 4 (by omega) (by decide) rfl
      | exact toldV_r 5 (by omega) (by decide) rfl
      | exact toldV_r 6 (by omega) (by decide) rfl
      | exact toldV_r 7 (by omega) (by decide) rfl
      | exact toldV_r 8 (by omega) (by decide) rfl
      | exact toldV_r 9 (by omega) (by decide) rfl
  by_cases h1_1 : k = 1
  · skip
    refine V_tsIn (pc := 1) dX11_told_1 (cx := 1) (off := 60) (tgt := 61) h1_1 (by omega) rfl rfl ?_
    refine V_ld (pc := 61) dX11_told_61 (v := vr 30) rfl rfl ?_
    refine V_callV (pc := 62) dX11_told_62 (F' := 32) (As := []) (st := []) cw_RX11_195 rfl rfl hL.t30 (by decide) (Nat.le_of_ble_eq_true rfl) (by omega) (r_isReadI tx n m    (by first | assumption | omega) ht htx) ?_
    rintro _ _ ⟨x62, rfl, Ix62, rfl, hx62, hF62, hP62⟩ ok62 le62
    have hcn : 0 < n → mI (wI m Ix62) 30 9 = ((altL tx n 5 S0).2.2.2.1 : Int) := fun h_ => (hP62 h_).2.2.2.1
    refine V_if_eq (pc := 65) dX11_told_65 (tgt := 75) rfl (fun h65 => ?_) (fun h65 => ?_)
    · skip
      refine V_iconst (pc := 75) dX11_told_75 (by unfold I32; omega) ?_
      refine V_reti (pc := 76) dX11_told_76 trivial ?_
      refine ⟨mI (wI m Ix62), rfl, ?_, hF62⟩
      first
        | (exfalso; omega)
        | (refine toldV_r 1 (by omega) (by decide) ?_
           show _ = (if n = 0 then 0 else _)
           omega)
    · skip
      refine V_ld (pc := 68) dX11_told_68 (v := vr 30) rfl rfl ?_
      refine V_getIv (pc := 69) dX11_told_69 (v := mI (wI m Ix62) 30 9) fw_RX11_139 rfl hL.t30 rfl (fun g69 => ?_)
      refine V_goto (pc := 72) dX11_told_72 (tgt := 76) rfl ?_
      refine V_reti (pc := 76) dX11_told_76 trivial ?_
      refine ⟨mI (wI m Ix62), rfl, ?_, hF62⟩
      first
        | (exfalso; omega)
        | (refine toldV_r 1 (by omega) (by decide) ?_
           show _ = (if n = 0 then 0 else _)
           omega)
  by_cases h1_2 : k = 2
  · skip
    refine V_tsIn (pc := 1) dX11_told_1 (cx := 2) (off := 76) (tgt := 77) h1_2 (by omega) rfl rfl ?_
    refine V_ld (pc := 77) dX11_told_77 (v := vr 30) rfl rfl ?_
    refine V_getRv (pc := 78) dX11_told_78 (o' := 31) fw_RX11_9 rfl hL.t30 hL.r30_0 ?_
    refine V_sipush (pc := 81) dX11_told_81 (by unfold I32; omega) (by decide) ?_
    refine V_ialdv (pc := 84) dX11_told_84 (v := mI m 31 3336) hL.t31 (by omega) rfl (fun g84 => ?_)
    refine V_reti (pc := 85) dX11_told_85 trivial ?_
    refine ⟨mI m, rfl, ?_, (fun _ _ _ _ => rfl)⟩
    first
      | (exfalso; omega)
      | exact (toldV_n (by omega)).symm
      | exact toldV_r 0 (by omega) (by decide) rfl
      | exact toldV_r 1 (by omega) (by decide) rfl
      | exact toldV_r 2 (by omega) (by decide) rfl
      | exact toldV_r 3 (by omega) (by decide) rfl
      | exact toldV_r 4 (by omega) (by decide) rfl
      | exact toldV_r 5 (by omega) (by decide) rfl
      | exact toldV_r 6 (by omega) (by decide) rfl
      | exact toldV_r 7 (by omega) (by decide) rfl
      | exact toldV_r 8 (by omega) (by decide) rfl
      | exact toldV_r 9 (by omega) (by decide) rfl
  by_cases h1_3 : k = 3
  · skip
    refine V_tsIn (pc := 1) dX11_told_1 (cx := 3) (off := 85) (tgt := 86) h1_3 (by omega) rfl rfl ?_
    refine V_ld (pc := 86) dX11_told_86 (v := vr 30) rfl rfl ?_
    refine V_getRv (pc := 87) dX11_told_87 (o' := 31) fw_RX11_9 rfl hL.t30 hL.r30_0 ?_
    refine V_sipush (pc := 90) dX11_told_90 (by unfold I32; omega) (by decide) ?_
    refine V_ialdv (pc := 93) dX11_told_93 (v := mI m 31 3332) hL.t31 (by omega) rfl (fun g93 => ?_)
    refine V_reti (pc := 94) dX11_told_94 trivial ?_
    refine ⟨mI m, rfl, ?_, (fun _ _ _ _ => rfl)⟩
    first
      | (exfalso; omega)
      | exact (toldV_n (by omega)).symm
      | exact toldV_r 0 (by omega) (by decide) rfl
      | exact toldV_r 1 (by omega) (by decide) rfl
      | exact toldV_r 2 (by omega) (by decide) rfl
      | exact toldV_r 3 (by omega) (by decide) rfl
      | exact toldV_r 4 (by omega) (by decide) rfl
      | exact toldV_r 5 (by omega) (by decide) rfl
      | exact toldV_r 6 (by omega) (by decide) rfl
      | exact toldV_r 7 (by omega) (by decide) rfl
      | exact toldV_r 8 (by omega) (by decide) rfl
      | exact toldV_r 9 (by omega) (by decide) rfl
  by_cases h1_4 : k = 4
  · skip
    refine V_tsIn (pc := 1) dX11_told_1 (cx := 4) (off := 94) (tgt := 95) h1_4 (by omega) rfl rfl ?_
    refine V_ld (pc := 95) dX11_told_95 (v := vr 30) rfl rfl ?_
    refine V_getRv (pc := 96) dX11_told_96 (o' := 31) fw_RX11_9 rfl hL.t30 hL.r30_0 ?_
    refine V_sipush (pc := 99) dX11_told_99 (by unfold I32; omega) (by decide) ?_
    refine V_ialdv (pc := 102) dX11_told_102 (v := mI m 31 3333) hL.t31 (by omega) rfl (fun g102 => ?_)
    refine V_reti (pc := 103) dX11_told_103 trivial ?_
    refine ⟨mI m, rfl, ?_, (fun _ _ _ _ => rfl)⟩
    first
      | (exfalso; omega)
      | exact (toldV_n (by omega)).symm
      | exact toldV_r 0 (by omega) (by decide) rfl
      | exact toldV_r 1 (by omega) (by decide) rfl
      | exact toldV_r 2 (by omega) (by decide) rfl
      | exact toldV_r 3 (by omega) (by decide) rfl
      | exact toldV_r 4 (by omega) (by decide) rfl
      | exact toldV_r 5 (by omega) (by decide) rfl
      | exact toldV_r 6 (by omega) (by decide) rfl
      | exact toldV_r 7 (by omega) (by decide) rfl
      | exact toldV_r 8 (by omega) (by decide) rfl
      | exact toldV_r 9 (by omega) (by decide) rfl
  by_cases h1_5 : k = 5
  · skip
    refine V_tsIn (pc := 1) dX11_told_1 (cx := 5) (off := 103) (tgt := 104) h1_5 (by omega) rfl rfl ?_
    refine V_ld (pc := 104) dX11_told_104 (v := vr 30) rfl rfl ?_
    refine V_getRv (pc := 105) dX11_told_105 (o' := 31) fw_RX11_9 rfl hL.t30 hL.r30_0 ?_
    refine V_sipush (pc := 108) dX11_told_108 (by unfold I32; omega) (by decide) ?_
    refine V_ialdv (pc := 111) dX11_told_111 (v := mI m 31 3334) hL.t31 (by omega) rfl (fun g111 => ?_)
    refine V_reti (pc := 112) dX11_told_112 trivial ?_
    refine ⟨mI m, rfl, ?_, (fun _ _ _ _ => rfl)⟩
    first
      | (exfalso; omega)
      | exact (toldV_n (by omega)).symm
      | exact toldV_r 0 (by omega) (by decide) rfl
      | exact toldV_r 1 (by omega) (by decide) rfl
      | exact toldV_r 2 (by omega) (by decide) rfl
      | exact toldV_r 3 (by omega) (by decide) rfl
      | exact toldV_r 4 (by omega) (by decide) rfl
      | exact toldV_r 5 (by omega) (by decide) rfl
      | exact toldV_r 6 (by omega) (by decide) rfl
      | exact toldV_r 7 (by omega) (by decide) rfl
      | exact toldV_r 8 (by omega) (by decide) rfl
      | exact toldV_r 9 (by omega) (by decide) rfl
  by_cases h1_6 : k = 6
  · skip
    refine V_tsIn (pc := 1) dX11_told_1 (cx := 6) (off := 112) (tgt := 113) h1_6 (by omega) rfl rfl ?_
    refine V_ld (pc := 113) dX11_told_113 (v := vr 30) rfl rfl ?_
    refine V_getRv (pc := 114) dX11_told_114 (o' := 31) fw_RX11_9 rfl hL.t30 hL.r30_0 ?_
    refine V_sipush (pc := 117) dX11_told_117 (by unfold I32; omega) (by decide) ?_
    refine V_ialdv (pc := 120) dX11_told_120 (v := mI m 31 3335) hL.t31 (by omega) rfl (fun g120 => ?_)
    refine V_reti (pc := 121) dX11_told_121 trivial ?_
    refine ⟨mI m, rfl, ?_, (fun _ _ _ _ => rfl)⟩
    first
      | (exfalso; omega)
      | exact (toldV_n (by omega)).symm
      | exact toldV_r 0 (by omega) (by decide) rfl
      | exact toldV_r 1 (by omega) (by decide) rfl
      | exact toldV_r 2 (by omega) (by decide) rfl
      | exact toldV_r 3 (by omega) (by decide) rfl
      | exact toldV_r 4 (by omega) (by decide) rfl
      | exact toldV_r 5 (by omega) (by decide) rfl
      | exact toldV_r 6 (by omega) (by decide) rfl
      | exact toldV_r 7 (by omega) (by decide) rfl
      | exact toldV_r 8 (by omega) (by decide) rfl
      | exact toldV_r 9 (by omega) (by decide) rfl
  by_cases h1_7 : k = 7
  · skip
    refine V_tsIn (pc := 1) dX11_told_1 (cx := 7) (off := 121) (tgt := 122) h1_7 (by omega) rfl rfl ?_
    refine V_iconst (pc := 122) dX11_told_122 (by unfold I32; omega) ?_
    refine V_st (pc := 123) dX11_told_123 (ls' := [(2, vi 0), (0, vr 30), (1, vi k)]) rfl (Nat.le_of_ble_eq_true rfl) rfl ?_
    refine V_iconst (pc := 124) dX11_told_124 (by unfold I32; omega) ?_
    refine V_st (pc := 125) dX11_told_125 (ls' := [(3, vi 0), (2, vi 0), (0, vr 30), (1, vi k)]) rfl (Nat.le_of_ble_eq_true rfl) rfl ?_
    refine V_ls (ls' := [(3, vi 0), (2, vi 0), (1, vi k), (0, vr 30)]) (by intro q_ h_; simp only [List.mem_cons, List.not_mem_nil, or_false] at h_ ⊢; rcases h_ with rfl | rfl | rfl | rfl <;> simp) ?_
    refine L_rlwc (m := m) hL ?_ 26 0 (by omega)
    refine V_ld (pc := 164) dX11_told_164 (v := vi (mskF (fun j_ : Nat => decide (0 < mI m 31 (186 + 121 * j_))) 26)) rfl rfl ?_
    refine V_reti (pc := 165) dX11_told_165 trivial ?_
    refine ⟨mI m, rfl, ?_, (fun _ _ _ _ => rfl)⟩
    first
      | (exfalso; omega)
      | exact (toldV_n (by omega)).symm
      | exact toldV_r 0 (by omega) (by decide) rfl
      | exact toldV_r 1 (by omega) (by decide) rfl
      | exact toldV_r 2 (by omega) (by decide) rfl
      | exact toldV_r 3 (by omega) (by decide) rfl
      | exact toldV_r 4 (by omega) (by decide) rfl
      | exact toldV_r 5 (by omega) (by decide) rfl
      | exact toldV_r 6 (by omega) (by decide) rfl
      | exact toldV_r 7 (by omega) (by decide) rfl
      | exact toldV_r 8 (by omega) (by decide) rfl
      | exact toldV_r 9 (by omega) (by decide) rfl
  by_cases h1_8 : k = 8
  · skip
    refine V_tsIn (pc := 1) dX11_told_1 (cx := 8) (off := 165) (tgt := 166) h1_8 (by omega) rfl rfl ?_
    refine V_iconst (pc := 166) dX11_told_166 (by unfold I32; omega) ?_
    refine V_st (pc := 167) dX11_told_167 (ls' := [(3, vi 0), (0, vr 30), (1, vi k)]) rfl (Nat.le_of_ble_eq_true rfl) rfl ?_
    refine V_iconst (pc := 168) dX11_told_168 (by unfold I32; omega) ?_
    refine V_st (pc := 169) dX11_told_169 (ls' := [(4, vi 0), (3, vi 0), (0, vr 30), (1, vi k)]) rfl (Nat.le_of_ble_eq_true rfl) rfl ?_
    refine V_ls (ls' := [(4, vi 0), (3, vi 0), (1, vi k), (0, vr 30)]) (by intro q_ h_; simp only [List.mem_cons, List.not_mem_nil, or_false] at h_ ⊢; rcases h_ with rfl | rfl | rfl | rfl <;> simp) ?_
    refine L_rinr (F := 1) (m := m) (n := (mI m 31 64).toNat) hL hM (by omega) (by omega) ?_ (mI m 31 64).toNat 0 (by omega)
    refine V_ld (pc := 203) dX11_told_203 (v := vi (cn0 (fun i_ : Nat => covF (fun j_ : Nat => labR m (j_ : Int) (i_ : Int)) (mI m 31 3336).toNat) ((mI m 31 64).toNat))) rfl rfl ?_
    refine V_reti (pc := 204) dX11_told_204 trivial ?_
    refine ⟨mI m, rfl, ?_, (fun _ _ _ _ => rfl)⟩
    first
      | (exfalso; omega)
      | exact (toldV_n (by omega)).symm
      | exact toldV_r 0 (by omega) (by decide) rfl
      | exact toldV_r 1 (by omega) (by decide) rfl
      | exact toldV_r 2 (by omega) (by decide) rfl
      | exact toldV_r 3 (by omega) (by decide) rfl
      | exact toldV_r 4 (by omega) (by decide) rfl
      | exact toldV_r 5 (by omega) (by decide) rfl
      | exact toldV_r 6 (by omega) (by decide) rfl
      | exact toldV_r 7 (by omega) (by decide) rfl
      | exact toldV_r 8 (by omega) (by decide) rfl
      | exact toldV_r 9 (by omega) (by decide) rfl
  by_cases h1_9 : k = 9
  · skip
    refine V_tsIn (pc := 1) dX11_told_1 (cx := 9) (off := 204) (tgt := 205) h1_9 (by omega) rfl rfl ?_
    refine V_ld (pc := 205) dX11_told_205 (v := vr 30) rfl rfl ?_
    refine V_getIv (pc := 206) dX11_told_206 (v := mI m 30 4) fw_RX11_118 rfl hL.t30 rfl (fun g206 => ?_)
    refine V_reti (pc := 209) dX11_told_209 trivial ?_
    refine ⟨mI m, rfl, ?_, (fun _ _ _ _ => rfl)⟩
    first
      | (exfalso; omega)
      | exact (toldV_n (by omega)).symm
      | exact toldV_r 0 (by omega) (by decide) rfl
      | exact toldV_r 1 (by omega) (by decide) rfl
      | exact toldV_r 2 (by omega) (by decide) rfl
      | exact toldV_r 3 (by omega) (by decide) rfl
      | exact toldV_r 4 (by omega) (by decide) rfl
      | exact toldV_r 5 (by omega) (by decide) rfl
      | exact toldV_r 6 (by omega) (by decide) rfl
      | exact toldV_r 7 (by omega) (by decide) rfl
      | exact toldV_r 8 (by omega) (by decide) rfl
      | exact toldV_r 9 (by omega) (by decide) rfl
  refine V_tsOut (pc := 1) dX11_told_1 (tgt := 210) (by omega) rfl ?_
  refine V_iconst (pc := 210) dX11_told_210 (by unfold I32; omega) ?_
  refine V_reti (pc := 211) dX11_told_211 trivial ?_
  refine ⟨mI m, rfl, ?_, (fun _ _ _ _ => rfl)⟩
  first
    | (exfalso; omega)
    | exact (toldV_n (by omega)).symm
    | exact toldV_r 0 (by omega) (by decide) rfl
    | exact toldV_r 1 (by omega) (by decide) rfl
    | exact toldV_r 2 (by omega) (by decide) rfl
    | exact toldV_r 3 (by omega) (by decide) rfl
    | exact toldV_r 4 (by omega) (by decide) rfl
    | exact toldV_r 5 (by omega) (by decide) rfl
    | exact toldV_r 6 (by omega) (by decide) rfl
    | exact toldV_r 7 (by omega) (by decide) rfl
    | exact toldV_r 8 (by omega) (by decide) rfl
    | exact toldV_r 9 (by omega) (by decide) rfl

