/-! whether a condition holds: the class runs its code; class and reference ask it at a row -/
theorem run_short {e : CEnv} {s t : Int} {r : List Int} (h : ¬ isOp s) (hr : r.length ≤ 1) : runL e (s :: r) t = runL e r t := by
  have e0 : sgT s t = t := by
    unfold isOp at h
    unfold sgT
    rw [if_neg (by omega), if_neg (by omega), if_neg (by omega)]
  match r, hr with
  | [], _ => exact e0
  | [a], _ =>
    show sgT a (sgT s t) = sgT a t
    rw [e0]
theorem okL_short {r : List Int} (h : r.length ≤ 2) : okL r := by
  match r, h with
  | [], _ => trivial
  | [a], _ => trivial
  | [a, b], _ => trivial
theorem psh_1 {t : Int} {b : Bool} {x : Int} (h : x = bI b) (hx : ¬ x = 0) : or64 (shl64 t 1) 1 = psh t b := by
  unfold psh
  have := bI_v b
  rw [show bI b = 1 from by omega]
theorem psh_0 {t : Int} {b : Bool} {x : Int} (h : x = bI b) (hx : x = 0) : or64 (shl64 t 1) 0 = psh t b := by
  unfold psh
  rw [show bI b = 0 from by omega]

set_option maxHeartbeats 8000000 in
theorem L_isTrue {F : Nat} {m0 m : Mem} {post : Option AV → Mem → Prop} {c A : Nat} {row : Int} {e : CEnv} {cd : List Int} (hL : Lay (mT m) (mR m)) (hF : 3 < F) (Tc : mT m c = (0, 1)) (Rc : mR m c 0 = some A) (TA : mT m A = (20, cd.length)) (hA : AgC (mI m) row e) (hcd : ∀ k x, cd[k]? = some x → mI m A k = x) (hlen : cd.length ≤ 120) : ∀ (N i : Nat) (t : Int), cd.length ≤ N + i → i ≤ cd.length → okL (cd.drop i) → (∀ j : Int, V μX0_isTrue F m0 post 152 [(5, vi j), (3, vl (runL e (cd.drop i) t)), (0, vr c), (1, vr 9), (2, vi row)] [] m) → V μX0_isTrue F m0 post 5 [(5, vi (i : Int)), (3, vl t), (0, vr c), (1, vr 9), (2, vi row)] [] m := by
  intro N
  induction N with
  | zero =>
    intro i t h1 h2 hok kx
    have hd : cd.drop i = [] := List.drop_eq_nil_of_le (by omega)
    rw [hd] at kx
    refine V_ld (pc := 5) dX0_isTrue_5 (v := vi (i : Int)) rfl rfl ?_
    refine V_ld (pc := 7) dX0_isTrue_7 (v := vr c) rfl rfl ?_
    refine V_getRv (pc := 8) dX0_isTrue_8 (o' := A) fw_RX0_11 rfl Tc Rc ?_
    refine V_alen (pc := 11) dX0_isTrue_11 TA (by decide) (by omega) ?_
    refine V_icmp_ge (pc := 12) dX0_isTrue_12 (tgt := 152) rfl (fun h12 => ?_) (fun h12 => ?_)
    · skip
      skip
      exact kx i
    · skip
      exfalso; omega
  | succ N ih =>
    intro i t h1 h2 hok kx
    refine V_ld (pc := 5) dX0_isTrue_5 (v := vi (i : Int)) rfl rfl ?_
    refine V_ld (pc := 7) dX0_isTrue_7 (v := vr c) rfl rfl ?_
    refine V_getRv (pc := 8) dX0_isTrue_8 (o' := A) fw_RX0_11 rfl Tc Rc ?_
    refine V_alen (pc := 11) dX0_isTrue_11 TA (by decide) (by omega) ?_
    refine V_icmp_ge (pc := 12) dX0_isTrue_12 (tgt := 152) rfl (fun h12 => ?_) (fun h12 => ?_)
    · skip
      skip
      have hd : cd.drop i = [] := List.drop_eq_nil_of_le (by omega)
      rw [hd] at kx
      exact kx i
    · skip
      have hi : i < cd.length := by omega
      have hd := List.drop_eq_getElem_cons hi
      obtain ⟨s, hs⟩ : ∃ s, s = cd[i] := ⟨_, rfl⟩
      rw [← hs] at hd
      have hr0 : mI m A i = s := hcd i s (by rw [hs]; exact List.getElem?_eq_getElem hi)
      have hi1 : (i : Int) + 1 = ((i + 1 : Nat) : Int) := by omega
      refine V_ld (pc := 15) dX0_isTrue_15 (v := vr c) rfl rfl ?_
      refine V_getRv (pc := 16) dX0_isTrue_16 (o' := A) fw_RX0_11 rfl Tc Rc ?_
      refine V_ld (pc := 19) dX0_isTrue_19 (v := vi (i : Int)) rfl rfl ?_
      refine V_ialdv (pc := 21) dX0_isTrue_21 (v := s) TA (by omega) hr0 (fun g21 => ?_)
      refine V_st (pc := 22) dX0_isTrue_22 (ls' := [(6, vi s), (5, vi (i : Int)), (3, vl t), (0, vr c), (1, vr 9), (2, vi row)]) rfl (Nat.le_of_ble_eq_true rfl) rfl ?_
      refine V_ld (pc := 24) dX0_isTrue_24 (v := vi s) rfl rfl ?_
      refine V_bipush (pc := 26) dX0_isTrue_26 (by unfold I32; omega) (by decide) ?_
      refine V_icmp_ne (pc := 28) dX0_isTrue_28 (tgt := 38) rfl (fun h28 => ?_) (fun h28 => ?_)
      · skip
        refine V_ld (pc := 38) dX0_isTrue_38 (v := vi s) rfl rfl ?_
        refine V_bipush (pc := 40) dX0_isTrue_40 (by unfold I32; omega) (by decide) ?_
        refine V_icmp_ne (pc := 42) dX0_isTrue_42 (tgt := 58) rfl (fun h42 => ?_) (fun h42 => ?_)
        · skip
          refine V_ld (pc := 58) dX0_isTrue_58 (v := vi s) rfl rfl ?_
          refine V_bipush (pc := 60) dX0_isTrue_60 (by unfold I32; omega) (by decide) ?_
          refine V_icmp_ne (pc := 62) dX0_isTrue_62 (tgt := 76) rfl (fun h62 => ?_) (fun h62 => ?_)
          · skip
            refine V_ld (pc := 76) dX0_isTrue_76 (v := vi (i : Int)) rfl rfl ?_
            refine V_iconst (pc := 78) dX0_isTrue_78 (by unfold I32; omega) ?_
            refine V_iadd (pc := 79) dX0_isTrue_79 (by unfold I32 at *; omega) ?_
            refine V_ld (pc := 80) dX0_isTrue_80 (v := vr c) rfl rfl ?_
            refine V_getRv (pc := 81) dX0_isTrue_81 (o' := A) fw_RX0_11 rfl Tc Rc ?_
            refine V_alen (pc := 84) dX0_isTrue_84 TA (by decide) (by omega) ?_
            refine V_icmp_ge (pc := 85) dX0_isTrue_85 (tgt := 146) rfl (fun h85 => ?_) (fun h85 => ?_)
            · skip
              refine V_iinc (pc := 146) dX0_isTrue_146 (x := (i : Int)) (ls' := [(5, vi ((i : Int) + 1)), (6, vi s), (3, vl t), (0, vr c), (1, vr 9), (2, vi row)]) rfl (by unfold I32 at *; omega) (Nat.le_of_ble_eq_true rfl) rfl ?_
              refine V_goto (pc := 149) dX0_isTrue_149 (tgt := 5) rfl ?_
              refine V_ls (ls' := [(5, vi ((i : Int) + 1)), (3, vl t), (0, vr c), (1, vr 9), (2, vi row)]) (by intro q_ h_; simp only [List.mem_cons, List.not_mem_nil, or_false] at h_ ⊢; rcases h_ with rfl | rfl | rfl | rfl | rfl <;> simp) ?_
              rw [hi1]
              first
                | (have hop : isOp s := by unfold isOp; omega
                   have e_ : runL e (cd.drop i) t = runL e (cd.drop (i + 1)) (t) := by
                     rw [hd, runL_op hop]
                     congr 1
                     unfold sgT
                     first | (rw [if_pos (by omega)]) | (rw [if_neg (by omega), if_pos (by omega)]) | (rw [if_neg (by omega), if_neg (by omega), if_pos (by omega)])
                   have ok_ := hok
                   rw [hd, okL_op hop] at ok_
                   refine ih (i + 1) (t) (by omega) (by omega) ok_ (fun j => ?_)
                   rw [← e_]
                   exact kx j)
                | (have hop : ¬ isOp s := by unfold isOp; omega
                   have hl_ : (cd.drop (i + 1)).length ≤ 1 := by rw [List.length_drop]; omega
                   have e_ : runL e (cd.drop i) t = runL e (cd.drop (i + 1)) t := by rw [hd, run_short hop hl_]
                   refine ih (i + 1) t (by omega) (by omega) (okL_short (by omega)) (fun j => ?_)
                   rw [← e_]
                   exact kx j)
            · skip
              have hi1l : i + 1 < cd.length := by omega
              have hi2l : i + 2 < cd.length := by omega
              have hd1 := List.drop_eq_getElem_cons hi1l
              have hd2 := List.drop_eq_getElem_cons hi2l
              have hop : ¬ isOp s := by unfold isOp; omega
              have hok2 := hok
              rw [hd, hd1, hd2, okL_tst hop] at hok2
              obtain ⟨⟨ka, da, hka, hea⟩, ⟨kb, db, hkb, heb⟩, hok3⟩ := hok2
              have hr1 : mI m A ((i : Int) + 1).toNat = opc ka da := by
                rw [show ((i : Int) + 1).toNat = i + 1 from by omega]
                exact hcd _ _ (by rw [List.getElem?_eq_getElem hi1l, hea])
              have hr2 : mI m A ((i : Int) + 2).toNat = opc kb db := by
                rw [show ((i : Int) + 2).toNat = i + 2 from by omega]
                exact hcd _ _ (by rw [List.getElem?_eq_getElem hi2l, heb])
              have hi3 : (i : Int) + 2 + 1 = ((i + 3 : Nat) : Int) := by omega
              refine V_ld (pc := 88) dX0_isTrue_88 (v := vr c) rfl rfl ?_
              refine V_getRv (pc := 89) dX0_isTrue_89 (o' := A) fw_RX0_11 rfl Tc Rc ?_
              refine V_ld (pc := 92) dX0_isTrue_92 (v := vi (i : Int)) rfl rfl ?_
              refine V_iconst (pc := 94) dX0_isTrue_94 (by unfold I32; omega) ?_
              refine V_iadd (pc := 95) dX0_isTrue_95 (by unfold I32 at *; omega) ?_
              refine V_ialdv (pc := 96) dX0_isTrue_96 (v := opc ka da) TA (by omega) hr1 (fun g96 => ?_)
              refine V_ld (pc := 97) dX0_isTrue_97 (v := vr 9) rfl rfl ?_
              refine V_ld (pc := 98) dX0_isTrue_98 (v := vi row) rfl rfl ?_
              refine V_callS (pc := 99) dX0_isTrue_99 (F' := 2) (As := [vi (opc ka da), vr 9, vi row]) (st := []) cw_RX0_19 rfl rfl (Nat.le_of_ble_eq_true rfl) (by omega) (d_value e ka da m (opc ka da) row   (by first | assumption | omega) hA ⟨hka, rfl⟩) ?_
              rintro _ _ ⟨x99, rfl, hx99, rfl⟩ ok99 le99
              refine V_st (pc := 102) dX0_isTrue_102 (ls' := [(7, vi x99), (6, vi s), (5, vi (i : Int)), (3, vl t), (0, vr c), (1, vr 9), (2, vi row)]) rfl (Nat.le_of_ble_eq_true rfl) rfl ?_
              refine V_ld (pc := 104) dX0_isTrue_104 (v := vr c) rfl rfl ?_
              refine V_getRv (pc := 105) dX0_isTrue_105 (o' := A) fw_RX0_11 rfl Tc Rc ?_
              refine V_ld (pc := 108) dX0_isTrue_108 (v := vi (i : Int)) rfl rfl ?_
              refine V_iconst (pc := 110) dX0_isTrue_110 (by unfold I32; omega) ?_
              refine V_iadd (pc := 111) dX0_isTrue_111 (by unfold I32 at *; omega) ?_
              refine V_ialdv (pc := 112) dX0_isTrue_112 (v := opc kb db) TA (by omega) hr2 (fun g112 => ?_)
              refine V_ld (pc := 113) dX0_isTrue_113 (v := vr 9) rfl rfl ?_
              refine V_ld (pc := 114) dX0_isTrue_114 (v := vi row) rfl rfl ?_
              refine V_callS (pc := 115) dX0_isTrue_115 (F' := 2) (As := [vi (opc kb db), vr 9, vi row]) (st := []) cw_RX0_19 rfl rfl (Nat.le_of_ble_eq_true rfl) (by omega) (d_value e kb db m (opc kb db) row   (by first | assumption | omega) hA ⟨hkb, rfl⟩) ?_
              rintro _ _ ⟨x115, rfl, hx115, rfl⟩ ok115 le115
              refine V_st (pc := 118) dX0_isTrue_118 (ls' := [(8, vi x115), (7, vi x99), (6, vi s), (5, vi (i : Int)), (3, vl t), (0, vr c), (1, vr 9), (2, vi row)]) rfl (Nat.le_of_ble_eq_true rfl) rfl ?_
              refine V_ld (pc := 120) dX0_isTrue_120 (v := vl t) rfl rfl ?_
              refine V_iconst (pc := 121) dX0_isTrue_121 (by unfold I32; omega) ?_
              refine V_lshl (pc := 122) dX0_isTrue_122 ?_
              refine V_ld (pc := 123) dX0_isTrue_123 (v := vi x99) rfl rfl ?_
              refine V_ld (pc := 125) dX0_isTrue_125 (v := vi s) rfl rfl ?_
              refine V_ld (pc := 127) dX0_isTrue_127 (v := vi x115) rfl rfl ?_
              refine V_callS (pc := 129) dX0_isTrue_129 (F' := 0) (As := [vi x99, vi s, vi x115]) (st := [vl (shl64 t 1)]) cw_RX0_23 rfl rfl (Nat.le_of_ble_eq_true rfl) (by omega) (d_compared (valC e ka da) (valC e kb db) m x99 s x115   hx99 hx115) ?_
              rintro _ _ ⟨x129, rfl, hx129, rfl⟩ ok129 le129
              refine V_if_eq (pc := 132) dX0_isTrue_132 (tgt := 139) rfl (fun h132 => ?_) (fun h132 => ?_)
              · skip
                refine V_iconst (pc := 139) dX0_isTrue_139 (by unfold I32; omega) ?_
                refine V_i2l (pc := 140) dX0_isTrue_140 ?_
                refine V_lor (pc := 141) dX0_isTrue_141 ?_
                refine V_st (pc := 142) dX0_isTrue_142 (ls' := [(3, vl (or64 (shl64 t 1) 0)), (8, vi x115), (7, vi x99), (6, vi s), (5, vi (i : Int)), (0, vr c), (1, vr 9), (2, vi row)]) rfl (Nat.le_of_ble_eq_true rfl) rfl ?_
                refine V_iinc (pc := 143) dX0_isTrue_143 (x := (i : Int)) (ls' := [(5, vi ((i : Int) + 2)), (3, vl (or64 (shl64 t 1) 0)), (8, vi x115), (7, vi x99), (6, vi s), (0, vr c), (1, vr 9), (2, vi row)]) rfl (by unfold I32 at *; omega) (Nat.le_of_ble_eq_true rfl) rfl ?_
                refine V_iinc (pc := 146) dX0_isTrue_146 (x := ((i : Int) + 2)) (ls' := [(5, vi (((i : Int) + 2) + 1)), (3, vl (or64 (shl64 t 1) 0)), (8, vi x115), (7, vi x99), (6, vi s), (0, vr c), (1, vr 9), (2, vi row)]) rfl (by unfold I32 at *; omega) (Nat.le_of_ble_eq_true rfl) rfl ?_
                refine V_goto (pc := 149) dX0_isTrue_149 (tgt := 5) rfl ?_
                refine V_ls (ls' := [(5, vi (((i : Int) + 2) + 1)), (3, vl (or64 (shl64 t 1) 0)), (0, vr c), (1, vr 9), (2, vi row)]) (by intro q_ h_; simp only [List.mem_cons, List.not_mem_nil, or_false] at h_ ⊢; rcases h_ with rfl | rfl | rfl | rfl | rfl <;> simp) ?_
                rw [hi3]
                refine ih (i + 3) (or64 (shl64 t 1) 0) (by omega) (by omega) hok3 ?_
                intro j
                have e_ : runL e (cd.drop i) t = runL e (cd.drop (i + 3)) (or64 (shl64 t 1) 0) := by
                  rw [hd, hd1, hd2, runL_tst hop, hea, heb, valZ_opc hka, valZ_opc hkb]
                  rw [psh_0 hx129 h132]
                rw [← e_]
                exact kx j
              · skip
                refine V_iconst (pc := 135) dX0_isTrue_135 (by unfold I32; omega) ?_
                refine V_goto (pc := 136) dX0_isTrue_136 (tgt := 140) rfl ?_
                refine V_i2l (pc := 140) dX0_isTrue_140 ?_
                refine V_lor (pc := 141) dX0_isTrue_141 ?_
                refine V_st (pc := 142) dX0_isTrue_142 (ls' := [(3, vl (or64 (shl64 t 1) 1)), (8, vi x115), (7, vi x99), (6, vi s), (5, vi (i : Int)), (0, vr c), (1, vr 9), (2, vi row)]) rfl (Nat.le_of_ble_eq_true rfl) rfl ?_
                refine V_iinc (pc := 143) dX0_isTrue_143 (x := (i : Int)) (ls' := [(5, vi ((i : Int) + 2)), (3, vl (or64 (shl64 t 1) 1)), (8, vi x115), (7, vi x99), (6, vi s), (0, vr c), (1, vr 9), (2, vi row)]) rfl (by unfold I32 at *; omega) (Nat.le_of_ble_eq_true rfl) rfl ?_
                refine V_iinc (pc := 146) dX0_isTrue_146 (x := ((i : Int) + 2)) (ls' := [(5, vi (((i : Int) + 2) + 1)), (3, vl (or64 (shl64 t 1) 1)), (8, vi x115), (7, vi x99), (6, vi s), (0, vr c), (1, vr 9), (2, vi row)]) rfl (by unfold I32 at *; omega) (Nat.le_of_ble_eq_true rfl) rfl ?_
                refine V_goto (pc := 149) dX0_isTrue_149 (tgt := 5) rfl ?_
                refine V_ls (ls' := [(5, vi (((i : Int) + 2) + 1)), (3, vl (or64 (shl64 t 1) 1)), (0, vr c), (1, vr 9), (2, vi row)]) (by intro q_ h_; simp only [List.mem_cons, List.not_mem_nil, or_false] at h_ ⊢; rcases h_ with rfl | rfl | rfl | rfl | rfl <;> simp) ?_
                rw [hi3]
                refine ih (i + 3) (or64 (shl64 t 1) 1) (by omega) (by omega) hok3 ?_
                intro j
                have e_ : runL e (cd.drop i) t = runL e (cd.drop (i + 3)) (or64 (shl64 t 1) 1) := by
                  rw [hd, hd1, hd2, runL_tst hop, hea, heb, valZ_opc hka, valZ_opc hkb]
                  rw [psh_1 hx129 h132]
                rw [← e_]
                exact kx j
          · skip
            refine V_ld (pc := 65) dX0_isTrue_65 (v := vl t) rfl rfl ?_
            refine V_iconst (pc := 66) dX0_isTrue_66 (by unfold I32; omega) ?_
            refine V_lshr (pc := 67) dX0_isTrue_67 ?_
            refine V_ld (pc := 68) dX0_isTrue_68 (v := vl t) rfl rfl ?_
            refine V_lconst (pc := 69) dX0_isTrue_69 (x := 1) (by unfold I64; omega) (by decide) ?_
            refine V_land (pc := 70) dX0_isTrue_70 ?_
            refine V_lor (pc := 71) dX0_isTrue_71 ?_
            refine V_st (pc := 72) dX0_isTrue_72 (ls' := [(3, vl (or64 (shr64 t 1) (and64 t 1))), (6, vi s), (5, vi (i : Int)), (0, vr c), (1, vr 9), (2, vi row)]) rfl (Nat.le_of_ble_eq_true rfl) rfl ?_
            refine V_goto (pc := 73) dX0_isTrue_73 (tgt := 146) rfl ?_
            refine V_iinc (pc := 146) dX0_isTrue_146 (x := (i : Int)) (ls' := [(5, vi ((i : Int) + 1)), (3, vl (or64 (shr64 t 1) (and64 t 1))), (6, vi s), (0, vr c), (1, vr 9), (2, vi row)]) rfl (by unfold I32 at *; omega) (Nat.le_of_ble_eq_true rfl) rfl ?_
            refine V_goto (pc := 149) dX0_isTrue_149 (tgt := 5) rfl ?_
            refine V_ls (ls' := [(5, vi ((i : Int) + 1)), (3, vl (or64 (shr64 t 1) (and64 t 1))), (0, vr c), (1, vr 9), (2, vi row)]) (by intro q_ h_; simp only [List.mem_cons, List.not_mem_nil, or_false] at h_ ⊢; rcases h_ with rfl | rfl | rfl | rfl | rfl <;> simp) ?_
            rw [hi1]
            first
              | (have hop : isOp s := by unfold isOp; omega
                 have e_ : runL e (cd.drop i) t = runL e (cd.drop (i + 1)) (or64 (shr64 t 1) (and64 t 1)) := by
                   rw [hd, runL_op hop]
                   congr 1
                   unfold sgT
                   first | (rw [if_pos (by omega)]) | (rw [if_neg (by omega), if_pos (by omega)]) | (rw [if_neg (by omega), if_neg (by omega), if_pos (by omega)])
                 have ok_ := hok
                 rw [hd, okL_op hop] at ok_
                 refine ih (i + 1) (or64 (shr64 t 1) (and64 t 1)) (by omega) (by omega) ok_ (fun j => ?_)
                 rw [← e_]
                 exact kx j)
              | (have hop : ¬ isOp s := by unfold isOp; omega
                 have hl_ : (cd.drop (i + 1)).length ≤ 1 := by rw [List.length_drop]; omega
                 have e_ : runL e (cd.drop i) t = runL e (cd.drop (i + 1)) t := by rw [hd, run_short hop hl_]
                 refine ih (i + 1) t (by omega) (by omega) (okL_short (by omega)) (fun j => ?_)
                 rw [← e_]
                 exact kx j)
        · skip
          refine V_ld (pc := 45) dX0_isTrue_45 (v := vl t) rfl rfl ?_
          refine V_iconst (pc := 46) dX0_isTrue_46 (by unfold I32; omega) ?_
          refine V_lshr (pc := 47) dX0_isTrue_47 ?_
          refine V_ld (pc := 48) dX0_isTrue_48 (v := vl t) rfl rfl ?_
          refine V_ldc2 (pc := 49) dX0_isTrue_49 (x := (-2)) kl_RX0_17 (by unfold I64; omega) rfl ?_
          refine V_lor (pc := 52) dX0_isTrue_52 ?_
          refine V_land (pc := 53) dX0_isTrue_53 ?_
          refine V_st (pc := 54) dX0_isTrue_54 (ls' := [(3, vl (and64 (shr64 t 1) (or64 t (-2)))), (6, vi s), (5, vi (i : Int)), (0, vr c), (1, vr 9), (2, vi row)]) rfl (Nat.le_of_ble_eq_true rfl) rfl ?_
          refine V_goto (pc := 55) dX0_isTrue_55 (tgt := 146) rfl ?_
          refine V_iinc (pc := 146) dX0_isTrue_146 (x := (i : Int)) (ls' := [(5, vi ((i : Int) + 1)), (3, vl (and64 (shr64 t 1) (or64 t (-2)))), (6, vi s), (0, vr c), (1, vr 9), (2, vi row)]) rfl (by unfold I32 at *; omega) (Nat.le_of_ble_eq_true rfl) rfl ?_
          refine V_goto (pc := 149) dX0_isTrue_149 (tgt := 5) rfl ?_
          refine V_ls (ls' := [(5, vi ((i : Int) + 1)), (3, vl (and64 (shr64 t 1) (or64 t (-2)))), (0, vr c), (1, vr 9), (2, vi row)]) (by intro q_ h_; simp only [List.mem_cons, List.not_mem_nil, or_false] at h_ ⊢; rcases h_ with rfl | rfl | rfl | rfl | rfl <;> simp) ?_
          rw [hi1]
          first
            | (have hop : isOp s := by unfold isOp; omega
               have e_ : runL e (cd.drop i) t = runL e (cd.drop (i + 1)) (and64 (shr64 t 1) (or64 t (-2))) := by
                 rw [hd, runL_op hop]
                 congr 1
                 unfold sgT
                 first | (rw [if_pos (by omega)]) | (rw [if_neg (by omega), if_pos (by omega)]) | (rw [if_neg (by omega), if_neg (by omega), if_pos (by omega)])
               have ok_ := hok
               rw [hd, okL_op hop] at ok_
               refine ih (i + 1) (and64 (shr64 t 1) (or64 t (-2))) (by omega) (by omega) ok_ (fun j => ?_)
               rw [← e_]
               exact kx j)
            | (have hop : ¬ isOp s := by unfold isOp; omega
               have hl_ : (cd.drop (i + 1)).length ≤ 1 := by rw [List.length_drop]; omega
               have e_ : runL e (cd.drop i) t = runL e (cd.drop (i + 1)) t := by rw [hd, run_short hop hl_]
               refine ih (i + 1) t (by omega) (by omega) (okL_short (by omega)) (fun j => ?_)
               rw [← e_]
               exact kx j)
      · skip
        refine V_ld (pc := 31) dX0_isTrue_31 (v := vl t) rfl rfl ?_
        refine V_lconst (pc := 32) dX0_isTrue_32 (x := 1) (by unfold I64; omega) (by decide) ?_
        refine V_lxor (pc := 33) dX0_isTrue_33 ?_
        refine V_st (pc := 34) dX0_isTrue_34 (ls' := [(3, vl (xor64 t 1)), (6, vi s), (5, vi (i : Int)), (0, vr c), (1, vr 9), (2, vi row)]) rfl (Nat.le_of_ble_eq_true rfl) rfl ?_
        refine V_goto (pc := 35) dX0_isTrue_35 (tgt := 146) rfl ?_
        refine V_iinc (pc := 146) dX0_isTrue_146 (x := (i : Int)) (ls' := [(5, vi ((i : Int) + 1)), (3, vl (xor64 t 1)), (6, vi s), (0, vr c), (1, vr 9), (2, vi row)]) rfl (by unfold I32 at *; omega) (Nat.le_of_ble_eq_true rfl) rfl ?_
        refine V_goto (pc := 149) dX0_isTrue_149 (tgt := 5) rfl ?_
        refine V_ls (ls' := [(5, vi ((i : Int) + 1)), (3, vl (xor64 t 1)), (0, vr c), (1, vr 9), (2, vi row)]) (by intro q_ h_; simp only [List.mem_cons, List.not_mem_nil, or_false] at h_ ⊢; rcases h_ with rfl | rfl | rfl | rfl | rfl <;> simp) ?_
        rw [hi1]
        first
          | (have hop : isOp s := by unfold isOp; omega
             have e_ : runL e (cd.drop i) t = runL e (cd.drop (i + 1)) (xor64 t 1) := by
               rw [hd, runL_op hop]
               congr 1
               unfold sgT
               first | (rw [if_pos (by omega)]) | (rw [if_neg (by omega), if_pos (by omega)]) | (rw [if_neg (by omega), if_neg (by omega), if_pos (by omega)])
             have ok_ := hok
             rw [hd, okL_op hop] at ok_
             refine ih (i + 1) (xor64 t 1) (by omega) (by omega) ok_ (fun j => ?_)
             rw [← e_]
             exact kx j)
          | (have hop : ¬ isOp s := by unfold isOp; omega
             have hl_ : (cd.drop (i + 1)).length ≤ 1 := by rw [List.length_drop]; omega
             have e_ : runL e (cd.drop i) t = runL e (cd.drop (i + 1)) t := by rw [hd, run_short hop hl_]
             refine ih (i + 1) t (by omega) (by omega) (okL_short (by omega)) (fun j => ?_)
             rw [← e_]
             exact kx j)

set_option maxHeartbeats 4000000 in
theorem d_isTrue (e : CEnv) (cd : List Int) (m : Mem) (c : Nat) (row : Int) (A : Nat)  (hL : Lay (mT m) (mR m)) (T_c : mT m c = (0, 1)) (R_c_0 : mR m c 0 = some A) (TA : mT m A = (20, cd.length)) (hA : AgC (mI m) row e) (hcd : ∀ k x, cd[k]? = some x → mI m A k = x) (hok : okL cd ∧ cd.length ≤ 120) : Ct μX0_isTrue 4 [vr c, vr 9, vi row] m (ri fun x_ m' => (x_ = if and64 (runL e cd 0) 1 = 1 then 1 else 0) ∧ m = m') := by
  refine Ct_of_V rfl (by decide) rfl (Nat.le_of_ble_eq_true rfl) ?_
  show V μX0_isTrue 4 m _ 0 [(0, vr c), (1, vr 9), (2, vi row)] [] m
  refine V_rg (k := 2) (x := row) rfl fun r_row => ?_
  refine V_lconst (pc := 0) dX0_isTrue_0 (x := 0) (by unfold I64; omega) (by decide) ?_
  refine V_st (pc := 1) dX0_isTrue_1 (ls' := [(3, vl 0), (0, vr c), (1, vr 9), (2, vi row)]) rfl (Nat.le_of_ble_eq_true rfl) rfl ?_
  refine V_iconst (pc := 2) dX0_isTrue_2 (by unfold I32; omega) ?_
  refine V_st (pc := 3) dX0_isTrue_3 (ls' := [(5, vi 0), (3, vl 0), (0, vr c), (1, vr 9), (2, vi row)]) rfl (Nat.le_of_ble_eq_true rfl) rfl ?_
  skip
  refine L_isTrue (m := m) (c := c) (A := A) (row := row) (e := e) (cd := cd) hL (by omega) T_c R_c_0 TA hA hcd hok.2 cd.length 0 0 (by omega) (Nat.zero_le _) hok.1 ?_
  intro j
  have h0_ : cd.drop 0 = cd := rfl
  rw [h0_]
  refine V_ld (pc := 152) dX0_isTrue_152 (v := vl (runL e cd 0)) rfl rfl ?_
  refine V_lconst (pc := 153) dX0_isTrue_153 (x := 1) (by unfold I64; omega) (by decide) ?_
  refine V_land (pc := 154) dX0_isTrue_154 ?_
  refine V_lconst (pc := 155) dX0_isTrue_155 (x := 1) (by unfold I64; omega) (by decide) ?_
  refine V_lcmp (pc := 156) dX0_isTrue_156 ?_
  refine V_if_ne (pc := 157) dX0_isTrue_157 (tgt := 164) rfl (fun h157 => ?_) (fun h157 => ?_)
  · skip
    refine V_iconst (pc := 164) dX0_isTrue_164 (by unfold I32; omega) ?_
    refine V_reti (pc := 165) dX0_isTrue_165 (show _ = (0 : Int) ∨ _ = (1 : Int) from by first | exact Or.inl rfl | exact Or.inr rfl | omega) ?_
    refine ⟨?_, rfl⟩
    unfold cmpI at *
    first | (rw [if_pos (by omega)]) | (rw [if_neg (by omega)])
  · skip
    refine V_iconst (pc := 160) dX0_isTrue_160 (by unfold I32; omega) ?_
    refine V_goto (pc := 161) dX0_isTrue_161 (tgt := 165) rfl ?_
    refine V_reti (pc := 165) dX0_isTrue_165 (show _ = (0 : Int) ∨ _ = (1 : Int) from by first | exact Or.inl rfl | exact Or.inr rfl | omega) ?_
    refine ⟨?_, rfl⟩
    unfold cmpI at *
    first | (rw [if_pos (by omega)]) | (rw [if_neg (by omega)])
