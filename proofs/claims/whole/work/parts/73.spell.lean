/-! spell(): quantities are written, class and reference -/
set_option maxHeartbeats 4000000 in
theorem c_needs  (m : Mem) (a : Int) (b : Int)    : Ct μX4_needsBrackets 0 [vi a, vi b] m (ri fun x_ m' => (x_ = if needB a b then 1 else 0) ∧ m = m') := by
  refine Ct_of_V rfl (by decide) rfl (Nat.le_of_ble_eq_true rfl) ?_
  show V μX4_needsBrackets 0 m _ 0 [(0, vi a), (1, vi b)] [] m
  refine V_rg (k := 0) (x := a) rfl fun r_a => ?_
  refine V_rg (k := 1) (x := b) rfl fun r_b => ?_
  refine V_ld (pc := 0) dX4_needsBrackets_0 (v := vi a) rfl rfl ?_
  by_cases h1_3 : a = 3
  · skip
    refine V_tsIn (pc := 1) dX4_needsBrackets_1 (cx := 3) (off := 27) (tgt := 28) h1_3 (by omega) rfl rfl ?_
    refine V_ld (pc := 28) dX4_needsBrackets_28 (v := vi b) rfl rfl ?_
    refine V_iconst (pc := 29) dX4_needsBrackets_29 (by unfold I32; omega) ?_
    refine V_icmp_eq (pc := 30) dX4_needsBrackets_30 (tgt := 38) rfl (fun h30 => ?_) (fun h30 => ?_)
    · skip
      refine V_iconst (pc := 38) dX4_needsBrackets_38 (by unfold I32; omega) ?_
      refine V_goto (pc := 39) dX4_needsBrackets_39 (tgt := 43) rfl ?_
      refine V_reti (pc := 43) dX4_needsBrackets_43 (show _ = (0 : Int) ∨ _ = (1 : Int) from by first | exact Or.inl rfl | exact Or.inr rfl | omega) ?_
      refine ⟨?_, rfl⟩
      unfold needB
      omega
    · skip
      refine V_ld (pc := 33) dX4_needsBrackets_33 (v := vi b) rfl rfl ?_
      refine V_iconst (pc := 34) dX4_needsBrackets_34 (by unfold I32; omega) ?_
      refine V_icmp_ne (pc := 35) dX4_needsBrackets_35 (tgt := 42) rfl (fun h35 => ?_) (fun h35 => ?_)
      · skip
        refine V_iconst (pc := 42) dX4_needsBrackets_42 (by unfold I32; omega) ?_
        refine V_reti (pc := 43) dX4_needsBrackets_43 (show _ = (0 : Int) ∨ _ = (1 : Int) from by first | exact Or.inl rfl | exact Or.inr rfl | omega) ?_
        refine ⟨?_, rfl⟩
        unfold needB
        omega
      · skip
        refine V_iconst (pc := 38) dX4_needsBrackets_38 (by unfold I32; omega) ?_
        refine V_goto (pc := 39) dX4_needsBrackets_39 (tgt := 43) rfl ?_
        refine V_reti (pc := 43) dX4_needsBrackets_43 (show _ = (0 : Int) ∨ _ = (1 : Int) from by first | exact Or.inl rfl | exact Or.inr rfl | omega) ?_
        refine ⟨?_, rfl⟩
        unfold needB
        omega
  by_cases h1_4 : a = 4
  · skip
    refine V_tsIn (pc := 1) dX4_needsBrackets_1 (cx := 4) (off := 43) (tgt := 44) h1_4 (by omega) rfl rfl ?_
    refine V_ld (pc := 44) dX4_needsBrackets_44 (v := vi b) rfl rfl ?_
    refine V_iconst (pc := 45) dX4_needsBrackets_45 (by unfold I32; omega) ?_
    refine V_icmp_ne (pc := 46) dX4_needsBrackets_46 (tgt := 53) rfl (fun h46 => ?_) (fun h46 => ?_)
    · skip
      refine V_iconst (pc := 53) dX4_needsBrackets_53 (by unfold I32; omega) ?_
      refine V_reti (pc := 54) dX4_needsBrackets_54 (show _ = (0 : Int) ∨ _ = (1 : Int) from by first | exact Or.inl rfl | exact Or.inr rfl | omega) ?_
      refine ⟨?_, rfl⟩
      unfold needB
      omega
    · skip
      refine V_iconst (pc := 49) dX4_needsBrackets_49 (by unfold I32; omega) ?_
      refine V_goto (pc := 50) dX4_needsBrackets_50 (tgt := 54) rfl ?_
      refine V_reti (pc := 54) dX4_needsBrackets_54 (show _ = (0 : Int) ∨ _ = (1 : Int) from by first | exact Or.inl rfl | exact Or.inr rfl | omega) ?_
      refine ⟨?_, rfl⟩
      unfold needB
      omega
  by_cases h1_5 : a = 5
  · skip
    refine V_tsIn (pc := 1) dX4_needsBrackets_1 (cx := 5) (off := 54) (tgt := 55) h1_5 (by omega) rfl rfl ?_
    refine V_ld (pc := 55) dX4_needsBrackets_55 (v := vi b) rfl rfl ?_
    refine V_iconst (pc := 56) dX4_needsBrackets_56 (by unfold I32; omega) ?_
    refine V_icmp_eq (pc := 57) dX4_needsBrackets_57 (tgt := 70) rfl (fun h57 => ?_) (fun h57 => ?_)
    · skip
      refine V_iconst (pc := 70) dX4_needsBrackets_70 (by unfold I32; omega) ?_
      refine V_goto (pc := 71) dX4_needsBrackets_71 (tgt := 75) rfl ?_
      refine V_reti (pc := 75) dX4_needsBrackets_75 (show _ = (0 : Int) ∨ _ = (1 : Int) from by first | exact Or.inl rfl | exact Or.inr rfl | omega) ?_
      refine ⟨?_, rfl⟩
      unfold needB
      omega
    · skip
      refine V_ld (pc := 60) dX4_needsBrackets_60 (v := vi b) rfl rfl ?_
      refine V_iconst (pc := 61) dX4_needsBrackets_61 (by unfold I32; omega) ?_
      refine V_icmp_eq (pc := 62) dX4_needsBrackets_62 (tgt := 70) rfl (fun h62 => ?_) (fun h62 => ?_)
      · skip
        refine V_iconst (pc := 70) dX4_needsBrackets_70 (by unfold I32; omega) ?_
        refine V_goto (pc := 71) dX4_needsBrackets_71 (tgt := 75) rfl ?_
        refine V_reti (pc := 75) dX4_needsBrackets_75 (show _ = (0 : Int) ∨ _ = (1 : Int) from by first | exact Or.inl rfl | exact Or.inr rfl | omega) ?_
        refine ⟨?_, rfl⟩
        unfold needB
        omega
      · skip
        refine V_ld (pc := 65) dX4_needsBrackets_65 (v := vi b) rfl rfl ?_
        refine V_iconst (pc := 66) dX4_needsBrackets_66 (by unfold I32; omega) ?_
        refine V_icmp_ne (pc := 67) dX4_needsBrackets_67 (tgt := 74) rfl (fun h67 => ?_) (fun h67 => ?_)
        · skip
          refine V_iconst (pc := 74) dX4_needsBrackets_74 (by unfold I32; omega) ?_
          refine V_reti (pc := 75) dX4_needsBrackets_75 (show _ = (0 : Int) ∨ _ = (1 : Int) from by first | exact Or.inl rfl | exact Or.inr rfl | omega) ?_
          refine ⟨?_, rfl⟩
          unfold needB
          omega
        · skip
          refine V_iconst (pc := 70) dX4_needsBrackets_70 (by unfold I32; omega) ?_
          refine V_goto (pc := 71) dX4_needsBrackets_71 (tgt := 75) rfl ?_
          refine V_reti (pc := 75) dX4_needsBrackets_75 (show _ = (0 : Int) ∨ _ = (1 : Int) from by first | exact Or.inl rfl | exact Or.inr rfl | omega) ?_
          refine ⟨?_, rfl⟩
          unfold needB
          omega
  refine V_tsOut (pc := 1) dX4_needsBrackets_1 (tgt := 76) (by omega) rfl ?_
  refine V_iconst (pc := 76) dX4_needsBrackets_76 (by unfold I32; omega) ?_
  refine V_reti (pc := 77) dX4_needsBrackets_77 (show _ = (0 : Int) ∨ _ = (1 : Int) from by first | exact Or.inl rfl | exact Or.inr rfl | omega) ?_
  refine ⟨?_, rfl⟩
  unfold needB
  omega

set_option maxHeartbeats 16000000 in
theorem c_wquant (L : Nat) (T : Tb) (c : Nat) (m : Mem) (P : Nat) (p : Int) (A : Nat)  (hL : Lay (mT m) (mR m)) (T_P : mT m P = (4, 2)) (R_P_0 : mR m P 0 = some A) (T_A : mT m A = (20, L)) (hc : mI m P 1 = (c : Int) ∧ c * 9 ≤ L ∧ L ≤ 2160) (hT : CTab (mI m) A T c) (hp : 0 ≤ p ∧ p < (c : Int)) (h59 : 59 ≤ P ∧ 59 ≤ A) (hbd : 0 ≤ T p.toNat 3 ∧ T p.toNat 3 ≤ 99 ∧ 1 ≤ T p.toNat 4 ∧ T p.toNat 4 ≤ 100 ∧ T p.toNat 3 ≤ T p.toNat 4 ∧ (T p.toNat 5 = 0 ∨ T p.toNat 5 = 1)) (hr : 0 ≤ mI m 15 1 ∧ mI m 15 1 + qLen (T p.toNat 3) (T p.toNat 4) (T p.toNat 5) ≤ 120) : Ct μX4_writeQuantity 2 [vr P, vi p, vr 15] m (rv fun m' => apM 15 1 16 m (qS (T p.toNat 3) (T p.toNat 4) (T p.toNat 5)) = m') := by
  refine Ct_of_V rfl (by decide) rfl (Nat.le_of_ble_eq_true rfl) ?_
  show V μX4_writeQuantity 2 m _ 0 [(0, vr P), (1, vi p), (2, vr 15)] [] m
  refine V_rg (k := 1) (x := p) rfl fun r_p => ?_
  refine V_ld (pc := 0) dX4_writeQuantity_0 (v := vr P) rfl rfl ?_
  refine V_ld (pc := 1) dX4_writeQuantity_1 (v := vi p) rfl rfl ?_
  refine V_iconst (pc := 2) dX4_writeQuantity_2 (by unfold I32; omega) ?_
  refine V_callV (pc := 3) dX4_writeQuantity_3 (F' := 0) (As := [vi p, vi 3]) (st := []) cw_RX4_23 rfl rfl T_P (by decide) (Nat.le_of_ble_eq_true rfl) (by omega) (c_factT L T c 3 m P p 3 A  T_P R_P_0 T_A (by (repeat rw [apM_ne (by omega) (by omega)]); exact hc) (fun p_ w_ h1_ h2_ => by (repeat rw [apM_ne (by omega) (by omega)]); exact hT p_ w_ h1_ h2_) hp ⟨by decide, by decide⟩) ?_
  rintro _ _ ⟨x3, rfl, rfl, rfl⟩ ok3 le3
  refine V_st (pc := 6) dX4_writeQuantity_6 (ls' := [(3, vi (T p.toNat 3)), (0, vr P), (1, vi p), (2, vr 15)]) rfl (Nat.le_of_ble_eq_true rfl) rfl ?_
  refine V_ld (pc := 7) dX4_writeQuantity_7 (v := vr P) rfl rfl ?_
  refine V_ld (pc := 8) dX4_writeQuantity_8 (v := vi p) rfl rfl ?_
  refine V_iconst (pc := 9) dX4_writeQuantity_9 (by unfold I32; omega) ?_
  refine V_callV (pc := 10) dX4_writeQuantity_10 (F' := 0) (As := [vi p, vi 4]) (st := []) cw_RX4_23 rfl rfl T_P (by decide) (Nat.le_of_ble_eq_true rfl) (by omega) (c_factT L T c 4 m P p 4 A  T_P R_P_0 T_A (by (repeat rw [apM_ne (by omega) (by omega)]); exact hc) (fun p_ w_ h1_ h2_ => by (repeat rw [apM_ne (by omega) (by omega)]); exact hT p_ w_ h1_ h2_) hp ⟨by decide, by decide⟩) ?_
  rintro _ _ ⟨x10, rfl, rfl, rfl⟩ ok10 le10
  refine V_st (pc := 13) dX4_writeQuantity_13 (ls' := [(4, vi (T p.toNat 4)), (3, vi (T p.toNat 3)), (0, vr P), (1, vi p), (2, vr 15)]) rfl (Nat.le_of_ble_eq_true rfl) rfl ?_
  refine V_ld (pc := 15) dX4_writeQuantity_15 (v := vi (T p.toNat 4)) rfl rfl ?_
  refine V_bipush (pc := 17) dX4_writeQuantity_17 (by unfold I32; omega) (by decide) ?_
  refine V_icmp_ne (pc := 19) dX4_writeQuantity_19 (tgt := 46) rfl (fun h19 => ?_) (fun h19 => ?_)
  · skip
    refine V_ld (pc := 46) dX4_writeQuantity_46 (v := vi (T p.toNat 3)) rfl rfl ?_
    refine V_if_ne (pc := 47) dX4_writeQuantity_47 (tgt := 66) rfl (fun h47 => ?_) (fun h47 => ?_)
    · skip
      refine V_ld (pc := 66) dX4_writeQuantity_66 (v := vr 15) rfl rfl ?_
      refine V_bipush (pc := 67) dX4_writeQuantity_67 (by unfold I32; omega) (by decide) ?_
      refine V_callV (pc := 69) dX4_writeQuantity_69 (F' := 0) (As := [vi 123]) (st := []) cw_RX4_35 rfl rfl hL.t15 (by decide) (Nat.le_of_ble_eq_true rfl) (by omega) (c_add1  m 123   (by first | assumption | omega) (by (try simp only [apM_sz, List.length_cons, List.length_nil, numS_len]); unfold qLen at hr; omega)) ?_
      rintro _ _ ⟨x69, rfl, -, rfl⟩ ok69 le69
      refine V_pop (pc := 72) dX4_writeQuantity_72 rfl ?_
      refine V_ld (pc := 73) dX4_writeQuantity_73 (v := vi (T p.toNat 3)) rfl rfl ?_
      refine V_ld (pc := 74) dX4_writeQuantity_74 (v := vr 15) rfl rfl ?_
      refine V_callS (pc := 75) dX4_writeQuantity_75 (F' := 1) (As := [vi (T p.toNat 3), vr 15]) (st := []) cw_RX4_52 rfl rfl (Nat.le_of_ble_eq_true rfl) (by omega) (c_wnum  (apM 15 1 16 m [123]) (T p.toNat 3)   (by first | assumption | omega) (by omega) (by (try simp only [apM_sz, List.length_cons, List.length_nil, numS_len]); unfold qLen at hr; omega)) ?_
      rintro _ _ ⟨rfl, rfl⟩ ok75 le75
      refine V_ld (pc := 78) dX4_writeQuantity_78 (v := vi (T p.toNat 4)) rfl rfl ?_
      refine V_ld (pc := 80) dX4_writeQuantity_80 (v := vi (T p.toNat 3)) rfl rfl ?_
      refine V_icmp_eq (pc := 81) dX4_writeQuantity_81 (tgt := 91) rfl (fun h81 => ?_) (fun h81 => ?_)
      · skip
        refine V_ld (pc := 91) dX4_writeQuantity_91 (v := vi (T p.toNat 4)) rfl rfl ?_
        refine V_ld (pc := 93) dX4_writeQuantity_93 (v := vi (T p.toNat 3)) rfl rfl ?_
        refine V_icmp_eq (pc := 94) dX4_writeQuantity_94 (tgt := 110) rfl (fun h94 => ?_) (fun h94 => ?_)
        · skip
          refine V_ld (pc := 110) dX4_writeQuantity_110 (v := vr 15) rfl rfl ?_
          refine V_bipush (pc := 111) dX4_writeQuantity_111 (by unfold I32; omega) (by decide) ?_
          refine V_callV (pc := 113) dX4_writeQuantity_113 (F' := 0) (As := [vi 125]) (st := []) cw_RX4_35 rfl rfl hL.t15 (by decide) (Nat.le_of_ble_eq_true rfl) (by omega) (c_add1  (apM 15 1 16 (apM 15 1 16 m [123]) (numS (T p.toNat 3))) 125   (by first | assumption | omega) (by (try simp only [apM_sz, List.length_cons, List.length_nil, numS_len]); unfold qLen at hr; omega)) ?_
          rintro _ _ ⟨x113, rfl, -, rfl⟩ ok113 le113
          refine V_pop (pc := 116) dX4_writeQuantity_116 rfl ?_
          refine V_ld (pc := 117) dX4_writeQuantity_117 (v := vr P) rfl rfl ?_
          refine V_ld (pc := 118) dX4_writeQuantity_118 (v := vi p) rfl rfl ?_
          refine V_iconst (pc := 119) dX4_writeQuantity_119 (by unfold I32; omega) ?_
          refine V_callV (pc := 120) dX4_writeQuantity_120 (F' := 0) (As := [vi p, vi 5]) (st := []) cw_RX4_23 rfl rfl T_P (by decide) (Nat.le_of_ble_eq_true rfl) (by omega) (c_factT L T c 5 (apM 15 1 16 (apM 15 1 16 (apM 15 1 16 m [123]) (numS (T p.toNat 3))) [125]) P p 5 A  T_P R_P_0 T_A (by (repeat rw [apM_ne (by omega) (by omega)]); exact hc) (fun p_ w_ h1_ h2_ => by (repeat rw [apM_ne (by omega) (by omega)]); exact hT p_ w_ h1_ h2_) hp ⟨by decide, by decide⟩) ?_
          rintro _ _ ⟨x120, rfl, rfl, rfl⟩ ok120 le120
          refine V_if_ne (pc := 123) dX4_writeQuantity_123 (tgt := 133) rfl (fun h123 => ?_) (fun h123 => ?_)
          · skip
            refine V_retv (pc := 133) dX4_writeQuantity_133 trivial ?_
            first
              | (exfalso; omega)
              | ((repeat rw [apM_app])
                 exact congrArg (apM 15 1 16 m) (by
                   unfold qS
                   repeat (first | rw [if_pos (by omega)] | rw [if_neg (by omega)])
                   first | done | rfl | simp only [List.append_assoc, List.cons_append, List.nil_append, List.append_nil]))
          · skip
            refine V_ld (pc := 126) dX4_writeQuantity_126 (v := vr 15) rfl rfl ?_
            refine V_bipush (pc := 127) dX4_writeQuantity_127 (by unfold I32; omega) (by decide) ?_
            refine V_callV (pc := 129) dX4_writeQuantity_129 (F' := 0) (As := [vi 63]) (st := []) cw_RX4_35 rfl rfl hL.t15 (by decide) (Nat.le_of_ble_eq_true rfl) (by omega) (c_add1  (apM 15 1 16 (apM 15 1 16 (apM 15 1 16 m [123]) (numS (T p.toNat 3))) [125]) 63   (by first | assumption | omega) (by (try simp only [apM_sz, List.length_cons, List.length_nil, numS_len]); unfold qLen at hr; omega)) ?_
            rintro _ _ ⟨x129, rfl, -, rfl⟩ ok129 le129
            refine V_pop (pc := 132) dX4_writeQuantity_132 rfl ?_
            refine V_retv (pc := 133) dX4_writeQuantity_133 trivial ?_
            first
              | (exfalso; omega)
              | ((repeat rw [apM_app])
                 exact congrArg (apM 15 1 16 m) (by
                   unfold qS
                   repeat (first | rw [if_pos (by omega)] | rw [if_neg (by omega)])
                   first | done | rfl | simp only [List.append_assoc, List.cons_append, List.nil_append, List.append_nil]))
        · skip
          refine V_ld (pc := 97) dX4_writeQuantity_97 (v := vi (T p.toNat 4)) rfl rfl ?_
          refine V_bipush (pc := 99) dX4_writeQuantity_99 (by unfold I32; omega) (by decide) ?_
          refine V_icmp_eq (pc := 101) dX4_writeQuantity_101 (tgt := 110) rfl (fun h101 => ?_) (fun h101 => ?_)
          · skip
            refine V_ld (pc := 110) dX4_writeQuantity_110 (v := vr 15) rfl rfl ?_
            refine V_bipush (pc := 111) dX4_writeQuantity_111 (by unfold I32; omega) (by decide) ?_
            refine V_callV (pc := 113) dX4_writeQuantity_113 (F' := 0) (As := [vi 125]) (st := []) cw_RX4_35 rfl rfl hL.t15 (by decide) (Nat.le_of_ble_eq_true rfl) (by omega) (c_add1  (apM 15 1 16 (apM 15 1 16 m [123]) (numS (T p.toNat 3))) 125   (by first | assumption | omega) (by (try simp only [apM_sz, List.length_cons, List.length_nil, numS_len]); unfold qLen at hr; omega)) ?_
            rintro _ _ ⟨x113, rfl, -, rfl⟩ ok113 le113
            refine V_pop (pc := 116) dX4_writeQuantity_116 rfl ?_
            refine V_ld (pc := 117) dX4_writeQuantity_117 (v := vr P) rfl rfl ?_
            refine V_ld (pc := 118) dX4_writeQuantity_118 (v := vi p) rfl rfl ?_
            refine V_iconst (pc := 119) dX4_writeQuantity_119 (by unfold I32; omega) ?_
            refine V_callV (pc := 120) dX4_writeQuantity_120 (F' := 0) (As := [vi p, vi 5]) (st := []) cw_RX4_23 rfl rfl T_P (by decide) (Nat.le_of_ble_eq_true rfl) (by omega) (c_factT L T c 5 (apM 15 1 16 (apM 15 1 16 (apM 15 1 16 m [123]) (numS (T p.toNat 3))) [125]) P p 5 A  T_P R_P_0 T_A (by (repeat rw [apM_ne (by omega) (by omega)]); exact hc) (fun p_ w_ h1_ h2_ => by (repeat rw [apM_ne (by omega) (by omega)]); exact hT p_ w_ h1_ h2_) hp ⟨by decide, by decide⟩) ?_
            rintro _ _ ⟨x120, rfl, rfl, rfl⟩ ok120 le120
            refine V_if_ne (pc := 123) dX4_writeQuantity_123 (tgt := 133) rfl (fun h123 => ?_) (fun h123 => ?_)
            · skip
              refine V_retv (pc := 133) dX4_writeQuantity_133 trivial ?_
              first
                | (exfalso; omega)
                | ((repeat rw [apM_app])
                   exact congrArg (apM 15 1 16 m) (by
                     unfold qS
                     repeat (first | rw [if_pos (by omega)] | rw [if_neg (by omega)])
                     first | done | rfl | simp only [List.append_assoc, List.cons_append, List.nil_append, List.append_nil]))
            · skip
              refine V_ld (pc := 126) dX4_writeQuantity_126 (v := vr 15) rfl rfl ?_
              refine V_bipush (pc := 127) dX4_writeQuantity_127 (by unfold I32; omega) (by decide) ?_
              refine V_callV (pc := 129) dX4_writeQuantity_129 (F' := 0) (As := [vi 63]) (st := []) cw_RX4_35 rfl rfl hL.t15 (by decide) (Nat.le_of_ble_eq_true rfl) (by omega) (c_add1  (apM 15 1 16 (apM 15 1 16 (apM 15 1 16 m [123]) (numS (T p.toNat 3))) [125]) 63   (by first | assumption | omega) (by (try simp only [apM_sz, List.length_cons, List.length_nil, numS_len]); unfold qLen at hr; omega)) ?_
              rintro _ _ ⟨x129, rfl, -, rfl⟩ ok129 le129
              refine V_pop (pc := 132) dX4_writeQuantity_132 rfl ?_
              refine V_retv (pc := 133) dX4_writeQuantity_133 trivial ?_
              first
                | (exfalso; omega)
                | ((repeat rw [apM_app])
                   exact congrArg (apM 15 1 16 m) (by
                     unfold qS
                     repeat (first | rw [if_pos (by omega)] | rw [if_neg (by omega)])
                     first | done | rfl | simp only [List.append_assoc, List.cons_append, List.nil_append, List.append_nil]))
          · skip
            refine V_ld (pc := 104) dX4_writeQuantity_104 (v := vi (T p.toNat 4)) rfl rfl ?_
            refine V_ld (pc := 106) dX4_writeQuantity_106 (v := vr 15) rfl rfl ?_
            refine V_callS (pc := 107) dX4_writeQuantity_107 (F' := 1) (As := [vi (T p.toNat 4), vr 15]) (st := []) cw_RX4_52 rfl rfl (Nat.le_of_ble_eq_true rfl) (by omega) (c_wnum  (apM 15 1 16 (apM 15 1 16 m [123]) (numS (T p.toNat 3))) (T p.toNat 4)   (by first | assumption | omega) (by omega) (by (try simp only [apM_sz, List.length_cons, List.length_nil, numS_len]); unfold qLen at hr; omega)) ?_
            rintro _ _ ⟨rfl, rfl⟩ ok107 le107
            refine V_ld (pc := 110) dX4_writeQuantity_110 (v := vr 15) rfl rfl ?_
            refine V_bipush (pc := 111) dX4_writeQuantity_111 (by unfold I32; omega) (by decide) ?_
            refine V_callV (pc := 113) dX4_writeQuantity_113 (F' := 0) (As := [vi 125]) (st := []) cw_RX4_35 rfl rfl hL.t15 (by decide) (Nat.le_of_ble_eq_true rfl) (by omega) (c_add1  (apM 15 1 16 (apM 15 1 16 (apM 15 1 16 m [123]) (numS (T p.toNat 3))) (numS (T p.toNat 4))) 125   (by first | assumption | omega) (by (try simp only [apM_sz, List.length_cons, List.length_nil, numS_len]); unfold qLen at hr; omega)) ?_
            rintro _ _ ⟨x113, rfl, -, rfl⟩ ok113 le113
            refine V_pop (pc := 116) dX4_writeQuantity_116 rfl ?_
            refine V_ld (pc := 117) dX4_writeQuantity_117 (v := vr P) rfl rfl ?_
            refine V_ld (pc := 118) dX4_writeQuantity_118 (v := vi p) rfl rfl ?_
            refine V_iconst (pc := 119) dX4_writeQuantity_119 (by unfold I32; omega) ?_
            refine V_callV (pc := 120) dX4_writeQuantity_120 (F' := 0) (As := [vi p, vi 5]) (st := []) cw_RX4_23 rfl rfl T_P (by decide) (Nat.le_of_ble_eq_true rfl) (by omega) (c_factT L T c 5 (apM 15 1 16 (apM 15 1 16 (apM 15 1 16 (apM 15 1 16 m [123]) (numS (T p.toNat 3))) (numS (T p.toNat 4))) [125]) P p 5 A  T_P R_P_0 T_A (by (repeat rw [apM_ne (by omega) (by omega)]); exact hc) (fun p_ w_ h1_ h2_ => by (repeat rw [apM_ne (by omega) (by omega)]); exact hT p_ w_ h1_ h2_) hp ⟨by decide, by decide⟩) ?_
            rintro _ _ ⟨x120, rfl, rfl, rfl⟩ ok120 le120
            refine V_if_ne (pc := 123) dX4_writeQuantity_123 (tgt := 133) rfl (fun h123 => ?_) (fun h123 => ?_)
            · skip
              refine V_retv (pc := 133) dX4_writeQuantity_133 trivial ?_
              first
                | (exfalso; omega)
                | ((repeat rw [apM_app])
                   exact congrArg (apM 15 1 16 m) (by
                     unfold qS
                     repeat (first | rw [if_pos (by omega)] | rw [if_neg (by omega)])
                     first | done | rfl | simp only [List.append_assoc, List.cons_append, List.nil_append, List.append_nil]))
            · skip
              refine V_ld (pc := 126) dX4_writeQuantity_126 (v := vr 15) rfl rfl ?_
              refine V_bipush (pc := 127) dX4_writeQuantity_127 (by unfold I32; omega) (by decide) ?_
              refine V_callV (pc := 129) dX4_writeQuantity_129 (F' := 0) (As := [vi 63]) (st := []) cw_RX4_35 rfl rfl hL.t15 (by decide) (Nat.le_of_ble_eq_true rfl) (by omega) (c_add1  (apM 15 1 16 (apM 15 1 16 (apM 15 1 16 (apM 15 1 16 m [123]) (numS (T p.toNat 3))) (numS (T p.toNat 4))) [125]) 63   (by first | assumption | omega) (by (try simp only [apM_sz, List.length_cons, List.length_nil, numS_len]); unfold qLen at hr; omega)) ?_
              rintro _ _ ⟨x129, rfl, -, rfl⟩ ok129 le129
              refine V_pop (pc := 132) dX4_writeQuantity_132 rfl ?_
              refine V_retv (pc := 133) dX4_writeQuantity_133 trivial ?_
              first
                | (exfalso; omega)
                | ((repeat rw [apM_app])
                   exact congrArg (apM 15 1 16 m) (by
                     unfold qS
                     repeat (first | rw [if_pos (by omega)] | rw [if_neg (by omega)])
                     first | done | rfl | simp only [List.append_assoc, List.cons_append, List.nil_append, List.append_nil]))
      · skip
        refine V_ld (pc := 84) dX4_writeQuantity_84 (v := vr 15) rfl rfl ?_
        refine V_bipush (pc := 85) dX4_writeQuantity_85 (by unfold I32; omega) (by decide) ?_
        refine V_callV (pc := 87) dX4_writeQuantity_87 (F' := 0) (As := [vi 44]) (st := []) cw_RX4_35 rfl rfl hL.t15 (by decide) (Nat.le_of_ble_eq_true rfl) (by omega) (c_add1  (apM 15 1 16 (apM 15 1 16 m [123]) (numS (T p.toNat 3))) 44   (by first | assumption | omega) (by (try simp only [apM_sz, List.length_cons, List.length_nil, numS_len]); unfold qLen at hr; omega)) ?_
        rintro _ _ ⟨x87, rfl, -, rfl⟩ ok87 le87
        refine V_pop (pc := 90) dX4_writeQuantity_90 rfl ?_
        refine V_ld (pc := 91) dX4_writeQuantity_91 (v := vi (T p.toNat 4)) rfl rfl ?_
        refine V_ld (pc := 93) dX4_writeQuantity_93 (v := vi (T p.toNat 3)) rfl rfl ?_
        refine V_icmp_eq (pc := 94) dX4_writeQuantity_94 (tgt := 110) rfl (fun h94 => ?_) (fun h94 => ?_)
        · skip
          refine V_ld (pc := 110) dX4_writeQuantity_110 (v := vr 15) rfl rfl ?_
          refine V_bipush (pc := 111) dX4_writeQuantity_111 (by unfold I32; omega) (by decide) ?_
          refine V_callV (pc := 113) dX4_writeQuantity_113 (F' := 0) (As := [vi 125]) (st := []) cw_RX4_35 rfl rfl hL.t15 (by decide) (Nat.le_of_ble_eq_true rfl) (by omega) (c_add1  (apM 15 1 16 (apM 15 1 16 (apM 15 1 16 m [123]) (numS (T p.toNat 3))) [44]) 125   (by first | assumption | omega) (by (try simp only [apM_sz, List.length_cons, List.length_nil, numS_len]); unfold qLen at hr; omega)) ?_
          rintro _ _ ⟨x113, rfl, -, rfl⟩ ok113 le113
          refine V_pop (pc := 116) dX4_writeQuantity_116 rfl ?_
          refine V_ld (pc := 117) dX4_writeQuantity_117 (v := vr P) rfl rfl ?_
          refine V_ld (pc := 118) dX4_writeQuantity_118 (v := vi p) rfl rfl ?_
          refine V_iconst (pc := 119) dX4_writeQuantity_119 (by unfold I32; omega) ?_
          refine V_callV (pc := 120) dX4_writeQuantity_120 (F' := 0) (As := [vi p, vi 5]) (st := []) cw_RX4_23 rfl rfl T_P (by decide) (Nat.le_of_ble_eq_true rfl) (by omega) (c_factT L T c 5 (apM 15 1 16 (apM 15 1 16 (apM 15 1 16 (apM 15 1 16 m [123]) (numS (T p.toNat 3))) [44]) [125]) P p 5 A  T_P R_P_0 T_A (by (repeat rw [apM_ne (by omega) (by omega)]); exact hc) (fun p_ w_ h1_ h2_ => by (repeat rw [apM_ne (by omega) (by omega)]); exact hT p_ w_ h1_ h2_) hp ⟨by decide, by decide⟩) ?_
          rintro _ _ ⟨x120, rfl, rfl, rfl⟩ ok120 le120
          refine V_if_ne (pc := 123) dX4_writeQuantity_123 (tgt := 133) rfl (fun h123 => ?_) (fun h123 => ?_)
          · skip
            refine V_retv (pc := 133) dX4_writeQuantity_133 trivial ?_
            first
              | (exfalso; omega)
              | ((repeat rw [apM_app])
                 exact congrArg (apM 15 1 16 m) (by
                   unfold qS
                   repeat (first | rw [if_pos (by omega)] | rw [if_neg (by omega)])
                   first | done | rfl | simp only [List.append_assoc, List.cons_append, List.nil_append, List.append_nil]))
          · skip
            refine V_ld (pc := 126) dX4_writeQuantity_126 (v := vr 15) rfl rfl ?_
            refine V_bipush (pc := 127) dX4_writeQuantity_127 (by unfold I32; omega) (by decide) ?_
            refine V_callV (pc := 129) dX4_writeQuantity_129 (F' := 0) (As := [vi 63]) (st := []) cw_RX4_35 rfl rfl hL.t15 (by decide) (Nat.le_of_ble_eq_true rfl) (by omega) (c_add1  (apM 15 1 16 (apM 15 1 16 (apM 15 1 16 (apM 15 1 16 m [123]) (numS (T p.toNat 3))) [44]) [125]) 63   (by first | assumption | omega) (by (try simp only [apM_sz, List.length_cons, List.length_nil, numS_len]); unfold qLen at hr; omega)) ?_
            rintro _ _ ⟨x129, rfl, -, rfl⟩ ok129 le129
            refine V_pop (pc := 132) dX4_writeQuantity_132 rfl ?_
            refine V_retv (pc := 133) dX4_writeQuantity_133 trivial ?_
            first
              | (exfalso; omega)
              | ((repeat rw [apM_app])
                 exact congrArg (apM 15 1 16 m) (by
                   unfold qS
                   repeat (first | rw [if_pos (by omega)] | rw [if_neg (by omega)])
                   first | done | rfl | simp only [List.append_assoc, List.cons_append, List.nil_append, List.append_nil]))
        · skip
          refine V_ld (pc := 97) dX4_writeQuantity_97 (v := vi (T p.toNat 4)) rfl rfl ?_
          refine V_bipush (pc := 99) dX4_writeQuantity_99 (by unfold I32; omega) (by decide) ?_
          refine V_icmp_eq (pc := 101) dX4_writeQuantity_101 (tgt := 110) rfl (fun h101 => ?_) (fun h101 => ?_)
          · skip
            refine V_ld (pc := 110) dX4_writeQuantity_110 (v := vr 15) rfl rfl ?_
            refine V_bipush (pc := 111) dX4_writeQuantity_111 (by unfold I32; omega) (by decide) ?_
            refine V_callV (pc := 113) dX4_writeQuantity_113 (F' := 0) (As := [vi 125]) (st := []) cw_RX4_35 rfl rfl hL.t15 (by decide) (Nat.le_of_ble_eq_true rfl) (by omega) (c_add1  (apM 15 1 16 (apM 15 1 16 (apM 15 1 16 m [123]) (numS (T p.toNat 3))) [44]) 125   (by first | assumption | omega) (by (try simp only [apM_sz, List.length_cons, List.length_nil, numS_len]); unfold qLen at hr; omega)) ?_
            rintro _ _ ⟨x113, rfl, -, rfl⟩ ok113 le113
            refine V_pop (pc := 116) dX4_writeQuantity_116 rfl ?_
            refine V_ld (pc := 117) dX4_writeQuantity_117 (v := vr P) rfl rfl ?_
            refine V_ld (pc := 118) dX4_writeQuantity_118 (v := vi p) rfl rfl ?_
            refine V_iconst (pc := 119) dX4_writeQuantity_119 (by unfold I32; omega) ?_
            refine V_callV (pc := 120) dX4_writeQuantity_120 (F' := 0) (As := [vi p, vi 5]) (st := []) cw_RX4_23 rfl rfl T_P (by decide) (Nat.le_of_ble_eq_true rfl) (by omega) (c_factT L T c 5 (apM 15 1 16 (apM 15 1 16 (apM 15 1 16 (apM 15 1 16 m [123]) (numS (T p.toNat 3))) [44]) [125]) P p 5 A  T_P R_P_0 T_A (by (repeat rw [apM_ne (by omega) (by omega)]); exact hc) (fun p_ w_ h1_ h2_ => by (repeat rw [apM_ne (by omega) (by omega)]); exact hT p_ w_ h1_ h2_) hp ⟨by decide, by decide⟩) ?_
            rintro _ _ ⟨x120, rfl, rfl, rfl⟩ ok120 le120
            refine V_if_ne (pc := 123) dX4_writeQuantity_123 (tgt := 133) rfl (fun h123 => ?_) (fun h123 => ?_)
            · skip
              refine V_retv (pc := 133) dX4_writeQuantity_133 trivial ?_
              first
                | (exfalso; omega)
                | ((repeat rw [apM_app])
                   exact congrArg (apM 15 1 16 m) (by
                     unfold qS
                     repeat (first | rw [if_pos (by omega)] | rw [if_neg (by omega)])
                     first | done | rfl | simp only [List.append_assoc, List.cons_append, List.nil_append, List.append_nil]))
            · skip
              refine V_ld (pc := 126) dX4_writeQuantity_126 (v := vr 15) rfl rfl ?_
              refine V_bipush (pc := 127) dX4_writeQuantity_127 (by unfold I32; omega) (by decide) ?_
              refine V_callV (pc := 129) dX4_writeQuantity_129 (F' := 0) (As := [vi 63]) (st := []) cw_RX4_35 rfl rfl hL.t15 (by decide) (Nat.le_of_ble_eq_true rfl) (by omega) (c_add1  (apM 15 1 16 (apM 15 1 16 (apM 15 1 16 (apM 15 1 16 m [123]) (numS (T p.toNat 3))) [44]) [125]) 63   (by first | assumption | omega) (by (try simp only [apM_sz, List.length_cons, List.length_nil, numS_len]); unfold qLen at hr; omega)) ?_
              rintro _ _ ⟨x129, rfl, -, rfl⟩ ok129 le129
              refine V_pop (pc := 132) dX4_writeQuantity_132 rfl ?_
              refine V_retv (pc := 133) dX4_writeQuantity_133 trivial ?_
              first
                | (exfalso; omega)
                | ((repeat rw [apM_app])
                   exact congrArg (apM 15 1 16 m) (by
                     unfold qS
                     repeat (first | rw [if_pos (by omega)] | rw [if_neg (by omega)])
                     first | done | rfl | simp only [List.append_assoc, List.cons_append, List.nil_append, List.append_nil]))
          · skip
            refine V_ld (pc := 104) dX4_writeQuantity_104 (v := vi (T p.toNat 4)) rfl rfl ?_
            refine V_ld (pc := 106) dX4_writeQuantity_106 (v := vr 15) rfl rfl ?_
            refine V_callS (pc := 107) dX4_writeQuantity_107 (F' := 1) (As := [vi (T p.toNat 4), vr 15]) (st := []) cw_RX4_52 rfl rfl (Nat.le_of_ble_eq_true rfl) (by omega) (c_wnum  (apM 15 1 16 (apM 15 1 16 (apM 15 1 16 m [123]) (numS (T p.toNat 3))) [44]) (T p.toNat 4)   (by first | assumption | omega) (by omega) (by (try simp only [apM_sz, List.length_cons, List.length_nil, numS_len]); unfold qLen at hr; omega)) ?_
            rintro _ _ ⟨rfl, rfl⟩ ok107 le107
            refine V_ld (pc := 110) dX4_writeQuantity_110 (v := vr 15) rfl rfl ?_
            refine V_bipush (pc := 111) dX4_writeQuantity_111 (by unfold I32; omega) (by decide) ?_
            refine V_callV (pc := 113) dX4_writeQuantity_113 (F' := 0) (As := [vi 125]) (st := []) cw_RX4_35 rfl rfl hL.t15 (by decide) (Nat.le_of_ble_eq_true rfl) (by omega) (c_add1  (apM 15 1 16 (apM 15 1 16 (apM 15 1 16 (apM 15 1 16 m [123]) (numS (T p.toNat 3))) [44]) (numS (T p.toNat 4))) 125   (by first | assumption | omega) (by (try simp only [apM_sz, List.length_cons, List.length_nil, numS_len]); unfold qLen at hr; omega)) ?_
            rintro _ _ ⟨x113, rfl, -, rfl⟩ ok113 le113
            refine V_pop (pc := 116) dX4_writeQuantity_116 rfl ?_
            refine V_ld (pc := 117) dX4_writeQuantity_117 (v := vr P) rfl rfl ?_
            refine V_ld (pc := 118) dX4_writeQuantity_118 (v := vi p) rfl rfl ?_
            refine V_iconst (pc := 119) dX4_writeQuantity_119 (by unfold I32; omega) ?_
            refine V_callV (pc := 120) dX4_writeQuantity_120 (F' := 0) (As := [vi p, vi 5]) (st := []) cw_RX4_23 rfl rfl T_P (by decide) (Nat.le_of_ble_eq_true rfl) (by omega) (c_factT L T c 5 (apM 15 1 16 (apM 15 1 16 (apM 15 1 16 (apM 15 1 16 (apM 15 1 16 m [123]) (numS (T p.toNat 3))) [44]) (numS (T p.toNat 4))) [125]) P p 5 A  T_P R_P_0 T_A (by (repeat rw [apM_ne (by omega) (by omega)]); exact hc) (fun p_ w_ h1_ h2_ => by (repeat rw [apM_ne (by omega) (by omega)]); exact hT p_ w_ h1_ h2_) hp ⟨by decide, by decide⟩) ?_
            rintro _ _ ⟨x120, rfl, rfl, rfl⟩ ok120 le120
            refine V_if_ne (pc := 123) dX4_writeQuantity_123 (tgt := 133) rfl (fun h123 => ?_) (fun h123 => ?_)
            · skip
              refine V_retv (pc := 133) dX4_writeQuantity_133 trivial ?_
              first
                | (exfalso; omega)
                | ((repeat rw [apM_app])
                   exact congrArg (apM 15 1 16 m) (by
                     unfold qS
                     repeat (first | rw [if_pos (by omega)] | rw [if_neg (by omega)])
                     first | done | rfl | simp only [List.append_assoc, List.cons_append, List.nil_append, List.append_nil]))
            · skip
              refine V_ld (pc := 126) dX4_writeQuantity_126 (v := vr 15) rfl rfl ?_
              refine V_bipush (pc := 127) dX4_writeQuantity_127 (by unfold I32; omega) (by decide) ?_
              refine V_callV (pc := 129) dX4_writeQuantity_129 (F' := 0) (As := [vi 63]) (st := []) cw_RX4_35 rfl rfl hL.t15 (by decide) (Nat.le_of_ble_eq_true rfl) (by omega) (c_add1  (apM 15 1 16 (apM 15 1 16 (apM 15 1 16 (apM 15 1 16 (apM 15 1 16 m [123]) (numS (T p.toNat 3))) [44]) (numS (T p.toNat 4))) [125]) 63   (by first | assumption | omega) (by (try simp only [apM_sz, List.length_cons, List.length_nil, numS_len]); unfold qLen at hr; omega)) ?_
              rintro _ _ ⟨x129, rfl, -, rfl⟩ ok129 le129
              refine V_pop (pc := 132) dX4_writeQuantity_132 rfl ?_
              refine V_retv (pc := 133) dX4_writeQuantity_133 trivial ?_
              first
                | (exfalso; omega)
                | ((repeat rw [apM_app])
                   exact congrArg (apM 15 1 16 m) (by
                     unfold qS
                     repeat (first | rw [if_pos (by omega)] | rw [if_neg (by omega)])
                     first | done | rfl | simp only [List.append_assoc, List.cons_append, List.nil_append, List.append_nil]))
    · skip
      refine V_ld (pc := 50) dX4_writeQuantity_50 (v := vi (T p.toNat 4)) rfl rfl ?_
      refine V_iconst (pc := 52) dX4_writeQuantity_52 (by unfold I32; omega) ?_
      refine V_icmp_ne (pc := 53) dX4_writeQuantity_53 (tgt := 66) rfl (fun h53 => ?_) (fun h53 => ?_)
      · skip
        refine V_ld (pc := 66) dX4_writeQuantity_66 (v := vr 15) rfl rfl ?_
        refine V_bipush (pc := 67) dX4_writeQuantity_67 (by unfold I32; omega) (by decide) ?_
        refine V_callV (pc := 69) dX4_writeQuantity_69 (F' := 0) (As := [vi 123]) (st := []) cw_RX4_35 rfl rfl hL.t15 (by decide) (Nat.le_of_ble_eq_true rfl) (by omega) (c_add1  m 123   (by first | assumption | omega) (by (try simp only [apM_sz, List.length_cons, List.length_nil, numS_len]); unfold qLen at hr; omega)) ?_
        rintro _ _ ⟨x69, rfl, -, rfl⟩ ok69 le69
        refine V_pop (pc := 72) dX4_writeQuantity_72 rfl ?_
        refine V_ld (pc := 73) dX4_writeQuantity_73 (v := vi (T p.toNat 3)) rfl rfl ?_
        refine V_ld (pc := 74) dX4_writeQuantity_74 (v := vr 15) rfl rfl ?_
        refine V_callS (pc := 75) dX4_writeQuantity_75 (F' := 1) (As := [vi (T p.toNat 3), vr 15]) (st := []) cw_RX4_52 rfl rfl (Nat.le_of_ble_eq_true rfl) (by omega) (c_wnum  (apM 15 1 16 m [123]) (T p.toNat 3)   (by first | assumption | omega) (by omega) (by (try simp only [apM_sz, List.length_cons, List.length_nil, numS_len]); unfold qLen at hr; omega)) ?_
        rintro _ _ ⟨rfl, rfl⟩ ok75 le75
        refine V_ld (pc := 78) dX4_writeQuantity_78 (v := vi (T p.toNat 4)) rfl rfl ?_
        refine V_ld (pc := 80) dX4_writeQuantity_80 (v := vi (T p.toNat 3)) rfl rfl ?_
        refine V_icmp_eq (pc := 81) dX4_writeQuantity_81 (tgt := 91) rfl (fun h81 => ?_) (fun h81 => ?_)
        · skip
          refine V_ld (pc := 91) dX4_writeQuantity_91 (v := vi (T p.toNat 4)) rfl rfl ?_
          refine V_ld (pc := 93) dX4_writeQuantity_93 (v := vi (T p.toNat 3)) rfl rfl ?_
          refine V_icmp_eq (pc := 94) dX4_writeQuantity_94 (tgt := 110) rfl (fun h94 => ?_) (fun h94 => ?_)
          · skip
            refine V_ld (pc := 110) dX4_writeQuantity_110 (v := vr 15) rfl rfl ?_
            refine V_bipush (pc := 111) dX4_writeQuantity_111 (by unfold I32; omega) (by decide) ?_
            refine V_callV (pc := 113) dX4_writeQuantity_113 (F' := 0) (As := [vi 125]) (st := []) cw_RX4_35 rfl rfl hL.t15 (by decide) (Nat.le_of_ble_eq_true rfl) (by omega) (c_add1  (apM 15 1 16 (apM 15 1 16 m [123]) (numS (T p.toNat 3))) 125   (by first | assumption | omega) (by (try simp only [apM_sz, List.length_cons, List.length_nil, numS_len]); unfold qLen at hr; omega)) ?_
            rintro _ _ ⟨x113, rfl, -, rfl⟩ ok113 le113
            refine V_pop (pc := 116) dX4_writeQuantity_116 rfl ?_
            refine V_ld (pc := 117) dX4_writeQuantity_117 (v := vr P) rfl rfl ?_
            refine V_ld (pc := 118) dX4_writeQuantity_118 (v := vi p) rfl rfl ?_
            refine V_iconst (pc := 119) dX4_writeQuantity_119 (by unfold I32; omega) ?_
            refine V_callV (pc := 120) dX4_writeQuantity_120 (F' := 0) (As := [vi p, vi 5]) (st := []) cw_RX4_23 rfl rfl T_P (by decide) (Nat.le_of_ble_eq_true rfl) (by omega) (c_factT L T c 5 (apM 15 1 16 (apM 15 1 16 (apM 15 1 16 m [123]) (numS (T p.toNat 3))) [125]) P p 5 A  T_P R_P_0 T_A (by (repeat rw [apM_ne (by omega) (by omega)]); exact hc) (fun p_ w_ h1_ h2_ => by (repeat rw [apM_ne (by omega) (by omega)]); exact hT p_ w_ h1_ h2_) hp ⟨by decide, by decide⟩) ?_
            rintro _ _ ⟨x120, rfl, rfl, rfl⟩ ok120 le120
            refine V_if_ne (pc := 123) dX4_writeQuantity_123 (tgt := 133) rfl (fun h123 => ?_) (fun h123 => ?_)
            · skip
              refine V_retv (pc := 133) dX4_writeQuantity_133 trivial ?_
              first
                | (exfalso; omega)
                | ((repeat rw [apM_app])
                   exact congrArg (apM 15 1 16 m) (by
                     unfold qS
                     repeat (first | rw [if_pos (by omega)] | rw [if_neg (by omega)])
                     first | done | rfl | simp only [List.append_assoc, List.cons_append, List.nil_append, List.append_nil]))
            · skip
              refine V_ld (pc := 126) dX4_writeQuantity_126 (v := vr 15) rfl rfl ?_
              refine V_bipush (pc := 127) dX4_writeQuantity_127 (by unfold I32; omega) (by decide) ?_
              refine V_callV (pc := 129) dX4_writeQuantity_129 (F' := 0) (As := [vi 63]) (st := []) cw_RX4_35 rfl rfl hL.t15 (by decide) (Nat.le_of_ble_eq_true rfl) (by omega) (c_add1  (apM 15 1 16 (apM 15 1 16 (apM 15 1 16 m [123]) (numS (T p.toNat 3))) [125]) 63   (by first | assumption | omega) (by (try simp only [apM_sz, List.length_cons, List.length_nil, numS_len]); unfold qLen at hr; omega)) ?_
              rintro _ _ ⟨x129, rfl, -, rfl⟩ ok129 le129
              refine V_pop (pc := 132) dX4_writeQuantity_132 rfl ?_
              refine V_retv (pc := 133) dX4_writeQuantity_133 trivial ?_
              first
                | (exfalso; omega)
                | ((repeat rw [apM_app])
                   exact congrArg (apM 15 1 16 m) (by
                     unfold qS
                     repeat (first | rw [if_pos (by omega)] | rw [if_neg (by omega)])
                     first | done | rfl | simp only [List.append_assoc, List.cons_append, List.nil_append, List.append_nil]))
          · skip
            refine V_ld (pc := 97) dX4_writeQuantity_97 (v := vi (T p.toNat 4)) rfl rfl ?_
            refine V_bipush (pc := 99) dX4_writeQuantity_99 (by unfold I32; omega) (by decide) ?_
            refine V_icmp_eq (pc := 101) dX4_writeQuantity_101 (tgt := 110) rfl (fun h101 => ?_) (fun h101 => ?_)
            · skip
              refine V_ld (pc := 110) dX4_writeQuantity_110 (v := vr 15) rfl rfl ?_
              refine V_bipush (pc := 111) dX4_writeQuantity_111 (by unfold I32; omega) (by decide) ?_
              refine V_callV (pc := 113) dX4_writeQuantity_113 (F' := 0) (As := [vi 125]) (st := []) cw_RX4_35 rfl rfl hL.t15 (by decide) (Nat.le_of_ble_eq_true rfl) (by omega) (c_add1  (apM 15 1 16 (apM 15 1 16 m [123]) (numS (T p.toNat 3))) 125   (by first | assumption | omega) (by (try simp only [apM_sz, List.length_cons, List.length_nil, numS_len]); unfold qLen at hr; omega)) ?_
              rintro _ _ ⟨x113, rfl, -, rfl⟩ ok113 le113
              refine V_pop (pc := 116) dX4_writeQuantity_116 rfl ?_
              refine V_ld (pc := 117) dX4_writeQuantity_117 (v := vr P) rfl rfl ?_
              refine V_ld (pc := 118) dX4_writeQuantity_118 (v := vi p) rfl rfl ?_
              refine V_iconst (pc := 119) dX4_writeQuantity_119 (by unfold I32; omega) ?_
              refine V_callV (pc := 120) dX4_writeQuantity_120 (F' := 0) (As := [vi p, vi 5]) (st := []) cw_RX4_23 rfl rfl T_P (by decide) (Nat.le_of_ble_eq_true rfl) (by omega) (c_factT L T c 5 (apM 15 1 16 (apM 15 1 16 (apM 15 1 16 m [123]) (numS (T p.toNat 3))) [125]) P p 5 A  T_P R_P_0 T_A (by (repeat rw [apM_ne (by omega) (by omega)]); exact hc) (fun p_ w_ h1_ h2_ => by (repeat rw [apM_ne (by omega) (by omega)]); exact hT p_ w_ h1_ h2_) hp ⟨by decide, by decide⟩) ?_
              rintro _ _ ⟨x120, rfl, rfl, rfl⟩ ok120 le120
              refine V_if_ne (pc := 123) dX4_writeQuantity_123 (tgt := 133) rfl (fun h123 => ?_) (fun h123 => ?_)
              · skip
                refine V_retv (pc := 133) dX4_writeQuantity_133 trivial ?_
                first
                  | (exfalso; omega)
                  | ((repeat rw [apM_app])
                     exact congrArg (apM 15 1 16 m) (by
                       unfold qS
                       repeat (first | rw [if_pos (by omega)] | rw [if_neg (by omega)])
                       first | done | rfl | simp only [List.append_assoc, List.cons_append, List.nil_append, List.append_nil]))
              · skip
                refine V_ld (pc := 126) dX4_writeQuantity_126 (v := vr 15) rfl rfl ?_
                refine V_bipush (pc := 127) dX4_writeQuantity_127 (by unfold I32; omega) (by decide) ?_
                refine V_callV (pc := 129) dX4_writeQuantity_129 (F' := 0) (As := [vi 63]) (st := []) cw_RX4_35 rfl rfl hL.t15 (by decide) (Nat.le_of_ble_eq_true rfl) (by omega) (c_add1  (apM 15 1 16 (apM 15 1 16 (apM 15 1 16 m [123]) (numS (T p.toNat 3))) [125]) 63   (by first | assumption | omega) (by (try simp only [apM_sz, List.length_cons, List.length_nil, numS_len]); unfold qLen at hr; omega)) ?_
                rintro _ _ ⟨x129, rfl, -, rfl⟩ ok129 le129
                refine V_pop (pc := 132) dX4_writeQuantity_132 rfl ?_
                refine V_retv (pc := 133) dX4_writeQuantity_133 trivial ?_
                first
                  | (exfalso; omega)
                  | ((repeat rw [apM_app])
                     exact congrArg (apM 15 1 16 m) (by
                       unfold qS
                       repeat (first | rw [if_pos (by omega)] | rw [if_neg (by omega)])
                       first | done | rfl | simp only [List.append_assoc, List.cons_append, List.nil_append, List.append_nil]))
            · skip
              refine V_ld (pc := 104) dX4_writeQuantity_104 (v := vi (T p.toNat 4)) rfl rfl ?_
              refine V_ld (pc := 106) dX4_writeQuantity_106 (v := vr 15) rfl rfl ?_
              refine V_callS (pc := 107) dX4_writeQuantity_107 (F' := 1) (As := [vi (T p.toNat 4), vr 15]) (st := []) cw_RX4_52 rfl rfl (Nat.le_of_ble_eq_true rfl) (by omega) (c_wnum  (apM 15 1 16 (apM 15 1 16 m [123]) (numS (T p.toNat 3))) (T p.toNat 4)   (by first | assumption | omega) (by omega) (by (try simp only [apM_sz, List.length_cons, List.length_nil, numS_len]); unfold qLen at hr; omega)) ?_
              rintro _ _ ⟨rfl, rfl⟩ ok107 le107
              refine V_ld (pc := 110) dX4_writeQuantity_110 (v := vr 15) rfl rfl ?_
              refine V_bipush (pc := 111) dX4_writeQuantity_111 (by unfold I32; omega) (by decide) ?_
              refine V_callV (pc := 113) dX4_writeQuantity_113 (F' := 0) (As := [vi 125]) (st := []) cw_RX4_35 rfl rfl hL.t15 (by decide) (Nat.le_of_ble_eq_true rfl) (by omega) (c_add1  (apM 15 1 16 (apM 15 1 16 (apM 15 1 16 m [123]) (numS (T p.toNat 3))) (numS (T p.toNat 4))) 125   (by first | assumption | omega) (by (try simp only [apM_sz, List.length_cons, List.length_nil, numS_len]); unfold qLen at hr; omega)) ?_
              rintro _ _ ⟨x113, rfl, -, rfl⟩ ok113 le113
              refine V_pop (pc := 116) dX4_writeQuantity_116 rfl ?_
              refine V_ld (pc := 117) dX4_writeQuantity_117 (v := vr P) rfl rfl ?_
              refine V_ld (pc := 118) dX4_writeQuantity_118 (v := vi p) rfl rfl ?_
              refine V_iconst (pc := 119) dX4_writeQuantity_119 (by unfold I32; omega) ?_
              refine V_callV (pc := 120) dX4_writeQuantity_120 (F' := 0) (As := [vi p, vi 5]) (st := []) cw_RX4_23 rfl rfl T_P (by decide) (Nat.le_of_ble_eq_true rfl) (by omega) (c_factT L T c 5 (apM 15 1 16 (apM 15 1 16 (apM 15 1 16 (apM 15 1 16 m [123]) (numS (T p.toNat 3))) (numS (T p.toNat 4))) [125]) P p 5 A  T_P R_P_0 T_A (by (repeat rw [apM_ne (by omega) (by omega)]); exact hc) (fun p_ w_ h1_ h2_ => by (repeat rw [apM_ne (by omega) (by omega)]); exact hT p_ w_ h1_ h2_) hp ⟨by decide, by decide⟩) ?_
              rintro _ _ ⟨x120, rfl, rfl, rfl⟩ ok120 le120
              refine V_if_ne (pc := 123) dX4_writeQuantity_123 (tgt := 133) rfl (fun h123 => ?_) (fun h123 => ?_)
              · skip
                refine V_retv (pc := 133) dX4_writeQuantity_133 trivial ?_
                first
                  | (exfalso; omega)
                  | ((repeat rw [apM_app])
                     exact congrArg (apM 15 1 16 m) (by
                       unfold qS
                       repeat (first | rw [if_pos (by omega)] | rw [if_neg (by omega)])
                       first | done | rfl | simp only [List.append_assoc, List.cons_append, List.nil_append, List.append_nil]))
              · skip
                refine V_ld (pc := 126) dX4_writeQuantity_126 (v := vr 15) rfl rfl ?_
                refine V_bipush (pc := 127) dX4_writeQuantity_127 (by unfold I32; omega) (by decide) ?_
                refine V_callV (pc := 129) dX4_writeQuantity_129 (F' := 0) (As := [vi 63]) (st := []) cw_RX4_35 rfl rfl hL.t15 (by decide) (Nat.le_of_ble_eq_true rfl) (by omega) (c_add1  (apM 15 1 16 (apM 15 1 16 (apM 15 1 16 (apM 15 1 16 m [123]) (numS (T p.toNat 3))) (numS (T p.toNat 4))) [125]) 63   (by first | assumption | omega) (by (try simp only [apM_sz, List.length_cons, List.length_nil, numS_len]); unfold qLen at hr; omega)) ?_
                rintro _ _ ⟨x129, rfl, -, rfl⟩ ok129 le129
                refine V_pop (pc := 132) dX4_writeQuantity_132 rfl ?_
                refine V_retv (pc := 133) dX4_writeQuantity_133 trivial ?_
                first
                  | (exfalso; omega)
                  | ((repeat rw [apM_app])
                     exact congrArg (apM 15 1 16 m) (by
                       unfold qS
                       repeat (first | rw [if_pos (by omega)] | rw [if_neg (by omega)])
                       first | done | rfl | simp only [List.append_assoc, List.cons_append, List.nil_append, List.append_nil]))
        · skip
          refine V_ld (pc := 84) dX4_writeQuantity_84 (v := vr 15) rfl rfl ?_
          refine V_bipush (pc := 85) dX4_writeQuantity_85 (by unfold I32; omega) (by decide) ?_
          refine V_callV (pc := 87) dX4_writeQuantity_87 (F' := 0) (As := [vi 44]) (st := []) cw_RX4_35 rfl rfl hL.t15 (by decide) (Nat.le_of_ble_eq_true rfl) (by omega) (c_add1  (apM 15 1 16 (apM 15 1 16 m [123]) (numS (T p.toNat 3))) 44   (by first | assumption | omega) (by (try simp only [apM_sz, List.length_cons, List.length_nil, numS_len]); unfold qLen at hr; omega)) ?_
          rintro _ _ ⟨x87, rfl, -, rfl⟩ ok87 le87
          refine V_pop (pc := 90) dX4_writeQuantity_90 rfl ?_
          refine V_ld (pc := 91) dX4_writeQuantity_91 (v := vi (T p.toNat 4)) rfl rfl ?_
          refine V_ld (pc := 93) dX4_writeQuantity_93 (v := vi (T p.toNat 3)) rfl rfl ?_
          refine V_icmp_eq (pc := 94) dX4_writeQuantity_94 (tgt := 110) rfl (fun h94 => ?_) (fun h94 => ?_)
          · skip
            refine V_ld (pc := 110) dX4_writeQuantity_110 (v := vr 15) rfl rfl ?_
            refine V_bipush (pc := 111) dX4_writeQuantity_111 (by unfold I32; omega) (by decide) ?_
            refine V_callV (pc := 113) dX4_writeQuantity_113 (F' := 0) (As := [vi 125]) (st := []) cw_RX4_35 rfl rfl hL.t15 (by decide) (Nat.le_of_ble_eq_true rfl) (by omega) (c_add1  (apM 15 1 16 (apM 15 1 16 (apM 15 1 16 m [123]) (numS (T p.toNat 3))) [44]) 125   (by first | assumption | omega) (by (try simp only [apM_sz, List.length_cons, List.length_nil, numS_len]); unfold qLen at hr; omega)) ?_
            rintro _ _ ⟨x113, rfl, -, rfl⟩ ok113 le113
            refine V_pop (pc := 116) dX4_writeQuantity_116 rfl ?_
            refine V_ld (pc := 117) dX4_writeQuantity_117 (v := vr P) rfl rfl ?_
            refine V_ld (pc := 118) dX4_writeQuantity_118 (v := vi p) rfl rfl ?_
            refine V_iconst (pc := 119) dX4_writeQuantity_119 (by unfold I32; omega) ?_
            refine V_callV (pc := 120) dX4_writeQuantity_120 (F' := 0) (As := [vi p, vi 5]) (st := []) cw_RX4_23 rfl rfl T_P (by decide) (Nat.le_of_ble_eq_true rfl) (by omega) (c_factT L T c 5 (apM 15 1 16 (apM 15 1 16 (apM 15 1 16 (apM 15 1 16 m [123]) (numS (T p.toNat 3))) [44]) [125]) P p 5 A  T_P R_P_0 T_A (by (repeat rw [apM_ne (by omega) (by omega)]); exact hc) (fun p_ w_ h1_ h2_ => by (repeat rw [apM_ne (by omega) (by omega)]); exact hT p_ w_ h1_ h2_) hp ⟨by decide, by decide⟩) ?_
            rintro _ _ ⟨x120, rfl, rfl, rfl⟩ ok120 le120
            refine V_if_ne (pc := 123) dX4_writeQuantity_123 (tgt := 133) rfl (fun h123 => ?_) (fun h123 => ?_)
            · skip
              refine V_retv (pc := 133) dX4_writeQuantity_133 trivial ?_
              first
                | (exfalso; omega)
                | ((repeat rw [apM_app])
                   exact congrArg (apM 15 1 16 m) (by
                     unfold qS
                     repeat (first | rw [if_pos (by omega)] | rw [if_neg (by omega)])
                     first | done | rfl | simp only [List.append_assoc, List.cons_append, List.nil_append, List.append_nil]))
            · skip
              refine V_ld (pc := 126) dX4_writeQuantity_126 (v := vr 15) rfl rfl ?_
              refine V_bipush (pc := 127) dX4_writeQuantity_127 (by unfold I32; omega) (by decide) ?_
              refine V_callV (pc := 129) dX4_writeQuantity_129 (F' := 0) (As := [vi 63]) (st := []) cw_RX4_35 rfl rfl hL.t15 (by decide) (Nat.le_of_ble_eq_true rfl) (by omega) (c_add1  (apM 15 1 16 (apM 15 1 16 (apM 15 1 16 (apM 15 1 16 m [123]) (numS (T p.toNat 3))) [44]) [125]) 63   (by first | assumption | omega) (by (try simp only [apM_sz, List.length_cons, List.length_nil, numS_len]); unfold qLen at hr; omega)) ?_
              rintro _ _ ⟨x129, rfl, -, rfl⟩ ok129 le129
              refine V_pop (pc := 132) dX4_writeQuantity_132 rfl ?_
              refine V_retv (pc := 133) dX4_writeQuantity_133 trivial ?_
              first
                | (exfalso; omega)
                | ((repeat rw [apM_app])
                   exact congrArg (apM 15 1 16 m) (by
                     unfold qS
                     repeat (first | rw [if_pos (by omega)] | rw [if_neg (by omega)])
                     first | done | rfl | simp only [List.append_assoc, List.cons_append, List.nil_append, List.append_nil]))
          · skip
            refine V_ld (pc := 97) dX4_writeQuantity_97 (v := vi (T p.toNat 4)) rfl rfl ?_
            refine V_bipush (pc := 99) dX4_writeQuantity_99 (by unfold I32; omega) (by decide) ?_
            refine V_icmp_eq (pc := 101) dX4_writeQuantity_101 (tgt := 110) rfl (fun h101 => ?_) (fun h101 => ?_)
            · skip
              refine V_ld (pc := 110) dX4_writeQuantity_110 (v := vr 15) rfl rfl ?_
              refine V_bipush (pc := 111) dX4_writeQuantity_111 (by unfold I32; omega) (by decide) ?_
              refine V_callV (pc := 113) dX4_writeQuantity_113 (F' := 0) (As := [vi 125]) (st := []) cw_RX4_35 rfl rfl hL.t15 (by decide) (Nat.le_of_ble_eq_true rfl) (by omega) (c_add1  (apM 15 1 16 (apM 15 1 16 (apM 15 1 16 m [123]) (numS (T p.toNat 3))) [44]) 125   (by first | assumption | omega) (by (try simp only [apM_sz, List.length_cons, List.length_nil, numS_len]); unfold qLen at hr; omega)) ?_
              rintro _ _ ⟨x113, rfl, -, rfl⟩ ok113 le113
              refine V_pop (pc := 116) dX4_writeQuantity_116 rfl ?_
              refine V_ld (pc := 117) dX4_writeQuantity_117 (v := vr P) rfl rfl ?_
              refine V_ld (pc := 118) dX4_writeQuantity_118 (v := vi p) rfl rfl ?_
              refine V_iconst (pc := 119) dX4_writeQuantity_119 (by unfold I32; omega) ?_
              refine V_callV (pc := 120) dX4_writeQuantity_120 (F' := 0) (As := [vi p, vi 5]) (st := []) cw_RX4_23 rfl rfl T_P (by decide) (Nat.le_of_ble_eq_true rfl) (by omega) (c_factT L T c 5 (apM 15 1 16 (apM 15 1 16 (apM 15 1 16 (apM 15 1 16 m [123]) (numS (T p.toNat 3))) [44]) [125]) P p 5 A  T_P R_P_0 T_A (by (repeat rw [apM_ne (by omega) (by omega)]); exact hc) (fun p_ w_ h1_ h2_ => by (repeat rw [apM_ne (by omega) (by omega)]); exact hT p_ w_ h1_ h2_) hp ⟨by decide, by decide⟩) ?_
              rintro _ _ ⟨x120, rfl, rfl, rfl⟩ ok120 le120
              refine V_if_ne (pc := 123) dX4_writeQuantity_123 (tgt := 133) rfl (fun h123 => ?_) (fun h123 => ?_)
              · skip
                refine V_retv (pc := 133) dX4_writeQuantity_133 trivial ?_
                first
                  | (exfalso; omega)
                  | ((repeat rw [apM_app])
                     exact congrArg (apM 15 1 16 m) (by
                       unfold qS
                       repeat (first | rw [if_pos (by omega)] | rw [if_neg (by omega)])
                       first | done | rfl | simp only [List.append_assoc, List.cons_append, List.nil_append, List.append_nil]))
              · skip
                refine V_ld (pc := 126) dX4_writeQuantity_126 (v := vr 15) rfl rfl ?_
                refine V_bipush (pc := 127) dX4_writeQuantity_127 (by unfold I32; omega) (by decide) ?_
                refine V_callV (pc := 129) dX4_writeQuantity_129 (F' := 0) (As := [vi 63]) (st := []) cw_RX4_35 rfl rfl hL.t15 (by decide) (Nat.le_of_ble_eq_true rfl) (by omega) (c_add1  (apM 15 1 16 (apM 15 1 16 (apM 15 1 16 (apM 15 1 16 m [123]) (numS (T p.toNat 3))) [44]) [125]) 63   (by first | assumption | omega) (by (try simp only [apM_sz, List.length_cons, List.length_nil, numS_len]); unfold qLen at hr; omega)) ?_
                rintro _ _ ⟨x129, rfl, -, rfl⟩ ok129 le129
                refine V_pop (pc := 132) dX4_writeQuantity_132 rfl ?_
                refine V_retv (pc := 133) dX4_writeQuantity_133 trivial ?_
                first
                  | (exfalso; omega)
                  | ((repeat rw [apM_app])
                     exact congrArg (apM 15 1 16 m) (by
                       unfold qS
                       repeat (first | rw [if_pos (by omega)] | rw [if_neg (by omega)])
                       first | done | rfl | simp only [List.append_assoc, List.cons_append, List.nil_append, List.append_nil]))
            · skip
              refine V_ld (pc := 104) dX4_writeQuantity_104 (v := vi (T p.toNat 4)) rfl rfl ?_
              refine V_ld (pc := 106) dX4_writeQuantity_106 (v := vr 15) rfl rfl ?_
              refine V_callS (pc := 107) dX4_writeQuantity_107 (F' := 1) (As := [vi (T p.toNat 4), vr 15]) (st := []) cw_RX4_52 rfl rfl (Nat.le_of_ble_eq_true rfl) (by omega) (c_wnum  (apM 15 1 16 (apM 15 1 16 (apM 15 1 16 m [123]) (numS (T p.toNat 3))) [44]) (T p.toNat 4)   (by first | assumption | omega) (by omega) (by (try simp only [apM_sz, List.length_cons, List.length_nil, numS_len]); unfold qLen at hr; omega)) ?_
              rintro _ _ ⟨rfl, rfl⟩ ok107 le107
              refine V_ld (pc := 110) dX4_writeQuantity_110 (v := vr 15) rfl rfl ?_
              refine V_bipush (pc := 111) dX4_writeQuantity_111 (by unfold I32; omega) (by decide) ?_
              refine V_callV (pc := 113) dX4_writeQuantity_113 (F' := 0) (As := [vi 125]) (st := []) cw_RX4_35 rfl rfl hL.t15 (by decide) (Nat.le_of_ble_eq_true rfl) (by omega) (c_add1  (apM 15 1 16 (apM 15 1 16 (apM 15 1 16 (apM 15 1 16 m [123]) (numS (T p.toNat 3))) [44]) (numS (T p.toNat 4))) 125   (by first | assumption | omega) (by (try simp only [apM_sz, List.length_cons, List.length_nil, numS_len]); unfold qLen at hr; omega)) ?_
              rintro _ _ ⟨x113, rfl, -, rfl⟩ ok113 le113
              refine V_pop (pc := 116) dX4_writeQuantity_116 rfl ?_
              refine V_ld (pc := 117) dX4_writeQuantity_117 (v := vr P) rfl rfl ?_
              refine V_ld (pc := 118) dX4_writeQuantity_118 (v := vi p) rfl rfl ?_
              refine V_iconst (pc := 119) dX4_writeQuantity_119 (by unfold I32; omega) ?_
              refine V_callV (pc := 120) dX4_writeQuantity_120 (F' := 0) (As := [vi p, vi 5]) (st := []) cw_RX4_23 rfl rfl T_P (by decide) (Nat.le_of_ble_eq_true rfl) (by omega) (c_factT L T c 5 (apM 15 1 16 (apM 15 1 16 (apM 15 1 16 (apM 15 1 16 (apM 15 1 16 m [123]) (numS (T p.toNat 3))) [44]) (numS (T p.toNat 4))) [125]) P p 5 A  T_P R_P_0 T_A (by (repeat rw [apM_ne (by omega) (by omega)]); exact hc) (fun p_ w_ h1_ h2_ => by (repeat rw [apM_ne (by omega) (by omega)]); exact hT p_ w_ h1_ h2_) hp ⟨by decide, by decide⟩) ?_
              rintro _ _ ⟨x120, rfl, rfl, rfl⟩ ok120 le120
              refine V_if_ne (pc := 123) dX4_writeQuantity_123 (tgt := 133) rfl (fun h123 => ?_) (fun h123 => ?_)
              · skip
                refine V_retv (pc := 133) dX4_writeQuantity_133 trivial ?_
                first
                  | (exfalso; omega)
                  | ((repeat rw [apM_app])
                     exact congrArg (apM 15 1 16 m) (by
                       unfold qS
                       repeat (first | rw [if_pos (by omega)] | rw [if_neg (by omega)])
                       first | done | rfl | simp only [List.append_assoc, List.cons_append, List.nil_append, List.append_nil]))
              · skip
                refine V_ld (pc := 126) dX4_writeQuantity_126 (v := vr 15) rfl rfl ?_
                refine V_bipush (pc := 127) dX4_writeQuantity_127 (by unfold I32; omega) (by decide) ?_
                refine V_callV (pc := 129) dX4_writeQuantity_129 (F' := 0) (As := [vi 63]) (st := []) cw_RX4_35 rfl rfl hL.t15 (by decide) (Nat.le_of_ble_eq_true rfl) (by omega) (c_add1  (apM 15 1 16 (apM 15 1 16 (apM 15 1 16 (apM 15 1 16 (apM 15 1 16 m [123]) (numS (T p.toNat 3))) [44]) (numS (T p.toNat 4))) [125]) 63   (by first | assumption | omega) (by (try simp only [apM_sz, List.length_cons, List.length_nil, numS_len]); unfold qLen at hr; omega)) ?_
                rintro _ _ ⟨x129, rfl, -, rfl⟩ ok129 le129
                refine V_pop (pc := 132) dX4_writeQuantity_132 rfl ?_
                refine V_retv (pc := 133) dX4_writeQuantity_133 trivial ?_
                first
                  | (exfalso; omega)
                  | ((repeat rw [apM_app])
                     exact congrArg (apM 15 1 16 m) (by
                       unfold qS
                       repeat (first | rw [if_pos (by omega)] | rw [if_neg (by omega)])
                       first | done | rfl | simp only [List.append_assoc, List.cons_append, List.nil_append, List.append_nil]))
      · skip
        refine V_ld (pc := 56) dX4_writeQuantity_56 (v := vr 15) rfl rfl ?_
        refine V_bipush (pc := 57) dX4_writeQuantity_57 (by unfold I32; omega) (by decide) ?_
        refine V_callV (pc := 59) dX4_writeQuantity_59 (F' := 0) (As := [vi 63]) (st := []) cw_RX4_35 rfl rfl hL.t15 (by decide) (Nat.le_of_ble_eq_true rfl) (by omega) (c_add1  m 63   (by first | assumption | omega) (by (try simp only [apM_sz, List.length_cons, List.length_nil, numS_len]); unfold qLen at hr; omega)) ?_
        rintro _ _ ⟨x59, rfl, -, rfl⟩ ok59 le59
        refine V_pop (pc := 62) dX4_writeQuantity_62 rfl ?_
        refine V_goto (pc := 63) dX4_writeQuantity_63 (tgt := 117) rfl ?_
        refine V_ld (pc := 117) dX4_writeQuantity_117 (v := vr P) rfl rfl ?_
        refine V_ld (pc := 118) dX4_writeQuantity_118 (v := vi p) rfl rfl ?_
        refine V_iconst (pc := 119) dX4_writeQuantity_119 (by unfold I32; omega) ?_
        refine V_callV (pc := 120) dX4_writeQuantity_120 (F' := 0) (As := [vi p, vi 5]) (st := []) cw_RX4_23 rfl rfl T_P (by decide) (Nat.le_of_ble_eq_true rfl) (by omega) (c_factT L T c 5 (apM 15 1 16 m [63]) P p 5 A  T_P R_P_0 T_A (by (repeat rw [apM_ne (by omega) (by omega)]); exact hc) (fun p_ w_ h1_ h2_ => by (repeat rw [apM_ne (by omega) (by omega)]); exact hT p_ w_ h1_ h2_) hp ⟨by decide, by decide⟩) ?_
        rintro _ _ ⟨x120, rfl, rfl, rfl⟩ ok120 le120
        refine V_if_ne (pc := 123) dX4_writeQuantity_123 (tgt := 133) rfl (fun h123 => ?_) (fun h123 => ?_)
        · skip
          refine V_retv (pc := 133) dX4_writeQuantity_133 trivial ?_
          first
            | (exfalso; omega)
            | ((repeat rw [apM_app])
               exact congrArg (apM 15 1 16 m) (by
                 unfold qS
                 repeat (first | rw [if_pos (by omega)] | rw [if_neg (by omega)])
                 first | done | rfl | simp only [List.append_assoc, List.cons_append, List.nil_append, List.append_nil]))
        · skip
          refine V_ld (pc := 126) dX4_writeQuantity_126 (v := vr 15) rfl rfl ?_
          refine V_bipush (pc := 127) dX4_writeQuantity_127 (by unfold I32; omega) (by decide) ?_
          refine V_callV (pc := 129) dX4_writeQuantity_129 (F' := 0) (As := [vi 63]) (st := []) cw_RX4_35 rfl rfl hL.t15 (by decide) (Nat.le_of_ble_eq_true rfl) (by omega) (c_add1  (apM 15 1 16 m [63]) 63   (by first | assumption | omega) (by (try simp only [apM_sz, List.length_cons, List.length_nil, numS_len]); unfold qLen at hr; omega)) ?_
          rintro _ _ ⟨x129, rfl, -, rfl⟩ ok129 le129
          refine V_pop (pc := 132) dX4_writeQuantity_132 rfl ?_
          refine V_retv (pc := 133) dX4_writeQuantity_133 trivial ?_
          first
            | (exfalso; omega)
            | ((repeat rw [apM_app])
               exact congrArg (apM 15 1 16 m) (by
                 unfold qS
                 repeat (first | rw [if_pos (by omega)] | rw [if_neg (by omega)])
                 first | done | rfl | simp only [List.append_assoc, List.cons_append, List.nil_append, List.append_nil]))
  · skip
    refine V_ld (pc := 22) dX4_writeQuantity_22 (v := vi (T p.toNat 3)) rfl rfl ?_
    refine V_iconst (pc := 23) dX4_writeQuantity_23 (by unfold I32; omega) ?_
    refine V_icmp_ge (pc := 24) dX4_writeQuantity_24 (tgt := 46) rfl (fun h24 => ?_) (fun h24 => ?_)
    · skip
      refine V_ld (pc := 46) dX4_writeQuantity_46 (v := vi (T p.toNat 3)) rfl rfl ?_
      refine V_if_ne (pc := 47) dX4_writeQuantity_47 (tgt := 66) rfl (fun h47 => ?_) (fun h47 => ?_)
      · skip
        refine V_ld (pc := 66) dX4_writeQuantity_66 (v := vr 15) rfl rfl ?_
        refine V_bipush (pc := 67) dX4_writeQuantity_67 (by unfold I32; omega) (by decide) ?_
        refine V_callV (pc := 69) dX4_writeQuantity_69 (F' := 0) (As := [vi 123]) (st := []) cw_RX4_35 rfl rfl hL.t15 (by decide) (Nat.le_of_ble_eq_true rfl) (by omega) (c_add1  m 123   (by first | assumption | omega) (by (try simp only [apM_sz, List.length_cons, List.length_nil, numS_len]); unfold qLen at hr; omega)) ?_
        rintro _ _ ⟨x69, rfl, -, rfl⟩ ok69 le69
        refine V_pop (pc := 72) dX4_writeQuantity_72 rfl ?_
        refine V_ld (pc := 73) dX4_writeQuantity_73 (v := vi (T p.toNat 3)) rfl rfl ?_
        refine V_ld (pc := 74) dX4_writeQuantity_74 (v := vr 15) rfl rfl ?_
        refine V_callS (pc := 75) dX4_writeQuantity_75 (F' := 1) (As := [vi (T p.toNat 3), vr 15]) (st := []) cw_RX4_52 rfl rfl (Nat.le_of_ble_eq_true rfl) (by omega) (c_wnum  (apM 15 1 16 m [123]) (T p.toNat 3)   (by first | assumption | omega) (by omega) (by (try simp only [apM_sz, List.length_cons, List.length_nil, numS_len]); unfold qLen at hr; omega)) ?_
        rintro _ _ ⟨rfl, rfl⟩ ok75 le75
        refine V_ld (pc := 78) dX4_writeQuantity_78 (v := vi (T p.toNat 4)) rfl rfl ?_
        refine V_ld (pc := 80) dX4_writeQuantity_80 (v := vi (T p.toNat 3)) rfl rfl ?_
        refine V_icmp_eq (pc := 81) dX4_writeQuantity_81 (tgt := 91) rfl (fun h81 => ?_) (fun h81 => ?_)
        · skip
          refine V_ld (pc := 91) dX4_writeQuantity_91 (v := vi (T p.toNat 4)) rfl rfl ?_
          refine V_ld (pc := 93) dX4_writeQuantity_93 (v := vi (T p.toNat 3)) rfl rfl ?_
          refine V_icmp_eq (pc := 94) dX4_writeQuantity_94 (tgt := 110) rfl (fun h94 => ?_) (fun h94 => ?_)
          · skip
            refine V_ld (pc := 110) dX4_writeQuantity_110 (v := vr 15) rfl rfl ?_
            refine V_bipush (pc := 111) dX4_writeQuantity_111 (by unfold I32; omega) (by decide) ?_
            refine V_callV (pc := 113) dX4_writeQuantity_113 (F' := 0) (As := [vi 125]) (st := []) cw_RX4_35 rfl rfl hL.t15 (by decide) (Nat.le_of_ble_eq_true rfl) (by omega) (c_add1  (apM 15 1 16 (apM 15 1 16 m [123]) (numS (T p.toNat 3))) 125   (by first | assumption | omega) (by (try simp only [apM_sz, List.length_cons, List.length_nil, numS_len]); unfold qLen at hr; omega)) ?_
            rintro _ _ ⟨x113, rfl, -, rfl⟩ ok113 le113
            refine V_pop (pc := 116) dX4_writeQuantity_116 rfl ?_
            refine V_ld (pc := 117) dX4_writeQuantity_117 (v := vr P) rfl rfl ?_
            refine V_ld (pc := 118) dX4_writeQuantity_118 (v := vi p) rfl rfl ?_
            refine V_iconst (pc := 119) dX4_writeQuantity_119 (by unfold I32; omega) ?_
            refine V_callV (pc := 120) dX4_writeQuantity_120 (F' := 0) (As := [vi p, vi 5]) (st := []) cw_RX4_23 rfl rfl T_P (by decide) (Nat.le_of_ble_eq_true rfl) (by omega) (c_factT L T c 5 (apM 15 1 16 (apM 15 1 16 (apM 15 1 16 m [123]) (numS (T p.toNat 3))) [125]) P p 5 A  T_P R_P_0 T_A (by (repeat rw [apM_ne (by omega) (by omega)]); exact hc) (fun p_ w_ h1_ h2_ => by (repeat rw [apM_ne (by omega) (by omega)]); exact hT p_ w_ h1_ h2_) hp ⟨by decide, by decide⟩) ?_
            rintro _ _ ⟨x120, rfl, rfl, rfl⟩ ok120 le120
            refine V_if_ne (pc := 123) dX4_writeQuantity_123 (tgt := 133) rfl (fun h123 => ?_) (fun h123 => ?_)
            · skip
              refine V_retv (pc := 133) dX4_writeQuantity_133 trivial ?_
              first
                | (exfalso; omega)
                | ((repeat rw [apM_app])
                   exact congrArg (apM 15 1 16 m) (by
                     unfold qS
                     repeat (first | rw [if_pos (by omega)] | rw [if_neg (by omega)])
                     first | done | rfl | simp only [List.append_assoc, List.cons_append, List.nil_append, List.append_nil]))
            · skip
              refine V_ld (pc := 126) dX4_writeQuantity_126 (v := vr 15) rfl rfl ?_
              refine V_bipush (pc := 127) dX4_writeQuantity_127 (by unfold I32; omega) (by decide) ?_
              refine V_callV (pc := 129) dX4_writeQuantity_129 (F' := 0) (As := [vi 63]) (st := []) cw_RX4_35 rfl rfl hL.t15 (by decide) (Nat.le_of_ble_eq_true rfl) (by omega) (c_add1  (apM 15 1 16 (apM 15 1 16 (apM 15 1 16 m [123]) (numS (T p.toNat 3))) [125]) 63   (by first | assumption | omega) (by (try simp only [apM_sz, List.length_cons, List.length_nil, numS_len]); unfold qLen at hr; omega)) ?_
              rintro _ _ ⟨x129, rfl, -, rfl⟩ ok129 le129
              refine V_pop (pc := 132) dX4_writeQuantity_132 rfl ?_
              refine V_retv (pc := 133) dX4_writeQuantity_133 trivial ?_
              first
                | (exfalso; omega)
                | ((repeat rw [apM_app])
                   exact congrArg (apM 15 1 16 m) (by
                     unfold qS
                     repeat (first | rw [if_pos (by omega)] | rw [if_neg (by omega)])
                     first | done | rfl | simp only [List.append_assoc, List.cons_append, List.nil_append, List.append_nil]))
          · skip
            refine V_ld (pc := 97) dX4_writeQuantity_97 (v := vi (T p.toNat 4)) rfl rfl ?_
            refine V_bipush (pc := 99) dX4_writeQuantity_99 (by unfold I32; omega) (by decide) ?_
            refine V_icmp_eq (pc := 101) dX4_writeQuantity_101 (tgt := 110) rfl (fun h101 => ?_) (fun h101 => ?_)
            · skip
              refine V_ld (pc := 110) dX4_writeQuantity_110 (v := vr 15) rfl rfl ?_
              refine V_bipush (pc := 111) dX4_writeQuantity_111 (by unfold I32; omega) (by decide) ?_
              refine V_callV (pc := 113) dX4_writeQuantity_113 (F' := 0) (As := [vi 125]) (st := []) cw_RX4_35 rfl rfl hL.t15 (by decide) (Nat.le_of_ble_eq_true rfl) (by omega) (c_add1  (apM 15 1 16 (apM 15 1 16 m [123]) (numS (T p.toNat 3))) 125   (by first | assumption | omega) (by (try simp only [apM_sz, List.length_cons, List.length_nil, numS_len]); unfold qLen at hr; omega)) ?_
              rintro _ _ ⟨x113, rfl, -, rfl⟩ ok113 le113
              refine V_pop (pc := 116) dX4_writeQuantity_116 rfl ?_
              refine V_ld (pc := 117) dX4_writeQuantity_117 (v := vr P) rfl rfl ?_
              refine V_ld (pc := 118) dX4_writeQuantity_118 (v := vi p) rfl rfl ?_
              refine V_iconst (pc := 119) dX4_writeQuantity_119 (by unfold I32; omega) ?_
              refine V_callV (pc := 120) dX4_writeQuantity_120 (F' := 0) (As := [vi p, vi 5]) (st := []) cw_RX4_23 rfl rfl T_P (by decide) (Nat.le_of_ble_eq_true rfl) (by omega) (c_factT L T c 5 (apM 15 1 16 (apM 15 1 16 (apM 15 1 16 m [123]) (numS (T p.toNat 3))) [125]) P p 5 A  T_P R_P_0 T_A (by (repeat rw [apM_ne (by omega) (by omega)]); exact hc) (fun p_ w_ h1_ h2_ => by (repeat rw [apM_ne (by omega) (by omega)]); exact hT p_ w_ h1_ h2_) hp ⟨by decide, by decide⟩) ?_
              rintro _ _ ⟨x120, rfl, rfl, rfl⟩ ok120 le120
              refine V_if_ne (pc := 123) dX4_writeQuantity_123 (tgt := 133) rfl (fun h123 => ?_) (fun h123 => ?_)
              · skip
                refine V_retv (pc := 133) dX4_writeQuantity_133 trivial ?_
                first
                  | (exfalso; omega)
                  | ((repeat rw [apM_app])
                     exact congrArg (apM 15 1 16 m) (by
                       unfold qS
                       repeat (first | rw [if_pos (by omega)] | rw [if_neg (by omega)])
                       first | done | rfl | simp only [List.append_assoc, List.cons_append, List.nil_append, List.append_nil]))
              · skip
                refine V_ld (pc := 126) dX4_writeQuantity_126 (v := vr 15) rfl rfl ?_
                refine V_bipush (pc := 127) dX4_writeQuantity_127 (by unfold I32; omega) (by decide) ?_
                refine V_callV (pc := 129) dX4_writeQuantity_129 (F' := 0) (As := [vi 63]) (st := []) cw_RX4_35 rfl rfl hL.t15 (by decide) (Nat.le_of_ble_eq_true rfl) (by omega) (c_add1  (apM 15 1 16 (apM 15 1 16 (apM 15 1 16 m [123]) (numS (T p.toNat 3))) [125]) 63   (by first | assumption | omega) (by (try simp only [apM_sz, List.length_cons, List.length_nil, numS_len]); unfold qLen at hr; omega)) ?_
                rintro _ _ ⟨x129, rfl, -, rfl⟩ ok129 le129
                refine V_pop (pc := 132) dX4_writeQuantity_132 rfl ?_
                refine V_retv (pc := 133) dX4_writeQuantity_133 trivial ?_
                first
                  | (exfalso; omega)
                  | ((repeat rw [apM_app])
                     exact congrArg (apM 15 1 16 m) (by
                       unfold qS
                       repeat (first | rw [if_pos (by omega)] | rw [if_neg (by omega)])
                       first | done | rfl | simp only [List.append_assoc, List.cons_append, List.nil_append, List.append_nil]))
            · skip
              refine V_ld (pc := 104) dX4_writeQuantity_104 (v := vi (T p.toNat 4)) rfl rfl ?_
              refine V_ld (pc := 106) dX4_writeQuantity_106 (v := vr 15) rfl rfl ?_
              refine V_callS (pc := 107) dX4_writeQuantity_107 (F' := 1) (As := [vi (T p.toNat 4), vr 15]) (st := []) cw_RX4_52 rfl rfl (Nat.le_of_ble_eq_true rfl) (by omega) (c_wnum  (apM 15 1 16 (apM 15 1 16 m [123]) (numS (T p.toNat 3))) (T p.toNat 4)   (by first | assumption | omega) (by omega) (by (try simp only [apM_sz, List.length_cons, List.length_nil, numS_len]); unfold qLen at hr; omega)) ?_
              rintro _ _ ⟨rfl, rfl⟩ ok107 le107
              refine V_ld (pc := 110) dX4_writeQuantity_110 (v := vr 15) rfl rfl ?_
              refine V_bipush (pc := 111) dX4_writeQuantity_111 (by unfold I32; omega) (by decide) ?_
              refine V_callV (pc := 113) dX4_writeQuantity_113 (F' := 0) (As := [vi 125]) (st := []) cw_RX4_35 rfl rfl hL.t15 (by decide) (Nat.le_of_ble_eq_true rfl) (by omega) (c_add1  (apM 15 1 16 (apM 15 1 16 (apM 15 1 16 m [123]) (numS (T p.toNat 3))) (numS (T p.toNat 4))) 125   (by first | assumption | omega) (by (try simp only [apM_sz, List.length_cons, List.length_nil, numS_len]); unfold qLen at hr; omega)) ?_
              rintro _ _ ⟨x113, rfl, -, rfl⟩ ok113 le113
              refine V_pop (pc := 116) dX4_writeQuantity_116 rfl ?_
              refine V_ld (pc := 117) dX4_writeQuantity_117 (v := vr P) rfl rfl ?_
              refine V_ld (pc := 118) dX4_writeQuantity_118 (v := vi p) rfl rfl ?_
              refine V_iconst (pc := 119) dX4_writeQuantity_119 (by unfold I32; omega) ?_
              refine V_callV (pc := 120) dX4_writeQuantity_120 (F' := 0) (As := [vi p, vi 5]) (st := []) cw_RX4_23 rfl rfl T_P (by decide) (Nat.le_of_ble_eq_true rfl) (by omega) (c_factT L T c 5 (apM 15 1 16 (apM 15 1 16 (apM 15 1 16 (apM 15 1 16 m [123]) (numS (T p.toNat 3))) (numS (T p.toNat 4))) [125]) P p 5 A  T_P R_P_0 T_A (by (repeat rw [apM_ne (by omega) (by omega)]); exact hc) (fun p_ w_ h1_ h2_ => by (repeat rw [apM_ne (by omega) (by omega)]); exact hT p_ w_ h1_ h2_) hp ⟨by decide, by decide⟩) ?_
              rintro _ _ ⟨x120, rfl, rfl, rfl⟩ ok120 le120
              refine V_if_ne (pc := 123) dX4_writeQuantity_123 (tgt := 133) rfl (fun h123 => ?_) (fun h123 => ?_)
              · skip
                refine V_retv (pc := 133) dX4_writeQuantity_133 trivial ?_
                first
                  | (exfalso; omega)
                  | ((repeat rw [apM_app])
                     exact congrArg (apM 15 1 16 m) (by
                       unfold qS
                       repeat (first | rw [if_pos (by omega)] | rw [if_neg (by omega)])
                       first | done | rfl | simp only [List.append_assoc, List.cons_append, List.nil_append, List.append_nil]))
              · skip
                refine V_ld (pc := 126) dX4_writeQuantity_126 (v := vr 15) rfl rfl ?_
                refine V_bipush (pc := 127) dX4_writeQuantity_127 (by unfold I32; omega) (by decide) ?_
                refine V_callV (pc := 129) dX4_writeQuantity_129 (F' := 0) (As := [vi 63]) (st := []) cw_RX4_35 rfl rfl hL.t15 (by decide) (Nat.le_of_ble_eq_true rfl) (by omega) (c_add1  (apM 15 1 16 (apM 15 1 16 (apM 15 1 16 (apM 15 1 16 m [123]) (numS (T p.toNat 3))) (numS (T p.toNat 4))) [125]) 63   (by first | assumption | omega) (by (try simp only [apM_sz, List.length_cons, List.length_nil, numS_len]); unfold qLen at hr; omega)) ?_
                rintro _ _ ⟨x129, rfl, -, rfl⟩ ok129 le129
                refine V_pop (pc := 132) dX4_writeQuantity_132 rfl ?_
                refine V_retv (pc := 133) dX4_writeQuantity_133 trivial ?_
                first
                  | (exfalso; omega)
                  | ((repeat rw [apM_app])
                     exact congrArg (apM 15 1 16 m) (by
                       unfold qS
                       repeat (first | rw [if_pos (by omega)] | rw [if_neg (by omega)])
                       first | done | rfl | simp only [List.append_assoc, List.cons_append, List.nil_append, List.append_nil]))
        · skip
          refine V_ld (pc := 84) dX4_writeQuantity_84 (v := vr 15) rfl rfl ?_
          refine V_bipush (pc := 85) dX4_writeQuantity_85 (by unfold I32; omega) (by decide) ?_
          refine V_callV (pc := 87) dX4_writeQuantity_87 (F' := 0) (As := [vi 44]) (st := []) cw_RX4_35 rfl rfl hL.t15 (by decide) (Nat.le_of_ble_eq_true rfl) (by omega) (c_add1  (apM 15 1 16 (apM 15 1 16 m [123]) (numS (T p.toNat 3))) 44   (by first | assumption | omega) (by (try simp only [apM_sz, List.length_cons, List.length_nil, numS_len]); unfold qLen at hr; omega)) ?_
          rintro _ _ ⟨x87, rfl, -, rfl⟩ ok87 le87
          refine V_pop (pc := 90) dX4_writeQuantity_90 rfl ?_
          refine V_ld (pc := 91) dX4_writeQuantity_91 (v := vi (T p.toNat 4)) rfl rfl ?_
          refine V_ld (pc := 93) dX4_writeQuantity_93 (v := vi (T p.toNat 3)) rfl rfl ?_
          refine V_icmp_eq (pc := 94) dX4_writeQuantity_94 (tgt := 110) rfl (fun h94 => ?_) (fun h94 => ?_)
          · skip
            refine V_ld (pc := 110) dX4_writeQuantity_110 (v := vr 15) rfl rfl ?_
            refine V_bipush (pc := 111) dX4_writeQuantity_111 (by unfold I32; omega) (by decide) ?_
            refine V_callV (pc := 113) dX4_writeQuantity_113 (F' := 0) (As := [vi 125]) (st := []) cw_RX4_35 rfl rfl hL.t15 (by decide) (Nat.le_of_ble_eq_true rfl) (by omega) (c_add1  (apM 15 1 16 (apM 15 1 16 (apM 15 1 16 m [123]) (numS (T p.toNat 3))) [44]) 125   (by first | assumption | omega) (by (try simp only [apM_sz, List.length_cons, List.length_nil, numS_len]); unfold qLen at hr; omega)) ?_
            rintro _ _ ⟨x113, rfl, -, rfl⟩ ok113 le113
            refine V_pop (pc := 116) dX4_writeQuantity_116 rfl ?_
            refine V_ld (pc := 117) dX4_writeQuantity_117 (v := vr P) rfl rfl ?_
            refine V_ld (pc := 118) dX4_writeQuantity_118 (v := vi p) rfl rfl ?_
            refine V_iconst (pc := 119) dX4_writeQuantity_119 (by unfold I32; omega) ?_
            refine V_callV (pc := 120) dX4_writeQuantity_120 (F' := 0) (As := [vi p, vi 5]) (st := []) cw_RX4_23 rfl rfl T_P (by decide) (Nat.le_of_ble_eq_true rfl) (by omega) (c_factT L T c 5 (apM 15 1 16 (apM 15 1 16 (apM 15 1 16 (apM 15 1 16 m [123]) (numS (T p.toNat 3))) [44]) [125]) P p 5 A  T_P R_P_0 T_A (by (repeat rw [apM_ne (by omega) (by omega)]); exact hc) (fun p_ w_ h1_ h2_ => by (repeat rw [apM_ne (by omega) (by omega)]); exact hT p_ w_ h1_ h2_) hp ⟨by decide, by decide⟩) ?_
            rintro _ _ ⟨x120, rfl, rfl, rfl⟩ ok120 le120
            refine V_if_ne (pc := 123) dX4_writeQuantity_123 (tgt := 133) rfl (fun h123 => ?_) (fun h123 => ?_)
            · skip
              refine V_retv (pc := 133) dX4_writeQuantity_133 trivial ?_
              first
                | (exfalso; omega)
                | ((repeat rw [apM_app])
                   exact congrArg (apM 15 1 16 m) (by
                     unfold qS
                     repeat (first | rw [if_pos (by omega)] | rw [if_neg (by omega)])
                     first | done | rfl | simp only [List.append_assoc, List.cons_append, List.nil_append, List.append_nil]))
            · skip
              refine V_ld (pc := 126) dX4_writeQuantity_126 (v := vr 15) rfl rfl ?_
              refine V_bipush (pc := 127) dX4_writeQuantity_127 (by unfold I32; omega) (by decide) ?_
              refine V_callV (pc := 129) dX4_writeQuantity_129 (F' := 0) (As := [vi 63]) (st := []) cw_RX4_35 rfl rfl hL.t15 (by decide) (Nat.le_of_ble_eq_true rfl) (by omega) (c_add1  (apM 15 1 16 (apM 15 1 16 (apM 15 1 16 (apM 15 1 16 m [123]) (numS (T p.toNat 3))) [44]) [125]) 63   (by first | assumption | omega) (by (try simp only [apM_sz, List.length_cons, List.length_nil, numS_len]); unfold qLen at hr; omega)) ?_
              rintro _ _ ⟨x129, rfl, -, rfl⟩ ok129 le129
              refine V_pop (pc := 132) dX4_writeQuantity_132 rfl ?_
              refine V_retv (pc := 133) dX4_writeQuantity_133 trivial ?_
              first
                | (exfalso; omega)
                | ((repeat rw [apM_app])
                   exact congrArg (apM 15 1 16 m) (by
                     unfold qS
                     repeat (first | rw [if_pos (by omega)] | rw [if_neg (by omega)])
                     first | done | rfl | simp only [List.append_assoc, List.cons_append, List.nil_append, List.append_nil]))
          · skip
            refine V_ld (pc := 97) dX4_writeQuantity_97 (v := vi (T p.toNat 4)) rfl rfl ?_
            refine V_bipush (pc := 99) dX4_writeQuantity_99 (by unfold I32; omega) (by decide) ?_
            refine V_icmp_eq (pc := 101) dX4_writeQuantity_101 (tgt := 110) rfl (fun h101 => ?_) (fun h101 => ?_)
            · skip
              refine V_ld (pc := 110) dX4_writeQuantity_110 (v := vr 15) rfl rfl ?_
              refine V_bipush (pc := 111) dX4_writeQuantity_111 (by unfold I32; omega) (by decide) ?_
              refine V_callV (pc := 113) dX4_writeQuantity_113 (F' := 0) (As := [vi 125]) (st := []) cw_RX4_35 rfl rfl hL.t15 (by decide) (Nat.le_of_ble_eq_true rfl) (by omega) (c_add1  (apM 15 1 16 (apM 15 1 16 (apM 15 1 16 m [123]) (numS (T p.toNat 3))) [44]) 125   (by first | assumption | omega) (by (try simp only [apM_sz, List.length_cons, List.length_nil, numS_len]); unfold qLen at hr; omega)) ?_
              rintro _ _ ⟨x113, rfl, -, rfl⟩ ok113 le113
              refine V_pop (pc := 116) dX4_writeQuantity_116 rfl ?_
              refine V_ld (pc := 117) dX4_writeQuantity_117 (v := vr P) rfl rfl ?_
              refine V_ld (pc := 118) dX4_writeQuantity_118 (v := vi p) rfl rfl ?_
              refine V_iconst (pc := 119) dX4_writeQuantity_119 (by unfold I32; omega) ?_
              refine V_callV (pc := 120) dX4_writeQuantity_120 (F' := 0) (As := [vi p, vi 5]) (st := []) cw_RX4_23 rfl rfl T_P (by decide) (Nat.le_of_ble_eq_true rfl) (by omega) (c_factT L T c 5 (apM 15 1 16 (apM 15 1 16 (apM 15 1 16 (apM 15 1 16 m [123]) (numS (T p.toNat 3))) [44]) [125]) P p 5 A  T_P R_P_0 T_A (by (repeat rw [apM_ne (by omega) (by omega)]); exact hc) (fun p_ w_ h1_ h2_ => by (repeat rw [apM_ne (by omega) (by omega)]); exact hT p_ w_ h1_ h2_) hp ⟨by decide, by decide⟩) ?_
              rintro _ _ ⟨x120, rfl, rfl, rfl⟩ ok120 le120
              refine V_if_ne (pc := 123) dX4_writeQuantity_123 (tgt := 133) rfl (fun h123 => ?_) (fun h123 => ?_)
              · skip
                refine V_retv (pc := 133) dX4_writeQuantity_133 trivial ?_
                first
                  | (exfalso; omega)
                  | ((repeat rw [apM_app])
                     exact congrArg (apM 15 1 16 m) (by
                       unfold qS
                       repeat (first | rw [if_pos (by omega)] | rw [if_neg (by omega)])
                       first | done | rfl | simp only [List.append_assoc, List.cons_append, List.nil_append, List.append_nil]))
              · skip
                refine V_ld (pc := 126) dX4_writeQuantity_126 (v := vr 15) rfl rfl ?_
                refine V_bipush (pc := 127) dX4_writeQuantity_127 (by unfold I32; omega) (by decide) ?_
                refine V_callV (pc := 129) dX4_writeQuantity_129 (F' := 0) (As := [vi 63]) (st := []) cw_RX4_35 rfl rfl hL.t15 (by decide) (Nat.le_of_ble_eq_true rfl) (by omega) (c_add1  (apM 15 1 16 (apM 15 1 16 (apM 15 1 16 (apM 15 1 16 m [123]) (numS (T p.toNat 3))) [44]) [125]) 63   (by first | assumption | omega) (by (try simp only [apM_sz, List.length_cons, List.length_nil, numS_len]); unfold qLen at hr; omega)) ?_
                rintro _ _ ⟨x129, rfl, -, rfl⟩ ok129 le129
                refine V_pop (pc := 132) dX4_writeQuantity_132 rfl ?_
                refine V_retv (pc := 133) dX4_writeQuantity_133 trivial ?_
                first
                  | (exfalso; omega)
                  | ((repeat rw [apM_app])
                     exact congrArg (apM 15 1 16 m) (by
                       unfold qS
                       repeat (first | rw [if_pos (by omega)] | rw [if_neg (by omega)])
                       first | done | rfl | simp only [List.append_assoc, List.cons_append, List.nil_append, List.append_nil]))
            · skip
              refine V_ld (pc := 104) dX4_writeQuantity_104 (v := vi (T p.toNat 4)) rfl rfl ?_
              refine V_ld (pc := 106) dX4_writeQuantity_106 (v := vr 15) rfl rfl ?_
              refine V_callS (pc := 107) dX4_writeQuantity_107 (F' := 1) (As := [vi (T p.toNat 4), vr 15]) (st := []) cw_RX4_52 rfl rfl (Nat.le_of_ble_eq_true rfl) (by omega) (c_wnum  (apM 15 1 16 (apM 15 1 16 (apM 15 1 16 m [123]) (numS (T p.toNat 3))) [44]) (T p.toNat 4)   (by first | assumption | omega) (by omega) (by (try simp only [apM_sz, List.length_cons, List.length_nil, numS_len]); unfold qLen at hr; omega)) ?_
              rintro _ _ ⟨rfl, rfl⟩ ok107 le107
              refine V_ld (pc := 110) dX4_writeQuantity_110 (v := vr 15) rfl rfl ?_
              refine V_bipush (pc := 111) dX4_writeQuantity_111 (by unfold I32; omega) (by decide) ?_
              refine V_callV (pc := 113) dX4_writeQuantity_113 (F' := 0) (As := [vi 125]) (st := []) cw_RX4_35 rfl rfl hL.t15 (by decide) (Nat.le_of_ble_eq_true rfl) (by omega) (c_add1  (apM 15 1 16 (apM 15 1 16 (apM 15 1 16 (apM 15 1 16 m [123]) (numS (T p.toNat 3))) [44]) (numS (T p.toNat 4))) 125   (by first | assumption | omega) (by (try simp only [apM_sz, List.length_cons, List.length_nil, numS_len]); unfold qLen at hr; omega)) ?_
              rintro _ _ ⟨x113, rfl, -, rfl⟩ ok113 le113
              refine V_pop (pc := 116) dX4_writeQuantity_116 rfl ?_
              refine V_ld (pc := 117) dX4_writeQuantity_117 (v := vr P) rfl rfl ?_
              refine V_ld (pc := 118) dX4_writeQuantity_118 (v := vi p) rfl rfl ?_
              refine V_iconst (pc := 119) dX4_writeQuantity_119 (by unfold I32; omega) ?_
              refine V_callV (pc := 120) dX4_writeQuantity_120 (F' := 0) (As := [vi p, vi 5]) (st := []) cw_RX4_23 rfl rfl T_P (by decide) (Nat.le_of_ble_eq_true rfl) (by omega) (c_factT L T c 5 (apM 15 1 16 (apM 15 1 16 (apM 15 1 16 (apM 15 1 16 (apM 15 1 16 m [123]) (numS (T p.toNat 3))) [44]) (numS (T p.toNat 4))) [125]) P p 5 A  T_P R_P_0 T_A (by (repeat rw [apM_ne (by omega) (by omega)]); exact hc) (fun p_ w_ h1_ h2_ => by (repeat rw [apM_ne (by omega) (by omega)]); exact hT p_ w_ h1_ h2_) hp ⟨by decide, by decide⟩) ?_
              rintro _ _ ⟨x120, rfl, rfl, rfl⟩ ok120 le120
              refine V_if_ne (pc := 123) dX4_writeQuantity_123 (tgt := 133) rfl (fun h123 => ?_) (fun h123 => ?_)
              · skip
                refine V_retv (pc := 133) dX4_writeQuantity_133 trivial ?_
                first
                  | (exfalso; omega)
                  | ((repeat rw [apM_app])
                     exact congrArg (apM 15 1 16 m) (by
                       unfold qS
                       repeat (first | rw [if_pos (by omega)] | rw [if_neg (by omega)])
                       first | done | rfl | simp only [List.append_assoc, List.cons_append, List.nil_append, List.append_nil]))
              · skip
                refine V_ld (pc := 126) dX4_writeQuantity_126 (v := vr 15) rfl rfl ?_
                refine V_bipush (pc := 127) dX4_writeQuantity_127 (by unfold I32; omega) (by decide) ?_
                refine V_callV (pc := 129) dX4_writeQuantity_129 (F' := 0) (As := [vi 63]) (st := []) cw_RX4_35 rfl rfl hL.t15 (by decide) (Nat.le_of_ble_eq_true rfl) (by omega) (c_add1  (apM 15 1 16 (apM 15 1 16 (apM 15 1 16 (apM 15 1 16 (apM 15 1 16 m [123]) (numS (T p.toNat 3))) [44]) (numS (T p.toNat 4))) [125]) 63   (by first | assumption | omega) (by (try simp only [apM_sz, List.length_cons, List.length_nil, numS_len]); unfold qLen at hr; omega)) ?_
                rintro _ _ ⟨x129, rfl, -, rfl⟩ ok129 le129
                refine V_pop (pc := 132) dX4_writeQuantity_132 rfl ?_
                refine V_retv (pc := 133) dX4_writeQuantity_133 trivial ?_
                first
                  | (exfalso; omega)
                  | ((repeat rw [apM_app])
                     exact congrArg (apM 15 1 16 m) (by
                       unfold qS
                       repeat (first | rw [if_pos (by omega)] | rw [if_neg (by omega)])
                       first | done | rfl | simp only [List.append_assoc, List.cons_append, List.nil_append, List.append_nil]))
      · skip
        refine V_ld (pc := 50) dX4_writeQuantity_50 (v := vi (T p.toNat 4)) rfl rfl ?_
        refine V_iconst (pc := 52) dX4_writeQuantity_52 (by unfold I32; omega) ?_
        refine V_icmp_ne (pc := 53) dX4_writeQuantity_53 (tgt := 66) rfl (fun h53 => ?_) (fun h53 => ?_)
        · skip
          refine V_ld (pc := 66) dX4_writeQuantity_66 (v := vr 15) rfl rfl ?_
          refine V_bipush (pc := 67) dX4_writeQuantity_67 (by unfold I32; omega) (by decide) ?_
          refine V_callV (pc := 69) dX4_writeQuantity_69 (F' := 0) (As := [vi 123]) (st := []) cw_RX4_35 rfl rfl hL.t15 (by decide) (Nat.le_of_ble_eq_true rfl) (by omega) (c_add1  m 123   (by first | assumption | omega) (by (try simp only [apM_sz, List.length_cons, List.length_nil, numS_len]); unfold qLen at hr; omega)) ?_
          rintro _ _ ⟨x69, rfl, -, rfl⟩ ok69 le69
          refine V_pop (pc := 72) dX4_writeQuantity_72 rfl ?_
          refine V_ld (pc := 73) dX4_writeQuantity_73 (v := vi (T p.toNat 3)) rfl rfl ?_
          refine V_ld (pc := 74) dX4_writeQuantity_74 (v := vr 15) rfl rfl ?_
          refine V_callS (pc := 75) dX4_writeQuantity_75 (F' := 1) (As := [vi (T p.toNat 3), vr 15]) (st := []) cw_RX4_52 rfl rfl (Nat.le_of_ble_eq_true rfl) (by omega) (c_wnum  (apM 15 1 16 m [123]) (T p.toNat 3)   (by first | assumption | omega) (by omega) (by (try simp only [apM_sz, List.length_cons, List.length_nil, numS_len]); unfold qLen at hr; omega)) ?_
          rintro _ _ ⟨rfl, rfl⟩ ok75 le75
          refine V_ld (pc := 78) dX4_writeQuantity_78 (v := vi (T p.toNat 4)) rfl rfl ?_
          refine V_ld (pc := 80) dX4_writeQuantity_80 (v := vi (T p.toNat 3)) rfl rfl ?_
          refine V_icmp_eq (pc := 81) dX4_writeQuantity_81 (tgt := 91) rfl (fun h81 => ?_) (fun h81 => ?_)
          · skip
            refine V_ld (pc := 91) dX4_writeQuantity_91 (v := vi (T p.toNat 4)) rfl rfl ?_
            refine V_ld (pc := 93) dX4_writeQuantity_93 (v := vi (T p.toNat 3)) rfl rfl ?_
            refine V_icmp_eq (pc := 94) dX4_writeQuantity_94 (tgt := 110) rfl (fun h94 => ?_) (fun h94 => ?_)
            · skip
              refine V_ld (pc := 110) dX4_writeQuantity_110 (v := vr 15) rfl rfl ?_
              refine V_bipush (pc := 111) dX4_writeQuantity_111 (by unfold I32; omega) (by decide) ?_
              refine V_callV (pc := 113) dX4_writeQuantity_113 (F' := 0) (As := [vi 125]) (st := []) cw_RX4_35 rfl rfl hL.t15 (by decide) (Nat.le_of_ble_eq_true rfl) (by omega) (c_add1  (apM 15 1 16 (apM 15 1 16 m [123]) (numS (T p.toNat 3))) 125   (by first | assumption | omega) (by (try simp only [apM_sz, List.length_cons, List.length_nil, numS_len]); unfold qLen at hr; omega)) ?_
              rintro _ _ ⟨x113, rfl, -, rfl⟩ ok113 le113
              refine V_pop (pc := 116) dX4_writeQuantity_116 rfl ?_
              refine V_ld (pc := 117) dX4_writeQuantity_117 (v := vr P) rfl rfl ?_
              refine V_ld (pc := 118) dX4_writeQuantity_118 (v := vi p) rfl rfl ?_
              refine V_iconst (pc := 119) dX4_writeQuantity_119 (by unfold I32; omega) ?_
              refine V_callV (pc := 120) dX4_writeQuantity_120 (F' := 0) (As := [vi p, vi 5]) (st := []) cw_RX4_23 rfl rfl T_P (by decide) (Nat.le_of_ble_eq_true rfl) (by omega) (c_factT L T c 5 (apM 15 1 16 (apM 15 1 16 (apM 15 1 16 m [123]) (numS (T p.toNat 3))) [125]) P p 5 A  T_P R_P_0 T_A (by (repeat rw [apM_ne (by omega) (by omega)]); exact hc) (fun p_ w_ h1_ h2_ => by (repeat rw [apM_ne (by omega) (by omega)]); exact hT p_ w_ h1_ h2_) hp ⟨by decide, by decide⟩) ?_
              rintro _ _ ⟨x120, rfl, rfl, rfl⟩ ok120 le120
              refine V_if_ne (pc := 123) dX4_writeQuantity_123 (tgt := 133) rfl (fun h123 => ?_) (fun h123 => ?_)
              · skip
                refine V_retv (pc := 133) dX4_writeQuantity_133 trivial ?_
                first
                  | (exfalso; omega)
                  | ((repeat rw [apM_app])
                     exact congrArg (apM 15 1 16 m) (by
                       unfold qS
                       repeat (first | rw [if_pos (by omega)] | rw [if_neg (by omega)])
                       first | done | rfl | simp only [List.append_assoc, List.cons_append, List.nil_append, List.append_nil]))
              · skip
                refine V_ld (pc := 126) dX4_writeQuantity_126 (v := vr 15) rfl rfl ?_
                refine V_bipush (pc := 127) dX4_writeQuantity_127 (by unfold I32; omega) (by decide) ?_
                refine V_callV (pc := 129) dX4_writeQuantity_129 (F' := 0) (As := [vi 63]) (st := []) cw_RX4_35 rfl rfl hL.t15 (by decide) (Nat.le_of_ble_eq_true rfl) (by omega) (c_add1  (apM 15 1 16 (apM 15 1 16 (apM 15 1 16 m [123]) (numS (T p.toNat 3))) [125]) 63   (by first | assumption | omega) (by (try simp only [apM_sz, List.length_cons, List.length_nil, numS_len]); unfold qLen at hr; omega)) ?_
                rintro _ _ ⟨x129, rfl, -, rfl⟩ ok129 le129
                refine V_pop (pc := 132) dX4_writeQuantity_132 rfl ?_
                refine V_retv (pc := 133) dX4_writeQuantity_133 trivial ?_
                first
                  | (exfalso; omega)
                  | ((repeat rw [apM_app])
                     exact congrArg (apM 15 1 16 m) (by
                       unfold qS
                       repeat (first | rw [if_pos (by omega)] | rw [if_neg (by omega)])
                       first | done | rfl | simp only [List.append_assoc, List.cons_append, List.nil_append, List.append_nil]))
            · skip
              refine V_ld (pc := 97) dX4_writeQuantity_97 (v := vi (T p.toNat 4)) rfl rfl ?_
              refine V_bipush (pc := 99) dX4_writeQuantity_99 (by unfold I32; omega) (by decide) ?_
              refine V_icmp_eq (pc := 101) dX4_writeQuantity_101 (tgt := 110) rfl (fun h101 => ?_) (fun h101 => ?_)
              · skip
                refine V_ld (pc := 110) dX4_writeQuantity_110 (v := vr 15) rfl rfl ?_
                refine V_bipush (pc := 111) dX4_writeQuantity_111 (by unfold I32; omega) (by decide) ?_
                refine V_callV (pc := 113) dX4_writeQuantity_113 (F' := 0) (As := [vi 125]) (st := []) cw_RX4_35 rfl rfl hL.t15 (by decide) (Nat.le_of_ble_eq_true rfl) (by omega) (c_add1  (apM 15 1 16 (apM 15 1 16 m [123]) (numS (T p.toNat 3))) 125   (by first | assumption | omega) (by (try simp only [apM_sz, List.length_cons, List.length_nil, numS_len]); unfold qLen at hr; omega)) ?_
                rintro _ _ ⟨x113, rfl, -, rfl⟩ ok113 le113
                refine V_pop (pc := 116) dX4_writeQuantity_116 rfl ?_
                refine V_ld (pc := 117) dX4_writeQuantity_117 (v := vr P) rfl rfl ?_
                refine V_ld (pc := 118) dX4_writeQuantity_118 (v := vi p) rfl rfl ?_
                refine V_iconst (pc := 119) dX4_writeQuantity_119 (by unfold I32; omega) ?_
                refine V_callV (pc := 120) dX4_writeQuantity_120 (F' := 0) (As := [vi p, vi 5]) (st := []) cw_RX4_23 rfl rfl T_P (by decide) (Nat.le_of_ble_eq_true rfl) (by omega) (c_factT L T c 5 (apM 15 1 16 (apM 15 1 16 (apM 15 1 16 m [123]) (numS (T p.toNat 3))) [125]) P p 5 A  T_P R_P_0 T_A (by (repeat rw [apM_ne (by omega) (by omega)]); exact hc) (fun p_ w_ h1_ h2_ => by (repeat rw [apM_ne (by omega) (by omega)]); exact hT p_ w_ h1_ h2_) hp ⟨by decide, by decide⟩) ?_
                rintro _ _ ⟨x120, rfl, rfl, rfl⟩ ok120 le120
                refine V_if_ne (pc := 123) dX4_writeQuantity_123 (tgt := 133) rfl (fun h123 => ?_) (fun h123 => ?_)
                · skip
                  refine V_retv (pc := 133) dX4_writeQuantity_133 trivial ?_
                  first
                    | (exfalso; omega)
                    | ((repeat rw [apM_app])
                       exact congrArg (apM 15 1 16 m) (by
                         unfold qS
                         repeat (first | rw [if_pos (by omega)] | rw [if_neg (by omega)])
                         first | done | rfl | simp only [List.append_assoc, List.cons_append, List.nil_append, List.append_nil]))
                · skip
                  refine V_ld (pc := 126) dX4_writeQuantity_126 (v := vr 15) rfl rfl ?_
                  refine V_bipush (pc := 127) dX4_writeQuantity_127 (by unfold I32; omega) (by decide) ?_
                  refine V_callV (pc := 129) dX4_writeQuantity_129 (F' := 0) (As := [vi 63]) (st := []) cw_RX4_35 rfl rfl hL.t15 (by decide) (Nat.le_of_ble_eq_true rfl) (by omega) (c_add1  (apM 15 1 16 (apM 15 1 16 (apM 15 1 16 m [123]) (numS (T p.toNat 3))) [125]) 63   (by first | assumption | omega) (by (try simp only [apM_sz, List.length_cons, List.length_nil, numS_len]); unfold qLen at hr; omega)) ?_
                  rintro _ _ ⟨x129, rfl, -, rfl⟩ ok129 le129
                  refine V_pop (pc := 132) dX4_writeQuantity_132 rfl ?_
                  refine V_retv (pc := 133) dX4_writeQuantity_133 trivial ?_
                  first
                    | (exfalso; omega)
                    | ((repeat rw [apM_app])
                       exact congrArg (apM 15 1 16 m) (by
                         unfold qS
                         repeat (first | rw [if_pos (by omega)] | rw [if_neg (by omega)])
                         first | done | rfl | simp only [List.append_assoc, List.cons_append, List.nil_append, List.append_nil]))
              · skip
                refine V_ld (pc := 104) dX4_writeQuantity_104 (v := vi (T p.toNat 4)) rfl rfl ?_
                refine V_ld (pc := 106) dX4_writeQuantity_106 (v := vr 15) rfl rfl ?_
                refine V_callS (pc := 107) dX4_writeQuantity_107 (F' := 1) (As := [vi (T p.toNat 4), vr 15]) (st := []) cw_RX4_52 rfl rfl (Nat.le_of_ble_eq_true rfl) (by omega) (c_wnum  (apM 15 1 16 (apM 15 1 16 m [123]) (numS (T p.toNat 3))) (T p.toNat 4)   (by first | assumption | omega) (by omega) (by (try simp only [apM_sz, List.length_cons, List.length_nil, numS_len]); unfold qLen at hr; omega)) ?_
                rintro _ _ ⟨rfl, rfl⟩ ok107 le107
                refine V_ld (pc := 110) dX4_writeQuantity_110 (v := vr 15) rfl rfl ?_
                refine V_bipush (pc := 111) dX4_writeQuantity_111 (by unfold I32; omega) (by decide) ?_
                refine V_callV (pc := 113) dX4_writeQuantity_113 (F' := 0) (As := [vi 125]) (st := []) cw_RX4_35 rfl rfl hL.t15 (by decide) (Nat.le_of_ble_eq_true rfl) (by omega) (c_add1  (apM 15 1 16 (apM 15 1 16 (apM 15 1 16 m [123]) (numS (T p.toNat 3))) (numS (T p.toNat 4))) 125   (by first | assumption | omega) (by (try simp only [apM_sz, List.length_cons, List.length_nil, numS_len]); unfold qLen at hr; omega)) ?_
                rintro _ _ ⟨x113, rfl, -, rfl⟩ ok113 le113
                refine V_pop (pc := 116) dX4_writeQuantity_116 rfl ?_
                refine V_ld (pc := 117) dX4_writeQuantity_117 (v := vr P) rfl rfl ?_
                refine V_ld (pc := 118) dX4_writeQuantity_118 (v := vi p) rfl rfl ?_
                refine V_iconst (pc := 119) dX4_writeQuantity_119 (by unfold I32; omega) ?_
                refine V_callV (pc := 120) dX4_writeQuantity_120 (F' := 0) (As := [vi p, vi 5]) (st := []) cw_RX4_23 rfl rfl T_P (by decide) (Nat.le_of_ble_eq_true rfl) (by omega) (c_factT L T c 5 (apM 15 1 16 (apM 15 1 16 (apM 15 1 16 (apM 15 1 16 m [123]) (numS (T p.toNat 3))) (numS (T p.toNat 4))) [125]) P p 5 A  T_P R_P_0 T_A (by (repeat rw [apM_ne (by omega) (by omega)]); exact hc) (fun p_ w_ h1_ h2_ => by (repeat rw [apM_ne (by omega) (by omega)]); exact hT p_ w_ h1_ h2_) hp ⟨by decide, by decide⟩) ?_
                rintro _ _ ⟨x120, rfl, rfl, rfl⟩ ok120 le120
                refine V_if_ne (pc := 123) dX4_writeQuantity_123 (tgt := 133) rfl (fun h123 => ?_) (fun h123 => ?_)
                · skip
                  refine V_retv (pc := 133) dX4_writeQuantity_133 trivial ?_
                  first
                    | (exfalso; omega)
                    | ((repeat rw [apM_app])
                       exact congrArg (apM 15 1 16 m) (by
                         unfold qS
                         repeat (first | rw [if_pos (by omega)] | rw [if_neg (by omega)])
                         first | done | rfl | simp only [List.append_assoc, List.cons_append, List.nil_append, List.append_nil]))
                · skip
                  refine V_ld (pc := 126) dX4_writeQuantity_126 (v := vr 15) rfl rfl ?_
                  refine V_bipush (pc := 127) dX4_writeQuantity_127 (by unfold I32; omega) (by decide) ?_
                  refine V_callV (pc := 129) dX4_writeQuantity_129 (F' := 0) (As := [vi 63]) (st := []) cw_RX4_35 rfl rfl hL.t15 (by decide) (Nat.le_of_ble_eq_true rfl) (by omega) (c_add1  (apM 15 1 16 (apM 15 1 16 (apM 15 1 16 (apM 15 1 16 m [123]) (numS (T p.toNat 3))) (numS (T p.toNat 4))) [125]) 63   (by first | assumption | omega) (by (try simp only [apM_sz, List.length_cons, List.length_nil, numS_len]); unfold qLen at hr; omega)) ?_
                  rintro _ _ ⟨x129, rfl, -, rfl⟩ ok129 le129
                  refine V_pop (pc := 132) dX4_writeQuantity_132 rfl ?_
                  refine V_retv (pc := 133) dX4_writeQuantity_133 trivial ?_
                  first
                    | (exfalso; omega)
                    | ((repeat rw [apM_app])
                       exact congrArg (apM 15 1 16 m) (by
                         unfold qS
                         repeat (first | rw [if_pos (by omega)] | rw [if_neg (by omega)])
                         first | done | rfl | simp only [List.append_assoc, List.cons_append, List.nil_append, List.append_nil]))
          · skip
            refine V_ld (pc := 84) dX4_writeQuantity_84 (v := vr 15) rfl rfl ?_
            refine V_bipush (pc := 85) dX4_writeQuantity_85 (by unfold I32; omega) (by decide) ?_
            refine V_callV (pc := 87) dX4_writeQuantity_87 (F' := 0) (As := [vi 44]) (st := []) cw_RX4_35 rfl rfl hL.t15 (by decide) (Nat.le_of_ble_eq_true rfl) (by omega) (c_add1  (apM 15 1 16 (apM 15 1 16 m [123]) (numS (T p.toNat 3))) 44   (by first | assumption | omega) (by (try simp only [apM_sz, List.length_cons, List.length_nil, numS_len]); unfold qLen at hr; omega)) ?_
            rintro _ _ ⟨x87, rfl, -, rfl⟩ ok87 le87
            refine V_pop (pc := 90) dX4_writeQuantity_90 rfl ?_
            refine V_ld (pc := 91) dX4_writeQuantity_91 (v := vi (T p.toNat 4)) rfl rfl ?_
            refine V_ld (pc := 93) dX4_writeQuantity_93 (v := vi (T p.toNat 3)) rfl rfl ?_
            refine V_icmp_eq (pc := 94) dX4_writeQuantity_94 (tgt := 110) rfl (fun h94 => ?_) (fun h94 => ?_)
            · skip
              refine V_ld (pc := 110) dX4_writeQuantity_110 (v := vr 15) rfl rfl ?_
              refine V_bipush (pc := 111) dX4_writeQuantity_111 (by unfold I32; omega) (by decide) ?_
              refine V_callV (pc := 113) dX4_writeQuantity_113 (F' := 0) (As := [vi 125]) (st := []) cw_RX4_35 rfl rfl hL.t15 (by decide) (Nat.le_of_ble_eq_true rfl) (by omega) (c_add1  (apM 15 1 16 (apM 15 1 16 (apM 15 1 16 m [123]) (numS (T p.toNat 3))) [44]) 125   (by first | assumption | omega) (by (try simp only [apM_sz, List.length_cons, List.length_nil, numS_len]); unfold qLen at hr; omega)) ?_
              rintro _ _ ⟨x113, rfl, -, rfl⟩ ok113 le113
              refine V_pop (pc := 116) dX4_writeQuantity_116 rfl ?_
              refine V_ld (pc := 117) dX4_writeQuantity_117 (v := vr P) rfl rfl ?_
              refine V_ld (pc := 118) dX4_writeQuantity_118 (v := vi p) rfl rfl ?_
              refine V_iconst (pc := 119) dX4_writeQuantity_119 (by unfold I32; omega) ?_
              refine V_callV (pc := 120) dX4_writeQuantity_120 (F' := 0) (As := [vi p, vi 5]) (st := []) cw_RX4_23 rfl rfl T_P (by decide) (Nat.le_of_ble_eq_true rfl) (by omega) (c_factT L T c 5 (apM 15 1 16 (apM 15 1 16 (apM 15 1 16 (apM 15 1 16 m [123]) (numS (T p.toNat 3))) [44]) [125]) P p 5 A  T_P R_P_0 T_A (by (repeat rw [apM_ne (by omega) (by omega)]); exact hc) (fun p_ w_ h1_ h2_ => by (repeat rw [apM_ne (by omega) (by omega)]); exact hT p_ w_ h1_ h2_) hp ⟨by decide, by decide⟩) ?_
              rintro _ _ ⟨x120, rfl, rfl, rfl⟩ ok120 le120
              refine V_if_ne (pc := 123) dX4_writeQuantity_123 (tgt := 133) rfl (fun h123 => ?_) (fun h123 => ?_)
              · skip
                refine V_retv (pc := 133) dX4_writeQuantity_133 trivial ?_
                first
                  | (exfalso; omega)
                  | ((repeat rw [apM_app])
                     exact congrArg (apM 15 1 16 m) (by
                       unfold qS
                       repeat (first | rw [if_pos (by omega)] | rw [if_neg (by omega)])
                       first | done | rfl | simp only [List.append_assoc, List.cons_append, List.nil_append, List.append_nil]))
              · skip
                refine V_ld (pc := 126) dX4_writeQuantity_126 (v := vr 15) rfl rfl ?_
                refine V_bipush (pc := 127) dX4_writeQuantity_127 (by unfold I32; omega) (by decide) ?_
                refine V_callV (pc := 129) dX4_writeQuantity_129 (F' := 0) (As := [vi 63]) (st := []) cw_RX4_35 rfl rfl hL.t15 (by decide) (Nat.le_of_ble_eq_true rfl) (by omega) (c_add1  (apM 15 1 16 (apM 15 1 16 (apM 15 1 16 (apM 15 1 16 m [123]) (numS (T p.toNat 3))) [44]) [125]) 63   (by first | assumption | omega) (by (try simp only [apM_sz, List.length_cons, List.length_nil, numS_len]); unfold qLen at hr; omega)) ?_
                rintro _ _ ⟨x129, rfl, -, rfl⟩ ok129 le129
                refine V_pop (pc := 132) dX4_writeQuantity_132 rfl ?_
                refine V_retv (pc := 133) dX4_writeQuantity_133 trivial ?_
                first
                  | (exfalso; omega)
                  | ((repeat rw [apM_app])
                     exact congrArg (apM 15 1 16 m) (by
                       unfold qS
                       repeat (first | rw [if_pos (by omega)] | rw [if_neg (by omega)])
                       first | done | rfl | simp only [List.append_assoc, List.cons_append, List.nil_append, List.append_nil]))
            · skip
              refine V_ld (pc := 97) dX4_writeQuantity_97 (v := vi (T p.toNat 4)) rfl rfl ?_
              refine V_bipush (pc := 99) dX4_writeQuantity_99 (by unfold I32; omega) (by decide) ?_
              refine V_icmp_eq (pc := 101) dX4_writeQuantity_101 (tgt := 110) rfl (fun h101 => ?_) (fun h101 => ?_)
              · skip
                refine V_ld (pc := 110) dX4_writeQuantity_110 (v := vr 15) rfl rfl ?_
                refine V_bipush (pc := 111) dX4_writeQuantity_111 (by unfold I32; omega) (by decide) ?_
                refine V_callV (pc := 113) dX4_writeQuantity_113 (F' := 0) (As := [vi 125]) (st := []) cw_RX4_35 rfl rfl hL.t15 (by decide) (Nat.le_of_ble_eq_true rfl) (by omega) (c_add1  (apM 15 1 16 (apM 15 1 16 (apM 15 1 16 m [123]) (numS (T p.toNat 3))) [44]) 125   (by first | assumption | omega) (by (try simp only [apM_sz, List.length_cons, List.length_nil, numS_len]); unfold qLen at hr; omega)) ?_
                rintro _ _ ⟨x113, rfl, -, rfl⟩ ok113 le113
                refine V_pop (pc := 116) dX4_writeQuantity_116 rfl ?_
                refine V_ld (pc := 117) dX4_writeQuantity_117 (v := vr P) rfl rfl ?_
                refine V_ld (pc := 118) dX4_writeQuantity_118 (v := vi p) rfl rfl ?_
                refine V_iconst (pc := 119) dX4_writeQuantity_119 (by unfold I32; omega) ?_
                refine V_callV (pc := 120) dX4_writeQuantity_120 (F' := 0) (As := [vi p, vi 5]) (st := []) cw_RX4_23 rfl rfl T_P (by decide) (Nat.le_of_ble_eq_true rfl) (by omega) (c_factT L T c 5 (apM 15 1 16 (apM 15 1 16 (apM 15 1 16 (apM 15 1 16 m [123]) (numS (T p.toNat 3))) [44]) [125]) P p 5 A  T_P R_P_0 T_A (by (repeat rw [apM_ne (by omega) (by omega)]); exact hc) (fun p_ w_ h1_ h2_ => by (repeat rw [apM_ne (by omega) (by omega)]); exact hT p_ w_ h1_ h2_) hp ⟨by decide, by decide⟩) ?_
                rintro _ _ ⟨x120, rfl, rfl, rfl⟩ ok120 le120
                refine V_if_ne (pc := 123) dX4_writeQuantity_123 (tgt := 133) rfl (fun h123 => ?_) (fun h123 => ?_)
                · skip
                  refine V_retv (pc := 133) dX4_writeQuantity_133 trivial ?_
                  first
                    | (exfalso; omega)
                    | ((repeat rw [apM_app])
                       exact congrArg (apM 15 1 16 m) (by
                         unfold qS
                         repeat (first | rw [if_pos (by omega)] | rw [if_neg (by omega)])
                         first | done | rfl | simp only [List.append_assoc, List.cons_append, List.nil_append, List.append_nil]))
                · skip
                  refine V_ld (pc := 126) dX4_writeQuantity_126 (v := vr 15) rfl rfl ?_
                  refine V_bipush (pc := 127) dX4_writeQuantity_127 (by unfold I32; omega) (by decide) ?_
                  refine V_callV (pc := 129) dX4_writeQuantity_129 (F' := 0) (As := [vi 63]) (st := []) cw_RX4_35 rfl rfl hL.t15 (by decide) (Nat.le_of_ble_eq_true rfl) (by omega) (c_add1  (apM 15 1 16 (apM 15 1 16 (apM 15 1 16 (apM 15 1 16 m [123]) (numS (T p.toNat 3))) [44]) [125]) 63   (by first | assumption | omega) (by (try simp only [apM_sz, List.length_cons, List.length_nil, numS_len]); unfold qLen at hr; omega)) ?_
                  rintro _ _ ⟨x129, rfl, -, rfl⟩ ok129 le129
                  refine V_pop (pc := 132) dX4_writeQuantity_132 rfl ?_
                  refine V_retv (pc := 133) dX4_writeQuantity_133 trivial ?_
                  first
                    | (exfalso; omega)
                    | ((repeat rw [apM_app])
                       exact congrArg (apM 15 1 16 m) (by
                         unfold qS
                         repeat (first | rw [if_pos (by omega)] | rw [if_neg (by omega)])
                         first | done | rfl | simp only [List.append_assoc, List.cons_append, List.nil_append, List.append_nil]))
              · skip
                refine V_ld (pc := 104) dX4_writeQuantity_104 (v := vi (T p.toNat 4)) rfl rfl ?_
                refine V_ld (pc := 106) dX4_writeQuantity_106 (v := vr 15) rfl rfl ?_
                refine V_callS (pc := 107) dX4_writeQuantity_107 (F' := 1) (As := [vi (T p.toNat 4), vr 15]) (st := []) cw_RX4_52 rfl rfl (Nat.le_of_ble_eq_true rfl) (by omega) (c_wnum  (apM 15 1 16 (apM 15 1 16 (apM 15 1 16 m [123]) (numS (T p.toNat 3))) [44]) (T p.toNat 4)   (by first | assumption | omega) (by omega) (by (try simp only [apM_sz, List.length_cons, List.length_nil, numS_len]); unfold qLen at hr; omega)) ?_
                rintro _ _ ⟨rfl, rfl⟩ ok107 le107
                refine V_ld (pc := 110) dX4_writeQuantity_110 (v := vr 15) rfl rfl ?_
                refine V_bipush (pc := 111) dX4_writeQuantity_111 (by unfold I32; omega) (by decide) ?_
                refine V_callV (pc := 113) dX4_writeQuantity_113 (F' := 0) (As := [vi 125]) (st := []) cw_RX4_35 rfl rfl hL.t15 (by decide) (Nat.le_of_ble_eq_true rfl) (by omega) (c_add1  (apM 15 1 16 (apM 15 1 16 (apM 15 1 16 (apM 15 1 16 m [123]) (numS (T p.toNat 3))) [44]) (numS (T p.toNat 4))) 125   (by first | assumption | omega) (by (try simp only [apM_sz, List.length_cons, List.length_nil, numS_len]); unfold qLen at hr; omega)) ?_
                rintro _ _ ⟨x113, rfl, -, rfl⟩ ok113 le113
                refine V_pop (pc := 116) dX4_writeQuantity_116 rfl ?_
                refine V_ld (pc := 117) dX4_writeQuantity_117 (v := vr P) rfl rfl ?_
                refine V_ld (pc := 118) dX4_writeQuantity_118 (v := vi p) rfl rfl ?_
                refine V_iconst (pc := 119) dX4_writeQuantity_119 (by unfold I32; omega) ?_
                refine V_callV (pc := 120) dX4_writeQuantity_120 (F' := 0) (As := [vi p, vi 5]) (st := []) cw_RX4_23 rfl rfl T_P (by decide) (Nat.le_of_ble_eq_true rfl) (by omega) (c_factT L T c 5 (apM 15 1 16 (apM 15 1 16 (apM 15 1 16 (apM 15 1 16 (apM 15 1 16 m [123]) (numS (T p.toNat 3))) [44]) (numS (T p.toNat 4))) [125]) P p 5 A  T_P R_P_0 T_A (by (repeat rw [apM_ne (by omega) (by omega)]); exact hc) (fun p_ w_ h1_ h2_ => by (repeat rw [apM_ne (by omega) (by omega)]); exact hT p_ w_ h1_ h2_) hp ⟨by decide, by decide⟩) ?_
                rintro _ _ ⟨x120, rfl, rfl, rfl⟩ ok120 le120
                refine V_if_ne (pc := 123) dX4_writeQuantity_123 (tgt := 133) rfl (fun h123 => ?_) (fun h123 => ?_)
                · skip
                  refine V_retv (pc := 133) dX4_writeQuantity_133 trivial ?_
                  first
                    | (exfalso; omega)
                    | ((repeat rw [apM_app])
                       exact congrArg (apM 15 1 16 m) (by
                         unfold qS
                         repeat (first | rw [if_pos (by omega)] | rw [if_neg (by omega)])
                         first | done | rfl | simp only [List.append_assoc, List.cons_append, List.nil_append, List.append_nil]))
                · skip
                  refine V_ld (pc := 126) dX4_writeQuantity_126 (v := vr 15) rfl rfl ?_
                  refine V_bipush (pc := 127) dX4_writeQuantity_127 (by unfold I32; omega) (by decide) ?_
                  refine V_callV (pc := 129) dX4_writeQuantity_129 (F' := 0) (As := [vi 63]) (st := []) cw_RX4_35 rfl rfl hL.t15 (by decide) (Nat.le_of_ble_eq_true rfl) (by omega) (c_add1  (apM 15 1 16 (apM 15 1 16 (apM 15 1 16 (apM 15 1 16 (apM 15 1 16 m [123]) (numS (T p.toNat 3))) [44]) (numS (T p.toNat 4))) [125]) 63   (by first | assumption | omega) (by (try simp only [apM_sz, List.length_cons, List.length_nil, numS_len]); unfold qLen at hr; omega)) ?_
                  rintro _ _ ⟨x129, rfl, -, rfl⟩ ok129 le129
                  refine V_pop (pc := 132) dX4_writeQuantity_132 rfl ?_
                  refine V_retv (pc := 133) dX4_writeQuantity_133 trivial ?_
                  first
                    | (exfalso; omega)
                    | ((repeat rw [apM_app])
                       exact congrArg (apM 15 1 16 m) (by
                         unfold qS
                         repeat (first | rw [if_pos (by omega)] | rw [if_neg (by omega)])
                         first | done | rfl | simp only [List.append_assoc, List.cons_append, List.nil_append, List.append_nil]))
        · skip
          refine V_ld (pc := 56) dX4_writeQuantity_56 (v := vr 15) rfl rfl ?_
          refine V_bipush (pc := 57) dX4_writeQuantity_57 (by unfold I32; omega) (by decide) ?_
          refine V_callV (pc := 59) dX4_writeQuantity_59 (F' := 0) (As := [vi 63]) (st := []) cw_RX4_35 rfl rfl hL.t15 (by decide) (Nat.le_of_ble_eq_true rfl) (by omega) (c_add1  m 63   (by first | assumption | omega) (by (try simp only [apM_sz, List.length_cons, List.length_nil, numS_len]); unfold qLen at hr; omega)) ?_
          rintro _ _ ⟨x59, rfl, -, rfl⟩ ok59 le59
          refine V_pop (pc := 62) dX4_writeQuantity_62 rfl ?_
          refine V_goto (pc := 63) dX4_writeQuantity_63 (tgt := 117) rfl ?_
          refine V_ld (pc := 117) dX4_writeQuantity_117 (v := vr P) rfl rfl ?_
          refine V_ld (pc := 118) dX4_writeQuantity_118 (v := vi p) rfl rfl ?_
          refine V_iconst (pc := 119) dX4_writeQuantity_119 (by unfold I32; omega) ?_
          refine V_callV (pc := 120) dX4_writeQuantity_120 (F' := 0) (As := [vi p, vi 5]) (st := []) cw_RX4_23 rfl rfl T_P (by decide) (Nat.le_of_ble_eq_true rfl) (by omega) (c_factT L T c 5 (apM 15 1 16 m [63]) P p 5 A  T_P R_P_0 T_A (by (repeat rw [apM_ne (by omega) (by omega)]); exact hc) (fun p_ w_ h1_ h2_ => by (repeat rw [apM_ne (by omega) (by omega)]); exact hT p_ w_ h1_ h2_) hp ⟨by decide, by decide⟩) ?_
          rintro _ _ ⟨x120, rfl, rfl, rfl⟩ ok120 le120
          refine V_if_ne (pc := 123) dX4_writeQuantity_123 (tgt := 133) rfl (fun h123 => ?_) (fun h123 => ?_)
          · skip
            refine V_retv (pc := 133) dX4_writeQuantity_133 trivial ?_
            first
              | (exfalso; omega)
              | ((repeat rw [apM_app])
                 exact congrArg (apM 15 1 16 m) (by
                   unfold qS
                   repeat (first | rw [if_pos (by omega)] | rw [if_neg (by omega)])
                   first | done | rfl | simp only [List.append_assoc, List.cons_append, List.nil_append, List.append_nil]))
          · skip
            refine V_ld (pc := 126) dX4_writeQuantity_126 (v := vr 15) rfl rfl ?_
            refine V_bipush (pc := 127) dX4_writeQuantity_127 (by unfold I32; omega) (by decide) ?_
            refine V_callV (pc := 129) dX4_writeQuantity_129 (F' := 0) (As := [vi 63]) (st := []) cw_RX4_35 rfl rfl hL.t15 (by decide) (Nat.le_of_ble_eq_true rfl) (by omega) (c_add1  (apM 15 1 16 m [63]) 63   (by first | assumption | omega) (by (try simp only [apM_sz, List.length_cons, List.length_nil, numS_len]); unfold qLen at hr; omega)) ?_
            rintro _ _ ⟨x129, rfl, -, rfl⟩ ok129 le129
            refine V_pop (pc := 132) dX4_writeQuantity_132 rfl ?_
            refine V_retv (pc := 133) dX4_writeQuantity_133 trivial ?_
            first
              | (exfalso; omega)
              | ((repeat rw [apM_app])
                 exact congrArg (apM 15 1 16 m) (by
                   unfold qS
                   repeat (first | rw [if_pos (by omega)] | rw [if_neg (by omega)])
                   first | done | rfl | simp only [List.append_assoc, List.cons_append, List.nil_append, List.append_nil]))
    · skip
      refine V_ld (pc := 27) dX4_writeQuantity_27 (v := vr 15) rfl rfl ?_
      refine V_ld (pc := 28) dX4_writeQuantity_28 (v := vi (T p.toNat 3)) rfl rfl ?_
      refine V_if_ne (pc := 29) dX4_writeQuantity_29 (tgt := 37) rfl (fun h29 => ?_) (fun h29 => ?_)
      · skip
        refine V_bipush (pc := 37) dX4_writeQuantity_37 (by unfold I32; omega) (by decide) ?_
        refine V_callV (pc := 39) dX4_writeQuantity_39 (F' := 0) (As := [vi 43]) (st := []) cw_RX4_35 rfl rfl hL.t15 (by decide) (Nat.le_of_ble_eq_true rfl) (by omega) (c_add1  m 43   (by first | assumption | omega) (by (try simp only [apM_sz, List.length_cons, List.length_nil, numS_len]); unfold qLen at hr; omega)) ?_
        rintro _ _ ⟨x39, rfl, -, rfl⟩ ok39 le39
        refine V_pop (pc := 42) dX4_writeQuantity_42 rfl ?_
        refine V_goto (pc := 43) dX4_writeQuantity_43 (tgt := 117) rfl ?_
        refine V_ld (pc := 117) dX4_writeQuantity_117 (v := vr P) rfl rfl ?_
        refine V_ld (pc := 118) dX4_writeQuantity_118 (v := vi p) rfl rfl ?_
        refine V_iconst (pc := 119) dX4_writeQuantity_119 (by unfold I32; omega) ?_
        refine V_callV (pc := 120) dX4_writeQuantity_120 (F' := 0) (As := [vi p, vi 5]) (st := []) cw_RX4_23 rfl rfl T_P (by decide) (Nat.le_of_ble_eq_true rfl) (by omega) (c_factT L T c 5 (apM 15 1 16 m [43]) P p 5 A  T_P R_P_0 T_A (by (repeat rw [apM_ne (by omega) (by omega)]); exact hc) (fun p_ w_ h1_ h2_ => by (repeat rw [apM_ne (by omega) (by omega)]); exact hT p_ w_ h1_ h2_) hp ⟨by decide, by decide⟩) ?_
        rintro _ _ ⟨x120, rfl, rfl, rfl⟩ ok120 le120
        refine V_if_ne (pc := 123) dX4_writeQuantity_123 (tgt := 133) rfl (fun h123 => ?_) (fun h123 => ?_)
        · skip
          refine V_retv (pc := 133) dX4_writeQuantity_133 trivial ?_
          first
            | (exfalso; omega)
            | ((repeat rw [apM_app])
               exact congrArg (apM 15 1 16 m) (by
                 unfold qS
                 repeat (first | rw [if_pos (by omega)] | rw [if_neg (by omega)])
                 first | done | rfl | simp only [List.append_assoc, List.cons_append, List.nil_append, List.append_nil]))
        · skip
          refine V_ld (pc := 126) dX4_writeQuantity_126 (v := vr 15) rfl rfl ?_
          refine V_bipush (pc := 127) dX4_writeQuantity_127 (by unfold I32; omega) (by decide) ?_
          refine V_callV (pc := 129) dX4_writeQuantity_129 (F' := 0) (As := [vi 63]) (st := []) cw_RX4_35 rfl rfl hL.t15 (by decide) (Nat.le_of_ble_eq_true rfl) (by omega) (c_add1  (apM 15 1 16 m [43]) 63   (by first | assumption | omega) (by (try simp only [apM_sz, List.length_cons, List.length_nil, numS_len]); unfold qLen at hr; omega)) ?_
          rintro _ _ ⟨x129, rfl, -, rfl⟩ ok129 le129
          refine V_pop (pc := 132) dX4_writeQuantity_132 rfl ?_
          refine V_retv (pc := 133) dX4_writeQuantity_133 trivial ?_
          first
            | (exfalso; omega)
            | ((repeat rw [apM_app])
               exact congrArg (apM 15 1 16 m) (by
                 unfold qS
                 repeat (first | rw [if_pos (by omega)] | rw [if_neg (by omega)])
                 first | done | rfl | simp only [List.append_assoc, List.cons_append, List.nil_append, List.append_nil]))
      · skip
        refine V_bipush (pc := 32) dX4_writeQuantity_32 (by unfold I32; omega) (by decide) ?_
        refine V_goto (pc := 34) dX4_writeQuantity_34 (tgt := 39) rfl ?_
        refine V_callV (pc := 39) dX4_writeQuantity_39 (F' := 0) (As := [vi 42]) (st := []) cw_RX4_35 rfl rfl hL.t15 (by decide) (Nat.le_of_ble_eq_true rfl) (by omega) (c_add1  m 42   (by first | assumption | omega) (by (try simp only [apM_sz, List.length_cons, List.length_nil, numS_len]); unfold qLen at hr; omega)) ?_
        rintro _ _ ⟨x39, rfl, -, rfl⟩ ok39 le39
        refine V_pop (pc := 42) dX4_writeQuantity_42 rfl ?_
        refine V_goto (pc := 43) dX4_writeQuantity_43 (tgt := 117) rfl ?_
        refine V_ld (pc := 117) dX4_writeQuantity_117 (v := vr P) rfl rfl ?_
        refine V_ld (pc := 118) dX4_writeQuantity_118 (v := vi p) rfl rfl ?_
        refine V_iconst (pc := 119) dX4_writeQuantity_119 (by unfold I32; omega) ?_
        refine V_callV (pc := 120) dX4_writeQuantity_120 (F' := 0) (As := [vi p, vi 5]) (st := []) cw_RX4_23 rfl rfl T_P (by decide) (Nat.le_of_ble_eq_true rfl) (by omega) (c_factT L T c 5 (apM 15 1 16 m [42]) P p 5 A  T_P R_P_0 T_A (by (repeat rw [apM_ne (by omega) (by omega)]); exact hc) (fun p_ w_ h1_ h2_ => by (repeat rw [apM_ne (by omega) (by omega)]); exact hT p_ w_ h1_ h2_) hp ⟨by decide, by decide⟩) ?_
        rintro _ _ ⟨x120, rfl, rfl, rfl⟩ ok120 le120
        refine V_if_ne (pc := 123) dX4_writeQuantity_123 (tgt := 133) rfl (fun h123 => ?_) (fun h123 => ?_)
        · skip
          refine V_retv (pc := 133) dX4_writeQuantity_133 trivial ?_
          first
            | (exfalso; omega)
            | ((repeat rw [apM_app])
               exact congrArg (apM 15 1 16 m) (by
                 unfold qS
                 repeat (first | rw [if_pos (by omega)] | rw [if_neg (by omega)])
                 first | done | rfl | simp only [List.append_assoc, List.cons_append, List.nil_append, List.append_nil]))
        · skip
          refine V_ld (pc := 126) dX4_writeQuantity_126 (v := vr 15) rfl rfl ?_
          refine V_bipush (pc := 127) dX4_writeQuantity_127 (by unfold I32; omega) (by decide) ?_
          refine V_callV (pc := 129) dX4_writeQuantity_129 (F' := 0) (As := [vi 63]) (st := []) cw_RX4_35 rfl rfl hL.t15 (by decide) (Nat.le_of_ble_eq_true rfl) (by omega) (c_add1  (apM 15 1 16 m [42]) 63   (by first | assumption | omega) (by (try simp only [apM_sz, List.length_cons, List.length_nil, numS_len]); unfold qLen at hr; omega)) ?_
          rintro _ _ ⟨x129, rfl, -, rfl⟩ ok129 le129
          refine V_pop (pc := 132) dX4_writeQuantity_132 rfl ?_
          refine V_retv (pc := 133) dX4_writeQuantity_133 trivial ?_
          first
            | (exfalso; omega)
            | ((repeat rw [apM_app])
               exact congrArg (apM 15 1 16 m) (by
                 unfold qS
                 repeat (first | rw [if_pos (by omega)] | rw [if_neg (by omega)])
                 first | done | rfl | simp only [List.append_assoc, List.cons_append, List.nil_append, List.append_nil]))

set_option maxHeartbeats 16000000 in
theorem r_times (T : Tb) (c : Nat) (m : Mem) (p : Int)   (hL : Lay (mT m) (mR m)) (hT : RTab (mI m) T c) (hp : 0 ≤ p ∧ p < (c : Int) ∧ c ≤ 240) (hbd : 0 ≤ T p.toNat 3 ∧ T p.toNat 3 ≤ 99 ∧ 1 ≤ T p.toNat 4 ∧ T p.toNat 4 ≤ 100 ∧ T p.toNat 3 ≤ T p.toNat 4 ∧ (T p.toNat 5 = 0 ∨ T p.toNat 5 = 1)) (hr : 0 ≤ mI m 30 22 ∧ mI m 30 22 + qLen (T p.toNat 3) (T p.toNat 4) (T p.toNat 5) ≤ 120) : Ct μX11_times 2 [vr 30, vi p] m (rv fun m' => apM 30 22 44 m (qS (T p.toNat 3) (T p.toNat 4) (T p.toNat 5)) = m') := by
  refine Ct_of_V rfl (by decide) rfl (Nat.le_of_ble_eq_true rfl) ?_
  show V μX11_times 2 m _ 0 [(0, vr 30), (1, vi p)] [] m
  refine V_rg (k := 1) (x := p) rfl fun r_p => ?_
  have hq := hT p.toNat (by omega)
  have hq3 := hq.2.2.2.1
  have hq4 := hq.2.2.2.2.1
  have hq5 := hq.2.2.2.2.2.1
  refine V_ld (pc := 0) dX11_times_0 (v := vr 30) rfl rfl ?_
  refine V_getRv (pc := 1) dX11_times_1 (o' := 38) fw_RX11_33 rfl hL.t30 hL.r30_13 ?_
  refine V_ld (pc := 4) dX11_times_4 (v := vi p) rfl rfl ?_
  refine V_ialdv (pc := 5) dX11_times_5 (v := (T p.toNat 4)) hL.t38 (by omega) hq4 (fun g5 => ?_)
  refine V_bipush (pc := 6) dX11_times_6 (by unfold I32; omega) (by decide) ?_
  refine V_icmp_ne (pc := 8) dX11_times_8 (tgt := 44) rfl (fun h8 => ?_) (fun h8 => ?_)
  · skip
    refine V_ld (pc := 44) dX11_times_44 (v := vr 30) rfl rfl ?_
    refine V_getRv (pc := 45) dX11_times_45 (o' := 37) fw_RX11_30 rfl hL.t30 hL.r30_12 ?_
    refine V_ld (pc := 48) dX11_times_48 (v := vi p) rfl rfl ?_
    refine V_ialdv (pc := 49) dX11_times_49 (v := (T p.toNat 3)) hL.t37 (by omega) hq3 (fun g49 => ?_)
    refine V_if_ne (pc := 50) dX11_times_50 (tgt := 72) rfl (fun h50 => ?_) (fun h50 => ?_)
    · skip
      refine V_ld (pc := 72) dX11_times_72 (v := vr 30) rfl rfl ?_
      refine V_bipush (pc := 73) dX11_times_73 (by unfold I32; omega) (by decide) ?_
      refine V_callV (pc := 75) dX11_times_75 (F' := 0) (As := [vi 123]) (st := []) cw_RX11_203 rfl rfl hL.t30 (by decide) (Nat.le_of_ble_eq_true rfl) (by omega) (r_wr1  m 123   (by first | assumption | omega) (by (try simp only [apM_sz, List.length_cons, List.length_nil, numS_len]); unfold qLen at hr; omega)) ?_
      rintro _ _ ⟨rfl, rfl⟩ ok75 le75
      refine V_ld (pc := 78) dX11_times_78 (v := vr 30) rfl rfl ?_
      refine V_ld (pc := 79) dX11_times_79 (v := vr 30) rfl rfl ?_
      refine V_getRv (pc := 80) dX11_times_80 (o' := 37) fw_RX11_30 rfl hL.t30 hL.r30_12 ?_
      refine V_ld (pc := 83) dX11_times_83 (v := vi p) rfl rfl ?_
      refine V_ialdv (pc := 84) dX11_times_84 (v := (T p.toNat 3)) hL.t37 (by omega) ((apM_ne (by omega) (by omega)).trans hq3) (fun g84 => ?_)
      refine V_callV (pc := 85) dX11_times_85 (F' := 1) (As := [vi (T p.toNat 3)]) (st := []) cw_RX11_213 rfl rfl hL.t30 (by decide) (Nat.le_of_ble_eq_true rfl) (by omega) (r_wnum  (apM 30 22 44 m [123]) (T p.toNat 3)   (by first | assumption | omega) (by omega) (by (try simp only [apM_sz, List.length_cons, List.length_nil, numS_len]); unfold qLen at hr; omega)) ?_
      rintro _ _ ⟨rfl, rfl⟩ ok85 le85
      refine V_ld (pc := 88) dX11_times_88 (v := vr 30) rfl rfl ?_
      refine V_getRv (pc := 89) dX11_times_89 (o' := 38) fw_RX11_33 rfl hL.t30 hL.r30_13 ?_
      refine V_ld (pc := 92) dX11_times_92 (v := vi p) rfl rfl ?_
      refine V_ialdv (pc := 93) dX11_times_93 (v := (T p.toNat 4)) hL.t38 (by omega) ((apM_ne (by omega) (by omega)).trans ((apM_ne (by omega) (by omega)).trans hq4)) (fun g93 => ?_)
      refine V_ld (pc := 94) dX11_times_94 (v := vr 30) rfl rfl ?_
      refine V_getRv (pc := 95) dX11_times_95 (o' := 37) fw_RX11_30 rfl hL.t30 hL.r30_12 ?_
      refine V_ld (pc := 98) dX11_times_98 (v := vi p) rfl rfl ?_
      refine V_ialdv (pc := 99) dX11_times_99 (v := (T p.toNat 3)) hL.t37 (by omega) ((apM_ne (by omega) (by omega)).trans ((apM_ne (by omega) (by omega)).trans hq3)) (fun g99 => ?_)
      refine V_icmp_eq (pc := 100) dX11_times_100 (tgt := 130) rfl (fun h100 => ?_) (fun h100 => ?_)
      · skip
        refine V_ld (pc := 130) dX11_times_130 (v := vr 30) rfl rfl ?_
        refine V_bipush (pc := 131) dX11_times_131 (by unfold I32; omega) (by decide) ?_
        refine V_callV (pc := 133) dX11_times_133 (F' := 0) (As := [vi 125]) (st := []) cw_RX11_203 rfl rfl hL.t30 (by decide) (Nat.le_of_ble_eq_true rfl) (by omega) (r_wr1  (apM 30 22 44 (apM 30 22 44 m [123]) (numS (T p.toNat 3))) 125   (by first | assumption | omega) (by (try simp only [apM_sz, List.length_cons, List.length_nil, numS_len]); unfold qLen at hr; omega)) ?_
        rintro _ _ ⟨rfl, rfl⟩ ok133 le133
        refine V_ld (pc := 136) dX11_times_136 (v := vr 30) rfl rfl ?_
        refine V_getRv (pc := 137) dX11_times_137 (o' := 39) fw_RX11_36 rfl hL.t30 hL.r30_14 ?_
        refine V_ld (pc := 140) dX11_times_140 (v := vi p) rfl rfl ?_
        refine V_ialdv (pc := 141) dX11_times_141 (v := (T p.toNat 5)) hL.t39 (by omega) ((apM_ne (by omega) (by omega)).trans ((apM_ne (by omega) (by omega)).trans ((apM_ne (by omega) (by omega)).trans hq5))) (fun g141 => ?_)
        refine V_if_ne (pc := 142) dX11_times_142 (tgt := 151) rfl (fun h142 => ?_) (fun h142 => ?_)
        · skip
          refine V_retv (pc := 151) dX11_times_151 trivial ?_
          first
            | (exfalso; omega)
            | ((repeat rw [apM_app])
               exact congrArg (apM 30 22 44 m) (by
                 unfold qS
                 repeat (first | rw [if_pos (by omega)] | rw [if_neg (by omega)])
                 first | done | rfl | simp only [List.append_assoc, List.cons_append, List.nil_append, List.append_nil]))
        · skip
          refine V_ld (pc := 145) dX11_times_145 (v := vr 30) rfl rfl ?_
          refine V_bipush (pc := 146) dX11_times_146 (by unfold I32; omega) (by decide) ?_
          refine V_callV (pc := 148) dX11_times_148 (F' := 0) (As := [vi 63]) (st := []) cw_RX11_203 rfl rfl hL.t30 (by decide) (Nat.le_of_ble_eq_true rfl) (by omega) (r_wr1  (apM 30 22 44 (apM 30 22 44 (apM 30 22 44 m [123]) (numS (T p.toNat 3))) [125]) 63   (by first | assumption | omega) (by (try simp only [apM_sz, List.length_cons, List.length_nil, numS_len]); unfold qLen at hr; omega)) ?_
          rintro _ _ ⟨rfl, rfl⟩ ok148 le148
          refine V_retv (pc := 151) dX11_times_151 trivial ?_
          first
            | (exfalso; omega)
            | ((repeat rw [apM_app])
               exact congrArg (apM 30 22 44 m) (by
                 unfold qS
                 repeat (first | rw [if_pos (by omega)] | rw [if_neg (by omega)])
                 first | done | rfl | simp only [List.append_assoc, List.cons_append, List.nil_append, List.append_nil]))
      · skip
        refine V_ld (pc := 103) dX11_times_103 (v := vr 30) rfl rfl ?_
        refine V_bipush (pc := 104) dX11_times_104 (by unfold I32; omega) (by decide) ?_
        refine V_callV (pc := 106) dX11_times_106 (F' := 0) (As := [vi 44]) (st := []) cw_RX11_203 rfl rfl hL.t30 (by decide) (Nat.le_of_ble_eq_true rfl) (by omega) (r_wr1  (apM 30 22 44 (apM 30 22 44 m [123]) (numS (T p.toNat 3))) 44   (by first | assumption | omega) (by (try simp only [apM_sz, List.length_cons, List.length_nil, numS_len]); unfold qLen at hr; omega)) ?_
        rintro _ _ ⟨rfl, rfl⟩ ok106 le106
        refine V_ld (pc := 109) dX11_times_109 (v := vr 30) rfl rfl ?_
        refine V_getRv (pc := 110) dX11_times_110 (o' := 38) fw_RX11_33 rfl hL.t30 hL.r30_13 ?_
        refine V_ld (pc := 113) dX11_times_113 (v := vi p) rfl rfl ?_
        refine V_ialdv (pc := 114) dX11_times_114 (v := (T p.toNat 4)) hL.t38 (by omega) ((apM_ne (by omega) (by omega)).trans ((apM_ne (by omega) (by omega)).trans ((apM_ne (by omega) (by omega)).trans hq4))) (fun g114 => ?_)
        refine V_bipush (pc := 115) dX11_times_115 (by unfold I32; omega) (by decide) ?_
        refine V_icmp_eq (pc := 117) dX11_times_117 (tgt := 130) rfl (fun h117 => ?_) (fun h117 => ?_)
        · skip
          refine V_ld (pc := 130) dX11_times_130 (v := vr 30) rfl rfl ?_
          refine V_bipush (pc := 131) dX11_times_131 (by unfold I32; omega) (by decide) ?_
          refine V_callV (pc := 133) dX11_times_133 (F' := 0) (As := [vi 125]) (st := []) cw_RX11_203 rfl rfl hL.t30 (by decide) (Nat.le_of_ble_eq_true rfl) (by omega) (r_wr1  (apM 30 22 44 (apM 30 22 44 (apM 30 22 44 m [123]) (numS (T p.toNat 3))) [44]) 125   (by first | assumption | omega) (by (try simp only [apM_sz, List.length_cons, List.length_nil, numS_len]); unfold qLen at hr; omega)) ?_
          rintro _ _ ⟨rfl, rfl⟩ ok133 le133
          refine V_ld (pc := 136) dX11_times_136 (v := vr 30) rfl rfl ?_
          refine V_getRv (pc := 137) dX11_times_137 (o' := 39) fw_RX11_36 rfl hL.t30 hL.r30_14 ?_
          refine V_ld (pc := 140) dX11_times_140 (v := vi p) rfl rfl ?_
          refine V_ialdv (pc := 141) dX11_times_141 (v := (T p.toNat 5)) hL.t39 (by omega) ((apM_ne (by omega) (by omega)).trans ((apM_ne (by omega) (by omega)).trans ((apM_ne (by omega) (by omega)).trans ((apM_ne (by omega) (by omega)).trans hq5)))) (fun g141 => ?_)
          refine V_if_ne (pc := 142) dX11_times_142 (tgt := 151) rfl (fun h142 => ?_) (fun h142 => ?_)
          · skip
            refine V_retv (pc := 151) dX11_times_151 trivial ?_
            first
              | (exfalso; omega)
              | ((repeat rw [apM_app])
                 exact congrArg (apM 30 22 44 m) (by
                   unfold qS
                   repeat (first | rw [if_pos (by omega)] | rw [if_neg (by omega)])
                   first | done | rfl | simp only [List.append_assoc, List.cons_append, List.nil_append, List.append_nil]))
          · skip
            refine V_ld (pc := 145) dX11_times_145 (v := vr 30) rfl rfl ?_
            refine V_bipush (pc := 146) dX11_times_146 (by unfold I32; omega) (by decide) ?_
            refine V_callV (pc := 148) dX11_times_148 (F' := 0) (As := [vi 63]) (st := []) cw_RX11_203 rfl rfl hL.t30 (by decide) (Nat.le_of_ble_eq_true rfl) (by omega) (r_wr1  (apM 30 22 44 (apM 30 22 44 (apM 30 22 44 (apM 30 22 44 m [123]) (numS (T p.toNat 3))) [44]) [125]) 63   (by first | assumption | omega) (by (try simp only [apM_sz, List.length_cons, List.length_nil, numS_len]); unfold qLen at hr; omega)) ?_
            rintro _ _ ⟨rfl, rfl⟩ ok148 le148
            refine V_retv (pc := 151) dX11_times_151 trivial ?_
            first
              | (exfalso; omega)
              | ((repeat rw [apM_app])
                 exact congrArg (apM 30 22 44 m) (by
                   unfold qS
                   repeat (first | rw [if_pos (by omega)] | rw [if_neg (by omega)])
                   first | done | rfl | simp only [List.append_assoc, List.cons_append, List.nil_append, List.append_nil]))
        · skip
          refine V_ld (pc := 120) dX11_times_120 (v := vr 30) rfl rfl ?_
          refine V_ld (pc := 121) dX11_times_121 (v := vr 30) rfl rfl ?_
          refine V_getRv (pc := 122) dX11_times_122 (o' := 38) fw_RX11_33 rfl hL.t30 hL.r30_13 ?_
          refine V_ld (pc := 125) dX11_times_125 (v := vi p) rfl rfl ?_
          refine V_ialdv (pc := 126) dX11_times_126 (v := (T p.toNat 4)) hL.t38 (by omega) ((apM_ne (by omega) (by omega)).trans ((apM_ne (by omega) (by omega)).trans ((apM_ne (by omega) (by omega)).trans hq4))) (fun g126 => ?_)
          refine V_callV (pc := 127) dX11_times_127 (F' := 1) (As := [vi (T p.toNat 4)]) (st := []) cw_RX11_213 rfl rfl hL.t30 (by decide) (Nat.le_of_ble_eq_true rfl) (by omega) (r_wnum  (apM 30 22 44 (apM 30 22 44 (apM 30 22 44 m [123]) (numS (T p.toNat 3))) [44]) (T p.toNat 4)   (by first | assumption | omega) (by omega) (by (try simp only [apM_sz, List.length_cons, List.length_nil, numS_len]); unfold qLen at hr; omega)) ?_
          rintro _ _ ⟨rfl, rfl⟩ ok127 le127
          refine V_ld (pc := 130) dX11_times_130 (v := vr 30) rfl rfl ?_
          refine V_bipush (pc := 131) dX11_times_131 (by unfold I32; omega) (by decide) ?_
          refine V_callV (pc := 133) dX11_times_133 (F' := 0) (As := [vi 125]) (st := []) cw_RX11_203 rfl rfl hL.t30 (by decide) (Nat.le_of_ble_eq_true rfl) (by omega) (r_wr1  (apM 30 22 44 (apM 30 22 44 (apM 30 22 44 (apM 30 22 44 m [123]) (numS (T p.toNat 3))) [44]) (numS (T p.toNat 4))) 125   (by first | assumption | omega) (by (try simp only [apM_sz, List.length_cons, List.length_nil, numS_len]); unfold qLen at hr; omega)) ?_
          rintro _ _ ⟨rfl, rfl⟩ ok133 le133
          refine V_ld (pc := 136) dX11_times_136 (v := vr 30) rfl rfl ?_
          refine V_getRv (pc := 137) dX11_times_137 (o' := 39) fw_RX11_36 rfl hL.t30 hL.r30_14 ?_
          refine V_ld (pc := 140) dX11_times_140 (v := vi p) rfl rfl ?_
          refine V_ialdv (pc := 141) dX11_times_141 (v := (T p.toNat 5)) hL.t39 (by omega) ((apM_ne (by omega) (by omega)).trans ((apM_ne (by omega) (by omega)).trans ((apM_ne (by omega) (by omega)).trans ((apM_ne (by omega) (by omega)).trans ((apM_ne (by omega) (by omega)).trans hq5))))) (fun g141 => ?_)
          refine V_if_ne (pc := 142) dX11_times_142 (tgt := 151) rfl (fun h142 => ?_) (fun h142 => ?_)
          · skip
            refine V_retv (pc := 151) dX11_times_151 trivial ?_
            first
              | (exfalso; omega)
              | ((repeat rw [apM_app])
                 exact congrArg (apM 30 22 44 m) (by
                   unfold qS
                   repeat (first | rw [if_pos (by omega)] | rw [if_neg (by omega)])
                   first | done | rfl | simp only [List.append_assoc, List.cons_append, List.nil_append, List.append_nil]))
          · skip
            refine V_ld (pc := 145) dX11_times_145 (v := vr 30) rfl rfl ?_
            refine V_bipush (pc := 146) dX11_times_146 (by unfold I32; omega) (by decide) ?_
            refine V_callV (pc := 148) dX11_times_148 (F' := 0) (As := [vi 63]) (st := []) cw_RX11_203 rfl rfl hL.t30 (by decide) (Nat.le_of_ble_eq_true rfl) (by omega) (r_wr1  (apM 30 22 44 (apM 30 22 44 (apM 30 22 44 (apM 30 22 44 (apM 30 22 44 m [123]) (numS (T p.toNat 3))) [44]) (numS (T p.toNat 4))) [125]) 63   (by first | assumption | omega) (by (try simp only [apM_sz, List.length_cons, List.length_nil, numS_len]); unfold qLen at hr; omega)) ?_
            rintro _ _ ⟨rfl, rfl⟩ ok148 le148
            refine V_retv (pc := 151) dX11_times_151 trivial ?_
            first
              | (exfalso; omega)
              | ((repeat rw [apM_app])
                 exact congrArg (apM 30 22 44 m) (by
                   unfold qS
                   repeat (first | rw [if_pos (by omega)] | rw [if_neg (by omega)])
                   first | done | rfl | simp only [List.append_assoc, List.cons_append, List.nil_append, List.append_nil]))
    · skip
      refine V_ld (pc := 53) dX11_times_53 (v := vr 30) rfl rfl ?_
      refine V_getRv (pc := 54) dX11_times_54 (o' := 38) fw_RX11_33 rfl hL.t30 hL.r30_13 ?_
      refine V_ld (pc := 57) dX11_times_57 (v := vi p) rfl rfl ?_
      refine V_ialdv (pc := 58) dX11_times_58 (v := (T p.toNat 4)) hL.t38 (by omega) hq4 (fun g58 => ?_)
      refine V_iconst (pc := 59) dX11_times_59 (by unfold I32; omega) ?_
      refine V_icmp_ne (pc := 60) dX11_times_60 (tgt := 72) rfl (fun h60 => ?_) (fun h60 => ?_)
      · skip
        refine V_ld (pc := 72) dX11_times_72 (v := vr 30) rfl rfl ?_
        refine V_bipush (pc := 73) dX11_times_73 (by unfold I32; omega) (by decide) ?_
        refine V_callV (pc := 75) dX11_times_75 (F' := 0) (As := [vi 123]) (st := []) cw_RX11_203 rfl rfl hL.t30 (by decide) (Nat.le_of_ble_eq_true rfl) (by omega) (r_wr1  m 123   (by first | assumption | omega) (by (try simp only [apM_sz, List.length_cons, List.length_nil, numS_len]); unfold qLen at hr; omega)) ?_
        rintro _ _ ⟨rfl, rfl⟩ ok75 le75
        refine V_ld (pc := 78) dX11_times_78 (v := vr 30) rfl rfl ?_
        refine V_ld (pc := 79) dX11_times_79 (v := vr 30) rfl rfl ?_
        refine V_getRv (pc := 80) dX11_times_80 (o' := 37) fw_RX11_30 rfl hL.t30 hL.r30_12 ?_
        refine V_ld (pc := 83) dX11_times_83 (v := vi p) rfl rfl ?_
        refine V_ialdv (pc := 84) dX11_times_84 (v := (T p.toNat 3)) hL.t37 (by omega) ((apM_ne (by omega) (by omega)).trans hq3) (fun g84 => ?_)
        refine V_callV (pc := 85) dX11_times_85 (F' := 1) (As := [vi (T p.toNat 3)]) (st := []) cw_RX11_213 rfl rfl hL.t30 (by decide) (Nat.le_of_ble_eq_true rfl) (by omega) (r_wnum  (apM 30 22 44 m [123]) (T p.toNat 3)   (by first | assumption | omega) (by omega) (by (try simp only [apM_sz, List.length_cons, List.length_nil, numS_len]); unfold qLen at hr; omega)) ?_
        rintro _ _ ⟨rfl, rfl⟩ ok85 le85
        refine V_ld (pc := 88) dX11_times_88 (v := vr 30) rfl rfl ?_
        refine V_getRv (pc := 89) dX11_times_89 (o' := 38) fw_RX11_33 rfl hL.t30 hL.r30_13 ?_
        refine V_ld (pc := 92) dX11_times_92 (v := vi p) rfl rfl ?_
        refine V_ialdv (pc := 93) dX11_times_93 (v := (T p.toNat 4)) hL.t38 (by omega) ((apM_ne (by omega) (by omega)).trans ((apM_ne (by omega) (by omega)).trans hq4)) (fun g93 => ?_)
        refine V_ld (pc := 94) dX11_times_94 (v := vr 30) rfl rfl ?_
        refine V_getRv (pc := 95) dX11_times_95 (o' := 37) fw_RX11_30 rfl hL.t30 hL.r30_12 ?_
        refine V_ld (pc := 98) dX11_times_98 (v := vi p) rfl rfl ?_
        refine V_ialdv (pc := 99) dX11_times_99 (v := (T p.toNat 3)) hL.t37 (by omega) ((apM_ne (by omega) (by omega)).trans ((apM_ne (by omega) (by omega)).trans hq3)) (fun g99 => ?_)
        refine V_icmp_eq (pc := 100) dX11_times_100 (tgt := 130) rfl (fun h100 => ?_) (fun h100 => ?_)
        · skip
          refine V_ld (pc := 130) dX11_times_130 (v := vr 30) rfl rfl ?_
          refine V_bipush (pc := 131) dX11_times_131 (by unfold I32; omega) (by decide) ?_
          refine V_callV (pc := 133) dX11_times_133 (F' := 0) (As := [vi 125]) (st := []) cw_RX11_203 rfl rfl hL.t30 (by decide) (Nat.le_of_ble_eq_true rfl) (by omega) (r_wr1  (apM 30 22 44 (apM 30 22 44 m [123]) (numS (T p.toNat 3))) 125   (by first | assumption | omega) (by (try simp only [apM_sz, List.length_cons, List.length_nil, numS_len]); unfold qLen at hr; omega)) ?_
          rintro _ _ ⟨rfl, rfl⟩ ok133 le133
          refine V_ld (pc := 136) dX11_times_136 (v := vr 30) rfl rfl ?_
          refine V_getRv (pc := 137) dX11_times_137 (o' := 39) fw_RX11_36 rfl hL.t30 hL.r30_14 ?_
          refine V_ld (pc := 140) dX11_times_140 (v := vi p) rfl rfl ?_
          refine V_ialdv (pc := 141) dX11_times_141 (v := (T p.toNat 5)) hL.t39 (by omega) ((apM_ne (by omega) (by omega)).trans ((apM_ne (by omega) (by omega)).trans ((apM_ne (by omega) (by omega)).trans hq5))) (fun g141 => ?_)
          refine V_if_ne (pc := 142) dX11_times_142 (tgt := 151) rfl (fun h142 => ?_) (fun h142 => ?_)
          · skip
            refine V_retv (pc := 151) dX11_times_151 trivial ?_
            first
              | (exfalso; omega)
              | ((repeat rw [apM_app])
                 exact congrArg (apM 30 22 44 m) (by
                   unfold qS
                   repeat (first | rw [if_pos (by omega)] | rw [if_neg (by omega)])
                   first | done | rfl | simp only [List.append_assoc, List.cons_append, List.nil_append, List.append_nil]))
          · skip
            refine V_ld (pc := 145) dX11_times_145 (v := vr 30) rfl rfl ?_
            refine V_bipush (pc := 146) dX11_times_146 (by unfold I32; omega) (by decide) ?_
            refine V_callV (pc := 148) dX11_times_148 (F' := 0) (As := [vi 63]) (st := []) cw_RX11_203 rfl rfl hL.t30 (by decide) (Nat.le_of_ble_eq_true rfl) (by omega) (r_wr1  (apM 30 22 44 (apM 30 22 44 (apM 30 22 44 m [123]) (numS (T p.toNat 3))) [125]) 63   (by first | assumption | omega) (by (try simp only [apM_sz, List.length_cons, List.length_nil, numS_len]); unfold qLen at hr; omega)) ?_
            rintro _ _ ⟨rfl, rfl⟩ ok148 le148
            refine V_retv (pc := 151) dX11_times_151 trivial ?_
            first
              | (exfalso; omega)
              | ((repeat rw [apM_app])
                 exact congrArg (apM 30 22 44 m) (by
                   unfold qS
                   repeat (first | rw [if_pos (by omega)] | rw [if_neg (by omega)])
                   first | done | rfl | simp only [List.append_assoc, List.cons_append, List.nil_append, List.append_nil]))
        · skip
          refine V_ld (pc := 103) dX11_times_103 (v := vr 30) rfl rfl ?_
          refine V_bipush (pc := 104) dX11_times_104 (by unfold I32; omega) (by decide) ?_
          refine V_callV (pc := 106) dX11_times_106 (F' := 0) (As := [vi 44]) (st := []) cw_RX11_203 rfl rfl hL.t30 (by decide) (Nat.le_of_ble_eq_true rfl) (by omega) (r_wr1  (apM 30 22 44 (apM 30 22 44 m [123]) (numS (T p.toNat 3))) 44   (by first | assumption | omega) (by (try simp only [apM_sz, List.length_cons, List.length_nil, numS_len]); unfold qLen at hr; omega)) ?_
          rintro _ _ ⟨rfl, rfl⟩ ok106 le106
          refine V_ld (pc := 109) dX11_times_109 (v := vr 30) rfl rfl ?_
          refine V_getRv (pc := 110) dX11_times_110 (o' := 38) fw_RX11_33 rfl hL.t30 hL.r30_13 ?_
          refine V_ld (pc := 113) dX11_times_113 (v := vi p) rfl rfl ?_
          refine V_ialdv (pc := 114) dX11_times_114 (v := (T p.toNat 4)) hL.t38 (by omega) ((apM_ne (by omega) (by omega)).trans ((apM_ne (by omega) (by omega)).trans ((apM_ne (by omega) (by omega)).trans hq4))) (fun g114 => ?_)
          refine V_bipush (pc := 115) dX11_times_115 (by unfold I32; omega) (by decide) ?_
          refine V_icmp_eq (pc := 117) dX11_times_117 (tgt := 130) rfl (fun h117 => ?_) (fun h117 => ?_)
          · skip
            refine V_ld (pc := 130) dX11_times_130 (v := vr 30) rfl rfl ?_
            refine V_bipush (pc := 131) dX11_times_131 (by unfold I32; omega) (by decide) ?_
            refine V_callV (pc := 133) dX11_times_133 (F' := 0) (As := [vi 125]) (st := []) cw_RX11_203 rfl rfl hL.t30 (by decide) (Nat.le_of_ble_eq_true rfl) (by omega) (r_wr1  (apM 30 22 44 (apM 30 22 44 (apM 30 22 44 m [123]) (numS (T p.toNat 3))) [44]) 125   (by first | assumption | omega) (by (try simp only [apM_sz, List.length_cons, List.length_nil, numS_len]); unfold qLen at hr; omega)) ?_
            rintro _ _ ⟨rfl, rfl⟩ ok133 le133
            refine V_ld (pc := 136) dX11_times_136 (v := vr 30) rfl rfl ?_
            refine V_getRv (pc := 137) dX11_times_137 (o' := 39) fw_RX11_36 rfl hL.t30 hL.r30_14 ?_
            refine V_ld (pc := 140) dX11_times_140 (v := vi p) rfl rfl ?_
            refine V_ialdv (pc := 141) dX11_times_141 (v := (T p.toNat 5)) hL.t39 (by omega) ((apM_ne (by omega) (by omega)).trans ((apM_ne (by omega) (by omega)).trans ((apM_ne (by omega) (by omega)).trans ((apM_ne (by omega) (by omega)).trans hq5)))) (fun g141 => ?_)
            refine V_if_ne (pc := 142) dX11_times_142 (tgt := 151) rfl (fun h142 => ?_) (fun h142 => ?_)
            · skip
              refine V_retv (pc := 151) dX11_times_151 trivial ?_
              first
                | (exfalso; omega)
                | ((repeat rw [apM_app])
                   exact congrArg (apM 30 22 44 m) (by
                     unfold qS
                     repeat (first | rw [if_pos (by omega)] | rw [if_neg (by omega)])
                     first | done | rfl | simp only [List.append_assoc, List.cons_append, List.nil_append, List.append_nil]))
            · skip
              refine V_ld (pc := 145) dX11_times_145 (v := vr 30) rfl rfl ?_
              refine V_bipush (pc := 146) dX11_times_146 (by unfold I32; omega) (by decide) ?_
              refine V_callV (pc := 148) dX11_times_148 (F' := 0) (As := [vi 63]) (st := []) cw_RX11_203 rfl rfl hL.t30 (by decide) (Nat.le_of_ble_eq_true rfl) (by omega) (r_wr1  (apM 30 22 44 (apM 30 22 44 (apM 30 22 44 (apM 30 22 44 m [123]) (numS (T p.toNat 3))) [44]) [125]) 63   (by first | assumption | omega) (by (try simp only [apM_sz, List.length_cons, List.length_nil, numS_len]); unfold qLen at hr; omega)) ?_
              rintro _ _ ⟨rfl, rfl⟩ ok148 le148
              refine V_retv (pc := 151) dX11_times_151 trivial ?_
              first
                | (exfalso; omega)
                | ((repeat rw [apM_app])
                   exact congrArg (apM 30 22 44 m) (by
                     unfold qS
                     repeat (first | rw [if_pos (by omega)] | rw [if_neg (by omega)])
                     first | done | rfl | simp only [List.append_assoc, List.cons_append, List.nil_append, List.append_nil]))
          · skip
            refine V_ld (pc := 120) dX11_times_120 (v := vr 30) rfl rfl ?_
            refine V_ld (pc := 121) dX11_times_121 (v := vr 30) rfl rfl ?_
            refine V_getRv (pc := 122) dX11_times_122 (o' := 38) fw_RX11_33 rfl hL.t30 hL.r30_13 ?_
            refine V_ld (pc := 125) dX11_times_125 (v := vi p) rfl rfl ?_
            refine V_ialdv (pc := 126) dX11_times_126 (v := (T p.toNat 4)) hL.t38 (by omega) ((apM_ne (by omega) (by omega)).trans ((apM_ne (by omega) (by omega)).trans ((apM_ne (by omega) (by omega)).trans hq4))) (fun g126 => ?_)
            refine V_callV (pc := 127) dX11_times_127 (F' := 1) (As := [vi (T p.toNat 4)]) (st := []) cw_RX11_213 rfl rfl hL.t30 (by decide) (Nat.le_of_ble_eq_true rfl) (by omega) (r_wnum  (apM 30 22 44 (apM 30 22 44 (apM 30 22 44 m [123]) (numS (T p.toNat 3))) [44]) (T p.toNat 4)   (by first | assumption | omega) (by omega) (by (try simp only [apM_sz, List.length_cons, List.length_nil, numS_len]); unfold qLen at hr; omega)) ?_
            rintro _ _ ⟨rfl, rfl⟩ ok127 le127
            refine V_ld (pc := 130) dX11_times_130 (v := vr 30) rfl rfl ?_
            refine V_bipush (pc := 131) dX11_times_131 (by unfold I32; omega) (by decide) ?_
            refine V_callV (pc := 133) dX11_times_133 (F' := 0) (As := [vi 125]) (st := []) cw_RX11_203 rfl rfl hL.t30 (by decide) (Nat.le_of_ble_eq_true rfl) (by omega) (r_wr1  (apM 30 22 44 (apM 30 22 44 (apM 30 22 44 (apM 30 22 44 m [123]) (numS (T p.toNat 3))) [44]) (numS (T p.toNat 4))) 125   (by first | assumption | omega) (by (try simp only [apM_sz, List.length_cons, List.length_nil, numS_len]); unfold qLen at hr; omega)) ?_
            rintro _ _ ⟨rfl, rfl⟩ ok133 le133
            refine V_ld (pc := 136) dX11_times_136 (v := vr 30) rfl rfl ?_
            refine V_getRv (pc := 137) dX11_times_137 (o' := 39) fw_RX11_36 rfl hL.t30 hL.r30_14 ?_
            refine V_ld (pc := 140) dX11_times_140 (v := vi p) rfl rfl ?_
            refine V_ialdv (pc := 141) dX11_times_141 (v := (T p.toNat 5)) hL.t39 (by omega) ((apM_ne (by omega) (by omega)).trans ((apM_ne (by omega) (by omega)).trans ((apM_ne (by omega) (by omega)).trans ((apM_ne (by omega) (by omega)).trans ((apM_ne (by omega) (by omega)).trans hq5))))) (fun g141 => ?_)
            refine V_if_ne (pc := 142) dX11_times_142 (tgt := 151) rfl (fun h142 => ?_) (fun h142 => ?_)
            · skip
              refine V_retv (pc := 151) dX11_times_151 trivial ?_
              first
                | (exfalso; omega)
                | ((repeat rw [apM_app])
                   exact congrArg (apM 30 22 44 m) (by
                     unfold qS
                     repeat (first | rw [if_pos (by omega)] | rw [if_neg (by omega)])
                     first | done | rfl | simp only [List.append_assoc, List.cons_append, List.nil_append, List.append_nil]))
            · skip
              refine V_ld (pc := 145) dX11_times_145 (v := vr 30) rfl rfl ?_
              refine V_bipush (pc := 146) dX11_times_146 (by unfold I32; omega) (by decide) ?_
              refine V_callV (pc := 148) dX11_times_148 (F' := 0) (As := [vi 63]) (st := []) cw_RX11_203 rfl rfl hL.t30 (by decide) (Nat.le_of_ble_eq_true rfl) (by omega) (r_wr1  (apM 30 22 44 (apM 30 22 44 (apM 30 22 44 (apM 30 22 44 (apM 30 22 44 m [123]) (numS (T p.toNat 3))) [44]) (numS (T p.toNat 4))) [125]) 63   (by first | assumption | omega) (by (try simp only [apM_sz, List.length_cons, List.length_nil, numS_len]); unfold qLen at hr; omega)) ?_
              rintro _ _ ⟨rfl, rfl⟩ ok148 le148
              refine V_retv (pc := 151) dX11_times_151 trivial ?_
              first
                | (exfalso; omega)
                | ((repeat rw [apM_app])
                   exact congrArg (apM 30 22 44 m) (by
                     unfold qS
                     repeat (first | rw [if_pos (by omega)] | rw [if_neg (by omega)])
                     first | done | rfl | simp only [List.append_assoc, List.cons_append, List.nil_append, List.append_nil]))
      · skip
        refine V_ld (pc := 63) dX11_times_63 (v := vr 30) rfl rfl ?_
        refine V_bipush (pc := 64) dX11_times_64 (by unfold I32; omega) (by decide) ?_
        refine V_callV (pc := 66) dX11_times_66 (F' := 0) (As := [vi 63]) (st := []) cw_RX11_203 rfl rfl hL.t30 (by decide) (Nat.le_of_ble_eq_true rfl) (by omega) (r_wr1  m 63   (by first | assumption | omega) (by (try simp only [apM_sz, List.length_cons, List.length_nil, numS_len]); unfold qLen at hr; omega)) ?_
        rintro _ _ ⟨rfl, rfl⟩ ok66 le66
        refine V_goto (pc := 69) dX11_times_69 (tgt := 136) rfl ?_
        refine V_ld (pc := 136) dX11_times_136 (v := vr 30) rfl rfl ?_
        refine V_getRv (pc := 137) dX11_times_137 (o' := 39) fw_RX11_36 rfl hL.t30 hL.r30_14 ?_
        refine V_ld (pc := 140) dX11_times_140 (v := vi p) rfl rfl ?_
        refine V_ialdv (pc := 141) dX11_times_141 (v := (T p.toNat 5)) hL.t39 (by omega) ((apM_ne (by omega) (by omega)).trans hq5) (fun g141 => ?_)
        refine V_if_ne (pc := 142) dX11_times_142 (tgt := 151) rfl (fun h142 => ?_) (fun h142 => ?_)
        · skip
          refine V_retv (pc := 151) dX11_times_151 trivial ?_
          first
            | (exfalso; omega)
            | ((repeat rw [apM_app])
               exact congrArg (apM 30 22 44 m) (by
                 unfold qS
                 repeat (first | rw [if_pos (by omega)] | rw [if_neg (by omega)])
                 first | done | rfl | simp only [List.append_assoc, List.cons_append, List.nil_append, List.append_nil]))
        · skip
          refine V_ld (pc := 145) dX11_times_145 (v := vr 30) rfl rfl ?_
          refine V_bipush (pc := 146) dX11_times_146 (by unfold I32; omega) (by decide) ?_
          refine V_callV (pc := 148) dX11_times_148 (F' := 0) (As := [vi 63]) (st := []) cw_RX11_203 rfl rfl hL.t30 (by decide) (Nat.le_of_ble_eq_true rfl) (by omega) (r_wr1  (apM 30 22 44 m [63]) 63   (by first | assumption | omega) (by (try simp only [apM_sz, List.length_cons, List.length_nil, numS_len]); unfold qLen at hr; omega)) ?_
          rintro _ _ ⟨rfl, rfl⟩ ok148 le148
          refine V_retv (pc := 151) dX11_times_151 trivial ?_
          first
            | (exfalso; omega)
            | ((repeat rw [apM_app])
               exact congrArg (apM 30 22 44 m) (by
                 unfold qS
                 repeat (first | rw [if_pos (by omega)] | rw [if_neg (by omega)])
                 first | done | rfl | simp only [List.append_assoc, List.cons_append, List.nil_append, List.append_nil]))
  · skip
    refine V_ld (pc := 11) dX11_times_11 (v := vr 30) rfl rfl ?_
    refine V_getRv (pc := 12) dX11_times_12 (o' := 37) fw_RX11_30 rfl hL.t30 hL.r30_12 ?_
    refine V_ld (pc := 15) dX11_times_15 (v := vi p) rfl rfl ?_
    refine V_ialdv (pc := 16) dX11_times_16 (v := (T p.toNat 3)) hL.t37 (by omega) hq3 (fun g16 => ?_)
    refine V_iconst (pc := 17) dX11_times_17 (by unfold I32; omega) ?_
    refine V_icmp_ge (pc := 18) dX11_times_18 (tgt := 44) rfl (fun h18 => ?_) (fun h18 => ?_)
    · skip
      refine V_ld (pc := 44) dX11_times_44 (v := vr 30) rfl rfl ?_
      refine V_getRv (pc := 45) dX11_times_45 (o' := 37) fw_RX11_30 rfl hL.t30 hL.r30_12 ?_
      refine V_ld (pc := 48) dX11_times_48 (v := vi p) rfl rfl ?_
      refine V_ialdv (pc := 49) dX11_times_49 (v := (T p.toNat 3)) hL.t37 (by omega) hq3 (fun g49 => ?_)
      refine V_if_ne (pc := 50) dX11_times_50 (tgt := 72) rfl (fun h50 => ?_) (fun h50 => ?_)
      · skip
        refine V_ld (pc := 72) dX11_times_72 (v := vr 30) rfl rfl ?_
        refine V_bipush (pc := 73) dX11_times_73 (by unfold I32; omega) (by decide) ?_
        refine V_callV (pc := 75) dX11_times_75 (F' := 0) (As := [vi 123]) (st := []) cw_RX11_203 rfl rfl hL.t30 (by decide) (Nat.le_of_ble_eq_true rfl) (by omega) (r_wr1  m 123   (by first | assumption | omega) (by (try simp only [apM_sz, List.length_cons, List.length_nil, numS_len]); unfold qLen at hr; omega)) ?_
        rintro _ _ ⟨rfl, rfl⟩ ok75 le75
        refine V_ld (pc := 78) dX11_times_78 (v := vr 30) rfl rfl ?_
        refine V_ld (pc := 79) dX11_times_79 (v := vr 30) rfl rfl ?_
        refine V_getRv (pc := 80) dX11_times_80 (o' := 37) fw_RX11_30 rfl hL.t30 hL.r30_12 ?_
        refine V_ld (pc := 83) dX11_times_83 (v := vi p) rfl rfl ?_
        refine V_ialdv (pc := 84) dX11_times_84 (v := (T p.toNat 3)) hL.t37 (by omega) ((apM_ne (by omega) (by omega)).trans hq3) (fun g84 => ?_)
        refine V_callV (pc := 85) dX11_times_85 (F' := 1) (As := [vi (T p.toNat 3)]) (st := []) cw_RX11_213 rfl rfl hL.t30 (by decide) (Nat.le_of_ble_eq_true rfl) (by omega) (r_wnum  (apM 30 22 44 m [123]) (T p.toNat 3)   (by first | assumption | omega) (by omega) (by (try simp only [apM_sz, List.length_cons, List.length_nil, numS_len]); unfold qLen at hr; omega)) ?_
        rintro _ _ ⟨rfl, rfl⟩ ok85 le85
        refine V_ld (pc := 88) dX11_times_88 (v := vr 30) rfl rfl ?_
        refine V_getRv (pc := 89) dX11_times_89 (o' := 38) fw_RX11_33 rfl hL.t30 hL.r30_13 ?_
        refine V_ld (pc := 92) dX11_times_92 (v := vi p) rfl rfl ?_
        refine V_ialdv (pc := 93) dX11_times_93 (v := (T p.toNat 4)) hL.t38 (by omega) ((apM_ne (by omega) (by omega)).trans ((apM_ne (by omega) (by omega)).trans hq4)) (fun g93 => ?_)
        refine V_ld (pc := 94) dX11_times_94 (v := vr 30) rfl rfl ?_
        refine V_getRv (pc := 95) dX11_times_95 (o' := 37) fw_RX11_30 rfl hL.t30 hL.r30_12 ?_
        refine V_ld (pc := 98) dX11_times_98 (v := vi p) rfl rfl ?_
        refine V_ialdv (pc := 99) dX11_times_99 (v := (T p.toNat 3)) hL.t37 (by omega) ((apM_ne (by omega) (by omega)).trans ((apM_ne (by omega) (by omega)).trans hq3)) (fun g99 => ?_)
        refine V_icmp_eq (pc := 100) dX11_times_100 (tgt := 130) rfl (fun h100 => ?_) (fun h100 => ?_)
        · skip
          refine V_ld (pc := 130) dX11_times_130 (v := vr 30) rfl rfl ?_
          refine V_bipush (pc := 131) dX11_times_131 (by unfold I32; omega) (by decide) ?_
          refine V_callV (pc := 133) dX11_times_133 (F' := 0) (As := [vi 125]) (st := []) cw_RX11_203 rfl rfl hL.t30 (by decide) (Nat.le_of_ble_eq_true rfl) (by omega) (r_wr1  (apM 30 22 44 (apM 30 22 44 m [123]) (numS (T p.toNat 3))) 125   (by first | assumption | omega) (by (try simp only [apM_sz, List.length_cons, List.length_nil, numS_len]); unfold qLen at hr; omega)) ?_
          rintro _ _ ⟨rfl, rfl⟩ ok133 le133
          refine V_ld (pc := 136) dX11_times_136 (v := vr 30) rfl rfl ?_
          refine V_getRv (pc := 137) dX11_times_137 (o' := 39) fw_RX11_36 rfl hL.t30 hL.r30_14 ?_
          refine V_ld (pc := 140) dX11_times_140 (v := vi p) rfl rfl ?_
          refine V_ialdv (pc := 141) dX11_times_141 (v := (T p.toNat 5)) hL.t39 (by omega) ((apM_ne (by omega) (by omega)).trans ((apM_ne (by omega) (by omega)).trans ((apM_ne (by omega) (by omega)).trans hq5))) (fun g141 => ?_)
          refine V_if_ne (pc := 142) dX11_times_142 (tgt := 151) rfl (fun h142 => ?_) (fun h142 => ?_)
          · skip
            refine V_retv (pc := 151) dX11_times_151 trivial ?_
            first
              | (exfalso; omega)
              | ((repeat rw [apM_app])
                 exact congrArg (apM 30 22 44 m) (by
                   unfold qS
                   repeat (first | rw [if_pos (by omega)] | rw [if_neg (by omega)])
                   first | done | rfl | simp only [List.append_assoc, List.cons_append, List.nil_append, List.append_nil]))
          · skip
            refine V_ld (pc := 145) dX11_times_145 (v := vr 30) rfl rfl ?_
            refine V_bipush (pc := 146) dX11_times_146 (by unfold I32; omega) (by decide) ?_
            refine V_callV (pc := 148) dX11_times_148 (F' := 0) (As := [vi 63]) (st := []) cw_RX11_203 rfl rfl hL.t30 (by decide) (Nat.le_of_ble_eq_true rfl) (by omega) (r_wr1  (apM 30 22 44 (apM 30 22 44 (apM 30 22 44 m [123]) (numS (T p.toNat 3))) [125]) 63   (by first | assumption | omega) (by (try simp only [apM_sz, List.length_cons, List.length_nil, numS_len]); unfold qLen at hr; omega)) ?_
            rintro _ _ ⟨rfl, rfl⟩ ok148 le148
            refine V_retv (pc := 151) dX11_times_151 trivial ?_
            first
              | (exfalso; omega)
              | ((repeat rw [apM_app])
                 exact congrArg (apM 30 22 44 m) (by
                   unfold qS
                   repeat (first | rw [if_pos (by omega)] | rw [if_neg (by omega)])
                   first | done | rfl | simp only [List.append_assoc, List.cons_append, List.nil_append, List.append_nil]))
        · skip
          refine V_ld (pc := 103) dX11_times_103 (v := vr 30) rfl rfl ?_
          refine V_bipush (pc := 104) dX11_times_104 (by unfold I32; omega) (by decide) ?_
          refine V_callV (pc := 106) dX11_times_106 (F' := 0) (As := [vi 44]) (st := []) cw_RX11_203 rfl rfl hL.t30 (by decide) (Nat.le_of_ble_eq_true rfl) (by omega) (r_wr1  (apM 30 22 44 (apM 30 22 44 m [123]) (numS (T p.toNat 3))) 44   (by first | assumption | omega) (by (try simp only [apM_sz, List.length_cons, List.length_nil, numS_len]); unfold qLen at hr; omega)) ?_
          rintro _ _ ⟨rfl, rfl⟩ ok106 le106
          refine V_ld (pc := 109) dX11_times_109 (v := vr 30) rfl rfl ?_
          refine V_getRv (pc := 110) dX11_times_110 (o' := 38) fw_RX11_33 rfl hL.t30 hL.r30_13 ?_
          refine V_ld (pc := 113) dX11_times_113 (v := vi p) rfl rfl ?_
          refine V_ialdv (pc := 114) dX11_times_114 (v := (T p.toNat 4)) hL.t38 (by omega) ((apM_ne (by omega) (by omega)).trans ((apM_ne (by omega) (by omega)).trans ((apM_ne (by omega) (by omega)).trans hq4))) (fun g114 => ?_)
          refine V_bipush (pc := 115) dX11_times_115 (by unfold I32; omega) (by decide) ?_
          refine V_icmp_eq (pc := 117) dX11_times_117 (tgt := 130) rfl (fun h117 => ?_) (fun h117 => ?_)
          · skip
            refine V_ld (pc := 130) dX11_times_130 (v := vr 30) rfl rfl ?_
            refine V_bipush (pc := 131) dX11_times_131 (by unfold I32; omega) (by decide) ?_
            refine V_callV (pc := 133) dX11_times_133 (F' := 0) (As := [vi 125]) (st := []) cw_RX11_203 rfl rfl hL.t30 (by decide) (Nat.le_of_ble_eq_true rfl) (by omega) (r_wr1  (apM 30 22 44 (apM 30 22 44 (apM 30 22 44 m [123]) (numS (T p.toNat 3))) [44]) 125   (by first | assumption | omega) (by (try simp only [apM_sz, List.length_cons, List.length_nil, numS_len]); unfold qLen at hr; omega)) ?_
            rintro _ _ ⟨rfl, rfl⟩ ok133 le133
            refine V_ld (pc := 136) dX11_times_136 (v := vr 30) rfl rfl ?_
            refine V_getRv (pc := 137) dX11_times_137 (o' := 39) fw_RX11_36 rfl hL.t30 hL.r30_14 ?_
            refine V_ld (pc := 140) dX11_times_140 (v := vi p) rfl rfl ?_
            refine V_ialdv (pc := 141) dX11_times_141 (v := (T p.toNat 5)) hL.t39 (by omega) ((apM_ne (by omega) (by omega)).trans ((apM_ne (by omega) (by omega)).trans ((apM_ne (by omega) (by omega)).trans ((apM_ne (by omega) (by omega)).trans hq5)))) (fun g141 => ?_)
            refine V_if_ne (pc := 142) dX11_times_142 (tgt := 151) rfl (fun h142 => ?_) (fun h142 => ?_)
            · skip
              refine V_retv (pc := 151) dX11_times_151 trivial ?_
              first
                | (exfalso; omega)
                | ((repeat rw [apM_app])
                   exact congrArg (apM 30 22 44 m) (by
                     unfold qS
                     repeat (first | rw [if_pos (by omega)] | rw [if_neg (by omega)])
                     first | done | rfl | simp only [List.append_assoc, List.cons_append, List.nil_append, List.append_nil]))
            · skip
              refine V_ld (pc := 145) dX11_times_145 (v := vr 30) rfl rfl ?_
              refine V_bipush (pc := 146) dX11_times_146 (by unfold I32; omega) (by decide) ?_
              refine V_callV (pc := 148) dX11_times_148 (F' := 0) (As := [vi 63]) (st := []) cw_RX11_203 rfl rfl hL.t30 (by decide) (Nat.le_of_ble_eq_true rfl) (by omega) (r_wr1  (apM 30 22 44 (apM 30 22 44 (apM 30 22 44 (apM 30 22 44 m [123]) (numS (T p.toNat 3))) [44]) [125]) 63   (by first | assumption | omega) (by (try simp only [apM_sz, List.length_cons, List.length_nil, numS_len]); unfold qLen at hr; omega)) ?_
              rintro _ _ ⟨rfl, rfl⟩ ok148 le148
              refine V_retv (pc := 151) dX11_times_151 trivial ?_
              first
                | (exfalso; omega)
                | ((repeat rw [apM_app])
                   exact congrArg (apM 30 22 44 m) (by
                     unfold qS
                     repeat (first | rw [if_pos (by omega)] | rw [if_neg (by omega)])
                     first | done | rfl | simp only [List.append_assoc, List.cons_append, List.nil_append, List.append_nil]))
          · skip
            refine V_ld (pc := 120) dX11_times_120 (v := vr 30) rfl rfl ?_
            refine V_ld (pc := 121) dX11_times_121 (v := vr 30) rfl rfl ?_
            refine V_getRv (pc := 122) dX11_times_122 (o' := 38) fw_RX11_33 rfl hL.t30 hL.r30_13 ?_
            refine V_ld (pc := 125) dX11_times_125 (v := vi p) rfl rfl ?_
            refine V_ialdv (pc := 126) dX11_times_126 (v := (T p.toNat 4)) hL.t38 (by omega) ((apM_ne (by omega) (by omega)).trans ((apM_ne (by omega) (by omega)).trans ((apM_ne (by omega) (by omega)).trans hq4))) (fun g126 => ?_)
            refine V_callV (pc := 127) dX11_times_127 (F' := 1) (As := [vi (T p.toNat 4)]) (st := []) cw_RX11_213 rfl rfl hL.t30 (by decide) (Nat.le_of_ble_eq_true rfl) (by omega) (r_wnum  (apM 30 22 44 (apM 30 22 44 (apM 30 22 44 m [123]) (numS (T p.toNat 3))) [44]) (T p.toNat 4)   (by first | assumption | omega) (by omega) (by (try simp only [apM_sz, List.length_cons, List.length_nil, numS_len]); unfold qLen at hr; omega)) ?_
            rintro _ _ ⟨rfl, rfl⟩ ok127 le127
            refine V_ld (pc := 130) dX11_times_130 (v := vr 30) rfl rfl ?_
            refine V_bipush (pc := 131) dX11_times_131 (by unfold I32; omega) (by decide) ?_
            refine V_callV (pc := 133) dX11_times_133 (F' := 0) (As := [vi 125]) (st := []) cw_RX11_203 rfl rfl hL.t30 (by decide) (Nat.le_of_ble_eq_true rfl) (by omega) (r_wr1  (apM 30 22 44 (apM 30 22 44 (apM 30 22 44 (apM 30 22 44 m [123]) (numS (T p.toNat 3))) [44]) (numS (T p.toNat 4))) 125   (by first | assumption | omega) (by (try simp only [apM_sz, List.length_cons, List.length_nil, numS_len]); unfold qLen at hr; omega)) ?_
            rintro _ _ ⟨rfl, rfl⟩ ok133 le133
            refine V_ld (pc := 136) dX11_times_136 (v := vr 30) rfl rfl ?_
            refine V_getRv (pc := 137) dX11_times_137 (o' := 39) fw_RX11_36 rfl hL.t30 hL.r30_14 ?_
            refine V_ld (pc := 140) dX11_times_140 (v := vi p) rfl rfl ?_
            refine V_ialdv (pc := 141) dX11_times_141 (v := (T p.toNat 5)) hL.t39 (by omega) ((apM_ne (by omega) (by omega)).trans ((apM_ne (by omega) (by omega)).trans ((apM_ne (by omega) (by omega)).trans ((apM_ne (by omega) (by omega)).trans ((apM_ne (by omega) (by omega)).trans hq5))))) (fun g141 => ?_)
            refine V_if_ne (pc := 142) dX11_times_142 (tgt := 151) rfl (fun h142 => ?_) (fun h142 => ?_)
            · skip
              refine V_retv (pc := 151) dX11_times_151 trivial ?_
              first
                | (exfalso; omega)
                | ((repeat rw [apM_app])
                   exact congrArg (apM 30 22 44 m) (by
                     unfold qS
                     repeat (first | rw [if_pos (by omega)] | rw [if_neg (by omega)])
                     first | done | rfl | simp only [List.append_assoc, List.cons_append, List.nil_append, List.append_nil]))
            · skip
              refine V_ld (pc := 145) dX11_times_145 (v := vr 30) rfl rfl ?_
              refine V_bipush (pc := 146) dX11_times_146 (by unfold I32; omega) (by decide) ?_
              refine V_callV (pc := 148) dX11_times_148 (F' := 0) (As := [vi 63]) (st := []) cw_RX11_203 rfl rfl hL.t30 (by decide) (Nat.le_of_ble_eq_true rfl) (by omega) (r_wr1  (apM 30 22 44 (apM 30 22 44 (apM 30 22 44 (apM 30 22 44 (apM 30 22 44 m [123]) (numS (T p.toNat 3))) [44]) (numS (T p.toNat 4))) [125]) 63   (by first | assumption | omega) (by (try simp only [apM_sz, List.length_cons, List.length_nil, numS_len]); unfold qLen at hr; omega)) ?_
              rintro _ _ ⟨rfl, rfl⟩ ok148 le148
              refine V_retv (pc := 151) dX11_times_151 trivial ?_
              first
                | (exfalso; omega)
                | ((repeat rw [apM_app])
                   exact congrArg (apM 30 22 44 m) (by
                     unfold qS
                     repeat (first | rw [if_pos (by omega)] | rw [if_neg (by omega)])
                     first | done | rfl | simp only [List.append_assoc, List.cons_append, List.nil_append, List.append_nil]))
      · skip
        refine V_ld (pc := 53) dX11_times_53 (v := vr 30) rfl rfl ?_
        refine V_getRv (pc := 54) dX11_times_54 (o' := 38) fw_RX11_33 rfl hL.t30 hL.r30_13 ?_
        refine V_ld (pc := 57) dX11_times_57 (v := vi p) rfl rfl ?_
        refine V_ialdv (pc := 58) dX11_times_58 (v := (T p.toNat 4)) hL.t38 (by omega) hq4 (fun g58 => ?_)
        refine V_iconst (pc := 59) dX11_times_59 (by unfold I32; omega) ?_
        refine V_icmp_ne (pc := 60) dX11_times_60 (tgt := 72) rfl (fun h60 => ?_) (fun h60 => ?_)
        · skip
          refine V_ld (pc := 72) dX11_times_72 (v := vr 30) rfl rfl ?_
          refine V_bipush (pc := 73) dX11_times_73 (by unfold I32; omega) (by decide) ?_
          refine V_callV (pc := 75) dX11_times_75 (F' := 0) (As := [vi 123]) (st := []) cw_RX11_203 rfl rfl hL.t30 (by decide) (Nat.le_of_ble_eq_true rfl) (by omega) (r_wr1  m 123   (by first | assumption | omega) (by (try simp only [apM_sz, List.length_cons, List.length_nil, numS_len]); unfold qLen at hr; omega)) ?_
          rintro _ _ ⟨rfl, rfl⟩ ok75 le75
          refine V_ld (pc := 78) dX11_times_78 (v := vr 30) rfl rfl ?_
          refine V_ld (pc := 79) dX11_times_79 (v := vr 30) rfl rfl ?_
          refine V_getRv (pc := 80) dX11_times_80 (o' := 37) fw_RX11_30 rfl hL.t30 hL.r30_12 ?_
          refine V_ld (pc := 83) dX11_times_83 (v := vi p) rfl rfl ?_
          refine V_ialdv (pc := 84) dX11_times_84 (v := (T p.toNat 3)) hL.t37 (by omega) ((apM_ne (by omega) (by omega)).trans hq3) (fun g84 => ?_)
          refine V_callV (pc := 85) dX11_times_85 (F' := 1) (As := [vi (T p.toNat 3)]) (st := []) cw_RX11_213 rfl rfl hL.t30 (by decide) (Nat.le_of_ble_eq_true rfl) (by omega) (r_wnum  (apM 30 22 44 m [123]) (T p.toNat 3)   (by first | assumption | omega) (by omega) (by (try simp only [apM_sz, List.length_cons, List.length_nil, numS_len]); unfold qLen at hr; omega)) ?_
          rintro _ _ ⟨rfl, rfl⟩ ok85 le85
          refine V_ld (pc := 88) dX11_times_88 (v := vr 30) rfl rfl ?_
          refine V_getRv (pc := 89) dX11_times_89 (o' := 38) fw_RX11_33 rfl hL.t30 hL.r30_13 ?_
          refine V_ld (pc := 92) dX11_times_92 (v := vi p) rfl rfl ?_
          refine V_ialdv (pc := 93) dX11_times_93 (v := (T p.toNat 4)) hL.t38 (by omega) ((apM_ne (by omega) (by omega)).trans ((apM_ne (by omega) (by omega)).trans hq4)) (fun g93 => ?_)
          refine V_ld (pc := 94) dX11_times_94 (v := vr 30) rfl rfl ?_
          refine V_getRv (pc := 95) dX11_times_95 (o' := 37) fw_RX11_30 rfl hL.t30 hL.r30_12 ?_
          refine V_ld (pc := 98) dX11_times_98 (v := vi p) rfl rfl ?_
          refine V_ialdv (pc := 99) dX11_times_99 (v := (T p.toNat 3)) hL.t37 (by omega) ((apM_ne (by omega) (by omega)).trans ((apM_ne (by omega) (by omega)).trans hq3)) (fun g99 => ?_)
          refine V_icmp_eq (pc := 100) dX11_times_100 (tgt := 130) rfl (fun h100 => ?_) (fun h100 => ?_)
          · skip
            refine V_ld (pc := 130) dX11_times_130 (v := vr 30) rfl rfl ?_
            refine V_bipush (pc := 131) dX11_times_131 (by unfold I32; omega) (by decide) ?_
            refine V_callV (pc := 133) dX11_times_133 (F' := 0) (As := [vi 125]) (st := []) cw_RX11_203 rfl rfl hL.t30 (by decide) (Nat.le_of_ble_eq_true rfl) (by omega) (r_wr1  (apM 30 22 44 (apM 30 22 44 m [123]) (numS (T p.toNat 3))) 125   (by first | assumption | omega) (by (try simp only [apM_sz, List.length_cons, List.length_nil, numS_len]); unfold qLen at hr; omega)) ?_
            rintro _ _ ⟨rfl, rfl⟩ ok133 le133
            refine V_ld (pc := 136) dX11_times_136 (v := vr 30) rfl rfl ?_
            refine V_getRv (pc := 137) dX11_times_137 (o' := 39) fw_RX11_36 rfl hL.t30 hL.r30_14 ?_
            refine V_ld (pc := 140) dX11_times_140 (v := vi p) rfl rfl ?_
            refine V_ialdv (pc := 141) dX11_times_141 (v := (T p.toNat 5)) hL.t39 (by omega) ((apM_ne (by omega) (by omega)).trans ((apM_ne (by omega) (by omega)).trans ((apM_ne (by omega) (by omega)).trans hq5))) (fun g141 => ?_)
            refine V_if_ne (pc := 142) dX11_times_142 (tgt := 151) rfl (fun h142 => ?_) (fun h142 => ?_)
            · skip
              refine V_retv (pc := 151) dX11_times_151 trivial ?_
              first
                | (exfalso; omega)
                | ((repeat rw [apM_app])
                   exact congrArg (apM 30 22 44 m) (by
                     unfold qS
                     repeat (first | rw [if_pos (by omega)] | rw [if_neg (by omega)])
                     first | done | rfl | simp only [List.append_assoc, List.cons_append, List.nil_append, List.append_nil]))
            · skip
              refine V_ld (pc := 145) dX11_times_145 (v := vr 30) rfl rfl ?_
              refine V_bipush (pc := 146) dX11_times_146 (by unfold I32; omega) (by decide) ?_
              refine V_callV (pc := 148) dX11_times_148 (F' := 0) (As := [vi 63]) (st := []) cw_RX11_203 rfl rfl hL.t30 (by decide) (Nat.le_of_ble_eq_true rfl) (by omega) (r_wr1  (apM 30 22 44 (apM 30 22 44 (apM 30 22 44 m [123]) (numS (T p.toNat 3))) [125]) 63   (by first | assumption | omega) (by (try simp only [apM_sz, List.length_cons, List.length_nil, numS_len]); unfold qLen at hr; omega)) ?_
              rintro _ _ ⟨rfl, rfl⟩ ok148 le148
              refine V_retv (pc := 151) dX11_times_151 trivial ?_
              first
                | (exfalso; omega)
                | ((repeat rw [apM_app])
                   exact congrArg (apM 30 22 44 m) (by
                     unfold qS
                     repeat (first | rw [if_pos (by omega)] | rw [if_neg (by omega)])
                     first | done | rfl | simp only [List.append_assoc, List.cons_append, List.nil_append, List.append_nil]))
          · skip
            refine V_ld (pc := 103) dX11_times_103 (v := vr 30) rfl rfl ?_
            refine V_bipush (pc := 104) dX11_times_104 (by unfold I32; omega) (by decide) ?_
            refine V_callV (pc := 106) dX11_times_106 (F' := 0) (As := [vi 44]) (st := []) cw_RX11_203 rfl rfl hL.t30 (by decide) (Nat.le_of_ble_eq_true rfl) (by omega) (r_wr1  (apM 30 22 44 (apM 30 22 44 m [123]) (numS (T p.toNat 3))) 44   (by first | assumption | omega) (by (try simp only [apM_sz, List.length_cons, List.length_nil, numS_len]); unfold qLen at hr; omega)) ?_
            rintro _ _ ⟨rfl, rfl⟩ ok106 le106
            refine V_ld (pc := 109) dX11_times_109 (v := vr 30) rfl rfl ?_
            refine V_getRv (pc := 110) dX11_times_110 (o' := 38) fw_RX11_33 rfl hL.t30 hL.r30_13 ?_
            refine V_ld (pc := 113) dX11_times_113 (v := vi p) rfl rfl ?_
            refine V_ialdv (pc := 114) dX11_times_114 (v := (T p.toNat 4)) hL.t38 (by omega) ((apM_ne (by omega) (by omega)).trans ((apM_ne (by omega) (by omega)).trans ((apM_ne (by omega) (by omega)).trans hq4))) (fun g114 => ?_)
            refine V_bipush (pc := 115) dX11_times_115 (by unfold I32; omega) (by decide) ?_
            refine V_icmp_eq (pc := 117) dX11_times_117 (tgt := 130) rfl (fun h117 => ?_) (fun h117 => ?_)
            · skip
              refine V_ld (pc := 130) dX11_times_130 (v := vr 30) rfl rfl ?_
              refine V_bipush (pc := 131) dX11_times_131 (by unfold I32; omega) (by decide) ?_
              refine V_callV (pc := 133) dX11_times_133 (F' := 0) (As := [vi 125]) (st := []) cw_RX11_203 rfl rfl hL.t30 (by decide) (Nat.le_of_ble_eq_true rfl) (by omega) (r_wr1  (apM 30 22 44 (apM 30 22 44 (apM 30 22 44 m [123]) (numS (T p.toNat 3))) [44]) 125   (by first | assumption | omega) (by (try simp only [apM_sz, List.length_cons, List.length_nil, numS_len]); unfold qLen at hr; omega)) ?_
              rintro _ _ ⟨rfl, rfl⟩ ok133 le133
              refine V_ld (pc := 136) dX11_times_136 (v := vr 30) rfl rfl ?_
              refine V_getRv (pc := 137) dX11_times_137 (o' := 39) fw_RX11_36 rfl hL.t30 hL.r30_14 ?_
              refine V_ld (pc := 140) dX11_times_140 (v := vi p) rfl rfl ?_
              refine V_ialdv (pc := 141) dX11_times_141 (v := (T p.toNat 5)) hL.t39 (by omega) ((apM_ne (by omega) (by omega)).trans ((apM_ne (by omega) (by omega)).trans ((apM_ne (by omega) (by omega)).trans ((apM_ne (by omega) (by omega)).trans hq5)))) (fun g141 => ?_)
              refine V_if_ne (pc := 142) dX11_times_142 (tgt := 151) rfl (fun h142 => ?_) (fun h142 => ?_)
              · skip
                refine V_retv (pc := 151) dX11_times_151 trivial ?_
                first
                  | (exfalso; omega)
                  | ((repeat rw [apM_app])
                     exact congrArg (apM 30 22 44 m) (by
                       unfold qS
                       repeat (first | rw [if_pos (by omega)] | rw [if_neg (by omega)])
                       first | done | rfl | simp only [List.append_assoc, List.cons_append, List.nil_append, List.append_nil]))
              · skip
                refine V_ld (pc := 145) dX11_times_145 (v := vr 30) rfl rfl ?_
                refine V_bipush (pc := 146) dX11_times_146 (by unfold I32; omega) (by decide) ?_
                refine V_callV (pc := 148) dX11_times_148 (F' := 0) (As := [vi 63]) (st := []) cw_RX11_203 rfl rfl hL.t30 (by decide) (Nat.le_of_ble_eq_true rfl) (by omega) (r_wr1  (apM 30 22 44 (apM 30 22 44 (apM 30 22 44 (apM 30 22 44 m [123]) (numS (T p.toNat 3))) [44]) [125]) 63   (by first | assumption | omega) (by (try simp only [apM_sz, List.length_cons, List.length_nil, numS_len]); unfold qLen at hr; omega)) ?_
                rintro _ _ ⟨rfl, rfl⟩ ok148 le148
                refine V_retv (pc := 151) dX11_times_151 trivial ?_
                first
                  | (exfalso; omega)
                  | ((repeat rw [apM_app])
                     exact congrArg (apM 30 22 44 m) (by
                       unfold qS
                       repeat (first | rw [if_pos (by omega)] | rw [if_neg (by omega)])
                       first | done | rfl | simp only [List.append_assoc, List.cons_append, List.nil_append, List.append_nil]))
            · skip
              refine V_ld (pc := 120) dX11_times_120 (v := vr 30) rfl rfl ?_
              refine V_ld (pc := 121) dX11_times_121 (v := vr 30) rfl rfl ?_
              refine V_getRv (pc := 122) dX11_times_122 (o' := 38) fw_RX11_33 rfl hL.t30 hL.r30_13 ?_
              refine V_ld (pc := 125) dX11_times_125 (v := vi p) rfl rfl ?_
              refine V_ialdv (pc := 126) dX11_times_126 (v := (T p.toNat 4)) hL.t38 (by omega) ((apM_ne (by omega) (by omega)).trans ((apM_ne (by omega) (by omega)).trans ((apM_ne (by omega) (by omega)).trans hq4))) (fun g126 => ?_)
              refine V_callV (pc := 127) dX11_times_127 (F' := 1) (As := [vi (T p.toNat 4)]) (st := []) cw_RX11_213 rfl rfl hL.t30 (by decide) (Nat.le_of_ble_eq_true rfl) (by omega) (r_wnum  (apM 30 22 44 (apM 30 22 44 (apM 30 22 44 m [123]) (numS (T p.toNat 3))) [44]) (T p.toNat 4)   (by first | assumption | omega) (by omega) (by (try simp only [apM_sz, List.length_cons, List.length_nil, numS_len]); unfold qLen at hr; omega)) ?_
              rintro _ _ ⟨rfl, rfl⟩ ok127 le127
              refine V_ld (pc := 130) dX11_times_130 (v := vr 30) rfl rfl ?_
              refine V_bipush (pc := 131) dX11_times_131 (by unfold I32; omega) (by decide) ?_
              refine V_callV (pc := 133) dX11_times_133 (F' := 0) (As := [vi 125]) (st := []) cw_RX11_203 rfl rfl hL.t30 (by decide) (Nat.le_of_ble_eq_true rfl) (by omega) (r_wr1  (apM 30 22 44 (apM 30 22 44 (apM 30 22 44 (apM 30 22 44 m [123]) (numS (T p.toNat 3))) [44]) (numS (T p.toNat 4))) 125   (by first | assumption | omega) (by (try simp only [apM_sz, List.length_cons, List.length_nil, numS_len]); unfold qLen at hr; omega)) ?_
              rintro _ _ ⟨rfl, rfl⟩ ok133 le133
              refine V_ld (pc := 136) dX11_times_136 (v := vr 30) rfl rfl ?_
              refine V_getRv (pc := 137) dX11_times_137 (o' := 39) fw_RX11_36 rfl hL.t30 hL.r30_14 ?_
              refine V_ld (pc := 140) dX11_times_140 (v := vi p) rfl rfl ?_
              refine V_ialdv (pc := 141) dX11_times_141 (v := (T p.toNat 5)) hL.t39 (by omega) ((apM_ne (by omega) (by omega)).trans ((apM_ne (by omega) (by omega)).trans ((apM_ne (by omega) (by omega)).trans ((apM_ne (by omega) (by omega)).trans ((apM_ne (by omega) (by omega)).trans hq5))))) (fun g141 => ?_)
              refine V_if_ne (pc := 142) dX11_times_142 (tgt := 151) rfl (fun h142 => ?_) (fun h142 => ?_)
              · skip
                refine V_retv (pc := 151) dX11_times_151 trivial ?_
                first
                  | (exfalso; omega)
                  | ((repeat rw [apM_app])
                     exact congrArg (apM 30 22 44 m) (by
                       unfold qS
                       repeat (first | rw [if_pos (by omega)] | rw [if_neg (by omega)])
                       first | done | rfl | simp only [List.append_assoc, List.cons_append, List.nil_append, List.append_nil]))
              · skip
                refine V_ld (pc := 145) dX11_times_145 (v := vr 30) rfl rfl ?_
                refine V_bipush (pc := 146) dX11_times_146 (by unfold I32; omega) (by decide) ?_
                refine V_callV (pc := 148) dX11_times_148 (F' := 0) (As := [vi 63]) (st := []) cw_RX11_203 rfl rfl hL.t30 (by decide) (Nat.le_of_ble_eq_true rfl) (by omega) (r_wr1  (apM 30 22 44 (apM 30 22 44 (apM 30 22 44 (apM 30 22 44 (apM 30 22 44 m [123]) (numS (T p.toNat 3))) [44]) (numS (T p.toNat 4))) [125]) 63   (by first | assumption | omega) (by (try simp only [apM_sz, List.length_cons, List.length_nil, numS_len]); unfold qLen at hr; omega)) ?_
                rintro _ _ ⟨rfl, rfl⟩ ok148 le148
                refine V_retv (pc := 151) dX11_times_151 trivial ?_
                first
                  | (exfalso; omega)
                  | ((repeat rw [apM_app])
                     exact congrArg (apM 30 22 44 m) (by
                       unfold qS
                       repeat (first | rw [if_pos (by omega)] | rw [if_neg (by omega)])
                       first | done | rfl | simp only [List.append_assoc, List.cons_append, List.nil_append, List.append_nil]))
        · skip
          refine V_ld (pc := 63) dX11_times_63 (v := vr 30) rfl rfl ?_
          refine V_bipush (pc := 64) dX11_times_64 (by unfold I32; omega) (by decide) ?_
          refine V_callV (pc := 66) dX11_times_66 (F' := 0) (As := [vi 63]) (st := []) cw_RX11_203 rfl rfl hL.t30 (by decide) (Nat.le_of_ble_eq_true rfl) (by omega) (r_wr1  m 63   (by first | assumption | omega) (by (try simp only [apM_sz, List.length_cons, List.length_nil, numS_len]); unfold qLen at hr; omega)) ?_
          rintro _ _ ⟨rfl, rfl⟩ ok66 le66
          refine V_goto (pc := 69) dX11_times_69 (tgt := 136) rfl ?_
          refine V_ld (pc := 136) dX11_times_136 (v := vr 30) rfl rfl ?_
          refine V_getRv (pc := 137) dX11_times_137 (o' := 39) fw_RX11_36 rfl hL.t30 hL.r30_14 ?_
          refine V_ld (pc := 140) dX11_times_140 (v := vi p) rfl rfl ?_
          refine V_ialdv (pc := 141) dX11_times_141 (v := (T p.toNat 5)) hL.t39 (by omega) ((apM_ne (by omega) (by omega)).trans hq5) (fun g141 => ?_)
          refine V_if_ne (pc := 142) dX11_times_142 (tgt := 151) rfl (fun h142 => ?_) (fun h142 => ?_)
          · skip
            refine V_retv (pc := 151) dX11_times_151 trivial ?_
            first
              | (exfalso; omega)
              | ((repeat rw [apM_app])
                 exact congrArg (apM 30 22 44 m) (by
                   unfold qS
                   repeat (first | rw [if_pos (by omega)] | rw [if_neg (by omega)])
                   first | done | rfl | simp only [List.append_assoc, List.cons_append, List.nil_append, List.append_nil]))
          · skip
            refine V_ld (pc := 145) dX11_times_145 (v := vr 30) rfl rfl ?_
            refine V_bipush (pc := 146) dX11_times_146 (by unfold I32; omega) (by decide) ?_
            refine V_callV (pc := 148) dX11_times_148 (F' := 0) (As := [vi 63]) (st := []) cw_RX11_203 rfl rfl hL.t30 (by decide) (Nat.le_of_ble_eq_true rfl) (by omega) (r_wr1  (apM 30 22 44 m [63]) 63   (by first | assumption | omega) (by (try simp only [apM_sz, List.length_cons, List.length_nil, numS_len]); unfold qLen at hr; omega)) ?_
            rintro _ _ ⟨rfl, rfl⟩ ok148 le148
            refine V_retv (pc := 151) dX11_times_151 trivial ?_
            first
              | (exfalso; omega)
              | ((repeat rw [apM_app])
                 exact congrArg (apM 30 22 44 m) (by
                   unfold qS
                   repeat (first | rw [if_pos (by omega)] | rw [if_neg (by omega)])
                   first | done | rfl | simp only [List.append_assoc, List.cons_append, List.nil_append, List.append_nil]))
    · skip
      refine V_ld (pc := 21) dX11_times_21 (v := vr 30) rfl rfl ?_
      refine V_ld (pc := 22) dX11_times_22 (v := vr 30) rfl rfl ?_
      refine V_getRv (pc := 23) dX11_times_23 (o' := 37) fw_RX11_30 rfl hL.t30 hL.r30_12 ?_
      refine V_ld (pc := 26) dX11_times_26 (v := vi p) rfl rfl ?_
      refine V_ialdv (pc := 27) dX11_times_27 (v := (T p.toNat 3)) hL.t37 (by omega) hq3 (fun g27 => ?_)
      refine V_if_ne (pc := 28) dX11_times_28 (tgt := 36) rfl (fun h28 => ?_) (fun h28 => ?_)
      · skip
        refine V_bipush (pc := 36) dX11_times_36 (by unfold I32; omega) (by decide) ?_
        refine V_callV (pc := 38) dX11_times_38 (F' := 0) (As := [vi 43]) (st := []) cw_RX11_203 rfl rfl hL.t30 (by decide) (Nat.le_of_ble_eq_true rfl) (by omega) (r_wr1  m 43   (by first | assumption | omega) (by (try simp only [apM_sz, List.length_cons, List.length_nil, numS_len]); unfold qLen at hr; omega)) ?_
        rintro _ _ ⟨rfl, rfl⟩ ok38 le38
        refine V_goto (pc := 41) dX11_times_41 (tgt := 136) rfl ?_
        refine V_ld (pc := 136) dX11_times_136 (v := vr 30) rfl rfl ?_
        refine V_getRv (pc := 137) dX11_times_137 (o' := 39) fw_RX11_36 rfl hL.t30 hL.r30_14 ?_
        refine V_ld (pc := 140) dX11_times_140 (v := vi p) rfl rfl ?_
        refine V_ialdv (pc := 141) dX11_times_141 (v := (T p.toNat 5)) hL.t39 (by omega) ((apM_ne (by omega) (by omega)).trans hq5) (fun g141 => ?_)
        refine V_if_ne (pc := 142) dX11_times_142 (tgt := 151) rfl (fun h142 => ?_) (fun h142 => ?_)
        · skip
          refine V_retv (pc := 151) dX11_times_151 trivial ?_
          first
            | (exfalso; omega)
            | ((repeat rw [apM_app])
               exact congrArg (apM 30 22 44 m) (by
                 unfold qS
                 repeat (first | rw [if_pos (by omega)] | rw [if_neg (by omega)])
                 first | done | rfl | simp only [List.append_assoc, List.cons_append, List.nil_append, List.append_nil]))
        · skip
          refine V_ld (pc := 145) dX11_times_145 (v := vr 30) rfl rfl ?_
          refine V_bipush (pc := 146) dX11_times_146 (by unfold I32; omega) (by decide) ?_
          refine V_callV (pc := 148) dX11_times_148 (F' := 0) (As := [vi 63]) (st := []) cw_RX11_203 rfl rfl hL.t30 (by decide) (Nat.le_of_ble_eq_true rfl) (by omega) (r_wr1  (apM 30 22 44 m [43]) 63   (by first | assumption | omega) (by (try simp only [apM_sz, List.length_cons, List.length_nil, numS_len]); unfold qLen at hr; omega)) ?_
          rintro _ _ ⟨rfl, rfl⟩ ok148 le148
          refine V_retv (pc := 151) dX11_times_151 trivial ?_
          first
            | (exfalso; omega)
            | ((repeat rw [apM_app])
               exact congrArg (apM 30 22 44 m) (by
                 unfold qS
                 repeat (first | rw [if_pos (by omega)] | rw [if_neg (by omega)])
                 first | done | rfl | simp only [List.append_assoc, List.cons_append, List.nil_append, List.append_nil]))
      · skip
        refine V_bipush (pc := 31) dX11_times_31 (by unfold I32; omega) (by decide) ?_
        refine V_goto (pc := 33) dX11_times_33 (tgt := 38) rfl ?_
        refine V_callV (pc := 38) dX11_times_38 (F' := 0) (As := [vi 42]) (st := []) cw_RX11_203 rfl rfl hL.t30 (by decide) (Nat.le_of_ble_eq_true rfl) (by omega) (r_wr1  m 42   (by first | assumption | omega) (by (try simp only [apM_sz, List.length_cons, List.length_nil, numS_len]); unfold qLen at hr; omega)) ?_
        rintro _ _ ⟨rfl, rfl⟩ ok38 le38
        refine V_goto (pc := 41) dX11_times_41 (tgt := 136) rfl ?_
        refine V_ld (pc := 136) dX11_times_136 (v := vr 30) rfl rfl ?_
        refine V_getRv (pc := 137) dX11_times_137 (o' := 39) fw_RX11_36 rfl hL.t30 hL.r30_14 ?_
        refine V_ld (pc := 140) dX11_times_140 (v := vi p) rfl rfl ?_
        refine V_ialdv (pc := 141) dX11_times_141 (v := (T p.toNat 5)) hL.t39 (by omega) ((apM_ne (by omega) (by omega)).trans hq5) (fun g141 => ?_)
        refine V_if_ne (pc := 142) dX11_times_142 (tgt := 151) rfl (fun h142 => ?_) (fun h142 => ?_)
        · skip
          refine V_retv (pc := 151) dX11_times_151 trivial ?_
          first
            | (exfalso; omega)
            | ((repeat rw [apM_app])
               exact congrArg (apM 30 22 44 m) (by
                 unfold qS
                 repeat (first | rw [if_pos (by omega)] | rw [if_neg (by omega)])
                 first | done | rfl | simp only [List.append_assoc, List.cons_append, List.nil_append, List.append_nil]))
        · skip
          refine V_ld (pc := 145) dX11_times_145 (v := vr 30) rfl rfl ?_
          refine V_bipush (pc := 146) dX11_times_146 (by unfold I32; omega) (by decide) ?_
          refine V_callV (pc := 148) dX11_times_148 (F' := 0) (As := [vi 63]) (st := []) cw_RX11_203 rfl rfl hL.t30 (by decide) (Nat.le_of_ble_eq_true rfl) (by omega) (r_wr1  (apM 30 22 44 m [42]) 63   (by first | assumption | omega) (by (try simp only [apM_sz, List.length_cons, List.length_nil, numS_len]); unfold qLen at hr; omega)) ?_
          rintro _ _ ⟨rfl, rfl⟩ ok148 le148
          refine V_retv (pc := 151) dX11_times_151 trivial ?_
          first
            | (exfalso; omega)
            | ((repeat rw [apM_app])
               exact congrArg (apM 30 22 44 m) (by
                 unfold qS
                 repeat (first | rw [if_pos (by omega)] | rw [if_neg (by omega)])
                 first | done | rfl | simp only [List.append_assoc, List.cons_append, List.nil_append, List.append_nil]))
