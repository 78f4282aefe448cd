/-! measure() of the reference, over the rows that there are -/
def numR2 (m : Mem) (col : Int) : Nat → Int := fun r => if r < 32 then mI m 31 (2 * (r : Int) + col).toNat else 0
theorem numR2_bd {m : Mem} {col : Int} (hc : 0 ≤ col ∧ col < 2) (h : ∀ k, k < 64 → -999 ≤ mI m 31 k ∧ mI m 31 k ≤ 1000) (r : Nat) : -999 ≤ numR2 m col r ∧ numR2 m col r ≤ 1000 := by
  unfold numR2
  split
  · exact h _ (by omega)
  · omega

set_option maxHeartbeats 4000000 in
theorem L_measure2 {F : Nat} {m0 m : Mem} {post : Option AV → Mem → Prop} {n : Nat} {j e col w : Int} (hL : Lay (mT m) (mR m)) (hM : MatR m) (hj : 0 ≤ j ∧ j < mI m 31 3336) (hn : (n : Int) = mI m 31 64) (hz : 0 ≤ mI m 31 64 ∧ mI m 31 64 ≤ 32) (hcol : 0 ≤ col ∧ col < 2) (hnum : ∀ r : Nat, -999 ≤ numR2 m col r ∧ numR2 m col r ≤ 1000) (kx : V μX11_measure (F + 2) m0 post 179 [(17, vi ((n : Nat) : Int)), (15, vl ((foldR (fun r_ : Nat => labR m j (r_ : Int)) (numR2 m col) e n).2.2.2.2.2.2)), (13, vl ((foldR (fun r_ : Nat => labR m j (r_ : Int)) (numR2 m col) e n).2.2.2.2.2.1)), (11, vl ((foldR (fun r_ : Nat => labR m j (r_ : Int)) (numR2 m col) e n).2.2.2.2.1)), (9, vl ((foldR (fun r_ : Nat => labR m j (r_ : Int)) (numR2 m col) e n).2.2.2.1)), (7, vl ((foldR (fun r_ : Nat => labR m j (r_ : Int)) (numR2 m col) e n).2.2.1)), (6, vi ((foldR (fun r_ : Nat => labR m j (r_ : Int)) (numR2 m col) e n).2.1)), (5, vi ((foldR (fun r_ : Nat => labR m j (r_ : Int)) (numR2 m col) e n).1)), (0, vr 30), (1, vi j), (2, vi e), (3, vi col), (4, vi w)] [] m) : ∀ (dd i : Nat), dd + i = n → V μX11_measure (F + 2) m0 post 46 [(17, vi ((i : Nat) : Int)), (15, vl ((foldR (fun r_ : Nat => labR m j (r_ : Int)) (numR2 m col) e i).2.2.2.2.2.2)), (13, vl ((foldR (fun r_ : Nat => labR m j (r_ : Int)) (numR2 m col) e i).2.2.2.2.2.1)), (11, vl ((foldR (fun r_ : Nat => labR m j (r_ : Int)) (numR2 m col) e i).2.2.2.2.1)), (9, vl ((foldR (fun r_ : Nat => labR m j (r_ : Int)) (numR2 m col) e i).2.2.2.1)), (7, vl ((foldR (fun r_ : Nat => labR m j (r_ : Int)) (numR2 m col) e i).2.2.1)), (6, vi ((foldR (fun r_ : Nat => labR m j (r_ : Int)) (numR2 m col) e i).2.1)), (5, vi ((foldR (fun r_ : Nat => labR m j (r_ : Int)) (numR2 m col) e i).1)), (0, vr 30), (1, vi j), (2, vi e), (3, vi col), (4, vi w)] [] m := by
  intro dd
  induction dd with
  | zero =>
    intro i hi
    obtain rfl : n = i := by omega
    refine V_ld (pc := 46) dX11_measure_46 (v := vi ((n : Nat) : Int)) rfl rfl ?_
    refine V_ld (pc := 48) dX11_measure_48 (v := vr 30) rfl rfl ?_
    refine V_callV (pc := 49) dX11_measure_49 (F' := 0) (As := []) (st := [vi ((n : Nat) : Int)]) cw_RX11_97 rfl rfl hL.t30 (by decide) (Nat.le_of_ble_eq_true rfl) (by omega) (r_many  m    (by first | assumption | omega)) ?_
    rintro _ _ ⟨x49, rfl, hx49, rfl⟩ ok49 le49
    obtain rfl : x49 = mI m 31 64 := hx49.trans rfl
    refine V_icmp_ge (pc := 52) dX11_measure_52 (tgt := 179) rfl (fun h52 => ?_) (fun h52 => ?_)
    · skip
      first | exact kx | (skip; exact kx) | (exfalso; omega)
    · skip
      exfalso; omega
  | succ dd ih =>
    intro i hi
    have hn_ := hnum i
    have hni : numR2 m col i = mI m 31 (2 * (i : Int) + col).toNat := if_pos (by omega)
    rw [hni] at hn_
    refine V_ld (pc := 46) dX11_measure_46 (v := vi ((i : Nat) : Int)) rfl rfl ?_
    refine V_ld (pc := 48) dX11_measure_48 (v := vr 30) rfl rfl ?_
    refine V_callV (pc := 49) dX11_measure_49 (F' := 0) (As := []) (st := [vi ((i : Nat) : Int)]) cw_RX11_97 rfl rfl hL.t30 (by decide) (Nat.le_of_ble_eq_true rfl) (by omega) (r_many  m    (by first | assumption | omega)) ?_
    rintro _ _ ⟨x49, rfl, hx49, rfl⟩ ok49 le49
    obtain rfl : x49 = mI m 31 64 := hx49.trans rfl
    refine V_icmp_ge (pc := 52) dX11_measure_52 (tgt := 179) rfl (fun h52 => ?_) (fun h52 => ?_)
    · skip
      exfalso; omega
    · skip
      refine V_ld (pc := 55) dX11_measure_55 (v := vr 30) rfl rfl ?_
      refine V_ld (pc := 56) dX11_measure_56 (v := vi j) rfl rfl ?_
      refine V_ld (pc := 57) dX11_measure_57 (v := vi ((i : Nat) : Int)) rfl rfl ?_
      refine V_callV (pc := 59) dX11_measure_59 (F' := 1) (As := [vi j, vi ((i : Nat) : Int)]) (st := []) cw_RX11_374 rfl rfl hL.t30 (by decide) (Nat.le_of_ble_eq_true rfl) (by omega) (r_labelled  m j ((i : Nat) : Int)   (by first | assumption | omega) (by first | assumption | omega) hj (by first | assumption | omega)) ?_
      rintro _ _ ⟨x59, rfl, hx59, rfl⟩ ok59 le59
      refine V_st (pc := 62) dX11_measure_62 (ls' := [(18, vi x59), (17, vi ((i : Nat) : Int)), (15, vl ((foldR (fun r_ : Nat => labR m j (r_ : Int)) (numR2 m col) e i).2.2.2.2.2.2)), (13, vl ((foldR (fun r_ : Nat => labR m j (r_ : Int)) (numR2 m col) e i).2.2.2.2.2.1)), (11, vl ((foldR (fun r_ : Nat => labR m j (r_ : Int)) (numR2 m col) e i).2.2.2.2.1)), (9, vl ((foldR (fun r_ : Nat => labR m j (r_ : Int)) (numR2 m col) e i).2.2.2.1)), (7, vl ((foldR (fun r_ : Nat => labR m j (r_ : Int)) (numR2 m col) e i).2.2.1)), (6, vi ((foldR (fun r_ : Nat => labR m j (r_ : Int)) (numR2 m col) e i).2.1)), (5, vi ((foldR (fun r_ : Nat => labR m j (r_ : Int)) (numR2 m col) e i).1)), (0, vr 30), (1, vi j), (2, vi e), (3, vi col), (4, vi w)]) rfl (Nat.le_of_ble_eq_true rfl) rfl ?_
      refine V_ld (pc := 64) dX11_measure_64 (v := vr 30) rfl rfl ?_
      refine V_getRv (pc := 65) dX11_measure_65 (o' := 31) fw_RX11_9 rfl hL.t30 hL.r30_0 ?_
      refine V_iconst (pc := 68) dX11_measure_68 (by unfold I32; omega) ?_
      refine V_ld (pc := 69) dX11_measure_69 (v := vi ((i : Nat) : Int)) rfl rfl ?_
      refine V_imul (pc := 71) dX11_measure_71 (by unfold I32 at *; omega) ?_
      refine V_ld (pc := 72) dX11_measure_72 (v := vi col) rfl rfl ?_
      refine V_iadd (pc := 73) dX11_measure_73 (by unfold I32 at *; omega) ?_
      refine V_ialdv (pc := 74) dX11_measure_74 (v := mI m 31 (((2 * ((i : Nat) : Int)) + col).toNat)) hL.t31 (by omega) rfl (fun g74 => ?_)
      refine V_i2l (pc := 75) dX11_measure_75 ?_
      refine V_st (pc := 76) dX11_measure_76 (ls' := [(19, vl (mI m 31 (((2 * ((i : Nat) : Int)) + col).toNat))), (18, vi x59), (17, vi ((i : Nat) : Int)), (15, vl ((foldR (fun r_ : Nat => labR m j (r_ : Int)) (numR2 m col) e i).2.2.2.2.2.2)), (13, vl ((foldR (fun r_ : Nat => labR m j (r_ : Int)) (numR2 m col) e i).2.2.2.2.2.1)), (11, vl ((foldR (fun r_ : Nat => labR m j (r_ : Int)) (numR2 m col) e i).2.2.2.2.1)), (9, vl ((foldR (fun r_ : Nat => labR m j (r_ : Int)) (numR2 m col) e i).2.2.2.1)), (7, vl ((foldR (fun r_ : Nat => labR m j (r_ : Int)) (numR2 m col) e i).2.2.1)), (6, vi ((foldR (fun r_ : Nat => labR m j (r_ : Int)) (numR2 m col) e i).2.1)), (5, vi ((foldR (fun r_ : Nat => labR m j (r_ : Int)) (numR2 m col) e i).1)), (0, vr 30), (1, vi j), (2, vi e), (3, vi col), (4, vi w)]) rfl (Nat.le_of_ble_eq_true rfl) rfl ?_
      refine V_ld (pc := 78) dX11_measure_78 (v := vi x59) rfl rfl ?_
      refine V_if_lt (pc := 80) dX11_measure_80 (tgt := 173) rfl (fun h80 => ?_) (fun h80 => ?_)
      · skip
        refine V_iinc (pc := 173) dX11_measure_173 (x := ((i : Nat) : Int)) (ls' := [(17, vi (((i : Nat) : Int) + 1)), (19, vl (mI m 31 (((2 * ((i : Nat) : Int)) + col).toNat))), (18, vi x59), (15, vl ((foldR (fun r_ : Nat => labR m j (r_ : Int)) (numR2 m col) e i).2.2.2.2.2.2)), (13, vl ((foldR (fun r_ : Nat => labR m j (r_ : Int)) (numR2 m col) e i).2.2.2.2.2.1)), (11, vl ((foldR (fun r_ : Nat => labR m j (r_ : Int)) (numR2 m col) e i).2.2.2.2.1)), (9, vl ((foldR (fun r_ : Nat => labR m j (r_ : Int)) (numR2 m col) e i).2.2.2.1)), (7, vl ((foldR (fun r_ : Nat => labR m j (r_ : Int)) (numR2 m col) e i).2.2.1)), (6, vi ((foldR (fun r_ : Nat => labR m j (r_ : Int)) (numR2 m col) e i).2.1)), (5, vi ((foldR (fun r_ : Nat => labR m j (r_ : Int)) (numR2 m col) e i).1)), (0, vr 30), (1, vi j), (2, vi e), (3, vi col), (4, vi w)]) rfl (by unfold I32 at *; omega) (Nat.le_of_ble_eq_true rfl) rfl ?_
        refine V_goto (pc := 176) dX11_measure_176 (tgt := 46) rfl ?_
        try unfold cmpI at *
        have ela : (labR m j (i : Int)) = x59 := by omega
        have enu : (mI m 31 (2 * (i : Int) + col).toNat) = mI m 31 (((2 * ((i : Nat) : Int)) + col).toNat) := by omega
        have e_ : foldR (fun r_ : Nat => labR m j (r_ : Int)) (numR2 m col) e (i + 1) = ((foldR (fun r_ : Nat => labR m j (r_ : Int)) (numR2 m col) e i).1, (foldR (fun r_ : Nat => labR m j (r_ : Int)) (numR2 m col) e i).2.1, (foldR (fun r_ : Nat => labR m j (r_ : Int)) (numR2 m col) e i).2.2.1, (foldR (fun r_ : Nat => labR m j (r_ : Int)) (numR2 m col) e i).2.2.2.1, (foldR (fun r_ : Nat => labR m j (r_ : Int)) (numR2 m col) e i).2.2.2.2.1, (foldR (fun r_ : Nat => labR m j (r_ : Int)) (numR2 m col) e i).2.2.2.2.2.1, (foldR (fun r_ : Nat => labR m j (r_ : Int)) (numR2 m col) e i).2.2.2.2.2.2) := by
          show stepR (labR m j (i : Int)) (numR2 m col i) e (foldR (fun r_ : Nat => labR m j (r_ : Int)) (numR2 m col) e i) = _
          rw [hni]
          rw [ela, enu]
          unfold stepR
          first
            | (exfalso; omega)
            | (rw [if_neg (by omega)])
            | (rw [if_pos (by omega), if_pos (by omega)])
            | (rw [if_pos (by omega), if_neg (by omega)]; simp only [Prod.mk.injEq]; repeat' apply And.intro
               all_goals (first | trivial | omega))
        have h_ := ih (i + 1) (by omega)
        rw [e_] at h_
        refine V_ls (ls' := [(17, vi (((i : Nat) : Int) + 1)), (15, vl ((foldR (fun r_ : Nat => labR m j (r_ : Int)) (numR2 m col) e i).2.2.2.2.2.2)), (13, vl ((foldR (fun r_ : Nat => labR m j (r_ : Int)) (numR2 m col) e i).2.2.2.2.2.1)), (11, vl ((foldR (fun r_ : Nat => labR m j (r_ : Int)) (numR2 m col) e i).2.2.2.2.1)), (9, vl ((foldR (fun r_ : Nat => labR m j (r_ : Int)) (numR2 m col) e i).2.2.2.1)), (7, vl ((foldR (fun r_ : Nat => labR m j (r_ : Int)) (numR2 m col) e i).2.2.1)), (6, vi ((foldR (fun r_ : Nat => labR m j (r_ : Int)) (numR2 m col) e i).2.1)), (5, vi ((foldR (fun r_ : Nat => labR m j (r_ : Int)) (numR2 m col) e i).1)), (0, vr 30), (1, vi j), (2, vi e), (3, vi col), (4, vi w)]) (by intro q_ h_; simp only [List.mem_cons, List.not_mem_nil, or_false] at h_ ⊢; rcases h_ with rfl | rfl | rfl | rfl | rfl | rfl | rfl | rfl | rfl | rfl | rfl | rfl | rfl <;> simp) ?_
        exact h_
      · skip
        refine V_ld (pc := 83) dX11_measure_83 (v := vi e) rfl rfl ?_
        refine V_bipush (pc := 84) dX11_measure_84 (by unfold I32; omega) (by decide) ?_
        refine V_icmp_eq (pc := 86) dX11_measure_86 (tgt := 95) rfl (fun h86 => ?_) (fun h86 => ?_)
        · skip
          refine V_iinc (pc := 95) dX11_measure_95 (x := ((foldR (fun r_ : Nat => labR m j (r_ : Int)) (numR2 m col) e i).1)) (ls' := [(5, vi (((foldR (fun r_ : Nat => labR m j (r_ : Int)) (numR2 m col) e i).1) + 1)), (19, vl (mI m 31 (((2 * ((i : Nat) : Int)) + col).toNat))), (18, vi x59), (17, vi ((i : Nat) : Int)), (15, vl ((foldR (fun r_ : Nat => labR m j (r_ : Int)) (numR2 m col) e i).2.2.2.2.2.2)), (13, vl ((foldR (fun r_ : Nat => labR m j (r_ : Int)) (numR2 m col) e i).2.2.2.2.2.1)), (11, vl ((foldR (fun r_ : Nat => labR m j (r_ : Int)) (numR2 m col) e i).2.2.2.2.1)), (9, vl ((foldR (fun r_ : Nat => labR m j (r_ : Int)) (numR2 m col) e i).2.2.2.1)), (7, vl ((foldR (fun r_ : Nat => labR m j (r_ : Int)) (numR2 m col) e i).2.2.1)), (6, vi ((foldR (fun r_ : Nat => labR m j (r_ : Int)) (numR2 m col) e i).2.1)), (0, vr 30), (1, vi j), (2, vi e), (3, vi col), (4, vi w)]) rfl (by have hb := foldR_bd (L := e) (lab := (fun r_ : Nat => labR m j (r_ : Int))) hnum i; unfold I32; (try unfold I32 at *); omega) (Nat.le_of_ble_eq_true rfl) rfl ?_
          refine V_ld (pc := 98) dX11_measure_98 (v := vl (mI m 31 (((2 * ((i : Nat) : Int)) + col).toNat))) rfl rfl ?_
          refine V_ldc2 (pc := 100) dX11_measure_100 (x := 1000) kl_RX11_384 (by unfold I64; omega) rfl ?_
          refine V_lcmp (pc := 103) dX11_measure_103 ?_
          refine V_if_eq (pc := 104) dX11_measure_104 (tgt := 173) rfl (fun h104 => ?_) (fun h104 => ?_)
          · skip
            refine V_iinc (pc := 173) dX11_measure_173 (x := ((i : Nat) : Int)) (ls' := [(17, vi (((i : Nat) : Int) + 1)), (5, vi (((foldR (fun r_ : Nat => labR m j (r_ : Int)) (numR2 m col) e i).1) + 1)), (19, vl (mI m 31 (((2 * ((i : Nat) : Int)) + col).toNat))), (18, vi x59), (15, vl ((foldR (fun r_ : Nat => labR m j (r_ : Int)) (numR2 m col) e i).2.2.2.2.2.2)), (13, vl ((foldR (fun r_ : Nat => labR m j (r_ : Int)) (numR2 m col) e i).2.2.2.2.2.1)), (11, vl ((foldR (fun r_ : Nat => labR m j (r_ : Int)) (numR2 m col) e i).2.2.2.2.1)), (9, vl ((foldR (fun r_ : Nat => labR m j (r_ : Int)) (numR2 m col) e i).2.2.2.1)), (7, vl ((foldR (fun r_ : Nat => labR m j (r_ : Int)) (numR2 m col) e i).2.2.1)), (6, vi ((foldR (fun r_ : Nat => labR m j (r_ : Int)) (numR2 m col) e i).2.1)), (0, vr 30), (1, vi j), (2, vi e), (3, vi col), (4, vi w)]) rfl (by unfold I32 at *; omega) (Nat.le_of_ble_eq_true rfl) rfl ?_
            refine V_goto (pc := 176) dX11_measure_176 (tgt := 46) rfl ?_
            try unfold cmpI at *
            have ela : (labR m j (i : Int)) = x59 := by omega
            have enu : (mI m 31 (2 * (i : Int) + col).toNat) = mI m 31 (((2 * ((i : Nat) : Int)) + col).toNat) := by omega
            have e_ : foldR (fun r_ : Nat => labR m j (r_ : Int)) (numR2 m col) e (i + 1) = (((foldR (fun r_ : Nat => labR m j (r_ : Int)) (numR2 m col) e i).1) + 1, (foldR (fun r_ : Nat => labR m j (r_ : Int)) (numR2 m col) e i).2.1, (foldR (fun r_ : Nat => labR m j (r_ : Int)) (numR2 m col) e i).2.2.1, (foldR (fun r_ : Nat => labR m j (r_ : Int)) (numR2 m col) e i).2.2.2.1, (foldR (fun r_ : Nat => labR m j (r_ : Int)) (numR2 m col) e i).2.2.2.2.1, (foldR (fun r_ : Nat => labR m j (r_ : Int)) (numR2 m col) e i).2.2.2.2.2.1, (foldR (fun r_ : Nat => labR m j (r_ : Int)) (numR2 m col) e i).2.2.2.2.2.2) := by
              show stepR (labR m j (i : Int)) (numR2 m col i) e (foldR (fun r_ : Nat => labR m j (r_ : Int)) (numR2 m col) e i) = _
              rw [hni]
              rw [ela, enu]
              unfold stepR
              first
                | (exfalso; omega)
                | (rw [if_neg (by omega)])
                | (rw [if_pos (by omega), if_pos (by omega)])
                | (rw [if_pos (by omega), if_neg (by omega)]; simp only [Prod.mk.injEq]; repeat' apply And.intro
                   all_goals (first | trivial | omega))
            have h_ := ih (i + 1) (by omega)
            rw [e_] at h_
            refine V_ls (ls' := [(17, vi (((i : Nat) : Int) + 1)), (15, vl ((foldR (fun r_ : Nat => labR m j (r_ : Int)) (numR2 m col) e i).2.2.2.2.2.2)), (13, vl ((foldR (fun r_ : Nat => labR m j (r_ : Int)) (numR2 m col) e i).2.2.2.2.2.1)), (11, vl ((foldR (fun r_ : Nat => labR m j (r_ : Int)) (numR2 m col) e i).2.2.2.2.1)), (9, vl ((foldR (fun r_ : Nat => labR m j (r_ : Int)) (numR2 m col) e i).2.2.2.1)), (7, vl ((foldR (fun r_ : Nat => labR m j (r_ : Int)) (numR2 m col) e i).2.2.1)), (6, vi ((foldR (fun r_ : Nat => labR m j (r_ : Int)) (numR2 m col) e i).2.1)), (5, vi (((foldR (fun r_ : Nat => labR m j (r_ : Int)) (numR2 m col) e i).1) + 1)), (0, vr 30), (1, vi j), (2, vi e), (3, vi col), (4, vi w)]) (by intro q_ h_; simp only [List.mem_cons, List.not_mem_nil, or_false] at h_ ⊢; rcases h_ with rfl | rfl | rfl | rfl | rfl | rfl | rfl | rfl | rfl | rfl | rfl | rfl | rfl <;> simp) ?_
            exact h_
          · skip
            refine V_ld (pc := 107) dX11_measure_107 (v := vi ((foldR (fun r_ : Nat => labR m j (r_ : Int)) (numR2 m col) e i).2.1)) rfl rfl ?_
            refine V_if_ne (pc := 109) dX11_measure_109 (tgt := 117) rfl (fun h109 => ?_) (fun h109 => ?_)
            · skip
              refine V_ld (pc := 117) dX11_measure_117 (v := vl ((foldR (fun r_ : Nat => labR m j (r_ : Int)) (numR2 m col) e i).2.2.2.1)) rfl rfl ?_
              refine V_ld (pc := 119) dX11_measure_119 (v := vl (mI m 31 (((2 * ((i : Nat) : Int)) + col).toNat))) rfl rfl ?_
              refine V_callS (pc := 121) dX11_measure_121 (F' := 0) (As := [vl ((foldR (fun r_ : Nat => labR m j (r_ : Int)) (numR2 m col) e i).2.2.2.1), vl (mI m 31 (((2 * ((i : Nat) : Int)) + col).toNat))]) (st := []) cw_RX11_386 rfl rfl (Nat.le_of_ble_eq_true rfl) (by omega) (j_min_l  m ((foldR (fun r_ : Nat => labR m j (r_ : Int)) (numR2 m col) e i).2.2.2.1) (mI m 31 (((2 * ((i : Nat) : Int)) + col).toNat))   ) ?_
              rintro _ _ ⟨x121, rfl, hx121, rfl⟩ ok121 le121
              refine V_st (pc := 124) dX11_measure_124 (ls' := [(9, vl x121), (5, vi (((foldR (fun r_ : Nat => labR m j (r_ : Int)) (numR2 m col) e i).1) + 1)), (19, vl (mI m 31 (((2 * ((i : Nat) : Int)) + col).toNat))), (18, vi x59), (17, vi ((i : Nat) : Int)), (15, vl ((foldR (fun r_ : Nat => labR m j (r_ : Int)) (numR2 m col) e i).2.2.2.2.2.2)), (13, vl ((foldR (fun r_ : Nat => labR m j (r_ : Int)) (numR2 m col) e i).2.2.2.2.2.1)), (11, vl ((foldR (fun r_ : Nat => labR m j (r_ : Int)) (numR2 m col) e i).2.2.2.2.1)), (7, vl ((foldR (fun r_ : Nat => labR m j (r_ : Int)) (numR2 m col) e i).2.2.1)), (6, vi ((foldR (fun r_ : Nat => labR m j (r_ : Int)) (numR2 m col) e i).2.1)), (0, vr 30), (1, vi j), (2, vi e), (3, vi col), (4, vi w)]) rfl (Nat.le_of_ble_eq_true rfl) rfl ?_
              refine V_ld (pc := 126) dX11_measure_126 (v := vi ((foldR (fun r_ : Nat => labR m j (r_ : Int)) (numR2 m col) e i).2.1)) rfl rfl ?_
              refine V_if_ne (pc := 128) dX11_measure_128 (tgt := 136) rfl (fun h128 => ?_) (fun h128 => ?_)
              · skip
                refine V_ld (pc := 136) dX11_measure_136 (v := vl ((foldR (fun r_ : Nat => labR m j (r_ : Int)) (numR2 m col) e i).2.2.2.2.1)) rfl rfl ?_
                refine V_ld (pc := 138) dX11_measure_138 (v := vl (mI m 31 (((2 * ((i : Nat) : Int)) + col).toNat))) rfl rfl ?_
                refine V_callS (pc := 140) dX11_measure_140 (F' := 0) (As := [vl ((foldR (fun r_ : Nat => labR m j (r_ : Int)) (numR2 m col) e i).2.2.2.2.1), vl (mI m 31 (((2 * ((i : Nat) : Int)) + col).toNat))]) (st := []) cw_RX11_389 rfl rfl (Nat.le_of_ble_eq_true rfl) (by omega) (j_max_l  m ((foldR (fun r_ : Nat => labR m j (r_ : Int)) (numR2 m col) e i).2.2.2.2.1) (mI m 31 (((2 * ((i : Nat) : Int)) + col).toNat))   ) ?_
                rintro _ _ ⟨x140, rfl, hx140, rfl⟩ ok140 le140
                refine V_st (pc := 143) dX11_measure_143 (ls' := [(11, vl x140), (9, vl x121), (5, vi (((foldR (fun r_ : Nat => labR m j (r_ : Int)) (numR2 m col) e i).1) + 1)), (19, vl (mI m 31 (((2 * ((i : Nat) : Int)) + col).toNat))), (18, vi x59), (17, vi ((i : Nat) : Int)), (15, vl ((foldR (fun r_ : Nat => labR m j (r_ : Int)) (numR2 m col) e i).2.2.2.2.2.2)), (13, vl ((foldR (fun r_ : Nat => labR m j (r_ : Int)) (numR2 m col) e i).2.2.2.2.2.1)), (7, vl ((foldR (fun r_ : Nat => labR m j (r_ : Int)) (numR2 m col) e i).2.2.1)), (6, vi ((foldR (fun r_ : Nat => labR m j (r_ : Int)) (numR2 m col) e i).2.1)), (0, vr 30), (1, vi j), (2, vi e), (3, vi col), (4, vi w)]) rfl (Nat.le_of_ble_eq_true rfl) rfl ?_
                refine V_ld (pc := 145) dX11_measure_145 (v := vi ((foldR (fun r_ : Nat => labR m j (r_ : Int)) (numR2 m col) e i).2.1)) rfl rfl ?_
                refine V_if_ne (pc := 147) dX11_measure_147 (tgt := 155) rfl (fun h147 => ?_) (fun h147 => ?_)
                · skip
                  refine V_ld (pc := 155) dX11_measure_155 (v := vl ((foldR (fun r_ : Nat => labR m j (r_ : Int)) (numR2 m col) e i).2.2.2.2.2.1)) rfl rfl ?_
                  refine V_st (pc := 157) dX11_measure_157 (ls' := [(13, vl ((foldR (fun r_ : Nat => labR m j (r_ : Int)) (numR2 m col) e i).2.2.2.2.2.1)), (11, vl x140), (9, vl x121), (5, vi (((foldR (fun r_ : Nat => labR m j (r_ : Int)) (numR2 m col) e i).1) + 1)), (19, vl (mI m 31 (((2 * ((i : Nat) : Int)) + col).toNat))), (18, vi x59), (17, vi ((i : Nat) : Int)), (15, vl ((foldR (fun r_ : Nat => labR m j (r_ : Int)) (numR2 m col) e i).2.2.2.2.2.2)), (7, vl ((foldR (fun r_ : Nat => labR m j (r_ : Int)) (numR2 m col) e i).2.2.1)), (6, vi ((foldR (fun r_ : Nat => labR m j (r_ : Int)) (numR2 m col) e i).2.1)), (0, vr 30), (1, vi j), (2, vi e), (3, vi col), (4, vi w)]) rfl (Nat.le_of_ble_eq_true rfl) rfl ?_
                  refine V_ld (pc := 159) dX11_measure_159 (v := vl (mI m 31 (((2 * ((i : Nat) : Int)) + col).toNat))) rfl rfl ?_
                  refine V_st (pc := 161) dX11_measure_161 (ls' := [(15, vl (mI m 31 (((2 * ((i : Nat) : Int)) + col).toNat))), (13, vl ((foldR (fun r_ : Nat => labR m j (r_ : Int)) (numR2 m col) e i).2.2.2.2.2.1)), (11, vl x140), (9, vl x121), (5, vi (((foldR (fun r_ : Nat => labR m j (r_ : Int)) (numR2 m col) e i).1) + 1)), (19, vl (mI m 31 (((2 * ((i : Nat) : Int)) + col).toNat))), (18, vi x59), (17, vi ((i : Nat) : Int)), (7, vl ((foldR (fun r_ : Nat => labR m j (r_ : Int)) (numR2 m col) e i).2.2.1)), (6, vi ((foldR (fun r_ : Nat => labR m j (r_ : Int)) (numR2 m col) e i).2.1)), (0, vr 30), (1, vi j), (2, vi e), (3, vi col), (4, vi w)]) rfl (Nat.le_of_ble_eq_true rfl) rfl ?_
                  refine V_ld (pc := 163) dX11_measure_163 (v := vl ((foldR (fun r_ : Nat => labR m j (r_ : Int)) (numR2 m col) e i).2.2.1)) rfl rfl ?_
                  refine V_ld (pc := 165) dX11_measure_165 (v := vl (mI m 31 (((2 * ((i : Nat) : Int)) + col).toNat))) rfl rfl ?_
                  refine V_ladd (pc := 167) dX11_measure_167 (by have hb := foldR_bd (L := e) (lab := (fun r_ : Nat => labR m j (r_ : Int))) hnum i; unfold I64; (try unfold I32 at *); omega) ?_
                  refine V_st (pc := 168) dX11_measure_168 (ls' := [(7, vl (((foldR (fun r_ : Nat => labR m j (r_ : Int)) (numR2 m col) e i).2.2.1) + (mI m 31 (((2 * ((i : Nat) : Int)) + col).toNat)))), (15, vl (mI m 31 (((2 * ((i : Nat) : Int)) + col).toNat))), (13, vl ((foldR (fun r_ : Nat => labR m j (r_ : Int)) (numR2 m col) e i).2.2.2.2.2.1)), (11, vl x140), (9, vl x121), (5, vi (((foldR (fun r_ : Nat => labR m j (r_ : Int)) (numR2 m col) e i).1) + 1)), (19, vl (mI m 31 (((2 * ((i : Nat) : Int)) + col).toNat))), (18, vi x59), (17, vi ((i : Nat) : Int)), (6, vi ((foldR (fun r_ : Nat => labR m j (r_ : Int)) (numR2 m col) e i).2.1)), (0, vr 30), (1, vi j), (2, vi e), (3, vi col), (4, vi w)]) rfl (Nat.le_of_ble_eq_true rfl) rfl ?_
                  refine V_iinc (pc := 170) dX11_measure_170 (x := ((foldR (fun r_ : Nat => labR m j (r_ : Int)) (numR2 m col) e i).2.1)) (ls' := [(6, vi (((foldR (fun r_ : Nat => labR m j (r_ : Int)) (numR2 m col) e i).2.1) + 1)), (7, vl (((foldR (fun r_ : Nat => labR m j (r_ : Int)) (numR2 m col) e i).2.2.1) + (mI m 31 (((2 * ((i : Nat) : Int)) + col).toNat)))), (15, vl (mI m 31 (((2 * ((i : Nat) : Int)) + col).toNat))), (13, vl ((foldR (fun r_ : Nat => labR m j (r_ : Int)) (numR2 m col) e i).2.2.2.2.2.1)), (11, vl x140), (9, vl x121), (5, vi (((foldR (fun r_ : Nat => labR m j (r_ : Int)) (numR2 m col) e i).1) + 1)), (19, vl (mI m 31 (((2 * ((i : Nat) : Int)) + col).toNat))), (18, vi x59), (17, vi ((i : Nat) : Int)), (0, vr 30), (1, vi j), (2, vi e), (3, vi col), (4, vi w)]) rfl (by have hb := foldR_bd (L := e) (lab := (fun r_ : Nat => labR m j (r_ : Int))) hnum i; unfold I32; (try unfold I32 at *); omega) (Nat.le_of_ble_eq_true rfl) rfl ?_
                  refine V_iinc (pc := 173) dX11_measure_173 (x := ((i : Nat) : Int)) (ls' := [(17, vi (((i : Nat) : Int) + 1)), (6, vi (((foldR (fun r_ : Nat => labR m j (r_ : Int)) (numR2 m col) e i).2.1) + 1)), (7, vl (((foldR (fun r_ : Nat => labR m j (r_ : Int)) (numR2 m col) e i).2.2.1) + (mI m 31 (((2 * ((i : Nat) : Int)) + col).toNat)))), (15, vl (mI m 31 (((2 * ((i : Nat) : Int)) + col).toNat))), (13, vl ((foldR (fun r_ : Nat => labR m j (r_ : Int)) (numR2 m col) e i).2.2.2.2.2.1)), (11, vl x140), (9, vl x121), (5, vi (((foldR (fun r_ : Nat => labR m j (r_ : Int)) (numR2 m col) e i).1) + 1)), (19, vl (mI m 31 (((2 * ((i : Nat) : Int)) + col).toNat))), (18, vi x59), (0, vr 30), (1, vi j), (2, vi e), (3, vi col), (4, vi w)]) rfl (by unfold I32 at *; omega) (Nat.le_of_ble_eq_true rfl) rfl ?_
                  refine V_goto (pc := 176) dX11_measure_176 (tgt := 46) rfl ?_
                  try unfold cmpI at *
                  have ela : (labR m j (i : Int)) = x59 := by omega
                  have enu : (mI m 31 (2 * (i : Int) + col).toNat) = mI m 31 (((2 * ((i : Nat) : Int)) + col).toNat) := by omega
                  have e_ : foldR (fun r_ : Nat => labR m j (r_ : Int)) (numR2 m col) e (i + 1) = (((foldR (fun r_ : Nat => labR m j (r_ : Int)) (numR2 m col) e i).1) + 1, ((foldR (fun r_ : Nat => labR m j (r_ : Int)) (numR2 m col) e i).2.1) + 1, ((foldR (fun r_ : Nat => labR m j (r_ : Int)) (numR2 m col) e i).2.2.1) + (mI m 31 (((2 * ((i : Nat) : Int)) + col).toNat)), x121, x140, (foldR (fun r_ : Nat => labR m j (r_ : Int)) (numR2 m col) e i).2.2.2.2.2.1, mI m 31 (((2 * ((i : Nat) : Int)) + col).toNat)) := by
                    show stepR (labR m j (i : Int)) (numR2 m col i) e (foldR (fun r_ : Nat => labR m j (r_ : Int)) (numR2 m col) e i) = _
                    rw [hni]
                    rw [ela, enu]
                    unfold stepR
                    first
                      | (exfalso; omega)
                      | (rw [if_neg (by omega)])
                      | (rw [if_pos (by omega), if_pos (by omega)])
                      | (rw [if_pos (by omega), if_neg (by omega)]; simp only [Prod.mk.injEq]; repeat' apply And.intro
                         all_goals (first | trivial | omega))
                  have h_ := ih (i + 1) (by omega)
                  rw [e_] at h_
                  refine V_ls (ls' := [(17, vi (((i : Nat) : Int) + 1)), (15, vl (mI m 31 (((2 * ((i : Nat) : Int)) + col).toNat))), (13, vl ((foldR (fun r_ : Nat => labR m j (r_ : Int)) (numR2 m col) e i).2.2.2.2.2.1)), (11, vl x140), (9, vl x121), (7, vl (((foldR (fun r_ : Nat => labR m j (r_ : Int)) (numR2 m col) e i).2.2.1) + (mI m 31 (((2 * ((i : Nat) : Int)) + col).toNat)))), (6, vi (((foldR (fun r_ : Nat => labR m j (r_ : Int)) (numR2 m col) e i).2.1) + 1)), (5, vi (((foldR (fun r_ : Nat => labR m j (r_ : Int)) (numR2 m col) e i).1) + 1)), (0, vr 30), (1, vi j), (2, vi e), (3, vi col), (4, vi w)]) (by intro q_ h_; simp only [List.mem_cons, List.not_mem_nil, or_false] at h_ ⊢; rcases h_ with rfl | rfl | rfl | rfl | rfl | rfl | rfl | rfl | rfl | rfl | rfl | rfl | rfl <;> simp) ?_
                  exact h_
                · skip
                  refine V_ld (pc := 150) dX11_measure_150 (v := vl (mI m 31 (((2 * ((i : Nat) : Int)) + col).toNat))) rfl rfl ?_
                  refine V_goto (pc := 152) dX11_measure_152 (tgt := 157) rfl ?_
                  refine V_st (pc := 157) dX11_measure_157 (ls' := [(13, vl (mI m 31 (((2 * ((i : Nat) : Int)) + col).toNat))), (11, vl x140), (9, vl x121), (5, vi (((foldR (fun r_ : Nat => labR m j (r_ : Int)) (numR2 m col) e i).1) + 1)), (19, vl (mI m 31 (((2 * ((i : Nat) : Int)) + col).toNat))), (18, vi x59), (17, vi ((i : Nat) : Int)), (15, vl ((foldR (fun r_ : Nat => labR m j (r_ : Int)) (numR2 m col) e i).2.2.2.2.2.2)), (7, vl ((foldR (fun r_ : Nat => labR m j (r_ : Int)) (numR2 m col) e i).2.2.1)), (6, vi ((foldR (fun r_ : Nat => labR m j (r_ : Int)) (numR2 m col) e i).2.1)), (0, vr 30), (1, vi j), (2, vi e), (3, vi col), (4, vi w)]) rfl (Nat.le_of_ble_eq_true rfl) rfl ?_
                  refine V_ld (pc := 159) dX11_measure_159 (v := vl (mI m 31 (((2 * ((i : Nat) : Int)) + col).toNat))) rfl rfl ?_
                  refine V_st (pc := 161) dX11_measure_161 (ls' := [(15, vl (mI m 31 (((2 * ((i : Nat) : Int)) + col).toNat))), (13, vl (mI m 31 (((2 * ((i : Nat) : Int)) + col).toNat))), (11, vl x140), (9, vl x121), (5, vi (((foldR (fun r_ : Nat => labR m j (r_ : Int)) (numR2 m col) e i).1) + 1)), (19, vl (mI m 31 (((2 * ((i : Nat) : Int)) + col).toNat))), (18, vi x59), (17, vi ((i : Nat) : Int)), (7, vl ((foldR (fun r_ : Nat => labR m j (r_ : Int)) (numR2 m col) e i).2.2.1)), (6, vi ((foldR (fun r_ : Nat => labR m j (r_ : Int)) (numR2 m col) e i).2.1)), (0, vr 30), (1, vi j), (2, vi e), (3, vi col), (4, vi w)]) rfl (Nat.le_of_ble_eq_true rfl) rfl ?_
                  refine V_ld (pc := 163) dX11_measure_163 (v := vl ((foldR (fun r_ : Nat => labR m j (r_ : Int)) (numR2 m col) e i).2.2.1)) rfl rfl ?_
                  refine V_ld (pc := 165) dX11_measure_165 (v := vl (mI m 31 (((2 * ((i : Nat) : Int)) + col).toNat))) rfl rfl ?_
                  refine V_ladd (pc := 167) dX11_measure_167 (by have hb := foldR_bd (L := e) (lab := (fun r_ : Nat => labR m j (r_ : Int))) hnum i; unfold I64; (try unfold I32 at *); omega) ?_
                  refine V_st (pc := 168) dX11_measure_168 (ls' := [(7, vl (((foldR (fun r_ : Nat => labR m j (r_ : Int)) (numR2 m col) e i).2.2.1) + (mI m 31 (((2 * ((i : Nat) : Int)) + col).toNat)))), (15, vl (mI m 31 (((2 * ((i : Nat) : Int)) + col).toNat))), (13, vl (mI m 31 (((2 * ((i : Nat) : Int)) + col).toNat))), (11, vl x140), (9, vl x121), (5, vi (((foldR (fun r_ : Nat => labR m j (r_ : Int)) (numR2 m col) e i).1) + 1)), (19, vl (mI m 31 (((2 * ((i : Nat) : Int)) + col).toNat))), (18, vi x59), (17, vi ((i : Nat) : Int)), (6, vi ((foldR (fun r_ : Nat => labR m j (r_ : Int)) (numR2 m col) e i).2.1)), (0, vr 30), (1, vi j), (2, vi e), (3, vi col), (4, vi w)]) rfl (Nat.le_of_ble_eq_true rfl) rfl ?_
                  refine V_iinc (pc := 170) dX11_measure_170 (x := ((foldR (fun r_ : Nat => labR m j (r_ : Int)) (numR2 m col) e i).2.1)) (ls' := [(6, vi (((foldR (fun r_ : Nat => labR m j (r_ : Int)) (numR2 m col) e i).2.1) + 1)), (7, vl (((foldR (fun r_ : Nat => labR m j (r_ : Int)) (numR2 m col) e i).2.2.1) + (mI m 31 (((2 * ((i : Nat) : Int)) + col).toNat)))), (15, vl (mI m 31 (((2 * ((i : Nat) : Int)) + col).toNat))), (13, vl (mI m 31 (((2 * ((i : Nat) : Int)) + col).toNat))), (11, vl x140), (9, vl x121), (5, vi (((foldR (fun r_ : Nat => labR m j (r_ : Int)) (numR2 m col) e i).1) + 1)), (19, vl (mI m 31 (((2 * ((i : Nat) : Int)) + col).toNat))), (18, vi x59), (17, vi ((i : Nat) : Int)), (0, vr 30), (1, vi j), (2, vi e), (3, vi col), (4, vi w)]) rfl (by have hb := foldR_bd (L := e) (lab := (fun r_ : Nat => labR m j (r_ : Int))) hnum i; unfold I32; (try unfold I32 at *); omega) (Nat.le_of_ble_eq_true rfl) rfl ?_
                  refine V_iinc (pc := 173) dX11_measure_173 (x := ((i : Nat) : Int)) (ls' := [(17, vi (((i : Nat) : Int) + 1)), (6, vi (((foldR (fun r_ : Nat => labR m j (r_ : Int)) (numR2 m col) e i).2.1) + 1)), (7, vl (((foldR (fun r_ : Nat => labR m j (r_ : Int)) (numR2 m col) e i).2.2.1) + (mI m 31 (((2 * ((i : Nat) : Int)) + col).toNat)))), (15, vl (mI m 31 (((2 * ((i : Nat) : Int)) + col).toNat))), (13, vl (mI m 31 (((2 * ((i : Nat) : Int)) + col).toNat))), (11, vl x140), (9, vl x121), (5, vi (((foldR (fun r_ : Nat => labR m j (r_ : Int)) (numR2 m col) e i).1) + 1)), (19, vl (mI m 31 (((2 * ((i : Nat) : Int)) + col).toNat))), (18, vi x59), (0, vr 30), (1, vi j), (2, vi e), (3, vi col), (4, vi w)]) rfl (by unfold I32 at *; omega) (Nat.le_of_ble_eq_true rfl) rfl ?_
                  refine V_goto (pc := 176) dX11_measure_176 (tgt := 46) rfl ?_
                  try unfold cmpI at *
                  have ela : (labR m j (i : Int)) = x59 := by omega
                  have enu : (mI m 31 (2 * (i : Int) + col).toNat) = mI m 31 (((2 * ((i : Nat) : Int)) + col).toNat) := by omega
                  have e_ : foldR (fun r_ : Nat => labR m j (r_ : Int)) (numR2 m col) e (i + 1) = (((foldR (fun r_ : Nat => labR m j (r_ : Int)) (numR2 m col) e i).1) + 1, ((foldR (fun r_ : Nat => labR m j (r_ : Int)) (numR2 m col) e i).2.1) + 1, ((foldR (fun r_ : Nat => labR m j (r_ : Int)) (numR2 m col) e i).2.2.1) + (mI m 31 (((2 * ((i : Nat) : Int)) + col).toNat)), x121, x140, mI m 31 (((2 * ((i : Nat) : Int)) + col).toNat), mI m 31 (((2 * ((i : Nat) : Int)) + col).toNat)) := by
                    show stepR (labR m j (i : Int)) (numR2 m col i) e (foldR (fun r_ : Nat => labR m j (r_ : Int)) (numR2 m col) e i) = _
                    rw [hni]
                    rw [ela, enu]
                    unfold stepR
                    first
                      | (exfalso; omega)
                      | (rw [if_neg (by omega)])
                      | (rw [if_pos (by omega), if_pos (by omega)])
                      | (rw [if_pos (by omega), if_neg (by omega)]; simp only [Prod.mk.injEq]; repeat' apply And.intro
                         all_goals (first | trivial | omega))
                  have h_ := ih (i + 1) (by omega)
                  rw [e_] at h_
                  refine V_ls (ls' := [(17, vi (((i : Nat) : Int) + 1)), (15, vl (mI m 31 (((2 * ((i : Nat) : Int)) + col).toNat))), (13, vl (mI m 31 (((2 * ((i : Nat) : Int)) + col).toNat))), (11, vl x140), (9, vl x121), (7, vl (((foldR (fun r_ : Nat => labR m j (r_ : Int)) (numR2 m col) e i).2.2.1) + (mI m 31 (((2 * ((i : Nat) : Int)) + col).toNat)))), (6, vi (((foldR (fun r_ : Nat => labR m j (r_ : Int)) (numR2 m col) e i).2.1) + 1)), (5, vi (((foldR (fun r_ : Nat => labR m j (r_ : Int)) (numR2 m col) e i).1) + 1)), (0, vr 30), (1, vi j), (2, vi e), (3, vi col), (4, vi w)]) (by intro q_ h_; simp only [List.mem_cons, List.not_mem_nil, or_false] at h_ ⊢; rcases h_ with rfl | rfl | rfl | rfl | rfl | rfl | rfl | rfl | rfl | rfl | rfl | rfl | rfl <;> simp) ?_
                  exact h_
              · skip
                refine V_ld (pc := 131) dX11_measure_131 (v := vl (mI m 31 (((2 * ((i : Nat) : Int)) + col).toNat))) rfl rfl ?_
                refine V_goto (pc := 133) dX11_measure_133 (tgt := 143) rfl ?_
                refine V_st (pc := 143) dX11_measure_143 (ls' := [(11, vl (mI m 31 (((2 * ((i : Nat) : Int)) + col).toNat))), (9, vl x121), (5, vi (((foldR (fun r_ : Nat => labR m j (r_ : Int)) (numR2 m col) e i).1) + 1)), (19, vl (mI m 31 (((2 * ((i : Nat) : Int)) + col).toNat))), (18, vi x59), (17, vi ((i : Nat) : Int)), (15, vl ((foldR (fun r_ : Nat => labR m j (r_ : Int)) (numR2 m col) e i).2.2.2.2.2.2)), (13, vl ((foldR (fun r_ : Nat => labR m j (r_ : Int)) (numR2 m col) e i).2.2.2.2.2.1)), (7, vl ((foldR (fun r_ : Nat => labR m j (r_ : Int)) (numR2 m col) e i).2.2.1)), (6, vi ((foldR (fun r_ : Nat => labR m j (r_ : Int)) (numR2 m col) e i).2.1)), (0, vr 30), (1, vi j), (2, vi e), (3, vi col), (4, vi w)]) rfl (Nat.le_of_ble_eq_true rfl) rfl ?_
                refine V_ld (pc := 145) dX11_measure_145 (v := vi ((foldR (fun r_ : Nat => labR m j (r_ : Int)) (numR2 m col) e i).2.1)) rfl rfl ?_
                refine V_if_ne (pc := 147) dX11_measure_147 (tgt := 155) rfl (fun h147 => ?_) (fun h147 => ?_)
                · skip
                  refine V_ld (pc := 155) dX11_measure_155 (v := vl ((foldR (fun r_ : Nat => labR m j (r_ : Int)) (numR2 m col) e i).2.2.2.2.2.1)) rfl rfl ?_
                  refine V_st (pc := 157) dX11_measure_157 (ls' := [(13, vl ((foldR (fun r_ : Nat => labR m j (r_ : Int)) (numR2 m col) e i).2.2.2.2.2.1)), (11, vl (mI m 31 (((2 * ((i : Nat) : Int)) + col).toNat))), (9, vl x121), (5, vi (((foldR (fun r_ : Nat => labR m j (r_ : Int)) (numR2 m col) e i).1) + 1)), (19, vl (mI m 31 (((2 * ((i : Nat) : Int)) + col).toNat))), (18, vi x59), (17, vi ((i : Nat) : Int)), (15, vl ((foldR (fun r_ : Nat => labR m j (r_ : Int)) (numR2 m col) e i).2.2.2.2.2.2)), (7, vl ((foldR (fun r_ : Nat => labR m j (r_ : Int)) (numR2 m col) e i).2.2.1)), (6, vi ((foldR (fun r_ : Nat => labR m j (r_ : Int)) (numR2 m col) e i).2.1)), (0, vr 30), (1, vi j), (2, vi e), (3, vi col), (4, vi w)]) rfl (Nat.le_of_ble_eq_true rfl) rfl ?_
                  refine V_ld (pc := 159) dX11_measure_159 (v := vl (mI m 31 (((2 * ((i : Nat) : Int)) + col).toNat))) rfl rfl ?_
                  refine V_st (pc := 161) dX11_measure_161 (ls' := [(15, vl (mI m 31 (((2 * ((i : Nat) : Int)) + col).toNat))), (13, vl ((foldR (fun r_ : Nat => labR m j (r_ : Int)) (numR2 m col) e i).2.2.2.2.2.1)), (11, vl (mI m 31 (((2 * ((i : Nat) : Int)) + col).toNat))), (9, vl x121), (5, vi (((foldR (fun r_ : Nat => labR m j (r_ : Int)) (numR2 m col) e i).1) + 1)), (19, vl (mI m 31 (((2 * ((i : Nat) : Int)) + col).toNat))), (18, vi x59), (17, vi ((i : Nat) : Int)), (7, vl ((foldR (fun r_ : Nat => labR m j (r_ : Int)) (numR2 m col) e i).2.2.1)), (6, vi ((foldR (fun r_ : Nat => labR m j (r_ : Int)) (numR2 m col) e i).2.1)), (0, vr 30), (1, vi j), (2, vi e), (3, vi col), (4, vi w)]) rfl (Nat.le_of_ble_eq_true rfl) rfl ?_
                  refine V_ld (pc := 163) dX11_measure_163 (v := vl ((foldR (fun r_ : Nat => labR m j (r_ : Int)) (numR2 m col) e i).2.2.1)) rfl rfl ?_
                  refine V_ld (pc := 165) dX11_measure_165 (v := vl (mI m 31 (((2 * ((i : Nat) : Int)) + col).toNat))) rfl rfl ?_
                  refine V_ladd (pc := 167) dX11_measure_167 (by have hb := foldR_bd (L := e) (lab := (fun r_ : Nat => labR m j (r_ : Int))) hnum i; unfold I64; (try unfold I32 at *); omega) ?_
                  refine V_st (pc := 168) dX11_measure_168 (ls' := [(7, vl (((foldR (fun r_ : Nat => labR m j (r_ : Int)) (numR2 m col) e i).2.2.1) + (mI m 31 (((2 * ((i : Nat) : Int)) + col).toNat)))), (15, vl (mI m 31 (((2 * ((i : Nat) : Int)) + col).toNat))), (13, vl ((foldR (fun r_ : Nat => labR m j (r_ : Int)) (numR2 m col) e i).2.2.2.2.2.1)), (11, vl (mI m 31 (((2 * ((i : Nat) : Int)) + col).toNat))), (9, vl x121), (5, vi (((foldR (fun r_ : Nat => labR m j (r_ : Int)) (numR2 m col) e i).1) + 1)), (19, vl (mI m 31 (((2 * ((i : Nat) : Int)) + col).toNat))), (18, vi x59), (17, vi ((i : Nat) : Int)), (6, vi ((foldR (fun r_ : Nat => labR m j (r_ : Int)) (numR2 m col) e i).2.1)), (0, vr 30), (1, vi j), (2, vi e), (3, vi col), (4, vi w)]) rfl (Nat.le_of_ble_eq_true rfl) rfl ?_
                  refine V_iinc (pc := 170) dX11_measure_170 (x := ((foldR (fun r_ : Nat => labR m j (r_ : Int)) (numR2 m col) e i).2.1)) (ls' := [(6, vi (((foldR (fun r_ : Nat => labR m j (r_ : Int)) (numR2 m col) e i).2.1) + 1)), (7, vl (((foldR (fun r_ : Nat => labR m j (r_ : Int)) (numR2 m col) e i).2.2.1) + (mI m 31 (((2 * ((i : Nat) : Int)) + col).toNat)))), (15, vl (mI m 31 (((2 * ((i : Nat) : Int)) + col).toNat))), (13, vl ((foldR (fun r_ : Nat => labR m j (r_ : Int)) (numR2 m col) e i).2.2.2.2.2.1)), (11, vl (mI m 31 (((2 * ((i : Nat) : Int)) + col).toNat))), (9, vl x121), (5, vi (((foldR (fun r_ : Nat => labR m j (r_ : Int)) (numR2 m col) e i).1) + 1)), (19, vl (mI m 31 (((2 * ((i : Nat) : Int)) + col).toNat))), (18, vi x59), (17, vi ((i : Nat) : Int)), (0, vr 30), (1, vi j), (2, vi e), (3, vi col), (4, vi w)]) rfl (by have hb := foldR_bd (L := e) (lab := (fun r_ : Nat => labR m j (r_ : Int))) hnum i; unfold I32; (try unfold I32 at *); omega) (Nat.le_of_ble_eq_true rfl) rfl ?_
                  refine V_iinc (pc := 173) dX11_measure_173 (x := ((i : Nat) : Int)) (ls' := [(17, vi (((i : Nat) : Int) + 1)), (6, vi (((foldR (fun r_ : Nat => labR m j (r_ : Int)) (numR2 m col) e i).2.1) + 1)), (7, vl (((foldR (fun r_ : Nat => labR m j (r_ : Int)) (numR2 m col) e i).2.2.1) + (mI m 31 (((2 * ((i : Nat) : Int)) + col).toNat)))), (15, vl (mI m 31 (((2 * ((i : Nat) : Int)) + col).toNat))), (13, vl ((foldR (fun r_ : Nat => labR m j (r_ : Int)) (numR2 m col) e i).2.2.2.2.2.1)), (11, vl (mI m 31 (((2 * ((i : Nat) : Int)) + col).toNat))), (9, vl x121), (5, vi (((foldR (fun r_ : Nat => labR m j (r_ : Int)) (numR2 m col) e i).1) + 1)), (19, vl (mI m 31 (((2 * ((i : Nat) : Int)) + col).toNat))), (18, vi x59), (0, vr 30), (1, vi j), (2, vi e), (3, vi col), (4, vi w)]) rfl (by unfold I32 at *; omega) (Nat.le_of_ble_eq_true rfl) rfl ?_
                  refine V_goto (pc := 176) dX11_measure_176 (tgt := 46) rfl ?_
                  try unfold cmpI at *
                  have ela : (labR m j (i : Int)) = x59 := by omega
                  have enu : (mI m 31 (2 * (i : Int) + col).toNat) = mI m 31 (((2 * ((i : Nat) : Int)) + col).toNat) := by omega
                  have e_ : foldR (fun r_ : Nat => labR m j (r_ : Int)) (numR2 m col) e (i + 1) = (((foldR (fun r_ : Nat => labR m j (r_ : Int)) (numR2 m col) e i).1) + 1, ((foldR (fun r_ : Nat => labR m j (r_ : Int)) (numR2 m col) e i).2.1) + 1, ((foldR (fun r_ : Nat => labR m j (r_ : Int)) (numR2 m col) e i).2.2.1) + (mI m 31 (((2 * ((i : Nat) : Int)) + col).toNat)), x121, mI m 31 (((2 * ((i : Nat) : Int)) + col).toNat), (foldR (fun r_ : Nat => labR m j (r_ : Int)) (numR2 m col) e i).2.2.2.2.2.1, mI m 31 (((2 * ((i : Nat) : Int)) + col).toNat)) := by
                    show stepR (labR m j (i : Int)) (numR2 m col i) e (foldR (fun r_ : Nat => labR m j (r_ : Int)) (numR2 m col) e i) = _
                    rw [hni]
                    rw [ela, enu]
                    unfold stepR
                    first
                      | (exfalso; omega)
                      | (rw [if_neg (by omega)])
                      | (rw [if_pos (by omega), if_pos (by omega)])
                      | (rw [if_pos (by omega), if_neg (by omega)]; simp only [Prod.mk.injEq]; repeat' apply And.intro
                         all_goals (first | trivial | omega))
                  have h_ := ih (i + 1) (by omega)
                  rw [e_] at h_
                  refine V_ls (ls' := [(17, vi (((i : Nat) : Int) + 1)), (15, vl (mI m 31 (((2 * ((i : Nat) : Int)) + col).toNat))), (13, vl ((foldR (fun r_ : Nat => labR m j (r_ : Int)) (numR2 m col) e i).2.2.2.2.2.1)), (11, vl (mI m 31 (((2 * ((i : Nat) : Int)) + col).toNat))), (9, vl x121), (7, vl (((foldR (fun r_ : Nat => labR m j (r_ : Int)) (numR2 m col) e i).2.2.1) + (mI m 31 (((2 * ((i : Nat) : Int)) + col).toNat)))), (6, vi (((foldR (fun r_ : Nat => labR m j (r_ : Int)) (numR2 m col) e i).2.1) + 1)), (5, vi (((foldR (fun r_ : Nat => labR m j (r_ : Int)) (numR2 m col) e i).1) + 1)), (0, vr 30), (1, vi j), (2, vi e), (3, vi col), (4, vi w)]) (by intro q_ h_; simp only [List.mem_cons, List.not_mem_nil, or_false] at h_ ⊢; rcases h_ with rfl | rfl | rfl | rfl | rfl | rfl | rfl | rfl | rfl | rfl | rfl | rfl | rfl <;> simp) ?_
                  exact h_
                · skip
                  refine V_ld (pc := 150) dX11_measure_150 (v := vl (mI m 31 (((2 * ((i : Nat) : Int)) + col).toNat))) rfl rfl ?_
                  refine V_goto (pc := 152) dX11_measure_152 (tgt := 157) rfl ?_
                  refine V_st (pc := 157) dX11_measure_157 (ls' := [(13, vl (mI m 31 (((2 * ((i : Nat) : Int)) + col).toNat))), (11, vl (mI m 31 (((2 * ((i : Nat) : Int)) + col).toNat))), (9, vl x121), (5, vi (((foldR (fun r_ : Nat => labR m j (r_ : Int)) (numR2 m col) e i).1) + 1)), (19, vl (mI m 31 (((2 * ((i : Nat) : Int)) + col).toNat))), (18, vi x59), (17, vi ((i : Nat) : Int)), (15, vl ((foldR (fun r_ : Nat => labR m j (r_ : Int)) (numR2 m col) e i).2.2.2.2.2.2)), (7, vl ((foldR (fun r_ : Nat => labR m j (r_ : Int)) (numR2 m col) e i).2.2.1)), (6, vi ((foldR (fun r_ : Nat => labR m j (r_ : Int)) (numR2 m col) e i).2.1)), (0, vr 30), (1, vi j), (2, vi e), (3, vi col), (4, vi w)]) rfl (Nat.le_of_ble_eq_true rfl) rfl ?_
                  refine V_ld (pc := 159) dX11_measure_159 (v := vl (mI m 31 (((2 * ((i : Nat) : Int)) + col).toNat))) rfl rfl ?_
                  refine V_st (pc := 161) dX11_measure_161 (ls' := [(15, vl (mI m 31 (((2 * ((i : Nat) : Int)) + col).toNat))), (13, vl (mI m 31 (((2 * ((i : Nat) : Int)) + col).toNat))), (11, vl (mI m 31 (((2 * ((i : Nat) : Int)) + col).toNat))), (9, vl x121), (5, vi (((foldR (fun r_ : Nat => labR m j (r_ : Int)) (numR2 m col) e i).1) + 1)), (19, vl (mI m 31 (((2 * ((i : Nat) : Int)) + col).toNat))), (18, vi x59), (17, vi ((i : Nat) : Int)), (7, vl ((foldR (fun r_ : Nat => labR m j (r_ : Int)) (numR2 m col) e i).2.2.1)), (6, vi ((foldR (fun r_ : Nat => labR m j (r_ : Int)) (numR2 m col) e i).2.1)), (0, vr 30), (1, vi j), (2, vi e), (3, vi col), (4, vi w)]) rfl (Nat.le_of_ble_eq_true rfl) rfl ?_
                  refine V_ld (pc := 163) dX11_measure_163 (v := vl ((foldR (fun r_ : Nat => labR m j (r_ : Int)) (numR2 m col) e i).2.2.1)) rfl rfl ?_
                  refine V_ld (pc := 165) dX11_measure_165 (v := vl (mI m 31 (((2 * ((i : Nat) : Int)) + col).toNat))) rfl rfl ?_
                  refine V_ladd (pc := 167) dX11_measure_167 (by have hb := foldR_bd (L := e) (lab := (fun r_ : Nat => labR m j (r_ : Int))) hnum i; unfold I64; (try unfold I32 at *); omega) ?_
                  refine V_st (pc := 168) dX11_measure_168 (ls' := [(7, vl (((foldR (fun r_ : Nat => labR m j (r_ : Int)) (numR2 m col) e i).2.2.1) + (mI m 31 (((2 * ((i : Nat) : Int)) + col).toNat)))), (15, vl (mI m 31 (((2 * ((i : Nat) : Int)) + col).toNat))), (13, vl (mI m 31 (((2 * ((i : Nat) : Int)) + col).toNat))), (11, vl (mI m 31 (((2 * ((i : Nat) : Int)) + col).toNat))), (9, vl x121), (5, vi (((foldR (fun r_ : Nat => labR m j (r_ : Int)) (numR2 m col) e i).1) + 1)), (19, vl (mI m 31 (((2 * ((i : Nat) : Int)) + col).toNat))), (18, vi x59), (17, vi ((i : Nat) : Int)), (6, vi ((foldR (fun r_ : Nat => labR m j (r_ : Int)) (numR2 m col) e i).2.1)), (0, vr 30), (1, vi j), (2, vi e), (3, vi col), (4, vi w)]) rfl (Nat.le_of_ble_eq_true rfl) rfl ?_
                  refine V_iinc (pc := 170) dX11_measure_170 (x := ((foldR (fun r_ : Nat => labR m j (r_ : Int)) (numR2 m col) e i).2.1)) (ls' := [(6, vi (((foldR (fun r_ : Nat => labR m j (r_ : Int)) (numR2 m col) e i).2.1) + 1)), (7, vl (((foldR (fun r_ : Nat => labR m j (r_ : Int)) (numR2 m col) e i).2.2.1) + (mI m 31 (((2 * ((i : Nat) : Int)) + col).toNat)))), (15, vl (mI m 31 (((2 * ((i : Nat) : Int)) + col).toNat))), (13, vl (mI m 31 (((2 * ((i : Nat) : Int)) + col).toNat))), (11, vl (mI m 31 (((2 * ((i : Nat) : Int)) + col).toNat))), (9, vl x121), (5, vi (((foldR (fun r_ : Nat => labR m j (r_ : Int)) (numR2 m col) e i).1) + 1)), (19, vl (mI m 31 (((2 * ((i : Nat) : Int)) + col).toNat))), (18, vi x59), (17, vi ((i : Nat) : Int)), (0, vr 30), (1, vi j), (2, vi e), (3, vi col), (4, vi w)]) rfl (by have hb := foldR_bd (L := e) (lab := (fun r_ : Nat => labR m j (r_ : Int))) hnum i; unfold I32; (try unfold I32 at *); omega) (Nat.le_of_ble_eq_true rfl) rfl ?_
                  refine V_iinc (pc := 173) dX11_measure_173 (x := ((i : Nat) : Int)) (ls' := [(17, vi (((i : Nat) : Int) + 1)), (6, vi (((foldR (fun r_ : Nat => labR m j (r_ : Int)) (numR2 m col) e i).2.1) + 1)), (7, vl (((foldR (fun r_ : Nat => labR m j (r_ : Int)) (numR2 m col) e i).2.2.1) + (mI m 31 (((2 * ((i : Nat) : Int)) + col).toNat)))), (15, vl (mI m 31 (((2 * ((i : Nat) : Int)) + col).toNat))), (13, vl (mI m 31 (((2 * ((i : Nat) : Int)) + col).toNat))), (11, vl (mI m 31 (((2 * ((i : Nat) : Int)) + col).toNat))), (9, vl x121), (5, vi (((foldR (fun r_ : Nat => labR m j (r_ : Int)) (numR2 m col) e i).1) + 1)), (19, vl (mI m 31 (((2 * ((i : Nat) : Int)) + col).toNat))), (18, vi x59), (0, vr 30), (1, vi j), (2, vi e), (3, vi col), (4, vi w)]) rfl (by unfold I32 at *; omega) (Nat.le_of_ble_eq_true rfl) rfl ?_
                  refine V_goto (pc := 176) dX11_measure_176 (tgt := 46) rfl ?_
                  try unfold cmpI at *
                  have ela : (labR m j (i : Int)) = x59 := by omega
                  have enu : (mI m 31 (2 * (i : Int) + col).toNat) = mI m 31 (((2 * ((i : Nat) : Int)) + col).toNat) := by omega
                  have e_ : foldR (fun r_ : Nat => labR m j (r_ : Int)) (numR2 m col) e (i + 1) = (((foldR (fun r_ : Nat => labR m j (r_ : Int)) (numR2 m col) e i).1) + 1, ((foldR (fun r_ : Nat => labR m j (r_ : Int)) (numR2 m col) e i).2.1) + 1, ((foldR (fun r_ : Nat => labR m j (r_ : Int)) (numR2 m col) e i).2.2.1) + (mI m 31 (((2 * ((i : Nat) : Int)) + col).toNat)), x121, mI m 31 (((2 * ((i : Nat) : Int)) + col).toNat), mI m 31 (((2 * ((i : Nat) : Int)) + col).toNat), mI m 31 (((2 * ((i : Nat) : Int)) + col).toNat)) := by
                    show stepR (labR m j (i : Int)) (numR2 m col i) e (foldR (fun r_ : Nat => labR m j (r_ : Int)) (numR2 m col) e i) = _
                    rw [hni]
                    rw [ela, enu]
                    unfold stepR
                    first
                      | (exfalso; omega)
                      | (rw [if_neg (by omega)])
                      | (rw [if_pos (by omega), if_pos (by omega)])
                      | (rw [if_pos (by omega), if_neg (by omega)]; simp only [Prod.mk.injEq]; repeat' apply And.intro
                         all_goals (first | trivial | omega))
                  have h_ := ih (i + 1) (by omega)
                  rw [e_] at h_
                  refine V_ls (ls' := [(17, vi (((i : Nat) : Int) + 1)), (15, vl (mI m 31 (((2 * ((i : Nat) : Int)) + col).toNat))), (13, vl (mI m 31 (((2 * ((i : Nat) : Int)) + col).toNat))), (11, vl (mI m 31 (((2 * ((i : Nat) : Int)) + col).toNat))), (9, vl x121), (7, vl (((foldR (fun r_ : Nat => labR m j (r_ : Int)) (numR2 m col) e i).2.2.1) + (mI m 31 (((2 * ((i : Nat) : Int)) + col).toNat)))), (6, vi (((foldR (fun r_ : Nat => labR m j (r_ : Int)) (numR2 m col) e i).2.1) + 1)), (5, vi (((foldR (fun r_ : Nat => labR m j (r_ : Int)) (numR2 m col) e i).1) + 1)), (0, vr 30), (1, vi j), (2, vi e), (3, vi col), (4, vi w)]) (by intro q_ h_; simp only [List.mem_cons, List.not_mem_nil, or_false] at h_ ⊢; rcases h_ with rfl | rfl | rfl | rfl | rfl | rfl | rfl | rfl | rfl | rfl | rfl | rfl | rfl <;> simp) ?_
                  exact h_
            · skip
              refine V_ld (pc := 112) dX11_measure_112 (v := vl (mI m 31 (((2 * ((i : Nat) : Int)) + col).toNat))) rfl rfl ?_
              refine V_goto (pc := 114) dX11_measure_114 (tgt := 124) rfl ?_
              refine V_st (pc := 124) dX11_measure_124 (ls' := [(9, vl (mI m 31 (((2 * ((i : Nat) : Int)) + col).toNat))), (5, vi (((foldR (fun r_ : Nat => labR m j (r_ : Int)) (numR2 m col) e i).1) + 1)), (19, vl (mI m 31 (((2 * ((i : Nat) : Int)) + col).toNat))), (18, vi x59), (17, vi ((i : Nat) : Int)), (15, vl ((foldR (fun r_ : Nat => labR m j (r_ : Int)) (numR2 m col) e i).2.2.2.2.2.2)), (13, vl ((foldR (fun r_ : Nat => labR m j (r_ : Int)) (numR2 m col) e i).2.2.2.2.2.1)), (11, vl ((foldR (fun r_ : Nat => labR m j (r_ : Int)) (numR2 m col) e i).2.2.2.2.1)), (7, vl ((foldR (fun r_ : Nat => labR m j (r_ : Int)) (numR2 m col) e i).2.2.1)), (6, vi ((foldR (fun r_ : Nat => labR m j (r_ : Int)) (numR2 m col) e i).2.1)), (0, vr 30), (1, vi j), (2, vi e), (3, vi col), (4, vi w)]) rfl (Nat.le_of_ble_eq_true rfl) rfl ?_
              refine V_ld (pc := 126) dX11_measure_126 (v := vi ((foldR (fun r_ : Nat => labR m j (r_ : Int)) (numR2 m col) e i).2.1)) rfl rfl ?_
              refine V_if_ne (pc := 128) dX11_measure_128 (tgt := 136) rfl (fun h128 => ?_) (fun h128 => ?_)
              · skip
                refine V_ld (pc := 136) dX11_measure_136 (v := vl ((foldR (fun r_ : Nat => labR m j (r_ : Int)) (numR2 m col) e i).2.2.2.2.1)) rfl rfl ?_
                refine V_ld (pc := 138) dX11_measure_138 (v := vl (mI m 31 (((2 * ((i : Nat) : Int)) + col).toNat))) rfl rfl ?_
                refine V_callS (pc := 140) dX11_measure_140 (F' := 0) (As := [vl ((foldR (fun r_ : Nat => labR m j (r_ : Int)) (numR2 m col) e i).2.2.2.2.1), vl (mI m 31 (((2 * ((i : Nat) : Int)) + col).toNat))]) (st := []) cw_RX11_389 rfl rfl (Nat.le_of_ble_eq_true rfl) (by omega) (j_max_l  m ((foldR (fun r_ : Nat => labR m j (r_ : Int)) (numR2 m col) e i).2.2.2.2.1) (mI m 31 (((2 * ((i : Nat) : Int)) + col).toNat))   ) ?_
                rintro _ _ ⟨x140, rfl, hx140, rfl⟩ ok140 le140
                refine V_st (pc := 143) dX11_measure_143 (ls' := [(11, vl x140), (9, vl (mI m 31 (((2 * ((i : Nat) : Int)) + col).toNat))), (5, vi (((foldR (fun r_ : Nat => labR m j (r_ : Int)) (numR2 m col) e i).1) + 1)), (19, vl (mI m 31 (((2 * ((i : Nat) : Int)) + col).toNat))), (18, vi x59), (17, vi ((i : Nat) : Int)), (15, vl ((foldR (fun r_ : Nat => labR m j (r_ : Int)) (numR2 m col) e i).2.2.2.2.2.2)), (13, vl ((foldR (fun r_ : Nat => labR m j (r_ : Int)) (numR2 m col) e i).2.2.2.2.2.1)), (7, vl ((foldR (fun r_ : Nat => labR m j (r_ : Int)) (numR2 m col) e i).2.2.1)), (6, vi ((foldR (fun r_ : Nat => labR m j (r_ : Int)) (numR2 m col) e i).2.1)), (0, vr 30), (1, vi j), (2, vi e), (3, vi col), (4, vi w)]) rfl (Nat.le_of_ble_eq_true rfl) rfl ?_
                refine V_ld (pc := 145) dX11_measure_145 (v := vi ((foldR (fun r_ : Nat => labR m j (r_ : Int)) (numR2 m col) e i).2.1)) rfl rfl ?_
                refine V_if_ne (pc := 147) dX11_measure_147 (tgt := 155) rfl (fun h147 => ?_) (fun h147 => ?_)
                · skip
                  refine V_ld (pc := 155) dX11_measure_155 (v := vl ((foldR (fun r_ : Nat => labR m j (r_ : Int)) (numR2 m col) e i).2.2.2.2.2.1)) rfl rfl ?_
                  refine V_st (pc := 157) dX11_measure_157 (ls' := [(13, vl ((foldR (fun r_ : Nat => labR m j (r_ : Int)) (numR2 m col) e i).2.2.2.2.2.1)), (11, vl x140), (9, vl (mI m 31 (((2 * ((i : Nat) : Int)) + col).toNat))), (5, vi (((foldR (fun r_ : Nat => labR m j (r_ : Int)) (numR2 m col) e i).1) + 1)), (19, vl (mI m 31 (((2 * ((i : Nat) : Int)) + col).toNat))), (18, vi x59), (17, vi ((i : Nat) : Int)), (15, vl ((foldR (fun r_ : Nat => labR m j (r_ : Int)) (numR2 m col) e i).2.2.2.2.2.2)), (7, vl ((foldR (fun r_ : Nat => labR m j (r_ : Int)) (numR2 m col) e i).2.2.1)), (6, vi ((foldR (fun r_ : Nat => labR m j (r_ : Int)) (numR2 m col) e i).2.1)), (0, vr 30), (1, vi j), (2, vi e), (3, vi col), (4, vi w)]) rfl (Nat.le_of_ble_eq_true rfl) rfl ?_
                  refine V_ld (pc := 159) dX11_measure_159 (v := vl (mI m 31 (((2 * ((i : Nat) : Int)) + col).toNat))) rfl rfl ?_
                  refine V_st (pc := 161) dX11_measure_161 (ls' := [(15, vl (mI m 31 (((2 * ((i : Nat) : Int)) + col).toNat))), (13, vl ((foldR (fun r_ : Nat => labR m j (r_ : Int)) (numR2 m col) e i).2.2.2.2.2.1)), (11, vl x140), (9, vl (mI m 31 (((2 * ((i : Nat) : Int)) + col).toNat))), (5, vi (((foldR (fun r_ : Nat => labR m j (r_ : Int)) (numR2 m col) e i).1) + 1)), (19, vl (mI m 31 (((2 * ((i : Nat) : Int)) + col).toNat))), (18, vi x59), (17, vi ((i : Nat) : Int)), (7, vl ((foldR (fun r_ : Nat => labR m j (r_ : Int)) (numR2 m col) e i).2.2.1)), (6, vi ((foldR (fun r_ : Nat => labR m j (r_ : Int)) (numR2 m col) e i).2.1)), (0, vr 30), (1, vi j), (2, vi e), (3, vi col), (4, vi w)]) rfl (Nat.le_of_ble_eq_true rfl) rfl ?_
                  refine V_ld (pc := 163) dX11_measure_163 (v := vl ((foldR (fun r_ : Nat => labR m j (r_ : Int)) (numR2 m col) e i).2.2.1)) rfl rfl ?_
                  refine V_ld (pc := 165) dX11_measure_165 (v := vl (mI m 31 (((2 * ((i : Nat) : Int)) + col).toNat))) rfl rfl ?_
                  refine V_ladd (pc := 167) dX11_measure_167 (by have hb := foldR_bd (L := e) (lab := (fun r_ : Nat => labR m j (r_ : Int))) hnum i; unfold I64; (try unfold I32 at *); omega) ?_
                  refine V_st (pc := 168) dX11_measure_168 (ls' := [(7, vl (((foldR (fun r_ : Nat => labR m j (r_ : Int)) (numR2 m col) e i).2.2.1) + (mI m 31 (((2 * ((i : Nat) : Int)) + col).toNat)))), (15, vl (mI m 31 (((2 * ((i : Nat) : Int)) + col).toNat))), (13, vl ((foldR (fun r_ : Nat => labR m j (r_ : Int)) (numR2 m col) e i).2.2.2.2.2.1)), (11, vl x140), (9, vl (mI m 31 (((2 * ((i : Nat) : Int)) + col).toNat))), (5, vi (((foldR (fun r_ : Nat => labR m j (r_ : Int)) (numR2 m col) e i).1) + 1)), (19, vl (mI m 31 (((2 * ((i : Nat) : Int)) + col).toNat))), (18, vi x59), (17, vi ((i : Nat) : Int)), (6, vi ((foldR (fun r_ : Nat => labR m j (r_ : Int)) (numR2 m col) e i).2.1)), (0, vr 30), (1, vi j), (2, vi e), (3, vi col), (4, vi w)]) rfl (Nat.le_of_ble_eq_true rfl) rfl ?_
                  refine V_iinc (pc := 170) dX11_measure_170 (x := ((foldR (fun r_ : Nat => labR m j (r_ : Int)) (numR2 m col) e i).2.1)) (ls' := [(6, vi (((foldR (fun r_ : Nat => labR m j (r_ : Int)) (numR2 m col) e i).2.1) + 1)), (7, vl (((foldR (fun r_ : Nat => labR m j (r_ : Int)) (numR2 m col) e i).2.2.1) + (mI m 31 (((2 * ((i : Nat) : Int)) + col).toNat)))), (15, vl (mI m 31 (((2 * ((i : Nat) : Int)) + col).toNat))), (13, vl ((foldR (fun r_ : Nat => labR m j (r_ : Int)) (numR2 m col) e i).2.2.2.2.2.1)), (11, vl x140), (9, vl (mI m 31 (((2 * ((i : Nat) : Int)) + col).toNat))), (5, vi (((foldR (fun r_ : Nat => labR m j (r_ : Int)) (numR2 m col) e i).1) + 1)), (19, vl (mI m 31 (((2 * ((i : Nat) : Int)) + col).toNat))), (18, vi x59), (17, vi ((i : Nat) : Int)), (0, vr 30), (1, vi j), (2, vi e), (3, vi col), (4, vi w)]) rfl (by have hb := foldR_bd (L := e) (lab := (fun r_ : Nat => labR m j (r_ : Int))) hnum i; unfold I32; (try unfold I32 at *); omega) (Nat.le_of_ble_eq_true rfl) rfl ?_
                  refine V_iinc (pc := 173) dX11_measure_173 (x := ((i : Nat) : Int)) (ls' := [(17, vi (((i : Nat) : Int) + 1)), (6, vi (((foldR (fun r_ : Nat => labR m j (r_ : Int)) (numR2 m col) e i).2.1) + 1)), (7, vl (((foldR (fun r_ : Nat => labR m j (r_ : Int)) (numR2 m col) e i).2.2.1) + (mI m 31 (((2 * ((i : Nat) : Int)) + col).toNat)))), (15, vl (mI m 31 (((2 * ((i : Nat) : Int)) + col).toNat))), (13, vl ((foldR (fun r_ : Nat => labR m j (r_ : Int)) (numR2 m col) e i).2.2.2.2.2.1)), (11, vl x140), (9, vl (mI m 31 (((2 * ((i : Nat) : Int)) + col).toNat))), (5, vi (((foldR (fun r_ : Nat => labR m j (r_ : Int)) (numR2 m col) e i).1) + 1)), (19, vl (mI m 31 (((2 * ((i : Nat) : Int)) + col).toNat))), (18, vi x59), (0, vr 30), (1, vi j), (2, vi e), (3, vi col), (4, vi w)]) rfl (by unfold I32 at *; omega) (Nat.le_of_ble_eq_true rfl) rfl ?_
                  refine V_goto (pc := 176) dX11_measure_176 (tgt := 46) rfl ?_
                  try unfold cmpI at *
                  have ela : (labR m j (i : Int)) = x59 := by omega
                  have enu : (mI m 31 (2 * (i : Int) + col).toNat) = mI m 31 (((2 * ((i : Nat) : Int)) + col).toNat) := by omega
                  have e_ : foldR (fun r_ : Nat => labR m j (r_ : Int)) (numR2 m col) e (i + 1) = (((foldR (fun r_ : Nat => labR m j (r_ : Int)) (numR2 m col) e i).1) + 1, ((foldR (fun r_ : Nat => labR m j (r_ : Int)) (numR2 m col) e i).2.1) + 1, ((foldR (fun r_ : Nat => labR m j (r_ : Int)) (numR2 m col) e i).2.2.1) + (mI m 31 (((2 * ((i : Nat) : Int)) + col).toNat)), mI m 31 (((2 * ((i : Nat) : Int)) + col).toNat), x140, (foldR (fun r_ : Nat => labR m j (r_ : Int)) (numR2 m col) e i).2.2.2.2.2.1, mI m 31 (((2 * ((i : Nat) : Int)) + col).toNat)) := by
                    show stepR (labR m j (i : Int)) (numR2 m col i) e (foldR (fun r_ : Nat => labR m j (r_ : Int)) (numR2 m col) e i) = _
                    rw [hni]
                    rw [ela, enu]
                    unfold stepR
                    first
                      | (exfalso; omega)
                      | (rw [if_neg (by omega)])
                      | (rw [if_pos (by omega), if_pos (by omega)])
                      | (rw [if_pos (by omega), if_neg (by omega)]; simp only [Prod.mk.injEq]; repeat' apply And.intro
                         all_goals (first | trivial | omega))
                  have h_ := ih (i + 1) (by omega)
                  rw [e_] at h_
                  refine V_ls (ls' := [(17, vi (((i : Nat) : Int) + 1)), (15, vl (mI m 31 (((2 * ((i : Nat) : Int)) + col).toNat))), (13, vl ((foldR (fun r_ : Nat => labR m j (r_ : Int)) (numR2 m col) e i).2.2.2.2.2.1)), (11, vl x140), (9, vl (mI m 31 (((2 * ((i : Nat) : Int)) + col).toNat))), (7, vl (((foldR (fun r_ : Nat => labR m j (r_ : Int)) (numR2 m col) e i).2.2.1) + (mI m 31 (((2 * ((i : Nat) : Int)) + col).toNat)))), (6, vi (((foldR (fun r_ : Nat => labR m j (r_ : Int)) (numR2 m col) e i).2.1) + 1)), (5, vi (((foldR (fun r_ : Nat => labR m j (r_ : Int)) (numR2 m col) e i).1) + 1)), (0, vr 30), (1, vi j), (2, vi e), (3, vi col), (4, vi w)]) (by intro q_ h_; simp only [List.mem_cons, List.not_mem_nil, or_false] at h_ ⊢; rcases h_ with rfl | rfl | rfl | rfl | rfl | rfl | rfl | rfl | rfl | rfl | rfl | rfl | rfl <;> simp) ?_
                  exact h_
                · skip
                  refine V_ld (pc := 150) dX11_measure_150 (v := vl (mI m 31 (((2 * ((i : Nat) : Int)) + col).toNat))) rfl rfl ?_
                  refine V_goto (pc := 152) dX11_measure_152 (tgt := 157) rfl ?_
                  refine V_st (pc := 157) dX11_measure_157 (ls' := [(13, vl (mI m 31 (((2 * ((i : Nat) : Int)) + col).toNat))), (11, vl x140), (9, vl (mI m 31 (((2 * ((i : Nat) : Int)) + col).toNat))), (5, vi (((foldR (fun r_ : Nat => labR m j (r_ : Int)) (numR2 m col) e i).1) + 1)), (19, vl (mI m 31 (((2 * ((i : Nat) : Int)) + col).toNat))), (18, vi x59), (17, vi ((i : Nat) : Int)), (15, vl ((foldR (fun r_ : Nat => labR m j (r_ : Int)) (numR2 m col) e i).2.2.2.2.2.2)), (7, vl ((foldR (fun r_ : Nat => labR m j (r_ : Int)) (numR2 m col) e i).2.2.1)), (6, vi ((foldR (fun r_ : Nat => labR m j (r_ : Int)) (numR2 m col) e i).2.1)), (0, vr 30), (1, vi j), (2, vi e), (3, vi col), (4, vi w)]) rfl (Nat.le_of_ble_eq_true rfl) rfl ?_
                  refine V_ld (pc := 159) dX11_measure_159 (v := vl (mI m 31 (((2 * ((i : Nat) : Int)) + col).toNat))) rfl rfl ?_
                  refine V_st (pc := 161) dX11_measure_161 (ls' := [(15, vl (mI m 31 (((2 * ((i : Nat) : Int)) + col).toNat))), (13, vl (mI m 31 (((2 * ((i : Nat) : Int)) + col).toNat))), (11, vl x140), (9, vl (mI m 31 (((2 * ((i : Nat) : Int)) + col).toNat))), (5, vi (((foldR (fun r_ : Nat => labR m j (r_ : Int)) (numR2 m col) e i).1) + 1)), (19, vl (mI m 31 (((2 * ((i : Nat) : Int)) + col).toNat))), (18, vi x59), (17, vi ((i : Nat) : Int)), (7, vl ((foldR (fun r_ : Nat => labR m j (r_ : Int)) (numR2 m col) e i).2.2.1)), (6, vi ((foldR (fun r_ : Nat => labR m j (r_ : Int)) (numR2 m col) e i).2.1)), (0, vr 30), (1, vi j), (2, vi e), (3, vi col), (4, vi w)]) rfl (Nat.le_of_ble_eq_true rfl) rfl ?_
                  refine V_ld (pc := 163) dX11_measure_163 (v := vl ((foldR (fun r_ : Nat => labR m j (r_ : Int)) (numR2 m col) e i).2.2.1)) rfl rfl ?_
                  refine V_ld (pc := 165) dX11_measure_165 (v := vl (mI m 31 (((2 * ((i : Nat) : Int)) + col).toNat))) rfl rfl ?_
                  refine V_ladd (pc := 167) dX11_measure_167 (by have hb := foldR_bd (L := e) (lab := (fun r_ : Nat => labR m j (r_ : Int))) hnum i; unfold I64; (try unfold I32 at *); omega) ?_
                  refine V_st (pc := 168) dX11_measure_168 (ls' := [(7, vl (((foldR (fun r_ : Nat => labR m j (r_ : Int)) (numR2 m col) e i).2.2.1) + (mI m 31 (((2 * ((i : Nat) : Int)) + col).toNat)))), (15, vl (mI m 31 (((2 * ((i : Nat) : Int)) + col).toNat))), (13, vl (mI m 31 (((2 * ((i : Nat) : Int)) + col).toNat))), (11, vl x140), (9, vl (mI m 31 (((2 * ((i : Nat) : Int)) + col).toNat))), (5, vi (((foldR (fun r_ : Nat => labR m j (r_ : Int)) (numR2 m col) e i).1) + 1)), (19, vl (mI m 31 (((2 * ((i : Nat) : Int)) + col).toNat))), (18, vi x59), (17, vi ((i : Nat) : Int)), (6, vi ((foldR (fun r_ : Nat => labR m j (r_ : Int)) (numR2 m col) e i).2.1)), (0, vr 30), (1, vi j), (2, vi e), (3, vi col), (4, vi w)]) rfl (Nat.le_of_ble_eq_true rfl) rfl ?_
                  refine V_iinc (pc := 170) dX11_measure_170 (x := ((foldR (fun r_ : Nat => labR m j (r_ : Int)) (numR2 m col) e i).2.1)) (ls' := [(6, vi (((foldR (fun r_ : Nat => labR m j (r_ : Int)) (numR2 m col) e i).2.1) + 1)), (7, vl (((foldR (fun r_ : Nat => labR m j (r_ : Int)) (numR2 m col) e i).2.2.1) + (mI m 31 (((2 * ((i : Nat) : Int)) + col).toNat)))), (15, vl (mI m 31 (((2 * ((i : Nat) : Int)) + col).toNat))), (13, vl (mI m 31 (((2 * ((i : Nat) : Int)) + col).toNat))), (11, vl x140), (9, vl (mI m 31 (((2 * ((i : Nat) : Int)) + col).toNat))), (5, vi (((foldR (fun r_ : Nat => labR m j (r_ : Int)) (numR2 m col) e i).1) + 1)), (19, vl (mI m 31 (((2 * ((i : Nat) : Int)) + col).toNat))), (18, vi x59), (17, vi ((i : Nat) : Int)), (0, vr 30), (1, vi j), (2, vi e), (3, vi col), (4, vi w)]) rfl (by have hb := foldR_bd (L := e) (lab := (fun r_ : Nat => labR m j (r_ : Int))) hnum i; unfold I32; (try unfold I32 at *); omega) (Nat.le_of_ble_eq_true rfl) rfl ?_
                  refine V_iinc (pc := 173) dX11_measure_173 (x := ((i : Nat) : Int)) (ls' := [(17, vi (((i : Nat) : Int) + 1)), (6, vi (((foldR (fun r_ : Nat => labR m j (r_ : Int)) (numR2 m col) e i).2.1) + 1)), (7, vl (((foldR (fun r_ : Nat => labR m j (r_ : Int)) (numR2 m col) e i).2.2.1) + (mI m 31 (((2 * ((i : Nat) : Int)) + col).toNat)))), (15, vl (mI m 31 (((2 * ((i : Nat) : Int)) + col).toNat))), (13, vl (mI m 31 (((2 * ((i : Nat) : Int)) + col).toNat))), (11, vl x140), (9, vl (mI m 31 (((2 * ((i : Nat) : Int)) + col).toNat))), (5, vi (((foldR (fun r_ : Nat => labR m j (r_ : Int)) (numR2 m col) e i).1) + 1)), (19, vl (mI m 31 (((2 * ((i : Nat) : Int)) + col).toNat))), (18, vi x59), (0, vr 30), (1, vi j), (2, vi e), (3, vi col), (4, vi w)]) rfl (by unfold I32 at *; omega) (Nat.le_of_ble_eq_true rfl) rfl ?_
                  refine V_goto (pc := 176) dX11_measure_176 (tgt := 46) rfl ?_
                  try unfold cmpI at *
                  have ela : (labR m j (i : Int)) = x59 := by omega
                  have enu : (mI m 31 (2 * (i : Int) + col).toNat) = mI m 31 (((2 * ((i : Nat) : Int)) + col).toNat) := by omega
                  have e_ : foldR (fun r_ : Nat => labR m j (r_ : Int)) (numR2 m col) e (i + 1) = (((foldR (fun r_ : Nat => labR m j (r_ : Int)) (numR2 m col) e i).1) + 1, ((foldR (fun r_ : Nat => labR m j (r_ : Int)) (numR2 m col) e i).2.1) + 1, ((foldR (fun r_ : Nat => labR m j (r_ : Int)) (numR2 m col) e i).2.2.1) + (mI m 31 (((2 * ((i : Nat) : Int)) + col).toNat)), mI m 31 (((2 * ((i : Nat) : Int)) + col).toNat), x140, mI m 31 (((2 * ((i : Nat) : Int)) + col).toNat), mI m 31 (((2 * ((i : Nat) : Int)) + col).toNat)) := by
                    show stepR (labR m j (i : Int)) (numR2 m col i) e (foldR (fun r_ : Nat => labR m j (r_ : Int)) (numR2 m col) e i) = _
                    rw [hni]
                    rw [ela, enu]
                    unfold stepR
                    first
                      | (exfalso; omega)
                      | (rw [if_neg (by omega)])
                      | (rw [if_pos (by omega), if_pos (by omega)])
                      | (rw [if_pos (by omega), if_neg (by omega)]; simp only [Prod.mk.injEq]; repeat' apply And.intro
                         all_goals (first | trivial | omega))
                  have h_ := ih (i + 1) (by omega)
                  rw [e_] at h_
                  refine V_ls (ls' := [(17, vi (((i : Nat) : Int) + 1)), (15, vl (mI m 31 (((2 * ((i : Nat) : Int)) + col).toNat))), (13, vl (mI m 31 (((2 * ((i : Nat) : Int)) + col).toNat))), (11, vl x140), (9, vl (mI m 31 (((2 * ((i : Nat) : Int)) + col).toNat))), (7, vl (((foldR (fun r_ : Nat => labR m j (r_ : Int)) (numR2 m col) e i).2.2.1) + (mI m 31 (((2 * ((i : Nat) : Int)) + col).toNat)))), (6, vi (((foldR (fun r_ : Nat => labR m j (r_ : Int)) (numR2 m col) e i).2.1) + 1)), (5, vi (((foldR (fun r_ : Nat => labR m j (r_ : Int)) (numR2 m col) e i).1) + 1)), (0, vr 30), (1, vi j), (2, vi e), (3, vi col), (4, vi w)]) (by intro q_ h_; simp only [List.mem_cons, List.not_mem_nil, or_false] at h_ ⊢; rcases h_ with rfl | rfl | rfl | rfl | rfl | rfl | rfl | rfl | rfl | rfl | rfl | rfl | rfl <;> simp) ?_
                  exact h_
              · skip
                refine V_ld (pc := 131) dX11_measure_131 (v := vl (mI m 31 (((2 * ((i : Nat) : Int)) + col).toNat))) rfl rfl ?_
                refine V_goto (pc := 133) dX11_measure_133 (tgt := 143) rfl ?_
                refine V_st (pc := 143) dX11_measure_143 (ls' := [(11, vl (mI m 31 (((2 * ((i : Nat) : Int)) + col).toNat))), (9, vl (mI m 31 (((2 * ((i : Nat) : Int)) + col).toNat))), (5, vi (((foldR (fun r_ : Nat => labR m j (r_ : Int)) (numR2 m col) e i).1) + 1)), (19, vl (mI m 31 (((2 * ((i : Nat) : Int)) + col).toNat))), (18, vi x59), (17, vi ((i : Nat) : Int)), (15, vl ((foldR (fun r_ : Nat => labR m j (r_ : Int)) (numR2 m col) e i).2.2.2.2.2.2)), (13, vl ((foldR (fun r_ : Nat => labR m j (r_ : Int)) (numR2 m col) e i).2.2.2.2.2.1)), (7, vl ((foldR (fun r_ : Nat => labR m j (r_ : Int)) (numR2 m col) e i).2.2.1)), (6, vi ((foldR (fun r_ : Nat => labR m j (r_ : Int)) (numR2 m col) e i).2.1)), (0, vr 30), (1, vi j), (2, vi e), (3, vi col), (4, vi w)]) rfl (Nat.le_of_ble_eq_true rfl) rfl ?_
                refine V_ld (pc := 145) dX11_measure_145 (v := vi ((foldR (fun r_ : Nat => labR m j (r_ : Int)) (numR2 m col) e i).2.1)) rfl rfl ?_
                refine V_if_ne (pc := 147) dX11_measure_147 (tgt := 155) rfl (fun h147 => ?_) (fun h147 => ?_)
                · skip
                  refine V_ld (pc := 155) dX11_measure_155 (v := vl ((foldR (fun r_ : Nat => labR m j (r_ : Int)) (numR2 m col) e i).2.2.2.2.2.1)) rfl rfl ?_
                  refine V_st (pc := 157) dX11_measure_157 (ls' := [(13, vl ((foldR (fun r_ : Nat => labR m j (r_ : Int)) (numR2 m col) e i).2.2.2.2.2.1)), (11, vl (mI m 31 (((2 * ((i : Nat) : Int)) + col).toNat))), (9, vl (mI m 31 (((2 * ((i : Nat) : Int)) + col).toNat))), (5, vi (((foldR (fun r_ : Nat => labR m j (r_ : Int)) (numR2 m col) e i).1) + 1)), (19, vl (mI m 31 (((2 * ((i : Nat) : Int)) + col).toNat))), (18, vi x59), (17, vi ((i : Nat) : Int)), (15, vl ((foldR (fun r_ : Nat => labR m j (r_ : Int)) (numR2 m col) e i).2.2.2.2.2.2)), (7, vl ((foldR (fun r_ : Nat => labR m j (r_ : Int)) (numR2 m col) e i).2.2.1)), (6, vi ((foldR (fun r_ : Nat => labR m j (r_ : Int)) (numR2 m col) e i).2.1)), (0, vr 30), (1, vi j), (2, vi e), (3, vi col), (4, vi w)]) rfl (Nat.le_of_ble_eq_true rfl) rfl ?_
                  refine V_ld (pc := 159) dX11_measure_159 (v := vl (mI m 31 (((2 * ((i : Nat) : Int)) + col).toNat))) rfl rfl ?_
                  refine V_st (pc := 161) dX11_measure_161 (ls' := [(15, vl (mI m 31 (((2 * ((i : Nat) : Int)) + col).toNat))), (13, vl ((foldR (fun r_ : Nat => labR m j (r_ : Int)) (numR2 m col) e i).2.2.2.2.2.1)), (11, vl (mI m 31 (((2 * ((i : Nat) : Int)) + col).toNat))), (9, vl (mI m 31 (((2 * ((i : Nat) : Int)) + col).toNat))), (5, vi (((foldR (fun r_ : Nat => labR m j (r_ : Int)) (numR2 m col) e i).1) + 1)), (19, vl (mI m 31 (((2 * ((i : Nat) : Int)) + col).toNat))), (18, vi x59), (17, vi ((i : Nat) : Int)), (7, vl ((foldR (fun r_ : Nat => labR m j (r_ : Int)) (numR2 m col) e i).2.2.1)), (6, vi ((foldR (fun r_ : Nat => labR m j (r_ : Int)) (numR2 m col) e i).2.1)), (0, vr 30), (1, vi j), (2, vi e), (3, vi col), (4, vi w)]) rfl (Nat.le_of_ble_eq_true rfl) rfl ?_
                  refine V_ld (pc := 163) dX11_measure_163 (v := vl ((foldR (fun r_ : Nat => labR m j (r_ : Int)) (numR2 m col) e i).2.2.1)) rfl rfl ?_
                  refine V_ld (pc := 165) dX11_measure_165 (v := vl (mI m 31 (((2 * ((i : Nat) : Int)) + col).toNat))) rfl rfl ?_
                  refine V_ladd (pc := 167) dX11_measure_167 (by have hb := foldR_bd (L := e) (lab := (fun r_ : Nat => labR m j (r_ : Int))) hnum i; unfold I64; (try unfold I32 at *); omega) ?_
                  refine V_st (pc := 168) dX11_measure_168 (ls' := [(7, vl (((foldR (fun r_ : Nat => labR m j (r_ : Int)) (numR2 m col) e i).2.2.1) + (mI m 31 (((2 * ((i : Nat) : Int)) + col).toNat)))), (15, vl (mI m 31 (((2 * ((i : Nat) : Int)) + col).toNat))), (13, vl ((foldR (fun r_ : Nat => labR m j (r_ : Int)) (numR2 m col) e i).2.2.2.2.2.1)), (11, vl (mI m 31 (((2 * ((i : Nat) : Int)) + col).toNat))), (9, vl (mI m 31 (((2 * ((i : Nat) : Int)) + col).toNat))), (5, vi (((foldR (fun r_ : Nat => labR m j (r_ : Int)) (numR2 m col) e i).1) + 1)), (19, vl (mI m 31 (((2 * ((i : Nat) : Int)) + col).toNat))), (18, vi x59), (17, vi ((i : Nat) : Int)), (6, vi ((foldR (fun r_ : Nat => labR m j (r_ : Int)) (numR2 m col) e i).2.1)), (0, vr 30), (1, vi j), (2, vi e), (3, vi col), (4, vi w)]) rfl (Nat.le_of_ble_eq_true rfl) rfl ?_
                  refine V_iinc (pc := 170) dX11_measure_170 (x := ((foldR (fun r_ : Nat => labR m j (r_ : Int)) (numR2 m col) e i).2.1)) (ls' := [(6, vi (((foldR (fun r_ : Nat => labR m j (r_ : Int)) (numR2 m col) e i).2.1) + 1)), (7, vl (((foldR (fun r_ : Nat => labR m j (r_ : Int)) (numR2 m col) e i).2.2.1) + (mI m 31 (((2 * ((i : Nat) : Int)) + col).toNat)))), (15, vl (mI m 31 (((2 * ((i : Nat) : Int)) + col).toNat))), (13, vl ((foldR (fun r_ : Nat => labR m j (r_ : Int)) (numR2 m col) e i).2.2.2.2.2.1)), (11, vl (mI m 31 (((2 * ((i : Nat) : Int)) + col).toNat))), (9, vl (mI m 31 (((2 * ((i : Nat) : Int)) + col).toNat))), (5, vi (((foldR (fun r_ : Nat => labR m j (r_ : Int)) (numR2 m col) e i).1) + 1)), (19, vl (mI m 31 (((2 * ((i : Nat) : Int)) + col).toNat))), (18, vi x59), (17, vi ((i : Nat) : Int)), (0, vr 30), (1, vi j), (2, vi e), (3, vi col), (4, vi w)]) rfl (by have hb := foldR_bd (L := e) (lab := (fun r_ : Nat => labR m j (r_ : Int))) hnum i; unfold I32; (try unfold I32 at *); omega) (Nat.le_of_ble_eq_true rfl) rfl ?_
                  refine V_iinc (pc := 173) dX11_measure_173 (x := ((i : Nat) : Int)) (ls' := [(17, vi (((i : Nat) : Int) + 1)), (6, vi (((foldR (fun r_ : Nat => labR m j (r_ : Int)) (numR2 m col) e i).2.1) + 1)), (7, vl (((foldR (fun r_ : Nat => labR m j (r_ : Int)) (numR2 m col) e i).2.2.1) + (mI m 31 (((2 * ((i : Nat) : Int)) + col).toNat)))), (15, vl (mI m 31 (((2 * ((i : Nat) : Int)) + col).toNat))), (13, vl ((foldR (fun r_ : Nat => labR m j (r_ : Int)) (numR2 m col) e i).2.2.2.2.2.1)), (11, vl (mI m 31 (((2 * ((i : Nat) : Int)) + col).toNat))), (9, vl (mI m 31 (((2 * ((i : Nat) : Int)) + col).toNat))), (5, vi (((foldR (fun r_ : Nat => labR m j (r_ : Int)) (numR2 m col) e i).1) + 1)), (19, vl (mI m 31 (((2 * ((i : Nat) : Int)) + col).toNat))), (18, vi x59), (0, vr 30), (1, vi j), (2, vi e), (3, vi col), (4, vi w)]) rfl (by unfold I32 at *; omega) (Nat.le_of_ble_eq_true rfl) rfl ?_
                  refine V_goto (pc := 176) dX11_measure_176 (tgt := 46) rfl ?_
                  try unfold cmpI at *
                  have ela : (labR m j (i : Int)) = x59 := by omega
                  have enu : (mI m 31 (2 * (i : Int) + col).toNat) = mI m 31 (((2 * ((i : Nat) : Int)) + col).toNat) := by omega
                  have e_ : foldR (fun r_ : Nat => labR m j (r_ : Int)) (numR2 m col) e (i + 1) = (((foldR (fun r_ : Nat => labR m j (r_ : Int)) (numR2 m col) e i).1) + 1, ((foldR (fun r_ : Nat => labR m j (r_ : Int)) (numR2 m col) e i).2.1) + 1, ((foldR (fun r_ : Nat => labR m j (r_ : Int)) (numR2 m col) e i).2.2.1) + (mI m 31 (((2 * ((i : Nat) : Int)) + col).toNat)), mI m 31 (((2 * ((i : Nat) : Int)) + col).toNat), mI m 31 (((2 * ((i : Nat) : Int)) + col).toNat), (foldR (fun r_ : Nat => labR m j (r_ : Int)) (numR2 m col) e i).2.2.2.2.2.1, mI m 31 (((2 * ((i : Nat) : Int)) + col).toNat)) := by
                    show stepR (labR m j (i : Int)) (numR2 m col i) e (foldR (fun r_ : Nat => labR m j (r_ : Int)) (numR2 m col) e i) = _
                    rw [hni]
                    rw [ela, enu]
                    unfold stepR
                    first
                      | (exfalso; omega)
                      | (rw [if_neg (by omega)])
                      | (rw [if_pos (by omega), if_pos (by omega)])
                      | (rw [if_pos (by omega), if_neg (by omega)]; simp only [Prod.mk.injEq]; repeat' apply And.intro
                         all_goals (first | trivial | omega))
                  have h_ := ih (i + 1) (by omega)
                  rw [e_] at h_
                  refine V_ls (ls' := [(17, vi (((i : Nat) : Int) + 1)), (15, vl (mI m 31 (((2 * ((i : Nat) : Int)) + col).toNat))), (13, vl ((foldR (fun r_ : Nat => labR m j (r_ : Int)) (numR2 m col) e i).2.2.2.2.2.1)), (11, vl (mI m 31 (((2 * ((i : Nat) : Int)) + col).toNat))), (9, vl (mI m 31 (((2 * ((i : Nat) : Int)) + col).toNat))), (7, vl (((foldR (fun r_ : Nat => labR m j (r_ : Int)) (numR2 m col) e i).2.2.1) + (mI m 31 (((2 * ((i : Nat) : Int)) + col).toNat)))), (6, vi (((foldR (fun r_ : Nat => labR m j (r_ : Int)) (numR2 m col) e i).2.1) + 1)), (5, vi (((foldR (fun r_ : Nat => labR m j (r_ : Int)) (numR2 m col) e i).1) + 1)), (0, vr 30), (1, vi j), (2, vi e), (3, vi col), (4, vi w)]) (by intro q_ h_; simp only [List.mem_cons, List.not_mem_nil, or_false] at h_ ⊢; rcases h_ with rfl | rfl | rfl | rfl | rfl | rfl | rfl | rfl | rfl | rfl | rfl | rfl | rfl <;> simp) ?_
                  exact h_
                · skip
                  refine V_ld (pc := 150) dX11_measure_150 (v := vl (mI m 31 (((2 * ((i : Nat) : Int)) + col).toNat))) rfl rfl ?_
                  refine V_goto (pc := 152) dX11_measure_152 (tgt := 157) rfl ?_
                  refine V_st (pc := 157) dX11_measure_157 (ls' := [(13, vl (mI m 31 (((2 * ((i : Nat) : Int)) + col).toNat))), (11, vl (mI m 31 (((2 * ((i : Nat) : Int)) + col).toNat))), (9, vl (mI m 31 (((2 * ((i : Nat) : Int)) + col).toNat))), (5, vi (((foldR (fun r_ : Nat => labR m j (r_ : Int)) (numR2 m col) e i).1) + 1)), (19, vl (mI m 31 (((2 * ((i : Nat) : Int)) + col).toNat))), (18, vi x59), (17, vi ((i : Nat) : Int)), (15, vl ((foldR (fun r_ : Nat => labR m j (r_ : Int)) (numR2 m col) e i).2.2.2.2.2.2)), (7, vl ((foldR (fun r_ : Nat => labR m j (r_ : Int)) (numR2 m col) e i).2.2.1)), (6, vi ((foldR (fun r_ : Nat => labR m j (r_ : Int)) (numR2 m col) e i).2.1)), (0, vr 30), (1, vi j), (2, vi e), (3, vi col), (4, vi w)]) rfl (Nat.le_of_ble_eq_true rfl) rfl ?_
                  refine V_ld (pc := 159) dX11_measure_159 (v := vl (mI m 31 (((2 * ((i : Nat) : Int)) + col).toNat))) rfl rfl ?_
                  refine V_st (pc := 161) dX11_measure_161 (ls' := [(15, vl (mI m 31 (((2 * ((i : Nat) : Int)) + col).toNat))), (13, vl (mI m 31 (((2 * ((i : Nat) : Int)) + col).toNat))), (11, vl (mI m 31 (((2 * ((i : Nat) : Int)) + col).toNat))), (9, vl (mI m 31 (((2 * ((i : Nat) : Int)) + col).toNat))), (5, vi (((foldR (fun r_ : Nat => labR m j (r_ : Int)) (numR2 m col) e i).1) + 1)), (19, vl (mI m 31 (((2 * ((i : Nat) : Int)) + col).toNat))), (18, vi x59), (17, vi ((i : Nat) : Int)), (7, vl ((foldR (fun r_ : Nat => labR m j (r_ : Int)) (numR2 m col) e i).2.2.1)), (6, vi ((foldR (fun r_ : Nat => labR m j (r_ : Int)) (numR2 m col) e i).2.1)), (0, vr 30), (1, vi j), (2, vi e), (3, vi col), (4, vi w)]) rfl (Nat.le_of_ble_eq_true rfl) rfl ?_
                  refine V_ld (pc := 163) dX11_measure_163 (v := vl ((foldR (fun r_ : Nat => labR m j (r_ : Int)) (numR2 m col) e i).2.2.1)) rfl rfl ?_
                  refine V_ld (pc := 165) dX11_measure_165 (v := vl (mI m 31 (((2 * ((i : Nat) : Int)) + col).toNat))) rfl rfl ?_
                  refine V_ladd (pc := 167) dX11_measure_167 (by have hb := foldR_bd (L := e) (lab := (fun r_ : Nat => labR m j (r_ : Int))) hnum i; unfold I64; (try unfold I32 at *); omega) ?_
                  refine V_st (pc := 168) dX11_measure_168 (ls' := [(7, vl (((foldR (fun r_ : Nat => labR m j (r_ : Int)) (numR2 m col) e i).2.2.1) + (mI m 31 (((2 * ((i : Nat) : Int)) + col).toNat)))), (15, vl (mI m 31 (((2 * ((i : Nat) : Int)) + col).toNat))), (13, vl (mI m 31 (((2 * ((i : Nat) : Int)) + col).toNat))), (11, vl (mI m 31 (((2 * ((i : Nat) : Int)) + col).toNat))), (9, vl (mI m 31 (((2 * ((i : Nat) : Int)) + col).toNat))), (5, vi (((foldR (fun r_ : Nat => labR m j (r_ : Int)) (numR2 m col) e i).1) + 1)), (19, vl (mI m 31 (((2 * ((i : Nat) : Int)) + col).toNat))), (18, vi x59), (17, vi ((i : Nat) : Int)), (6, vi ((foldR (fun r_ : Nat => labR m j (r_ : Int)) (numR2 m col) e i).2.1)), (0, vr 30), (1, vi j), (2, vi e), (3, vi col), (4, vi w)]) rfl (Nat.le_of_ble_eq_true rfl) rfl ?_
                  refine V_iinc (pc := 170) dX11_measure_170 (x := ((foldR (fun r_ : Nat => labR m j (r_ : Int)) (numR2 m col) e i).2.1)) (ls' := [(6, vi (((foldR (fun r_ : Nat => labR m j (r_ : Int)) (numR2 m col) e i).2.1) + 1)), (7, vl (((foldR (fun r_ : Nat => labR m j (r_ : Int)) (numR2 m col) e i).2.2.1) + (mI m 31 (((2 * ((i : Nat) : Int)) + col).toNat)))), (15, vl (mI m 31 (((2 * ((i : Nat) : Int)) + col).toNat))), (13, vl (mI m 31 (((2 * ((i : Nat) : Int)) + col).toNat))), (11, vl (mI m 31 (((2 * ((i : Nat) : Int)) + col).toNat))), (9, vl (mI m 31 (((2 * ((i : Nat) : Int)) + col).toNat))), (5, vi (((foldR (fun r_ : Nat => labR m j (r_ : Int)) (numR2 m col) e i).1) + 1)), (19, vl (mI m 31 (((2 * ((i : Nat) : Int)) + col).toNat))), (18, vi x59), (17, vi ((i : Nat) : Int)), (0, vr 30), (1, vi j), (2, vi e), (3, vi col), (4, vi w)]) rfl (by have hb := foldR_bd (L := e) (lab := (fun r_ : Nat => labR m j (r_ : Int))) hnum i; unfold I32; (try unfold I32 at *); omega) (Nat.le_of_ble_eq_true rfl) rfl ?_
                  refine V_iinc (pc := 173) dX11_measure_173 (x := ((i : Nat) : Int)) (ls' := [(17, vi (((i : Nat) : Int) + 1)), (6, vi (((foldR (fun r_ : Nat => labR m j (r_ : Int)) (numR2 m col) e i).2.1) + 1)), (7, vl (((foldR (fun r_ : Nat => labR m j (r_ : Int)) (numR2 m col) e i).2.2.1) + (mI m 31 (((2 * ((i : Nat) : Int)) + col).toNat)))), (15, vl (mI m 31 (((2 * ((i : Nat) : Int)) + col).toNat))), (13, vl (mI m 31 (((2 * ((i : Nat) : Int)) + col).toNat))), (11, vl (mI m 31 (((2 * ((i : Nat) : Int)) + col).toNat))), (9, vl (mI m 31 (((2 * ((i : Nat) : Int)) + col).toNat))), (5, vi (((foldR (fun r_ : Nat => labR m j (r_ : Int)) (numR2 m col) e i).1) + 1)), (19, vl (mI m 31 (((2 * ((i : Nat) : Int)) + col).toNat))), (18, vi x59), (0, vr 30), (1, vi j), (2, vi e), (3, vi col), (4, vi w)]) rfl (by unfold I32 at *; omega) (Nat.le_of_ble_eq_true rfl) rfl ?_
                  refine V_goto (pc := 176) dX11_measure_176 (tgt := 46) rfl ?_
                  try unfold cmpI at *
                  have ela : (labR m j (i : Int)) = x59 := by omega
                  have enu : (mI m 31 (2 * (i : Int) + col).toNat) = mI m 31 (((2 * ((i : Nat) : Int)) + col).toNat) := by omega
                  have e_ : foldR (fun r_ : Nat => labR m j (r_ : Int)) (numR2 m col) e (i + 1) = (((foldR (fun r_ : Nat => labR m j (r_ : Int)) (numR2 m col) e i).1) + 1, ((foldR (fun r_ : Nat => labR m j (r_ : Int)) (numR2 m col) e i).2.1) + 1, ((foldR (fun r_ : Nat => labR m j (r_ : Int)) (numR2 m col) e i).2.2.1) + (mI m 31 (((2 * ((i : Nat) : Int)) + col).toNat)), mI m 31 (((2 * ((i : Nat) : Int)) + col).toNat), mI m 31 (((2 * ((i : Nat) : Int)) + col).toNat), mI m 31 (((2 * ((i : Nat) : Int)) + col).toNat), mI m 31 (((2 * ((i : Nat) : Int)) + col).toNat)) := by
                    show stepR (labR m j (i : Int)) (numR2 m col i) e (foldR (fun r_ : Nat => labR m j (r_ : Int)) (numR2 m col) e i) = _
                    rw [hni]
                    rw [ela, enu]
                    unfold stepR
                    first
                      | (exfalso; omega)
                      | (rw [if_neg (by omega)])
                      | (rw [if_pos (by omega), if_pos (by omega)])
                      | (rw [if_pos (by omega), if_neg (by omega)]; simp only [Prod.mk.injEq]; repeat' apply And.intro
                         all_goals (first | trivial | omega))
                  have h_ := ih (i + 1) (by omega)
                  rw [e_] at h_
                  refine V_ls (ls' := [(17, vi (((i : Nat) : Int) + 1)), (15, vl (mI m 31 (((2 * ((i : Nat) : Int)) + col).toNat))), (13, vl (mI m 31 (((2 * ((i : Nat) : Int)) + col).toNat))), (11, vl (mI m 31 (((2 * ((i : Nat) : Int)) + col).toNat))), (9, vl (mI m 31 (((2 * ((i : Nat) : Int)) + col).toNat))), (7, vl (((foldR (fun r_ : Nat => labR m j (r_ : Int)) (numR2 m col) e i).2.2.1) + (mI m 31 (((2 * ((i : Nat) : Int)) + col).toNat)))), (6, vi (((foldR (fun r_ : Nat => labR m j (r_ : Int)) (numR2 m col) e i).2.1) + 1)), (5, vi (((foldR (fun r_ : Nat => labR m j (r_ : Int)) (numR2 m col) e i).1) + 1)), (0, vr 30), (1, vi j), (2, vi e), (3, vi col), (4, vi w)]) (by intro q_ h_; simp only [List.mem_cons, List.not_mem_nil, or_false] at h_ ⊢; rcases h_ with rfl | rfl | rfl | rfl | rfl | rfl | rfl | rfl | rfl | rfl | rfl | rfl | rfl <;> simp) ?_
                  exact h_
        · skip
          refine V_ld (pc := 89) dX11_measure_89 (v := vi x59) rfl rfl ?_
          refine V_ld (pc := 91) dX11_measure_91 (v := vi e) rfl rfl ?_
          refine V_icmp_ne (pc := 92) dX11_measure_92 (tgt := 173) rfl (fun h92 => ?_) (fun h92 => ?_)
          · skip
            refine V_iinc (pc := 173) dX11_measure_173 (x := ((i : Nat) : Int)) (ls' := [(17, vi (((i : Nat) : Int) + 1)), (19, vl (mI m 31 (((2 * ((i : Nat) : Int)) + col).toNat))), (18, vi x59), (15, vl ((foldR (fun r_ : Nat => labR m j (r_ : Int)) (numR2 m col) e i).2.2.2.2.2.2)), (13, vl ((foldR (fun r_ : Nat => labR m j (r_ : Int)) (numR2 m col) e i).2.2.2.2.2.1)), (11, vl ((foldR (fun r_ : Nat => labR m j (r_ : Int)) (numR2 m col) e i).2.2.2.2.1)), (9, vl ((foldR (fun r_ : Nat => labR m j (r_ : Int)) (numR2 m col) e i).2.2.2.1)), (7, vl ((foldR (fun r_ : Nat => labR m j (r_ : Int)) (numR2 m col) e i).2.2.1)), (6, vi ((foldR (fun r_ : Nat => labR m j (r_ : Int)) (numR2 m col) e i).2.1)), (5, vi ((foldR (fun r_ : Nat => labR m j (r_ : Int)) (numR2 m col) e i).1)), (0, vr 30), (1, vi j), (2, vi e), (3, vi col), (4, vi w)]) rfl (by unfold I32 at *; omega) (Nat.le_of_ble_eq_true rfl) rfl ?_
            refine V_goto (pc := 176) dX11_measure_176 (tgt := 46) rfl ?_
            try unfold cmpI at *
            have ela : (labR m j (i : Int)) = x59 := by omega
            have enu : (mI m 31 (2 * (i : Int) + col).toNat) = mI m 31 (((2 * ((i : Nat) : Int)) + col).toNat) := by omega
            have e_ : foldR (fun r_ : Nat => labR m j (r_ : Int)) (numR2 m col) e (i + 1) = ((foldR (fun r_ : Nat => labR m j (r_ : Int)) (numR2 m col) e i).1, (foldR (fun r_ : Nat => labR m j (r_ : Int)) (numR2 m col) e i).2.1, (foldR (fun r_ : Nat => labR m j (r_ : Int)) (numR2 m col) e i).2.2.1, (foldR (fun r_ : Nat => labR m j (r_ : Int)) (numR2 m col) e i).2.2.2.1, (foldR (fun r_ : Nat => labR m j (r_ : Int)) (numR2 m col) e i).2.2.2.2.1, (foldR (fun r_ : Nat => labR m j (r_ : Int)) (numR2 m col) e i).2.2.2.2.2.1, (foldR (fun r_ : Nat => labR m j (r_ : Int)) (numR2 m col) e i).2.2.2.2.2.2) := by
              show stepR (labR m j (i : Int)) (numR2 m col i) e (foldR (fun r_ : Nat => labR m j (r_ : Int)) (numR2 m col) e i) = _
              rw [hni]
              rw [ela, enu]
              unfold stepR
              first
                | (exfalso; omega)
                | (rw [if_neg (by omega)])
                | (rw [if_pos (by omega), if_pos (by omega)])
                | (rw [if_pos (by omega), if_neg (by omega)]; simp only [Prod.mk.injEq]; repeat' apply And.intro
                   all_goals (first | trivial | omega))
            have h_ := ih (i + 1) (by omega)
            rw [e_] at h_
            refine V_ls (ls' := [(17, vi (((i : Nat) : Int) + 1)), (15, vl ((foldR (fun r_ : Nat => labR m j (r_ : Int)) (numR2 m col) e i).2.2.2.2.2.2)), (13, vl ((foldR (fun r_ : Nat => labR m j (r_ : Int)) (numR2 m col) e i).2.2.2.2.2.1)), (11, vl ((foldR (fun r_ : Nat => labR m j (r_ : Int)) (numR2 m col) e i).2.2.2.2.1)), (9, vl ((foldR (fun r_ : Nat => labR m j (r_ : Int)) (numR2 m col) e i).2.2.2.1)), (7, vl ((foldR (fun r_ : Nat => labR m j (r_ : Int)) (numR2 m col) e i).2.2.1)), (6, vi ((foldR (fun r_ : Nat => labR m j (r_ : Int)) (numR2 m col) e i).2.1)), (5, vi ((foldR (fun r_ : Nat => labR m j (r_ : Int)) (numR2 m col) e i).1)), (0, vr 30), (1, vi j), (2, vi e), (3, vi col), (4, vi w)]) (by intro q_ h_; simp only [List.mem_cons, List.not_mem_nil, or_false] at h_ ⊢; rcases h_ with rfl | rfl | rfl | rfl | rfl | rfl | rfl | rfl | rfl | rfl | rfl | rfl | rfl <;> simp) ?_
            exact h_
          · skip
            refine V_iinc (pc := 95) dX11_measure_95 (x := ((foldR (fun r_ : Nat => labR m j (r_ : Int)) (numR2 m col) e i).1)) (ls' := [(5, vi (((foldR (fun r_ : Nat => labR m j (r_ : Int)) (numR2 m col) e i).1) + 1)), (19, vl (mI m 31 (((2 * ((i : Nat) : Int)) + col).toNat))), (18, vi x59), (17, vi ((i : Nat) : Int)), (15, vl ((foldR (fun r_ : Nat => labR m j (r_ : Int)) (numR2 m col) e i).2.2.2.2.2.2)), (13, vl ((foldR (fun r_ : Nat => labR m j (r_ : Int)) (numR2 m col) e i).2.2.2.2.2.1)), (11, vl ((foldR (fun r_ : Nat => labR m j (r_ : Int)) (numR2 m col) e i).2.2.2.2.1)), (9, vl ((foldR (fun r_ : Nat => labR m j (r_ : Int)) (numR2 m col) e i).2.2.2.1)), (7, vl ((foldR (fun r_ : Nat => labR m j (r_ : Int)) (numR2 m col) e i).2.2.1)), (6, vi ((foldR (fun r_ : Nat => labR m j (r_ : Int)) (numR2 m col) e i).2.1)), (0, vr 30), (1, vi j), (2, vi e), (3, vi col), (4, vi w)]) rfl (by have hb := foldR_bd (L := e) (lab := (fun r_ : Nat => labR m j (r_ : Int))) hnum i; unfold I32; (try unfold I32 at *); omega) (Nat.le_of_ble_eq_true rfl) rfl ?_
            refine V_ld (pc := 98) dX11_measure_98 (v := vl (mI m 31 (((2 * ((i : Nat) : Int)) + col).toNat))) rfl rfl ?_
            refine V_ldc2 (pc := 100) dX11_measure_100 (x := 1000) kl_RX11_384 (by unfold I64; omega) rfl ?_
            refine V_lcmp (pc := 103) dX11_measure_103 ?_
            refine V_if_eq (pc := 104) dX11_measure_104 (tgt := 173) rfl (fun h104 => ?_) (fun h104 => ?_)
            · skip
              refine V_iinc (pc := 173) dX11_measure_173 (x := ((i : Nat) : Int)) (ls' := [(17, vi (((i : Nat) : Int) + 1)), (5, vi (((foldR (fun r_ : Nat => labR m j (r_ : Int)) (numR2 m col) e i).1) + 1)), (19, vl (mI m 31 (((2 * ((i : Nat) : Int)) + col).toNat))), (18, vi x59), (15, vl ((foldR (fun r_ : Nat => labR m j (r_ : Int)) (numR2 m col) e i).2.2.2.2.2.2)), (13, vl ((foldR (fun r_ : Nat => labR m j (r_ : Int)) (numR2 m col) e i).2.2.2.2.2.1)), (11, vl ((foldR (fun r_ : Nat => labR m j (r_ : Int)) (numR2 m col) e i).2.2.2.2.1)), (9, vl ((foldR (fun r_ : Nat => labR m j (r_ : Int)) (numR2 m col) e i).2.2.2.1)), (7, vl ((foldR (fun r_ : Nat => labR m j (r_ : Int)) (numR2 m col) e i).2.2.1)), (6, vi ((foldR (fun r_ : Nat => labR m j (r_ : Int)) (numR2 m col) e i).2.1)), (0, vr 30), (1, vi j), (2, vi e), (3, vi col), (4, vi w)]) rfl (by unfold I32 at *; omega) (Nat.le_of_ble_eq_true rfl) rfl ?_
              refine V_goto (pc := 176) dX11_measure_176 (tgt := 46) rfl ?_
              try unfold cmpI at *
              have ela : (labR m j (i : Int)) = x59 := by omega
              have enu : (mI m 31 (2 * (i : Int) + col).toNat) = mI m 31 (((2 * ((i : Nat) : Int)) + col).toNat) := by omega
              have e_ : foldR (fun r_ : Nat => labR m j (r_ : Int)) (numR2 m col) e (i + 1) = (((foldR (fun r_ : Nat => labR m j (r_ : Int)) (numR2 m col) e i).1) + 1, (foldR (fun r_ : Nat => labR m j (r_ : Int)) (numR2 m col) e i).2.1, (foldR (fun r_ : Nat => labR m j (r_ : Int)) (numR2 m col) e i).2.2.1, (foldR (fun r_ : Nat => labR m j (r_ : Int)) (numR2 m col) e i).2.2.2.1, (foldR (fun r_ : Nat => labR m j (r_ : Int)) (numR2 m col) e i).2.2.2.2.1, (foldR (fun r_ : Nat => labR m j (r_ : Int)) (numR2 m col) e i).2.2.2.2.2.1, (foldR (fun r_ : Nat => labR m j (r_ : Int)) (numR2 m col) e i).2.2.2.2.2.2) := by
                show stepR (labR m j (i : Int)) (numR2 m col i) e (foldR (fun r_ : Nat => labR m j (r_ : Int)) (numR2 m col) e i) = _
                rw [hni]
                rw [ela, enu]
                unfold stepR
                first
                  | (exfalso; omega)
                  | (rw [if_neg (by omega)])
                  | (rw [if_pos (by omega), if_pos (by omega)])
                  | (rw [if_pos (by omega), if_neg (by omega)]; simp only [Prod.mk.injEq]; repeat' apply And.intro
                     all_goals (first | trivial | omega))
              have h_ := ih (i + 1) (by omega)
              rw [e_] at h_
              refine V_ls (ls' := [(17, vi (((i : Nat) : Int) + 1)), (15, vl ((foldR (fun r_ : Nat => labR m j (r_ : Int)) (numR2 m col) e i).2.2.2.2.2.2)), (13, vl ((foldR (fun r_ : Nat => labR m j (r_ : Int)) (numR2 m col) e i).2.2.2.2.2.1)), (11, vl ((foldR (fun r_ : Nat => labR m j (r_ : Int)) (numR2 m col) e i).2.2.2.2.1)), (9, vl ((foldR (fun r_ : Nat => labR m j (r_ : Int)) (numR2 m col) e i).2.2.2.1)), (7, vl ((foldR (fun r_ : Nat => labR m j (r_ : Int)) (numR2 m col) e i).2.2.1)), (6, vi ((foldR (fun r_ : Nat => labR m j (r_ : Int)) (numR2 m col) e i).2.1)), (5, vi (((foldR (fun r_ : Nat => labR m j (r_ : Int)) (numR2 m col) e i).1) + 1)), (0, vr 30), (1, vi j), (2, vi e), (3, vi col), (4, vi w)]) (by intro q_ h_; simp only [List.mem_cons, List.not_mem_nil, or_false] at h_ ⊢; rcases h_ with rfl | rfl | rfl | rfl | rfl | rfl | rfl | rfl | rfl | rfl | rfl | rfl | rfl <;> simp) ?_
              exact h_
            · skip
              refine V_ld (pc := 107) dX11_measure_107 (v := vi ((foldR (fun r_ : Nat => labR m j (r_ : Int)) (numR2 m col) e i).2.1)) rfl rfl ?_
              refine V_if_ne (pc := 109) dX11_measure_109 (tgt := 117) rfl (fun h109 => ?_) (fun h109 => ?_)
              · skip
                refine V_ld (pc := 117) dX11_measure_117 (v := vl ((foldR (fun r_ : Nat => labR m j (r_ : Int)) (numR2 m col) e i).2.2.2.1)) rfl rfl ?_
                refine V_ld (pc := 119) dX11_measure_119 (v := vl (mI m 31 (((2 * ((i : Nat) : Int)) + col).toNat))) rfl rfl ?_
                refine V_callS (pc := 121) dX11_measure_121 (F' := 0) (As := [vl ((foldR (fun r_ : Nat => labR m j (r_ : Int)) (numR2 m col) e i).2.2.2.1), vl (mI m 31 (((2 * ((i : Nat) : Int)) + col).toNat))]) (st := []) cw_RX11_386 rfl rfl (Nat.le_of_ble_eq_true rfl) (by omega) (j_min_l  m ((foldR (fun r_ : Nat => labR m j (r_ : Int)) (numR2 m col) e i).2.2.2.1) (mI m 31 (((2 * ((i : Nat) : Int)) + col).toNat))   ) ?_
                rintro _ _ ⟨x121, rfl, hx121, rfl⟩ ok121 le121
                refine V_st (pc := 124) dX11_measure_124 (ls' := [(9, vl x121), (5, vi (((foldR (fun r_ : Nat => labR m j (r_ : Int)) (numR2 m col) e i).1) + 1)), (19, vl (mI m 31 (((2 * ((i : Nat) : Int)) + col).toNat))), (18, vi x59), (17, vi ((i : Nat) : Int)), (15, vl ((foldR (fun r_ : Nat => labR m j (r_ : Int)) (numR2 m col) e i).2.2.2.2.2.2)), (13, vl ((foldR (fun r_ : Nat => labR m j (r_ : Int)) (numR2 m col) e i).2.2.2.2.2.1)), (11, vl ((foldR (fun r_ : Nat => labR m j (r_ : Int)) (numR2 m col) e i).2.2.2.2.1)), (7, vl ((foldR (fun r_ : Nat => labR m j (r_ : Int)) (numR2 m col) e i).2.2.1)), (6, vi ((foldR (fun r_ : Nat => labR m j (r_ : Int)) (numR2 m col) e i).2.1)), (0, vr 30), (1, vi j), (2, vi e), (3, vi col), (4, vi w)]) rfl (Nat.le_of_ble_eq_true rfl) rfl ?_
                refine V_ld (pc := 126) dX11_measure_126 (v := vi ((foldR (fun r_ : Nat => labR m j (r_ : Int)) (numR2 m col) e i).2.1)) rfl rfl ?_
                refine V_if_ne (pc := 128) dX11_measure_128 (tgt := 136) rfl (fun h128 => ?_) (fun h128 => ?_)
                · skip
                  refine V_ld (pc := 136) dX11_measure_136 (v := vl ((foldR (fun r_ : Nat => labR m j (r_ : Int)) (numR2 m col) e i).2.2.2.2.1)) rfl rfl ?_
                  refine V_ld (pc := 138) dX11_measure_138 (v := vl (mI m 31 (((2 * ((i : Nat) : Int)) + col).toNat))) rfl rfl ?_
                  refine V_callS (pc := 140) dX11_measure_140 (F' := 0) (As := [vl ((foldR (fun r_ : Nat => labR m j (r_ : Int)) (numR2 m col) e i).2.2.2.2.1), vl (mI m 31 (((2 * ((i : Nat) : Int)) + col).toNat))]) (st := []) cw_RX11_389 rfl rfl (Nat.le_of_ble_eq_true rfl) (by omega) (j_max_l  m ((foldR (fun r_ : Nat => labR m j (r_ : Int)) (numR2 m col) e i).2.2.2.2.1) (mI m 31 (((2 * ((i : Nat) : Int)) + col).toNat))   ) ?_
                  rintro _ _ ⟨x140, rfl, hx140, rfl⟩ ok140 le140
                  refine V_st (pc := 143) dX11_measure_143 (ls' := [(11, vl x140), (9, vl x121), (5, vi (((foldR (fun r_ : Nat => labR m j (r_ : Int)) (numR2 m col) e i).1) + 1)), (19, vl (mI m 31 (((2 * ((i : Nat) : Int)) + col).toNat))), (18, vi x59), (17, vi ((i : Nat) : Int)), (15, vl ((foldR (fun r_ : Nat => labR m j (r_ : Int)) (numR2 m col) e i).2.2.2.2.2.2)), (13, vl ((foldR (fun r_ : Nat => labR m j (r_ : Int)) (numR2 m col) e i).2.2.2.2.2.1)), (7, vl ((foldR (fun r_ : Nat => labR m j (r_ : Int)) (numR2 m col) e i).2.2.1)), (6, vi ((foldR (fun r_ : Nat => labR m j (r_ : Int)) (numR2 m col) e i).2.1)), (0, vr 30), (1, vi j), (2, vi e), (3, vi col), (4, vi w)]) rfl (Nat.le_of_ble_eq_true rfl) rfl ?_
                  refine V_ld (pc := 145) dX11_measure_145 (v := vi ((foldR (fun r_ : Nat => labR m j (r_ : Int)) (numR2 m col) e i).2.1)) rfl rfl ?_
                  refine V_if_ne (pc := 147) dX11_measure_147 (tgt := 155) rfl (fun h147 => ?_) (fun h147 => ?_)
                  · skip
                    refine V_ld (pc := 155) dX11_measure_155 (v := vl ((foldR (fun r_ : Nat => labR m j (r_ : Int)) (numR2 m col) e i).2.2.2.2.2.1)) rfl rfl ?_
                    refine V_st (pc := 157) dX11_measure_157 (ls' := [(13, vl ((foldR (fun r_ : Nat => labR m j (r_ : Int)) (numR2 m col) e i).2.2.2.2.2.1)), (11, vl x140), (9, vl x121), (5, vi (((foldR (fun r_ : Nat => labR m j (r_ : Int)) (numR2 m col) e i).1) + 1)), (19, vl (mI m 31 (((2 * ((i : Nat) : Int)) + col).toNat))), (18, vi x59), (17, vi ((i : Nat) : Int)), (15, vl ((foldR (fun r_ : Nat => labR m j (r_ : Int)) (numR2 m col) e i).2.2.2.2.2.2)), (7, vl ((foldR (fun r_ : Nat => labR m j (r_ : Int)) (numR2 m col) e i).2.2.1)), (6, vi ((foldR (fun r_ : Nat => labR m j (r_ : Int)) (numR2 m col) e i).2.1)), (0, vr 30), (1, vi j), (2, vi e), (3, vi col), (4, vi w)]) rfl (Nat.le_of_ble_eq_true rfl) rfl ?_
                    refine V_ld (pc := 159) dX11_measure_159 (v := vl (mI m 31 (((2 * ((i : Nat) : Int)) + col).toNat))) rfl rfl ?_
                    refine V_st (pc := 161) dX11_measure_161 (ls' := [(15, vl (mI m 31 (((2 * ((i : Nat) : Int)) + col).toNat))), (13, vl ((foldR (fun r_ : Nat => labR m j (r_ : Int)) (numR2 m col) e i).2.2.2.2.2.1)), (11, vl x140), (9, vl x121), (5, vi (((foldR (fun r_ : Nat => labR m j (r_ : Int)) (numR2 m col) e i).1) + 1)), (19, vl (mI m 31 (((2 * ((i : Nat) : Int)) + col).toNat))), (18, vi x59), (17, vi ((i : Nat) : Int)), (7, vl ((foldR (fun r_ : Nat => labR m j (r_ : Int)) (numR2 m col) e i).2.2.1)), (6, vi ((foldR (fun r_ : Nat => labR m j (r_ : Int)) (numR2 m col) e i).2.1)), (0, vr 30), (1, vi j), (2, vi e), (3, vi col), (4, vi w)]) rfl (Nat.le_of_ble_eq_true rfl) rfl ?_
                    refine V_ld (pc := 163) dX11_measure_163 (v := vl ((foldR (fun r_ : Nat => labR m j (r_ : Int)) (numR2 m col) e i).2.2.1)) rfl rfl ?_
                    refine V_ld (pc := 165) dX11_measure_165 (v := vl (mI m 31 (((2 * ((i : Nat) : Int)) + col).toNat))) rfl rfl ?_
                    refine V_ladd (pc := 167) dX11_measure_167 (by have hb := foldR_bd (L := e) (lab := (fun r_ : Nat => labR m j (r_ : Int))) hnum i; unfold I64; (try unfold I32 at *); omega) ?_
                    refine V_st (pc := 168) dX11_measure_168 (ls' := [(7, vl (((foldR (fun r_ : Nat => labR m j (r_ : Int)) (numR2 m col) e i).2.2.1) + (mI m 31 (((2 * ((i : Nat) : Int)) + col).toNat)))), (15, vl (mI m 31 (((2 * ((i : Nat) : Int)) + col).toNat))), (13, vl ((foldR (fun r_ : Nat => labR m j (r_ : Int)) (numR2 m col) e i).2.2.2.2.2.1)), (11, vl x140), (9, vl x121), (5, vi (((foldR (fun r_ : Nat => labR m j (r_ : Int)) (numR2 m col) e i).1) + 1)), (19, vl (mI m 31 (((2 * ((i : Nat) : Int)) + col).toNat))), (18, vi x59), (17, vi ((i : Nat) : Int)), (6, vi ((foldR (fun r_ : Nat => labR m j (r_ : Int)) (numR2 m col) e i).2.1)), (0, vr 30), (1, vi j), (2, vi e), (3, vi col), (4, vi w)]) rfl (Nat.le_of_ble_eq_true rfl) rfl ?_
                    refine V_iinc (pc := 170) dX11_measure_170 (x := ((foldR (fun r_ : Nat => labR m j (r_ : Int)) (numR2 m col) e i).2.1)) (ls' := [(6, vi (((foldR (fun r_ : Nat => labR m j (r_ : Int)) (numR2 m col) e i).2.1) + 1)), (7, vl (((foldR (fun r_ : Nat => labR m j (r_ : Int)) (numR2 m col) e i).2.2.1) + (mI m 31 (((2 * ((i : Nat) : Int)) + col).toNat)))), (15, vl (mI m 31 (((2 * ((i : Nat) : Int)) + col).toNat))), (13, vl ((foldR (fun r_ : Nat => labR m j (r_ : Int)) (numR2 m col) e i).2.2.2.2.2.1)), (11, vl x140), (9, vl x121), (5, vi (((foldR (fun r_ : Nat => labR m j (r_ : Int)) (numR2 m col) e i).1) + 1)), (19, vl (mI m 31 (((2 * ((i : Nat) : Int)) + col).toNat))), (18, vi x59), (17, vi ((i : Nat) : Int)), (0, vr 30), (1, vi j), (2, vi e), (3, vi col), (4, vi w)]) rfl (by have hb := foldR_bd (L := e) (lab := (fun r_ : Nat => labR m j (r_ : Int))) hnum i; unfold I32; (try unfold I32 at *); omega) (Nat.le_of_ble_eq_true rfl) rfl ?_
                    refine V_iinc (pc := 173) dX11_measure_173 (x := ((i : Nat) : Int)) (ls' := [(17, vi (((i : Nat) : Int) + 1)), (6, vi (((foldR (fun r_ : Nat => labR m j (r_ : Int)) (numR2 m col) e i).2.1) + 1)), (7, vl (((foldR (fun r_ : Nat => labR m j (r_ : Int)) (numR2 m col) e i).2.2.1) + (mI m 31 (((2 * ((i : Nat) : Int)) + col).toNat)))), (15, vl (mI m 31 (((2 * ((i : Nat) : Int)) + col).toNat))), (13, vl ((foldR (fun r_ : Nat => labR m j (r_ : Int)) (numR2 m col) e i).2.2.2.2.2.1)), (11, vl x140), (9, vl x121), (5, vi (((foldR (fun r_ : Nat => labR m j (r_ : Int)) (numR2 m col) e i).1) + 1)), (19, vl (mI m 31 (((2 * ((i : Nat) : Int)) + col).toNat))), (18, vi x59), (0, vr 30), (1, vi j), (2, vi e), (3, vi col), (4, vi w)]) rfl (by unfold I32 at *; omega) (Nat.le_of_ble_eq_true rfl) rfl ?_
                    refine V_goto (pc := 176) dX11_measure_176 (tgt := 46) rfl ?_
                    try unfold cmpI at *
                    have ela : (labR m j (i : Int)) = x59 := by omega
                    have enu : (mI m 31 (2 * (i : Int) + col).toNat) = mI m 31 (((2 * ((i : Nat) : Int)) + col).toNat) := by omega
                    have e_ : foldR (fun r_ : Nat => labR m j (r_ : Int)) (numR2 m col) e (i + 1) = (((foldR (fun r_ : Nat => labR m j (r_ : Int)) (numR2 m col) e i).1) + 1, ((foldR (fun r_ : Nat => labR m j (r_ : Int)) (numR2 m col) e i).2.1) + 1, ((foldR (fun r_ : Nat => labR m j (r_ : Int)) (numR2 m col) e i).2.2.1) + (mI m 31 (((2 * ((i : Nat) : Int)) + col).toNat)), x121, x140, (foldR (fun r_ : Nat => labR m j (r_ : Int)) (numR2 m col) e i).2.2.2.2.2.1, mI m 31 (((2 * ((i : Nat) : Int)) + col).toNat)) := by
                      show stepR (labR m j (i : Int)) (numR2 m col i) e (foldR (fun r_ : Nat => labR m j (r_ : Int)) (numR2 m col) e i) = _
                      rw [hni]
                      rw [ela, enu]
                      unfold stepR
                      first
                        | (exfalso; omega)
                        | (rw [if_neg (by omega)])
                        | (rw [if_pos (by omega), if_pos (by omega)])
                        | (rw [if_pos (by omega), if_neg (by omega)]; simp only [Prod.mk.injEq]; repeat' apply And.intro
                           all_goals (first | trivial | omega))
                    have h_ := ih (i + 1) (by omega)
                    rw [e_] at h_
                    refine V_ls (ls' := [(17, vi (((i : Nat) : Int) + 1)), (15, vl (mI m 31 (((2 * ((i : Nat) : Int)) + col).toNat))), (13, vl ((foldR (fun r_ : Nat => labR m j (r_ : Int)) (numR2 m col) e i).2.2.2.2.2.1)), (11, vl x140), (9, vl x121), (7, vl (((foldR (fun r_ : Nat => labR m j (r_ : Int)) (numR2 m col) e i).2.2.1) + (mI m 31 (((2 * ((i : Nat) : Int)) + col).toNat)))), (6, vi (((foldR (fun r_ : Nat => labR m j (r_ : Int)) (numR2 m col) e i).2.1) + 1)), (5, vi (((foldR (fun r_ : Nat => labR m j (r_ : Int)) (numR2 m col) e i).1) + 1)), (0, vr 30), (1, vi j), (2, vi e), (3, vi col), (4, vi w)]) (by intro q_ h_; simp only [List.mem_cons, List.not_mem_nil, or_false] at h_ ⊢; rcases h_ with rfl | rfl | rfl | rfl | rfl | rfl | rfl | rfl | rfl | rfl | rfl | rfl | rfl <;> simp) ?_
                    exact h_
                  · skip
                    refine V_ld (pc := 150) dX11_measure_150 (v := vl (mI m 31 (((2 * ((i : Nat) : Int)) + col).toNat))) rfl rfl ?_
                    refine V_goto (pc := 152) dX11_measure_152 (tgt := 157) rfl ?_
                    refine V_st (pc := 157) dX11_measure_157 (ls' := [(13, vl (mI m 31 (((2 * ((i : Nat) : Int)) + col).toNat))), (11, vl x140), (9, vl x121), (5, vi (((foldR (fun r_ : Nat => labR m j (r_ : Int)) (numR2 m col) e i).1) + 1)), (19, vl (mI m 31 (((2 * ((i : Nat) : Int)) + col).toNat))), (18, vi x59), (17, vi ((i : Nat) : Int)), (15, vl ((foldR (fun r_ : Nat => labR m j (r_ : Int)) (numR2 m col) e i).2.2.2.2.2.2)), (7, vl ((foldR (fun r_ : Nat => labR m j (r_ : Int)) (numR2 m col) e i).2.2.1)), (6, vi ((foldR (fun r_ : Nat => labR m j (r_ : Int)) (numR2 m col) e i).2.1)), (0, vr 30), (1, vi j), (2, vi e), (3, vi col), (4, vi w)]) rfl (Nat.le_of_ble_eq_true rfl) rfl ?_
                    refine V_ld (pc := 159) dX11_measure_159 (v := vl (mI m 31 (((2 * ((i : Nat) : Int)) + col).toNat))) rfl rfl ?_
                    refine V_st (pc := 161) dX11_measure_161 (ls' := [(15, vl (mI m 31 (((2 * ((i : Nat) : Int)) + col).toNat))), (13, vl (mI m 31 (((2 * ((i : Nat) : Int)) + col).toNat))), (11, vl x140), (9, vl x121), (5, vi (((foldR (fun r_ : Nat => labR m j (r_ : Int)) (numR2 m col) e i).1) + 1)), (19, vl (mI m 31 (((2 * ((i : Nat) : Int)) + col).toNat))), (18, vi x59), (17, vi ((i : Nat) : Int)), (7, vl ((foldR (fun r_ : Nat => labR m j (r_ : Int)) (numR2 m col) e i).2.2.1)), (6, vi ((foldR (fun r_ : Nat => labR m j (r_ : Int)) (numR2 m col) e i).2.1)), (0, vr 30), (1, vi j), (2, vi e), (3, vi col), (4, vi w)]) rfl (Nat.le_of_ble_eq_true rfl) rfl ?_
                    refine V_ld (pc := 163) dX11_measure_163 (v := vl ((foldR (fun r_ : Nat => labR m j (r_ : Int)) (numR2 m col) e i).2.2.1)) rfl rfl ?_
                    refine V_ld (pc := 165) dX11_measure_165 (v := vl (mI m 31 (((2 * ((i : Nat) : Int)) + col).toNat))) rfl rfl ?_
                    refine V_ladd (pc := 167) dX11_measure_167 (by have hb := foldR_bd (L := e) (lab := (fun r_ : Nat => labR m j (r_ : Int))) hnum i; unfold I64; (try unfold I32 at *); omega) ?_
                    refine V_st (pc := 168) dX11_measure_168 (ls' := [(7, vl (((foldR (fun r_ : Nat => labR m j (r_ : Int)) (numR2 m col) e i).2.2.1) + (mI m 31 (((2 * ((i : Nat) : Int)) + col).toNat)))), (15, vl (mI m 31 (((2 * ((i : Nat) : Int)) + col).toNat))), (13, vl (mI m 31 (((2 * ((i : Nat) : Int)) + col).toNat))), (11, vl x140), (9, vl x121), (5, vi (((foldR (fun r_ : Nat => labR m j (r_ : Int)) (numR2 m col) e i).1) + 1)), (19, vl (mI m 31 (((2 * ((i : Nat) : Int)) + col).toNat))), (18, vi x59), (17, vi ((i : Nat) : Int)), (6, vi ((foldR (fun r_ : Nat => labR m j (r_ : Int)) (numR2 m col) e i).2.1)), (0, vr 30), (1, vi j), (2, vi e), (3, vi col), (4, vi w)]) rfl (Nat.le_of_ble_eq_true rfl) rfl ?_
                    refine V_iinc (pc := 170) dX11_measure_170 (x := ((foldR (fun r_ : Nat => labR m j (r_ : Int)) (numR2 m col) e i).2.1)) (ls' := [(6, vi (((foldR (fun r_ : Nat => labR m j (r_ : Int)) (numR2 m col) e i).2.1) + 1)), (7, vl (((foldR (fun r_ : Nat => labR m j (r_ : Int)) (numR2 m col) e i).2.2.1) + (mI m 31 (((2 * ((i : Nat) : Int)) + col).toNat)))), (15, vl (mI m 31 (((2 * ((i : Nat) : Int)) + col).toNat))), (13, vl (mI m 31 (((2 * ((i : Nat) : Int)) + col).toNat))), (11, vl x140), (9, vl x121), (5, vi (((foldR (fun r_ : Nat => labR m j (r_ : Int)) (numR2 m col) e i).1) + 1)), (19, vl (mI m 31 (((2 * ((i : Nat) : Int)) + col).toNat))), (18, vi x59), (17, vi ((i : Nat) : Int)), (0, vr 30), (1, vi j), (2, vi e), (3, vi col), (4, vi w)]) rfl (by have hb := foldR_bd (L := e) (lab := (fun r_ : Nat => labR m j (r_ : Int))) hnum i; unfold I32; (try unfold I32 at *); omega) (Nat.le_of_ble_eq_true rfl) rfl ?_
                    refine V_iinc (pc := 173) dX11_measure_173 (x := ((i : Nat) : Int)) (ls' := [(17, vi (((i : Nat) : Int) + 1)), (6, vi (((foldR (fun r_ : Nat => labR m j (r_ : Int)) (numR2 m col) e i).2.1) + 1)), (7, vl (((foldR (fun r_ : Nat => labR m j (r_ : Int)) (numR2 m col) e i).2.2.1) + (mI m 31 (((2 * ((i : Nat) : Int)) + col).toNat)))), (15, vl (mI m 31 (((2 * ((i : Nat) : Int)) + col).toNat))), (13, vl (mI m 31 (((2 * ((i : Nat) : Int)) + col).toNat))), (11, vl x140), (9, vl x121), (5, vi (((foldR (fun r_ : Nat => labR m j (r_ : Int)) (numR2 m col) e i).1) + 1)), (19, vl (mI m 31 (((2 * ((i : Nat) : Int)) + col).toNat))), (18, vi x59), (0, vr 30), (1, vi j), (2, vi e), (3, vi col), (4, vi w)]) rfl (by unfold I32 at *; omega) (Nat.le_of_ble_eq_true rfl) rfl ?_
                    refine V_goto (pc := 176) dX11_measure_176 (tgt := 46) rfl ?_
                    try unfold cmpI at *
                    have ela : (labR m j (i : Int)) = x59 := by omega
                    have enu : (mI m 31 (2 * (i : Int) + col).toNat) = mI m 31 (((2 * ((i : Nat) : Int)) + col).toNat) := by omega
                    have e_ : foldR (fun r_ : Nat => labR m j (r_ : Int)) (numR2 m col) e (i + 1) = (((foldR (fun r_ : Nat => labR m j (r_ : Int)) (numR2 m col) e i).1) + 1, ((foldR (fun r_ : Nat => labR m j (r_ : Int)) (numR2 m col) e i).2.1) + 1, ((foldR (fun r_ : Nat => labR m j (r_ : Int)) (numR2 m col) e i).2.2.1) + (mI m 31 (((2 * ((i : Nat) : Int)) + col).toNat)), x121, x140, mI m 31 (((2 * ((i : Nat) : Int)) + col).toNat), mI m 31 (((2 * ((i : Nat) : Int)) + col).toNat)) := by
                      show stepR (labR m j (i : Int)) (numR2 m col i) e (foldR (fun r_ : Nat => labR m j (r_ : Int)) (numR2 m col) e i) = _
                      rw [hni]
                      rw [ela, enu]
                      unfold stepR
                      first
                        | (exfalso; omega)
                        | (rw [if_neg (by omega)])
                        | (rw [if_pos (by omega), if_pos (by omega)])
                        | (rw [if_pos (by omega), if_neg (by omega)]; simp only [Prod.mk.injEq]; repeat' apply And.intro
                           all_goals (first | trivial | omega))
                    have h_ := ih (i + 1) (by omega)
                    rw [e_] at h_
                    refine V_ls (ls' := [(17, vi (((i : Nat) : Int) + 1)), (15, vl (mI m 31 (((2 * ((i : Nat) : Int)) + col).toNat))), (13, vl (mI m 31 (((2 * ((i : Nat) : Int)) + col).toNat))), (11, vl x140), (9, vl x121), (7, vl (((foldR (fun r_ : Nat => labR m j (r_ : Int)) (numR2 m col) e i).2.2.1) + (mI m 31 (((2 * ((i : Nat) : Int)) + col).toNat)))), (6, vi (((foldR (fun r_ : Nat => labR m j (r_ : Int)) (numR2 m col) e i).2.1) + 1)), (5, vi (((foldR (fun r_ : Nat => labR m j (r_ : Int)) (numR2 m col) e i).1) + 1)), (0, vr 30), (1, vi j), (2, vi e), (3, vi col), (4, vi w)]) (by intro q_ h_; simp only [List.mem_cons, List.not_mem_nil, or_false] at h_ ⊢; rcases h_ with rfl | rfl | rfl | rfl | rfl | rfl | rfl | rfl | rfl | rfl | rfl | rfl | rfl <;> simp) ?_
                    exact h_
                · skip
                  refine V_ld (pc := 131) dX11_measure_131 (v := vl (mI m 31 (((2 * ((i : Nat) : Int)) + col).toNat))) rfl rfl ?_
                  refine V_goto (pc := 133) dX11_measure_133 (tgt := 143) rfl ?_
                  refine V_st (pc := 143) dX11_measure_143 (ls' := [(11, vl (mI m 31 (((2 * ((i : Nat) : Int)) + col).toNat))), (9, vl x121), (5, vi (((foldR (fun r_ : Nat => labR m j (r_ : Int)) (numR2 m col) e i).1) + 1)), (19, vl (mI m 31 (((2 * ((i : Nat) : Int)) + col).toNat))), (18, vi x59), (17, vi ((i : Nat) : Int)), (15, vl ((foldR (fun r_ : Nat => labR m j (r_ : Int)) (numR2 m col) e i).2.2.2.2.2.2)), (13, vl ((foldR (fun r_ : Nat => labR m j (r_ : Int)) (numR2 m col) e i).2.2.2.2.2.1)), (7, vl ((foldR (fun r_ : Nat => labR m j (r_ : Int)) (numR2 m col) e i).2.2.1)), (6, vi ((foldR (fun r_ : Nat => labR m j (r_ : Int)) (numR2 m col) e i).2.1)), (0, vr 30), (1, vi j), (2, vi e), (3, vi col), (4, vi w)]) rfl (Nat.le_of_ble_eq_true rfl) rfl ?_
                  refine V_ld (pc := 145) dX11_measure_145 (v := vi ((foldR (fun r_ : Nat => labR m j (r_ : Int)) (numR2 m col) e i).2.1)) rfl rfl ?_
                  refine V_if_ne (pc := 147) dX11_measure_147 (tgt := 155) rfl (fun h147 => ?_) (fun h147 => ?_)
                  · skip
                    refine V_ld (pc := 155) dX11_measure_155 (v := vl ((foldR (fun r_ : Nat => labR m j (r_ : Int)) (numR2 m col) e i).2.2.2.2.2.1)) rfl rfl ?_
                    refine V_st (pc := 157) dX11_measure_157 (ls' := [(13, vl ((foldR (fun r_ : Nat => labR m j (r_ : Int)) (numR2 m col) e i).2.2.2.2.2.1)), (11, vl (mI m 31 (((2 * ((i : Nat) : Int)) + col).toNat))), (9, vl x121), (5, vi (((foldR (fun r_ : Nat => labR m j (r_ : Int)) (numR2 m col) e i).1) + 1)), (19, vl (mI m 31 (((2 * ((i : Nat) : Int)) + col).toNat))), (18, vi x59), (17, vi ((i : Nat) : Int)), (15, vl ((foldR (fun r_ : Nat => labR m j (r_ : Int)) (numR2 m col) e i).2.2.2.2.2.2)), (7, vl ((foldR (fun r_ : Nat => labR m j (r_ : Int)) (numR2 m col) e i).2.2.1)), (6, vi ((foldR (fun r_ : Nat => labR m j (r_ : Int)) (numR2 m col) e i).2.1)), (0, vr 30), (1, vi j), (2, vi e), (3, vi col), (4, vi w)]) rfl (Nat.le_of_ble_eq_true rfl) rfl ?_
                    refine V_ld (pc := 159) dX11_measure_159 (v := vl (mI m 31 (((2 * ((i : Nat) : Int)) + col).toNat))) rfl rfl ?_
                    refine V_st (pc := 161) dX11_measure_161 (ls' := [(15, vl (mI m 31 (((2 * ((i : Nat) : Int)) + col).toNat))), (13, vl ((foldR (fun r_ : Nat => labR m j (r_ : Int)) (numR2 m col) e i).2.2.2.2.2.1)), (11, vl (mI m 31 (((2 * ((i : Nat) : Int)) + col).toNat))), (9, vl x121), (5, vi (((foldR (fun r_ : Nat => labR m j (r_ : Int)) (numR2 m col) e i).1) + 1)), (19, vl (mI m 31 (((2 * ((i : Nat) : Int)) + col).toNat))), (18, vi x59), (17, vi ((i : Nat) : Int)), (7, vl ((foldR (fun r_ : Nat => labR m j (r_ : Int)) (numR2 m col) e i).2.2.1)), (6, vi ((foldR (fun r_ : Nat => labR m j (r_ : Int)) (numR2 m col) e i).2.1)), (0, vr 30), (1, vi j), (2, vi e), (3, vi col), (4, vi w)]) rfl (Nat.le_of_ble_eq_true rfl) rfl ?_
                    refine V_ld (pc := 163) dX11_measure_163 (v := vl ((foldR (fun r_ : Nat => labR m j (r_ : Int)) (numR2 m col) e i).2.2.1)) rfl rfl ?_
                    refine V_ld (pc := 165) dX11_measure_165 (v := vl (mI m 31 (((2 * ((i : Nat) : Int)) + col).toNat))) rfl rfl ?_
                    refine V_ladd (pc := 167) dX11_measure_167 (by have hb := foldR_bd (L := e) (lab := (fun r_ : Nat => labR m j (r_ : Int))) hnum i; unfold I64; (try unfold I32 at *); omega) ?_
                    refine V_st (pc := 168) dX11_measure_168 (ls' := [(7, vl (((foldR (fun r_ : Nat => labR m j (r_ : Int)) (numR2 m col) e i).2.2.1) + (mI m 31 (((2 * ((i : Nat) : Int)) + col).toNat)))), (15, vl (mI m 31 (((2 * ((i : Nat) : Int)) + col).toNat))), (13, vl ((foldR (fun r_ : Nat => labR m j (r_ : Int)) (numR2 m col) e i).2.2.2.2.2.1)), (11, vl (mI m 31 (((2 * ((i : Nat) : Int)) + col).toNat))), (9, vl x121), (5, vi (((foldR (fun r_ : Nat => labR m j (r_ : Int)) (numR2 m col) e i).1) + 1)), (19, vl (mI m 31 (((2 * ((i : Nat) : Int)) + col).toNat))), (18, vi x59), (17, vi ((i : Nat) : Int)), (6, vi ((foldR (fun r_ : Nat => labR m j (r_ : Int)) (numR2 m col) e i).2.1)), (0, vr 30), (1, vi j), (2, vi e), (3, vi col), (4, vi w)]) rfl (Nat.le_of_ble_eq_true rfl) rfl ?_
                    refine V_iinc (pc := 170) dX11_measure_170 (x := ((foldR (fun r_ : Nat => labR m j (r_ : Int)) (numR2 m col) e i).2.1)) (ls' := [(6, vi (((foldR (fun r_ : Nat => labR m j (r_ : Int)) (numR2 m col) e i).2.1) + 1)), (7, vl (((foldR (fun r_ : Nat => labR m j (r_ : Int)) (numR2 m col) e i).2.2.1) + (mI m 31 (((2 * ((i : Nat) : Int)) + col).toNat)))), (15, vl (mI m 31 (((2 * ((i : Nat) : Int)) + col).toNat))), (13, vl ((foldR (fun r_ : Nat => labR m j (r_ : Int)) (numR2 m col) e i).2.2.2.2.2.1)), (11, vl (mI m 31 (((2 * ((i : Nat) : Int)) + col).toNat))), (9, vl x121), (5, vi (((foldR (fun r_ : Nat => labR m j (r_ : Int)) (numR2 m col) e i).1) + 1)), (19, vl (mI m 31 (((2 * ((i : Nat) : Int)) + col).toNat))), (18, vi x59), (17, vi ((i : Nat) : Int)), (0, vr 30), (1, vi j), (2, vi e), (3, vi col), (4, vi w)]) rfl (by have hb := foldR_bd (L := e) (lab := (fun r_ : Nat => labR m j (r_ : Int))) hnum i; unfold I32; (try unfold I32 at *); omega) (Nat.le_of_ble_eq_true rfl) rfl ?_
                    refine V_iinc (pc := 173) dX11_measure_173 (x := ((i : Nat) : Int)) (ls' := [(17, vi (((i : Nat) : Int) + 1)), (6, vi (((foldR (fun r_ : Nat => labR m j (r_ : Int)) (numR2 m col) e i).2.1) + 1)), (7, vl (((foldR (fun r_ : Nat => labR m j (r_ : Int)) (numR2 m col) e i).2.2.1) + (mI m 31 (((2 * ((i : Nat) : Int)) + col).toNat)))), (15, vl (mI m 31 (((2 * ((i : Nat) : Int)) + col).toNat))), (13, vl ((foldR (fun r_ : Nat => labR m j (r_ : Int)) (numR2 m col) e i).2.2.2.2.2.1)), (11, vl (mI m 31 (((2 * ((i : Nat) : Int)) + col).toNat))), (9, vl x121), (5, vi (((foldR (fun r_ : Nat => labR m j (r_ : Int)) (numR2 m col) e i).1) + 1)), (19, vl (mI m 31 (((2 * ((i : Nat) : Int)) + col).toNat))), (18, vi x59), (0, vr 30), (1, vi j), (2, vi e), (3, vi col), (4, vi w)]) rfl (by unfold I32 at *; omega) (Nat.le_of_ble_eq_true rfl) rfl ?_
                    refine V_goto (pc := 176) dX11_measure_176 (tgt := 46) rfl ?_
                    try unfold cmpI at *
                    have ela : (labR m j (i : Int)) = x59 := by omega
                    have enu : (mI m 31 (2 * (i : Int) + col).toNat) = mI m 31 (((2 * ((i : Nat) : Int)) + col).toNat) := by omega
                    have e_ : foldR (fun r_ : Nat => labR m j (r_ : Int)) (numR2 m col) e (i + 1) = (((foldR (fun r_ : Nat => labR m j (r_ : Int)) (numR2 m col) e i).1) + 1, ((foldR (fun r_ : Nat => labR m j (r_ : Int)) (numR2 m col) e i).2.1) + 1, ((foldR (fun r_ : Nat => labR m j (r_ : Int)) (numR2 m col) e i).2.2.1) + (mI m 31 (((2 * ((i : Nat) : Int)) + col).toNat)), x121, mI m 31 (((2 * ((i : Nat) : Int)) + col).toNat), (foldR (fun r_ : Nat => labR m j (r_ : Int)) (numR2 m col) e i).2.2.2.2.2.1, mI m 31 (((2 * ((i : Nat) : Int)) + col).toNat)) := by
                      show stepR (labR m j (i : Int)) (numR2 m col i) e (foldR (fun r_ : Nat => labR m j (r_ : Int)) (numR2 m col) e i) = _
                      rw [hni]
                      rw [ela, enu]
                      unfold stepR
                      first
                        | (exfalso; omega)
                        | (rw [if_neg (by omega)])
                        | (rw [if_pos (by omega), if_pos (by omega)])
                        | (rw [if_pos (by omega), if_neg (by omega)]; simp only [Prod.mk.injEq]; repeat' apply And.intro
                           all_goals (first | trivial | omega))
                    have h_ := ih (i + 1) (by omega)
                    rw [e_] at h_
                    refine V_ls (ls' := [(17, vi (((i : Nat) : Int) + 1)), (15, vl (mI m 31 (((2 * ((i : Nat) : Int)) + col).toNat))), (13, vl ((foldR (fun r_ : Nat => labR m j (r_ : Int)) (numR2 m col) e i).2.2.2.2.2.1)), (11, vl (mI m 31 (((2 * ((i : Nat) : Int)) + col).toNat))), (9, vl x121), (7, vl (((foldR (fun r_ : Nat => labR m j (r_ : Int)) (numR2 m col) e i).2.2.1) + (mI m 31 (((2 * ((i : Nat) : Int)) + col).toNat)))), (6, vi (((foldR (fun r_ : Nat => labR m j (r_ : Int)) (numR2 m col) e i).2.1) + 1)), (5, vi (((foldR (fun r_ : Nat => labR m j (r_ : Int)) (numR2 m col) e i).1) + 1)), (0, vr 30), (1, vi j), (2, vi e), (3, vi col), (4, vi w)]) (by intro q_ h_; simp only [List.mem_cons, List.not_mem_nil, or_false] at h_ ⊢; rcases h_ with rfl | rfl | rfl | rfl | rfl | rfl | rfl | rfl | rfl | rfl | rfl | rfl | rfl <;> simp) ?_
                    exact h_
                  · skip
                    refine V_ld (pc := 150) dX11_measure_150 (v := vl (mI m 31 (((2 * ((i : Nat) : Int)) + col).toNat))) rfl rfl ?_
                    refine V_goto (pc := 152) dX11_measure_152 (tgt := 157) rfl ?_
                    refine V_st (pc := 157) dX11_measure_157 (ls' := [(13, vl (mI m 31 (((2 * ((i : Nat) : Int)) + col).toNat))), (11, vl (mI m 31 (((2 * ((i : Nat) : Int)) + col).toNat))), (9, vl x121), (5, vi (((foldR (fun r_ : Nat => labR m j (r_ : Int)) (numR2 m col) e i).1) + 1)), (19, vl (mI m 31 (((2 * ((i : Nat) : Int)) + col).toNat))), (18, vi x59), (17, vi ((i : Nat) : Int)), (15, vl ((foldR (fun r_ : Nat => labR m j (r_ : Int)) (numR2 m col) e i).2.2.2.2.2.2)), (7, vl ((foldR (fun r_ : Nat => labR m j (r_ : Int)) (numR2 m col) e i).2.2.1)), (6, vi ((foldR (fun r_ : Nat => labR m j (r_ : Int)) (numR2 m col) e i).2.1)), (0, vr 30), (1, vi j), (2, vi e), (3, vi col), (4, vi w)]) rfl (Nat.le_of_ble_eq_true rfl) rfl ?_
                    refine V_ld (pc := 159) dX11_measure_159 (v := vl (mI m 31 (((2 * ((i : Nat) : Int)) + col).toNat))) rfl rfl ?_
                    refine V_st (pc := 161) dX11_measure_161 (ls' := [(15, vl (mI m 31 (((2 * ((i : Nat) : Int)) + col).toNat))), (13, vl (mI m 31 (((2 * ((i : Nat) : Int)) + col).toNat))), (11, vl (mI m 31 (((2 * ((i : Nat) : Int)) + col).toNat))), (9, vl x121), (5, vi (((foldR (fun r_ : Nat => labR m j (r_ : Int)) (numR2 m col) e i).1) + 1)), (19, vl (mI m 31 (((2 * ((i : Nat) : Int)) + col).toNat))), (18, vi x59), (17, vi ((i : Nat) : Int)), (7, vl ((foldR (fun r_ : Nat => labR m j (r_ : Int)) (numR2 m col) e i).2.2.1)), (6, vi ((foldR (fun r_ : Nat => labR m j (r_ : Int)) (numR2 m col) e i).2.1)), (0, vr 30), (1, vi j), (2, vi e), (3, vi col), (4, vi w)]) rfl (Nat.le_of_ble_eq_true rfl) rfl ?_
                    refine V_ld (pc := 163) dX11_measure_163 (v := vl ((foldR (fun r_ : Nat => labR m j (r_ : Int)) (numR2 m col) e i).2.2.1)) rfl rfl ?_
                    refine V_ld (pc := 165) dX11_measure_165 (v := vl (mI m 31 (((2 * ((i : Nat) : Int)) + col).toNat))) rfl rfl ?_
                    refine V_ladd (pc := 167) dX11_measure_167 (by have hb := foldR_bd (L := e) (lab := (fun r_ : Nat => labR m j (r_ : Int))) hnum i; unfold I64; (try unfold I32 at *); omega) ?_
                    refine V_st (pc := 168) dX11_measure_168 (ls' := [(7, vl (((foldR (fun r_ : Nat => labR m j (r_ : Int)) (numR2 m col) e i).2.2.1) + (mI m 31 (((2 * ((i : Nat) : Int)) + col).toNat)))), (15, vl (mI m 31 (((2 * ((i : Nat) : Int)) + col).toNat))), (13, vl (mI m 31 (((2 * ((i : Nat) : Int)) + col).toNat))), (11, vl (mI m 31 (((2 * ((i : Nat) : Int)) + col).toNat))), (9, vl x121), (5, vi (((foldR (fun r_ : Nat => labR m j (r_ : Int)) (numR2 m col) e i).1) + 1)), (19, vl (mI m 31 (((2 * ((i : Nat) : Int)) + col).toNat))), (18, vi x59), (17, vi ((i : Nat) : Int)), (6, vi ((foldR (fun r_ : Nat => labR m j (r_ : Int)) (numR2 m col) e i).2.1)), (0, vr 30), (1, vi j), (2, vi e), (3, vi col), (4, vi w)]) rfl (Nat.le_of_ble_eq_true rfl) rfl ?_
                    refine V_iinc (pc := 170) dX11_measure_170 (x := ((foldR (fun r_ : Nat => labR m j (r_ : Int)) (numR2 m col) e i).2.1)) (ls' := [(6, vi (((foldR (fun r_ : Nat => labR m j (r_ : Int)) (numR2 m col) e i).2.1) + 1)), (7, vl (((foldR (fun r_ : Nat => labR m j (r_ : Int)) (numR2 m col) e i).2.2.1) + (mI m 31 (((2 * ((i : Nat) : Int)) + col).toNat)))), (15, vl (mI m 31 (((2 * ((i : Nat) : Int)) + col).toNat))), (13, vl (mI m 31 (((2 * ((i : Nat) : Int)) + col).toNat))), (11, vl (mI m 31 (((2 * ((i : Nat) : Int)) + col).toNat))), (9, vl x121), (5, vi (((foldR (fun r_ : Nat => labR m j (r_ : Int)) (numR2 m col) e i).1) + 1)), (19, vl (mI m 31 (((2 * ((i : Nat) : Int)) + col).toNat))), (18, vi x59), (17, vi ((i : Nat) : Int)), (0, vr 30), (1, vi j), (2, vi e), (3, vi col), (4, vi w)]) rfl (by have hb := foldR_bd (L := e) (lab := (fun r_ : Nat => labR m j (r_ : Int))) hnum i; unfold I32; (try unfold I32 at *); omega) (Nat.le_of_ble_eq_true rfl) rfl ?_
                    refine V_iinc (pc := 173) dX11_measure_173 (x := ((i : Nat) : Int)) (ls' := [(17, vi (((i : Nat) : Int) + 1)), (6, vi (((foldR (fun r_ : Nat => labR m j (r_ : Int)) (numR2 m col) e i).2.1) + 1)), (7, vl (((foldR (fun r_ : Nat => labR m j (r_ : Int)) (numR2 m col) e i).2.2.1) + (mI m 31 (((2 * ((i : Nat) : Int)) + col).toNat)))), (15, vl (mI m 31 (((2 * ((i : Nat) : Int)) + col).toNat))), (13, vl (mI m 31 (((2 * ((i : Nat) : Int)) + col).toNat))), (11, vl (mI m 31 (((2 * ((i : Nat) : Int)) + col).toNat))), (9, vl x121), (5, vi (((foldR (fun r_ : Nat => labR m j (r_ : Int)) (numR2 m col) e i).1) + 1)), (19, vl (mI m 31 (((2 * ((i : Nat) : Int)) + col).toNat))), (18, vi x59), (0, vr 30), (1, vi j), (2, vi e), (3, vi col), (4, vi w)]) rfl (by unfold I32 at *; omega) (Nat.le_of_ble_eq_true rfl) rfl ?_
                    refine V_goto (pc := 176) dX11_measure_176 (tgt := 46) rfl ?_
                    try unfold cmpI at *
                    have ela : (labR m j (i : Int)) = x59 := by omega
                    have enu : (mI m 31 (2 * (i : Int) + col).toNat) = mI m 31 (((2 * ((i : Nat) : Int)) + col).toNat) := by omega
                    have e_ : foldR (fun r_ : Nat => labR m j (r_ : Int)) (numR2 m col) e (i + 1) = (((foldR (fun r_ : Nat => labR m j (r_ : Int)) (numR2 m col) e i).1) + 1, ((foldR (fun r_ : Nat => labR m j (r_ : Int)) (numR2 m col) e i).2.1) + 1, ((foldR (fun r_ : Nat => labR m j (r_ : Int)) (numR2 m col) e i).2.2.1) + (mI m 31 (((2 * ((i : Nat) : Int)) + col).toNat)), x121, mI m 31 (((2 * ((i : Nat) : Int)) + col).toNat), mI m 31 (((2 * ((i : Nat) : Int)) + col).toNat), mI m 31 (((2 * ((i : Nat) : Int)) + col).toNat)) := by
                      show stepR (labR m j (i : Int)) (numR2 m col i) e (foldR (fun r_ : Nat => labR m j (r_ : Int)) (numR2 m col) e i) = _
                      rw [hni]
                      rw [ela, enu]
                      unfold stepR
                      first
                        | (exfalso; omega)
                        | (rw [if_neg (by omega)])
                        | (rw [if_pos (by omega), if_pos (by omega)])
                        | (rw [if_pos (by omega), if_neg (by omega)]; simp only [Prod.mk.injEq]; repeat' apply And.intro
                           all_goals (first | trivial | omega))
                    have h_ := ih (i + 1) (by omega)
                    rw [e_] at h_
                    refine V_ls (ls' := [(17, vi (((i : Nat) : Int) + 1)), (15, vl (mI m 31 (((2 * ((i : Nat) : Int)) + col).toNat))), (13, vl (mI m 31 (((2 * ((i : Nat) : Int)) + col).toNat))), (11, vl (mI m 31 (((2 * ((i : Nat) : Int)) + col).toNat))), (9, vl x121), (7, vl (((foldR (fun r_ : Nat => labR m j (r_ : Int)) (numR2 m col) e i).2.2.1) + (mI m 31 (((2 * ((i : Nat) : Int)) + col).toNat)))), (6, vi (((foldR (fun r_ : Nat => labR m j (r_ : Int)) (numR2 m col) e i).2.1) + 1)), (5, vi (((foldR (fun r_ : Nat => labR m j (r_ : Int)) (numR2 m col) e i).1) + 1)), (0, vr 30), (1, vi j), (2, vi e), (3, vi col), (4, vi w)]) (by intro q_ h_; simp only [List.mem_cons, List.not_mem_nil, or_false] at h_ ⊢; rcases h_ with rfl | rfl | rfl | rfl | rfl | rfl | rfl | rfl | rfl | rfl | rfl | rfl | rfl <;> simp) ?_
                    exact h_
              · skip
                refine V_ld (pc := 112) dX11_measure_112 (v := vl (mI m 31 (((2 * ((i : Nat) : Int)) + col).toNat))) rfl rfl ?_
                refine V_goto (pc := 114) dX11_measure_114 (tgt := 124) rfl ?_
                refine V_st (pc := 124) dX11_measure_124 (ls' := [(9, vl (mI m 31 (((2 * ((i : Nat) : Int)) + col).toNat))), (5, vi (((foldR (fun r_ : Nat => labR m j (r_ : Int)) (numR2 m col) e i).1) + 1)), (19, vl (mI m 31 (((2 * ((i : Nat) : Int)) + col).toNat))), (18, vi x59), (17, vi ((i : Nat) : Int)), (15, vl ((foldR (fun r_ : Nat => labR m j (r_ : Int)) (numR2 m col) e i).2.2.2.2.2.2)), (13, vl ((foldR (fun r_ : Nat => labR m j (r_ : Int)) (numR2 m col) e i).2.2.2.2.2.1)), (11, vl ((foldR (fun r_ : Nat => labR m j (r_ : Int)) (numR2 m col) e i).2.2.2.2.1)), (7, vl ((foldR (fun r_ : Nat => labR m j (r_ : Int)) (numR2 m col) e i).2.2.1)), (6, vi ((foldR (fun r_ : Nat => labR m j (r_ : Int)) (numR2 m col) e i).2.1)), (0, vr 30), (1, vi j), (2, vi e), (3, vi col), (4, vi w)]) rfl (Nat.le_of_ble_eq_true rfl) rfl ?_
                refine V_ld (pc := 126) dX11_measure_126 (v := vi ((foldR (fun r_ : Nat => labR m j (r_ : Int)) (numR2 m col) e i).2.1)) rfl rfl ?_
                refine V_if_ne (pc := 128) dX11_measure_128 (tgt := 136) rfl (fun h128 => ?_) (fun h128 => ?_)
                · skip
                  refine V_ld (pc := 136) dX11_measure_136 (v := vl ((foldR (fun r_ : Nat => labR m j (r_ : Int)) (numR2 m col) e i).2.2.2.2.1)) rfl rfl ?_
                  refine V_ld (pc := 138) dX11_measure_138 (v := vl (mI m 31 (((2 * ((i : Nat) : Int)) + col).toNat))) rfl rfl ?_
                  refine V_callS (pc := 140) dX11_measure_140 (F' := 0) (As := [vl ((foldR (fun r_ : Nat => labR m j (r_ : Int)) (numR2 m col) e i).2.2.2.2.1), vl (mI m 31 (((2 * ((i : Nat) : Int)) + col).toNat))]) (st := []) cw_RX11_389 rfl rfl (Nat.le_of_ble_eq_true rfl) (by omega) (j_max_l  m ((foldR (fun r_ : Nat => labR m j (r_ : Int)) (numR2 m col) e i).2.2.2.2.1) (mI m 31 (((2 * ((i : Nat) : Int)) + col).toNat))   ) ?_
                  rintro _ _ ⟨x140, rfl, hx140, rfl⟩ ok140 le140
                  refine V_st (pc := 143) dX11_measure_143 (ls' := [(11, vl x140), (9, vl (mI m 31 (((2 * ((i : Nat) : Int)) + col).toNat))), (5, vi (((foldR (fun r_ : Nat => labR m j (r_ : Int)) (numR2 m col) e i).1) + 1)), (19, vl (mI m 31 (((2 * ((i : Nat) : Int)) + col).toNat))), (18, vi x59), (17, vi ((i : Nat) : Int)), (15, vl ((foldR (fun r_ : Nat => labR m j (r_ : Int)) (numR2 m col) e i).2.2.2.2.2.2)), (13, vl ((foldR (fun r_ : Nat => labR m j (r_ : Int)) (numR2 m col) e i).2.2.2.2.2.1)), (7, vl ((foldR (fun r_ : Nat => labR m j (r_ : Int)) (numR2 m col) e i).2.2.1)), (6, vi ((foldR (fun r_ : Nat => labR m j (r_ : Int)) (numR2 m col) e i).2.1)), (0, vr 30), (1, vi j), (2, vi e), (3, vi col), (4, vi w)]) rfl (Nat.le_of_ble_eq_true rfl) rfl ?_
                  refine V_ld (pc := 145) dX11_measure_145 (v := vi ((foldR (fun r_ : Nat => labR m j (r_ : Int)) (numR2 m col) e i).2.1)) rfl rfl ?_
                  refine V_if_ne (pc := 147) dX11_measure_147 (tgt := 155) rfl (fun h147 => ?_) (fun h147 => ?_)
                  · skip
                    refine V_ld (pc := 155) dX11_measure_155 (v := vl ((foldR (fun r_ : Nat => labR m j (r_ : Int)) (numR2 m col) e i).2.2.2.2.2.1)) rfl rfl ?_
                    refine V_st (pc := 157) dX11_measure_157 (ls' := [(13, vl ((foldR (fun r_ : Nat => labR m j (r_ : Int)) (numR2 m col) e i).2.2.2.2.2.1)), (11, vl x140), (9, vl (mI m 31 (((2 * ((i : Nat) : Int)) + col).toNat))), (5, vi (((foldR (fun r_ : Nat => labR m j (r_ : Int)) (numR2 m col) e i).1) + 1)), (19, vl (mI m 31 (((2 * ((i : Nat) : Int)) + col).toNat))), (18, vi x59), (17, vi ((i : Nat) : Int)), (15, vl ((foldR (fun r_ : Nat => labR m j (r_ : Int)) (numR2 m col) e i).2.2.2.2.2.2)), (7, vl ((foldR (fun r_ : Nat => labR m j (r_ : Int)) (numR2 m col) e i).2.2.1)), (6, vi ((foldR (fun r_ : Nat => labR m j (r_ : Int)) (numR2 m col) e i).2.1)), (0, vr 30), (1, vi j), (2, vi e), (3, vi col), (4, vi w)]) rfl (Nat.le_of_ble_eq_true rfl) rfl ?_
                    refine V_ld (pc := 159) dX11_measure_159 (v := vl (mI m 31 (((2 * ((i : Nat) : Int)) + col).toNat))) rfl rfl ?_
                    refine V_st (pc := 161) dX11_measure_161 (ls' := [(15, vl (mI m 31 (((2 * ((i : Nat) : Int)) + col).toNat))), (13, vl ((foldR (fun r_ : Nat => labR m j (r_ : Int)) (numR2 m col) e i).2.2.2.2.2.1)), (11, vl x140), (9, vl (mI m 31 (((2 * ((i : Nat) : Int)) + col).toNat))), (5, vi (((foldR (fun r_ : Nat => labR m j (r_ : Int)) (numR2 m col) e i).1) + 1)), (19, vl (mI m 31 (((2 * ((i : Nat) : Int)) + col).toNat))), (18, vi x59), (17, vi ((i : Nat) : Int)), (7, vl ((foldR (fun r_ : Nat => labR m j (r_ : Int)) (numR2 m col) e i).2.2.1)), (6, vi ((foldR (fun r_ : Nat => labR m j (r_ : Int)) (numR2 m col) e i).2.1)), (0, vr 30), (1, vi j), (2, vi e), (3, vi col), (4, vi w)]) rfl (Nat.le_of_ble_eq_true rfl) rfl ?_
                    refine V_ld (pc := 163) dX11_measure_163 (v := vl ((foldR (fun r_ : Nat => labR m j (r_ : Int)) (numR2 m col) e i).2.2.1)) rfl rfl ?_
                    refine V_ld (pc := 165) dX11_measure_165 (v := vl (mI m 31 (((2 * ((i : Nat) : Int)) + col).toNat))) rfl rfl ?_
                    refine V_ladd (pc := 167) dX11_measure_167 (by have hb := foldR_bd (L := e) (lab := (fun r_ : Nat => labR m j (r_ : Int))) hnum i; unfold I64; (try unfold I32 at *); omega) ?_
                    refine V_st (pc := 168) dX11_measure_168 (ls' := [(7, vl (((foldR (fun r_ : Nat => labR m j (r_ : Int)) (numR2 m col) e i).2.2.1) + (mI m 31 (((2 * ((i : Nat) : Int)) + col).toNat)))), (15, vl (mI m 31 (((2 * ((i : Nat) : Int)) + col).toNat))), (13, vl ((foldR (fun r_ : Nat => labR m j (r_ : Int)) (numR2 m col) e i).2.2.2.2.2.1)), (11, vl x140), (9, vl (mI m 31 (((2 * ((i : Nat) : Int)) + col).toNat))), (5, vi (((foldR (fun r_ : Nat => labR m j (r_ : Int)) (numR2 m col) e i).1) + 1)), (19, vl (mI m 31 (((2 * ((i : Nat) : Int)) + col).toNat))), (18, vi x59), (17, vi ((i : Nat) : Int)), (6, vi ((foldR (fun r_ : Nat => labR m j (r_ : Int)) (numR2 m col) e i).2.1)), (0, vr 30), (1, vi j), (2, vi e), (3, vi col), (4, vi w)]) rfl (Nat.le_of_ble_eq_true rfl) rfl ?_
                    refine V_iinc (pc := 170) dX11_measure_170 (x := ((foldR (fun r_ : Nat => labR m j (r_ : Int)) (numR2 m col) e i).2.1)) (ls' := [(6, vi (((foldR (fun r_ : Nat => labR m j (r_ : Int)) (numR2 m col) e i).2.1) + 1)), (7, vl (((foldR (fun r_ : Nat => labR m j (r_ : Int)) (numR2 m col) e i).2.2.1) + (mI m 31 (((2 * ((i : Nat) : Int)) + col).toNat)))), (15, vl (mI m 31 (((2 * ((i : Nat) : Int)) + col).toNat))), (13, vl ((foldR (fun r_ : Nat => labR m j (r_ : Int)) (numR2 m col) e i).2.2.2.2.2.1)), (11, vl x140), (9, vl (mI m 31 (((2 * ((i : Nat) : Int)) + col).toNat))), (5, vi (((foldR (fun r_ : Nat => labR m j (r_ : Int)) (numR2 m col) e i).1) + 1)), (19, vl (mI m 31 (((2 * ((i : Nat) : Int)) + col).toNat))), (18, vi x59), (17, vi ((i : Nat) : Int)), (0, vr 30), (1, vi j), (2, vi e), (3, vi col), (4, vi w)]) rfl (by have hb := foldR_bd (L := e) (lab := (fun r_ : Nat => labR m j (r_ : Int))) hnum i; unfold I32; (try unfold I32 at *); omega) (Nat.le_of_ble_eq_true rfl) rfl ?_
                    refine V_iinc (pc := 173) dX11_measure_173 (x := ((i : Nat) : Int)) (ls' := [(17, vi (((i : Nat) : Int) + 1)), (6, vi (((foldR (fun r_ : Nat => labR m j (r_ : Int)) (numR2 m col) e i).2.1) + 1)), (7, vl (((foldR (fun r_ : Nat => labR m j (r_ : Int)) (numR2 m col) e i).2.2.1) + (mI m 31 (((2 * ((i : Nat) : Int)) + col).toNat)))), (15, vl (mI m 31 (((2 * ((i : Nat) : Int)) + col).toNat))), (13, vl ((foldR (fun r_ : Nat => labR m j (r_ : Int)) (numR2 m col) e i).2.2.2.2.2.1)), (11, vl x140), (9, vl (mI m 31 (((2 * ((i : Nat) : Int)) + col).toNat))), (5, vi (((foldR (fun r_ : Nat => labR m j (r_ : Int)) (numR2 m col) e i).1) + 1)), (19, vl (mI m 31 (((2 * ((i : Nat) : Int)) + col).toNat))), (18, vi x59), (0, vr 30), (1, vi j), (2, vi e), (3, vi col), (4, vi w)]) rfl (by unfold I32 at *; omega) (Nat.le_of_ble_eq_true rfl) rfl ?_
                    refine V_goto (pc := 176) dX11_measure_176 (tgt := 46) rfl ?_
                    try unfold cmpI at *
                    have ela : (labR m j (i : Int)) = x59 := by omega
                    have enu : (mI m 31 (2 * (i : Int) + col).toNat) = mI m 31 (((2 * ((i : Nat) : Int)) + col).toNat) := by omega
                    have e_ : foldR (fun r_ : Nat => labR m j (r_ : Int)) (numR2 m col) e (i + 1) = (((foldR (fun r_ : Nat => labR m j (r_ : Int)) (numR2 m col) e i).1) + 1, ((foldR (fun r_ : Nat => labR m j (r_ : Int)) (numR2 m col) e i).2.1) + 1, ((foldR (fun r_ : Nat => labR m j (r_ : Int)) (numR2 m col) e i).2.2.1) + (mI m 31 (((2 * ((i : Nat) : Int)) + col).toNat)), mI m 31 (((2 * ((i : Nat) : Int)) + col).toNat), x140, (foldR (fun r_ : Nat => labR m j (r_ : Int)) (numR2 m col) e i).2.2.2.2.2.1, mI m 31 (((2 * ((i : Nat) : Int)) + col).toNat)) := by
                      show stepR (labR m j (i : Int)) (numR2 m col i) e (foldR (fun r_ : Nat => labR m j (r_ : Int)) (numR2 m col) e i) = _
                      rw [hni]
                      rw [ela, enu]
                      unfold stepR
                      first
                        | (exfalso; omega)
                        | (rw [if_neg (by omega)])
                        | (rw [if_pos (by omega), if_pos (by omega)])
                        | (rw [if_pos (by omega), if_neg (by omega)]; simp only [Prod.mk.injEq]; repeat' apply And.intro
                           all_goals (first | trivial | omega))
                    have h_ := ih (i + 1) (by omega)
                    rw [e_] at h_
                    refine V_ls (ls' := [(17, vi (((i : Nat) : Int) + 1)), (15, vl (mI m 31 (((2 * ((i : Nat) : Int)) + col).toNat))), (13, vl ((foldR (fun r_ : Nat => labR m j (r_ : Int)) (numR2 m col) e i).2.2.2.2.2.1)), (11, vl x140), (9, vl (mI m 31 (((2 * ((i : Nat) : Int)) + col).toNat))), (7, vl (((foldR (fun r_ : Nat => labR m j (r_ : Int)) (numR2 m col) e i).2.2.1) + (mI m 31 (((2 * ((i : Nat) : Int)) + col).toNat)))), (6, vi (((foldR (fun r_ : Nat => labR m j (r_ : Int)) (numR2 m col) e i).2.1) + 1)), (5, vi (((foldR (fun r_ : Nat => labR m j (r_ : Int)) (numR2 m col) e i).1) + 1)), (0, vr 30), (1, vi j), (2, vi e), (3, vi col), (4, vi w)]) (by intro q_ h_; simp only [List.mem_cons, List.not_mem_nil, or_false] at h_ ⊢; rcases h_ with rfl | rfl | rfl | rfl | rfl | rfl | rfl | rfl | rfl | rfl | rfl | rfl | rfl <;> simp) ?_
                    exact h_
                  · skip
                    refine V_ld (pc := 150) dX11_measure_150 (v := vl (mI m 31 (((2 * ((i : Nat) : Int)) + col).toNat))) rfl rfl ?_
                    refine V_goto (pc := 152) dX11_measure_152 (tgt := 157) rfl ?_
                    refine V_st (pc := 157) dX11_measure_157 (ls' := [(13, vl (mI m 31 (((2 * ((i : Nat) : Int)) + col).toNat))), (11, vl x140), (9, vl (mI m 31 (((2 * ((i : Nat) : Int)) + col).toNat))), (5, vi (((foldR (fun r_ : Nat => labR m j (r_ : Int)) (numR2 m col) e i).1) + 1)), (19, vl (mI m 31 (((2 * ((i : Nat) : Int)) + col).toNat))), (18, vi x59), (17, vi ((i : Nat) : Int)), (15, vl ((foldR (fun r_ : Nat => labR m j (r_ : Int)) (numR2 m col) e i).2.2.2.2.2.2)), (7, vl ((foldR (fun r_ : Nat => labR m j (r_ : Int)) (numR2 m col) e i).2.2.1)), (6, vi ((foldR (fun r_ : Nat => labR m j (r_ : Int)) (numR2 m col) e i).2.1)), (0, vr 30), (1, vi j), (2, vi e), (3, vi col), (4, vi w)]) rfl (Nat.le_of_ble_eq_true rfl) rfl ?_
                    refine V_ld (pc := 159) dX11_measure_159 (v := vl (mI m 31 (((2 * ((i : Nat) : Int)) + col).toNat))) rfl rfl ?_
                    refine V_st (pc := 161) dX11_measure_161 (ls' := [(15, vl (mI m 31 (((2 * ((i : Nat) : Int)) + col).toNat))), (13, vl (mI m 31 (((2 * ((i : Nat) : Int)) + col).toNat))), (11, vl x140), (9, vl (mI m 31 (((2 * ((i : Nat) : Int)) + col).toNat))), (5, vi (((foldR (fun r_ : Nat => labR m j (r_ : Int)) (numR2 m col) e i).1) + 1)), (19, vl (mI m 31 (((2 * ((i : Nat) : Int)) + col).toNat))), (18, vi x59), (17, vi ((i : Nat) : Int)), (7, vl ((foldR (fun r_ : Nat => labR m j (r_ : Int)) (numR2 m col) e i).2.2.1)), (6, vi ((foldR (fun r_ : Nat => labR m j (r_ : Int)) (numR2 m col) e i).2.1)), (0, vr 30), (1, vi j), (2, vi e), (3, vi col), (4, vi w)]) rfl (Nat.le_of_ble_eq_true rfl) rfl ?_
                    refine V_ld (pc := 163) dX11_measure_163 (v := vl ((foldR (fun r_ : Nat => labR m j (r_ : Int)) (numR2 m col) e i).2.2.1)) rfl rfl ?_
                    refine V_ld (pc := 165) dX11_measure_165 (v := vl (mI m 31 (((2 * ((i : Nat) : Int)) + col).toNat))) rfl rfl ?_
                    refine V_ladd (pc := 167) dX11_measure_167 (by have hb := foldR_bd (L := e) (lab := (fun r_ : Nat => labR m j (r_ : Int))) hnum i; unfold I64; (try unfold I32 at *); omega) ?_
                    refine V_st (pc := 168) dX11_measure_168 (ls' := [(7, vl (((foldR (fun r_ : Nat => labR m j (r_ : Int)) (numR2 m col) e i).2.2.1) + (mI m 31 (((2 * ((i : Nat) : Int)) + col).toNat)))), (15, vl (mI m 31 (((2 * ((i : Nat) : Int)) + col).toNat))), (13, vl (mI m 31 (((2 * ((i : Nat) : Int)) + col).toNat))), (11, vl x140), (9, vl (mI m 31 (((2 * ((i : Nat) : Int)) + col).toNat))), (5, vi (((foldR (fun r_ : Nat => labR m j (r_ : Int)) (numR2 m col) e i).1) + 1)), (19, vl (mI m 31 (((2 * ((i : Nat) : Int)) + col).toNat))), (18, vi x59), (17, vi ((i : Nat) : Int)), (6, vi ((foldR (fun r_ : Nat => labR m j (r_ : Int)) (numR2 m col) e i).2.1)), (0, vr 30), (1, vi j), (2, vi e), (3, vi col), (4, vi w)]) rfl (Nat.le_of_ble_eq_true rfl) rfl ?_
                    refine V_iinc (pc := 170) dX11_measure_170 (x := ((foldR (fun r_ : Nat => labR m j (r_ : Int)) (numR2 m col) e i).2.1)) (ls' := [(6, vi (((foldR (fun r_ : Nat => labR m j (r_ : Int)) (numR2 m col) e i).2.1) + 1)), (7, vl (((foldR (fun r_ : Nat => labR m j (r_ : Int)) (numR2 m col) e i).2.2.1) + (mI m 31 (((2 * ((i : Nat) : Int)) + col).toNat)))), (15, vl (mI m 31 (((2 * ((i : Nat) : Int)) + col).toNat))), (13, vl (mI m 31 (((2 * ((i : Nat) : Int)) + col).toNat))), (11, vl x140), (9, vl (mI m 31 (((2 * ((i : Nat) : Int)) + col).toNat))), (5, vi (((foldR (fun r_ : Nat => labR m j (r_ : Int)) (numR2 m col) e i).1) + 1)), (19, vl (mI m 31 (((2 * ((i : Nat) : Int)) + col).toNat))), (18, vi x59), (17, vi ((i : Nat) : Int)), (0, vr 30), (1, vi j), (2, vi e), (3, vi col), (4, vi w)]) rfl (by have hb := foldR_bd (L := e) (lab := (fun r_ : Nat => labR m j (r_ : Int))) hnum i; unfold I32; (try unfold I32 at *); omega) (Nat.le_of_ble_eq_true rfl) rfl ?_
                    refine V_iinc (pc := 173) dX11_measure_173 (x := ((i : Nat) : Int)) (ls' := [(17, vi (((i : Nat) : Int) + 1)), (6, vi (((foldR (fun r_ : Nat => labR m j (r_ : Int)) (numR2 m col) e i).2.1) + 1)), (7, vl (((foldR (fun r_ : Nat => labR m j (r_ : Int)) (numR2 m col) e i).2.2.1) + (mI m 31 (((2 * ((i : Nat) : Int)) + col).toNat)))), (15, vl (mI m 31 (((2 * ((i : Nat) : Int)) + col).toNat))), (13, vl (mI m 31 (((2 * ((i : Nat) : Int)) + col).toNat))), (11, vl x140), (9, vl (mI m 31 (((2 * ((i : Nat) : Int)) + col).toNat))), (5, vi (((foldR (fun r_ : Nat => labR m j (r_ : Int)) (numR2 m col) e i).1) + 1)), (19, vl (mI m 31 (((2 * ((i : Nat) : Int)) + col).toNat))), (18, vi x59), (0, vr 30), (1, vi j), (2, vi e), (3, vi col), (4, vi w)]) rfl (by unfold I32 at *; omega) (Nat.le_of_ble_eq_true rfl) rfl ?_
                    refine V_goto (pc := 176) dX11_measure_176 (tgt := 46) rfl ?_
                    try unfold cmpI at *
                    have ela : (labR m j (i : Int)) = x59 := by omega
                    have enu : (mI m 31 (2 * (i : Int) + col).toNat) = mI m 31 (((2 * ((i : Nat) : Int)) + col).toNat) := by omega
                    have e_ : foldR (fun r_ : Nat => labR m j (r_ : Int)) (numR2 m col) e (i + 1) = (((foldR (fun r_ : Nat => labR m j (r_ : Int)) (numR2 m col) e i).1) + 1, ((foldR (fun r_ : Nat => labR m j (r_ : Int)) (numR2 m col) e i).2.1) + 1, ((foldR (fun r_ : Nat => labR m j (r_ : Int)) (numR2 m col) e i).2.2.1) + (mI m 31 (((2 * ((i : Nat) : Int)) + col).toNat)), mI m 31 (((2 * ((i : Nat) : Int)) + col).toNat), x140, mI m 31 (((2 * ((i : Nat) : Int)) + col).toNat), mI m 31 (((2 * ((i : Nat) : Int)) + col).toNat)) := by
                      show stepR (labR m j (i : Int)) (numR2 m col i) e (foldR (fun r_ : Nat => labR m j (r_ : Int)) (numR2 m col) e i) = _
                      rw [hni]
                      rw [ela, enu]
                      unfold stepR
                      first
                        | (exfalso; omega)
                        | (rw [if_neg (by omega)])
                        | (rw [if_pos (by omega), if_pos (by omega)])
                        | (rw [if_pos (by omega), if_neg (by omega)]; simp only [Prod.mk.injEq]; repeat' apply And.intro
                           all_goals (first | trivial | omega))
                    have h_ := ih (i + 1) (by omega)
                    rw [e_] at h_
                    refine V_ls (ls' := [(17, vi (((i : Nat) : Int) + 1)), (15, vl (mI m 31 (((2 * ((i : Nat) : Int)) + col).toNat))), (13, vl (mI m 31 (((2 * ((i : Nat) : Int)) + col).toNat))), (11, vl x140), (9, vl (mI m 31 (((2 * ((i : Nat) : Int)) + col).toNat))), (7, vl (((foldR (fun r_ : Nat => labR m j (r_ : Int)) (numR2 m col) e i).2.2.1) + (mI m 31 (((2 * ((i : Nat) : Int)) + col).toNat)))), (6, vi (((foldR (fun r_ : Nat => labR m j (r_ : Int)) (numR2 m col) e i).2.1) + 1)), (5, vi (((foldR (fun r_ : Nat => labR m j (r_ : Int)) (numR2 m col) e i).1) + 1)), (0, vr 30), (1, vi j), (2, vi e), (3, vi col), (4, vi w)]) (by intro q_ h_; simp only [List.mem_cons, List.not_mem_nil, or_false] at h_ ⊢; rcases h_ with rfl | rfl | rfl | rfl | rfl | rfl | rfl | rfl | rfl | rfl | rfl | rfl | rfl <;> simp) ?_
                    exact h_
                · skip
                  refine V_ld (pc := 131) dX11_measure_131 (v := vl (mI m 31 (((2 * ((i : Nat) : Int)) + col).toNat))) rfl rfl ?_
                  refine V_goto (pc := 133) dX11_measure_133 (tgt := 143) rfl ?_
                  refine V_st (pc := 143) dX11_measure_143 (ls' := [(11, vl (mI m 31 (((2 * ((i : Nat) : Int)) + col).toNat))), (9, vl (mI m 31 (((2 * ((i : Nat) : Int)) + col).toNat))), (5, vi (((foldR (fun r_ : Nat => labR m j (r_ : Int)) (numR2 m col) e i).1) + 1)), (19, vl (mI m 31 (((2 * ((i : Nat) : Int)) + col).toNat))), (18, vi x59), (17, vi ((i : Nat) : Int)), (15, vl ((foldR (fun r_ : Nat => labR m j (r_ : Int)) (numR2 m col) e i).2.2.2.2.2.2)), (13, vl ((foldR (fun r_ : Nat => labR m j (r_ : Int)) (numR2 m col) e i).2.2.2.2.2.1)), (7, vl ((foldR (fun r_ : Nat => labR m j (r_ : Int)) (numR2 m col) e i).2.2.1)), (6, vi ((foldR (fun r_ : Nat => labR m j (r_ : Int)) (numR2 m col) e i).2.1)), (0, vr 30), (1, vi j), (2, vi e), (3, vi col), (4, vi w)]) rfl (Nat.le_of_ble_eq_true rfl) rfl ?_
                  refine V_ld (pc := 145) dX11_measure_145 (v := vi ((foldR (fun r_ : Nat => labR m j (r_ : Int)) (numR2 m col) e i).2.1)) rfl rfl ?_
                  refine V_if_ne (pc := 147) dX11_measure_147 (tgt := 155) rfl (fun h147 => ?_) (fun h147 => ?_)
                  · skip
                    refine V_ld (pc := 155) dX11_measure_155 (v := vl ((foldR (fun r_ : Nat => labR m j (r_ : Int)) (numR2 m col) e i).2.2.2.2.2.1)) rfl rfl ?_
                    refine V_st (pc := 157) dX11_measure_157 (ls' := [(13, vl ((foldR (fun r_ : Nat => labR m j (r_ : Int)) (numR2 m col) e i).2.2.2.2.2.1)), (11, vl (mI m 31 (((2 * ((i : Nat) : Int)) + col).toNat))), (9, vl (mI m 31 (((2 * ((i : Nat) : Int)) + col).toNat))), (5, vi (((foldR (fun r_ : Nat => labR m j (r_ : Int)) (numR2 m col) e i).1) + 1)), (19, vl (mI m 31 (((2 * ((i : Nat) : Int)) + col).toNat))), (18, vi x59), (17, vi ((i : Nat) : Int)), (15, vl ((foldR (fun r_ : Nat => labR m j (r_ : Int)) (numR2 m col) e i).2.2.2.2.2.2)), (7, vl ((foldR (fun r_ : Nat => labR m j (r_ : Int)) (numR2 m col) e i).2.2.1)), (6, vi ((foldR (fun r_ : Nat => labR m j (r_ : Int)) (numR2 m col) e i).2.1)), (0, vr 30), (1, vi j), (2, vi e), (3, vi col), (4, vi w)]) rfl (Nat.le_of_ble_eq_true rfl) rfl ?_
                    refine V_ld (pc := 159) dX11_measure_159 (v := vl (mI m 31 (((2 * ((i : Nat) : Int)) + col).toNat))) rfl rfl ?_
                    refine V_st (pc := 161) dX11_measure_161 (ls' := [(15, vl (mI m 31 (((2 * ((i : Nat) : Int)) + col).toNat))), (13, vl ((foldR (fun r_ : Nat => labR m j (r_ : Int)) (numR2 m col) e i).2.2.2.2.2.1)), (11, vl (mI m 31 (((2 * ((i : Nat) : Int)) + col).toNat))), (9, vl (mI m 31 (((2 * ((i : Nat) : Int)) + col).toNat))), (5, vi (((foldR (fun r_ : Nat => labR m j (r_ : Int)) (numR2 m col) e i).1) + 1)), (19, vl (mI m 31 (((2 * ((i : Nat) : Int)) + col).toNat))), (18, vi x59), (17, vi ((i : Nat) : Int)), (7, vl ((foldR (fun r_ : Nat => labR m j (r_ : Int)) (numR2 m col) e i).2.2.1)), (6, vi ((foldR (fun r_ : Nat => labR m j (r_ : Int)) (numR2 m col) e i).2.1)), (0, vr 30), (1, vi j), (2, vi e), (3, vi col), (4, vi w)]) rfl (Nat.le_of_ble_eq_true rfl) rfl ?_
                    refine V_ld (pc := 163) dX11_measure_163 (v := vl ((foldR (fun r_ : Nat => labR m j (r_ : Int)) (numR2 m col) e i).2.2.1)) rfl rfl ?_
                    refine V_ld (pc := 165) dX11_measure_165 (v := vl (mI m 31 (((2 * ((i : Nat) : Int)) + col).toNat))) rfl rfl ?_
                    refine V_ladd (pc := 167) dX11_measure_167 (by have hb := foldR_bd (L := e) (lab := (fun r_ : Nat => labR m j (r_ : Int))) hnum i; unfold I64; (try unfold I32 at *); omega) ?_
                    refine V_st (pc := 168) dX11_measure_168 (ls' := [(7, vl (((foldR (fun r_ : Nat => labR m j (r_ : Int)) (numR2 m col) e i).2.2.1) + (mI m 31 (((2 * ((i : Nat) : Int)) + col).toNat)))), (15, vl (mI m 31 (((2 * ((i : Nat) : Int)) + col).toNat))), (13, vl ((foldR (fun r_ : Nat => labR m j (r_ : Int)) (numR2 m col) e i).2.2.2.2.2.1)), (11, vl (mI m 31 (((2 * ((i : Nat) : Int)) + col).toNat))), (9, vl (mI m 31 (((2 * ((i : Nat) : Int)) + col).toNat))), (5, vi (((foldR (fun r_ : Nat => labR m j (r_ : Int)) (numR2 m col) e i).1) + 1)), (19, vl (mI m 31 (((2 * ((i : Nat) : Int)) + col).toNat))), (18, vi x59), (17, vi ((i : Nat) : Int)), (6, vi ((foldR (fun r_ : Nat => labR m j (r_ : Int)) (numR2 m col) e i).2.1)), (0, vr 30), (1, vi j), (2, vi e), (3, vi col), (4, vi w)]) rfl (Nat.le_of_ble_eq_true rfl) rfl ?_
                    refine V_iinc (pc := 170) dX11_measure_170 (x := ((foldR (fun r_ : Nat => labR m j (r_ : Int)) (numR2 m col) e i).2.1)) (ls' := [(6, vi (((foldR (fun r_ : Nat => labR m j (r_ : Int)) (numR2 m col) e i).2.1) + 1)), (7, vl (((foldR (fun r_ : Nat => labR m j (r_ : Int)) (numR2 m col) e i).2.2.1) + (mI m 31 (((2 * ((i : Nat) : Int)) + col).toNat)))), (15, vl (mI m 31 (((2 * ((i : Nat) : Int)) + col).toNat))), (13, vl ((foldR (fun r_ : Nat => labR m j (r_ : Int)) (numR2 m col) e i).2.2.2.2.2.1)), (11, vl (mI m 31 (((2 * ((i : Nat) : Int)) + col).toNat))), (9, vl (mI m 31 (((2 * ((i : Nat) : Int)) + col).toNat))), (5, vi (((foldR (fun r_ : Nat => labR m j (r_ : Int)) (numR2 m col) e i).1) + 1)), (19, vl (mI m 31 (((2 * ((i : Nat) : Int)) + col).toNat))), (18, vi x59), (17, vi ((i : Nat) : Int)), (0, vr 30), (1, vi j), (2, vi e), (3, vi col), (4, vi w)]) rfl (by have hb := foldR_bd (L := e) (lab := (fun r_ : Nat => labR m j (r_ : Int))) hnum i; unfold I32; (try unfold I32 at *); omega) (Nat.le_of_ble_eq_true rfl) rfl ?_
                    refine V_iinc (pc := 173) dX11_measure_173 (x := ((i : Nat) : Int)) (ls' := [(17, vi (((i : Nat) : Int) + 1)), (6, vi (((foldR (fun r_ : Nat => labR m j (r_ : Int)) (numR2 m col) e i).2.1) + 1)), (7, vl (((foldR (fun r_ : Nat => labR m j (r_ : Int)) (numR2 m col) e i).2.2.1) + (mI m 31 (((2 * ((i : Nat) : Int)) + col).toNat)))), (15, vl (mI m 31 (((2 * ((i : Nat) : Int)) + col).toNat))), (13, vl ((foldR (fun r_ : Nat => labR m j (r_ : Int)) (numR2 m col) e i).2.2.2.2.2.1)), (11, vl (mI m 31 (((2 * ((i : Nat) : Int)) + col).toNat))), (9, vl (mI m 31 (((2 * ((i : Nat) : Int)) + col).toNat))), (5, vi (((foldR (fun r_ : Nat => labR m j (r_ : Int)) (numR2 m col) e i).1) + 1)), (19, vl (mI m 31 (((2 * ((i : Nat) : Int)) + col).toNat))), (18, vi x59), (0, vr 30), (1, vi j), (2, vi e), (3, vi col), (4, vi w)]) rfl (by unfold I32 at *; omega) (Nat.le_of_ble_eq_true rfl) rfl ?_
                    refine V_goto (pc := 176) dX11_measure_176 (tgt := 46) rfl ?_
                    try unfold cmpI at *
                    have ela : (labR m j (i : Int)) = x59 := by omega
                    have enu : (mI m 31 (2 * (i : Int) + col).toNat) = mI m 31 (((2 * ((i : Nat) : Int)) + col).toNat) := by omega
                    have e_ : foldR (fun r_ : Nat => labR m j (r_ : Int)) (numR2 m col) e (i + 1) = (((foldR (fun r_ : Nat => labR m j (r_ : Int)) (numR2 m col) e i).1) + 1, ((foldR (fun r_ : Nat => labR m j (r_ : Int)) (numR2 m col) e i).2.1) + 1, ((foldR (fun r_ : Nat => labR m j (r_ : Int)) (numR2 m col) e i).2.2.1) + (mI m 31 (((2 * ((i : Nat) : Int)) + col).toNat)), mI m 31 (((2 * ((i : Nat) : Int)) + col).toNat), mI m 31 (((2 * ((i : Nat) : Int)) + col).toNat), (foldR (fun r_ : Nat => labR m j (r_ : Int)) (numR2 m col) e i).2.2.2.2.2.1, mI m 31 (((2 * ((i : Nat) : Int)) + col).toNat)) := by
                      show stepR (labR m j (i : Int)) (numR2 m col i) e (foldR (fun r_ : Nat => labR m j (r_ : Int)) (numR2 m col) e i) = _
                      rw [hni]
                      rw [ela, enu]
                      unfold stepR
                      first
                        | (exfalso; omega)
                        | (rw [if_neg (by omega)])
                        | (rw [if_pos (by omega), if_pos (by omega)])
                        | (rw [if_pos (by omega), if_neg (by omega)]; simp only [Prod.mk.injEq]; repeat' apply And.intro
                           all_goals (first | trivial | omega))
                    have h_ := ih (i + 1) (by omega)
                    rw [e_] at h_
                    refine V_ls (ls' := [(17, vi (((i : Nat) : Int) + 1)), (15, vl (mI m 31 (((2 * ((i : Nat) : Int)) + col).toNat))), (13, vl ((foldR (fun r_ : Nat => labR m j (r_ : Int)) (numR2 m col) e i).2.2.2.2.2.1)), (11, vl (mI m 31 (((2 * ((i : Nat) : Int)) + col).toNat))), (9, vl (mI m 31 (((2 * ((i : Nat) : Int)) + col).toNat))), (7, vl (((foldR (fun r_ : Nat => labR m j (r_ : Int)) (numR2 m col) e i).2.2.1) + (mI m 31 (((2 * ((i : Nat) : Int)) + col).toNat)))), (6, vi (((foldR (fun r_ : Nat => labR m j (r_ : Int)) (numR2 m col) e i).2.1) + 1)), (5, vi (((foldR (fun r_ : Nat => labR m j (r_ : Int)) (numR2 m col) e i).1) + 1)), (0, vr 30), (1, vi j), (2, vi e), (3, vi col), (4, vi w)]) (by intro q_ h_; simp only [List.mem_cons, List.not_mem_nil, or_false] at h_ ⊢; rcases h_ with rfl | rfl | rfl | rfl | rfl | rfl | rfl | rfl | rfl | rfl | rfl | rfl | rfl <;> simp) ?_
                    exact h_
                  · skip
                    refine V_ld (pc := 150) dX11_measure_150 (v := vl (mI m 31 (((2 * ((i : Nat) : Int)) + col).toNat))) rfl rfl ?_
                    refine V_goto (pc := 152) dX11_measure_152 (tgt := 157) rfl ?_
                    refine V_st (pc := 157) dX11_measure_157 (ls' := [(13, vl (mI m 31 (((2 * ((i : Nat) : Int)) + col).toNat))), (11, vl (mI m 31 (((2 * ((i : Nat) : Int)) + col).toNat))), (9, vl (mI m 31 (((2 * ((i : Nat) : Int)) + col).toNat))), (5, vi (((foldR (fun r_ : Nat => labR m j (r_ : Int)) (numR2 m col) e i).1) + 1)), (19, vl (mI m 31 (((2 * ((i : Nat) : Int)) + col).toNat))), (18, vi x59), (17, vi ((i : Nat) : Int)), (15, vl ((foldR (fun r_ : Nat => labR m j (r_ : Int)) (numR2 m col) e i).2.2.2.2.2.2)), (7, vl ((foldR (fun r_ : Nat => labR m j (r_ : Int)) (numR2 m col) e i).2.2.1)), (6, vi ((foldR (fun r_ : Nat => labR m j (r_ : Int)) (numR2 m col) e i).2.1)), (0, vr 30), (1, vi j), (2, vi e), (3, vi col), (4, vi w)]) rfl (Nat.le_of_ble_eq_true rfl) rfl ?_
                    refine V_ld (pc := 159) dX11_measure_159 (v := vl (mI m 31 (((2 * ((i : Nat) : Int)) + col).toNat))) rfl rfl ?_
                    refine V_st (pc := 161) dX11_measure_161 (ls' := [(15, vl (mI m 31 (((2 * ((i : Nat) : Int)) + col).toNat))), (13, vl (mI m 31 (((2 * ((i : Nat) : Int)) + col).toNat))), (11, vl (mI m 31 (((2 * ((i : Nat) : Int)) + col).toNat))), (9, vl (mI m 31 (((2 * ((i : Nat) : Int)) + col).toNat))), (5, vi (((foldR (fun r_ : Nat => labR m j (r_ : Int)) (numR2 m col) e i).1) + 1)), (19, vl (mI m 31 (((2 * ((i : Nat) : Int)) + col).toNat))), (18, vi x59), (17, vi ((i : Nat) : Int)), (7, vl ((foldR (fun r_ : Nat => labR m j (r_ : Int)) (numR2 m col) e i).2.2.1)), (6, vi ((foldR (fun r_ : Nat => labR m j (r_ : Int)) (numR2 m col) e i).2.1)), (0, vr 30), (1, vi j), (2, vi e), (3, vi col), (4, vi w)]) rfl (Nat.le_of_ble_eq_true rfl) rfl ?_
                    refine V_ld (pc := 163) dX11_measure_163 (v := vl ((foldR (fun r_ : Nat => labR m j (r_ : Int)) (numR2 m col) e i).2.2.1)) rfl rfl ?_
                    refine V_ld (pc := 165) dX11_measure_165 (v := vl (mI m 31 (((2 * ((i : Nat) : Int)) + col).toNat))) rfl rfl ?_
                    refine V_ladd (pc := 167) dX11_measure_167 (by have hb := foldR_bd (L := e) (lab := (fun r_ : Nat => labR m j (r_ : Int))) hnum i; unfold I64; (try unfold I32 at *); omega) ?_
                    refine V_st (pc := 168) dX11_measure_168 (ls' := [(7, vl (((foldR (fun r_ : Nat => labR m j (r_ : Int)) (numR2 m col) e i).2.2.1) + (mI m 31 (((2 * ((i : Nat) : Int)) + col).toNat)))), (15, vl (mI m 31 (((2 * ((i : Nat) : Int)) + col).toNat))), (13, vl (mI m 31 (((2 * ((i : Nat) : Int)) + col).toNat))), (11, vl (mI m 31 (((2 * ((i : Nat) : Int)) + col).toNat))), (9, vl (mI m 31 (((2 * ((i : Nat) : Int)) + col).toNat))), (5, vi (((foldR (fun r_ : Nat => labR m j (r_ : Int)) (numR2 m col) e i).1) + 1)), (19, vl (mI m 31 (((2 * ((i : Nat) : Int)) + col).toNat))), (18, vi x59), (17, vi ((i : Nat) : Int)), (6, vi ((foldR (fun r_ : Nat => labR m j (r_ : Int)) (numR2 m col) e i).2.1)), (0, vr 30), (1, vi j), (2, vi e), (3, vi col), (4, vi w)]) rfl (Nat.le_of_ble_eq_true rfl) rfl ?_
                    refine V_iinc (pc := 170) dX11_measure_170 (x := ((foldR (fun r_ : Nat => labR m j (r_ : Int)) (numR2 m col) e i).2.1)) (ls' := [(6, vi (((foldR (fun r_ : Nat => labR m j (r_ : Int)) (numR2 m col) e i).2.1) + 1)), (7, vl (((foldR (fun r_ : Nat => labR m j (r_ : Int)) (numR2 m col) e i).2.2.1) + (mI m 31 (((2 * ((i : Nat) : Int)) + col).toNat)))), (15, vl (mI m 31 (((2 * ((i : Nat) : Int)) + col).toNat))), (13, vl (mI m 31 (((2 * ((i : Nat) : Int)) + col).toNat))), (11, vl (mI m 31 (((2 * ((i : Nat) : Int)) + col).toNat))), (9, vl (mI m 31 (((2 * ((i : Nat) : Int)) + col).toNat))), (5, vi (((foldR (fun r_ : Nat => labR m j (r_ : Int)) (numR2 m col) e i).1) + 1)), (19, vl (mI m 31 (((2 * ((i : Nat) : Int)) + col).toNat))), (18, vi x59), (17, vi ((i : Nat) : Int)), (0, vr 30), (1, vi j), (2, vi e), (3, vi col), (4, vi w)]) rfl (by have hb := foldR_bd (L := e) (lab := (fun r_ : Nat => labR m j (r_ : Int))) hnum i; unfold I32; (try unfold I32 at *); omega) (Nat.le_of_ble_eq_true rfl) rfl ?_
                    refine V_iinc (pc := 173) dX11_measure_173 (x := ((i : Nat) : Int)) (ls' := [(17, vi (((i : Nat) : Int) + 1)), (6, vi (((foldR (fun r_ : Nat => labR m j (r_ : Int)) (numR2 m col) e i).2.1) + 1)), (7, vl (((foldR (fun r_ : Nat => labR m j (r_ : Int)) (numR2 m col) e i).2.2.1) + (mI m 31 (((2 * ((i : Nat) : Int)) + col).toNat)))), (15, vl (mI m 31 (((2 * ((i : Nat) : Int)) + col).toNat))), (13, vl (mI m 31 (((2 * ((i : Nat) : Int)) + col).toNat))), (11, vl (mI m 31 (((2 * ((i : Nat) : Int)) + col).toNat))), (9, vl (mI m 31 (((2 * ((i : Nat) : Int)) + col).toNat))), (5, vi (((foldR (fun r_ : Nat => labR m j (r_ : Int)) (numR2 m col) e i).1) + 1)), (19, vl (mI m 31 (((2 * ((i : Nat) : Int)) + col).toNat))), (18, vi x59), (0, vr 30), (1, vi j), (2, vi e), (3, vi col), (4, vi w)]) rfl (by unfold I32 at *; omega) (Nat.le_of_ble_eq_true rfl) rfl ?_
                    refine V_goto (pc := 176) dX11_measure_176 (tgt := 46) rfl ?_
                    try unfold cmpI at *
                    have ela : (labR m j (i : Int)) = x59 := by omega
                    have enu : (mI m 31 (2 * (i : Int) + col).toNat) = mI m 31 (((2 * ((i : Nat) : Int)) + col).toNat) := by omega
                    have e_ : foldR (fun r_ : Nat => labR m j (r_ : Int)) (numR2 m col) e (i + 1) = (((foldR (fun r_ : Nat => labR m j (r_ : Int)) (numR2 m col) e i).1) + 1, ((foldR (fun r_ : Nat => labR m j (r_ : Int)) (numR2 m col) e i).2.1) + 1, ((foldR (fun r_ : Nat => labR m j (r_ : Int)) (numR2 m col) e i).2.2.1) + (mI m 31 (((2 * ((i : Nat) : Int)) + col).toNat)), mI m 31 (((2 * ((i : Nat) : Int)) + col).toNat), mI m 31 (((2 * ((i : Nat) : Int)) + col).toNat), mI m 31 (((2 * ((i : Nat) : Int)) + col).toNat), mI m 31 (((2 * ((i : Nat) : Int)) + col).toNat)) := by
                      show stepR (labR m j (i : Int)) (numR2 m col i) e (foldR (fun r_ : Nat => labR m j (r_ : Int)) (numR2 m col) e i) = _
                      rw [hni]
                      rw [ela, enu]
                      unfold stepR
                      first
                        | (exfalso; omega)
                        | (rw [if_neg (by omega)])
                        | (rw [if_pos (by omega), if_pos (by omega)])
                        | (rw [if_pos (by omega), if_neg (by omega)]; simp only [Prod.mk.injEq]; repeat' apply And.intro
                           all_goals (first | trivial | omega))
                    have h_ := ih (i + 1) (by omega)
                    rw [e_] at h_
                    refine V_ls (ls' := [(17, vi (((i : Nat) : Int) + 1)), (15, vl (mI m 31 (((2 * ((i : Nat) : Int)) + col).toNat))), (13, vl (mI m 31 (((2 * ((i : Nat) : Int)) + col).toNat))), (11, vl (mI m 31 (((2 * ((i : Nat) : Int)) + col).toNat))), (9, vl (mI m 31 (((2 * ((i : Nat) : Int)) + col).toNat))), (7, vl (((foldR (fun r_ : Nat => labR m j (r_ : Int)) (numR2 m col) e i).2.2.1) + (mI m 31 (((2 * ((i : Nat) : Int)) + col).toNat)))), (6, vi (((foldR (fun r_ : Nat => labR m j (r_ : Int)) (numR2 m col) e i).2.1) + 1)), (5, vi (((foldR (fun r_ : Nat => labR m j (r_ : Int)) (numR2 m col) e i).1) + 1)), (0, vr 30), (1, vi j), (2, vi e), (3, vi col), (4, vi w)]) (by intro q_ h_; simp only [List.mem_cons, List.not_mem_nil, or_false] at h_ ⊢; rcases h_ with rfl | rfl | rfl | rfl | rfl | rfl | rfl | rfl | rfl | rfl | rfl | rfl | rfl <;> simp) ?_
                    exact h_


set_option maxHeartbeats 4000000 in
theorem r_measure2  (m : Mem) (j : Int) (e : Int) (col : Int) (w : Int)   (hL : Lay (mT m) (mR m)) (hM : MatR m) (hz : 0 ≤ mI m 31 64 ∧ mI m 31 64 ≤ 32) (hnum : ∀ r : Nat, -999 ≤ numR2 m col r ∧ numR2 m col r ≤ 1000) : Ct μX11_measure 2 [vr 30, vi j, vi e, vi col, vi w] m (rl fun x_ m' => (x_ = if ((0 ≤ j ∧ j < mI m 31 3336) ∧ 0 ≤ e ∧ e ≤ 26 ∧ 0 ≤ col ∧ col < 2 ∧ 0 ≤ w ∧ w < 7) then measM (foldM (fun r_ : Nat => labR m j (r_ : Int)) (numR2 m col) e (mI m 31 64).toNat) w else -9223372036854775808) ∧ m = m') := by
  refine Ct_of_V rfl (by decide) rfl (Nat.le_of_ble_eq_true rfl) ?_
  show V μX11_measure 2 m _ 0 [(0, vr 30), (1, vi j), (2, vi e), (3, vi col), (4, vi w)] [] m
  refine V_rg (k := 1) (x := j) rfl fun r_j => ?_
  refine V_rg (k := 2) (x := e) rfl fun r_e => ?_
  refine V_rg (k := 3) (x := col) rfl fun r_col => ?_
  refine V_rg (k := 4) (x := w) rfl fun r_w => ?_
  have hM0 := hM.1
  have hM1 := hM.2.1
  refine V_ld (pc := 0) dX11_measure_0 (v := vr 30) rfl rfl ?_
  refine V_ld (pc := 1) dX11_measure_1 (v := vi j) rfl rfl ?_
  refine V_callV (pc := 2) dX11_measure_2 (F' := 1) (As := [vi j]) (st := []) cw_RX11_371 rfl rfl hL.t30 (by decide) (Nat.le_of_ble_eq_true rfl) (by omega) (r_isMatch  m j   (by first | assumption | omega) ⟨hM.1, hM.2.1⟩) ?_
  rintro _ _ ⟨x2, rfl, hx2, rfl⟩ ok2 le2
  refine V_if_eq (pc := 5) dX11_measure_5 (tgt := 18) rfl (fun h5 => ?_) (fun h5 => ?_)
  · skip
    refine V_ldc2 (pc := 18) dX11_measure_18 (x := (-9223372036854775808)) kl_RX11_382 (by unfold I64; omega) rfl ?_
    refine V_retl (pc := 21) dX11_measure_21 trivial ?_
    exact ⟨by omega, rfl⟩
  · skip
    refine V_ld (pc := 8) dX11_measure_8 (v := vi e) rfl rfl ?_
    refine V_ld (pc := 9) dX11_measure_9 (v := vi col) rfl rfl ?_
    refine V_ld (pc := 10) dX11_measure_10 (v := vi w) rfl rfl ?_
    refine V_callS (pc := 12) dX11_measure_12 (F' := 1) (As := [vi e, vi col, vi w]) (st := []) cw_RX11_379 rfl rfl (Nat.le_of_ble_eq_true rfl) (by omega) (r_isMeasure  m e col w   ) ?_
    rintro _ _ ⟨x12, rfl, hx12, rfl⟩ ok12 le12
    refine V_if_ne (pc := 15) dX11_measure_15 (tgt := 22) rfl (fun h15 => ?_) (fun h15 => ?_)
    · skip
      refine V_iconst (pc := 22) dX11_measure_22 (by unfold I32; omega) ?_
      refine V_st (pc := 23) dX11_measure_23 (ls' := [(5, vi 0), (0, vr 30), (1, vi j), (2, vi e), (3, vi col), (4, vi w)]) rfl (Nat.le_of_ble_eq_true rfl) rfl ?_
      refine V_iconst (pc := 25) dX11_measure_25 (by unfold I32; omega) ?_
      refine V_st (pc := 26) dX11_measure_26 (ls' := [(6, vi 0), (5, vi 0), (0, vr 30), (1, vi j), (2, vi e), (3, vi col), (4, vi w)]) rfl (Nat.le_of_ble_eq_true rfl) rfl ?_
      refine V_lconst (pc := 28) dX11_measure_28 (x := 0) (by unfold I64; omega) (by decide) ?_
      refine V_st (pc := 29) dX11_measure_29 (ls' := [(7, vl 0), (6, vi 0), (5, vi 0), (0, vr 30), (1, vi j), (2, vi e), (3, vi col), (4, vi w)]) rfl (Nat.le_of_ble_eq_true rfl) rfl ?_
      refine V_lconst (pc := 31) dX11_measure_31 (x := 0) (by unfold I64; omega) (by decide) ?_
      refine V_st (pc := 32) dX11_measure_32 (ls' := [(9, vl 0), (7, vl 0), (6, vi 0), (5, vi 0), (0, vr 30), (1, vi j), (2, vi e), (3, vi col), (4, vi w)]) rfl (Nat.le_of_ble_eq_true rfl) rfl ?_
      refine V_lconst (pc := 34) dX11_measure_34 (x := 0) (by unfold I64; omega) (by decide) ?_
      refine V_st (pc := 35) dX11_measure_35 (ls' := [(11, vl 0), (9, vl 0), (7, vl 0), (6, vi 0), (5, vi 0), (0, vr 30), (1, vi j), (2, vi e), (3, vi col), (4, vi w)]) rfl (Nat.le_of_ble_eq_true rfl) rfl ?_
      refine V_lconst (pc := 37) dX11_measure_37 (x := 0) (by unfold I64; omega) (by decide) ?_
      refine V_st (pc := 38) dX11_measure_38 (ls' := [(13, vl 0), (11, vl 0), (9, vl 0), (7, vl 0), (6, vi 0), (5, vi 0), (0, vr 30), (1, vi j), (2, vi e), (3, vi col), (4, vi w)]) rfl (Nat.le_of_ble_eq_true rfl) rfl ?_
      refine V_lconst (pc := 40) dX11_measure_40 (x := 0) (by unfold I64; omega) (by decide) ?_
      refine V_st (pc := 41) dX11_measure_41 (ls' := [(15, vl 0), (13, vl 0), (11, vl 0), (9, vl 0), (7, vl 0), (6, vi 0), (5, vi 0), (0, vr 30), (1, vi j), (2, vi e), (3, vi col), (4, vi w)]) rfl (Nat.le_of_ble_eq_true rfl) rfl ?_
      refine V_iconst (pc := 43) dX11_measure_43 (by unfold I32; omega) ?_
      refine V_st (pc := 44) dX11_measure_44 (ls' := [(17, vi 0), (15, vl 0), (13, vl 0), (11, vl 0), (9, vl 0), (7, vl 0), (6, vi 0), (5, vi 0), (0, vr 30), (1, vi j), (2, vi e), (3, vi col), (4, vi w)]) rfl (Nat.le_of_ble_eq_true rfl) rfl ?_
      skip
      refine L_measure2 (F := 0) (m := m) (n := (mI m 31 64).toNat) (j := j) (e := e) (col := col) (w := w) hL hM (by omega) (by omega) hz (by omega) hnum ?_ (mI m 31 64).toNat 0 (by omega)
      have hb := foldR_bd (L := e) (lab := (fun r_ : Nat => labR m j (r_ : Int))) hnum (mI m 31 64).toNat
      have hq := foldR_M2 (L := e) (lab := (fun r_ : Nat => labR m j (r_ : Int))) hnum (mI m 31 64).toNat
      refine V_ld (pc := 179) dX11_measure_179 (v := vi w) rfl rfl ?_
      refine V_if_ne (pc := 181) dX11_measure_181 (tgt := 188) rfl (fun h181 => ?_) (fun h181 => ?_)
      · skip
        refine V_ld (pc := 188) dX11_measure_188 (v := vi w) rfl rfl ?_
        refine V_iconst (pc := 190) dX11_measure_190 (by unfold I32; omega) ?_
        refine V_icmp_ne (pc := 191) dX11_measure_191 (tgt := 197) rfl (fun h191 => ?_) (fun h191 => ?_)
        · skip
          refine V_ld (pc := 197) dX11_measure_197 (v := vi ((foldR (fun r_ : Nat => labR m j (r_ : Int)) (numR2 m col) e ((mI m 31 64).toNat)).2.1)) rfl rfl ?_
          refine V_if_ne (pc := 199) dX11_measure_199 (tgt := 206) rfl (fun h199 => ?_) (fun h199 => ?_)
          · skip
            refine V_ld (pc := 206) dX11_measure_206 (v := vl ((foldR (fun r_ : Nat => labR m j (r_ : Int)) (numR2 m col) e ((mI m 31 64).toNat)).2.2.1)) rfl rfl ?_
            refine V_ld (pc := 208) dX11_measure_208 (v := vi ((foldR (fun r_ : Nat => labR m j (r_ : Int)) (numR2 m col) e ((mI m 31 64).toNat)).2.1)) rfl rfl ?_
            refine V_i2l (pc := 210) dX11_measure_210 ?_
            refine V_ldiv (pc := 211) dX11_measure_211 (by omega) (tdiv_i64 (by omega) (by omega)) ?_
            refine V_st (pc := 212) dX11_measure_212 (ls' := [(17, vl (Int.tdiv ((foldR (fun r_ : Nat => labR m j (r_ : Int)) (numR2 m col) e ((mI m 31 64).toNat)).2.2.1) ((foldR (fun r_ : Nat => labR m j (r_ : Int)) (numR2 m col) e ((mI m 31 64).toNat)).2.1))), (15, vl ((foldR (fun r_ : Nat => labR m j (r_ : Int)) (numR2 m col) e ((mI m 31 64).toNat)).2.2.2.2.2.2)), (13, vl ((foldR (fun r_ : Nat => labR m j (r_ : Int)) (numR2 m col) e ((mI m 31 64).toNat)).2.2.2.2.2.1)), (11, vl ((foldR (fun r_ : Nat => labR m j (r_ : Int)) (numR2 m col) e ((mI m 31 64).toNat)).2.2.2.2.1)), (9, vl ((foldR (fun r_ : Nat => labR m j (r_ : Int)) (numR2 m col) e ((mI m 31 64).toNat)).2.2.2.1)), (7, vl ((foldR (fun r_ : Nat => labR m j (r_ : Int)) (numR2 m col) e ((mI m 31 64).toNat)).2.2.1)), (6, vi ((foldR (fun r_ : Nat => labR m j (r_ : Int)) (numR2 m col) e ((mI m 31 64).toNat)).2.1)), (5, vi ((foldR (fun r_ : Nat => labR m j (r_ : Int)) (numR2 m col) e ((mI m 31 64).toNat)).1)), (0, vr 30), (1, vi j), (2, vi e), (3, vi col), (4, vi w)]) rfl (Nat.le_of_ble_eq_true rfl) rfl ?_
            refine V_ld (pc := 214) dX11_measure_214 (v := vl (Int.tdiv ((foldR (fun r_ : Nat => labR m j (r_ : Int)) (numR2 m col) e ((mI m 31 64).toNat)).2.2.1) ((foldR (fun r_ : Nat => labR m j (r_ : Int)) (numR2 m col) e ((mI m 31 64).toNat)).2.1))) rfl rfl ?_
            refine V_ld (pc := 216) dX11_measure_216 (v := vl (Int.tdiv ((foldR (fun r_ : Nat => labR m j (r_ : Int)) (numR2 m col) e ((mI m 31 64).toNat)).2.2.1) ((foldR (fun r_ : Nat => labR m j (r_ : Int)) (numR2 m col) e ((mI m 31 64).toNat)).2.1))) rfl rfl ?_
            refine V_ld (pc := 218) dX11_measure_218 (v := vi ((foldR (fun r_ : Nat => labR m j (r_ : Int)) (numR2 m col) e ((mI m 31 64).toNat)).2.1)) rfl rfl ?_
            refine V_i2l (pc := 220) dX11_measure_220 ?_
            refine V_lmul (pc := 221) dX11_measure_221 (by have := tdiv_bd (a := (foldR (fun r_ : Nat => labR m j (r_ : Int)) (numR2 m col) e (mI m 31 64).toNat).2.2.1) (b := (foldR (fun r_ : Nat => labR m j (r_ : Int)) (numR2 m col) e (mI m 31 64).toNat).2.1) (by omega) (by omega); unfold I64; omega) ?_
            refine V_ld (pc := 222) dX11_measure_222 (v := vl ((foldR (fun r_ : Nat => labR m j (r_ : Int)) (numR2 m col) e ((mI m 31 64).toNat)).2.2.1)) rfl rfl ?_
            refine V_lcmp (pc := 224) dX11_measure_224 ?_
            refine V_if_le (pc := 225) dX11_measure_225 (tgt := 232) rfl (fun h225 => ?_) (fun h225 => ?_)
            · skip
              refine V_lconst (pc := 232) dX11_measure_232 (x := 0) (by unfold I64; omega) (by decide) ?_
              refine V_lsub (pc := 233) dX11_measure_233 (by have := tdiv_bd (a := (foldR (fun r_ : Nat => labR m j (r_ : Int)) (numR2 m col) e (mI m 31 64).toNat).2.2.1) (b := (foldR (fun r_ : Nat => labR m j (r_ : Int)) (numR2 m col) e (mI m 31 64).toNat).2.1) (by omega) (by omega); unfold I64; omega) ?_
              refine V_st (pc := 234) dX11_measure_234 (ls' := [(17, vl ((Int.tdiv ((foldR (fun r_ : Nat => labR m j (r_ : Int)) (numR2 m col) e ((mI m 31 64).toNat)).2.2.1) ((foldR (fun r_ : Nat => labR m j (r_ : Int)) (numR2 m col) e ((mI m 31 64).toNat)).2.1)) - 0)), (15, vl ((foldR (fun r_ : Nat => labR m j (r_ : Int)) (numR2 m col) e ((mI m 31 64).toNat)).2.2.2.2.2.2)), (13, vl ((foldR (fun r_ : Nat => labR m j (r_ : Int)) (numR2 m col) e ((mI m 31 64).toNat)).2.2.2.2.2.1)), (11, vl ((foldR (fun r_ : Nat => labR m j (r_ : Int)) (numR2 m col) e ((mI m 31 64).toNat)).2.2.2.2.1)), (9, vl ((foldR (fun r_ : Nat => labR m j (r_ : Int)) (numR2 m col) e ((mI m 31 64).toNat)).2.2.2.1)), (7, vl ((foldR (fun r_ : Nat => labR m j (r_ : Int)) (numR2 m col) e ((mI m 31 64).toNat)).2.2.1)), (6, vi ((foldR (fun r_ : Nat => labR m j (r_ : Int)) (numR2 m col) e ((mI m 31 64).toNat)).2.1)), (5, vi ((foldR (fun r_ : Nat => labR m j (r_ : Int)) (numR2 m col) e ((mI m 31 64).toNat)).1)), (0, vr 30), (1, vi j), (2, vi e), (3, vi col), (4, vi w)]) rfl (Nat.le_of_ble_eq_true rfl) rfl ?_
              refine V_ld (pc := 236) dX11_measure_236 (v := vi w) rfl rfl ?_
              refine V_iconst (pc := 238) dX11_measure_238 (by unfold I32; omega) ?_
              refine V_icmp_ne (pc := 239) dX11_measure_239 (tgt := 247) rfl (fun h239 => ?_) (fun h239 => ?_)
              · skip
                refine V_ld (pc := 247) dX11_measure_247 (v := vi w) rfl rfl ?_
                refine V_iconst (pc := 249) dX11_measure_249 (by unfold I32; omega) ?_
                refine V_icmp_ne (pc := 250) dX11_measure_250 (tgt := 258) rfl (fun h250 => ?_) (fun h250 => ?_)
                · skip
                  refine V_ld (pc := 258) dX11_measure_258 (v := vi w) rfl rfl ?_
                  refine V_iconst (pc := 260) dX11_measure_260 (by unfold I32; omega) ?_
                  refine V_icmp_ne (pc := 261) dX11_measure_261 (tgt := 269) rfl (fun h261 => ?_) (fun h261 => ?_)
                  · skip
                    refine V_ld (pc := 269) dX11_measure_269 (v := vi w) rfl rfl ?_
                    refine V_iconst (pc := 271) dX11_measure_271 (by unfold I32; omega) ?_
                    refine V_icmp_ne (pc := 272) dX11_measure_272 (tgt := 280) rfl (fun h272 => ?_) (fun h272 => ?_)
                    · skip
                      refine V_ld (pc := 280) dX11_measure_280 (v := vl ((Int.tdiv ((foldR (fun r_ : Nat => labR m j (r_ : Int)) (numR2 m col) e ((mI m 31 64).toNat)).2.2.1) ((foldR (fun r_ : Nat => labR m j (r_ : Int)) (numR2 m col) e ((mI m 31 64).toNat)).2.1)) - 0)) rfl rfl ?_
                      refine V_retl (pc := 282) dX11_measure_282 trivial ?_
                      have ht := tdiv_fl3 (a := (foldR (fun r_ : Nat => labR m j (r_ : Int)) (numR2 m col) e (mI m 31 64).toNat).2.2.1) (b := (foldR (fun r_ : Nat => labR m j (r_ : Int)) (numR2 m col) e (mI m 31 64).toNat).2.1)
                      have hd_ : (foldM (fun r_ : Nat => labR m j (r_ : Int)) (numR2 m col) e (mI m 31 64).toNat).2.2.1 / (foldM (fun r_ : Nat => labR m j (r_ : Int)) (numR2 m col) e (mI m 31 64).toNat).2.1 = (foldR (fun r_ : Nat => labR m j (r_ : Int)) (numR2 m col) e (mI m 31 64).toNat).2.2.1 / (foldR (fun r_ : Nat => labR m j (r_ : Int)) (numR2 m col) e (mI m 31 64).toNat).2.1 := by rw [hq.2.1, hq.2.2.1]
                      exact ⟨by (try unfold cmpI at *); unfold measM; omega, rfl⟩
                    · skip
                      refine V_ld (pc := 275) dX11_measure_275 (v := vl ((foldR (fun r_ : Nat => labR m j (r_ : Int)) (numR2 m col) e ((mI m 31 64).toNat)).2.2.2.2.2.2)) rfl rfl ?_
                      refine V_goto (pc := 277) dX11_measure_277 (tgt := 282) rfl ?_
                      refine V_retl (pc := 282) dX11_measure_282 trivial ?_
                      have ht := tdiv_fl3 (a := (foldR (fun r_ : Nat => labR m j (r_ : Int)) (numR2 m col) e (mI m 31 64).toNat).2.2.1) (b := (foldR (fun r_ : Nat => labR m j (r_ : Int)) (numR2 m col) e (mI m 31 64).toNat).2.1)
                      have hd_ : (foldM (fun r_ : Nat => labR m j (r_ : Int)) (numR2 m col) e (mI m 31 64).toNat).2.2.1 / (foldM (fun r_ : Nat => labR m j (r_ : Int)) (numR2 m col) e (mI m 31 64).toNat).2.1 = (foldR (fun r_ : Nat => labR m j (r_ : Int)) (numR2 m col) e (mI m 31 64).toNat).2.2.1 / (foldR (fun r_ : Nat => labR m j (r_ : Int)) (numR2 m col) e (mI m 31 64).toNat).2.1 := by rw [hq.2.1, hq.2.2.1]
                      exact ⟨by (try unfold cmpI at *); unfold measM; omega, rfl⟩
                  · skip
                    refine V_ld (pc := 264) dX11_measure_264 (v := vl ((foldR (fun r_ : Nat => labR m j (r_ : Int)) (numR2 m col) e ((mI m 31 64).toNat)).2.2.2.2.2.1)) rfl rfl ?_
                    refine V_goto (pc := 266) dX11_measure_266 (tgt := 282) rfl ?_
                    refine V_retl (pc := 282) dX11_measure_282 trivial ?_
                    have ht := tdiv_fl3 (a := (foldR (fun r_ : Nat => labR m j (r_ : Int)) (numR2 m col) e (mI m 31 64).toNat).2.2.1) (b := (foldR (fun r_ : Nat => labR m j (r_ : Int)) (numR2 m col) e (mI m 31 64).toNat).2.1)
                    have hd_ : (foldM (fun r_ : Nat => labR m j (r_ : Int)) (numR2 m col) e (mI m 31 64).toNat).2.2.1 / (foldM (fun r_ : Nat => labR m j (r_ : Int)) (numR2 m col) e (mI m 31 64).toNat).2.1 = (foldR (fun r_ : Nat => labR m j (r_ : Int)) (numR2 m col) e (mI m 31 64).toNat).2.2.1 / (foldR (fun r_ : Nat => labR m j (r_ : Int)) (numR2 m col) e (mI m 31 64).toNat).2.1 := by rw [hq.2.1, hq.2.2.1]
                    exact ⟨by (try unfold cmpI at *); unfold measM; omega, rfl⟩
                · skip
                  refine V_ld (pc := 253) dX11_measure_253 (v := vl ((foldR (fun r_ : Nat => labR m j (r_ : Int)) (numR2 m col) e ((mI m 31 64).toNat)).2.2.2.2.1)) rfl rfl ?_
                  refine V_goto (pc := 255) dX11_measure_255 (tgt := 282) rfl ?_
                  refine V_retl (pc := 282) dX11_measure_282 trivial ?_
                  have ht := tdiv_fl3 (a := (foldR (fun r_ : Nat => labR m j (r_ : Int)) (numR2 m col) e (mI m 31 64).toNat).2.2.1) (b := (foldR (fun r_ : Nat => labR m j (r_ : Int)) (numR2 m col) e (mI m 31 64).toNat).2.1)
                  have hd_ : (foldM (fun r_ : Nat => labR m j (r_ : Int)) (numR2 m col) e (mI m 31 64).toNat).2.2.1 / (foldM (fun r_ : Nat => labR m j (r_ : Int)) (numR2 m col) e (mI m 31 64).toNat).2.1 = (foldR (fun r_ : Nat => labR m j (r_ : Int)) (numR2 m col) e (mI m 31 64).toNat).2.2.1 / (foldR (fun r_ : Nat => labR m j (r_ : Int)) (numR2 m col) e (mI m 31 64).toNat).2.1 := by rw [hq.2.1, hq.2.2.1]
                  exact ⟨by (try unfold cmpI at *); unfold measM; omega, rfl⟩
              · skip
                refine V_ld (pc := 242) dX11_measure_242 (v := vl ((foldR (fun r_ : Nat => labR m j (r_ : Int)) (numR2 m col) e ((mI m 31 64).toNat)).2.2.2.1)) rfl rfl ?_
                refine V_goto (pc := 244) dX11_measure_244 (tgt := 282) rfl ?_
                refine V_retl (pc := 282) dX11_measure_282 trivial ?_
                have ht := tdiv_fl3 (a := (foldR (fun r_ : Nat => labR m j (r_ : Int)) (numR2 m col) e (mI m 31 64).toNat).2.2.1) (b := (foldR (fun r_ : Nat => labR m j (r_ : Int)) (numR2 m col) e (mI m 31 64).toNat).2.1)
                have hd_ : (foldM (fun r_ : Nat => labR m j (r_ : Int)) (numR2 m col) e (mI m 31 64).toNat).2.2.1 / (foldM (fun r_ : Nat => labR m j (r_ : Int)) (numR2 m col) e (mI m 31 64).toNat).2.1 = (foldR (fun r_ : Nat => labR m j (r_ : Int)) (numR2 m col) e (mI m 31 64).toNat).2.2.1 / (foldR (fun r_ : Nat => labR m j (r_ : Int)) (numR2 m col) e (mI m 31 64).toNat).2.1 := by rw [hq.2.1, hq.2.2.1]
                exact ⟨by (try unfold cmpI at *); unfold measM; omega, rfl⟩
            · skip
              refine V_lconst (pc := 228) dX11_measure_228 (x := 1) (by unfold I64; omega) (by decide) ?_
              refine V_goto (pc := 229) dX11_measure_229 (tgt := 233) rfl ?_
              refine V_lsub (pc := 233) dX11_measure_233 (by have := tdiv_bd (a := (foldR (fun r_ : Nat => labR m j (r_ : Int)) (numR2 m col) e (mI m 31 64).toNat).2.2.1) (b := (foldR (fun r_ : Nat => labR m j (r_ : Int)) (numR2 m col) e (mI m 31 64).toNat).2.1) (by omega) (by omega); unfold I64; omega) ?_
              refine V_st (pc := 234) dX11_measure_234 (ls' := [(17, vl ((Int.tdiv ((foldR (fun r_ : Nat => labR m j (r_ : Int)) (numR2 m col) e ((mI m 31 64).toNat)).2.2.1) ((foldR (fun r_ : Nat => labR m j (r_ : Int)) (numR2 m col) e ((mI m 31 64).toNat)).2.1)) - 1)), (15, vl ((foldR (fun r_ : Nat => labR m j (r_ : Int)) (numR2 m col) e ((mI m 31 64).toNat)).2.2.2.2.2.2)), (13, vl ((foldR (fun r_ : Nat => labR m j (r_ : Int)) (numR2 m col) e ((mI m 31 64).toNat)).2.2.2.2.2.1)), (11, vl ((foldR (fun r_ : Nat => labR m j (r_ : Int)) (numR2 m col) e ((mI m 31 64).toNat)).2.2.2.2.1)), (9, vl ((foldR (fun r_ : Nat => labR m j (r_ : Int)) (numR2 m col) e ((mI m 31 64).toNat)).2.2.2.1)), (7, vl ((foldR (fun r_ : Nat => labR m j (r_ : Int)) (numR2 m col) e ((mI m 31 64).toNat)).2.2.1)), (6, vi ((foldR (fun r_ : Nat => labR m j (r_ : Int)) (numR2 m col) e ((mI m 31 64).toNat)).2.1)), (5, vi ((foldR (fun r_ : Nat => labR m j (r_ : Int)) (numR2 m col) e ((mI m 31 64).toNat)).1)), (0, vr 30), (1, vi j), (2, vi e), (3, vi col), (4, vi w)]) rfl (Nat.le_of_ble_eq_true rfl) rfl ?_
              refine V_ld (pc := 236) dX11_measure_236 (v := vi w) rfl rfl ?_
              refine V_iconst (pc := 238) dX11_measure_238 (by unfold I32; omega) ?_
              refine V_icmp_ne (pc := 239) dX11_measure_239 (tgt := 247) rfl (fun h239 => ?_) (fun h239 => ?_)
              · skip
                refine V_ld (pc := 247) dX11_measure_247 (v := vi w) rfl rfl ?_
                refine V_iconst (pc := 249) dX11_measure_249 (by unfold I32; omega) ?_
                refine V_icmp_ne (pc := 250) dX11_measure_250 (tgt := 258) rfl (fun h250 => ?_) (fun h250 => ?_)
                · skip
                  refine V_ld (pc := 258) dX11_measure_258 (v := vi w) rfl rfl ?_
                  refine V_iconst (pc := 260) dX11_measure_260 (by unfold I32; omega) ?_
                  refine V_icmp_ne (pc := 261) dX11_measure_261 (tgt := 269) rfl (fun h261 => ?_) (fun h261 => ?_)
                  · skip
                    refine V_ld (pc := 269) dX11_measure_269 (v := vi w) rfl rfl ?_
                    refine V_iconst (pc := 271) dX11_measure_271 (by unfold I32; omega) ?_
                    refine V_icmp_ne (pc := 272) dX11_measure_272 (tgt := 280) rfl (fun h272 => ?_) (fun h272 => ?_)
                    · skip
                      refine V_ld (pc := 280) dX11_measure_280 (v := vl ((Int.tdiv ((foldR (fun r_ : Nat => labR m j (r_ : Int)) (numR2 m col) e ((mI m 31 64).toNat)).2.2.1) ((foldR (fun r_ : Nat => labR m j (r_ : Int)) (numR2 m col) e ((mI m 31 64).toNat)).2.1)) - 1)) rfl rfl ?_
                      refine V_retl (pc := 282) dX11_measure_282 trivial ?_
                      have ht := tdiv_fl3 (a := (foldR (fun r_ : Nat => labR m j (r_ : Int)) (numR2 m col) e (mI m 31 64).toNat).2.2.1) (b := (foldR (fun r_ : Nat => labR m j (r_ : Int)) (numR2 m col) e (mI m 31 64).toNat).2.1)
                      have hd_ : (foldM (fun r_ : Nat => labR m j (r_ : Int)) (numR2 m col) e (mI m 31 64).toNat).2.2.1 / (foldM (fun r_ : Nat => labR m j (r_ : Int)) (numR2 m col) e (mI m 31 64).toNat).2.1 = (foldR (fun r_ : Nat => labR m j (r_ : Int)) (numR2 m col) e (mI m 31 64).toNat).2.2.1 / (foldR (fun r_ : Nat => labR m j (r_ : Int)) (numR2 m col) e (mI m 31 64).toNat).2.1 := by rw [hq.2.1, hq.2.2.1]
                      exact ⟨by (try unfold cmpI at *); unfold measM; omega, rfl⟩
                    · skip
                      refine V_ld (pc := 275) dX11_measure_275 (v := vl ((foldR (fun r_ : Nat => labR m j (r_ : Int)) (numR2 m col) e ((mI m 31 64).toNat)).2.2.2.2.2.2)) rfl rfl ?_
                      refine V_goto (pc := 277) dX11_measure_277 (tgt := 282) rfl ?_
                      refine V_retl (pc := 282) dX11_measure_282 trivial ?_
                      have ht := tdiv_fl3 (a := (foldR (fun r_ : Nat => labR m j (r_ : Int)) (numR2 m col) e (mI m 31 64).toNat).2.2.1) (b := (foldR (fun r_ : Nat => labR m j (r_ : Int)) (numR2 m col) e (mI m 31 64).toNat).2.1)
                      have hd_ : (foldM (fun r_ : Nat => labR m j (r_ : Int)) (numR2 m col) e (mI m 31 64).toNat).2.2.1 / (foldM (fun r_ : Nat => labR m j (r_ : Int)) (numR2 m col) e (mI m 31 64).toNat).2.1 = (foldR (fun r_ : Nat => labR m j (r_ : Int)) (numR2 m col) e (mI m 31 64).toNat).2.2.1 / (foldR (fun r_ : Nat => labR m j (r_ : Int)) (numR2 m col) e (mI m 31 64).toNat).2.1 := by rw [hq.2.1, hq.2.2.1]
                      exact ⟨by (try unfold cmpI at *); unfold measM; omega, rfl⟩
                  · skip
                    refine V_ld (pc := 264) dX11_measure_264 (v := vl ((foldR (fun r_ : Nat => labR m j (r_ : Int)) (numR2 m col) e ((mI m 31 64).toNat)).2.2.2.2.2.1)) rfl rfl ?_
                    refine V_goto (pc := 266) dX11_measure_266 (tgt := 282) rfl ?_
                    refine V_retl (pc := 282) dX11_measure_282 trivial ?_
                    have ht := tdiv_fl3 (a := (foldR (fun r_ : Nat => labR m j (r_ : Int)) (numR2 m col) e (mI m 31 64).toNat).2.2.1) (b := (foldR (fun r_ : Nat => labR m j (r_ : Int)) (numR2 m col) e (mI m 31 64).toNat).2.1)
                    have hd_ : (foldM (fun r_ : Nat => labR m j (r_ : Int)) (numR2 m col) e (mI m 31 64).toNat).2.2.1 / (foldM (fun r_ : Nat => labR m j (r_ : Int)) (numR2 m col) e (mI m 31 64).toNat).2.1 = (foldR (fun r_ : Nat => labR m j (r_ : Int)) (numR2 m col) e (mI m 31 64).toNat).2.2.1 / (foldR (fun r_ : Nat => labR m j (r_ : Int)) (numR2 m col) e (mI m 31 64).toNat).2.1 := by rw [hq.2.1, hq.2.2.1]
                    exact ⟨by (try unfold cmpI at *); unfold measM; omega, rfl⟩
                · skip
                  refine V_ld (pc := 253) dX11_measure_253 (v := vl ((foldR (fun r_ : Nat => labR m j (r_ : Int)) (numR2 m col) e ((mI m 31 64).toNat)).2.2.2.2.1)) rfl rfl ?_
                  refine V_goto (pc := 255) dX11_measure_255 (tgt := 282) rfl ?_
                  refine V_retl (pc := 282) dX11_measure_282 trivial ?_
                  have ht := tdiv_fl3 (a := (foldR (fun r_ : Nat => labR m j (r_ : Int)) (numR2 m col) e (mI m 31 64).toNat).2.2.1) (b := (foldR (fun r_ : Nat => labR m j (r_ : Int)) (numR2 m col) e (mI m 31 64).toNat).2.1)
                  have hd_ : (foldM (fun r_ : Nat => labR m j (r_ : Int)) (numR2 m col) e (mI m 31 64).toNat).2.2.1 / (foldM (fun r_ : Nat => labR m j (r_ : Int)) (numR2 m col) e (mI m 31 64).toNat).2.1 = (foldR (fun r_ : Nat => labR m j (r_ : Int)) (numR2 m col) e (mI m 31 64).toNat).2.2.1 / (foldR (fun r_ : Nat => labR m j (r_ : Int)) (numR2 m col) e (mI m 31 64).toNat).2.1 := by rw [hq.2.1, hq.2.2.1]
                  exact ⟨by (try unfold cmpI at *); unfold measM; omega, rfl⟩
              · skip
                refine V_ld (pc := 242) dX11_measure_242 (v := vl ((foldR (fun r_ : Nat => labR m j (r_ : Int)) (numR2 m col) e ((mI m 31 64).toNat)).2.2.2.1)) rfl rfl ?_
                refine V_goto (pc := 244) dX11_measure_244 (tgt := 282) rfl ?_
                refine V_retl (pc := 282) dX11_measure_282 trivial ?_
                have ht := tdiv_fl3 (a := (foldR (fun r_ : Nat => labR m j (r_ : Int)) (numR2 m col) e (mI m 31 64).toNat).2.2.1) (b := (foldR (fun r_ : Nat => labR m j (r_ : Int)) (numR2 m col) e (mI m 31 64).toNat).2.1)
                have hd_ : (foldM (fun r_ : Nat => labR m j (r_ : Int)) (numR2 m col) e (mI m 31 64).toNat).2.2.1 / (foldM (fun r_ : Nat => labR m j (r_ : Int)) (numR2 m col) e (mI m 31 64).toNat).2.1 = (foldR (fun r_ : Nat => labR m j (r_ : Int)) (numR2 m col) e (mI m 31 64).toNat).2.2.1 / (foldR (fun r_ : Nat => labR m j (r_ : Int)) (numR2 m col) e (mI m 31 64).toNat).2.1 := by rw [hq.2.1, hq.2.2.1]
                exact ⟨by (try unfold cmpI at *); unfold measM; omega, rfl⟩
          · skip
            refine V_ldc2 (pc := 202) dX11_measure_202 (x := (-9223372036854775808)) kl_RX11_382 (by unfold I64; omega) rfl ?_
            refine V_retl (pc := 205) dX11_measure_205 trivial ?_
            have ht := tdiv_fl3 (a := (foldR (fun r_ : Nat => labR m j (r_ : Int)) (numR2 m col) e (mI m 31 64).toNat).2.2.1) (b := (foldR (fun r_ : Nat => labR m j (r_ : Int)) (numR2 m col) e (mI m 31 64).toNat).2.1)
            have hd_ : (foldM (fun r_ : Nat => labR m j (r_ : Int)) (numR2 m col) e (mI m 31 64).toNat).2.2.1 / (foldM (fun r_ : Nat => labR m j (r_ : Int)) (numR2 m col) e (mI m 31 64).toNat).2.1 = (foldR (fun r_ : Nat => labR m j (r_ : Int)) (numR2 m col) e (mI m 31 64).toNat).2.2.1 / (foldR (fun r_ : Nat => labR m j (r_ : Int)) (numR2 m col) e (mI m 31 64).toNat).2.1 := by rw [hq.2.1, hq.2.2.1]
            exact ⟨by (try unfold cmpI at *); unfold measM; omega, rfl⟩
        · skip
          refine V_ld (pc := 194) dX11_measure_194 (v := vl ((foldR (fun r_ : Nat => labR m j (r_ : Int)) (numR2 m col) e ((mI m 31 64).toNat)).2.2.1)) rfl rfl ?_
          refine V_retl (pc := 196) dX11_measure_196 trivial ?_
          have ht := tdiv_fl3 (a := (foldR (fun r_ : Nat => labR m j (r_ : Int)) (numR2 m col) e (mI m 31 64).toNat).2.2.1) (b := (foldR (fun r_ : Nat => labR m j (r_ : Int)) (numR2 m col) e (mI m 31 64).toNat).2.1)
          have hd_ : (foldM (fun r_ : Nat => labR m j (r_ : Int)) (numR2 m col) e (mI m 31 64).toNat).2.2.1 / (foldM (fun r_ : Nat => labR m j (r_ : Int)) (numR2 m col) e (mI m 31 64).toNat).2.1 = (foldR (fun r_ : Nat => labR m j (r_ : Int)) (numR2 m col) e (mI m 31 64).toNat).2.2.1 / (foldR (fun r_ : Nat => labR m j (r_ : Int)) (numR2 m col) e (mI m 31 64).toNat).2.1 := by rw [hq.2.1, hq.2.2.1]
          exact ⟨by (try unfold cmpI at *); unfold measM; omega, rfl⟩
      · skip
        refine V_ld (pc := 184) dX11_measure_184 (v := vi ((foldR (fun r_ : Nat => labR m j (r_ : Int)) (numR2 m col) e ((mI m 31 64).toNat)).1)) rfl rfl ?_
        refine V_i2l (pc := 186) dX11_measure_186 ?_
        refine V_retl (pc := 187) dX11_measure_187 trivial ?_
        have ht := tdiv_fl3 (a := (foldR (fun r_ : Nat => labR m j (r_ : Int)) (numR2 m col) e (mI m 31 64).toNat).2.2.1) (b := (foldR (fun r_ : Nat => labR m j (r_ : Int)) (numR2 m col) e (mI m 31 64).toNat).2.1)
        have hd_ : (foldM (fun r_ : Nat => labR m j (r_ : Int)) (numR2 m col) e (mI m 31 64).toNat).2.2.1 / (foldM (fun r_ : Nat => labR m j (r_ : Int)) (numR2 m col) e (mI m 31 64).toNat).2.1 = (foldR (fun r_ : Nat => labR m j (r_ : Int)) (numR2 m col) e (mI m 31 64).toNat).2.2.1 / (foldR (fun r_ : Nat => labR m j (r_ : Int)) (numR2 m col) e (mI m 31 64).toNat).2.1 := by rw [hq.2.1, hq.2.2.1]
        exact ⟨by (try unfold cmpI at *); unfold measM; omega, rfl⟩
    · skip
      refine V_ldc2 (pc := 18) dX11_measure_18 (x := (-9223372036854775808)) kl_RX11_382 (by unfold I64; omega) rfl ?_
      refine V_retl (pc := 21) dX11_measure_21 trivial ?_
      exact ⟨by omega, rfl⟩

