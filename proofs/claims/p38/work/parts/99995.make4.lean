/-! make(), 4 -/
set_option maxHeartbeats 8000000 in
theorem L_mkHead {F qc cnt tt : Nat} {V : Nat → Nat → Int} {m : Mem} {a d : Int} {post : Option AV → Mem → Prop} (hF : 1 < F) (hT : TbM m tt qc cnt V) (hd : 0 ≤ d ∧ d ≤ 3) (ha : 0 ≤ a ∧ a ≤ 30000) (hr : mN m + 1 ≤ NN ∧ mZ m + 10 ≤ ZZ)
    (kx : ∀ (mm : Mem) (x : Int) (R : Nat → Int), (0 ≤ x ∧ x < 12 ∧ (3 ≤ d → x < 6)) → MkI m mm tt qc cnt cnt V V R → R 5 = 0 → mN mm = mN m + 1 → mZ mm = mZ m + 10 → _root_.Jvm.Pilot.@@N@@.V μL_make F m post 79 [(6, vr (mN m)), (5, vi 69), (4, vi x), (0, vr SC), (1, vi a), (2, vr tt), (3, vi d)] [] mm) : _root_.Jvm.Pilot.@@N@@.V μL_make F m post 0 [(0, vr SC), (1, vi a), (2, vr tt), (3, vi d)] [] m := by
  refine V_ld (pc := 0) dL_make_0 (v := vr SC) rfl rfl ?_
  refine V_ld (pc := 1) dL_make_1 (v := vi a) rfl rfl ?_
  refine V_ld (pc := 2) dL_make_2 (v := vi d) rfl rfl ?_
  refine V_iconst (pc := 3) dL_make_3 (by unfold I32; omega) ?_
  refine V_icmp_ge (pc := 4) dL_make_4 (tgt := 12) rfl (fun h4 => ?_) (fun h4 => ?_)
  · skip
    refine V_bipush (pc := 12) dL_make_12 (by unfold I32; omega) (by decide) ?_
    refine V_callS (pc := 14) dL_make_14 (F' := 1) (As := [vr SC, vi a, vi 6]) (st := []) cw_RL_17 rfl rfl (Nat.le_of_ble_eq_true rfl) (by omega) (w_pick  m a 6   (by omega)) ?_
    rintro _ _ ⟨x14, rfl, hx14, rfl⟩ ok14 le14
    refine V_st (pc := 17) dL_make_17 (ls' := [(4, vi x14), (0, vr SC), (1, vi a), (2, vr tt), (3, vi d)]) rfl (Nat.le_of_ble_eq_true rfl) rfl ?_
    refine V_ld (pc := 19) dL_make_19 (v := vr tt) rfl rfl ?_
    refine V_alenQ (pc := 20) dL_make_20 hT.1.1 (by decide) (by omega) ?_
    refine V_iconst (pc := 21) dL_make_21 (by unfold I32; omega) ?_
    refine V_isub (pc := 22) dL_make_22 (by unfold I32 at *; omega) ?_
    rw [show (((70 : Nat) : Int) - 1) = 69 from by decide]
    refine V_st (pc := 23) dL_make_23 (ls' := [(5, vi 69), (4, vi x14), (0, vr SC), (1, vi a), (2, vr tt), (3, vi d)]) rfl (Nat.le_of_ble_eq_true rfl) rfl ?_
    refine V_bipush (pc := 25) dL_make_25 (by unfold I32; omega) (by decide) ?_
    refine V_newIv (pc := 27) (N := 10) (mN m) rfl rfl dL_make_27 (by omega) (by omega) (by omega) (by omega) wa_int ?_
    refine V_dup (pc := 29) dL_make_29 rfl ?_
    refine V_iconst (pc := 30) dL_make_30 (by unfold I32; omega) ?_
    refine V_iconst (pc := 31) dL_make_31 (by unfold I32; omega) ?_
    refine V_iast (pc := 32) dL_make_32 (mT_news (M := m) rfl) (by omega) ?_
    refine V_dup (pc := 33) dL_make_33 rfl ?_
    refine V_iconst (pc := 34) dL_make_34 (by unfold I32; omega) ?_
    refine V_bipush (pc := 35) dL_make_35 (by unfold I32; omega) (by decide) ?_
    refine V_iast (pc := 37) dL_make_37 (mT_news (M := m) rfl) (by omega) ?_
    refine V_dup (pc := 38) dL_make_38 rfl ?_
    refine V_iconst (pc := 39) dL_make_39 (by unfold I32; omega) ?_
    refine V_bipush (pc := 40) dL_make_40 (by unfold I32; omega) (by decide) ?_
    refine V_iast (pc := 42) dL_make_42 (mT_news (M := m) rfl) (by omega) ?_
    refine V_dup (pc := 43) dL_make_43 rfl ?_
    refine V_iconst (pc := 44) dL_make_44 (by unfold I32; omega) ?_
    refine V_bipush (pc := 45) dL_make_45 (by unfold I32; omega) (by decide) ?_
    refine V_iast (pc := 47) dL_make_47 (mT_news (M := m) rfl) (by omega) ?_
    refine V_dup (pc := 48) dL_make_48 rfl ?_
    refine V_iconst (pc := 49) dL_make_49 (by unfold I32; omega) ?_
    refine V_bipush (pc := 50) dL_make_50 (by unfold I32; omega) (by decide) ?_
    refine V_iast (pc := 52) dL_make_52 (mT_news (M := m) rfl) (by omega) ?_
    refine V_dup (pc := 53) dL_make_53 rfl ?_
    refine V_iconst (pc := 54) dL_make_54 (by unfold I32; omega) ?_
    refine V_iconst (pc := 55) dL_make_55 (by unfold I32; omega) ?_
    refine V_iast (pc := 56) dL_make_56 (mT_news (M := m) rfl) (by omega) ?_
    refine V_dup (pc := 57) dL_make_57 rfl ?_
    refine V_bipush (pc := 58) dL_make_58 (by unfold I32; omega) (by decide) ?_
    refine V_iconst (pc := 60) dL_make_60 (by unfold I32; omega) ?_
    refine V_iast (pc := 61) dL_make_61 (mT_news (M := m) rfl) (by omega) ?_
    refine V_dup (pc := 62) dL_make_62 rfl ?_
    refine V_bipush (pc := 63) dL_make_63 (by unfold I32; omega) (by decide) ?_
    refine V_iconst (pc := 65) dL_make_65 (by unfold I32; omega) ?_
    refine V_iast (pc := 66) dL_make_66 (mT_news (M := m) rfl) (by omega) ?_
    refine V_dup (pc := 67) dL_make_67 rfl ?_
    refine V_bipush (pc := 68) dL_make_68 (by unfold I32; omega) (by decide) ?_
    refine V_iconst (pc := 70) dL_make_70 (by unfold I32; omega) ?_
    refine V_iast (pc := 71) dL_make_71 (mT_news (M := m) rfl) (by omega) ?_
    refine V_dup (pc := 72) dL_make_72 rfl ?_
    refine V_bipush (pc := 73) dL_make_73 (by unfold I32; omega) (by decide) ?_
    refine V_iconst (pc := 75) dL_make_75 (by unfold I32; omega) ?_
    refine V_iast (pc := 76) dL_make_76 (mT_news (M := m) rfl) (by omega) ?_
    refine V_st (pc := 77) dL_make_77 (ls' := [(6, vr (mN m)), (5, vi 69), (4, vi x14), (0, vr SC), (1, vi a), (2, vr tt), (3, vi d)]) rfl (Nat.le_of_ble_eq_true rfl) rfl ?_
    have hI0 := MkI.ini hT
    have n0 : mN (newO m 20 10) = mN m + 1 := rfl
    have z0 : mZ (newO m 20 10) = mZ m + 10 := rfl
    refine V_mem (m' := (setI (setI (setI (setI (setI (setI (setI (setI (setI (setI (newO m 20 10) (mN m) 0 0) (mN m) 1 (-5)) (mN m) 2 (-5)) (mN m) 3 (-5)) (mN m) 4 (-5)) (mN m) 5 0) (mN m) 6 (-1)) (mN m) 7 (-1)) (mN m) 8 (-1)) (mN m) 9 (-1))) rfl ?_
    have hI51 := ((((((((((hI0.w (k := 0) (v := 0)).w (k := 1) (v := (-5))).w (k := 2) (v := (-5))).w (k := 3) (v := (-5))).w (k := 4) (v := (-5))).w (k := 5) (v := 0)).w (k := 6) (v := (-1))).w (k := 7) (v := (-1))).w (k := 8) (v := (-1))).w (k := 9) (v := (-1)))
    have n51 : mN (setI (setI (setI (setI (setI (setI (setI (setI (setI (setI (newO m 20 10) (mN m) 0 0) (mN m) 1 (-5)) (mN m) 2 (-5)) (mN m) 3 (-5)) (mN m) 4 (-5)) (mN m) 5 0) (mN m) 6 (-1)) (mN m) 7 (-1)) (mN m) 8 (-1)) (mN m) 9 (-1)) = mN (newO m 20 10) := by simp only [mN_sI]
    have z51 : mZ (setI (setI (setI (setI (setI (setI (setI (setI (setI (setI (newO m 20 10) (mN m) 0 0) (mN m) 1 (-5)) (mN m) 2 (-5)) (mN m) 3 (-5)) (mN m) 4 (-5)) (mN m) 5 0) (mN m) 6 (-1)) (mN m) 7 (-1)) (mN m) 8 (-1)) (mN m) 9 (-1)) = mZ (newO m 20 10) := by simp only [mZ_sI]
    generalize (setI (setI (setI (setI (setI (setI (setI (setI (setI (setI (newO m 20 10) (mN m) 0 0) (mN m) 1 (-5)) (mN m) 2 (-5)) (mN m) 3 (-5)) (mN m) 4 (-5)) (mN m) 5 0) (mN m) 6 (-1)) (mN m) 7 (-1)) (mN m) 8 (-1)) (mN m) 9 (-1)) = mm51 at hI51 n51 z51 ⊢
    skip
    exact kx _ x14 _ ⟨by omega, by omega, fun h_ => by omega⟩ hI51 rfl (by omega) (by omega)
  · skip
    refine V_bipush (pc := 7) dL_make_7 (by unfold I32; omega) (by decide) ?_
    refine V_goto (pc := 9) dL_make_9 (tgt := 14) rfl ?_
    refine V_callS (pc := 14) dL_make_14 (F' := 1) (As := [vr SC, vi a, vi 12]) (st := []) cw_RL_17 rfl rfl (Nat.le_of_ble_eq_true rfl) (by omega) (w_pick  m a 12   (by omega)) ?_
    rintro _ _ ⟨x14, rfl, hx14, rfl⟩ ok14 le14
    refine V_st (pc := 17) dL_make_17 (ls' := [(4, vi x14), (0, vr SC), (1, vi a), (2, vr tt), (3, vi d)]) rfl (Nat.le_of_ble_eq_true rfl) rfl ?_
    refine V_ld (pc := 19) dL_make_19 (v := vr tt) rfl rfl ?_
    refine V_alenQ (pc := 20) dL_make_20 hT.1.1 (by decide) (by omega) ?_
    refine V_iconst (pc := 21) dL_make_21 (by unfold I32; omega) ?_
    refine V_isub (pc := 22) dL_make_22 (by unfold I32 at *; omega) ?_
    rw [show (((70 : Nat) : Int) - 1) = 69 from by decide]
    refine V_st (pc := 23) dL_make_23 (ls' := [(5, vi 69), (4, vi x14), (0, vr SC), (1, vi a), (2, vr tt), (3, vi d)]) rfl (Nat.le_of_ble_eq_true rfl) rfl ?_
    refine V_bipush (pc := 25) dL_make_25 (by unfold I32; omega) (by decide) ?_
    refine V_newIv (pc := 27) (N := 10) (mN m) rfl rfl dL_make_27 (by omega) (by omega) (by omega) (by omega) wa_int ?_
    refine V_dup (pc := 29) dL_make_29 rfl ?_
    refine V_iconst (pc := 30) dL_make_30 (by unfold I32; omega) ?_
    refine V_iconst (pc := 31) dL_make_31 (by unfold I32; omega) ?_
    refine V_iast (pc := 32) dL_make_32 (mT_news (M := m) rfl) (by omega) ?_
    refine V_dup (pc := 33) dL_make_33 rfl ?_
    refine V_iconst (pc := 34) dL_make_34 (by unfold I32; omega) ?_
    refine V_bipush (pc := 35) dL_make_35 (by unfold I32; omega) (by decide) ?_
    refine V_iast (pc := 37) dL_make_37 (mT_news (M := m) rfl) (by omega) ?_
    refine V_dup (pc := 38) dL_make_38 rfl ?_
    refine V_iconst (pc := 39) dL_make_39 (by unfold I32; omega) ?_
    refine V_bipush (pc := 40) dL_make_40 (by unfold I32; omega) (by decide) ?_
    refine V_iast (pc := 42) dL_make_42 (mT_news (M := m) rfl) (by omega) ?_
    refine V_dup (pc := 43) dL_make_43 rfl ?_
    refine V_iconst (pc := 44) dL_make_44 (by unfold I32; omega) ?_
    refine V_bipush (pc := 45) dL_make_45 (by unfold I32; omega) (by decide) ?_
    refine V_iast (pc := 47) dL_make_47 (mT_news (M := m) rfl) (by omega) ?_
    refine V_dup (pc := 48) dL_make_48 rfl ?_
    refine V_iconst (pc := 49) dL_make_49 (by unfold I32; omega) ?_
    refine V_bipush (pc := 50) dL_make_50 (by unfold I32; omega) (by decide) ?_
    refine V_iast (pc := 52) dL_make_52 (mT_news (M := m) rfl) (by omega) ?_
    refine V_dup (pc := 53) dL_make_53 rfl ?_
    refine V_iconst (pc := 54) dL_make_54 (by unfold I32; omega) ?_
    refine V_iconst (pc := 55) dL_make_55 (by unfold I32; omega) ?_
    refine V_iast (pc := 56) dL_make_56 (mT_news (M := m) rfl) (by omega) ?_
    refine V_dup (pc := 57) dL_make_57 rfl ?_
    refine V_bipush (pc := 58) dL_make_58 (by unfold I32; omega) (by decide) ?_
    refine V_iconst (pc := 60) dL_make_60 (by unfold I32; omega) ?_
    refine V_iast (pc := 61) dL_make_61 (mT_news (M := m) rfl) (by omega) ?_
    refine V_dup (pc := 62) dL_make_62 rfl ?_
    refine V_bipush (pc := 63) dL_make_63 (by unfold I32; omega) (by decide) ?_
    refine V_iconst (pc := 65) dL_make_65 (by unfold I32; omega) ?_
    refine V_iast (pc := 66) dL_make_66 (mT_news (M := m) rfl) (by omega) ?_
    refine V_dup (pc := 67) dL_make_67 rfl ?_
    refine V_bipush (pc := 68) dL_make_68 (by unfold I32; omega) (by decide) ?_
    refine V_iconst (pc := 70) dL_make_70 (by unfold I32; omega) ?_
    refine V_iast (pc := 71) dL_make_71 (mT_news (M := m) rfl) (by omega) ?_
    refine V_dup (pc := 72) dL_make_72 rfl ?_
    refine V_bipush (pc := 73) dL_make_73 (by unfold I32; omega) (by decide) ?_
    refine V_iconst (pc := 75) dL_make_75 (by unfold I32; omega) ?_
    refine V_iast (pc := 76) dL_make_76 (mT_news (M := m) rfl) (by omega) ?_
    refine V_st (pc := 77) dL_make_77 (ls' := [(6, vr (mN m)), (5, vi 69), (4, vi x14), (0, vr SC), (1, vi a), (2, vr tt), (3, vi d)]) rfl (Nat.le_of_ble_eq_true rfl) rfl ?_
    have hI0 := MkI.ini hT
    have n0 : mN (newO m 20 10) = mN m + 1 := rfl
    have z0 : mZ (newO m 20 10) = mZ m + 10 := rfl
    refine V_mem (m' := (setI (setI (setI (setI (setI (setI (setI (setI (setI (setI (newO m 20 10) (mN m) 0 0) (mN m) 1 (-5)) (mN m) 2 (-5)) (mN m) 3 (-5)) (mN m) 4 (-5)) (mN m) 5 0) (mN m) 6 (-1)) (mN m) 7 (-1)) (mN m) 8 (-1)) (mN m) 9 (-1))) rfl ?_
    have hI52 := ((((((((((hI0.w (k := 0) (v := 0)).w (k := 1) (v := (-5))).w (k := 2) (v := (-5))).w (k := 3) (v := (-5))).w (k := 4) (v := (-5))).w (k := 5) (v := 0)).w (k := 6) (v := (-1))).w (k := 7) (v := (-1))).w (k := 8) (v := (-1))).w (k := 9) (v := (-1)))
    have n52 : mN (setI (setI (setI (setI (setI (setI (setI (setI (setI (setI (newO m 20 10) (mN m) 0 0) (mN m) 1 (-5)) (mN m) 2 (-5)) (mN m) 3 (-5)) (mN m) 4 (-5)) (mN m) 5 0) (mN m) 6 (-1)) (mN m) 7 (-1)) (mN m) 8 (-1)) (mN m) 9 (-1)) = mN (newO m 20 10) := by simp only [mN_sI]
    have z52 : mZ (setI (setI (setI (setI (setI (setI (setI (setI (setI (setI (newO m 20 10) (mN m) 0 0) (mN m) 1 (-5)) (mN m) 2 (-5)) (mN m) 3 (-5)) (mN m) 4 (-5)) (mN m) 5 0) (mN m) 6 (-1)) (mN m) 7 (-1)) (mN m) 8 (-1)) (mN m) 9 (-1)) = mZ (newO m 20 10) := by simp only [mZ_sI]
    generalize (setI (setI (setI (setI (setI (setI (setI (setI (setI (setI (newO m 20 10) (mN m) 0 0) (mN m) 1 (-5)) (mN m) 2 (-5)) (mN m) 3 (-5)) (mN m) 4 (-5)) (mN m) 5 0) (mN m) 6 (-1)) (mN m) 7 (-1)) (mN m) 8 (-1)) (mN m) 9 (-1)) = mm52 at hI52 n52 z52 ⊢
    skip
    exact kx _ x14 _ ⟨by omega, by omega, fun h_ => by omega⟩ hI52 rfl (by omega) (by omega)

set_option maxHeartbeats 8000000 in
theorem L_mkLeaf {F f qc cnt tt : Nat} {V : Nat → Nat → Int} {m mm : Mem} {a d x : Int} {R : Nat → Int} (hF : 1 < F) (hx : 0 ≤ x ∧ x < 6) (hI : MkI m mm tt qc cnt cnt V V R) (hR5 : R 5 = 0) (ha : 0 ≤ a ∧ a ≤ 30000) (hc : cnt + szF f ≤ 69) (hsp : 1 ≤ szF f) (hN : mN mm = mN m + 1) (hZ : mZ mm = mZ m + 10) : _root_.Jvm.Pilot.@@N@@.V μL_make F m (ri fun x_ m' => (True) ∧ MdP m tt qc f cnt V x_ m') 86 [(6, vr (mN m)), (5, vi 69), (4, vi x), (0, vr SC), (1, vi a), (2, vr tt), (3, vi d)] [] mm := by
  refine V_ld (pc := 86) dL_make_86 (v := vr (mN m)) rfl rfl ?_
  refine V_iconst (pc := 88) dL_make_88 (by unfold I32; omega) ?_
  refine V_ld (pc := 89) dL_make_89 (v := vi x) rfl rfl ?_
  refine V_iconst (pc := 91) dL_make_91 (by unfold I32; omega) ?_
  refine V_icmp_ne (pc := 92) dL_make_92 (tgt := 108) rfl (fun h92 => ?_) (fun h92 => ?_)
  · skip
    refine V_iconst (pc := 108) dL_make_108 (by unfold I32; omega) ?_
    refine V_iast (pc := 109) dL_make_109 hI.2.1.1 (by omega) ?_
    refine V_mem (m' := (setI mm (mN m) 0 0)) rfl ?_
    have hI53 := (hI.w (k := 0) (v := 0))
    have n53 : mN (setI mm (mN m) 0 0) = mN mm := by simp only [mN_sI]
    have z53 : mZ (setI mm (mN m) 0 0) = mZ mm := by simp only [mZ_sI]
    generalize (setI mm (mN m) 0 0) = mm53 at hI53 n53 z53 ⊢
    refine V_ld (pc := 110) dL_make_110 (v := vr (mN m)) rfl rfl ?_
    refine V_iconst (pc := 112) dL_make_112 (by unfold I32; omega) ?_
    refine V_ld (pc := 113) dL_make_113 (v := vi x) rfl rfl ?_
    refine V_iconst (pc := 115) dL_make_115 (by unfold I32; omega) ?_
    refine V_icmp_ne (pc := 116) dL_make_116 (tgt := 124) rfl (fun h116 => ?_) (fun h116 => ?_)
    · skip
      refine V_ld (pc := 124) dL_make_124 (v := vr SC) rfl rfl ?_
      refine V_ld (pc := 125) dL_make_125 (v := vi a) rfl rfl ?_
      refine V_iconst (pc := 126) dL_make_126 (by unfold I32; omega) ?_
      refine V_iadd (pc := 127) dL_make_127 (by unfold I32 at *; omega) ?_
      refine V_iconst (pc := 128) dL_make_128 (by unfold I32; omega) ?_
      refine V_callS (pc := 129) dL_make_129 (F' := 1) (As := [vr SC, vi (a + 1), vi 3]) (st := [vi 1, vr (mN m)]) cw_RL_17 rfl rfl (Nat.le_of_ble_eq_true rfl) (by omega) (w_pick  mm53 (a + 1) 3   (by omega)) ?_
      rintro _ _ ⟨x129, rfl, hx129, rfl⟩ ok129 le129
      refine V_iast (pc := 132) dL_make_132 hI53.2.1.1 (by omega) ?_
      refine V_goto (pc := 133) dL_make_133 (tgt := 404) rfl ?_
      refine V_mem (m' := (setI mm53 (mN m) 1 x129)) rfl ?_
      have hI54 := (hI53.w (k := 1) (v := x129))
      have n54 : mN (setI mm53 (mN m) 1 x129) = mN mm53 := by simp only [mN_sI]
      have z54 : mZ (setI mm53 (mN m) 1 x129) = mZ mm53 := by simp only [mZ_sI]
      generalize (setI mm53 (mN m) 1 x129) = mm54 at hI54 n54 z54 ⊢
      refine V_ls (ls' := [(2, vr tt), (5, vi 69), (6, vr (mN m))]) (by intro q_ h_; simp only [List.mem_cons, List.not_mem_nil, or_false] at h_ ⊢; rcases h_ with rfl | rfl | rfl <;> simp) ?_
      exact L_mkEnd hI54 (by omega) (by omega) (TO.leaf hR5 (Or.inl ⟨rfl, (by omega : (0 : Int) ≤ x129 ∧ x129 ≤ 2)⟩)) (by omega) (by omega)
    · skip
      refine V_bipush (pc := 119) dL_make_119 (by unfold I32; omega) (by decide) ?_
      refine V_goto (pc := 121) dL_make_121 (tgt := 132) rfl ?_
      refine V_iast (pc := 132) dL_make_132 hI53.2.1.1 (by omega) ?_
      refine V_goto (pc := 133) dL_make_133 (tgt := 404) rfl ?_
      exfalso; omega
  · skip
    refine V_iconst (pc := 95) dL_make_95 (by unfold I32; omega) ?_
    refine V_ld (pc := 96) dL_make_96 (v := vr SC) rfl rfl ?_
    refine V_ld (pc := 97) dL_make_97 (v := vi a) rfl rfl ?_
    refine V_iconst (pc := 98) dL_make_98 (by unfold I32; omega) ?_
    refine V_iadd (pc := 99) dL_make_99 (by unfold I32 at *; omega) ?_
    refine V_iconst (pc := 100) dL_make_100 (by unfold I32; omega) ?_
    refine V_callS (pc := 101) dL_make_101 (F' := 1) (As := [vr SC, vi (a + 1), vi 2]) (st := [vi 1, vi 0, vr (mN m)]) cw_RL_17 rfl rfl (Nat.le_of_ble_eq_true rfl) (by omega) (w_pick  mm (a + 1) 2   (by omega)) ?_
    rintro _ _ ⟨x101, rfl, hx101, rfl⟩ ok101 le101
    refine V_iadd (pc := 104) dL_make_104 (by unfold I32 at *; omega) ?_
    refine V_goto (pc := 105) dL_make_105 (tgt := 109) rfl ?_
    refine V_iast (pc := 109) dL_make_109 hI.2.1.1 (by omega) ?_
    refine V_mem (m' := (setI mm (mN m) 0 (1 + x101))) rfl ?_
    have hI56 := (hI.w (k := 0) (v := (1 + x101)))
    have n56 : mN (setI mm (mN m) 0 (1 + x101)) = mN mm := by simp only [mN_sI]
    have z56 : mZ (setI mm (mN m) 0 (1 + x101)) = mZ mm := by simp only [mZ_sI]
    generalize (setI mm (mN m) 0 (1 + x101)) = mm56 at hI56 n56 z56 ⊢
    refine V_ld (pc := 110) dL_make_110 (v := vr (mN m)) rfl rfl ?_
    refine V_iconst (pc := 112) dL_make_112 (by unfold I32; omega) ?_
    refine V_ld (pc := 113) dL_make_113 (v := vi x) rfl rfl ?_
    refine V_iconst (pc := 115) dL_make_115 (by unfold I32; omega) ?_
    refine V_icmp_ne (pc := 116) dL_make_116 (tgt := 124) rfl (fun h116 => ?_) (fun h116 => ?_)
    · skip
      refine V_ld (pc := 124) dL_make_124 (v := vr SC) rfl rfl ?_
      refine V_ld (pc := 125) dL_make_125 (v := vi a) rfl rfl ?_
      refine V_iconst (pc := 126) dL_make_126 (by unfold I32; omega) ?_
      refine V_iadd (pc := 127) dL_make_127 (by unfold I32 at *; omega) ?_
      refine V_iconst (pc := 128) dL_make_128 (by unfold I32; omega) ?_
      refine V_callS (pc := 129) dL_make_129 (F' := 1) (As := [vr SC, vi (a + 1), vi 3]) (st := [vi 1, vr (mN m)]) cw_RL_17 rfl rfl (Nat.le_of_ble_eq_true rfl) (by omega) (w_pick  mm56 (a + 1) 3   (by omega)) ?_
      rintro _ _ ⟨x129, rfl, hx129, rfl⟩ ok129 le129
      refine V_iast (pc := 132) dL_make_132 hI56.2.1.1 (by omega) ?_
      refine V_goto (pc := 133) dL_make_133 (tgt := 404) rfl ?_
      exfalso; omega
    · skip
      refine V_bipush (pc := 119) dL_make_119 (by unfold I32; omega) (by decide) ?_
      refine V_goto (pc := 121) dL_make_121 (tgt := 132) rfl ?_
      refine V_iast (pc := 132) dL_make_132 hI56.2.1.1 (by omega) ?_
      refine V_goto (pc := 133) dL_make_133 (tgt := 404) rfl ?_
      refine V_mem (m' := (setI mm56 (mN m) 1 (-5))) rfl ?_
      have hI58 := (hI56.w (k := 1) (v := (-5)))
      have n58 : mN (setI mm56 (mN m) 1 (-5)) = mN mm56 := by simp only [mN_sI]
      have z58 : mZ (setI mm56 (mN m) 1 (-5)) = mZ mm56 := by simp only [mZ_sI]
      generalize (setI mm56 (mN m) 1 (-5)) = mm58 at hI58 n58 z58 ⊢
      refine V_ls (ls' := [(2, vr tt), (5, vi 69), (6, vr (mN m))]) (by intro q_ h_; simp only [List.mem_cons, List.not_mem_nil, or_false] at h_ ⊢; rcases h_ with rfl | rfl | rfl <;> simp) ?_
      exact L_mkEnd hI58 (by omega) (by omega) (TO.leaf hR5 (Or.inr (by omega : ((1 + x101) : Int) = 1 ∨ (1 + x101) = 2))) (by omega) (by omega)

set_option maxHeartbeats 8000000 in
theorem w_make0 (qc cnt : Nat) (V : Nat → Nat → Int) (m : Mem) (a : Int) (tt : Nat) (d : Int) (hT : TbM m tt qc cnt V) (hd : d + ((0 : Nat) : Int) = 3 ∧ 0 ≤ d) (ha : 0 ≤ a ∧ a ≤ 20000 + 300 * d) (hc : cnt + szF (0) ≤ 69) (hr : mN m + szF (0) ≤ NN ∧ mZ m + 10 * szF (0) ≤ ZZ) : Ct μL_make (0 + 2) [vr SC, vi a, vr tt, vi d] m (ri fun x_ m' => (True) ∧ MdP m tt qc (0) cnt V x_ m') := by
    have hs0 : szF 0 = 1 := rfl
    refine Ct_of_V rfl (by decide) rfl (Nat.le_of_ble_eq_true rfl) ?_
    show _root_.Jvm.Pilot.@@N@@.V μL_make (0 + 2) m _ 0 [(0, vr SC), (1, vi a), (2, vr tt), (3, vi d)] [] m
    refine L_mkHead (by omega) hT (by omega) (by omega) (by omega) fun mm x R hx hI hR5 hN hZ => ?_
    refine V_ld (pc := 79) dL_make_79 (v := vi x) rfl rfl ?_
    refine V_bipush (pc := 81) dL_make_81 (by unfold I32; omega) (by decide) ?_
    refine V_icmp_ge (pc := 83) dL_make_83 (tgt := 136) rfl (fun h83 => ?_) (fun h83 => ?_)
    · skip
      exfalso; omega
    · skip
      exact L_mkLeaf (by omega) (by omega) hI hR5 (by omega) (by omega) (by omega) hN hZ

set_option maxHeartbeats 8000000 in
theorem w_makeS {f : Nat} (ih : ∀ (qc cnt : Nat) (V : Nat → Nat → Int) (m : Mem) (a : Int) (tt : Nat) (d : Int) (hT : TbM m tt qc cnt V) (hd : d + ((f : Nat) : Int) = 3 ∧ 0 ≤ d) (ha : 0 ≤ a ∧ a ≤ 20000 + 300 * d) (hc : cnt + szF (f) ≤ 69) (hr : mN m + szF (f) ≤ NN ∧ mZ m + 10 * szF (f) ≤ ZZ), Ct μL_make (f + 2) [vr SC, vi a, vr tt, vi d] m (ri fun x_ m' => (True) ∧ MdP m tt qc (f) cnt V x_ m')) (qc cnt : Nat) (V : Nat → Nat → Int) (m : Mem) (a : Int) (tt : Nat) (d : Int) (hT : TbM m tt qc cnt V) (hd : d + ((f + 1 : Nat) : Int) = 3 ∧ 0 ≤ d) (ha : 0 ≤ a ∧ a ≤ 20000 + 300 * d) (hc : cnt + szF (f + 1) ≤ 69) (hr : mN m + szF (f + 1) ≤ NN ∧ mZ m + 10 * szF (f + 1) ≤ ZZ) : Ct μL_make (f + 1 + 2) [vr SC, vi a, vr tt, vi d] m (ri fun x_ m' => (True) ∧ MdP m tt qc (f + 1) cnt V x_ m') := by
    have hs1 : szF (f + 1) = 1 + 3 * szF f := rfl
    have hsp := szF_pos f
    refine Ct_of_V rfl (by decide) rfl (Nat.le_of_ble_eq_true rfl) ?_
    show _root_.Jvm.Pilot.@@N@@.V μL_make (f + 1 + 2) m _ 0 [(0, vr SC), (1, vi a), (2, vr tt), (3, vi d)] [] m
    refine L_mkHead (by omega) hT (by omega) (by omega) (by omega) fun mm x R hx hI hR5 hN hZ => ?_
    refine V_ld (pc := 79) dL_make_79 (v := vi x) rfl rfl ?_
    refine V_bipush (pc := 81) dL_make_81 (by unfold I32; omega) (by decide) ?_
    refine V_icmp_ge (pc := 83) dL_make_83 (tgt := 136) rfl (fun h83 => ?_) (fun h83 => ?_)
    · skip
      refine V_ld (pc := 136) dL_make_136 (v := vr (mN m)) rfl rfl ?_
      refine V_iconst (pc := 138) dL_make_138 (by unfold I32; omega) ?_
      refine V_ld (pc := 139) dL_make_139 (v := vi x) rfl rfl ?_
      refine V_bipush (pc := 141) dL_make_141 (by unfold I32; omega) (by decide) ?_
      refine V_icmp_ge (pc := 143) dL_make_143 (tgt := 150) rfl (fun h143 => ?_) (fun h143 => ?_)
      · skip
        refine V_ld (pc := 150) dL_make_150 (v := vi x) rfl rfl ?_
        refine V_bipush (pc := 152) dL_make_152 (by unfold I32; omega) (by decide) ?_
        refine V_icmp_ge (pc := 154) dL_make_154 (tgt := 161) rfl (fun h154 => ?_) (fun h154 => ?_)
        · skip
          refine V_ld (pc := 161) dL_make_161 (v := vi x) rfl rfl ?_
          refine V_bipush (pc := 163) dL_make_163 (by unfold I32; omega) (by decide) ?_
          refine V_icmp_ge (pc := 165) dL_make_165 (tgt := 172) rfl (fun h165 => ?_) (fun h165 => ?_)
          · skip
            refine V_bipush (pc := 172) dL_make_172 (by unfold I32; omega) (by decide) ?_
            refine V_iast (pc := 174) dL_make_174 hI.2.1.1 (by omega) ?_
            refine V_mem (m' := (setI mm (mN m) 0 6)) rfl ?_
            have hI59 := (hI.w (k := 0) (v := 6))
            have n59 : mN (setI mm (mN m) 0 6) = mN mm := by simp only [mN_sI]
            have z59 : mZ (setI mm (mN m) 0 6) = mZ mm := by simp only [mZ_sI]
            generalize (setI mm (mN m) 0 6) = mm59 at hI59 n59 z59 ⊢
            refine V_ld (pc := 175) dL_make_175 (v := vr (mN m)) rfl rfl ?_
            refine V_iconst (pc := 177) dL_make_177 (by unfold I32; omega) ?_
            refine V_ialdv (pc := 178) dL_make_178 (v := 6) hI59.2.1.1 (by omega) (hI59.2.2.1 0 (by decide)) (fun g178 => ?_)
            refine V_iconst (pc := 179) dL_make_179 (by unfold I32; omega) ?_
            refine V_icmp_ne (pc := 180) dL_make_180 (tgt := 187) rfl (fun _ => ?_) (fun h_ => absurd h_ (by decide))
            refine V_iconst (pc := 187) dL_make_187 (by unfold I32; omega) ?_
            refine V_ld (pc := 188) dL_make_188 (v := vr SC) rfl rfl ?_
            refine V_ld (pc := 189) dL_make_189 (v := vi a) rfl rfl ?_
            refine V_iconst (pc := 190) dL_make_190 (by unfold I32; omega) ?_
            refine V_iadd (pc := 191) dL_make_191 (by unfold I32 at *; omega) ?_
            refine V_iconst (pc := 192) dL_make_192 (by unfold I32; omega) ?_
            refine V_callS (pc := 193) dL_make_193 (F' := 1) (As := [vr SC, vi (a + 1), vi 2]) (st := [vi 2]) cw_RL_17 rfl rfl (Nat.le_of_ble_eq_true rfl) (by omega) (w_pick  mm59 (a + 1) 2   (by omega)) ?_
            rintro _ _ ⟨x193, rfl, hx193, rfl⟩ ok193 le193
            refine V_iadd (pc := 196) dL_make_196 (by unfold I32 at *; omega) ?_
            skip
            refine V_ls (ls' := [(0, vr SC), (1, vi a), (2, vr tt), (3, vi d), (5, vi 69), (6, vr (mN m))]) (by intro q_ h_; simp only [List.mem_cons, List.not_mem_nil, or_false] at h_ ⊢; rcases h_ with rfl | rfl | rfl | rfl | rfl | rfl <;> simp) ?_
            exact L_mkSg ih hI59 (show 6 = (3 : Int) ∨ 6 = (4 : Int) ∨ 6 = (6 : Int) from by decide) hR5 hd ha hc hr (by omega) (by omega) (by omega)
          · skip
            refine V_iconst (pc := 168) dL_make_168 (by unfold I32; omega) ?_
            refine V_goto (pc := 169) dL_make_169 (tgt := 174) rfl ?_
            refine V_iast (pc := 174) dL_make_174 hI.2.1.1 (by omega) ?_
            refine V_mem (m' := (setI mm (mN m) 0 5)) rfl ?_
            have hI61 := (hI.w (k := 0) (v := 5))
            have n61 : mN (setI mm (mN m) 0 5) = mN mm := by simp only [mN_sI]
            have z61 : mZ (setI mm (mN m) 0 5) = mZ mm := by simp only [mZ_sI]
            generalize (setI mm (mN m) 0 5) = mm61 at hI61 n61 z61 ⊢
            refine V_ld (pc := 175) dL_make_175 (v := vr (mN m)) rfl rfl ?_
            refine V_iconst (pc := 177) dL_make_177 (by unfold I32; omega) ?_
            refine V_ialdv (pc := 178) dL_make_178 (v := 5) hI61.2.1.1 (by omega) (hI61.2.2.1 0 (by decide)) (fun g178 => ?_)
            refine V_iconst (pc := 179) dL_make_179 (by unfold I32; omega) ?_
            refine V_icmp_ne (pc := 180) dL_make_180 (tgt := 187) rfl (fun h_ => absurd h_ (by decide)) (fun _ => ?_)
            refine V_iconst (pc := 183) dL_make_183 (by unfold I32; omega) ?_
            refine V_goto (pc := 184) dL_make_184 (tgt := 197) rfl ?_
            skip
            refine V_ls (ls' := [(0, vr SC), (1, vi a), (2, vr tt), (3, vi d), (5, vi 69), (6, vr (mN m))]) (by intro q_ h_; simp only [List.mem_cons, List.not_mem_nil, or_false] at h_ ⊢; rcases h_ with rfl | rfl | rfl | rfl | rfl | rfl <;> simp) ?_
            exact L_mkRep ih hI61 rfl hR5 hd ha hc hr (by omega) (by omega)
        · skip
          refine V_iconst (pc := 157) dL_make_157 (by unfold I32; omega) ?_
          refine V_goto (pc := 158) dL_make_158 (tgt := 174) rfl ?_
          refine V_iast (pc := 174) dL_make_174 hI.2.1.1 (by omega) ?_
          refine V_mem (m' := (setI mm (mN m) 0 4)) rfl ?_
          have hI63 := (hI.w (k := 0) (v := 4))
          have n63 : mN (setI mm (mN m) 0 4) = mN mm := by simp only [mN_sI]
          have z63 : mZ (setI mm (mN m) 0 4) = mZ mm := by simp only [mZ_sI]
          generalize (setI mm (mN m) 0 4) = mm63 at hI63 n63 z63 ⊢
          refine V_ld (pc := 175) dL_make_175 (v := vr (mN m)) rfl rfl ?_
          refine V_iconst (pc := 177) dL_make_177 (by unfold I32; omega) ?_
          refine V_ialdv (pc := 178) dL_make_178 (v := 4) hI63.2.1.1 (by omega) (hI63.2.2.1 0 (by decide)) (fun g178 => ?_)
          refine V_iconst (pc := 179) dL_make_179 (by unfold I32; omega) ?_
          refine V_icmp_ne (pc := 180) dL_make_180 (tgt := 187) rfl (fun _ => ?_) (fun h_ => absurd h_ (by decide))
          refine V_iconst (pc := 187) dL_make_187 (by unfold I32; omega) ?_
          refine V_ld (pc := 188) dL_make_188 (v := vr SC) rfl rfl ?_
          refine V_ld (pc := 189) dL_make_189 (v := vi a) rfl rfl ?_
          refine V_iconst (pc := 190) dL_make_190 (by unfold I32; omega) ?_
          refine V_iadd (pc := 191) dL_make_191 (by unfold I32 at *; omega) ?_
          refine V_iconst (pc := 192) dL_make_192 (by unfold I32; omega) ?_
          refine V_callS (pc := 193) dL_make_193 (F' := 1) (As := [vr SC, vi (a + 1), vi 2]) (st := [vi 2]) cw_RL_17 rfl rfl (Nat.le_of_ble_eq_true rfl) (by omega) (w_pick  mm63 (a + 1) 2   (by omega)) ?_
          rintro _ _ ⟨x193, rfl, hx193, rfl⟩ ok193 le193
          refine V_iadd (pc := 196) dL_make_196 (by unfold I32 at *; omega) ?_
          skip
          refine V_ls (ls' := [(0, vr SC), (1, vi a), (2, vr tt), (3, vi d), (5, vi 69), (6, vr (mN m))]) (by intro q_ h_; simp only [List.mem_cons, List.not_mem_nil, or_false] at h_ ⊢; rcases h_ with rfl | rfl | rfl | rfl | rfl | rfl <;> simp) ?_
          exact L_mkSg ih hI63 (show 4 = (3 : Int) ∨ 4 = (4 : Int) ∨ 4 = (6 : Int) from by decide) hR5 hd ha hc hr (by omega) (by omega) (by omega)
      · skip
        refine V_iconst (pc := 146) dL_make_146 (by unfold I32; omega) ?_
        refine V_goto (pc := 147) dL_make_147 (tgt := 174) rfl ?_
        refine V_iast (pc := 174) dL_make_174 hI.2.1.1 (by omega) ?_
        refine V_mem (m' := (setI mm (mN m) 0 3)) rfl ?_
        have hI65 := (hI.w (k := 0) (v := 3))
        have n65 : mN (setI mm (mN m) 0 3) = mN mm := by simp only [mN_sI]
        have z65 : mZ (setI mm (mN m) 0 3) = mZ mm := by simp only [mZ_sI]
        generalize (setI mm (mN m) 0 3) = mm65 at hI65 n65 z65 ⊢
        refine V_ld (pc := 175) dL_make_175 (v := vr (mN m)) rfl rfl ?_
        refine V_iconst (pc := 177) dL_make_177 (by unfold I32; omega) ?_
        refine V_ialdv (pc := 178) dL_make_178 (v := 3) hI65.2.1.1 (by omega) (hI65.2.2.1 0 (by decide)) (fun g178 => ?_)
        refine V_iconst (pc := 179) dL_make_179 (by unfold I32; omega) ?_
        refine V_icmp_ne (pc := 180) dL_make_180 (tgt := 187) rfl (fun _ => ?_) (fun h_ => absurd h_ (by decide))
        refine V_iconst (pc := 187) dL_make_187 (by unfold I32; omega) ?_
        refine V_ld (pc := 188) dL_make_188 (v := vr SC) rfl rfl ?_
        refine V_ld (pc := 189) dL_make_189 (v := vi a) rfl rfl ?_
        refine V_iconst (pc := 190) dL_make_190 (by unfold I32; omega) ?_
        refine V_iadd (pc := 191) dL_make_191 (by unfold I32 at *; omega) ?_
        refine V_iconst (pc := 192) dL_make_192 (by unfold I32; omega) ?_
        refine V_callS (pc := 193) dL_make_193 (F' := 1) (As := [vr SC, vi (a + 1), vi 2]) (st := [vi 2]) cw_RL_17 rfl rfl (Nat.le_of_ble_eq_true rfl) (by omega) (w_pick  mm65 (a + 1) 2   (by omega)) ?_
        rintro _ _ ⟨x193, rfl, hx193, rfl⟩ ok193 le193
        refine V_iadd (pc := 196) dL_make_196 (by unfold I32 at *; omega) ?_
        skip
        refine V_ls (ls' := [(0, vr SC), (1, vi a), (2, vr tt), (3, vi d), (5, vi 69), (6, vr (mN m))]) (by intro q_ h_; simp only [List.mem_cons, List.not_mem_nil, or_false] at h_ ⊢; rcases h_ with rfl | rfl | rfl | rfl | rfl | rfl <;> simp) ?_
        exact L_mkSg ih hI65 (show 3 = (3 : Int) ∨ 3 = (4 : Int) ∨ 3 = (6 : Int) from by decide) hR5 hd ha hc hr (by omega) (by omega) (by omega)
    · skip
      exact L_mkLeaf (by omega) (by omega) hI hR5 (by omega) (by omega) (by omega) hN hZ

theorem w_make : ∀ (f : Nat) (qc cnt : Nat) (V : Nat → Nat → Int) (m : Mem) (a : Int) (tt : Nat) (d : Int) (hT : TbM m tt qc cnt V) (hd : d + ((f : Nat) : Int) = 3 ∧ 0 ≤ d) (ha : 0 ≤ a ∧ a ≤ 20000 + 300 * d) (hc : cnt + szF (f) ≤ 69) (hr : mN m + szF (f) ≤ NN ∧ mZ m + 10 * szF (f) ≤ ZZ), Ct μL_make (f + 2) [vr SC, vi a, vr tt, vi d] m (ri fun x_ m' => (True) ∧ MdP m tt qc (f) cnt V x_ m') := by
  intro f
  induction f with
  | zero => exact w_make0
  | succ f ih => exact w_makeS ih

