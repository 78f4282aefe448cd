/-! THE LAW'S conditions() -/
theorem w_app (bs : Nat) (B : Nat) (l : List Int) (w : List Int) (m : Mem) (s : Nat) (o : Nat)   (hS : SbO m bs s l) (hO : StrO m B o w) (hB : B ≤ mN m) (hl : l.length + w.length ≤ 5000) (hr : mN m + 1 ≤ NN ∧ mZ m + 2 * (l.length + w.length) ≤ ZZ) : Ct μJ4_append_15ec4 5 [vr s, vr o] m (rq fun x_ m' => (x_ = some s) ∧ SbO m' bs s (l ++ w) ∧ Kp bs m m' ∧ mN m ≤ mN m' ∧ mN m' ≤ mN m + 1 ∧ mZ m' ≤ mZ m + 2 * (l.length + w.length)) := k_app hS hO hB hl hr
theorem w_chr (bs : Nat) (l : List Int) (m : Mem) (s : Nat) (c : Int)   (hS : SbO m bs s l) (hx : 0 ≤ c ∧ c < 128) (hl : l.length ≤ 5000) (hr : mN m + 1 ≤ NN ∧ mZ m + 2 * (l.length + 1) ≤ ZZ) : Ct μJ4_append_cf468 5 [vr s, vi c] m (rq fun x_ m' => (x_ = some s) ∧ SbO m' bs s (l ++ [c]) ∧ Kp bs m m' ∧ mN m ≤ mN m' ∧ mN m' ≤ mN m + 1 ∧ mZ m' ≤ mZ m + 2 * (l.length + 1)) := k_chr hS hx hl hr
theorem w_fig (bs : Nat) (l : List Int) (m : Mem) (s : Nat) (c : Int)   (hS : SbO m bs s l) (hx : 0 ≤ c ∧ c < 10) (hl : l.length ≤ 5000) (hr : mN m + 1 ≤ NN ∧ mZ m + 2 * (l.length + 1) ≤ ZZ) : Ct μJ4_append_bf812 5 [vr s, vi c] m (rq fun x_ m' => (x_ = some s) ∧ SbO m' bs s (l ++ [48 + c]) ∧ Kp bs m m' ∧ mN m ≤ mN m' ∧ mN m' ≤ mN m + 1 ∧ mZ m' ≤ mZ m + 2 * (l.length + 1)) := k_fig hS hx hl hr
theorem w_str (bs : Nat) (l : List Int) (m : Mem) (s : Nat)   (hS : SbO m bs s l) (hl : l.length ≤ 5000) (hr : mN m + 2 ≤ NN ∧ mZ m + 4 + l.length ≤ ZZ) : Ct μJ4_toString_0e30d 6 [vr s] m (rq fun x_ m' => (x_ = some (mN m)) ∧ StrO m' (mN m') (mN m) l ∧ Kp (mN m) m m' ∧ mN m' = mN m + 2 ∧ mZ m' = mZ m + 4 + l.length) := k_str hS hl hr
theorem w_told  (m : Mem) (y : Int)   (hy : 0 ≤ y ∧ y ≤ 7) (hr : mN m + 1 ≤ NN ∧ mZ m + 8 ≤ ZZ) : Ct μL_told 0 [vi y] m (rq fun x_ m' => (x_ = some (kS y.toNat)) ∧ Kp (mN m) m m' ∧ mN m' = mN m + 1 ∧ mZ m' = mZ m + 8) := by
  rcases (show y = 0 ∨ y = 1 ∨ y = 2 ∨ y = 3 ∨ y = 4 ∨ y = 5 ∨ y = 6 ∨ y = 7 by omega) with rfl | rfl | rfl | rfl | rfl | rfl | rfl | rfl
  · exact w_told0 m hr
  · exact w_told1 m hr
  · exact w_told2 m hr
  · exact w_told3 m hr
  · exact w_told4 m hr
  · exact w_told5 m hr
  · exact w_told6 m hr
  · exact w_told7 m hr
theorem w_new  (m : Mem) (s : Nat)   (T_s : mT m s = (12, 4)) (hp : mN m + 1 ≤ NN ∧ mZ m + 16 ≤ ZZ ∧ s < mN m) : Ct μJ4_init_da8c8 2 [vr s] m (rv fun m' => setI (setR (newO m 24 16) s 0 (some (mN m))) s 1 0 = m') := b_init m s T_s hp
/-- what stays while a text grows: a row's number, the text before -/
def CdW (m : Mem) (W i : Nat) (y : Int) (B T : Nat) (l : List Int) : Prop := mT m W = (20, 26) ∧ mI m W i = y ∧ StrO m B T l
theorem CdW.kp {m m' : Mem} {W i B T b : Nat} {y : Int} {l : List Int} (h : CdW m W i y B T l) (hk : Kp b m m') (hW : W < b) (hB : B ≤ b) : CdW m' W i y B T l :=
  ⟨(hk W (Or.inl hW)).1.trans h.1, ((hk W (Or.inl hW)).2.1 i).trans h.2.1, h.2.2.kp hk hB⟩
theorem litB_8 : litB.getD 8 [] = [] := by decide
theorem litB_9 : litB.getD 9 [] = [59] := by decide
theorem litB_10 : litB.getD 10 [] = [61] := by decide

/-- what a number's condition brings to the text -/
def cAdd (tl : List Int) (i : Nat) (y : Int) : List Int := if y < 0 then [] else (if tl = [] then [] else [59]) ++ ((65 + (i : Int)) :: 61 :: cT y.toNat)

set_option maxHeartbeats 8000000 in
theorem L_cnd2 {F : Nat} {m0 : Mem} {post : Option AV → Mem → Prop} {M : Mem} {W i T : Nat} {y at_ : Int} {tl : List Int} (hM : CdW M W i y (mN M) T tl) (hW : W < mN M) (hi : i < 26) (hy : -1 ≤ y ∧ y ≤ 7) (htl : tl.length ≤ 60) (hr : mN M + 20 ≤ NN ∧ mZ M + 900 ≤ ZZ)
    (kx : ∀ m' T', Kp (mN M) M m' → mN M + 4 ≤ mN m' ∧ mN m' ≤ mN M + 15 → mZ m' ≤ mZ M + 900 → StrO m' (mN m') T' (tl ++ cAdd tl i y) → V μL_conditions (F + 22) m0 post 148 [(5, vi ((i : Nat) : Int)), (4, vr T'), (3, vr W), (0, vr 0), (1, vr SC), (2, vi at_)] [] m') : V μL_conditions (F + 22) m0 post 64 [(5, vi ((i : Nat) : Int)), (4, vr T), (3, vr W), (0, vr 0), (1, vr SC), (2, vi at_)] [] M := by
  have hT8 : (cT y.toNat).length ≤ 17 ∨ y < 0 := by
    by_cases c : y < 0
    · exact Or.inr c
    · exact Or.inl (cT_read (w := y.toNat) (by omega)).2.2.2.1
  refine V_newv (pc := 64) (mN M) rfl dL_conditions_64 nw_RL_78 (by omega) (by show mZ M + 4 ≤ ZZ; omega) ?_
  refine V_dup (pc := 67) dL_conditions_67 rfl ?_
  refine V_callI (pc := 68) dL_conditions_68 (F' := 2) (As := []) (st := [vr (mN M)]) cw_RL_80 rfl rfl (Nat.le_of_ble_eq_true rfl) (by omega) (w_new  (newO M 12 4) (mN M)   (mT_news (M := M) rfl) ⟨by show mN M + 1 + 1 ≤ NN; omega, by show mZ M + 4 + 16 ≤ ZZ; omega, Nat.lt_succ_self _⟩) ?_
  rintro _ _ ⟨rfl, rfl⟩ ok68 le68
  refine V_mem (m' := _root_.Jvm.Pilot.@@N@@.setI (_root_.Jvm.Pilot.@@N@@.setR (newO (newO M 12 4) 24 16) (mN M) 0 (some (mN M + 1))) (mN M) 1 0) rfl ?_
  have S71 := SbO.mk (m := M) (Nat.le_refl (mN M))
  have K71 := Kp.mk (m := M) (Nat.le_refl (mN M)) (by omega)
  have a71 : mN (_root_.Jvm.Pilot.@@N@@.setI (_root_.Jvm.Pilot.@@N@@.setR (newO (newO M 12 4) 24 16) (mN M) 0 (some (mN M + 1))) (mN M) 1 0) = mN M + 2 := rfl
  have b71 : mZ (_root_.Jvm.Pilot.@@N@@.setI (_root_.Jvm.Pilot.@@N@@.setR (newO (newO M 12 4) 24 16) (mN M) 0 (some (mN M + 1))) (mN M) 1 0) = mZ M + 20 := rfl
  generalize _root_.Jvm.Pilot.@@N@@.setI (_root_.Jvm.Pilot.@@N@@.setR (newO (newO M 12 4) 24 16) (mN M) 0 (some (mN M + 1))) (mN M) 1 0 = m71 at S71 K71 a71 b71 ⊢
  have c71 := hM.kp K71 (by omega) (by omega)
  refine V_ld (pc := 71) dL_conditions_71 (v := vr T) rfl rfl ?_
  refine V_callV (pc := 73) dL_conditions_73 (F' := 5) (As := [vr T]) (st := []) cw_RL_81 rfl rfl S71.2.2.1 (by decide) (Nat.le_of_ble_eq_true rfl) (by omega) (w_app (mN M) (mN M) ([]) tl m71 (mN M) T   S71 c71.2.2 (by omega) (by first | omega | (simp only [List.length_append, List.length_cons, List.length_nil] at *; omega)) ⟨by omega, (by first | omega | (simp only [List.length_append, List.length_cons, List.length_nil] at *; omega))⟩) ?_
  rintro _ m73 ⟨x73, rfl, hx73, hm73⟩ ok73 le73
  subst hx73
  have z73 := hm73.2.2
  (try simp only [List.length_append, List.length_cons, List.length_nil] at z73)
  have c73 := c71.kp hm73.2.1 (by omega) (by omega)
  have kM73 := K71.tr (hm73.2.1.le (by omega))
  refine V_ld (pc := 76) dL_conditions_76 (v := vr W) rfl rfl ?_
  refine V_ld (pc := 77) dL_conditions_77 (v := vi ((i : Nat) : Int)) rfl rfl ?_
  refine V_ialdv (pc := 79) dL_conditions_79 (v := y) c73.1 (by omega) (by rw [Int.toNat_natCast]; exact c73.2.1) (fun g79 => ?_)
  refine V_if_ge (pc := 80) dL_conditions_80 (tgt := 88) rfl (fun h80 => ?_) (fun h80 => ?_)
  · skip
    refine V_newv (pc := 88) (mN m73) rfl dL_conditions_88 nw_RL_78 (by omega) (by show mZ m73 + 4 ≤ ZZ; omega) ?_
    refine V_dup (pc := 91) dL_conditions_91 rfl ?_
    refine V_callI (pc := 92) dL_conditions_92 (F' := 2) (As := []) (st := [vr (mN m73), vr (mN M)]) cw_RL_80 rfl rfl (Nat.le_of_ble_eq_true rfl) (by omega) (w_new  (newO m73 12 4) (mN m73)   (mT_news (M := m73) rfl) ⟨by show mN m73 + 1 + 1 ≤ NN; omega, by show mZ m73 + 4 + 16 ≤ ZZ; omega, Nat.lt_succ_self _⟩) ?_
    rintro _ _ ⟨rfl, rfl⟩ ok92 le92
    refine V_mem (m' := _root_.Jvm.Pilot.@@N@@.setI (_root_.Jvm.Pilot.@@N@@.setR (newO (newO m73 12 4) 24 16) (mN m73) 0 (some (mN m73 + 1))) (mN m73) 1 0) rfl ?_
    have S95 := SbO.mk (m := m73) (Nat.le_refl (mN m73))
    have K95 := Kp.mk (m := m73) (Nat.le_refl (mN m73)) (by omega)
    have a95 : mN (_root_.Jvm.Pilot.@@N@@.setI (_root_.Jvm.Pilot.@@N@@.setR (newO (newO m73 12 4) 24 16) (mN m73) 0 (some (mN m73 + 1))) (mN m73) 1 0) = mN m73 + 2 := rfl
    have b95 : mZ (_root_.Jvm.Pilot.@@N@@.setI (_root_.Jvm.Pilot.@@N@@.setR (newO (newO m73 12 4) 24 16) (mN m73) 0 (some (mN m73 + 1))) (mN m73) 1 0) = mZ m73 + 20 := rfl
    generalize _root_.Jvm.Pilot.@@N@@.setI (_root_.Jvm.Pilot.@@N@@.setR (newO (newO m73 12 4) 24 16) (mN m73) 0 (some (mN m73 + 1))) (mN m73) 1 0 = m95 at S95 K95 a95 b95 ⊢
    have c95 := c73.kp K95 (by omega) (by omega)
    have kM95 := kM73.tr (K95.le (by omega))
    refine V_ld (pc := 95) dL_conditions_95 (v := vr T) rfl rfl ?_
    refine V_callVS (pc := 97) dL_conditions_97 (F' := 1) (As := []) (st := [vr (mN m73), vr (mN M)]) cw_RL_27 rfl rfl c95.2.2.2.1 (Nat.le_of_ble_eq_true rfl) (by omega) (w_len (mN M) tl m95 T   c95.2.2 (by omega)) ?_
    rintro _ _ ⟨x97, rfl, hx97, rfl⟩ ok97 le97
    subst hx97
    refine V_if_ne (pc := 100) dL_conditions_100 (tgt := 108) rfl (fun h100 => ?_) (fun h100 => ?_)
    · skip
      refine V_ldcS (pc := 108) dL_conditions_108 (i := 9) rfl (by decide) (by decide +kernel) ?_
      refine V_okM fun ok_ => ?_
      refine V_callV (pc := 110) dL_conditions_110 (F' := 5) (As := [vr (kS 9)]) (st := [vr (mN M)]) cw_RL_81 rfl rfl S95.2.2.1 (by decide) (Nat.le_of_ble_eq_true rfl) (by omega) (w_app (mN m73) 0 ([]) ([59]) m95 (mN m73) (kS 9)   S95 (litB_9 ▸ (StrO.lit (B := 0) (i := 9) ok_ (by decide))) (by omega) (by first | omega | (simp only [List.length_append, List.length_cons, List.length_nil] at *; omega)) ⟨by omega, (by first | omega | (simp only [List.length_append, List.length_cons, List.length_nil] at *; omega))⟩) ?_
      rintro _ m110 ⟨x110, rfl, hx110, hm110⟩ ok110 le110
      subst hx110
      have z110 := hm110.2.2
      (try simp only [List.length_append, List.length_cons, List.length_nil] at z110)
      have c110 := c95.kp hm110.2.1 (by omega) (by omega)
      have kk110 := K95.tr (hm110.2.1.le (by omega))
      have kM110 := kM95.tr (hm110.2.1.le (by omega))
      refine V_bipush (pc := 113) dL_conditions_113 (by unfold I32; omega) (by decide) ?_
      refine V_ld (pc := 115) dL_conditions_115 (v := vi ((i : Nat) : Int)) rfl rfl ?_
      refine V_iadd (pc := 117) dL_conditions_117 (by unfold I32 at *; omega) ?_
      refine V_i2c (pc := 118) dL_conditions_118 (by omega) ?_
      refine V_callV (pc := 119) dL_conditions_119 (F' := 5) (As := [vi (65 + ((i : Nat) : Int))]) (st := [vr (mN M)]) cw_RL_87 rfl rfl hm110.1.2.2.1 (by decide) (Nat.le_of_ble_eq_true rfl) (by omega) (w_chr (mN m73) ([] ++ [59]) m110 (mN m73) (65 + ((i : Nat) : Int))   hm110.1 (by omega) (by first | omega | (simp only [List.length_append, List.length_cons, List.length_nil] at *; omega)) ⟨by omega, (by first | omega | (simp only [List.length_append, List.length_cons, List.length_nil] at *; omega))⟩) ?_
      rintro _ m119 ⟨x119, rfl, hx119, hm119⟩ ok119 le119
      subst hx119
      have z119 := hm119.2.2
      (try simp only [List.length_append, List.length_cons, List.length_nil] at z119)
      have c119 := c110.kp hm119.2.1 (by omega) (by omega)
      have kk119 := kk110.tr (hm119.2.1.le (by omega))
      have kM119 := kM110.tr (hm119.2.1.le (by omega))
      refine V_ldcS (pc := 122) dL_conditions_122 (i := 10) rfl (by decide) (by decide +kernel) ?_
      refine V_okM fun ok_ => ?_
      refine V_callV (pc := 124) dL_conditions_124 (F' := 5) (As := [vr (kS 10)]) (st := [vr (mN M)]) cw_RL_81 rfl rfl hm119.1.2.2.1 (by decide) (Nat.le_of_ble_eq_true rfl) (by omega) (w_app (mN m73) 0 (([] ++ [59]) ++ [65 + (i : Int)]) ([61]) m119 (mN m73) (kS 10)   hm119.1 (litB_10 ▸ (StrO.lit (B := 0) (i := 10) ok_ (by decide))) (by omega) (by first | omega | (simp only [List.length_append, List.length_cons, List.length_nil] at *; omega)) ⟨by omega, (by first | omega | (simp only [List.length_append, List.length_cons, List.length_nil] at *; omega))⟩) ?_
      rintro _ m124 ⟨x124, rfl, hx124, hm124⟩ ok124 le124
      subst hx124
      have z124 := hm124.2.2
      (try simp only [List.length_append, List.length_cons, List.length_nil] at z124)
      have c124 := c119.kp hm124.2.1 (by omega) (by omega)
      have kk124 := kk119.tr (hm124.2.1.le (by omega))
      have kM124 := kM119.tr (hm124.2.1.le (by omega))
      refine V_ld (pc := 127) dL_conditions_127 (v := vr W) rfl rfl ?_
      refine V_ld (pc := 128) dL_conditions_128 (v := vi ((i : Nat) : Int)) rfl rfl ?_
      refine V_ialdv (pc := 130) dL_conditions_130 (v := y) c124.1 (by omega) (by rw [Int.toNat_natCast]; exact c124.2.1) (fun g130 => ?_)
      refine V_callS (pc := 131) dL_conditions_131 (F' := 0) (As := [vi y]) (st := [vr (mN m73), vr (mN M)]) cw_RL_92 rfl rfl (Nat.le_of_ble_eq_true rfl) (by omega) (w_told  m124 y   (by omega) (by omega)) ?_
      rintro _ m131 ⟨x131, rfl, hx131, hm131⟩ ok131 le131
      subst hx131
      have z131 := hm131.2
      (try simp only [List.length_append, List.length_cons, List.length_nil] at z131)
      have c131 := c124.kp hm131.1 (by omega) (by omega)
      have kk131 := kk124.tr (hm131.1.le (by omega))
      have kM131 := kM124.tr (hm131.1.le (by omega))
      have S131 := hm124.1.kp hm131.1 (Nat.le_refl _) (by omega)
      refine V_okM fun ok_ => ?_
      refine V_callV (pc := 134) dL_conditions_134 (F' := 5) (As := [vr (kS y.toNat)]) (st := [vr (mN M)]) cw_RL_81 rfl rfl S131.2.2.1 (by decide) (Nat.le_of_ble_eq_true rfl) (by omega) (w_app (mN m73) 0 ((([] ++ [59]) ++ [65 + (i : Int)]) ++ [61]) (cT y.toNat) m131 (mN m73) (kS y.toNat)   S131 (StrO.lit (B := 0) (i := y.toNat) ok_ (by omega)) (by omega) (by first | omega | (simp only [List.length_append, List.length_cons, List.length_nil] at *; omega)) ⟨by omega, (by first | omega | (simp only [List.length_append, List.length_cons, List.length_nil] at *; omega))⟩) ?_
      rintro _ m134 ⟨x134, rfl, hx134, hm134⟩ ok134 le134
      subst hx134
      have z134 := hm134.2.2
      (try simp only [List.length_append, List.length_cons, List.length_nil] at z134)
      have c134 := c131.kp hm134.2.1 (by omega) (by omega)
      have kk134 := kk131.tr (hm134.2.1.le (by omega))
      have kM134 := kM131.tr (hm134.2.1.le (by omega))
      refine V_callV (pc := 137) dL_conditions_137 (F' := 6) (As := []) (st := [vr (mN M)]) cw_RL_96 rfl rfl hm134.1.2.2.1 (by decide) (Nat.le_of_ble_eq_true rfl) (by omega) (w_str (mN m73) (((([] ++ [59]) ++ [65 + (i : Int)]) ++ [61]) ++ (cT y.toNat)) m134 (mN m73)   hm134.1 (by first | omega | (simp only [List.length_append, List.length_cons, List.length_nil] at *; omega)) ⟨by omega, (by first | omega | (simp only [List.length_append, List.length_cons, List.length_nil] at *; omega))⟩) ?_
      rintro _ m137 ⟨x137, rfl, hx137, hm137⟩ ok137 le137
      subst hx137
      have z137 := hm137.2.2
      (try simp only [List.length_append, List.length_cons, List.length_nil] at z137)
      have c137 := c134.kp hm137.2.1 (by omega) (by omega)
      have kk137 := kk134.tr (hm137.2.1.le (by omega))
      have kM137 := kM134.tr (hm137.2.1.le (by omega))
      have S140 := hm73.1.kp kk137 (Nat.le_refl _) (by omega)
      refine V_callV (pc := 140) dL_conditions_140 (F' := 5) (As := [vr (mN m134)]) (st := []) cw_RL_81 rfl rfl S140.2.2.1 (by decide) (Nat.le_of_ble_eq_true rfl) (by omega) (w_app (mN M) (mN m137) ([] ++ tl) (((([] ++ [59]) ++ [65 + (i : Int)]) ++ [61]) ++ (cT y.toNat)) m137 (mN M) (mN m134)   S140 hm137.1 (by omega) (by first | omega | (simp only [List.length_append, List.length_cons, List.length_nil] at *; omega)) ⟨by omega, (by first | omega | (simp only [List.length_append, List.length_cons, List.length_nil] at *; omega))⟩) ?_
      rintro _ m140 ⟨x140, rfl, hx140, hm140⟩ ok140 le140
      subst hx140
      have z140 := hm140.2.2
      (try simp only [List.length_append, List.length_cons, List.length_nil] at z140)
      have c140 := c137.kp hm140.2.1 (by omega) (by omega)
      have kM140 := kM137.tr (hm140.2.1.le (by omega))
      refine V_callV (pc := 143) dL_conditions_143 (F' := 6) (As := []) (st := []) cw_RL_96 rfl rfl hm140.1.2.2.1 (by decide) (Nat.le_of_ble_eq_true rfl) (by omega) (w_str (mN M) (([] ++ tl) ++ (((([] ++ [59]) ++ [65 + (i : Int)]) ++ [61]) ++ (cT y.toNat))) m140 (mN M)   hm140.1 (by first | omega | (simp only [List.length_append, List.length_cons, List.length_nil] at *; omega)) ⟨by omega, (by first | omega | (simp only [List.length_append, List.length_cons, List.length_nil] at *; omega))⟩) ?_
      rintro _ m143 ⟨x143, rfl, hx143, hm143⟩ ok143 le143
      subst hx143
      have z143 := hm143.2.2
      (try simp only [List.length_append, List.length_cons, List.length_nil] at z143)
      have c143 := c140.kp hm143.2.1 (by omega) (by omega)
      have kM143 := kM140.tr (hm143.2.1.le (by omega))
      refine V_st (pc := 146) dL_conditions_146 (ls' := [(4, vr (mN m140)), (5, vi ((i : Nat) : Int)), (3, vr W), (0, vr 0), (1, vr SC), (2, vi at_)]) rfl (Nat.le_of_ble_eq_true rfl) rfl ?_
      refine V_ls (ls' := [(5, vi ((i : Nat) : Int)), (4, vr (mN m140)), (3, vr W), (0, vr 0), (1, vr SC), (2, vi at_)]) (by intro q_ h_; simp only [List.mem_cons, List.not_mem_nil, or_false] at h_ ⊢; rcases h_ with rfl | rfl | rfl | rfl | rfl | rfl <;> simp) ?_
      have e_ : (([] ++ tl) ++ (((([] ++ [59]) ++ [65 + (i : Int)]) ++ [61]) ++ (cT y.toNat))) = tl ++ cAdd tl i y := by
        unfold cAdd
        first
        | (rw [if_pos (by omega)]; simp; done)
        | (rw [if_neg (by omega), if_pos (List.eq_nil_of_length_eq_zero (by omega))]; simp; done)
        | (rw [if_neg (by omega), if_neg (fun z_ => by rw [z_] at h100; exact h100 rfl)]; simp; done)
      exact kx _ _ kM143 (by omega) (by omega) (e_ ▸ hm143.1)
    · skip
      refine V_ldcS (pc := 103) dL_conditions_103 (i := 8) rfl (by decide) (by decide +kernel) ?_
      refine V_goto (pc := 105) dL_conditions_105 (tgt := 110) rfl ?_
      refine V_okM fun ok_ => ?_
      refine V_callV (pc := 110) dL_conditions_110 (F' := 5) (As := [vr (kS 8)]) (st := [vr (mN M)]) cw_RL_81 rfl rfl S95.2.2.1 (by decide) (Nat.le_of_ble_eq_true rfl) (by omega) (w_app (mN m73) 0 ([]) ([]) m95 (mN m73) (kS 8)   S95 (litB_8 ▸ (StrO.lit (B := 0) (i := 8) ok_ (by decide))) (by omega) (by first | omega | (simp only [List.length_append, List.length_cons, List.length_nil] at *; omega)) ⟨by omega, (by first | omega | (simp only [List.length_append, List.length_cons, List.length_nil] at *; omega))⟩) ?_
      rintro _ m110 ⟨x110, rfl, hx110, hm110⟩ ok110 le110
      subst hx110
      have z110 := hm110.2.2
      (try simp only [List.length_append, List.length_cons, List.length_nil] at z110)
      have c110 := c95.kp hm110.2.1 (by omega) (by omega)
      have kk110 := K95.tr (hm110.2.1.le (by omega))
      have kM110 := kM95.tr (hm110.2.1.le (by omega))
      refine V_bipush (pc := 113) dL_conditions_113 (by unfold I32; omega) (by decide) ?_
      refine V_ld (pc := 115) dL_conditions_115 (v := vi ((i : Nat) : Int)) rfl rfl ?_
      refine V_iadd (pc := 117) dL_conditions_117 (by unfold I32 at *; omega) ?_
      refine V_i2c (pc := 118) dL_conditions_118 (by omega) ?_
      refine V_callV (pc := 119) dL_conditions_119 (F' := 5) (As := [vi (65 + ((i : Nat) : Int))]) (st := [vr (mN M)]) cw_RL_87 rfl rfl hm110.1.2.2.1 (by decide) (Nat.le_of_ble_eq_true rfl) (by omega) (w_chr (mN m73) ([] ++ []) m110 (mN m73) (65 + ((i : Nat) : Int))   hm110.1 (by omega) (by first | omega | (simp only [List.length_append, List.length_cons, List.length_nil] at *; omega)) ⟨by omega, (by first | omega | (simp only [List.length_append, List.length_cons, List.length_nil] at *; omega))⟩) ?_
      rintro _ m119 ⟨x119, rfl, hx119, hm119⟩ ok119 le119
      subst hx119
      have z119 := hm119.2.2
      (try simp only [List.length_append, List.length_cons, List.length_nil] at z119)
      have c119 := c110.kp hm119.2.1 (by omega) (by omega)
      have kk119 := kk110.tr (hm119.2.1.le (by omega))
      have kM119 := kM110.tr (hm119.2.1.le (by omega))
      refine V_ldcS (pc := 122) dL_conditions_122 (i := 10) rfl (by decide) (by decide +kernel) ?_
      refine V_okM fun ok_ => ?_
      refine V_callV (pc := 124) dL_conditions_124 (F' := 5) (As := [vr (kS 10)]) (st := [vr (mN M)]) cw_RL_81 rfl rfl hm119.1.2.2.1 (by decide) (Nat.le_of_ble_eq_true rfl) (by omega) (w_app (mN m73) 0 (([] ++ []) ++ [65 + (i : Int)]) ([61]) m119 (mN m73) (kS 10)   hm119.1 (litB_10 ▸ (StrO.lit (B := 0) (i := 10) ok_ (by decide))) (by omega) (by first | omega | (simp only [List.length_append, List.length_cons, List.length_nil] at *; omega)) ⟨by omega, (by first | omega | (simp only [List.length_append, List.length_cons, List.length_nil] at *; omega))⟩) ?_
      rintro _ m124 ⟨x124, rfl, hx124, hm124⟩ ok124 le124
      subst hx124
      have z124 := hm124.2.2
      (try simp only [List.length_append, List.length_cons, List.length_nil] at z124)
      have c124 := c119.kp hm124.2.1 (by omega) (by omega)
      have kk124 := kk119.tr (hm124.2.1.le (by omega))
      have kM124 := kM119.tr (hm124.2.1.le (by omega))
      refine V_ld (pc := 127) dL_conditions_127 (v := vr W) rfl rfl ?_
      refine V_ld (pc := 128) dL_conditions_128 (v := vi ((i : Nat) : Int)) rfl rfl ?_
      refine V_ialdv (pc := 130) dL_conditions_130 (v := y) c124.1 (by omega) (by rw [Int.toNat_natCast]; exact c124.2.1) (fun g130 => ?_)
      refine V_callS (pc := 131) dL_conditions_131 (F' := 0) (As := [vi y]) (st := [vr (mN m73), vr (mN M)]) cw_RL_92 rfl rfl (Nat.le_of_ble_eq_true rfl) (by omega) (w_told  m124 y   (by omega) (by omega)) ?_
      rintro _ m131 ⟨x131, rfl, hx131, hm131⟩ ok131 le131
      subst hx131
      have z131 := hm131.2
      (try simp only [List.length_append, List.length_cons, List.length_nil] at z131)
      have c131 := c124.kp hm131.1 (by omega) (by omega)
      have kk131 := kk124.tr (hm131.1.le (by omega))
      have kM131 := kM124.tr (hm131.1.le (by omega))
      have S131 := hm124.1.kp hm131.1 (Nat.le_refl _) (by omega)
      refine V_okM fun ok_ => ?_
      refine V_callV (pc := 134) dL_conditions_134 (F' := 5) (As := [vr (kS y.toNat)]) (st := [vr (mN M)]) cw_RL_81 rfl rfl S131.2.2.1 (by decide) (Nat.le_of_ble_eq_true rfl) (by omega) (w_app (mN m73) 0 ((([] ++ []) ++ [65 + (i : Int)]) ++ [61]) (cT y.toNat) m131 (mN m73) (kS y.toNat)   S131 (StrO.lit (B := 0) (i := y.toNat) ok_ (by omega)) (by omega) (by first | omega | (simp only [List.length_append, List.length_cons, List.length_nil] at *; omega)) ⟨by omega, (by first | omega | (simp only [List.length_append, List.length_cons, List.length_nil] at *; omega))⟩) ?_
      rintro _ m134 ⟨x134, rfl, hx134, hm134⟩ ok134 le134
      subst hx134
      have z134 := hm134.2.2
      (try simp only [List.length_append, List.length_cons, List.length_nil] at z134)
      have c134 := c131.kp hm134.2.1 (by omega) (by omega)
      have kk134 := kk131.tr (hm134.2.1.le (by omega))
      have kM134 := kM131.tr (hm134.2.1.le (by omega))
      refine V_callV (pc := 137) dL_conditions_137 (F' := 6) (As := []) (st := [vr (mN M)]) cw_RL_96 rfl rfl hm134.1.2.2.1 (by decide) (Nat.le_of_ble_eq_true rfl) (by omega) (w_str (mN m73) (((([] ++ []) ++ [65 + (i : Int)]) ++ [61]) ++ (cT y.toNat)) m134 (mN m73)   hm134.1 (by first | omega | (simp only [List.length_append, List.length_cons, List.length_nil] at *; omega)) ⟨by omega, (by first | omega | (simp only [List.length_append, List.length_cons, List.length_nil] at *; omega))⟩) ?_
      rintro _ m137 ⟨x137, rfl, hx137, hm137⟩ ok137 le137
      subst hx137
      have z137 := hm137.2.2
      (try simp only [List.length_append, List.length_cons, List.length_nil] at z137)
      have c137 := c134.kp hm137.2.1 (by omega) (by omega)
      have kk137 := kk134.tr (hm137.2.1.le (by omega))
      have kM137 := kM134.tr (hm137.2.1.le (by omega))
      have S140 := hm73.1.kp kk137 (Nat.le_refl _) (by omega)
      refine V_callV (pc := 140) dL_conditions_140 (F' := 5) (As := [vr (mN m134)]) (st := []) cw_RL_81 rfl rfl S140.2.2.1 (by decide) (Nat.le_of_ble_eq_true rfl) (by omega) (w_app (mN M) (mN m137) ([] ++ tl) (((([] ++ []) ++ [65 + (i : Int)]) ++ [61]) ++ (cT y.toNat)) m137 (mN M) (mN m134)   S140 hm137.1 (by omega) (by first | omega | (simp only [List.length_append, List.length_cons, List.length_nil] at *; omega)) ⟨by omega, (by first | omega | (simp only [List.length_append, List.length_cons, List.length_nil] at *; omega))⟩) ?_
      rintro _ m140 ⟨x140, rfl, hx140, hm140⟩ ok140 le140
      subst hx140
      have z140 := hm140.2.2
      (try simp only [List.length_append, List.length_cons, List.length_nil] at z140)
      have c140 := c137.kp hm140.2.1 (by omega) (by omega)
      have kM140 := kM137.tr (hm140.2.1.le (by omega))
      refine V_callV (pc := 143) dL_conditions_143 (F' := 6) (As := []) (st := []) cw_RL_96 rfl rfl hm140.1.2.2.1 (by decide) (Nat.le_of_ble_eq_true rfl) (by omega) (w_str (mN M) (([] ++ tl) ++ (((([] ++ []) ++ [65 + (i : Int)]) ++ [61]) ++ (cT y.toNat))) m140 (mN M)   hm140.1 (by first | omega | (simp only [List.length_append, List.length_cons, List.length_nil] at *; omega)) ⟨by omega, (by first | omega | (simp only [List.length_append, List.length_cons, List.length_nil] at *; omega))⟩) ?_
      rintro _ m143 ⟨x143, rfl, hx143, hm143⟩ ok143 le143
      subst hx143
      have z143 := hm143.2.2
      (try simp only [List.length_append, List.length_cons, List.length_nil] at z143)
      have c143 := c140.kp hm143.2.1 (by omega) (by omega)
      have kM143 := kM140.tr (hm143.2.1.le (by omega))
      refine V_st (pc := 146) dL_conditions_146 (ls' := [(4, vr (mN m140)), (5, vi ((i : Nat) : Int)), (3, vr W), (0, vr 0), (1, vr SC), (2, vi at_)]) rfl (Nat.le_of_ble_eq_true rfl) rfl ?_
      refine V_ls (ls' := [(5, vi ((i : Nat) : Int)), (4, vr (mN m140)), (3, vr W), (0, vr 0), (1, vr SC), (2, vi at_)]) (by intro q_ h_; simp only [List.mem_cons, List.not_mem_nil, or_false] at h_ ⊢; rcases h_ with rfl | rfl | rfl | rfl | rfl | rfl <;> simp) ?_
      have e_ : (([] ++ tl) ++ (((([] ++ []) ++ [65 + (i : Int)]) ++ [61]) ++ (cT y.toNat))) = tl ++ cAdd tl i y := by
        unfold cAdd
        first
        | (rw [if_pos (by omega)]; simp; done)
        | (rw [if_neg (by omega), if_pos (List.eq_nil_of_length_eq_zero (by omega))]; simp; done)
        | (rw [if_neg (by omega), if_neg (fun z_ => by rw [z_] at h100; exact h100 rfl)]; simp; done)
      exact kx _ _ kM143 (by omega) (by omega) (e_ ▸ hm143.1)
  · skip
    refine V_ldcS (pc := 83) dL_conditions_83 (i := 8) rfl (by decide) (by decide +kernel) ?_
    refine V_goto (pc := 85) dL_conditions_85 (tgt := 140) rfl ?_
    refine V_okM fun ok_ => ?_
    refine V_callV (pc := 140) dL_conditions_140 (F' := 5) (As := [vr (kS 8)]) (st := []) cw_RL_81 rfl rfl hm73.1.2.2.1 (by decide) (Nat.le_of_ble_eq_true rfl) (by omega) (w_app (mN M) 0 ([] ++ tl) ([]) m73 (mN M) (kS 8)   hm73.1 (litB_8 ▸ (StrO.lit (B := 0) (i := 8) ok_ (by decide))) (by omega) (by first | omega | (simp only [List.length_append, List.length_cons, List.length_nil] at *; omega)) ⟨by omega, (by first | omega | (simp only [List.length_append, List.length_cons, List.length_nil] at *; omega))⟩) ?_
    rintro _ m140 ⟨x140, rfl, hx140, hm140⟩ ok140 le140
    subst hx140
    have z140 := hm140.2.2
    (try simp only [List.length_append, List.length_cons, List.length_nil] at z140)
    have c140 := c73.kp hm140.2.1 (by omega) (by omega)
    have kM140 := kM73.tr (hm140.2.1.le (by omega))
    refine V_callV (pc := 143) dL_conditions_143 (F' := 6) (As := []) (st := []) cw_RL_96 rfl rfl hm140.1.2.2.1 (by decide) (Nat.le_of_ble_eq_true rfl) (by omega) (w_str (mN M) (([] ++ tl) ++ []) m140 (mN M)   hm140.1 (by first | omega | (simp only [List.length_append, List.length_cons, List.length_nil] at *; omega)) ⟨by omega, (by first | omega | (simp only [List.length_append, List.length_cons, List.length_nil] at *; omega))⟩) ?_
    rintro _ m143 ⟨x143, rfl, hx143, hm143⟩ ok143 le143
    subst hx143
    have z143 := hm143.2.2
    (try simp only [List.length_append, List.length_cons, List.length_nil] at z143)
    have c143 := c140.kp hm143.2.1 (by omega) (by omega)
    have kM143 := kM140.tr (hm143.2.1.le (by omega))
    refine V_st (pc := 146) dL_conditions_146 (ls' := [(4, vr (mN m140)), (5, vi ((i : Nat) : Int)), (3, vr W), (0, vr 0), (1, vr SC), (2, vi at_)]) rfl (Nat.le_of_ble_eq_true rfl) rfl ?_
    refine V_ls (ls' := [(5, vi ((i : Nat) : Int)), (4, vr (mN m140)), (3, vr W), (0, vr 0), (1, vr SC), (2, vi at_)]) (by intro q_ h_; simp only [List.mem_cons, List.not_mem_nil, or_false] at h_ ⊢; rcases h_ with rfl | rfl | rfl | rfl | rfl | rfl <;> simp) ?_
    have e_ : (([] ++ tl) ++ []) = tl ++ cAdd tl i y := by
      unfold cAdd
      first
      | (rw [if_pos (by omega)]; simp; done)
      | (rw [if_neg (by omega), if_pos (List.eq_nil_of_length_eq_zero (by omega))]; simp; done)
      | (rw [if_neg (by omega), if_neg (fun z_ => by rw [z_] at h100; exact h100 rfl)]; simp; done)
    exact kx _ _ kM143 (by omega) (by omega) (e_ ▸ hm143.1)

