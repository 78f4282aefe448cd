/-! THE LAW'S pattern() -/
/-- all below b is as it was -/
def Lw (b : Nat) (m m' : Mem) : Prop := ∀ o, o < b → mT m' o = mT m o ∧ (∀ k, mI m' o k = mI m o k) ∧ ∀ k, mR m' o k = mR m o k
theorem Lw.rf {b : Nat} {m : Mem} : Lw b m m := fun _ _ => ⟨rfl, fun _ => rfl, fun _ => rfl⟩
theorem Lw.tr {b : Nat} {m m1 m2 : Mem} (h : Lw b m m1) (h2 : Lw b m1 m2) : Lw b m m2 := fun o ho => ⟨(h2 o ho).1.trans (h o ho).1, fun k => ((h2 o ho).2.1 k).trans ((h o ho).2.1 k), fun k => ((h2 o ho).2.2 k).trans ((h o ho).2.2 k)⟩
theorem Lw.le {b c : Nat} {m m' : Mem} (h : Lw b m m') (hc : c ≤ b) : Lw c m m' := fun o ho => h o (by omega)
theorem Kp.lw {b c : Nat} {m m' : Mem} (h : Kp b m m') (hc : c ≤ b) : Lw c m m' := fun o ho => h o (Or.inl (by omega))
theorem Kq.lw {tt qc b : Nat} {m m' : Mem} (h : Kq tt qc m m') (h1 : b ≤ tt) (h2 : b ≤ qc) (h3 : b ≤ mN m) : Lw b m m' := fun o ho => h.2 o (by omega) (by omega) (by omega)
theorem Lw.nw {b c n : Nat} {m m' : Mem} (h : Lw b m m') (hb : b ≤ mN m') : Lw b m (newO m' c n) := fun o ho => ⟨(if_neg (by omega)).trans (h o ho).1, fun k => (if_neg (by omega)).trans ((h o ho).2.1 k), fun k => (if_neg (by omega)).trans ((h o ho).2.2 k)⟩
theorem Lw.sI {b q k : Nat} {v : Int} {m m' : Mem} (h : Lw b m m') (hq : b ≤ q) : Lw b m (setI m' q k v) := fun o ho => ⟨(h o ho).1, fun k' => (if_neg (fun e => by have := e.1; omega)).trans ((h o ho).2.1 k'), (h o ho).2.2⟩
theorem Lw.sR {b q k : Nat} {v : Option Nat} {m m' : Mem} (h : Lw b m m') (hq : b ≤ q) : Lw b m (setR m' q k v) := fun o ho => ⟨(h o ho).1, (h o ho).2.1, fun k' => (if_neg (fun e => by have := e.1; omega)).trans ((h o ho).2.2 k')⟩
theorem Lay.lw {m m' : Mem} {b : Nat} (h : Lay (mT m) (mR m)) (hk : Lw b m m') (hb : 30 ≤ b) : Lay (mT m') (mR m') := by
  have k1 : ∀ p ∈ layT, p.1 < 30 := by decide +kernel
  have k2 : ∀ p ∈ layR, p.1.1 < 30 := by decide +kernel
  exact ⟨fun p hp => (hk p.1 (by have := k1 p hp; omega)).1.trans (h.1 p hp), fun p hp => ((hk p.1.1 (by have := k2 p hp; omega)).2.2 p.1.2).trans (h.2 p hp)⟩
theorem V_abs {μ : MI} {F : Nat} {m0 X : Mem} {post : Option AV → Mem → Prop} {pc : Nat} {ls : AL} {st : List AV} (P : Mem → Prop) (h : P X) (next : ∀ m', P m' → _root_.Jvm.Pilot.@@N@@.V μ F m0 post pc ls st m') : _root_.Jvm.Pilot.@@N@@.V μ F m0 post pc ls st X := next X h
theorem mT_sI {m : Mem} {o k q : Nat} {v : Int} : mT (setI m o k v) q = mT m q := rfl
theorem mT_sR {m : Mem} {o k q : Nat} {v : Option Nat} : mT (setR m o k v) q = mT m q := rfl
theorem mN_sR {m : Mem} {o k : Nat} {v : Option Nat} : mN (setR m o k v) = mN m := rfl
theorem mZ_sR {m : Mem} {o k : Nat} {v : Option Nat} : mZ (setR m o k v) = mZ m := rfl
theorem mN_nO {m : Mem} {c n : Nat} : mN (newO m c n) = mN m + 1 := rfl
theorem mZ_nO {m : Mem} {c n : Nat} : mZ (newO m c n) = mZ m + n := rfl
/-- the pattern's table in the class -/
def PtH (m : Mem) (b P Q L : Nat) (F : Tb) (c : Nat) : Prop := (mR m 1 2 = some P ∧ mT m P = (4, 2) ∧ mR m P 0 = some Q ∧ mT m Q = (20, L)) ∧ (b ≤ P ∧ b ≤ Q ∧ P < mN m ∧ Q < mN m) ∧ (mI m P 1 = (c : Int) ∧ c * 9 ≤ L ∧ L ≤ 2160 ∧ CTab (mI m) Q F c ∧ WfT F 0 c) ∧ 1 ≤ c ∧ F (c - 1) 9 ≤ 6 ∧ F (c - 1) 10 ≤ 23
/-- what pattern() leaves -/
def PtR (m m' : Mem) : Prop := (mN m ≤ mN m' ∧ mN m' ≤ mN m + 30000 ∧ mZ m' ≤ mZ m + 600000) ∧ (∀ o, o < mN m → mT m' o = mT m o) ∧ (∀ o k, o < mN m → ¬ (o = 13 ∧ k = 1) → o ≠ 14 → ¬ (o = 5 ∧ k = 3) → mI m' o k = mI m o k) ∧ (∀ o k, o < mN m → ¬ (o = 1 ∧ k = 2) → mR m' o k = mR m o k) ∧ (mI m' 13 1 = 0 ∧ mI m' 5 3 = 0) ∧ ∃ P Q L F c, PtH m' (mN m) P Q L F c
theorem PtR.mk {m M m' : Mem} {l : List Int} {x : Int} {c0 : Nat} {I : Nat → Nat → Int} (hL : Lw (mN m) m M) (h1 : mN m ≤ mN M ∧ mN M ≤ mN m + 29000) (h2 : mZ M ≤ mZ m + 590000) (hF : FdI M I l.length l) (hP : PatC2 (wI M I) 5 l.length (fun j => l.getD j 0) x m') (hW : PatW (txL l) l.length) (hc : (altL (txL l) l.length 5 S0).2.2.2.1 = c0) (hn : l.length < 60) (h59 : 59 ≤ mN m) : PtR m m' ∧ x = (c0 : Int) := by
  obtain ⟨⟨p1, p2, p3, p4, p5, p6, p7⟩, p8⟩ := hP
  have p1 : mN m' = mN M + 3 := p1
  have p2 : mZ m' = mZ M + 6 + 18 * l.length := p2
  have p3 : ∀ o, o < mN M → mT m' o = mT M o := p3
  have p5 : ∀ o k, o < mN M → ¬ (o = 13 ∧ k = 1) → ¬ (o = 5 ∧ k = 3) → mI m' o k = I o k := p5
  have p6 : ∀ o k, o < mN M → ¬ (o = 1 ∧ k = 2) → mR m' o k = mR M o k := p6
  have hW' : PatW (fun j => l.getD j 0) l.length := hW
  have p8 : mR m' (mN M + 1) 0 = some (mN M + 2) := p8 hW'
  rcases p7 with ⟨p7, -⟩ | ⟨-, p9, p10, p11, p12⟩
  · exact absurd hW' p7
  · have p10 : mR m' 1 2 = some (mN M + 1) := p10
    obtain ⟨A, L, q1, q2, q3, q4, q5, q6, q7, q8, q9, q10, q11, q12⟩ := p12
    have q1 : mT m' (mN M + 1) = (4, 2) := q1
    have q2 : mR m' (mN M + 1) 0 = some A := q2
    have q7 : mN M + 1 < mN m' := q7
    have q9 : mI m' (mN M + 1) 1 = _ := q9
    have eA : A = mN M + 2 := Option.some.inj (q2.symm.trans p8)
    obtain ⟨w1, w2, w3, w4, w5, w6, w7, w8⟩ := pat_wf hW _ _ _ rfl rfl rfl
    refine ⟨⟨⟨by omega, by omega, by omega⟩, fun o ho => (p3 o (by omega)).trans (hL o ho).1, fun o k ho a1 a2 a3 => (p5 o k (by omega) a1 a3).trans ((hF.2.2 o k a1 a2).trans ((hL o ho).2.1 k)), fun o k ho a1 => (p6 o k (by omega) a1).trans ((hL o ho).2.2 k), ⟨p4, p11⟩, mN M + 1, A, L, (altL (txL l) l.length 5 S0).2.2.2.2, (altL (txL l) l.length 5 S0).2.2.2.1, ⟨p10, q1, q2, q3⟩, ⟨by omega, by omega, q7, q8⟩, ⟨q9, by rw [Nat.mul_comm]; exact q10, q11, q12, w3⟩, w1, w7, w8⟩, ?_⟩
    rw [p9, ← hc]
    rfl

theorem w_pat (tx : Nat → Int) (n : Nat) (m : Mem)    (hL : Lay (mT m) (mR m)) (h13 : mR m 1 3 = some 5) (ht : mI m 13 1 = (n : Int) ∧ n ≤ 120) (htx : ∀ k, k < n → mI m 14 k = tx k ∧ 1 ≤ tx k ∧ tx k ≤ 127) (hr : 59 ≤ mN m ∧ mN m + 3 ≤ NN ∧ mZ m + 6 + 18 * n ≤ ZZ) : Ct μX10_pattern 34 [vr 0] m (ri fun x_ m' => (True) ∧ PatC2 m 5 n tx x_ m') := c_pattern2 tx n m 5 hL h13 hL.t5 (Or.inl rfl) ht htx hr
theorem patA_W : PatW (txL [65]) ([65] : List Int).length ∧ (altL (txL [65]) ([65] : List Int).length 5 S0).2.2.2.1 = 1 := by unfold PatW; decide +kernel
set_option maxHeartbeats 4000000 in
theorem L_patA {F : Nat} {m m0 M : Mem} {at_ : Int} {PP : Option Nat → Mem → Prop} (hL : Lay (mT m) (mR m)) (h13 : mR m 1 3 = some 5) (ha : 0 ≤ at_ ∧ at_ ≤ 100) (h59 : 59 ≤ mN m) (hz : mI m 13 1 = 0 ∧ mI m 5 3 = 0) (hr : mN m + 30000 ≤ NN ∧ mZ m + 600000 ≤ ZZ) (hF : 34 < F) (hk_ : Lw (mN m) m M) (hN : mN m ≤ mN M ∧ mN M ≤ mN m + 24300) (hZ : mZ M ≤ mZ m + 546300) (kx : ∀ (m' : Mem) (t : Nat), PtR m m' → mT m' t = (25, 70) → PP (some t) m') : _root_.Jvm.Pilot.@@N@@.V μL_pattern F m0 (rq PP) 117 [(3, vi 9), (0, vr 0), (1, vr SC), (2, vi at_)] [] M := by
  have hWA := patA_W
  have hlA : ∀ x ∈ ([65] : List Int), 1 ≤ x ∧ x ≤ 127 := by decide
  have hl1 : ([65] : List Int).length = 1 := rfl
  refine V_bipush (pc := 117) dL_pattern_117 (by unfold I32; omega) (by decide) ?_
  refine V_newAv (pc := 119) (N := 70) (mN M) rfl rfl dL_pattern_119 (by omega) (by omega) (by omega) (by omega) cl_RL_15 ?_
  refine V_st (pc := 122) dL_pattern_122 (ls' := [(3, vr (mN M)), (0, vr 0), (1, vr SC), (2, vi at_)]) rfl (Nat.le_of_ble_eq_true rfl) rfl ?_
  refine V_ld (pc := 123) dL_pattern_123 (v := vr (mN M)) rfl rfl ?_
  refine V_iconst (pc := 124) dL_pattern_124 (by unfold I32; omega) ?_
  refine V_bipush (pc := 125) dL_pattern_125 (by unfold I32; omega) (by decide) ?_
  refine V_newIv (pc := 127) (N := 10) (mN M + 1) rfl rfl dL_pattern_127 (by omega) (by show mZ M + 70 + 10 ≤ ZZ; omega) (by omega) (by omega) wa_int ?_
  refine V_mem (m' := newO (newO M 25 70) 20 10) rfl ?_
  refine V_abs (fun m' => Lw (mN M) M m' ∧ mT m' (mN M) = (25, 70) ∧ mT m' (mN M + 1) = (20, 10) ∧ mN m' = mN M + 2 ∧ mZ m' = mZ M + 80) ⟨((Lw.rf.nw (by show mN M ≤ mN M + 0; omega)).nw (by show mN M ≤ mN M + 1; omega)), ((mT_newN (m := newO M 25 70) (by first | omega | (simp only [mN_sI, mN_sR, mN_nO]; omega))).trans ((congrArg (mT (newO M 25 70)) (show (mN M) = mN M by first | rfl | (simp only [mN_sI, mN_sR, mN_nO]; done))).trans (if_pos rfl))), ((congrArg (mT (newO (newO M 25 70) 20 10)) (show (mN M + 1) = mN (newO M 25 70) by first | rfl | (simp only [mN_sI, mN_sR, mN_nO]; done))).trans (if_pos rfl)), (by simp only [mN_sI, mN_sR, mN_nO]), (by simp only [mZ_sI, mZ_sR, mZ_nO, Nat.add_assoc])⟩ ?_
  rintro ma ⟨kma, tma_0, tma_1, nma, zma⟩
  refine V_dup (pc := 129) dL_pattern_129 rfl ?_
  refine V_iconst (pc := 130) dL_pattern_130 (by unfold I32; omega) ?_
  refine V_iconst (pc := 131) dL_pattern_131 (by unfold I32; omega) ?_
  refine V_iast (pc := 132) dL_pattern_132 tma_1 (by omega) ?_
  refine V_mem (m' := setI ma (mN M + 1) 0 0) rfl ?_
  refine V_abs (fun m' => Lw (mN M) ma m' ∧ mT m' (mN M) = (25, 70) ∧ mT m' (mN M + 1) = (20, 10) ∧ mN m' = mN ma + 0 ∧ mZ m' = mZ ma + 0) ⟨(Lw.rf.sI (by omega)), (mT_sI.trans tma_0), (mT_sI.trans tma_1), rfl, rfl⟩ ?_
  rintro mb0 ⟨kmb0, tmb0_0, tmb0_1, nmb0, zmb0⟩
  have kLmb0 := kma.tr kmb0
  refine V_dup (pc := 133) dL_pattern_133 rfl ?_
  refine V_iconst (pc := 134) dL_pattern_134 (by unfold I32; omega) ?_
  refine V_iconst (pc := 135) dL_pattern_135 (by unfold I32; omega) ?_
  refine V_iast (pc := 136) dL_pattern_136 tmb0_1 (by omega) ?_
  refine V_mem (m' := setI mb0 (mN M + 1) 1 0) rfl ?_
  refine V_abs (fun m' => Lw (mN M) mb0 m' ∧ mT m' (mN M) = (25, 70) ∧ mT m' (mN M + 1) = (20, 10) ∧ mN m' = mN mb0 + 0 ∧ mZ m' = mZ mb0 + 0) ⟨(Lw.rf.sI (by omega)), (mT_sI.trans tmb0_0), (mT_sI.trans tmb0_1), rfl, rfl⟩ ?_
  rintro mb1 ⟨kmb1, tmb1_0, tmb1_1, nmb1, zmb1⟩
  have kLmb1 := kLmb0.tr kmb1
  refine V_dup (pc := 137) dL_pattern_137 rfl ?_
  refine V_iconst (pc := 138) dL_pattern_138 (by unfold I32; omega) ?_
  refine V_bipush (pc := 139) dL_pattern_139 (by unfold I32; omega) (by decide) ?_
  refine V_iast (pc := 141) dL_pattern_141 tmb1_1 (by omega) ?_
  refine V_mem (m' := setI mb1 (mN M + 1) 2 (-5)) rfl ?_
  refine V_abs (fun m' => Lw (mN M) mb1 m' ∧ mT m' (mN M) = (25, 70) ∧ mT m' (mN M + 1) = (20, 10) ∧ mN m' = mN mb1 + 0 ∧ mZ m' = mZ mb1 + 0) ⟨(Lw.rf.sI (by omega)), (mT_sI.trans tmb1_0), (mT_sI.trans tmb1_1), rfl, rfl⟩ ?_
  rintro mb2 ⟨kmb2, tmb2_0, tmb2_1, nmb2, zmb2⟩
  have kLmb2 := kLmb1.tr kmb2
  refine V_dup (pc := 142) dL_pattern_142 rfl ?_
  refine V_iconst (pc := 143) dL_pattern_143 (by unfold I32; omega) ?_
  refine V_bipush (pc := 144) dL_pattern_144 (by unfold I32; omega) (by decide) ?_
  refine V_iast (pc := 146) dL_pattern_146 tmb2_1 (by omega) ?_
  refine V_mem (m' := setI mb2 (mN M + 1) 3 (-5)) rfl ?_
  refine V_abs (fun m' => Lw (mN M) mb2 m' ∧ mT m' (mN M) = (25, 70) ∧ mT m' (mN M + 1) = (20, 10) ∧ mN m' = mN mb2 + 0 ∧ mZ m' = mZ mb2 + 0) ⟨(Lw.rf.sI (by omega)), (mT_sI.trans tmb2_0), (mT_sI.trans tmb2_1), rfl, rfl⟩ ?_
  rintro mb3 ⟨kmb3, tmb3_0, tmb3_1, nmb3, zmb3⟩
  have kLmb3 := kLmb2.tr kmb3
  refine V_dup (pc := 147) dL_pattern_147 rfl ?_
  refine V_iconst (pc := 148) dL_pattern_148 (by unfold I32; omega) ?_
  refine V_bipush (pc := 149) dL_pattern_149 (by unfold I32; omega) (by decide) ?_
  refine V_iast (pc := 151) dL_pattern_151 tmb3_1 (by omega) ?_
  refine V_mem (m' := setI mb3 (mN M + 1) 4 (-5)) rfl ?_
  refine V_abs (fun m' => Lw (mN M) mb3 m' ∧ mT m' (mN M) = (25, 70) ∧ mT m' (mN M + 1) = (20, 10) ∧ mN m' = mN mb3 + 0 ∧ mZ m' = mZ mb3 + 0) ⟨(Lw.rf.sI (by omega)), (mT_sI.trans tmb3_0), (mT_sI.trans tmb3_1), rfl, rfl⟩ ?_
  rintro mb4 ⟨kmb4, tmb4_0, tmb4_1, nmb4, zmb4⟩
  have kLmb4 := kLmb3.tr kmb4
  refine V_dup (pc := 152) dL_pattern_152 rfl ?_
  refine V_iconst (pc := 153) dL_pattern_153 (by unfold I32; omega) ?_
  refine V_iconst (pc := 154) dL_pattern_154 (by unfold I32; omega) ?_
  refine V_iast (pc := 155) dL_pattern_155 tmb4_1 (by omega) ?_
  refine V_mem (m' := setI mb4 (mN M + 1) 5 0) rfl ?_
  refine V_abs (fun m' => Lw (mN M) mb4 m' ∧ mT m' (mN M) = (25, 70) ∧ mT m' (mN M + 1) = (20, 10) ∧ mN m' = mN mb4 + 0 ∧ mZ m' = mZ mb4 + 0) ⟨(Lw.rf.sI (by omega)), (mT_sI.trans tmb4_0), (mT_sI.trans tmb4_1), rfl, rfl⟩ ?_
  rintro mb5 ⟨kmb5, tmb5_0, tmb5_1, nmb5, zmb5⟩
  have kLmb5 := kLmb4.tr kmb5
  refine V_dup (pc := 156) dL_pattern_156 rfl ?_
  refine V_bipush (pc := 157) dL_pattern_157 (by unfold I32; omega) (by decide) ?_
  refine V_iconst (pc := 159) dL_pattern_159 (by unfold I32; omega) ?_
  refine V_iast (pc := 160) dL_pattern_160 tmb5_1 (by omega) ?_
  refine V_mem (m' := setI mb5 (mN M + 1) 6 (-1)) rfl ?_
  refine V_abs (fun m' => Lw (mN M) mb5 m' ∧ mT m' (mN M) = (25, 70) ∧ mT m' (mN M + 1) = (20, 10) ∧ mN m' = mN mb5 + 0 ∧ mZ m' = mZ mb5 + 0) ⟨(Lw.rf.sI (by omega)), (mT_sI.trans tmb5_0), (mT_sI.trans tmb5_1), rfl, rfl⟩ ?_
  rintro mb6 ⟨kmb6, tmb6_0, tmb6_1, nmb6, zmb6⟩
  have kLmb6 := kLmb5.tr kmb6
  refine V_dup (pc := 161) dL_pattern_161 rfl ?_
  refine V_bipush (pc := 162) dL_pattern_162 (by unfold I32; omega) (by decide) ?_
  refine V_iconst (pc := 164) dL_pattern_164 (by unfold I32; omega) ?_
  refine V_iast (pc := 165) dL_pattern_165 tmb6_1 (by omega) ?_
  refine V_mem (m' := setI mb6 (mN M + 1) 7 (-1)) rfl ?_
  refine V_abs (fun m' => Lw (mN M) mb6 m' ∧ mT m' (mN M) = (25, 70) ∧ mT m' (mN M + 1) = (20, 10) ∧ mN m' = mN mb6 + 0 ∧ mZ m' = mZ mb6 + 0) ⟨(Lw.rf.sI (by omega)), (mT_sI.trans tmb6_0), (mT_sI.trans tmb6_1), rfl, rfl⟩ ?_
  rintro mb7 ⟨kmb7, tmb7_0, tmb7_1, nmb7, zmb7⟩
  have kLmb7 := kLmb6.tr kmb7
  refine V_dup (pc := 166) dL_pattern_166 rfl ?_
  refine V_bipush (pc := 167) dL_pattern_167 (by unfold I32; omega) (by decide) ?_
  refine V_iconst (pc := 169) dL_pattern_169 (by unfold I32; omega) ?_
  refine V_iast (pc := 170) dL_pattern_170 tmb7_1 (by omega) ?_
  refine V_mem (m' := setI mb7 (mN M + 1) 8 (-1)) rfl ?_
  refine V_abs (fun m' => Lw (mN M) mb7 m' ∧ mT m' (mN M) = (25, 70) ∧ mT m' (mN M + 1) = (20, 10) ∧ mN m' = mN mb7 + 0 ∧ mZ m' = mZ mb7 + 0) ⟨(Lw.rf.sI (by omega)), (mT_sI.trans tmb7_0), (mT_sI.trans tmb7_1), rfl, rfl⟩ ?_
  rintro mb8 ⟨kmb8, tmb8_0, tmb8_1, nmb8, zmb8⟩
  have kLmb8 := kLmb7.tr kmb8
  refine V_dup (pc := 171) dL_pattern_171 rfl ?_
  refine V_bipush (pc := 172) dL_pattern_172 (by unfold I32; omega) (by decide) ?_
  refine V_iconst (pc := 174) dL_pattern_174 (by unfold I32; omega) ?_
  refine V_iast (pc := 175) dL_pattern_175 tmb8_1 (by omega) ?_
  refine V_mem (m' := setI mb8 (mN M + 1) 9 (-1)) rfl ?_
  refine V_abs (fun m' => Lw (mN M) mb8 m' ∧ mT m' (mN M) = (25, 70) ∧ mT m' (mN M + 1) = (20, 10) ∧ mN m' = mN mb8 + 0 ∧ mZ m' = mZ mb8 + 0) ⟨(Lw.rf.sI (by omega)), (mT_sI.trans tmb8_0), (mT_sI.trans tmb8_1), rfl, rfl⟩ ?_
  rintro mb9 ⟨kmb9, tmb9_0, tmb9_1, nmb9, zmb9⟩
  have kLmb9 := kLmb8.tr kmb9
  refine V_aastA (pc := 176) dL_pattern_176 tmb9_0 (by omega) tmb9_1 ?_
  refine V_ld (pc := 177) dL_pattern_177 (v := vr (mN M)) rfl rfl ?_
  refine V_bipush (pc := 178) dL_pattern_178 (by unfold I32; omega) (by decide) ?_
  refine V_iconst (pc := 180) dL_pattern_180 (by unfold I32; omega) ?_
  refine V_newIv (pc := 181) (N := 1) (mN mb9) rfl rfl dL_pattern_181 (by omega) (by show mZ mb9 + 1 ≤ ZZ; omega) (by omega) (by omega) wa_int ?_
  refine V_dup (pc := 183) dL_pattern_183 rfl ?_
  refine V_iconst (pc := 184) dL_pattern_184 (by unfold I32; omega) ?_
  refine V_iconst (pc := 185) dL_pattern_185 (by unfold I32; omega) ?_
  refine V_iast (pc := 186) dL_pattern_186 (mT_news (M := (setR mb9 (mN M) 0 (some (mN M + 1)))) rfl) (by omega) ?_
  refine V_aastA (pc := 187) dL_pattern_187 (mT_sI.trans ((mT_newne (M := (setR mb9 (mN M) 0 (some (mN M + 1)))) (c := 20) (n := 1) (o := (mN M)) (mN mb9) rfl (by omega)).trans (mT_sR.trans tmb9_0))) (by omega) (mT_sI.trans (mT_news (M := (setR mb9 (mN M) 0 (some (mN M + 1)))) rfl)) ?_
  refine V_mem (m' := setR (setI (newO (setR mb9 (mN M) 0 (some (mN M + 1))) 20 1) (mN mb9) 0 1) (mN M) 69 (some (mN mb9))) rfl ?_
  refine V_abs (fun m' => Lw (mN M) mb9 m' ∧ mT m' (mN M) = (25, 70) ∧ mN m' = mN mb9 + 1 ∧ mZ m' = mZ mb9 + 1) ⟨((((Lw.rf.sR (by omega)).nw (by show mN M ≤ mN mb9 + 0; omega)).sI (by omega)).sR (by omega)), (mT_sR.trans (mT_sI.trans ((mT_newN (m := setR mb9 (mN M) 0 (some (mN M + 1))) (by first | omega | (simp only [mN_sI, mN_sR, mN_nO]; omega))).trans (mT_sR.trans tmb9_0)))), (by simp only [mN_sI, mN_sR, mN_nO]), (by simp only [mZ_sI, mZ_sR, mZ_nO, Nat.add_assoc])⟩ ?_
  rintro m8 ⟨km8, tm8_0, nm8, zm8⟩
  have k8 : Lw (mN M) M m8 := kLmb9.tr km8
  have j8 := hk_.tr (k8.le (by omega))
  have hLm : Lay (mT m8) (mR m8) := hL.lw j8 (by omega)
  have e13_ : mI m8 13 1 = 0 := ((j8 13 (by omega)).2.1 1).trans hz.1
  have eR_ : mR m8 1 3 = some 5 := ((j8 1 (by omega)).2.2 3).trans h13
  refine V_ld (pc := 188) dL_pattern_188 (v := vr 0) rfl rfl ?_
  refine V_ldcS (pc := 189) dL_pattern_189 (i := 23) rfl (by decide) (by decide +kernel) ?_
  refine V_okM fun ok_ => ?_
  refine V_callS (pc := 191) dL_pattern_191 (F' := 4) (As := [vr 0, vr (kS 23)]) (st := []) cw_RL_100 rfl rfl (Nat.le_of_ble_eq_true rfl) (by omega) (w_feed 0 ([65] : List Int) m8 (kS 23)   hLm (litB_23 ▸ StrO.lit (B := 0) (i := 23) ok_ (by decide)) ⟨by decide, hlA⟩ e13_) ?_
  rintro _ _ ⟨x191, rfl, hx191, ⟨I, hw_, hF_⟩⟩ ok191 le191
  subst hw_
  refine V_if_eq (pc := 194) dL_pattern_194 (tgt := 209) rfl (fun h194 => ?_) (fun h194 => ?_)
  · skip
    exfalso; omega
  · skip
    refine V_ld (pc := 197) dL_pattern_197 (v := vr 0) rfl rfl ?_
    refine V_callV (pc := 198) dL_pattern_198 (F' := 34) (As := []) (st := []) cw_RL_141 rfl rfl hLm.t0 (by decide) (Nat.le_of_ble_eq_true rfl) (by omega) (w_pat (fun j => ([65] : List Int).getD j 0) (([65] : List Int).length) (wI m8 I)    hLm eR_ ⟨hF_.1, by omega⟩ (fun k hk => ⟨hF_.tx hk, getD_all hlA hk⟩) ⟨show 59 ≤ mN m8 by omega, show mN m8 + 3 ≤ NN by omega, show mZ m8 + 6 + 18 * _ ≤ ZZ by omega⟩) ?_
    rintro _ m9 ⟨x198, rfl, -, hP_⟩ ok198 le198
    have hp_ := PtR.mk j8 ⟨by omega, by omega⟩ (by omega) hF_ hP_ hWA.1 hWA.2 (by decide) h59
    have hx_ := hp_.2
    refine V_iconst (pc := 201) dL_pattern_201 (by unfold I32; omega) ?_
    refine V_icmp_ne (pc := 202) dL_pattern_202 (tgt := 209) rfl (fun h202 => ?_) (fun h202 => ?_)
    · skip
      exfalso; omega
    · skip
      refine V_ld (pc := 205) dL_pattern_205 (v := vr (mN M)) rfl rfl ?_
      refine V_goto (pc := 206) dL_pattern_206 (tgt := 213) rfl ?_
      refine V_retq (pc := 213) dL_pattern_213 trivial ?_
      exact kx _ _ hp_.1 ((hP_.1.2.2.1 _ (show _ < mN m8 by omega)).trans tm8_0)

set_option maxHeartbeats 8000000 in
theorem L_patL {F : Nat} {m m0 : Mem} {at_ : Int} {PP : Option Nat → Mem → Prop} (hL : Lay (mT m) (mR m)) (h13 : mR m 1 3 = some 5) (ha : 0 ≤ at_ ∧ at_ ≤ 100) (h59 : 59 ≤ mN m) (hz : mI m 13 1 = 0 ∧ mI m 5 3 = 0) (hr : mN m + 30000 ≤ NN ∧ mZ m + 600000 ≤ ZZ) (hF : 34 < F) (kx : ∀ (m' : Mem) (t : Nat), PtR m m' → mT m' t = (25, 70) → PP (some t) m') : ∀ (dd k : Nat) (M : Mem), dd + k = 9 → Lw (mN m) m M → mN m ≤ mN M ∧ mN M ≤ mN m + k * 2700 → mZ M ≤ mZ m + k * 60700 → _root_.Jvm.Pilot.@@N@@.V μL_pattern F m0 (rq PP) 2 [(3, vi ((k : Nat) : Int)), (0, vr 0), (1, vr SC), (2, vi at_)] [] M := by
  intro dd
  induction dd with
  | zero =>
    intro k M hi hk_ hN hZ
    obtain rfl : k = 9 := by omega
    refine V_ld (pc := 2) dL_pattern_2 (v := vi ((9 : Nat) : Int)) rfl rfl ?_
    refine V_bipush (pc := 3) dL_pattern_3 (by unfold I32; omega) (by decide) ?_
    refine V_icmp_ge (pc := 5) dL_pattern_5 (tgt := 117) rfl (fun h5 => ?_) (fun h5 => ?_)
    · skip
      exact L_patA hL h13 ha h59 hz hr hF hk_ ⟨by omega, by omega⟩ (by omega) kx
    · skip
      exfalso; omega
  | succ dd ih =>
    intro k M hi hk_ hN hZ
    have s3 : szF 3 = 40 := rfl
    have e3 : sN 3 = 2650 := rfl
    have y3 : sZ 3 = 60180 := rfl
    have t3 : tL 3 = 261 := rfl
    refine V_ld (pc := 2) dL_pattern_2 (v := vi ((k : Nat) : Int)) rfl rfl ?_
    refine V_bipush (pc := 3) dL_pattern_3 (by unfold I32; omega) (by decide) ?_
    refine V_icmp_ge (pc := 5) dL_pattern_5 (tgt := 117) rfl (fun h5 => ?_) (fun h5 => ?_)
    · skip
      exfalso; omega
    · skip
      refine V_bipush (pc := 8) dL_pattern_8 (by unfold I32; omega) (by decide) ?_
      refine V_newAv (pc := 10) (N := 70) (mN M) rfl rfl dL_pattern_10 (by omega) (by omega) (by omega) (by omega) cl_RL_15 ?_
      refine V_st (pc := 13) dL_pattern_13 (ls' := [(4, vr (mN M)), (3, vi ((k : Nat) : Int)), (0, vr 0), (1, vr SC), (2, vi at_)]) rfl (Nat.le_of_ble_eq_true rfl) rfl ?_
      refine V_ld (pc := 15) dL_pattern_15 (v := vr (mN M)) rfl rfl ?_
      refine V_bipush (pc := 17) dL_pattern_17 (by unfold I32; omega) (by decide) ?_
      refine V_iconst (pc := 19) dL_pattern_19 (by unfold I32; omega) ?_
      refine V_newIv (pc := 20) (N := 1) (mN M + 1) rfl rfl dL_pattern_20 (by omega) (by show mZ M + 70 + 1 ≤ ZZ; omega) (by omega) (by omega) wa_int ?_
      refine V_aastA (pc := 22) dL_pattern_22 ((mT_newne (M := (newO M 25 70)) (c := 20) (n := 1) (o := (mN M)) (mN M + 1) rfl (by omega)).trans (mT_news (M := M) rfl)) (by omega) (mT_news (M := (newO M 25 70)) rfl) ?_
      refine V_mem (m' := setR (newO (newO M 25 70) 20 1) (mN M) 69 (some (mN M + 1))) rfl ?_
      have k1 : Lw (mN M) M (setR (newO (newO M 25 70) 20 1) (mN M) 69 (some (mN M + 1))) := (((Lw.rf.nw (by show mN M ≤ mN M + 0; omega)).nw (by show mN M ≤ mN M + 1; omega)).sR (by omega))
      have n1 : mN (setR (newO (newO M 25 70) 20 1) (mN M) 69 (some (mN M + 1))) = mN M + 2 := rfl
      have z1 : mZ (setR (newO (newO M 25 70) 20 1) (mN M) 69 (some (mN M + 1))) = mZ M + 71 := rfl
      have hT1 : TbM (setR (newO (newO M 25 70) 20 1) (mN M) 69 (some (mN M + 1))) (mN M) (mN M + 1) 0 (fun _ _ => 0) := ⟨⟨((mT_newne (M := (newO M 25 70)) (c := 20) (n := 1) (o := (mN M)) (mN M + 1) rfl (by omega)).trans (mT_news (M := M) rfl)), mR_sets, (mT_news (M := (newO M 25 70)) rfl), (show mI (newO (newO M 25 70) 20 1) (mN M + 1) 0 = ((0 : Nat) : Int) from if_pos rfl)⟩, ⟨by show mN M < mN M + 2; omega, by show mN M + 1 < mN M + 2; omega⟩, fun p hp => absurd hp (Nat.not_lt_zero _)⟩
      generalize setR (newO (newO M 25 70) 20 1) (mN M) 69 (some (mN M + 1)) = m1 at k1 n1 z1 hT1 ⊢
      refine V_ld (pc := 23) dL_pattern_23 (v := vr SC) rfl rfl ?_
      refine V_ld (pc := 24) dL_pattern_24 (v := vi at_) rfl rfl ?_
      refine V_sipush (pc := 25) dL_pattern_25 (by unfold I32; omega) (by decide) ?_
      refine V_ld (pc := 28) dL_pattern_28 (v := vi ((k : Nat) : Int)) rfl rfl ?_
      refine V_imul (pc := 29) dL_pattern_29 (by unfold I32 at *; omega) ?_
      refine V_iadd (pc := 30) dL_pattern_30 (by unfold I32 at *; omega) ?_
      refine V_ld (pc := 31) dL_pattern_31 (v := vr (mN M)) rfl rfl ?_
      refine V_iconst (pc := 33) dL_pattern_33 (by unfold I32; omega) ?_
      refine V_callS (pc := 34) dL_pattern_34 (F' := (3 + 2)) (As := [vr SC, vi (at_ + (977 * ((k : Nat) : Int))), vr (mN M), vi 0]) (st := []) cw_RL_106 rfl rfl (Nat.le_of_ble_eq_true rfl) (by omega) (w_make 3 (mN M + 1) 0 (fun _ _ => 0) m1 (at_ + (977 * ((k : Nat) : Int))) (mN M) 0   hT1 (by omega) (by omega) (by decide) ⟨by omega, by omega⟩) ?_
      rintro _ m2 ⟨x34, rfl, -, ⟨V2, p, hx2, -, lp, hT2, -, hTO, kq2, n2, z2, -⟩⟩ ok34 le34
      have k2 : Lw (mN M) M m2 := k1.tr (kq2.lw (Nat.le_refl _) (by omega) (by omega))
      have T2 := hT2.1.1
      have R2 := hT2.1.2.1
      have Q2 := hT2.1.2.2.1
      have I2 := hT2.1.2.2.2
      have sh2 := sp_sh 3 0 p hTO
      have sl2 := sh2.1
      have wh2 := made_whole hTO (by decide)
      refine V_pop (pc := 37) dL_pattern_37 rfl ?_
      refine V_ld (pc := 38) dL_pattern_38 (v := vr (mN M)) rfl rfl ?_
      refine V_ld (pc := 40) dL_pattern_40 (v := vr (mN M)) rfl rfl ?_
      refine V_bipush (pc := 42) dL_pattern_42 (by unfold I32; omega) (by decide) ?_
      refine V_aaldQ (pc := 44) dL_pattern_44 (q := some (mN M + 1)) T2 (by decide) (by omega) R2 ?_
      refine V_iconst (pc := 45) dL_pattern_45 (by unfold I32; omega) ?_
      refine V_ialdv (pc := 46) dL_pattern_46 (v := ((p + 1 : Nat) : Int)) Q2 (by omega) I2 (fun g46 => ?_)
      refine V_iconst (pc := 47) dL_pattern_47 (by unfold I32; omega) ?_
      refine V_isub (pc := 48) dL_pattern_48 (by unfold I32 at *; omega) ?_
      rw [show ((p + 1 : Nat) : Int) - 1 = ((p : Nat) : Int) by omega]
      refine V_callS (pc := 49) dL_pattern_49 (F' := (3 + 7)) (As := [vr (mN M), vi ((p : Nat) : Int)]) (st := []) cw_RL_122 rfl rfl (Nat.le_of_ble_eq_true rfl) (by omega) (w_spelled3 (mN M + 1) (p + 1) 0 p V2 m2 (mN M)   hT2 ⟨Nat.lt_succ_self _, by omega⟩ hTO ⟨by omega, by omega⟩) ?_
      rintro _ m3 ⟨x49, rfl, -, ⟨T, hx3, hS3, k3, n3, n3b, z3⟩⟩ ok49 le49
      subst hx3
      have j3 : Lw (mN m) m m3 := hk_.tr ((k2.tr (k3.lw (by omega))).le (by omega))
      have hLm : Lay (mT m3) (mR m3) := hL.lw j3 (by omega)
      have e13_ : mI m3 13 1 = 0 := ((j3 13 (by omega)).2.1 1).trans hz.1
      have eR_ : mR m3 1 3 = some 5 := ((j3 1 (by omega)).2.2 3).trans h13
      have T3 := (k3 (mN M) (Or.inl (by omega))).1.trans T2
      have R3 := ((k3 (mN M) (Or.inl (by omega))).2.2 69).trans R2
      have Q3 := (k3 (mN M + 1) (Or.inl (by omega))).1.trans Q2
      have I3 := ((k3 (mN M + 1) (Or.inl (by omega))).2.1 0).trans I2
      refine V_st (pc := 52) dL_pattern_52 (ls' := [(5, vr T), (4, vr (mN M)), (3, vi ((k : Nat) : Int)), (0, vr 0), (1, vr SC), (2, vi at_)]) rfl (Nat.le_of_ble_eq_true rfl) rfl ?_
      refine V_ld (pc := 54) dL_pattern_54 (v := vr T) rfl rfl ?_
      refine V_callVS (pc := 56) dL_pattern_56 (F' := 1) (As := []) (st := []) cw_RL_27 rfl rfl hS3.2.1 (Nat.le_of_ble_eq_true rfl) (by omega) (w_len (mN m3) (spT V2 3 p) m3 T   hS3 (by omega)) ?_
      rintro _ _ ⟨x56, rfl, hx56, rfl⟩ ok56 le56
      subst hx56
      refine V_bipush (pc := 59) dL_pattern_59 (by unfold I32; omega) (by decide) ?_
      refine V_icmp_ge (pc := 61) dL_pattern_61 (tgt := 111) rfl (fun h61 => ?_) (fun h61 => ?_)
      · skip
        refine V_iinc (pc := 111) dL_pattern_111 (x := ((k : Nat) : Int)) (ls' := [(3, vi (((k : Nat) : Int) + 1)), (5, vr T), (4, vr (mN M)), (0, vr 0), (1, vr SC), (2, vi at_)]) rfl (by unfold I32 at *; omega) (Nat.le_of_ble_eq_true rfl) rfl ?_
        refine V_goto (pc := 114) dL_pattern_114 (tgt := 2) rfl ?_
        refine V_ls (ls' := [(3, vi (((k : Nat) : Int) + 1)), (0, vr 0), (1, vr SC), (2, vi at_)]) (by intro q_ h_; simp only [List.mem_cons, List.not_mem_nil, or_false] at h_ ⊢; rcases h_ with rfl | rfl | rfl | rfl <;> simp) ?_
        have h_ := ih (k + 1) _ (by omega) (hk_.tr ((k2.tr (k3.lw (by omega))).le (by omega))) ⟨by omega, by omega⟩ (by omega)
        rw [show ((k + 1 : Nat) : Int) = (k : Int) + 1 by omega] at h_
        exact h_
      · skip
        refine V_ld (pc := 64) dL_pattern_64 (v := vr T) rfl rfl ?_
        refine V_callVS (pc := 66) dL_pattern_66 (F' := 1) (As := []) (st := []) cw_RL_27 rfl rfl hS3.2.1 (Nat.le_of_ble_eq_true rfl) (by omega) (w_len (mN m3) (spT V2 3 p) m3 T   hS3 (by omega)) ?_
        rintro _ _ ⟨x66, rfl, hx66, rfl⟩ ok66 le66
        subst hx66
        refine V_iconst (pc := 69) dL_pattern_69 (by unfold I32; omega) ?_
        refine V_icmp_gt (pc := 70) dL_pattern_70 (tgt := 78) rfl (fun h70 => ?_) (fun h70 => ?_)
        · skip
          refine V_ld (pc := 78) dL_pattern_78 (v := vr 0) rfl rfl ?_
          refine V_ld (pc := 79) dL_pattern_79 (v := vr T) rfl rfl ?_
          refine V_callS (pc := 81) dL_pattern_81 (F' := 4) (As := [vr 0, vr T]) (st := []) cw_RL_100 rfl rfl (Nat.le_of_ble_eq_true rfl) (by omega) (w_feed (mN m3) (spT V2 3 p) m3 T   hLm hS3 ⟨by omega, sh2.2⟩ e13_) ?_
          rintro _ _ ⟨x81, rfl, hx81, ⟨I, hw_, hF_⟩⟩ ok81 le81
          subst hw_
          refine V_if_eq (pc := 84) dL_pattern_84 (tgt := 106) rfl (fun h84 => ?_) (fun h84 => ?_)
          · skip
            exfalso; omega
          · skip
            refine V_ld (pc := 87) dL_pattern_87 (v := vr 0) rfl rfl ?_
            refine V_callV (pc := 88) dL_pattern_88 (F' := 34) (As := []) (st := []) cw_RL_141 rfl rfl hLm.t0 (by decide) (Nat.le_of_ble_eq_true rfl) (by omega) (w_pat (fun j => (spT V2 3 p).getD j 0) ((spT V2 3 p).length) (wI m3 I)    hLm eR_ ⟨hF_.1, by omega⟩ (fun k hk => ⟨hF_.tx hk, getD_all sh2.2 hk⟩) ⟨show 59 ≤ mN m3 by omega, show mN m3 + 3 ≤ NN by omega, show mZ m3 + 6 + 18 * _ ≤ ZZ by omega⟩) ?_
            rintro _ m9 ⟨x88, rfl, -, hP_⟩ ok88 le88
            have hp_ := PtR.mk j3 ⟨by omega, by omega⟩ (by omega) hF_ hP_ wh2.1 wh2.2 (by omega) h59
            have hx_ := hp_.2
            have hN9 : mN m3 ≤ mN m9 := by have := hP_.1.1; have : mN m9 = mN m3 + 3 := this; omega
            have T9 : mT m9 (mN M) = (25, 70) := (hP_.1.2.2.1 _ (show mN M < mN m3 by omega)).trans T3
            have R9 : mR m9 (mN M) 69 = some (mN M + 1) := (hP_.1.2.2.2.2.2.1 (mN M) 69 (show mN M < mN m3 by omega) (by omega)).trans R3
            have Q9 : mT m9 (mN M + 1) = (20, 1) := (hP_.1.2.2.1 _ (show mN M + 1 < mN m3 by omega)).trans Q3
            have I9 : mI m9 (mN M + 1) 0 = ((p + 1 : Nat) : Int) := (hP_.1.2.2.2.2.1 (mN M + 1) 0 (show mN M + 1 < mN m3 by omega) (by omega) (by omega)).trans ((hF_.2.2 _ _ (by omega) (by omega)).trans I3)
            refine V_ld (pc := 91) dL_pattern_91 (v := vr (mN M)) rfl rfl ?_
            refine V_bipush (pc := 93) dL_pattern_93 (by unfold I32; omega) (by decide) ?_
            refine V_aaldQ (pc := 95) dL_pattern_95 (q := some (mN M + 1)) T9 (by decide) (by omega) R9 ?_
            refine V_iconst (pc := 96) dL_pattern_96 (by unfold I32; omega) ?_
            refine V_ialdv (pc := 97) dL_pattern_97 (v := ((p + 1 : Nat) : Int)) Q9 (by omega) I9 (fun g97 => ?_)
            refine V_icmp_ne (pc := 98) dL_pattern_98 (tgt := 106) rfl (fun h98 => ?_) (fun h98 => ?_)
            · skip
              exfalso; omega
            · skip
              refine V_ld (pc := 101) dL_pattern_101 (v := vr (mN M)) rfl rfl ?_
              refine V_goto (pc := 103) dL_pattern_103 (tgt := 110) rfl ?_
              refine V_retq (pc := 110) dL_pattern_110 trivial ?_
              exact kx _ _ hp_.1 T9
        · skip
          refine V_ld (pc := 73) dL_pattern_73 (v := vi ((k : Nat) : Int)) rfl rfl ?_
          refine V_iconst (pc := 74) dL_pattern_74 (by unfold I32; omega) ?_
          refine V_icmp_le (pc := 75) dL_pattern_75 (tgt := 111) rfl (fun h75 => ?_) (fun h75 => ?_)
          · skip
            refine V_iinc (pc := 111) dL_pattern_111 (x := ((k : Nat) : Int)) (ls' := [(3, vi (((k : Nat) : Int) + 1)), (5, vr T), (4, vr (mN M)), (0, vr 0), (1, vr SC), (2, vi at_)]) rfl (by unfold I32 at *; omega) (Nat.le_of_ble_eq_true rfl) rfl ?_
            refine V_goto (pc := 114) dL_pattern_114 (tgt := 2) rfl ?_
            refine V_ls (ls' := [(3, vi (((k : Nat) : Int) + 1)), (0, vr 0), (1, vr SC), (2, vi at_)]) (by intro q_ h_; simp only [List.mem_cons, List.not_mem_nil, or_false] at h_ ⊢; rcases h_ with rfl | rfl | rfl | rfl <;> simp) ?_
            have h_ := ih (k + 1) _ (by omega) (hk_.tr ((k2.tr (k3.lw (by omega))).le (by omega))) ⟨by omega, by omega⟩ (by omega)
            rw [show ((k + 1 : Nat) : Int) = (k : Int) + 1 by omega] at h_
            exact h_
          · skip
            refine V_ld (pc := 78) dL_pattern_78 (v := vr 0) rfl rfl ?_
            refine V_ld (pc := 79) dL_pattern_79 (v := vr T) rfl rfl ?_
            refine V_callS (pc := 81) dL_pattern_81 (F' := 4) (As := [vr 0, vr T]) (st := []) cw_RL_100 rfl rfl (Nat.le_of_ble_eq_true rfl) (by omega) (w_feed (mN m3) (spT V2 3 p) m3 T   hLm hS3 ⟨by omega, sh2.2⟩ e13_) ?_
            rintro _ _ ⟨x81, rfl, hx81, ⟨I, hw_, hF_⟩⟩ ok81 le81
            subst hw_
            refine V_if_eq (pc := 84) dL_pattern_84 (tgt := 106) rfl (fun h84 => ?_) (fun h84 => ?_)
            · skip
              exfalso; omega
            · skip
              refine V_ld (pc := 87) dL_pattern_87 (v := vr 0) rfl rfl ?_
              refine V_callV (pc := 88) dL_pattern_88 (F' := 34) (As := []) (st := []) cw_RL_141 rfl rfl hLm.t0 (by decide) (Nat.le_of_ble_eq_true rfl) (by omega) (w_pat (fun j => (spT V2 3 p).getD j 0) ((spT V2 3 p).length) (wI m3 I)    hLm eR_ ⟨hF_.1, by omega⟩ (fun k hk => ⟨hF_.tx hk, getD_all sh2.2 hk⟩) ⟨show 59 ≤ mN m3 by omega, show mN m3 + 3 ≤ NN by omega, show mZ m3 + 6 + 18 * _ ≤ ZZ by omega⟩) ?_
              rintro _ m9 ⟨x88, rfl, -, hP_⟩ ok88 le88
              have hp_ := PtR.mk j3 ⟨by omega, by omega⟩ (by omega) hF_ hP_ wh2.1 wh2.2 (by omega) h59
              have hx_ := hp_.2
              have hN9 : mN m3 ≤ mN m9 := by have := hP_.1.1; have : mN m9 = mN m3 + 3 := this; omega
              have T9 : mT m9 (mN M) = (25, 70) := (hP_.1.2.2.1 _ (show mN M < mN m3 by omega)).trans T3
              have R9 : mR m9 (mN M) 69 = some (mN M + 1) := (hP_.1.2.2.2.2.2.1 (mN M) 69 (show mN M < mN m3 by omega) (by omega)).trans R3
              have Q9 : mT m9 (mN M + 1) = (20, 1) := (hP_.1.2.2.1 _ (show mN M + 1 < mN m3 by omega)).trans Q3
              have I9 : mI m9 (mN M + 1) 0 = ((p + 1 : Nat) : Int) := (hP_.1.2.2.2.2.1 (mN M + 1) 0 (show mN M + 1 < mN m3 by omega) (by omega) (by omega)).trans ((hF_.2.2 _ _ (by omega) (by omega)).trans I3)
              refine V_ld (pc := 91) dL_pattern_91 (v := vr (mN M)) rfl rfl ?_
              refine V_bipush (pc := 93) dL_pattern_93 (by unfold I32; omega) (by decide) ?_
              refine V_aaldQ (pc := 95) dL_pattern_95 (q := some (mN M + 1)) T9 (by decide) (by omega) R9 ?_
              refine V_iconst (pc := 96) dL_pattern_96 (by unfold I32; omega) ?_
              refine V_ialdv (pc := 97) dL_pattern_97 (v := ((p + 1 : Nat) : Int)) Q9 (by omega) I9 (fun g97 => ?_)
              refine V_icmp_ne (pc := 98) dL_pattern_98 (tgt := 106) rfl (fun h98 => ?_) (fun h98 => ?_)
              · skip
                exfalso; omega
              · skip
                refine V_ld (pc := 101) dL_pattern_101 (v := vr (mN M)) rfl rfl ?_
                refine V_goto (pc := 103) dL_pattern_103 (tgt := 110) rfl ?_
                refine V_retq (pc := 110) dL_pattern_110 trivial ?_
                exact kx _ _ hp_.1 T9

theorem w_pattern (m : Mem) (at_ : Int) (hL : Lay (mT m) (mR m)) (h13 : mR m 1 3 = some 5) (ha : 0 ≤ at_ ∧ at_ ≤ 100) (h59 : 59 ≤ mN m) (hz : mI m 13 1 = 0 ∧ mI m 5 3 = 0) (hr : mN m + 30000 ≤ NN ∧ mZ m + 600000 ≤ ZZ) : Ct μL_pattern 35 [vr 0, vr SC, vi at_] m (rq fun x_ m' => True ∧ ∃ t, x_ = some t ∧ mT m' t = (25, 70) ∧ PtR m m') := by
  refine Ct_of_V rfl (by decide) rfl (Nat.le_of_ble_eq_true rfl) ?_
  show _root_.Jvm.Pilot.@@N@@.V μL_pattern 35 m _ 0 [(0, vr 0), (1, vr SC), (2, vi at_)] [] m
  refine V_iconst (pc := 0) dL_pattern_0 (by unfold I32; omega) ?_
  refine V_st (pc := 1) dL_pattern_1 (ls' := [(3, vi 0), (0, vr 0), (1, vr SC), (2, vi at_)]) rfl (Nat.le_of_ble_eq_true rfl) rfl ?_
  skip
  exact L_patL (F := 35) hL h13 ha h59 hz hr (by omega) (fun m' t h1 h2 => ⟨trivial, t, rfl, h2, h1⟩) 9 0 m (by omega) Lw.rf ⟨by omega, by omega⟩ (by omega)
