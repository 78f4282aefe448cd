/-! MATCHES in the law's memory -/
def MtB (b : Mem) (M : Nat) (n : Int) (Ms : ML) : Prop := (M = 5 ∨ M = 18) ∧ mR b 1 3 = some M ∧ MaC (mI b) M (M + 1) (M + 2) (M + 3) Ms ∧ (Ms.length ≤ 33 ∧ 0 ≤ n ∧ n ≤ 32) ∧ ∀ q ∈ Ms, (0 ≤ q.1 ∧ q.1 ≤ q.2.1 ∧ q.2.1 ≤ n) ∧ ∀ k : Nat, q.1 ≤ (k : Int) → (k : Int) < q.2.1 → 0 ≤ q.2.2 k ∧ q.2.2 k ≤ 25
def lbV (Ms : ML) (j r : Nat) : Int := match Ms[j]? with
  | some q => if q.1 ≤ (r : Int) ∧ (r : Int) < q.2.1 then q.2.2 r else -5
  | none => -5
theorem lbV_s {Ms : ML} {j r : Nat} {s e : Int} {le : Nat → Int} (h : Ms[j]? = some (s, e, le)) : lbV Ms j r = if s ≤ (r : Int) ∧ (r : Int) < e then le r else -5 := by
  unfold lbV
  rw [h]
theorem covF_cong {f g : Nat → Int} : ∀ n : Nat, (∀ i, i < n → f i = g i) → covF f n = covF g n
  | 0, _ => rfl
  | n + 1, h => by
    show (if 0 ≤ f n then covF f n + 1 else covF f n) = if 0 ≤ g n then covF g n + 1 else covF g n
    rw [h n (Nat.lt_succ_self n), covF_cong n (fun i hi => h i (by omega))]
theorem cn0_cong {f g : Nat → Int} : ∀ n : Nat, (∀ i, i < n → f i = g i) → cn0 f n = cn0 g n
  | 0, _ => rfl
  | n + 1, h => by
    show (if f n = 0 then cn0 f n + 1 else cn0 f n) = if g n = 0 then cn0 g n + 1 else cn0 g n
    rw [h n (Nat.lt_succ_self n), cn0_cong n (fun i hi => h i (by omega))]
section MTB
variable {b m : Mem} {P Q L s M j : Nat} {x : CX} {Ms : ML} {n : Int}
theorem MtB.at (h : MtB m M n Ms) {j : Nat} (hj : j < Ms.length) : ∃ s e le, Ms[j]? = some (s, e, le) ∧ mI m (M + 1) j = s ∧ mI m (M + 2) j = e ∧ (0 ≤ s ∧ s ≤ e ∧ e ≤ n) ∧ (∀ k : Nat, s ≤ (k : Int) → (k : Int) < e → 0 ≤ le k ∧ le k ≤ 25) ∧ ∀ r : Nat, r < 32 → mI m (M + 3) (32 * j + r) = if s ≤ (r : Int) ∧ (r : Int) < e then le r else -5 := by
  have e := List.getElem?_eq_getElem hj
  obtain ⟨h1, h2, h3, h4, h5⟩ := h
  have hq := h5 _ (List.getElem_mem hj)
  generalize Ms[j] = q at e hq
  obtain ⟨a, c, le⟩ := q
  obtain ⟨g1, g2, g3⟩ := h3.2 j a c le e
  exact ⟨a, c, le, e, g1, g2, hq.1, hq.2, g3⟩
theorem MtB.lab (h : MtB m M n Ms) {j r : Nat} (hj : j < Ms.length) (hr : r < 32) : mI m (M + 3) (32 * j + r) = lbV Ms j r ∧ (lbV Ms j r = -5 ∨ (0 ≤ lbV Ms j r ∧ lbV Ms j r ≤ 25)) := by
  obtain ⟨a, c, le, e, g1, g2, g3, g4, g5⟩ := h.at hj
  rw [lbV_s e]
  refine ⟨g5 r hr, ?_⟩
  by_cases d : a ≤ (r : Int) ∧ (r : Int) < c
  · rw [if_pos d]; exact Or.inr (g4 r d.1 d.2)
  · rw [if_neg d]; exact Or.inl rfl
theorem MtB.mv (hB : LawB b P Q L x) (hm : LawM b m s) (h : MtB b M n Ms) : MtB m M n Ms := by
  obtain ⟨h1, h2, h3, h4⟩ := h
  refine ⟨h1, (hm.ref (by have := hB.1.1.2.1; omega) (by decide)).trans h2, ?_, h4⟩
  exact h3.fr fun o k a c => hm.low hB (by omega) (by omega) k
theorem l_match {w s0 e0 : Int} {le : Nat → Int} (hB : LawB b P Q L x) (hm : LawM b m s) (hs : s ≤ 100) (hM : MtB b M n Ms) (hj : Ms[j]? = some (s0, e0, le)) (hw : w = 0 ∨ w = 1) : Ct μX10_match 4 [vr 0, vi ((j : Nat) : Int), vi w] m (ri fun y m' => y = (if w = 0 then s0 else e0 - s0) ∧ m = m') := by
  have hL := (hm.sb hB hs).1.1
  have hM := hM.mv hB hm
  obtain ⟨t1, t2, t3, t4, t5, t6, t7⟩ := hL.mat hM.1
  have hjl : j < Ms.length := (List.getElem?_eq_some_iff.mp hj).1
  have hc := hM.2.2.1.1
  have h33 := hM.2.2.2.1
  obtain ⟨a, c, le', e, g1, g2, g3, g4, g5⟩ := hM.at hjl
  rw [hj] at e; cases e
  refine Ct_mono (c_match2 m ((j : Nat) : Int) w M (M + 1) (M + 2) (M + 3) hL hM.2.1 t1 t2 t3 t4 t5 t6 t7 (fun i _ hi => ?_) (by omega) (fun k hk hk2 => ?_)) fun r m' hp => ?_
  · obtain ⟨a, c, le', e, g1, g2, g3, g4, g5⟩ := hM.at (j := i) (by omega)
    omega
  · have hl := (hM.lab (j := k / 32) (r := k % 32) (by omega) (by omega))
    rw [show 32 * (k / 32) + k % 32 = k by omega] at hl
    rw [hl.1]; exact hl.2
  · obtain ⟨y, hy, h1, h2⟩ := hp
    refine ⟨y, hy, ?_, h2⟩
    rw [if_pos ⟨by omega, by omega⟩] at h1
    rw [h1]
    rcases hw with rfl | rfl
    · rw [if_pos rfl, if_pos rfl, Int.toNat_natCast]; exact g1
    · rw [if_neg (by decide), if_pos rfl, if_neg (by decide), Int.toNat_natCast, g1, g2]
theorem l_label {r : Int} (hB : LawB b P Q L x) (hm : LawM b m s) (hs : s ≤ 100) (hM : MtB b M x.2.2.1 Ms) (hj : j < Ms.length) (hr : 0 ≤ r ∧ r < x.2.2.1) : Ct μX10_label 4 [vr 0, vi ((j : Nat) : Int), vi r] m (ri fun y m' => y = lbV Ms j r.toNat ∧ m = m') := by
  have hS := hm.sb hB hs
  have hL := hS.1.1
  have hM := hM.mv hB hm
  obtain ⟨t1, t2, t3, t4, t5, t6, t7⟩ := hL.mat hM.1
  have hc := hM.2.2.1.1
  have h33 := hM.2.2.2.1
  have hn := hS.2.2.2.1
  refine Ct_mono (c_label m ((j : Nat) : Int) r M (M + 1) (M + 2) (M + 3) hL hM.2.1 t1 t2 t3 t4 t5 t6 t7 (by omega) (by omega)) fun q m' hp => ?_
  obtain ⟨y, hy, h1, h2⟩ := hp
  refine ⟨y, hy, ?_, h2⟩
  rw [if_pos ⟨by omega, by omega⟩] at h1
  have hl := hM.lab (j := j) (r := r.toNat) hj (by omega)
  rw [show 32 * j + r.toNat = (((j : Nat) : Int) * 32 + r).toNat by omega] at hl
  exact h1.trans hl.1
theorem l_covered {r : Int} (hB : LawB b P Q L x) (hm : LawM b m s) (hs : s ≤ 100) (hM : MtB b M x.2.2.1 Ms) (hr : 0 ≤ r ∧ r < x.2.2.1) : Ct μX10_covered 4 [vr 0, vi r] m (ri fun y m' => y = covF (fun j => lbV Ms j r.toNat) Ms.length ∧ m = m') := by
  have hS := hm.sb hB hs
  have hL := hS.1.1
  have hM := hM.mv hB hm
  obtain ⟨t1, t2, t3, t4, t5, t6, t7⟩ := hL.mat hM.1
  have hc := hM.2.2.1.1
  have h33 := hM.2.2.2.1
  have hn := hS.2.2.2.1
  refine Ct_mono (c_covered m r M (M + 1) (M + 2) (M + 3) hL hM.2.1 t1 t2 t3 t4 t5 t6 t7 (by omega) (by omega)) fun q m' hp => ?_
  obtain ⟨y, hy, h1, h2⟩ := hp
  refine ⟨y, hy, ?_, h2⟩
  rw [if_pos (by omega), hc, Int.toNat_natCast] at h1
  refine h1.trans (covF_cong _ fun i hi => ?_)
  have hl := hM.lab (j := i) (r := r.toNat) hi (by omega)
  rw [show 32 * i + r.toNat = (((i : Nat) : Int) * 32 + r).toNat by omega] at hl
  exact hl.1
theorem l_told {k : Int} (hB : LawB b P Q L x) (hm : LawM b m s) (hs : s ≤ 100) (hM : MtB b M x.2.2.1 Ms) (hk : k = 2 ∨ k = 8) : Ct μX10_told 4 [vr 0, vi k] m (ri fun y m' => y = (if k = 2 then (Ms.length : Int) else cn0 (fun i => covF (fun j => lbV Ms j i) Ms.length) x.2.2.1.toNat) ∧ m = m') := by
  have hS := hm.sb hB hs
  have hL := hS.1.1
  have hM := hM.mv hB hm
  obtain ⟨t1, t2, t3, t4, t5, t6, t7⟩ := hL.mat hM.1
  have hc := hM.2.2.1.1
  have h33 := hM.2.2.2.1
  have hn := hS.2.2.2.1
  obtain ⟨p1, p2, p3, p4, p5, p6, p7, p8, p9, p10⟩ := hS.2.1
  obtain ⟨c1, c2, c3, c4, c5⟩ := hS.2.2.1
  have hP : HasP m P x.1 x.2.1 := ⟨Q, L, p2, p3, p4, p5, p6, fun e => (by rw [e, p4] at p2; cases p2), p7, p8, c1, by omega, c3, c4⟩
  refine Ct_mono (c_toldS P x.1 x.2.1 m k M (M + 1) (M + 2) (M + 3) hL hM.2.1 t1 t2 t3 t4 t5 t6 t7 (by omega) (by omega) ⟨p1, hP⟩) fun q m' hp => ?_
  obtain ⟨y, hy, h1, h2⟩ := hp
  refine ⟨y, hy, ?_, h2⟩
  unfold toldV at h1
  rw [if_pos (by omega)] at h1
  rcases hk with rfl | rfl
  · rw [if_pos rfl]; exact h1.trans hc
  · rw [if_neg (by decide)]
    refine h1.trans ?_
    show cn0 (fun i_ : Nat => covF (fun j_ : Nat => mI m (M + 3) ((j_ : Int) * 32 + (i_ : Int)).toNat) (mI m M 3).toNat) (mI m 2 1).toNat = _
    rw [hn.1, hc, Int.toNat_natCast]
    refine cn0_cong _ fun i hi => covF_cong _ fun j hj => ?_
    have hl := hM.lab (j := j) (r := i) hj (by omega)
    rw [show 32 * j + i = (((j : Nat) : Int) * 32 + (i : Int)).toNat by omega] at hl
    exact hl.1
/-- run(): matches are sought -/
theorem l_run {mo by_ em : Int} {M2 : Nat} (hB : LawB b P Q L x) (hm : LawM b m s) (hs : s ≤ 100) (hrm : mN b + 151000 ≤ NN + lnA b + lnB b ∧ mZ b + 320000 ≤ ZZ + 2 * lnA b + 2 * lnB b) (hmd : mI b 1 4 = mo ∧ mI b 1 5 = by_ ∧ mI b 1 6 = em ∧ 0 ≤ mo ∧ mo ≤ 3) (hmr : mR b 0 5 = some M2 ∧ (M2 = 5 ∨ M2 = 18) ∧ M ≠ M2) (hM : MtB b M x.2.2.1 []) :
    Ct μX10_run 9 [vr 0] m (ri fun y m' => (y = -7 ∧ LawB m' P Q L x ∧ MtB m' M x.2.2.1 []) ∨ ∃ J Ms, y = (Ms.length : Int) ∧ LawB m' P Q L x ∧ MtB m' M2 x.2.2.1 Ms ∧ ChN x mo by_ em 0 Ms ∧ (mI m' 1 4 = mo ∧ mI m' 1 5 = by_ ∧ mI m' 1 6 = em) ∧ mR m' 0 5 = some M ∧ (rnX x mo by_ em 33 0 [] J).1 = 0 ∧ (rnX x mo by_ em 33 0 [] J).2.1 = Ms) := by
  have hS := hm.sb hB hs
  have h59 := hB.1.1.2.1
  have hMm := hM.mv hB hm
  have e14 := hm.low hB (o := 1) (by decide) (by decide) 4
  have e15 := hm.low hB (o := 1) (by decide) (by decide) 5
  have e16 := hm.low hB (o := 1) (by decide) (by decide) 6
  have e05 : mR m 0 5 = some M2 := (hm.ref (by omega) (by decide)).trans hmr.1
  have hMsc : M ≠ SC := by have := hM.1; unfold SC; omega
  refine Ct_mono (z_run P Q L x.1 x.2.1 x.2.2.1 800 x.2.2.2.1 x.2.2.2.2 (fun _ => 0, mI m 10, fun _ _ => 0, fun _ _ => 0) mo by_ em M M2 m hS hB.2.1.2.1 (fun k _ => rfl) ⟨e14.trans hmd.1, e15.trans hmd.2.1, e16.trans hmd.2.2.1, hmd.2.2.2⟩ ⟨hMm.2.1, e05, hmr.2.1, hMsc⟩) fun r m' hp => ?_
  obtain ⟨y, hy, -, m1, hz, hl, hc⟩ := hp
  have hno := fun (o : Nat) (h : o < 59 ∧ o ≠ 11 ∧ o ≠ 12) => hS.no2 h
  obtain ⟨⟨A, B, LA, LB, hA, hBB, hAB, r1, r2⟩, q1, q2, q3, q4, q5⟩ := hz
  obtain ⟨hf, A', B', LA', LB', hA', hB', hAB', s1, s2⟩ := hm
  have eA : lnA m = LA' := by
    show (mT m ((mR m 9 2).getD 0)).2 = LA'
    rw [hA'.1]
    show (mT m A').2 = LA'
    rw [hA'.2.1]
  have eB : lnB m = LB' := by
    show (mT m ((mR m 9 4).getD 0)).2 = LB'
    rw [hB'.1]
    show (mT m B').2 = LB'
    rw [hB'.2.1]
  rw [eA, eB] at r1 r2
  have hS1 : SB m1 P Q L x.1 x.2.1 x.2.2.1 800 x.2.2.2.1 x.2.2.2.2 := SB.of hS q1 q3 q4 (fun o k a1 a2 a3 a4 a5 a6 a7 => q5 o k a1 a2 a3 a4 a5 (by omega)) hA hBB hAB (by omega) (by omega)
  have eA1 : lnA m1 = LA := by
    show (mT m1 ((mR m1 9 2).getD 0)).2 = LA
    rw [hA.1]
    show (mT m1 A).2 = LA
    rw [hA.2.1]
  have eB1 : lnB m1 = LB := by
    show (mT m1 ((mR m1 9 4).getD 0)).2 = LB
    rw [hBB.1]
    show (mT m1 B).2 = LB
    rw [hBB.2.1]
  have h59m := hS.1.2.1
  have low : ∀ o k, o < 59 → o ≠ 9 → o ≠ 10 → o ≠ 11 → o ≠ 12 → ¬ (M2 ≤ o ∧ o ≤ M2 + 3) → mI m1 o k = mI m o k := fun o k a1 a2 a3 a4 a5 a6 => q5 o k (by omega) a2 a3 (hno o ⟨a1, a4, a5⟩).1 (hno o ⟨a1, a4, a5⟩).2 a6
  have hM1 := hM.1
  rcases hc with ⟨h1, rfl, rfl⟩ | ⟨h1, rfl, h3, rfl⟩
  · refine ⟨-7, hy, Or.inl ⟨rfl, ⟨hS1, hB.2.1, by rw [eA1, eB1]; omega, by rw [eA1, eB1]; omega⟩, hM.1, ?_, ?_, hMm.2.2.2⟩⟩
    · exact (q4 1 3 (by omega) (by omega)).trans hMm.2.1
    · exact hMm.2.2.1.fr fun o k a c => low o k (by omega) (by omega) (by omega) (by omega) (by omega) (by omega)
  · obtain ⟨Ms, c1, c2⟩ := rn_chn (mo := mo) (by_ := by_) (em := em) hB.2.1 33 0 [] (fun _ => 0, mI m 10, fun _ _ => 0, fun _ _ => 0) 0 (Int.le_refl _) (Int.le_refl _) (fun k a c => by omega)
    rw [List.nil_append] at c1
    have hn := hB.2.1.2.2.1
    have hlen := chn_len Ms 0 (Int.le_refl _) c2
    have hmem := chn_mem hB.2.1 Ms 0 (Int.le_refl _) c2
    have c1' : (rnA x.1 x.2.1 x.2.2.1 800 x.2.2.2.1 x.2.2.2.2 mo by_ em 33 0 [] (fun _ => 0, mI m 10, fun _ _ => 0, fun _ _ => 0)).2.1 = Ms := c1
    rw [c1'] at h3 hy
    have hl33 : Ms.length ≤ 33 := by
      rcases hlen with rfl | hlen
      · exact Nat.zero_le _
      · omega
    have eA2 : lnA (_root_.Jvm.Pilot.@@N@@.setR (_root_.Jvm.Pilot.@@N@@.setR m1 0 5 (some M)) 1 3 (some M2)) = LA := eA1
    have eB2 : lnB (_root_.Jvm.Pilot.@@N@@.setR (_root_.Jvm.Pilot.@@N@@.setR m1 0 5 (some M)) 1 3 (some M2)) = LB := eB1
    refine ⟨_, hy, Or.inr ⟨_, Ms, rfl, ⟨hS1.sw, hB.2.1, by rw [eA2, eB2]; show mN m1 + _ ≤ _; omega, by rw [eA2, eB2]; show mZ m1 + _ ≤ _; omega⟩, ⟨hmr.2.1, rfl, h3, ⟨hl33, hn⟩, hmem⟩, c2, ⟨?_, ?_, ?_⟩, rfl, h1, c1⟩⟩
    · exact (low 1 4 (by decide) (by decide) (by decide) (by decide) (by decide) (by omega)).trans (e14.trans hmd.1)
    · exact (low 1 5 (by decide) (by decide) (by decide) (by decide) (by decide) (by omega)).trans (e15.trans hmd.2.1)
    · exact (low 1 6 (by decide) (by decide) (by decide) (by decide) (by decide) (by omega)).trans (e16.trans hmd.2.2.1)
/-- run() once more -/
theorem l_run2 {mo by_ em : Int} {M2 : Nat} {J : SJ} (hB : LawB b P Q L x) (hm : LawM b m s) (hs : s ≤ 100) (hmd : mI b 1 4 = mo ∧ mI b 1 5 = by_ ∧ mI b 1 6 = em ∧ 0 ≤ mo ∧ mo ≤ 3) (hmr : mR b 0 5 = some M2 ∧ (M2 = 5 ∨ M2 = 18)) (hM : MtB b M x.2.2.1 Ms) (h0 : (rnX x mo by_ em 33 0 [] J).1 = 0) (h2 : (rnX x mo by_ em 33 0 [] J).2.1 = Ms) :
    Ct μX10_run 9 [vr 0] m (ri fun y _ => y = (Ms.length : Int)) := by
  have hS := hm.sb hB hs
  have h59 := hB.1.1.2.1
  have hMm := hM.mv hB hm
  have e14 := hm.low hB (o := 1) (by decide) (by decide) 4
  have e15 := hm.low hB (o := 1) (by decide) (by decide) 5
  have e16 := hm.low hB (o := 1) (by decide) (by decide) 6
  have e05 : mR m 0 5 = some M2 := (hm.ref (by omega) (by decide)).trans hmr.1
  have hMsc : M ≠ SC := by have := hM.1; unfold SC; omega
  refine Ct_mono (z_run P Q L x.1 x.2.1 x.2.2.1 800 x.2.2.2.1 x.2.2.2.2 (fun _ => 0, mI m 10, fun _ _ => 0, fun _ _ => 0) mo by_ em M M2 m hS hB.2.1.2.1 (fun k _ => rfl) ⟨e14.trans hmd.1, e15.trans hmd.2.1, e16.trans hmd.2.2.1, hmd.2.2.2⟩ ⟨hMm.2.1, e05, hmr.2, hMsc⟩) fun r m' hp => ?_
  obtain ⟨y, hy, -, m1, hz, hl, hc⟩ := hp
  obtain ⟨i1, i2⟩ := rn_ind (mo := mo) (by_ := by_) (em := em) hB.2.1 33 0 [] [] J (fun _ => 0, mI m 10, fun _ _ => 0, fun _ _ => 0) (Int.le_refl _) rfl
  refine ⟨y, hy, ?_⟩
  rcases hc with ⟨h1, -⟩ | ⟨h1, h3, -⟩
  · have e := h1.symm.trans (i1.trans h0)
    exact absurd e (by decide)
  · rw [h3, ← h2]
    exact congrArg (fun k : Nat => (k : Int)) i2
end MTB
