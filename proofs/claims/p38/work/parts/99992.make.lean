/-! THE LAW'S make() -/
/-- all is kept but a table and its count -/
def Kq (tt qc : Nat) (m m' : Mem) : Prop := mN m ≤ mN m' ∧ ∀ o, o < mN m → o ≠ tt → o ≠ qc → mT m' o = mT m o ∧ (∀ k, mI m' o k = mI m o k) ∧ ∀ k, mR m' o k = mR m o k
theorem Kq.rf {tt qc : Nat} {m : Mem} : Kq tt qc m m := ⟨Nat.le_refl _, fun _ _ _ _ => ⟨rfl, fun _ => rfl, fun _ => rfl⟩⟩
theorem Kq.tr {tt qc : Nat} {m m1 m2 : Mem} (h : Kq tt qc m m1) (h2 : Kq tt qc m1 m2) : Kq tt qc m m2 := ⟨Nat.le_trans h.1 h2.1, fun o ho a b => by
  have x := h.2 o ho a b
  have y := h2.2 o (Nat.lt_of_lt_of_le ho h.1) a b
  exact ⟨y.1.trans x.1, fun k => (y.2.1 k).trans (x.2.1 k), fun k => (y.2.2 k).trans (x.2.2 k)⟩⟩
def TbM (m : Mem) (tt qc cnt : Nat) (V : Nat → Nat → Int) : Prop := (mT m tt = (25, 70) ∧ mR m tt 69 = some qc ∧ mT m qc = (20, 1) ∧ mI m qc 0 = (cnt : Int)) ∧ (tt < mN m ∧ qc < mN m) ∧ ∀ p, p < cnt → ∃ q, mR m tt p = some q ∧ mT m q = (20, 10) ∧ q < mN m ∧ ∀ c, c < 10 → mI m q c = V p c
/-- a row more -/
def rowV (V : Nat → Nat → Int) (n : Nat) (R : Nat → Int) : Nat → Nat → Int := fun p c => if p = n then R c else V p c
theorem rowV_n {V : Nat → Nat → Int} {n : Nat} {R : Nat → Int} {c : Nat} : rowV V n R n c = R c := if_pos rfl
theorem rowV_ne {V : Nat → Nat → Int} {n p : Nat} {R : Nat → Int} (h : p ≠ n) : rowV V n R p = V p := by funext c; exact if_neg h
theorem lfR.cong {V V' : Nat → Nat → Int} {p : Nat} (h : lfR V p) (e : V' p = V p) : lfR V' p := by unfold lfR at *; rw [e]; exact h
theorem TO.cong {V V' : Nat → Nat → Int} : ∀ {f lo p : Nat}, TO V f lo p → (∀ q, lo ≤ q → q ≤ p → V' q = V q) → TO V' f lo p
  | 0, lo, p, h, e => ⟨h.1, h.2.cong (e p (Nat.le_of_eq h.1) (Nat.le_refl _))⟩
  | f + 1, lo, p, h, e => by
    rcases h with ⟨h1, h2⟩ | ⟨h0, h5, hQ, a, rfl, h6, ha, hT⟩ | ⟨h0, h5, a, b, rfl, h6, h7, ha, hb, hTa, hTb⟩ | ⟨h0, h5, a, b, c, rfl, h6, h7, h8, ha, hb, hc, hTa, hTb, hTc⟩
    · exact Or.inl ⟨h1, h2.cong (e p (Nat.le_of_eq h1) (Nat.le_refl _))⟩
    · have z := e (a + 1) (by omega) (Nat.le_refl _)
      exact Or.inr (Or.inl ⟨by rw [z]; exact h0, by rw [z]; exact h5, by rw [z]; exact hQ, a, rfl, by rw [z]; exact h6, ha, hT.cong fun q h1 h2 => e q h1 (by omega)⟩)
    · have z := e (b + 1) (by omega) (Nat.le_refl _)
      exact Or.inr (Or.inr (Or.inl ⟨by unfold sgR at *; rw [z]; exact h0, by rw [z]; exact h5, a, b, rfl, by rw [z]; exact h6, by rw [z]; exact h7, ha, hb, hTa.cong fun q h1 h2 => e q h1 (by omega), hTb.cong fun q h1 h2 => e q (by omega) (by omega)⟩))
    · have z := e (c + 1) (by omega) (Nat.le_refl _)
      exact Or.inr (Or.inr (Or.inr ⟨by unfold sgR at *; rw [z]; exact h0, by rw [z]; exact h5, a, b, c, rfl, by rw [z]; exact h6, by rw [z]; exact h7, by rw [z]; exact h8, ha, hb, hc, hTa.cong fun q h1 h2 => e q h1 (by omega), hTb.cong fun q h1 h2 => e q (by omega) (by omega), hTc.cong fun q h1 h2 => e q (by omega) (by omega)⟩))
def szF : Nat → Nat
  | 0 => 1
  | f + 1 => 1 + 3 * szF f
def MdP (m : Mem) (tt qc f cnt : Nat) (V : Nat → Nat → Int) (x : Int) (m' : Mem) : Prop := ∃ V' p, x = ((p : Nat) : Int) ∧ cnt ≤ p ∧ p + 1 ≤ cnt + szF f ∧ TbM m' tt qc (p + 1) V' ∧ (∀ q, q < cnt → V' q = V q) ∧ TO V' f cnt p ∧ Kq tt qc m m' ∧ mN m' ≤ mN m + szF f ∧ mZ m' ≤ mZ m + 10 * szF f ∧ (∀ j, j < cnt → mR m' tt j = mR m tt j) ∧ ∀ j x, cnt ≤ j → j ≤ p → mR m' tt j = some x → mN m ≤ x
/-- the part comes to the table -/
theorem TbM.fin {m : Mem} {tt qc cnt q : Nat} {V : Nat → Nat → Int} {R : Nat → Int} (h : TbM m tt qc cnt V) (hc : cnt < 69) (hq : mT m q = (20, 10) ∧ q < mN m) (hR : ∀ c, c < 10 → mI m q c = R c) : TbM (_root_.Jvm.Pilot.@@N@@.setI (_root_.Jvm.Pilot.@@N@@.setR m tt cnt (some q)) qc 0 ((cnt : Int) + 1)) tt qc (cnt + 1) (rowV V cnt R) ∧ Kq tt qc m (_root_.Jvm.Pilot.@@N@@.setI (_root_.Jvm.Pilot.@@N@@.setR m tt cnt (some q)) qc 0 ((cnt : Int) + 1)) := by
  obtain ⟨⟨h1, h2, h3, h4⟩, h5, h6⟩ := h
  have ne : ∀ x, mT m x = (20, 10) → x ≠ qc := fun x hx e => by rw [e, h3] at hx; cases hx
  refine ⟨⟨⟨h1, (if_neg (by omega)).trans h2, h3, (if_pos ⟨rfl, rfl⟩).trans (by omega)⟩, h5, fun p hp => ?_⟩, Nat.le_refl _, fun o ho a b => ⟨rfl, fun k => if_neg (fun e => b e.1), fun k => if_neg (fun e => a e.1)⟩⟩
  by_cases c : p = cnt
  · subst c
    exact ⟨q, if_pos ⟨rfl, rfl⟩, hq.1, hq.2, fun c hc => (if_neg (fun e => ne q hq.1 e.1)).trans ((hR c hc).trans rowV_n.symm)⟩
  · obtain ⟨q', g1, g2, g3, g4⟩ := h6 p (by omega)
    exact ⟨q', (if_neg (fun e => c e.2)).trans g1, g2, g3, fun c' hc' => (if_neg (fun e => ne q' g2 e.1)).trans ((g4 c' hc').trans (by rw [rowV_ne c]))⟩
/-- the table stands where all but it is new -/
theorem TbM.mv {m m' : Mem} {tt qc cnt : Nat} {V : Nat → Nat → Int} (h : TbM m tt qc cnt V) (hN : mN m ≤ mN m') (hk : ∀ o, o < mN m → mT m' o = mT m o ∧ (∀ k, mI m' o k = mI m o k) ∧ ∀ k, mR m' o k = mR m o k) : TbM m' tt qc cnt V := by
  obtain ⟨⟨h1, h2, h3, h4⟩, h5, h6⟩ := h
  refine ⟨⟨(hk tt h5.1).1.trans h1, ((hk tt h5.1).2.2 69).trans h2, (hk qc h5.2).1.trans h3, ((hk qc h5.2).2.1 0).trans h4⟩, by omega, fun p hp => ?_⟩
  obtain ⟨q, g1, g2, g3, g4⟩ := h6 p hp
  exact ⟨q, ((hk tt h5.1).2.2 p).trans g1, (hk q g3).1.trans g2, by omega, fun c hc => ((hk q g3).2.1 c).trans (g4 c hc)⟩
/-- the new part's row is written -/
theorem TbM.row {m : Mem} {tt qc cnt q k : Nat} {V : Nat → Nat → Int} {v : Int} (h : TbM m tt qc cnt V) (hq : mT m q = (20, 10)) (hn : ∀ p x, p < cnt → mR m tt p = some x → x ≠ q) : TbM (setI m q k v) tt qc cnt V := by
  obtain ⟨⟨h1, h2, h3, h4⟩, h5, h6⟩ := h
  refine ⟨⟨h1, h2, h3, (if_neg (fun e => by rw [e.1, hq] at h3; cases h3)).trans h4⟩, h5, fun p hp => ?_⟩
  obtain ⟨q', g1, g2, g3, g4⟩ := h6 p hp
  exact ⟨q', g1, g2, g3, fun c hc => (if_neg (fun e => hn p q' hp g1 e.1)).trans (g4 c hc)⟩
/-- a row's fact changed -/
def upR (R : Nat → Int) (k : Nat) (v : Int) : Nat → Int := fun c => if c = k then v else R c
theorem upR_s {R : Nat → Int} {k : Nat} {v : Int} : upR R k v k = v := if_pos rfl
theorem upR_n {R : Nat → Int} {k c : Nat} {v : Int} (h : ¬ c = k) : upR R k v c = R c := if_neg h
theorem upR_w {m : Mem} {q k : Nat} {R : Nat → Int} {v : Int} (h : ∀ c, c < 10 → mI m q c = R c) : ∀ c, c < 10 → mI (setI m q k v) q c = upR R k v c := fun c hc => by
  show (if q = q ∧ c = k then v else mI m q c) = if c = k then v else R c
  by_cases e : c = k
  · rw [if_pos ⟨rfl, e⟩, if_pos e]
  · rw [if_neg (fun z => e z.2), if_neg e]; exact h c hc
def iniR (c : Nat) : Int := if c = 0 ∨ c = 5 then 0 else if c ≤ 4 then -5 else -1
/-- what stands while a part is made: memory m since m0 (where the part's number is the next), the row's facts, the table -/
def MkI (m0 m : Mem) (tt qc cnt0 cnt : Nat) (V V0 : Nat → Nat → Int) (R : Nat → Int) : Prop := TbM m tt qc cnt V ∧ (mT m (mN m0) = (20, 10) ∧ mN m0 + 1 ≤ mN m) ∧ (∀ c, c < 10 → mI m (mN m0) c = R c) ∧ Kq tt qc m0 m ∧ (∀ j, j < cnt0 → mR m tt j = mR m0 tt j) ∧ (cnt0 ≤ cnt ∧ ∀ j x, cnt0 ≤ j → j < cnt → mR m tt j = some x → mN m0 + 1 ≤ x) ∧ TbM m0 tt qc cnt0 V0 ∧ ∀ q, q < cnt0 → V q = V0 q
theorem MkI.hn {m0 m : Mem} {tt qc cnt0 cnt : Nat} {V V0 : Nat → Nat → Int} {R : Nat → Int} (h : MkI m0 m tt qc cnt0 cnt V V0 R) : ∀ p x, p < cnt → mR m tt p = some x → x ≠ mN m0 := fun p x hp hx => by
  obtain ⟨h1, h2, h3, h4, h5, h6, h7, h8⟩ := h
  by_cases c : p < cnt0
  · obtain ⟨q', g1, g2, g3, g4⟩ := h7.2.2 p c
    rw [h5 p c, g1] at hx
    have := Option.some.inj hx
    omega
  · have := h6.2 p x (by omega) hp hx
    omega
theorem MkI.w {m0 m : Mem} {tt qc cnt0 cnt k : Nat} {V V0 : Nat → Nat → Int} {R : Nat → Int} {v : Int} (h : MkI m0 m tt qc cnt0 cnt V V0 R) : MkI m0 (setI m (mN m0) k v) tt qc cnt0 cnt V V0 (upR R k v) := by
  have hn := h.hn
  obtain ⟨h1, h2, h3, h4, h5, h6, h7⟩ := h
  refine ⟨h1.row h2.1 hn, h2, upR_w h3, ⟨h4.1, fun o ho a b => ?_⟩, h5, h6, h7⟩
  have := h4.2 o ho a b
  exact ⟨this.1, fun k' => (if_neg (fun e => by have := e.1; omega)).trans (this.2.1 k'), this.2.2⟩
/-- a kid made -/
theorem MkI.kid {m0 m m' : Mem} {tt qc cnt0 cnt f : Nat} {V V0 : Nat → Nat → Int} {R : Nat → Int} {x : Int} (h : MkI m0 m tt qc cnt0 cnt V V0 R) (hk : MdP m tt qc f cnt V x m') : ∃ V' p, x = ((p : Nat) : Int) ∧ cnt ≤ p ∧ p + 1 ≤ cnt + szF f ∧ MkI m0 m' tt qc cnt0 (p + 1) V' V0 R ∧ TO V' f cnt p ∧ (∀ q, q < cnt → V' q = V q) ∧ mN m' ≤ mN m + szF f ∧ mZ m' ≤ mZ m + 10 * szF f := by
  obtain ⟨h1, h2, h3, h4, h5, h6, h7, h8⟩ := h
  obtain ⟨V', p, rfl, k1, k2, k3, k4, k5, k6, k7, k8, k9, k10⟩ := hk
  have hq : mN m0 ≠ tt ∧ mN m0 ≠ qc := by have := h7.2.1; omega
  have kq := k6.2 (mN m0) (by omega) hq.1 hq.2
  refine ⟨V', p, rfl, k1, k2, ⟨k3, ⟨kq.1.trans h2.1, by have := k6.1; omega⟩, fun c hc => (kq.2.1 c).trans (h3 c hc), h4.tr k6, fun j hj => (k9 j (by omega)).trans (h5 j hj), ⟨by omega, fun j y a b hy => ?_⟩, h7, fun q hq => (k4 q (by omega)).trans (h8 q hq)⟩, k5, k4, k7, k8⟩
  by_cases c : j < cnt
  · rw [k9 j c] at hy; exact h6.2 j y a c hy
  · have := k10 j y (by omega) (by omega) hy; omega
/-- the part comes to the table: the whole -/
theorem MkI.fin {m0 m : Mem} {tt qc cnt0 cnt f : Nat} {V V0 : Nat → Nat → Int} {R : Nat → Int} (h : MkI m0 m tt qc cnt0 cnt V V0 R) (hc : cnt < 69) (hs : cnt + 1 ≤ cnt0 + szF f) (hTO : TO (rowV V cnt R) f cnt0 cnt) (hN : mN m ≤ mN m0 + szF f) (hZ : mZ m ≤ mZ m0 + 10 * szF f) : MdP m0 tt qc f cnt0 V0 ((cnt : Nat) : Int) (setI (setR m tt cnt (some (mN m0))) qc 0 ((cnt : Int) + 1)) := by
  obtain ⟨h1, h2, h3, h4, h5, h6, h7, h8⟩ := h
  have hf := h1.fin hc ⟨h2.1, by omega⟩ h3
  refine ⟨rowV V cnt R, cnt, rfl, h6.1, hs, hf.1, fun q hq => (rowV_ne (by omega)).trans (h8 q hq), hTO, h4.tr hf.2, hN, hZ, fun j hj => (if_neg (fun e => by have := e.2; omega)).trans (h5 j hj), fun j x a b hx => ?_⟩
  by_cases c : j = cnt
  · subst c
    have e : mR (setI (setR m tt j (some (mN m0))) qc 0 ((j : Int) + 1)) tt j = some (mN m0) := if_pos ⟨rfl, rfl⟩
    rw [e] at hx
    have := Option.some.inj hx
    omega
  · have e : mR (setI (setR m tt cnt (some (mN m0))) qc 0 ((cnt : Int) + 1)) tt j = mR m tt j := if_neg (fun e => c e.2)
    rw [e] at hx
    have := h6.2 j x a (by omega) hx
    omega

set_option maxHeartbeats 4000000 in
theorem L_mkEnd {F : Nat} {m0 m : Mem} {tt qc cnt0 cnt f : Nat} {V V0 : Nat → Nat → Int} {R : Nat → Int} (h : MkI m0 m tt qc cnt0 cnt V V0 R) (hc : cnt < 69) (hs : cnt + 1 ≤ cnt0 + szF f) (hTO : TO (rowV V cnt R) f cnt0 cnt) (hN : mN m ≤ mN m0 + szF f) (hZ : mZ m ≤ mZ m0 + 10 * szF f) : _root_.Jvm.Pilot.@@N@@.V μL_make F m0 (ri fun x m' => True ∧ MdP m0 tt qc f cnt0 V0 x m') 404 [(2, vr tt), (5, vi 69), (6, vr (mN m0))] [] m := by
  have hf := h.fin hc hs hTO hN hZ
  have T_tt := h.1.1.1
  have R_tt := h.1.1.2.1
  have T_qc := h.1.1.2.2.1
  have I_qc := h.1.1.2.2.2
  refine V_ld (pc := 404) dL_make_404 (v := vr tt) rfl rfl ?_
  refine V_ld (pc := 405) dL_make_405 (v := vr tt) rfl rfl ?_
  refine V_ld (pc := 406) dL_make_406 (v := vi 69) rfl rfl ?_
  refine V_aaldQ (pc := 408) dL_make_408 (q := some qc) T_tt (by decide) (by omega) R_tt ?_
  refine V_iconst (pc := 409) dL_make_409 (by unfold I32; omega) ?_
  refine V_ialdv (pc := 410) dL_make_410 (v := (cnt : Int)) T_qc (by omega) I_qc (fun g410 => ?_)
  refine V_ld (pc := 411) dL_make_411 (v := vr (mN m0)) rfl rfl ?_
  refine V_aastA (pc := 413) dL_make_413 T_tt (by omega) h.2.1.1 ?_
  refine V_ld (pc := 414) dL_make_414 (v := vr tt) rfl rfl ?_
  refine V_ld (pc := 415) dL_make_415 (v := vi 69) rfl rfl ?_
  refine V_aaldQ (pc := 417) dL_make_417 (q := some qc) T_tt (by decide) (by omega) ((mR_setne (M := m) (by omega)).trans R_tt) ?_
  refine V_iconst (pc := 418) dL_make_418 (by unfold I32; omega) ?_
  refine V_dup2 (pc := 419) dL_make_419 rfl rfl ?_
  refine V_ialdv (pc := 420) dL_make_420 (v := (cnt : Int)) T_qc (by omega) I_qc (fun g420 => ?_)
  refine V_iconst (pc := 421) dL_make_421 (by unfold I32; omega) ?_
  refine V_iadd (pc := 422) dL_make_422 (by unfold I32 at *; omega) ?_
  refine V_iast (pc := 423) dL_make_423 T_qc (by omega) ?_
  refine V_ld (pc := 424) dL_make_424 (v := vr tt) rfl rfl ?_
  refine V_ld (pc := 425) dL_make_425 (v := vi 69) rfl rfl ?_
  refine V_aaldQ (pc := 427) dL_make_427 (q := some qc) T_tt (by decide) (by omega) ((mR_setne (M := m) (by omega)).trans R_tt) ?_
  refine V_iconst (pc := 428) dL_make_428 (by unfold I32; omega) ?_
  refine V_ialdv (pc := 429) dL_make_429 (v := (cnt : Int) + 1) T_qc (by omega) (by first | rfl | (simp only [mI_setR, mI_setI, up2]; repeat (first | rfl | rw [if_neg (by omega)] | rw [if_pos (by omega)]))) (fun g429 => ?_)
  refine V_iconst (pc := 430) dL_make_430 (by unfold I32; omega) ?_
  refine V_isub (pc := 431) dL_make_431 (by unfold I32 at *; omega) ?_
  refine V_reti (pc := 432) dL_make_432 trivial ?_
  rw [show (cnt : Int) + 1 - 1 = (cnt : Int) by omega, Int.toNat_natCast]
  exact ⟨trivial, hf⟩

