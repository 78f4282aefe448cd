/-! THE SEARCH in the class's memory: b the memory at its start, m now; J the numbers -/
def stC (F : Tb) (p far : Int) : Int := if F p.toNat 0 = 3 then kidN F p (far - 1).toNat else far
def lfC (F : Tb) (p far : Int) : Int := if F p.toNat 0 = 4 then kidN F p far.toNat else far
def lnA (b : Mem) : Nat := (mT b ((mR b 9 2).getD 0)).2
def lnB (b : Mem) : Nat := (mT b ((mR b 9 4).getD 0)).2
def FrA (F : Tb) (m : Mem) (J : SJ) (A : Nat) : Prop := ∀ i : Nat, (i : Int) < J.1 3 → mI m A (4 * i) = J.2.2.1 i 0 ∧ mI m A (4 * i + 1) = J.2.2.1 i 1 ∧ mI m A (4 * i + 2) = stC F (J.2.2.1 i 0) (J.2.2.1 i 2) ∧ mI m A (4 * i + 3) = J.2.2.1 i 3
def OpB (F : Tb) (m : Mem) (J : SJ) (B : Nat) : Prop := ∀ j : Nat, (j : Int) < J.1 5 → mI m B (5 * j) = J.2.2.2 j 0 ∧ mI m B (5 * j + 1) = J.2.2.2 j 1 ∧ mI m B (5 * j + 2) = lfC F (J.2.2.2 j 0) (J.2.2.2 j 2) ∧ mI m B (5 * j + 3) = J.2.2.2 j 3 ∧ mI m B (5 * j + 4) = J.2.2.2 j 4
def CZr (b m : Mem) (A B LA LB : Nat) : Prop := (mR m 9 2 = some A ∧ mT m A = (20, LA) ∧ A < mN m ∧ 256 ≤ LA ∧ LA ≤ 65536 ∧ 10 < A ∧ (mR b 9 2 = some A ∨ mN b ≤ A)) ∧ (mR m 9 4 = some B ∧ mT m B = (20, LB) ∧ B < mN m ∧ 256 ≤ LB ∧ LB ≤ 65536 ∧ 10 < B ∧ (mR b 9 4 = some B ∨ mN b ≤ B)) ∧ A ≠ B ∧ mN m + lnA b + lnB b ≤ mN b + LA + LB ∧ mZ m + 2 * lnA b + 2 * lnB b ≤ mZ b + 2 * LA + 2 * LB
def CZf (b m : Mem) : Prop := mN b ≤ mN m ∧ mZ b ≤ mZ m ∧ (∀ o, o < mN b → mT m o = mT b o) ∧ (∀ o k, o < mN b → ¬ (o = 9 ∧ (k = 2 ∨ k = 4)) → mR m o k = mR b o k) ∧ ∀ o k, o < mN b → o ≠ 9 → o ≠ 10 → mR b 9 2 ≠ some o → mR b 9 4 ≠ some o → mI m o k = mI b o k
def CZa (b m : Mem) (F : Tb) (J : SJ) (A B LA LB : Nat) : Prop := CZr b m A B LA LB ∧ CZf b m ∧ (∀ k, 3 ≤ k → k ≤ 13 → k ≠ 4 → mI m 9 k = J.1 k) ∧ (∀ k, k < 32 → mI m 10 k = J.2.1 k) ∧ FrA F m J A ∧ OpB F m J B ∧ 4 * J.1 3 ≤ (LA : Int) ∧ 5 * J.1 5 ≤ (LB : Int)
def CZ (b m : Mem) (F : Tb) (J : SJ) : Prop := ∃ A B LA LB, CZa b m F J A B LA LB
def SB (b : Mem) (P Q L : Nat) (F : Tb) (c : Nat) (n may : Int) (hc : Nat → CEnv → Int) (cl : Nat → Int) : Prop := (Lay (mT b) (mR b) ∧ 59 ≤ mN b ∧ mN b + 140000 ≤ NN + lnA b + lnB b ∧ mZ b + 300000 ≤ ZZ + 2 * lnA b + 2 * lnB b) ∧ (mR b 1 2 = some P ∧ mT b P = (4, 2) ∧ mR b P 0 = some Q ∧ mT b Q = (20, L) ∧ 59 ≤ P ∧ 59 ≤ Q ∧ P < mN b ∧ Q < mN b ∧ mR b 9 2 ≠ some Q ∧ mR b 9 4 ≠ some Q) ∧ (mI b P 1 = (c : Int) ∧ c * 9 ≤ L ∧ L ≤ 2160 ∧ CTab (mI b) Q F c ∧ WfT F 0 c) ∧ (mI b 2 1 = n ∧ 0 ≤ n ∧ n ≤ 32 ∧ mI b 1 7 = may ∧ 1 ≤ may ∧ may ≤ 5000) ∧ (∀ k, k < 64 → mI b 3 k = cl k ∧ -999 ≤ cl k ∧ cl k ≤ 1000) ∧ (∀ w, w < 26 → ∃ q, CdAt b 4 w q ∧ ∀ e, cdV e q = hc w e) ∧ (∃ A0 B0 LA LB, mR b 9 2 = some A0 ∧ mT b A0 = (20, LA) ∧ 256 ≤ LA ∧ LA ≤ 65536 ∧ mR b 9 4 = some B0 ∧ mT b B0 = (20, LB) ∧ 256 ≤ LB ∧ LB ≤ 65536 ∧ (A0 < mN b ∧ 10 < A0 ∧ B0 < mN b ∧ 10 < B0 ∧ A0 ≠ B0 ∧ (A0 = 11 ∨ 59 ≤ A0) ∧ (B0 = 12 ∨ 59 ≤ B0)))
section CZL
variable {b m : Mem} {P Q L c : Nat} {F : Tb} {n may : Int} {hc : Nat → CEnv → Int} {cl : Nat → Int} {J : SJ} {A B LA LB : Nat}
theorem CZ.s (h : CZ b m F J) {k : Nat} (hk : 3 ≤ k ∧ k ≤ 13 ∧ k ≠ 4) : mI m 9 k = J.1 k := by
  obtain ⟨A, B, LA, LB, -, -, h1, -⟩ := h
  exact h1 k hk.1 hk.2.1 hk.2.2
theorem CZ.f (h : CZ b m F J) : CZf b m := by
  obtain ⟨A, B, LA, LB, -, h1, -⟩ := h
  exact h1
theorem SB.no (hS : SB b P Q L F c n may hc cl) {o : Nat} (h : (mT b o).1 ≠ 20 ∨ (mT b o).2 < 256) : mR b 9 2 ≠ some o ∧ mR b 9 4 ≠ some o := by
  obtain ⟨-, -, -, -, -, -, A0, B0, LA, LB, h1, h2, h3, h4, h5, h6, h7, h8, -⟩ := hS
  refine ⟨fun e => ?_, fun e => ?_⟩
  · rw [h1] at e; cases e
    rw [h2] at h
    rcases h with h | h
    · exact h rfl
    · have h : LA < 256 := h; omega
  · rw [h5] at e; cases e
    rw [h6] at h
    rcases h with h | h
    · exact h rfl
    · have h : LB < 256 := h; omega
theorem Lay.czf (hL : Lay (mT b) (mR b)) (hn : 59 ≤ mN b) (h : CZf b m) : Lay (mT m) (mR m) := by
  refine ⟨fun p hp => ?_, fun p hp => ?_⟩
  · have hl : p.1 < 59 := by
      have : ∀ q ∈ layT, q.1 < 59 := by decide
      exact this p hp
    rw [h.2.2.1 p.1 (by omega)]
    exact hL.1 p hp
  · have hl : p.1.1 < 59 ∧ ¬ (p.1.1 = 9 ∧ (p.1.2 = 2 ∨ p.1.2 = 4)) := by
      have : ∀ q ∈ layR, q.1.1 < 59 ∧ ¬ (q.1.1 = 9 ∧ (q.1.2 = 2 ∨ q.1.2 = 4)) := by decide
      exact this p hp
    rw [h.2.2.2.1 p.1.1 _ (by omega) hl.2]
    exact hL.2 p hp
theorem CZ.lay (hS : SB b P Q L F c n may hc cl) (h : CZ b m F J) : Lay (mT m) (mR m) := Lay.czf hS.1.1 hS.1.2.1 h.f
theorem SB.rd (hS : SB b P Q L F c n may hc cl) (h : CZf b m) {o k : Nat} (ho : o < mN b) (h9 : o ≠ 9) (h10 : o ≠ 10) (ht : (mT b o).1 ≠ 20 ∨ (mT b o).2 < 256) : mI m o k = mI b o k :=
  h.2.2.2.2 o k ho h9 h10 (hS.no ht).1 (hS.no ht).2
theorem CZ.gn (hS : SB b P Q L F c n may hc cl) (h : CZ b m F J) : mI m 2 1 = n := (hS.rd h.f (by have := hS.1.2.1; omega) (by decide) (by decide) (by rw [hS.1.1.t2]; exact Or.inl (by decide))).trans hS.2.2.2.1.1
theorem CZ.gm (hS : SB b P Q L F c n may hc cl) (h : CZ b m F J) : mI m 1 7 = may := (hS.rd h.f (by have := hS.1.2.1; omega) (by decide) (by decide) (by rw [hS.1.1.t1]; exact Or.inl (by decide))).trans hS.2.2.2.1.2.2.2.1
theorem CZ.cell (hS : SB b P Q L F c n may hc cl) (h : CZ b m F J) {k : Nat} (hk : k < 64) : mI m 3 k = cl k ∧ -999 ≤ mI m 3 k ∧ mI m 3 k ≤ 1000 := by
  have e := hS.rd h.f (o := 3) (k := k) (by have := hS.1.2.1; omega) (by decide) (by decide) (by rw [hS.1.1.t3]; exact Or.inr (by decide))
  have := hS.2.2.2.2.1 k hk
  omega
theorem CZ.rP (hS : SB b P Q L F c n may hc cl) (h : CZ b m F J) : mR m 1 2 = some P := (h.f.2.2.2.1 1 2 (by have := hS.1.2.1; omega) (by omega)).trans hS.2.1.1
theorem CZ.tP (hS : SB b P Q L F c n may hc cl) (h : CZ b m F J) : mT m P = (4, 2) := (h.f.2.2.1 P hS.2.1.2.2.2.2.2.2.1).trans hS.2.1.2.1
theorem CZ.rQ (hS : SB b P Q L F c n may hc cl) (h : CZ b m F J) : mR m P 0 = some Q := (h.f.2.2.2.1 P 0 hS.2.1.2.2.2.2.2.2.1 (by have := hS.2.1.2.2.2.2.1; omega)).trans hS.2.1.2.2.1
theorem CZ.tQ (hS : SB b P Q L F c n may hc cl) (h : CZ b m F J) : mT m Q = (20, L) := (h.f.2.2.1 Q hS.2.1.2.2.2.2.2.2.2.1).trans hS.2.1.2.2.2.1
theorem CZ.gc (hS : SB b P Q L F c n may hc cl) (h : CZ b m F J) : mI m P 1 = (c : Int) ∧ c * 9 ≤ L ∧ L ≤ 2160 := by
  have := hS.2.1.2.2.2.2.1
  refine ⟨(hS.rd h.f hS.2.1.2.2.2.2.2.2.1 (by omega) (by omega) (by rw [hS.2.1.2.1]; exact Or.inl (by decide))).trans hS.2.2.1.1, hS.2.2.1.2.1, hS.2.2.1.2.2.1⟩
theorem CZ.tab (hS : SB b P Q L F c n may hc cl) (h : CZ b m F J) : CTab (mI m) Q F c := fun p w hp hw => by
  obtain ⟨-, -, -, -, -, a1, -, a2, a3, a4⟩ := hS.2.1
  rw [h.f.2.2.2.2 Q _ a2 (by omega) (by omega) a3 a4]
  exact hS.2.2.1.2.2.2.1 p w hp hw
theorem CZ.cd (hS : SB b P Q L F c n may hc cl) (h : CZ b m F J) {w : Nat} (hw : w < 26) : ∃ q, CdAt m 4 w q ∧ ∀ e, cdV e q = hc w e := by
  obtain ⟨q, h1, h2⟩ := hS.2.2.2.2.2.1 w hw
  refine ⟨q, ?_, h2⟩
  have hf := h.f
  have h59 := hS.1.2.1
  have e4 : mR m 4 w = mR b 4 w := hf.2.2.2.1 4 w (by omega) (by omega)
  cases q with
  | none => exact e4.trans h1
  | some cd =>
    obtain ⟨x, x1, x2⟩ := h1
    obtain ⟨A, a1, a2, a3, a4, a5, a6, a7, a8, a9, a10⟩ := x2
    refine ⟨x, e4.trans x1, A, (hf.2.2.1 x a6).trans a1, (hf.2.2.2.1 x 0 a6 (by omega)).trans a2, (hf.2.2.1 A a7).trans a3, a4, a5, Nat.lt_of_lt_of_le a6 hf.1, Nat.lt_of_lt_of_le a7 hf.1, fun k y hy => ?_, a9, a10⟩
    rw [hS.rd hf a7 (by omega) (by omega) (by rw [a3]; exact Or.inr (by show cd.length < 256; omega))]
    exact a8 k y hy
theorem CZ.upd {J' : SJ} {I' : Nat → Nat → Int} (h : CZ b m F J) (hI : ∀ o k, o ≠ 9 → o ≠ 10 → I' o k = mI m o k) (hs : ∀ k, 3 ≤ k → k ≤ 13 → k ≠ 4 → I' 9 k = J'.1 k) (hl : ∀ k, k < 32 → I' 10 k = J'.2.1 k) (h3 : J'.1 3 ≤ J.1 3) (h5 : J'.1 5 ≤ J.1 5) (hf : J'.2.2 = J.2.2) : CZ b (wI m I') F J' := by
  obtain ⟨A, B, LA, LB, hr, hz, h1, h2, hA, hB, hla, hlb⟩ := h
  have a9 := hr.1.2.2.2.2.2.1
  have b9 := hr.2.1.2.2.2.2.2.1
  refine ⟨A, B, LA, LB, hr, ⟨hz.1, hz.2.1, hz.2.2.1, hz.2.2.2.1, fun o k ho h9 h10 hx hy => (hI o k h9 h10).trans (hz.2.2.2.2 o k ho h9 h10 hx hy)⟩, hs, hl, fun i hi => ?_, fun j hj => ?_, by omega, by omega⟩
  · have a := hA i (by omega)
    show I' A (4 * i) = _ ∧ I' A (4 * i + 1) = _ ∧ I' A (4 * i + 2) = _ ∧ I' A (4 * i + 3) = _
    rw [hf, hI A _ (by omega) (by omega), hI A _ (by omega) (by omega), hI A _ (by omega) (by omega), hI A _ (by omega) (by omega)]
    exact a
  · have a := hB j (by omega)
    show I' B (5 * j) = _ ∧ I' B (5 * j + 1) = _ ∧ I' B (5 * j + 2) = _ ∧ I' B (5 * j + 3) = _ ∧ I' B (5 * j + 4) = _
    rw [hf, hI B _ (by omega) (by omega), hI B _ (by omega) (by omega), hI B _ (by omega) (by omega), hI B _ (by omega) (by omega), hI B _ (by omega) (by omega)]
    exact a
theorem CZ.set {k : Nat} {v : Int} (h : CZ b m F J) (h3 : k = 3 → v ≤ J.1 3) (h5 : k = 5 → v ≤ J.1 5) : CZ b (setI m 9 k v) F (setS J k v) := by
  have hs := fun k' a b c => h.s (k := k') ⟨a, b, c⟩
  have hl : ∀ k', k' < 32 → mI m 10 k' = J.2.1 k' := by
    obtain ⟨A, B, LA, LB, -, -, -, h2, -⟩ := h
    exact h2
  refine CZ.upd (I' := up2 (mI m) 9 k v) h (fun o k' h9 h10 => up2_no h9) (fun k' a b c => ?_) (fun k' hk => (up2_no (by decide)).trans (hl k' hk)) ?_ ?_ rfl
  · show up2 (mI m) 9 k v 9 k' = up1 J.1 k v k'
    by_cases e : k' = k
    · subst e; rw [up2_s]; exact (if_pos rfl).symm
    · rw [up2_nk e, hs k' a b c]; exact (if_neg e).symm
  · show up1 J.1 k v 3 ≤ J.1 3
    unfold up1
    split
    · rename_i e; exact h3 e.symm
    · exact Int.le_refl _
  · show up1 J.1 k v 5 ≤ J.1 5
    unfold up1
    split
    · rename_i e; exact h5 e.symm
    · exact Int.le_refl _
theorem CZ.setL {k : Nat} {v : Int} (h : CZ b m F J) : CZ b (setI m 10 k v) F (setL J k v) := by
  have hs := fun k' a b c => h.s (k := k') ⟨a, b, c⟩
  have hl : ∀ k', k' < 32 → mI m 10 k' = J.2.1 k' := by
    obtain ⟨A, B, LA, LB, -, -, -, h2, -⟩ := h
    exact h2
  refine CZ.upd (I' := up2 (mI m) 10 k v) h (fun o k' h9 h10 => up2_no h10) (fun k' a b c => (up2_no (by decide)).trans (hs k' a b c)) (fun k' hk => ?_) (Int.le_refl _) (Int.le_refl _) rfl
  show up2 (mI m) 10 k v 10 k' = up1 J.2.1 k v k'
  by_cases e : k' = k
  · subst e; rw [up2_s]; exact (if_pos rfl).symm
  · rw [up2_nk e, hl k' hk]; exact (if_neg e).symm
theorem CZ.l (h : CZ b m F J) {k : Nat} (hk : k < 32) : mI m 10 k = J.2.1 k := by
  obtain ⟨A, B, LA, LB, -, -, -, h2, -⟩ := h
  exact h2 k hk
theorem CZa.grA (hS : SB b P Q L F c n may hc cl) (h : CZa b m F J A B LA LB) (hL : LA ≤ 30000) : CZa b (setR (cpyI (newO m 20 (2 * LA)) A 0 (mN m) 0 LA) 9 2 (some (mN m))) F J (mN m) B (2 * LA) LB := by
  obtain ⟨⟨⟨a1, a2, a3, a4, a5, a6, a7⟩, ⟨b1, b2, b3, b4, b5, b6, b7⟩, hAB, r1, r2⟩, hz, h1, h2, hA, hB, hla, hlb⟩ := h
  have h59 : 59 ≤ mN m := Nat.le_trans hS.1.2.1 hz.1
  have hT : ∀ o, o ≠ mN m → mT (setR (cpyI (newO m 20 (2 * LA)) A 0 (mN m) 0 LA) 9 2 (some (mN m))) o = mT m o := fun o ho => if_neg ho
  have hT' : mT (setR (cpyI (newO m 20 (2 * LA)) A 0 (mN m) 0 LA) 9 2 (some (mN m))) (mN m) = (20, 2 * LA) := if_pos rfl
  have hR : ∀ o k, ¬ (o = 9 ∧ k = 2) → o ≠ mN m → mR (setR (cpyI (newO m 20 (2 * LA)) A 0 (mN m) 0 LA) 9 2 (some (mN m))) o k = mR m o k := fun o k h ho => (if_neg h).trans (if_neg ho)
  have hI : ∀ o k, o ≠ mN m → mI (setR (cpyI (newO m 20 (2 * LA)) A 0 (mN m) 0 LA) 9 2 (some (mN m))) o k = mI m o k := fun o k ho => by
    show mI (cpyI (newO m 20 (2 * LA)) A 0 (mN m) 0 LA) o k = _
    rw [mI_cpyI, if_neg (by omega)]
    exact if_neg ho
  have hI' : ∀ k, k < LA → mI (setR (cpyI (newO m 20 (2 * LA)) A 0 (mN m) 0 LA) 9 2 (some (mN m))) (mN m) k = mI m A k := fun k hk => by
    show mI (cpyI (newO m 20 (2 * LA)) A 0 (mN m) 0 LA) (mN m) k = _
    rw [mI_cpyI, if_pos (by omega), show 0 + (k - 0) = k from by omega]
    exact if_neg (by omega)
  refine ⟨⟨⟨mR_sets, hT', ?_, by omega, by omega, by omega, Or.inr hz.1⟩, ⟨?_, ?_, ?_, b4, b5, b6, b7⟩, by omega, ?_, ?_⟩, ⟨?_, ?_, fun o ho => ?_, fun o k ho hk => ?_, fun o k ho h9 h10 hx hy => ?_⟩, fun k x1 x2 x3 => ?_, fun k hk => ?_, fun i hi => ?_, fun j hj => ?_, by omega, by omega⟩
  · show mN m < mN m + 1; omega
  · rw [hR 9 4 (by omega) (by omega)]; exact b1
  · rw [hT B (by omega)]; exact b2
  · show B < mN m + 1; omega
  · show mN m + 1 + lnA b + lnB b ≤ mN b + 2 * LA + LB; omega
  · show mZ m + 2 * LA + 2 * lnA b + 2 * lnB b ≤ mZ b + 2 * (2 * LA) + 2 * LB; omega
  · show mN b ≤ mN m + 1; have := hz.1; omega
  · show mZ b ≤ mZ m + 2 * LA; have := hz.2.1; omega
  · rw [hT o (by have := hz.1; omega)]; exact hz.2.2.1 o ho
  · rw [hR o k (by omega) (by have := hz.1; omega)]; exact hz.2.2.2.1 o k ho hk
  · rw [hI o k (by have := hz.1; omega)]; exact hz.2.2.2.2 o k ho h9 h10 hx hy
  · rw [hI 9 k (by omega)]; exact h1 k x1 x2 x3
  · rw [hI 10 k (by omega)]; exact h2 k hk
  · rw [hI' _ (by omega), hI' _ (by omega), hI' _ (by omega), hI' _ (by omega)]; exact hA i hi
  · rw [hI B _ (by omega), hI B _ (by omega), hI B _ (by omega), hI B _ (by omega), hI B _ (by omega)]; exact hB j hj
theorem CZa.grB (hS : SB b P Q L F c n may hc cl) (h : CZa b m F J A B LA LB) (hL : LB ≤ 30000) : CZa b (setR (cpyI (newO m 20 (2 * LB)) B 0 (mN m) 0 LB) 9 4 (some (mN m))) F J A (mN m) LA (2 * LB) := by
  obtain ⟨⟨⟨a1, a2, a3, a4, a5, a6, a7⟩, ⟨b1, b2, b3, b4, b5, b6, b7⟩, hAB, r1, r2⟩, hz, h1, h2, hA, hB, hla, hlb⟩ := h
  have h59 : 59 ≤ mN m := Nat.le_trans hS.1.2.1 hz.1
  have hT : ∀ o, o ≠ mN m → mT (setR (cpyI (newO m 20 (2 * LB)) B 0 (mN m) 0 LB) 9 4 (some (mN m))) o = mT m o := fun o ho => if_neg ho
  have hT' : mT (setR (cpyI (newO m 20 (2 * LB)) B 0 (mN m) 0 LB) 9 4 (some (mN m))) (mN m) = (20, 2 * LB) := if_pos rfl
  have hR : ∀ o k, ¬ (o = 9 ∧ k = 4) → o ≠ mN m → mR (setR (cpyI (newO m 20 (2 * LB)) B 0 (mN m) 0 LB) 9 4 (some (mN m))) o k = mR m o k := fun o k h ho => (if_neg h).trans (if_neg ho)
  have hI : ∀ o k, o ≠ mN m → mI (setR (cpyI (newO m 20 (2 * LB)) B 0 (mN m) 0 LB) 9 4 (some (mN m))) o k = mI m o k := fun o k ho => by
    show mI (cpyI (newO m 20 (2 * LB)) B 0 (mN m) 0 LB) o k = _
    rw [mI_cpyI, if_neg (by omega)]
    exact if_neg ho
  have hI' : ∀ k, k < LB → mI (setR (cpyI (newO m 20 (2 * LB)) B 0 (mN m) 0 LB) 9 4 (some (mN m))) (mN m) k = mI m B k := fun k hk => by
    show mI (cpyI (newO m 20 (2 * LB)) B 0 (mN m) 0 LB) (mN m) k = _
    rw [mI_cpyI, if_pos (by omega), show 0 + (k - 0) = k from by omega]
    exact if_neg (by omega)
  refine ⟨⟨⟨?_, ?_, ?_, a4, a5, a6, a7⟩, ⟨mR_sets, hT', ?_, by omega, by omega, by omega, Or.inr hz.1⟩, by omega, ?_, ?_⟩, ⟨?_, ?_, fun o ho => ?_, fun o k ho hk => ?_, fun o k ho h9 h10 hx hy => ?_⟩, fun k x1 x2 x3 => ?_, fun k hk => ?_, fun i hi => ?_, fun j hj => ?_, by omega, by omega⟩
  · rw [hR 9 2 (by omega) (by omega)]; exact a1
  · rw [hT A (by omega)]; exact a2
  · show A < mN m + 1; omega
  · show mN m < mN m + 1; omega
  · show mN m + 1 + lnA b + lnB b ≤ mN b + LA + 2 * LB; omega
  · show mZ m + 2 * LB + 2 * lnA b + 2 * lnB b ≤ mZ b + 2 * LA + 2 * (2 * LB); omega
  · show mN b ≤ mN m + 1; have := hz.1; omega
  · show mZ b ≤ mZ m + 2 * LB; have := hz.2.1; omega
  · rw [hT o (by have := hz.1; omega)]; exact hz.2.2.1 o ho
  · rw [hR o k (by omega) (by have := hz.1; omega)]; exact hz.2.2.2.1 o k ho hk
  · rw [hI o k (by have := hz.1; omega)]; exact hz.2.2.2.2 o k ho h9 h10 hx hy
  · rw [hI 9 k (by omega)]; exact h1 k x1 x2 x3
  · rw [hI 10 k (by omega)]; exact h2 k hk
  · rw [hI A _ (by omega), hI A _ (by omega), hI A _ (by omega), hI A _ (by omega)]; exact hA i hi
  · rw [hI' _ (by omega), hI' _ (by omega), hI' _ (by omega), hI' _ (by omega), hI' _ (by omega)]; exact hB j hj
theorem CZa.ofA (h : CZa b m F J A B LA LB) {I' : Nat → Nat → Int} {J' : SJ} (hI : ∀ o k, o ≠ 9 → o ≠ A → I' o k = mI m o k) (hs : ∀ k, 3 ≤ k → k ≤ 13 → k ≠ 4 → I' 9 k = J'.1 k) (hl : J'.2.1 = J.2.1) (hq : J'.2.2.2 = J.2.2.2) (h5 : J'.1 5 = J.1 5) (hA : FrA F (wI m I') J' A) (h3 : 4 * J'.1 3 ≤ (LA : Int)) : CZa b (wI m I') F J' A B LA LB := by
  obtain ⟨hr, hz, h1, h2, -, hB, hla, hlb⟩ := h
  have hr' := hr
  obtain ⟨⟨a1, a2, a3, a4, a5, a6, a7⟩, ⟨b1, b2, b3, b4, b5, b6, b7⟩, hAB, r1, r2⟩ := hr
  refine ⟨hr', ⟨hz.1, hz.2.1, hz.2.2.1, hz.2.2.2.1, fun o k ho h9 h10 hx hy => ?_⟩, hs, fun k hk => ?_, hA, fun j hj => ?_, h3, by omega⟩
  · refine (hI o k h9 (fun e => ?_)).trans (hz.2.2.2.2 o k ho h9 h10 hx hy)
    subst e
    rcases a7 with a7 | a7
    · exact hx a7
    · omega
  · rw [hl]; exact (hI 10 k (by decide) (by omega)).trans (h2 k hk)
  · have a := hB j (by omega)
    show I' B (5 * j) = _ ∧ I' B (5 * j + 1) = _ ∧ I' B (5 * j + 2) = _ ∧ I' B (5 * j + 3) = _ ∧ I' B (5 * j + 4) = _
    rw [hq, hI B _ (by omega) (by omega), hI B _ (by omega) (by omega), hI B _ (by omega) (by omega), hI B _ (by omega) (by omega), hI B _ (by omega) (by omega)]
    exact a
theorem CZa.ofB (h : CZa b m F J A B LA LB) {I' : Nat → Nat → Int} {J' : SJ} (hI : ∀ o k, o ≠ 9 → o ≠ B → I' o k = mI m o k) (hs : ∀ k, 3 ≤ k → k ≤ 13 → k ≠ 4 → I' 9 k = J'.1 k) (hl : J'.2.1 = J.2.1) (hq : J'.2.2.1 = J.2.2.1) (h5 : J'.1 3 = J.1 3) (hB : OpB F (wI m I') J' B) (h3 : 5 * J'.1 5 ≤ (LB : Int)) : CZa b (wI m I') F J' A B LA LB := by
  obtain ⟨hr, hz, h1, h2, hA, -, hla, hlb⟩ := h
  have hr' := hr
  obtain ⟨⟨a1, a2, a3, a4, a5, a6, a7⟩, ⟨b1, b2, b3, b4, b5, b6, b7⟩, hAB, r1, r2⟩ := hr
  refine ⟨hr', ⟨hz.1, hz.2.1, hz.2.2.1, hz.2.2.2.1, fun o k ho h9 h10 hx hy => ?_⟩, hs, fun k hk => ?_, fun i hi => ?_, hB, by omega, h3⟩
  · refine (hI o k h9 (fun e => ?_)).trans (hz.2.2.2.2 o k ho h9 h10 hx hy)
    subst e
    rcases b7 with b7 | b7
    · exact hy b7
    · omega
  · rw [hl]; exact (hI 10 k (by decide) (by omega)).trans (h2 k hk)
  · have a := hA i (by omega)
    show I' A (4 * i) = _ ∧ I' A (4 * i + 1) = _ ∧ I' A (4 * i + 2) = _ ∧ I' A (4 * i + 3) = _
    rw [hq, hI A _ (by omega) (by omega), hI A _ (by omega) (by omega), hI A _ (by omega) (by omega), hI A _ (by omega) (by omega)]
    exact a
theorem CZa.pF {far st : Int} (h : CZa b m F J A B LA LB) (h0 : 0 ≤ J.1 3) (hst : st = stC F (J.1 7) far) (hl : 4 * J.1 3 + 4 ≤ (LA : Int)) : CZ b (setI (setI (setI (setI (setI (setI m A (J.1 3 * 4 + 0).toNat (J.1 7)) A (J.1 3 * 4 + 1).toNat (J.1 8)) A (J.1 3 * 4 + 2).toNat st) A (J.1 3 * 4 + 3).toNat (J.1 9)) 9 8 (J.1 3)) 9 3 (J.1 3 + 1)) F (pushF F J far) := by
  have a9 := h.1.1.2.2.2.2.2.1
  have e0 : (J.1 3 * 4 + 0).toNat = 4 * (J.1 3).toNat := by omega
  have e1 : (J.1 3 * 4 + 1).toNat = 4 * (J.1 3).toNat + 1 := by omega
  have e2 : (J.1 3 * 4 + 2).toNat = 4 * (J.1 3).toNat + 2 := by omega
  have e3 : (J.1 3 * 4 + 3).toNat = 4 * (J.1 3).toNat + 3 := by omega
  rw [e0, e1, e2, e3]
  refine ⟨A, B, LA, LB, CZa.ofA (I' := up2 (up2 (up2 (up2 (up2 (up2 (mI m) A (4 * (J.1 3).toNat) (J.1 7)) A (4 * (J.1 3).toNat + 1) (J.1 8)) A (4 * (J.1 3).toNat + 2) st) A (4 * (J.1 3).toNat + 3) (J.1 9)) 9 8 (J.1 3)) 9 3 (J.1 3 + 1)) h (fun o k h9 hA => ?_) (fun k x1 x2 x3 => ?_) rfl rfl rfl (fun i hi => ?_) ?_⟩
  · rw [up2_no h9, up2_no h9, up2_no hA, up2_no hA, up2_no hA, up2_no hA]
  · show _ = up1 (up1 J.1 8 (J.1 3)) 3 (J.1 3 + 1) k
    unfold up1
    by_cases k3 : k = 3
    · subst k3; rw [up2_s, if_pos rfl]
    · rw [up2_nk k3, if_neg k3]
      by_cases k8 : k = 8
      · subst k8; rw [up2_s, if_pos rfl]
      · rw [up2_nk k8, if_neg k8, up2_no (by omega), up2_no (by omega), up2_no (by omega), up2_no (by omega)]
        exact h.2.2.1 k x1 x2 x3
  · have hi' : (i : Int) < J.1 3 + 1 := hi
    have r : ∀ k, mI (wI m (up2 (up2 (up2 (up2 (up2 (up2 (mI m) A (4 * (J.1 3).toNat) (J.1 7)) A (4 * (J.1 3).toNat + 1) (J.1 8)) A (4 * (J.1 3).toNat + 2) st) A (4 * (J.1 3).toNat + 3) (J.1 9)) 9 8 (J.1 3)) 9 3 (J.1 3 + 1))) A k = up2 (up2 (up2 (up2 (mI m) A (4 * (J.1 3).toNat) (J.1 7)) A (4 * (J.1 3).toNat + 1) (J.1 8)) A (4 * (J.1 3).toNat + 2) st) A (4 * (J.1 3).toNat + 3) (J.1 9) A k := fun k => (up2_no (by omega)).trans (up2_no (by omega))
    rw [r, r, r, r]
    by_cases e : i = (J.1 3).toNat
    · have hv : (pushF F J far).2.2.1 i = frV F J far := if_pos e
      rw [hv, ← e]
      refine ⟨?_, ?_, ?_, ?_⟩
      · rw [up2_nk (by omega), up2_nk (by omega), up2_nk (by omega), up2_s]; rfl
      · rw [up2_nk (by omega), up2_nk (by omega), up2_s]; rfl
      · rw [up2_nk (by omega), up2_s]; exact hst
      · rw [up2_s]; rfl
    · have hv : (pushF F J far).2.2.1 i = J.2.2.1 i := if_neg e
      rw [hv, up2_nk (by omega), up2_nk (by omega), up2_nk (by omega), up2_nk (by omega), up2_nk (by omega), up2_nk (by omega), up2_nk (by omega), up2_nk (by omega), up2_nk (by omega), up2_nk (by omega), up2_nk (by omega), up2_nk (by omega), up2_nk (by omega), up2_nk (by omega), up2_nk (by omega), up2_nk (by omega)]
      exact h.2.2.2.2.1 i (by omega)
  · show 4 * (J.1 3 + 1) ≤ (LA : Int); omega
theorem CZa.pO {far st : Int} (h : CZa b m F J A B LA LB) (h0 : 0 ≤ J.1 5) (hst : st = lfC F (J.1 7) far) (hl : 5 * J.1 5 + 5 ≤ (LB : Int)) : CZ b (setI (setI (setI (setI (setI (setI m B (J.1 5 * 5 + 0).toNat (J.1 7)) B (J.1 5 * 5 + 1).toNat (J.1 8)) B (J.1 5 * 5 + 2).toNat st) B (J.1 5 * 5 + 3).toNat (J.1 9)) B (J.1 5 * 5 + 4).toNat (J.1 3)) 9 5 (J.1 5 + 1)) F (pushO J far) := by
  have a9 := h.1.2.1.2.2.2.2.2.1
  have e0 : (J.1 5 * 5 + 0).toNat = 5 * (J.1 5).toNat := by omega
  have e1 : (J.1 5 * 5 + 1).toNat = 5 * (J.1 5).toNat + 1 := by omega
  have e2 : (J.1 5 * 5 + 2).toNat = 5 * (J.1 5).toNat + 2 := by omega
  have e3 : (J.1 5 * 5 + 3).toNat = 5 * (J.1 5).toNat + 3 := by omega
  have e4 : (J.1 5 * 5 + 4).toNat = 5 * (J.1 5).toNat + 4 := by omega
  rw [e0, e1, e2, e3, e4]
  refine ⟨A, B, LA, LB, CZa.ofB (I' := up2 (up2 (up2 (up2 (up2 (up2 (mI m) B (5 * (J.1 5).toNat) (J.1 7)) B (5 * (J.1 5).toNat + 1) (J.1 8)) B (5 * (J.1 5).toNat + 2) st) B (5 * (J.1 5).toNat + 3) (J.1 9)) B (5 * (J.1 5).toNat + 4) (J.1 3)) 9 5 (J.1 5 + 1)) h (fun o k h9 hA => ?_) (fun k x1 x2 x3 => ?_) rfl rfl rfl (fun i hi => ?_) ?_⟩
  · rw [up2_no h9, up2_no hA, up2_no hA, up2_no hA, up2_no hA, up2_no hA]
  · show _ = up1 J.1 5 (J.1 5 + 1) k
    unfold up1
    by_cases k3 : k = 5
    · subst k3; rw [up2_s, if_pos rfl]
    · rw [up2_nk k3, if_neg k3, up2_no (by omega), up2_no (by omega), up2_no (by omega), up2_no (by omega), up2_no (by omega)]
      exact h.2.2.1 k x1 x2 x3
  · have hi' : (i : Int) < J.1 5 + 1 := hi
    have r : ∀ k, mI (wI m (up2 (up2 (up2 (up2 (up2 (up2 (mI m) B (5 * (J.1 5).toNat) (J.1 7)) B (5 * (J.1 5).toNat + 1) (J.1 8)) B (5 * (J.1 5).toNat + 2) st) B (5 * (J.1 5).toNat + 3) (J.1 9)) B (5 * (J.1 5).toNat + 4) (J.1 3)) 9 5 (J.1 5 + 1))) B k = up2 (up2 (up2 (up2 (up2 (mI m) B (5 * (J.1 5).toNat) (J.1 7)) B (5 * (J.1 5).toNat + 1) (J.1 8)) B (5 * (J.1 5).toNat + 2) st) B (5 * (J.1 5).toNat + 3) (J.1 9)) B (5 * (J.1 5).toNat + 4) (J.1 3) B k := fun k => up2_no (by omega)
    rw [r, r, r, r, r]
    by_cases e : i = (J.1 5).toNat
    · have hv : (pushO J far).2.2.2 i = opV J far := if_pos e
      rw [hv, ← e]
      refine ⟨?_, ?_, ?_, ?_, ?_⟩
      · rw [up2_nk (by omega), up2_nk (by omega), up2_nk (by omega), up2_nk (by omega), up2_s]; rfl
      · rw [up2_nk (by omega), up2_nk (by omega), up2_nk (by omega), up2_s]; rfl
      · rw [up2_nk (by omega), up2_nk (by omega), up2_s]; exact hst
      · rw [up2_nk (by omega), up2_s]; rfl
      · rw [up2_s]; rfl
    · have hv : (pushO J far).2.2.2 i = J.2.2.2 i := if_neg e
      have q : ∀ k, 5 * i ≤ k → k < 5 * i + 5 → up2 (up2 (up2 (up2 (up2 (mI m) B (5 * (J.1 5).toNat) (J.1 7)) B (5 * (J.1 5).toNat + 1) (J.1 8)) B (5 * (J.1 5).toNat + 2) st) B (5 * (J.1 5).toNat + 3) (J.1 9)) B (5 * (J.1 5).toNat + 4) (J.1 3) B k = mI m B k := fun k hk hk2 => by
        rw [up2_nk (by omega), up2_nk (by omega), up2_nk (by omega), up2_nk (by omega), up2_nk (by omega)]
      rw [hv]
      rw [q (5 * i) (by omega) (by omega), q (5 * i + 1) (by omega) (by omega), q (5 * i + 2) (by omega) (by omega), q (5 * i + 3) (by omega) (by omega), q (5 * i + 4) (by omega) (by omega)]
      exact h.2.2.2.2.2.1 i (by omega)
  · show 5 * (J.1 5 + 1) ≤ (LB : Int); omega
def iniM (m : Mem) (c st : Int) : Mem := setI (setI (setI (setI (setI (setI (setI (setI (setI (setI m 9 6 st) 9 9 st) 9 7 (c - 1)) 9 8 (-1)) 9 3 0) 9 5 0) 9 10 0) 9 11 0) 9 12 0) 9 13 0
theorem CZ.ini (hS : SB b P Q L F c n may hc cl) (hl : ∀ k, k < 32 → mI b 10 k = J.2.1 k) (st : Int) : CZ b (iniM b (c : Int) st) F (iniJ J (c : Int) st) := by
  obtain ⟨-, -, -, -, -, -, A, B, LA, LB, h1, h2, h3, h4, h5, h6, h7, h8, q1, q2, q3, q4, q5, -⟩ := hS
  have eA : lnA b = LA := by
    show (mT b ((mR b 9 2).getD 0)).2 = LA
    rw [h1]
    show (mT b A).2 = LA
    rw [h2]
  have eB : lnB b = LB := by
    show (mT b ((mR b 9 4).getD 0)).2 = LB
    rw [h5]
    show (mT b B).2 = LB
    rw [h6]
  have hI : ∀ o k, o ≠ 9 → mI (iniM b (c : Int) st) o k = mI b o k := fun o k ho => by
    show up2 (up2 (up2 (up2 (up2 (up2 (up2 (up2 (up2 (up2 (mI b) 9 6 st) 9 9 st) 9 7 ((c : Int) - 1)) 9 8 (-1)) 9 3 0) 9 5 0) 9 10 0) 9 11 0) 9 12 0) 9 13 0 o k = _
    rw [up2_no ho, up2_no ho, up2_no ho, up2_no ho, up2_no ho, up2_no ho, up2_no ho, up2_no ho, up2_no ho, up2_no ho]
  refine ⟨A, B, LA, LB, ⟨⟨h1, h2, q1, h3, h4, q2, Or.inl h1⟩, ⟨h5, h6, q3, h7, h8, q4, Or.inl h5⟩, q5, ?_, ?_⟩, ⟨Nat.le_refl _, Nat.le_refl _, fun _ _ => rfl, fun _ _ _ _ => rfl, fun o k ho h9 h10 hx hy => hI o k h9⟩, fun k a b' c' => ?_, fun k hk => (hI 10 k (by decide)).trans (hl k hk), fun i hi => ?_, fun j hj => ?_, ?_, ?_⟩
  · rw [eA, eB]; show mN b + LA + LB ≤ mN b + LA + LB; omega
  · rw [eA, eB]; show mZ b + 2 * LA + 2 * LB ≤ mZ b + 2 * LA + 2 * LB; omega
  · match k, a, b', c' with
    | 3, _, _, _ => rfl
    | 5, _, _, _ => rfl
    | 6, _, _, _ => rfl
    | 7, _, _, _ => rfl
    | 8, _, _, _ => rfl
    | 9, _, _, _ => rfl
    | 10, _, _, _ => rfl
    | 11, _, _, _ => rfl
    | 12, _, _, _ => rfl
    | 13, _, _, _ => rfl
  · have : (i : Int) < 0 := hi; omega
  · have : (j : Int) < 0 := hj; omega
  · show 4 * (0 : Int) ≤ _; omega
  · show 5 * (0 : Int) ≤ _; omega
theorem SB.no2 (hS : SB b P Q L F c n may hc cl) {o : Nat} (h : o < 59 ∧ o ≠ 11 ∧ o ≠ 12) : mR b 9 2 ≠ some o ∧ mR b 9 4 ≠ some o := by
  obtain ⟨-, -, -, -, -, -, A0, B0, LA, LB, h1, h2, h3, h4, h5, h6, h7, h8, q1, q2, q3, q4, q5, q6, q7⟩ := hS
  refine ⟨fun e => ?_, fun e => ?_⟩
  · rw [h1] at e; cases e; omega
  · rw [h5] at e; cases e; omega
theorem SB.wr {I2 : Nat → Nat → Int} (hS : SB b P Q L F c n may hc cl) (hI : ∀ o k, ¬ (5 ≤ o ∧ o ≤ 8) → ¬ (18 ≤ o ∧ o ≤ 21) → I2 o k = mI b o k) : SB (wI b I2) P Q L F c n may hc cl := by
  obtain ⟨s0, ⟨p1, p2, p3, p4, p5, p6, p7⟩, ⟨t1, t2, t3, t4, t5⟩, ⟨n1, n2, n3, n4, n5⟩, hcl, hcd, ha⟩ := hS
  refine ⟨s0, ⟨p1, p2, p3, p4, p5, p6, p7⟩, ⟨(hI P 1 (by omega) (by omega)).trans t1, t2, t3, fun p w hp hw => (hI Q _ (by omega) (by omega)).trans (t4 p w hp hw), t5⟩, ⟨(hI 2 1 (by decide) (by decide)).trans n1, n2, n3, (hI 1 7 (by decide) (by decide)).trans n4, n5⟩, fun k hk => ?_, fun w hw => ?_, ha⟩
  · have h2 : mI (wI b I2) 3 k = mI b 3 k := hI 3 k (by decide) (by decide)
    rw [h2]; exact hcl k hk
  · obtain ⟨q, g1, g2⟩ := hcd w hw
    refine ⟨q, ?_, g2⟩
    cases q with
    | none => exact g1
    | some cd =>
      obtain ⟨x, x1, A', y1, y2, y3, y4, y5, y6, y7, y8, y9⟩ := g1
      exact ⟨x, x1, A', y1, y2, y3, y4, y5, y6, y7, fun k y hy => (hI A' k (by omega) (by omega)).trans (y8 k y hy), y9⟩
theorem SB.nx (hS : SB b P Q L F c n may hc cl) (h : CZ b m F J) : SB m P Q L F c n may hc cl := by
  have hL := h.lay hS
  have hcd := fun w hw => CZ.cd hS h (w := w) hw
  have hrP := h.rP hS
  have htP := h.tP hS
  have hrQ := h.rQ hS
  have htQ := h.tQ hS
  have hgc := h.gc hS
  have htab := h.tab hS
  have hgn := h.gn hS
  have hgm := h.gm hS
  have hcell := fun k hk => CZ.cell hS h (k := k) hk
  obtain ⟨A, B, LA, LB, ⟨⟨a1, a2, a3, a4, a5, a6, a7⟩, ⟨b1, b2, b3, b4, b5, b6, b7⟩, hAB, r1, r2⟩, hz, -⟩ := h
  obtain ⟨⟨-, s59, s1, s2⟩, ⟨-, -, -, -, q1, q2, q3, q4, q5, q6⟩, ⟨-, -, -, -, hW⟩, hn, hcl, -, A0, B0, LA0, LB0, z1, z2, z3, z4, z5, z6, z7, z8, z9, z10, z11, z12, z13, z14, z15⟩ := hS
  have eA : lnA m = LA := by
    show (mT m ((mR m 9 2).getD 0)).2 = LA
    rw [a1]
    show (mT m A).2 = LA
    rw [a2]
  have eB : lnB m = LB := by
    show (mT m ((mR m 9 4).getD 0)).2 = LB
    rw [b1]
    show (mT m B).2 = LB
    rw [b2]
  have hA0 : A = 11 ∨ 59 ≤ A := by
    rcases a7 with a7 | a7
    · rw [z1] at a7; cases a7; exact z14
    · omega
  have hB0 : B = 12 ∨ 59 ≤ B := by
    rcases b7 with b7 | b7
    · rw [z5] at b7; cases b7; exact z15
    · omega
  refine ⟨⟨hL, by have := hz.1; omega, ?_, ?_⟩, ⟨hrP, htP, hrQ, htQ, q1, q2, by have := hz.1; omega, by have := hz.1; omega, ?_, ?_⟩, ⟨hgc.1, hgc.2.1, hgc.2.2, htab, hW⟩, ⟨hgn, hn.2.1, hn.2.2.1, hgm, hn.2.2.2.2⟩, fun k hk => ?_, hcd, A, B, LA, LB, a1, a2, a4, a5, b1, b2, b4, b5, a3, a6, b3, b6, hAB, hA0, hB0⟩
  · rw [eA, eB]; omega
  · rw [eA, eB]; omega
  · rw [a1]; intro e; cases e
    rcases a7 with a7 | a7
    · exact q5 a7
    · omega
  · rw [b1]; intro e; cases e
    rcases b7 with b7 | b7
    · exact q6 b7
    · omega
  · have h1 := hcell k hk
    exact ⟨h1.1, by omega, by omega⟩
end CZL
