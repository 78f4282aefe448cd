/-! THE INVARIANT of the law's loop: what class and reference have in common -/
/-- the object is none of the search's two arrays that grow -/
def noFa (m : Mem) (A : Nat) : Prop := mR m 9 2 ≠ some A ∧ mR m 9 4 ≠ some A
/-- nor is it one of the image's own -/
def noFr (m : Mem) (A : Nat) : Prop := noFa m A ∧ ∀ K, mR m 0 6 = some K → ¬ (K ≤ A ∧ A < K + 8)
def ArrG (b : Mem) : Prop := ∃ A0 B0 LA LB, mR b 9 2 = some A0 ∧ mT b A0 = (20, LA) ∧ 256 ≤ LA ∧ LA ≤ 65536 ∧ mR b 9 4 = some B0 ∧ mT b B0 = (20, LB) ∧ 256 ≤ LB ∧ LB ≤ 65536 ∧ (A0 < mN b ∧ 10 < A0 ∧ B0 < mN b ∧ 10 < B0 ∧ A0 ≠ B0 ∧ (A0 = 11 ∨ 59 ≤ A0) ∧ (B0 = 12 ∨ 59 ≤ B0))
def TabG (m : Mem) (S o : Nat) : Prop := (mI m (S + 1) 1 = mI m o 64 ∧ 0 ≤ mI m o 64 ∧ mI m o 64 ≤ 32) ∧ ∀ k, k < 64 → mI m (S + 2) k = mI m o k ∧ -999 ≤ mI m o k ∧ mI m o k ≤ 1000
def ModG (m : Mem) (S o : Nat) : Prop := (mI m S 4 = mI m o 3332 ∧ 0 ≤ mI m o 3332 ∧ mI m o 3332 ≤ 3) ∧ (mI m S 5 = mI m o 3333 ∧ 0 ≤ mI m o 3333 ∧ mI m o 3333 ≤ 25) ∧ mI m S 6 = mI m o 3334 ∧ (mI m S 7 = mI m o 3335 ∧ 1 ≤ mI m o 3335 ∧ mI m o 3335 ≤ 5000)
def HasPB (m : Mem) (P A L : Nat) (F : Tb) (c : Nat) : Prop := mT m P = (4, 2) ∧ mR m P 0 = some A ∧ mT m A = (20, L) ∧ 59 ≤ P ∧ 59 ≤ A ∧ P ≠ A ∧ P < mN m ∧ A < mN m ∧ mI m P 1 = (c : Int) ∧ 9 * c ≤ L ∧ L ≤ 2160 ∧ CTab (mI m) A F c
def PatG (m : Mem) (S o : Nat) : Prop := ∃ (tx : Nat → Int) (n : Nat), (mI m o 65 = (n : Int) ∧ n ≤ 120 ∧ txR (mI m) o 66 tx n) ∧ ((n = 0 ∧ mR m S 2 = none) ∨ (0 < n ∧ PatW tx n ∧ ∃ P A L, mR m S 2 = some P ∧ HasPB m P A L (altL tx n 5 S0).2.2.2.2 (altL tx n 5 S0).2.2.2.1 ∧ noFr m P ∧ noFr m A))
/-- a condition's code, and where it stands -/
def CdF (m : Mem) (C w : Nat) (cd : List Int) : Prop := ∃ c A, mR m C w = some c ∧ (mT m c = (0, 1) ∧ mR m c 0 = some A ∧ mT m A = (20, cd.length) ∧ 59 ≤ c ∧ 59 ≤ A ∧ c < mN m ∧ A < mN m ∧ (∀ k x, cd[k]? = some x → mI m A k = x) ∧ okL cd ∧ cd.length ≤ 120) ∧ noFr m c ∧ noFr m A
def CndG (m : Mem) (C o : Nat) : Prop := ∀ w, w < 26 → ∃ tx n, CdTx (mI m) o w tx n ∧ ((n = 0 ∧ mR m C w = none) ∨ (0 < n ∧ (eitL tx n 4 (true, 0)).2.2.1 = true ∧ CdF m C w (eitL tx n 4 (true, 0)).1))
def MatG (m : Mem) (M o : Nat) : Prop := ∃ Ms : ML, (Ms.length ≤ 33 ∧ mI m o 3336 = (Ms.length : Int)) ∧ MaC (mI m) M (M + 1) (M + 2) (M + 3) Ms ∧ MaR (mI m) o 3337 Ms ∧ MsOK (mI m o 64) Ms
def SitG (m : Mem) (S M o : Nat) : Prop := SitL (mT m) (mR m) S M ∧ TabG m S o ∧ ModG m S o ∧ PatG m S o ∧ CndG m (S + 3) o ∧ MatG m M o
def TapG (m : Mem) : Prop := (mI m 13 1 = mI m 30 4 ∧ 0 ≤ mI m 30 4 ∧ mI m 30 4 ≤ 120) ∧ ∀ k : Nat, (k : Int) < mI m 30 4 → mI m 14 k = mI m 33 k ∧ 1 ≤ mI m 33 k ∧ mI m 33 k ≤ 127
def PapG (m : Mem) : Prop := ∃ l : List Int, l.length ≤ 120 ∧ PapL (mI m) 15 1 16 l ∧ PapL (mI m) 30 22 44 l
def LstG (m : Mem) : Prop := ∀ l, l < 4 → (mI m (22 + 2 * l) 1 = mI m 56 l ∧ -1 ≤ mI m 56 l ∧ mI m 56 l ≤ 40) ∧ ∀ k, k < 40 → mI m (23 + 2 * l) k = mI m 57 (40 * l + k)
def LtrG (m : Mem) : Prop := (∀ k, k < 32 → mI m 10 k = mI m 45 k) ∧ (∀ k, 0 ≤ mI m 45 k ∧ mI m 45 k ≤ 25) ∧ (mI m 30 27 = 0 ∨ mI m 30 27 = 1)
def KepG (m : Mem) : Prop := (mR m 0 6 = none ∧ mI m 30 2 = 0) ∨ ∃ K, mR m 0 6 = some K ∧ mI m 30 2 = 1 ∧ 59 ≤ K ∧ K + 8 ≤ mN m ∧ noFa m (K + 7) ∧ SitG m K (K + 4) 32
/-- the room: j calls have been -/
def RmG (j : Nat) (m : Mem) : Prop := 59 ≤ mN m ∧ mN m ≤ 100 + 85 * j + lnA m + lnB m ∧ mZ m ≤ 100000 + 5114 * j + 2 * lnA m + 2 * lnB m
def NowG (m : Mem) (M M2 : Nat) : Prop := (M = 5 ∧ M2 = 18 ∨ M = 18 ∧ M2 = 5) ∧ mR m 1 3 = some M ∧ mR m 0 5 = some M2 ∧ SitG m 1 M 31
def Inv (j : Nat) (m : Mem) : Prop := (RmG j m ∧ Lay (mT m) (mR m) ∧ ArrG m) ∧ (TapG m ∧ PapG m ∧ LstG m ∧ LtrG m) ∧ KepG m ∧ ∃ M M2, NowG m M M2
/-- of what patterns and conditions may stand in, nothing has changed -/
def FrM (m m' : Mem) : Prop := mN m ≤ mN m' ∧ (∀ o, o < mN m → mT m' o = mT m o) ∧ (∀ A, A < mN m → noFr m A → noFr m' A) ∧ (∀ x k, 59 ≤ x → x < mN m → noFr m x → mR m' x k = mR m x k) ∧ (∀ x k, 59 ≤ x → x < mN m → noFr m x → mI m' x k = mI m x k)
/-- m' is m but for low objects, the search's arrays and what is new -/
def FrS (m m' : Mem) : Prop := mN m ≤ mN m' ∧ (∀ o, o < mN m → mT m' o = mT m o) ∧ (∀ A, A < mN m → noFa m A → noFa m' A) ∧ (∀ x k, 59 ≤ x → x < mN m → mR m' x k = mR m x k) ∧ (∀ x k, 59 ≤ x → x < mN m → noFa m x → mI m' x k = mI m x k) ∧ mR m' 0 6 = mR m 0 6
theorem FrS.m {m m' : Mem} (h : FrS m m') : FrM m m' := ⟨h.1, h.2.1, fun A hA hn => ⟨h.2.2.1 A hA hn.1, fun K hK => hn.2 K (h.2.2.2.2.2.symm.trans hK)⟩, fun x k h5 hx _ => h.2.2.2.1 x k h5 hx, fun x k h5 hx hn => h.2.2.2.2.1 x k h5 hx hn.1⟩
theorem HasPB.p {m : Mem} {P A L : Nat} {F : Tb} {c : Nat} (h : HasPB m P A L F c) : HasP m P F c := ⟨A, L, h⟩
theorem ArrG.no {m : Mem} (h : ArrG m) {A c n : Nat} (hT : mT m A = (c, n)) (hc : c ≠ 20 ∨ n < 256) : noFa m A := by
  obtain ⟨A0, B0, LA, LB, h1, h2, h3, h4, h5, h6, h7, h8, h9⟩ := h
  refine ⟨fun e => ?_, fun e => ?_⟩
  · rw [h1] at e; cases Option.some.inj e
    rw [h2] at hT; injection hT with a b; omega
  · rw [h5] at e; cases Option.some.inj e
    rw [h6] at hT; injection hT with a b; omega
theorem FrS.tr {m m1 m2 : Mem} (h : FrS m m1) (h2 : FrS m1 m2) : FrS m m2 :=
  ⟨Nat.le_trans h.1 h2.1, fun o ho => (h2.2.1 o (Nat.lt_of_lt_of_le ho h.1)).trans (h.2.1 o ho), fun A hA hn => h2.2.2.1 A (Nat.lt_of_lt_of_le hA h.1) (h.2.2.1 A hA hn), fun x k h5 hx => (h2.2.2.2.1 x k h5 (Nat.lt_of_lt_of_le hx h.1)).trans (h.2.2.2.1 x k h5 hx), fun x k h5 hx hn => (h2.2.2.2.2.1 x k h5 (Nat.lt_of_lt_of_le hx h.1) (h.2.2.1 x hx hn)).trans (h.2.2.2.2.1 x k h5 hx hn), h2.2.2.2.2.2.trans h.2.2.2.2.2⟩
theorem FrS.low {m m' : Mem} (hT : mT m' = mT m) (hR : mR m' = mR m) (hN : mN m' = mN m) (hI : ∀ x k, 59 ≤ x → mI m' x k = mI m x k) : FrS m m' :=
  ⟨by omega, fun o _ => congrFun hT o, fun A _ h => by unfold noFa at *; rw [hR]; exact h, fun x k _ _ => by rw [hR], fun x k h5 _ _ => hI x k h5, by rw [hR]⟩
theorem CdF.at {m : Mem} {C w : Nat} {cd : List Int} (h : CdF m C w cd) : CdAt m C w (some cd) := by
  obtain ⟨c, A, h1, h2, _⟩ := h
  exact ⟨c, h1, A, h2⟩
theorem CdF.frm {m m' : Mem} {C w : Nat} {cd : List Int} (hF : FrM m m') {C' : Nat} (hC : mR m' C' w = mR m C w) (h : CdF m C w cd) : CdF m' C' w cd := by
  obtain ⟨c, A, h1, ⟨h2, h3, h4, h5, h6, h7, h8, h9, h10, h11⟩, n1, n2⟩ := h
  exact ⟨c, A, hC.trans h1, ⟨(hF.2.1 c h7).trans h2, (hF.2.2.2.1 c 0 h5 h7 n1).trans h3, (hF.2.1 A h8).trans h4, h5, h6, Nat.lt_of_lt_of_le h7 hF.1, Nat.lt_of_lt_of_le h8 hF.1, fun k x hx => (hF.2.2.2.2 A k h6 h8 n2).trans (h9 k x hx), h10, h11⟩, hF.2.2.1 c h7 n1, hF.2.2.1 A h8 n2⟩
theorem TabG.fr {m m' : Mem} {S o S' o' : Nat} (h1 : mI m' (S' + 1) 1 = mI m (S + 1) 1) (h2 : ∀ k, k < 64 → mI m' (S' + 2) k = mI m (S + 2) k) (h3 : ∀ k, k ≤ 64 → mI m' o' k = mI m o k) (h : TabG m S o) : TabG m' S' o' := by
  refine ⟨?_, fun k hk => ?_⟩
  · rw [h1, h3 64 (by omega)]; exact h.1
  · rw [h2 k hk, h3 k (by omega)]; exact h.2 k hk
theorem ModG.fr {m m' : Mem} {S o S' o' : Nat} (h1 : ∀ k, 4 ≤ k → k ≤ 7 → mI m' S' k = mI m S k) (h2 : ∀ k, 3332 ≤ k → k ≤ 3335 → mI m' o' k = mI m o k) (h : ModG m S o) : ModG m' S' o' := by
  unfold ModG
  rw [h1 4 (by omega) (by omega), h1 5 (by omega) (by omega), h1 6 (by omega) (by omega), h1 7 (by omega) (by omega), h2 3332 (by omega) (by omega), h2 3333 (by omega) (by omega), h2 3334 (by omega) (by omega), h2 3335 (by omega) (by omega)]
  exact h
theorem PatG.fr {m m' : Mem} {S o S' o' : Nat} (hF : FrM m m') (hS : mR m' S' 2 = mR m S 2) (hI : ∀ k, 65 ≤ k → k < 186 → mI m' o' k = mI m o k) (h : PatG m S o) : PatG m' S' o' := by
  obtain ⟨tx, n, ⟨h1, h2, h3⟩, h4⟩ := h
  refine ⟨tx, n, ⟨(hI 65 (by omega) (by omega)).trans h1, h2, fun k hk => ?_⟩, ?_⟩
  · rw [hI (66 + k) (by omega) (by omega)]; exact h3 k hk
  · rcases h4 with ⟨h5, h6⟩ | ⟨h5, h6, P, A, L, h7, h8, h9, h10⟩
    · exact Or.inl ⟨h5, hS.trans h6⟩
    · obtain ⟨q1, q2, q3, q4, q5, q6, q7, q8, q9, q10, q11, q12⟩ := h8
      exact Or.inr ⟨h5, h6, P, A, L, hS.trans h7, ⟨(hF.2.1 P q7).trans q1, (hF.2.2.2.1 P 0 q4 q7 h9).trans q2, (hF.2.1 A q8).trans q3, q4, q5, q6, Nat.lt_of_lt_of_le q7 hF.1, Nat.lt_of_lt_of_le q8 hF.1, (hF.2.2.2.2 P 1 q4 q7 h9).trans q9, q10, q11, fun p w hp hw => (hF.2.2.2.2 A _ q5 q8 h10).trans (q12 p w hp hw)⟩, hF.2.2.1 P q7 h9, hF.2.2.1 A q8 h10⟩
theorem CndG.fr {m m' : Mem} {C o C' o' : Nat} (hF : FrM m m') (hC : ∀ w, w < 26 → mR m' C' w = mR m C w) (hI : ∀ k, 186 ≤ k → k < 3332 → mI m' o' k = mI m o k) (h : CndG m C o) : CndG m' C' o' := fun w hw => by
  obtain ⟨tx, n, ⟨h1, h2, h3⟩, h4⟩ := h w hw
  refine ⟨tx, n, ⟨(hI _ (by omega) (by omega)).trans h1, h2, fun k hk => ?_⟩, ?_⟩
  · rw [hI _ (by omega) (by omega)]; exact h3 k hk
  · rcases h4 with ⟨h5, h6⟩ | ⟨h5, h6, h7⟩
    · exact Or.inl ⟨h5, (hC w hw).trans h6⟩
    · exact Or.inr ⟨h5, h6, h7.frm hF (hC w hw)⟩
theorem ML_lt {Ms : ML} {j : Nat} {s e : Int} {le : Nat → Int} (h : Ms[j]? = some (s, e, le)) : j < Ms.length := by
  rcases Nat.lt_or_ge j Ms.length with g | g
  · exact g
  · rw [List.getElem?_eq_none g] at h; cases h
theorem MatG.fr {m m' : Mem} {M o M' o' : Nat} (h0 : mI m' M' 3 = mI m M 3) (h1' : ∀ k, k < 33 → mI m' (M' + 1) k = mI m (M + 1) k) (h2' : ∀ k, k < 33 → mI m' (M' + 2) k = mI m (M + 2) k) (h3' : ∀ k, k < 1056 → mI m' (M' + 3) k = mI m (M + 3) k) (h32 : mI m o 64 ≤ 32) (h64 : mI m' o' 64 = mI m o 64) (hI : ∀ k, 3336 ≤ k → k < 4459 → mI m' o' k = mI m o k) (h : MatG m M o) : MatG m' M' o' := by
  obtain ⟨Ms, ⟨h1, h2⟩, ⟨h3, h4⟩, h5, h6⟩ := h
  refine ⟨Ms, ⟨h1, (hI _ (by omega) (by omega)).trans h2⟩, ⟨h0.trans h3, fun j s e le hj => ?_⟩, fun j s e le hj => ?_, ?_⟩
  · have q := h4 j s e le hj
    have hl := ML_lt hj
    exact ⟨(h1' _ (by omega)).trans q.1, (h2' _ (by omega)).trans q.2.1, fun r hr => (h3' _ (by omega)).trans (q.2.2 r hr)⟩
  · have q := h5 j s e le hj
    have hl := ML_lt hj
    have hq := h6 _ (List.mem_of_getElem? hj)
    have hb : 0 ≤ s ∧ s ≤ e ∧ e ≤ mI m o 64 := ⟨hq.1, hq.2.1, hq.2.2.1⟩
    exact ⟨(hI _ (by omega) (by omega)).trans q.1, (hI _ (by omega) (by omega)).trans q.2.1, fun r hr => (hI _ (by omega) (by omega)).trans (q.2.2 r hr)⟩
  · rw [h64]; exact h6
theorem MatG.mv {m m' : Mem} {M o : Nat} (hM : ∀ x k, M ≤ x → x ≤ M + 3 → mI m' x k = mI m x k) (h64 : mI m' o 64 = mI m o 64) (hI : ∀ k, 3336 ≤ k → mI m' o k = mI m o k) (h : MatG m M o) : MatG m' M o := by
  obtain ⟨Ms, ⟨h1, h2⟩, ⟨h3, h4⟩, h5, h6⟩ := h
  refine ⟨Ms, ⟨h1, (hI _ (by omega)).trans h2⟩, ⟨(hM _ _ (by omega) (by omega)).trans h3, fun j s e le hj => ?_⟩, fun j s e le hj => ?_, ?_⟩
  · have q := h4 j s e le hj
    exact ⟨(hM _ _ (by omega) (by omega)).trans q.1, (hM _ _ (by omega) (by omega)).trans q.2.1, fun r hr => (hM _ _ (by omega) (by omega)).trans (q.2.2 r hr)⟩
  · have q := h5 j s e le hj
    exact ⟨(hI _ (by omega)).trans q.1, (hI _ (by omega)).trans q.2.1, fun r hr => (hI _ (by omega)).trans (q.2.2 r hr)⟩
  · rw [h64]; exact h6
/-- no matches -/
theorem MatG.nil {m : Mem} {M o : Nat} (h1 : mI m M 3 = 0) (h2 : mI m o 3336 = 0) : MatG m M o :=
  ⟨[], ⟨Nat.zero_le _, h2⟩, ⟨h1, fun j s e le hj => (by cases hj)⟩, fun j s e le hj => (by cases hj), fun x hx => (by cases hx)⟩
theorem SitG.fr {m m' : Mem} {S M o : Nat} (hF : FrM m m') (hb : S + 3 < mN m ∧ M + 3 < mN m ∧ (S + 3 < M ∨ M + 3 < S)) (hR : ∀ x k, (S ≤ x ∧ x ≤ S + 3) ∨ (M ≤ x ∧ x ≤ M + 3) → mR m' x k = mR m x k) (hI : ∀ x k, (S ≤ x ∧ x ≤ S + 2) ∨ (M ≤ x ∧ x ≤ M + 3) ∨ x = o → mI m' x k = mI m x k) (h : SitG m S M o) : SitG m' S M o := by
  obtain ⟨h1, h2, h3, h4, h5, h6⟩ := h
  exact ⟨h1.mv (fun x hx => hF.2.1 x (by omega)) (fun x k hx _ => hR x k (by omega)) hb.2.2, h2.fr (hI _ _ (by omega)) (fun k _ => hI _ _ (by omega)) (fun k _ => hI _ _ (by omega)), h3.fr (fun k _ _ => hI _ _ (by omega)) (fun k _ _ => hI _ _ (by omega)), h4.fr hF (hR _ _ (by omega)) (fun k _ _ => hI _ _ (by omega)), h5.fr hF (fun w _ => hR _ _ (by omega)) (fun k _ _ => hI _ _ (by omega)), h6.mv (fun x k _ _ => hI _ _ (by omega)) (hI _ _ (by omega)) (fun k _ => hI _ _ (by omega))⟩
theorem TapG.fr {m m' : Mem} (hI : ∀ o k, o = 13 ∧ k = 1 ∨ o = 14 ∨ o = 30 ∧ k = 4 ∨ o = 33 → mI m' o k = mI m o k) (h : TapG m) : TapG m' := by
  refine ⟨?_, fun k hk => ?_⟩
  · rw [hI 13 1 (by omega), hI 30 4 (by omega)]; exact h.1
  · rw [hI 30 4 (by omega)] at hk; rw [hI 14 k (by omega), hI 33 k (by omega)]; exact h.2 k hk
theorem PapG.fr {m m' : Mem} (hI : ∀ o k, o = 15 ∧ k = 1 ∨ o = 16 ∨ o = 30 ∧ k = 22 ∨ o = 44 → mI m' o k = mI m o k) (h : PapG m) : PapG m' := by
  obtain ⟨l, h0, h1, h2⟩ := h
  exact ⟨l, h0, ⟨(hI 15 1 (by omega)).trans h1.1, fun k x hx => (hI 16 k (by omega)).trans (h1.2 k x hx)⟩, ⟨(hI 30 22 (by omega)).trans h2.1, fun k x hx => (hI 44 k (by omega)).trans (h2.2 k x hx)⟩⟩
theorem LstG.fr {m m' : Mem} (hI : ∀ o k, (22 ≤ o ∧ o ≤ 29) ∨ o = 56 ∨ o = 57 → mI m' o k = mI m o k) (h : LstG m) : LstG m' := fun l hl => by
  refine ⟨?_, fun k hk => ?_⟩
  · rw [hI (22 + 2 * l) 1 (by omega), hI 56 l (by omega)]; exact (h l hl).1
  · rw [hI (23 + 2 * l) k (by omega), hI 57 (40 * l + k) (by omega)]; exact (h l hl).2 k hk
theorem LtrG.fr {m m' : Mem} (hI : ∀ o k, o = 10 ∨ o = 45 ∨ o = 30 ∧ k = 27 → mI m' o k = mI m o k) (h : LtrG m) : LtrG m' := by
  refine ⟨fun k hk => ?_, fun k => ?_, ?_⟩
  · rw [hI 10 k (by omega), hI 45 k (by omega)]; exact h.1 k hk
  · rw [hI 45 k (by omega)]; exact h.2.1 k
  · rw [hI 30 27 (by omega)]; exact h.2.2
theorem KepG.fr {m m' : Mem} (ha : ArrG m) (hn : 59 ≤ mN m) (hF : FrS m m') (hI : ∀ o k, o = 32 ∨ o = 30 ∧ k = 2 → mI m' o k = mI m o k) (h : KepG m) : KepG m' := by
  rcases h with ⟨h1, h2⟩ | ⟨K, h1, h2, h3, h4, h5, h6⟩
  · exact Or.inl ⟨hF.2.2.2.2.2.trans h1, (hI 30 2 (by omega)).trans h2⟩
  · refine Or.inr ⟨K, hF.2.2.2.2.2.trans h1, (hI 30 2 (by omega)).trans h2, h3, Nat.le_trans h4 hF.1, hF.2.2.1 _ (by omega) h5, h6.fr hF.m (by omega) (fun x k hx => hF.2.2.2.1 x k (by omega) (by omega)) (fun x k hx => ?_)⟩
    have hs := h6.1
    rcases (show x = 32 ∨ x = K ∨ x = K + 1 ∨ x = K + 2 ∨ x = K + 4 ∨ x = K + 4 + 1 ∨ x = K + 4 + 2 ∨ x = K + 7 by omega) with e | e | e | e | e | e | e | e
    · exact hI x k (Or.inl e)
    · exact hF.2.2.2.2.1 x k (by omega) (by omega) (by rw [e]; exact ha.no hs.1 (by omega))
    · exact hF.2.2.2.2.1 x k (by omega) (by omega) (by rw [e]; exact ha.no hs.2.2.2.2.1 (by omega))
    · exact hF.2.2.2.2.1 x k (by omega) (by omega) (by rw [e]; exact ha.no hs.2.2.2.2.2.2.1 (by omega))
    · exact hF.2.2.2.2.1 x k (by omega) (by omega) (by rw [e]; exact ha.no hs.2.2.2.2.2.2.2.2.1 (by omega))
    · exact hF.2.2.2.2.1 x k (by omega) (by omega) (by rw [e]; exact ha.no hs.2.2.2.2.2.2.2.2.2.2.2.2.1 (by omega))
    · exact hF.2.2.2.2.1 x k (by omega) (by omega) (by rw [e]; exact ha.no hs.2.2.2.2.2.2.2.2.2.2.2.2.2.1 (by omega))
    · exact hF.2.2.2.2.1 x k (by omega) (by omega) (by rw [e]; exact h5)
theorem RmG.up {j : Nat} {m m' : Mem} (h : RmG j m) (hN : mN m ≤ mN m') (ha : lnA m' = lnA m) (hb : lnB m' = lnB m) (h1 : mN m' ≤ mN m + 85) (h2 : mZ m' ≤ mZ m + 5114) : RmG (j + 1) m' := by
  unfold RmG at *
  rw [ha, hb]
  omega
theorem RmG.same {j : Nat} {m m' : Mem} (h : RmG j m) (hT : mT m' = mT m) (hR : mR m' = mR m) (hN : mN m' = mN m) (hZ : mZ m' = mZ m) : RmG (j + 1) m' :=
  h.up (by omega) (by unfold lnA; rw [hT, hR]) (by unfold lnB; rw [hT, hR]) (by omega) (by omega)
theorem ArrG.same {m m' : Mem} (h : ArrG m) (hT : mT m' = mT m) (hR : mR m' = mR m) (hN : mN m' = mN m) : ArrG m' := by
  unfold ArrG at *
  rw [hT, hR, hN]
  exact h
/-- a call that makes nothing and changes no reference -/
theorem Inv.low {j : Nat} {m m' : Mem} {M : Nat} (h : Inv j m) (hT : mT m' = mT m) (hR : mR m' = mR m) (hN : mN m' = mN m) (hZ : mZ m' = mZ m) (hfr : ∀ o k, 59 ≤ o ∨ o = 32 ∨ o = 30 ∧ k = 2 → mI m' o k = mI m o k) (ht : TapG m → TapG m') (hp : PapG m → PapG m') (hl : LstG m → LstG m') (hlt : LtrG m → LtrG m') (rM : mR m 1 3 = some M) (hs : (TabG m 1 31 → TabG m' 1 31) ∧ (ModG m 1 31 → ModG m' 1 31) ∧ (∀ k, 65 ≤ k → k < 3332 → mI m' 31 k = mI m 31 k) ∧ (MatG m M 31 → MatG m' M 31)) : Inv (j + 1) m' := by
  obtain ⟨⟨hr, hL, ha⟩, ⟨g1, g2, g3, g4⟩, hk, M0, M2, hM, r1, r2, s1, s2, s3, s4, s5, s6⟩ := h
  cases Option.some.inj (r1.symm.trans rM)
  have hF : FrS m m' := FrS.low hT hR hN (fun x k hx => hfr x k (Or.inl hx))
  obtain ⟨q1, q2, q3, q4⟩ := hs
  refine ⟨⟨hr.same hT hR hN hZ, by rw [hT, hR]; exact hL, ha.same hT hR hN⟩, ⟨ht g1, hp g2, hl g3, hlt g4⟩, hk.fr ha hr.1 hF (fun o k ho => hfr o k (Or.inr ho)), M, M2, hM, by rw [hR]; exact r1, by rw [hR]; exact r2, by rw [hT, hR]; exact s1, q1 s2, q2 s3, s4.fr hF.m (by rw [hR]) (fun k h1 h2 => q3 k h1 (by omega)), s5.fr hF.m (fun w _ => by rw [hR]) (fun k h1 h2 => q3 k (by omega) h2), q4 s6⟩
theorem Inv.tick {j : Nat} {m : Mem} (h : Inv j m) : Inv (j + 1) m := by
  obtain ⟨_, _, _, M, M2, u⟩ := id h
  exact h.low rfl rfl rfl rfl (fun _ _ _ => rfl) id id id id u.2.1 ⟨id, id, fun _ _ _ => rfl, id⟩
/-- only the search's and the readers' own numbers have changed: nothing that a call tells -/
theorem Inv.quiet {j : Nat} {m m' : Mem} (h : Inv j m) (hT : mT m' = mT m) (hR : mR m' = mR m) (hN : mN m' = mN m) (hZ : mZ m' = mZ m) (hlt : LtrG m → LtrG m') (hfr : ∀ o k, ¬ (o = 9 ∨ o = 10 ∨ (34 ≤ o ∧ o ≤ 43) ∨ (45 ≤ o ∧ o ≤ 55) ∨ o = 58 ∨ o = 30 ∧ k ≠ 2 ∧ k ≠ 4 ∧ k ≠ 22) → mI m' o k = mI m o k) : Inv (j + 1) m' := by
  obtain ⟨_, _, _, M, M2, u⟩ := id h
  have hM := u.1
  exact h.low hT hR hN hZ (fun o k ho => hfr o k (by omega)) (fun q => q.fr (fun o k ho => hfr o k (by omega))) (fun q => q.fr (fun o k ho => hfr o k (by omega))) (fun q => q.fr (fun o k ho => hfr o k (by omega))) hlt u.2.1 ⟨fun q => q.fr (hfr _ _ (by omega)) (fun k _ => hfr _ _ (by omega)) (fun k _ => hfr _ _ (by omega)), fun q => q.fr (fun k _ _ => hfr _ _ (by omega)) (fun k _ _ => hfr _ _ (by omega)), fun k _ _ => hfr _ _ (by omega), fun q => q.mv (fun x k _ _ => hfr _ _ (by omega)) (hfr _ _ (by omega)) (fun k _ => hfr _ _ (by omega))⟩
/-- one call of both, with one answer -/
def Op (j : Nat) (m : Mem) (a b : MI) (F G : Nat) (as : List AV) : Prop := ∃ P : Int → Mem → Prop, Ct a F (vr 0 :: as) m (ri P) ∧ ∀ x m1, P x m1 → mT m1 30 = (11, 53) ∧ ∃ Q : Int → Mem → Prop, Ct b G (vr 30 :: as) m1 (ri Q) ∧ ∀ y m2, Q y m2 → y = x ∧ Inv (j + 1) m2
def OpL (j : Nat) (m : Mem) (a b : MI) (F G : Nat) (as : List AV) : Prop := ∃ P : Int → Mem → Prop, Ct a F (vr 0 :: as) m (rl P) ∧ ∀ x m1, P x m1 → mT m1 30 = (11, 53) ∧ ∃ Q : Int → Mem → Prop, Ct b G (vr 30 :: as) m1 (rl Q) ∧ ∀ y m2, Q y m2 → y = x ∧ Inv (j + 1) m2
