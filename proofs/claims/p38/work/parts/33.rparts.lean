/-! the reference reads: parts -/
theorem RTab.mk {I I' : Nat → Nat → Int} {F : Tb} {c : Nat} {so le ki fi : Int} {g : Nat → Int} (h : RTab I F c) (h1 : ∀ a p, 35 ≤ a → a ≤ 43 → p < c → I' a p = I a p) (e0 : I' 35 c = so) (e1 : I' 36 c = le) (e2 : I' 40 c = ki) (e3 : I' 37 c = -5) (e4 : I' 38 c = -5) (e5 : I' 39 c = -5) (e6 : I' 43 c = -5) (e7 : I' 41 c = fi) (e8 : I' 42 c = -5) : RTab I' (mkT F c so le ki fi g) (c + 1) := by
  intro p hp
  by_cases e : p = c
  · subst e
    unfold mkT
    simp [e0, e1, e2, e3, e4, e5, e6, e7, e8]
  · obtain ⟨a0, a1, a2, a3, a4, a5, a6, a7, a8⟩ := h p (by omega)
    rw [mkT_ne e, mkT_ne e, mkT_ne e, mkT_ne e, mkT_ne e, mkT_ne e, mkT_ne e, mkT_ne e, mkT_ne e]
    refine ⟨?_, ?_, ?_, ?_, ?_, ?_, ?_, ?_, ?_⟩ <;> rw [h1 _ p (by decide) (by decide) (by omega)] <;> assumption
theorem RTab.w6 {I : Nat → Nat → Int} {G : Tb} {c k : Nat} {v : Int} (h : RTab I G c) : RTab (up2 I 43 k v) (up2 G k 6 v) c := by
  intro p hp
  obtain ⟨a0, a1, a2, a3, a4, a5, a6, a7, a8⟩ := h p hp
  refine ⟨?_, ?_, ?_, ?_, ?_, ?_, ?_, ?_, ?_⟩
  · exact a0.trans (up2_nk (by decide)).symm
  · exact a1.trans (up2_nk (by decide)).symm
  · exact a2.trans (up2_nk (by decide)).symm
  · exact a3.trans (up2_nk (by decide)).symm
  · exact a4.trans (up2_nk (by decide)).symm
  · exact a5.trans (up2_nk (by decide)).symm
  · by_cases e : p = k
    · subst e; rw [up2_s, up2_s]
    · rw [up2_nk e, up2_no e]; exact a6
  · exact a7.trans (up2_nk (by decide)).symm
  · exact a8.trans (up2_nk (by decide)).symm
def colA (w : Nat) : Nat := if w = 0 then 35 else if w = 1 then 36 else if w = 2 then 40 else if w = 3 then 37 else if w = 4 then 38 else if w = 5 then 39 else if w = 6 then 43 else if w = 7 then 41 else 42
theorem RTab.at {I : Nat → Nat → Int} {G : Tb} {c : Nat} (h : RTab I G c) {p w : Nat} (hp : p < c) (hw : w < 9) : I (colA w) p = G p w := by
  obtain ⟨a0, a1, a2, a3, a4, a5, a6, a7, a8⟩ := h p hp
  have e : w = 0 ∨ w = 1 ∨ w = 2 ∨ w = 3 ∨ w = 4 ∨ w = 5 ∨ w = 6 ∨ w = 7 ∨ w = 8 := by omega
  rcases e with rfl | rfl | rfl | rfl | rfl | rfl | rfl | rfl | rfl <;> assumption
theorem RTab.of {I : Nat → Nat → Int} {G : Tb} {c : Nat} (h : ∀ p w, p < c → w < 9 → I (colA w) p = G p w) : RTab I G c := fun p hp =>
  ⟨h p 0 hp (by decide), h p 1 hp (by decide), h p 2 hp (by decide), h p 3 hp (by decide), h p 4 hp (by decide), h p 5 hp (by decide), h p 6 hp (by decide), h p 7 hp (by decide), h p 8 hp (by decide)⟩
theorem RTab.wr {I : Nat → Nat → Int} {G : Tb} {c k w : Nat} {v : Int} (h : RTab I G c) (hw : w < 9) : RTab (up2 I (colA w) k v) (up2 G k w v) c := by
  apply RTab.of
  intro p w' hp hw'
  have h0 := h.at hp hw'
  unfold up2
  by_cases e : p = k ∧ w' = w
  · obtain ⟨rfl, rfl⟩ := e
    rw [if_pos ⟨rfl, rfl⟩, if_pos ⟨rfl, rfl⟩]
  · rw [if_neg e, if_neg, h0]
    intro e2
    apply e
    refine ⟨e2.2, ?_⟩
    have e3 := e2.1
    have a1 : w = 0 ∨ w = 1 ∨ w = 2 ∨ w = 3 ∨ w = 4 ∨ w = 5 ∨ w = 6 ∨ w = 7 ∨ w = 8 := by omega
    have a2 : w' = 0 ∨ w' = 1 ∨ w' = 2 ∨ w' = 3 ∨ w' = 4 ∨ w' = 5 ∨ w' = 6 ∨ w' = 7 ∨ w' = 8 := by omega
    rcases a1 with rfl | rfl | rfl | rfl | rfl | rfl | rfl | rfl | rfl <;> rcases a2 with rfl | rfl | rfl | rfl | rfl | rfl | rfl | rfl | rfl <;> first | rfl | (exact absurd e3 (by decide))
theorem setI_w {m : Mem} {o k : Nat} {v : Int} : setI m o k v = wI m (up2 (mI m) o k v) := rfl
theorem wI_wI {m : Mem} {I J : Nat → Nat → Int} : wI (wI m I) J = wI m J := rfl
theorem mI_wI {m : Mem} {I : Nat → Nat → Int} : mI (wI m I) = I := rfl
def chE (F : Tb) (hi : Int) : Nat → Int → Prop
  | 0, k => k = -5
  | q + 1, k => 0 ≤ k ∧ k < hi ∧ chE F hi q (F k.toNat 8)
theorem chE.congr {F G : Tb} {hi : Int} (h : ∀ p : Nat, G p 8 = F p 8) : ∀ {q : Nat} {k : Int}, chE F hi q k → chE G hi q k
  | 0, _, e => e
  | q + 1, k, e => ⟨e.1, e.2.1, by rw [h]; exact chE.congr h e.2.2⟩
theorem Pth.chE {F : Tb} {lo hi : Int} (h0 : 0 ≤ lo) : ∀ {q : Nat} {k l : Int}, Pth F lo hi q k l → F l.toNat 8 = -5 → chE F hi q k
  | 0, _, _, h, _ => h.elim
  | 1, k, l, h, e => by obtain ⟨rfl, h1, h2⟩ := h; exact ⟨by omega, h2, e⟩
  | q + 2, k, l, h, e => by
    obtain ⟨h1, h2, h3, h4⟩ := h
    exact ⟨by omega, h2, Pth.chE h0 h4 e⟩
theorem chE.mono {F : Tb} {hi hi' : Int} (h : hi ≤ hi') : ∀ {q : Nat} {k : Int}, chE F hi q k → chE F hi' q k
  | 0, _, e => e
  | q + 1, k, e => ⟨e.1, by have := e.2.1; omega, chE.mono h e.2.2⟩

def mkI (I : Nat → Nat → Int) (p : Nat) (o : Int) : Nat → Nat → Int := up2 (up2 (up2 (up2 (up2 (up2 (up2 (up2 (up2 (up2 I 35 p o) 36 p (-5)) 37 p (-5)) 38 p (-5)) 39 p (-5)) 40 p 0) 41 p (-5)) 42 p (-5)) 43 p (-5)) 30 9 ((p : Int) + 1)
theorem mkI_ne {I : Nat → Nat → Int} {p : Nat} {o : Int} (a q : Nat) (h : ¬ (35 ≤ a ∧ a ≤ 43 ∧ q = p)) (h2 : ¬ (a = 30 ∧ q = 9)) : mkI I p o a q = I a q := by
  unfold mkI up2
  rw [if_neg h2, if_neg (by omega), if_neg (by omega), if_neg (by omega), if_neg (by omega), if_neg (by omega), if_neg (by omega), if_neg (by omega), if_neg (by omega), if_neg (by omega)]
def MkP (I J : Nat → Nat → Int) (p : Nat) (o : Int) : Prop := (∀ a q, ¬ (35 ≤ a ∧ a ≤ 43 ∧ q = p) → ¬ (a = 30 ∧ q = 9) → J a q = I a q) ∧ J 35 p = o ∧ J 36 p = -5 ∧ J 37 p = -5 ∧ J 38 p = -5 ∧ J 39 p = -5 ∧ J 40 p = 0 ∧ J 41 p = -5 ∧ J 42 p = -5 ∧ J 43 p = -5 ∧ J 30 9 = (p : Int) + 1
theorem mkI_P (I : Nat → Nat → Int) (p : Nat) (o : Int) : MkP I (mkI I p o) p o := by
  refine ⟨mkI_ne, ?_, ?_, ?_, ?_, ?_, ?_, ?_, ?_, ?_, ?_⟩ <;> simp [mkI, up2]

theorem MkP.r {I J : Nat → Nat → Int} {p : Nat} {o : Int} (h : MkP I J p o) : RFr I J := fun a q h1 h2 => h.1 a q (by omega) (by omega)
theorem RTab.mkP {I J : Nat → Nat → Int} {F : Tb} {c : Nat} {o : Int} {g : Nat → Int} (h : RTab I F c) (hk : MkP I J c o) : RTab J (mkT F c o (-5) 0 (-5) g) (c + 1) := by
  obtain ⟨h1, e0, e1, e3, e4, e5, e2, e7, e8, e6, -⟩ := hk
  exact RTab.mk h (fun a p _ _ hp => h1 a p (by omega) (by omega)) e0 e1 e2 e3 e4 e5 e6 e7 e8

def RFp (I I' : Nat → Nat → Int) : Prop := ∀ o k, ¬ (35 ≤ o ∧ o ≤ 43) → ¬ (o = 30 ∧ k = 9) → I' o k = I o k
theorem RFp.r {I I' : Nat → Nat → Int} (h : RFp I I') : RFr I I' := fun o k a b => h o k a (by omega)

theorem chE.congr' {F : Tb} {c q : Nat} {k so le ki fi : Int} {g : Nat → Int} (h : chE F (c : Int) q k) : chE (mkT F c so le ki fi g) (c : Int) q k := by
  have key : ∀ (q : Nat) (k : Int), chE F (c : Int) q k → chE (mkT F c so le ki fi g) (c : Int) q k := by
    intro q
    induction q with
    | zero => intro k h; exact h
    | succ q ih =>
      intro k h
      refine ⟨h.1, h.2.1, ?_⟩
      have := h.2.1
      rw [mkT_ne (by have := h.1; omega)]
      exact ih _ h.2.2
  exact key q k h

