/-! define(): the reference stores the parts -/
def DPok (tx : Nat → Int) (n : Nat) (p : DPt) : Prop := 0 ≤ p.1 ∧ p.1 < 26 ∧ p.2.1 ≤ p.2.2.1 ∧ p.2.2.1 ≤ n ∧ (p.2.2.1 < n → tx p.2.2.1 = 59) ∧ ((p.2.2.2 = none ∧ p.2.2.1 = p.2.1) ∨ (p.2.2.2 = some (eitL tx n 4 (true, p.2.1)).1 ∧ (eitL tx n 4 (true, p.2.1)).2.2 = (true, p.2.2.1) ∧ p.2.1 < p.2.2.1))
theorem dPt_ok {tx : Nat → Int} {n : Nat} {S : CS} (hw : (dR tx n S).2.2.1 = true) (hn : S.2 ≤ n) (he : (dR tx n S).2.2.2 < n → tx (dR tx n S).2.2.2 = 59) : DPok tx n (dPt tx n S) := by
  have h := (dR_ni tx n S).2 hw
  have hb := (dR_ni tx n S).1.1 hn
  refine ⟨by show 0 ≤ ccS tx n S - 65; omega, by show ccS tx n S - 65 < 26; omega, h.2.2.2, hb, he, ?_⟩
  show ((if ccS tx n (dS2 tx n S) = -1 then none else some (dR tx n S).1) = none ∧ (dR tx n S).2.2.2 = (dS2 tx n S).2) ∨ ((if ccS tx n (dS2 tx n S) = -1 then none else some (dR tx n S).1) = some (eitL tx n 4 (true, (dS2 tx n S).2)).1 ∧ (eitL tx n 4 (true, (dS2 tx n S).2)).2.2 = (true, (dR tx n S).2.2.2) ∧ (dS2 tx n S).2 < (dR tx n S).2.2.2)
  have hS2 : dS2 tx n S = (true, (dS2 tx n S).2) := by
    rw [← h.2.1]
  by_cases c : ccS tx n (dS2 tx n S) = -1
  · have e : dR tx n S = ([], (fun _ => true), dS2 tx n S) := if_pos c
    rw [if_pos c, e]
    exact Or.inl ⟨rfl, rfl⟩
  · have e : dR tx n S = eitL tx n 4 (dS2 tx n S) := if_neg c
    rw [if_neg c]
    rw [← hS2, ← e]
    refine Or.inr ⟨rfl, ?_, ?_⟩
    · rw [← hw]
    · have g := ((eitL_ni tx n 4 (dS2 tx n S)).1.2.1 (by rw [← e]; exact hw)).2
      rw [← e] at g
      omega
theorem defL_ok {tx : Nat → Int} {n : Nat} : ∀ (f : Nat) (S : CS), S.2 ≤ n → (defL tx n f S).2.1 = true → (defL tx n f S).2.2 = n → ∀ p ∈ (defL tx n f S).1, DPok tx n p
  | 0, S, hn, hw, he => by cases hw
  | f + 1, S, hn, hw, he => by
    have e : defL tx n (f + 1) S = (if (dR tx n S).2.2.1 = true then (if dNx tx n (dR tx n S).2.2 then (dPt tx n S :: (defL tx n f (cAdv (dR tx n S).2.2)).1, (defL tx n f (cAdv (dR tx n S).2.2)).2) else ([dPt tx n S], (dR tx n S).2.2)) else ([], (dR tx n S).2.2)) := rfl
    by_cases c : (dR tx n S).2.2.1 = true
    · rw [e, if_pos c] at hw he ⊢
      by_cases d : dNx tx n (dR tx n S).2.2
      · rw [if_pos d] at hw he ⊢
        intro p hp
        rcases List.mem_cons.mp hp with rfl | hp
        · exact dPt_ok c hn (fun _ => d.2.2)
        · exact defL_ok f _ d.2.1 hw he p hp
      · rw [if_neg d] at hw he ⊢
        intro p hp
        rcases List.mem_cons.mp hp with rfl | hp
        · exact dPt_ok c hn (fun h => by have h2 : (dR tx n S).2.2.2 = n := he; omega)
        · cases hp
    · rw [e, if_neg c] at hw
      exact absurd hw c
def StR (tx : Nat → Int) (I0 I : Nat → Nat → Int) (L : List DPt) : Prop := ∀ w : Nat, w < 26 → match lastP L (w : Int) with
  | none => ∀ j, j < 121 → I 31 (186 + 121 * w + j) = I0 31 (186 + 121 * w + j)
  | some p => I 31 (186 + 121 * w) = ((p.2.2.1 - p.2.1 : Nat) : Int) ∧ ∀ j, j < p.2.2.1 - p.2.1 → I 31 (187 + 121 * w + j) = tx (p.2.1 + j)
theorem lastP_mem {L : List DPt} {w : Int} {q : DPt} (h : lastP L w = some q) : q ∈ L := by
  induction L with
  | nil => cases h
  | cons a L ih =>
    have e : lastP (a :: L) w = (match lastP L w with | some q => some q | none => if a.1 = w then some a else none) := rfl
    rw [e] at h
    cases c : lastP L w with
    | some q2 =>
      rw [c] at h
      cases Option.some.inj h
      exact List.mem_cons_of_mem _ (ih c)
    | none =>
      rw [c] at h
      by_cases d : a.1 = w
      · have h' : (if a.1 = w then some a else none) = some q := h
        rw [if_pos d] at h'
        cases Option.some.inj h'
        exact List.mem_cons_self
      · have h' : (if a.1 = w then some a else none) = some q := h
        rw [if_neg d] at h'
        cases h'
theorem StR.step {tx : Nat → Int} {I0 I J : Nat → Nat → Int} {L : List DPt} {p : DPt} {t : Nat} (h : StR tx I0 I L) (hL : ∀ q ∈ L, q.2.2.1 ≤ 120) (hp : 0 ≤ p.1 ∧ p.1 < 26 ∧ p.2.1 ≤ p.2.2.1 ∧ p.2.2.1 ≤ 120) (ht : (t : Int) = 186 + 121 * p.1) (h1 : J 31 t = ((p.2.2.1 - p.2.1 : Nat) : Int)) (h2 : ∀ j, j < p.2.2.1 - p.2.1 → J 31 (t + 1 + j) = tx (p.2.1 + j)) (h3 : ∀ k, ¬ (t ≤ k ∧ k < t + 1 + (p.2.2.1 - p.2.1)) → J 31 k = I 31 k) : StR tx I0 J (L ++ [p]) := by
  intro w hw
  rw [lastP_app]
  by_cases c : p.1 = (w : Int)
  · rw [if_pos c]
    have et : t = 186 + 121 * w := by omega
    subst et
    refine ⟨h1, fun j hj => ?_⟩
    rw [show 187 + 121 * w + j = 186 + 121 * w + 1 + j from by omega]
    exact h2 j hj
  · rw [if_neg c]
    have hs := h w hw
    have hd : ∀ j, j < 121 → J 31 (186 + 121 * w + j) = I 31 (186 + 121 * w + j) := fun j hj => h3 _ (by omega)
    cases e : lastP L (w : Int) with
    | none =>
      rw [e] at hs
      intro j hj
      exact (hd j hj).trans (hs j hj)
    | some q =>
      rw [e] at hs
      refine ⟨(hd 0 (by omega)).trans hs.1, fun j hj => ?_⟩
      have hq := hs.2 j hj
      have hql := hL q (lastP_mem e)
      have := hd (j + 1) (by omega)
      rw [show 186 + 121 * w + (j + 1) = 187 + 121 * w + j from by omega] at this
      exact this.trans hq

