/-! define(): the parts; the reference reads them -/
def dS1 (tx : Nat → Int) (n : Nat) (S : CS) : CS := if 65 ≤ ccS tx n S ∧ ccS tx n S ≤ 90 then cAdv S else cBad S
def dS2 (tx : Nat → Int) (n : Nat) (S : CS) : CS := cTake tx n (dS1 tx n S) 61
def dR (tx : Nat → Int) (n : Nat) (S : CS) : CR := if ccS tx n (dS2 tx n S) = -1 then ([], fun _ => true, dS2 tx n S) else eitL tx n 4 (dS2 tx n S)
abbrev dNx (tx : Nat → Int) (n : Nat) (S : CS) : Prop := S.1 = true ∧ S.2 < n ∧ tx S.2 = 59
abbrev DPt : Type := Int × Nat × Nat × Option (List Int)
def dPt (tx : Nat → Int) (n : Nat) (S : CS) : DPt := (ccS tx n S - 65, (dS2 tx n S).2, (dR tx n S).2.2.2, if ccS tx n (dS2 tx n S) = -1 then none else some (dR tx n S).1)
def defL (tx : Nat → Int) (n : Nat) : Nat → CS → List DPt × CS
  | 0, S => ([], cBad S)
  | f + 1, S => if (dR tx n S).2.2.1 = true then (if dNx tx n (dR tx n S).2.2 then (dPt tx n S :: (defL tx n f (cAdv (dR tx n S).2.2)).1, (defL tx n f (cAdv (dR tx n S).2.2)).2) else ([dPt tx n S], (dR tx n S).2.2)) else ([], (dR tx n S).2.2)
theorem dR_ni (tx : Nat → Int) (n : Nat) (S : CS) : CNi n 2 S (dR tx n S).2.2 ∧ ((dR tx n S).2.2.1 = true → (65 ≤ ccS tx n S ∧ ccS tx n S ≤ 90) ∧ (dS2 tx n S).1 = true ∧ (dS2 tx n S).2 = S.2 + 2 ∧ (dS2 tx n S).2 ≤ (dR tx n S).2.2.2) := by
  have h1 : CNi n 1 S (dS1 tx n S) := by
    unfold dS1
    by_cases c : 65 ≤ ccS tx n S ∧ ccS tx n S ≤ 90
    · rw [if_pos c]; exact CNi.adv (tx := tx) (by omega)
    · rw [if_neg c]; exact CNi.bad
  have h2 : CNi n 1 (dS1 tx n S) (dS2 tx n S) := CNi.take (by decide)
  have h3 : CNi n 0 (dS2 tx n S) (dR tx n S).2.2 := by
    unfold dR
    by_cases c : ccS tx n (dS2 tx n S) = -1
    · rw [if_pos c]; exact ⟨fun h => h, fun h => ⟨h, Nat.le_refl _⟩, fun _ => rfl⟩
    · rw [if_neg c]; exact (eitL_ni tx n 4 _).1.le (by omega)
  refine ⟨(h1.tr h2).tr h3, fun hw => ?_⟩
  have w3 := h3.2.1 hw
  have w2 := h2.2.1 w3.1
  have c : 65 ≤ ccS tx n S ∧ ccS tx n S ≤ 90 := by
    by_cases c : 65 ≤ ccS tx n S ∧ ccS tx n S ≤ 90
    · exact c
    · have := w2.1
      unfold dS1 at this
      rw [if_neg c] at this
      cases this
  have e1 : dS1 tx n S = cAdv S := if_pos c
  have c2 : ccS tx n (dS1 tx n S) = 61 := by
    by_cases c2 : ccS tx n (dS1 tx n S) = 61
    · exact c2
    · have := w3.1
      unfold dS2 cTake at this
      rw [if_neg c2] at this
      cases this
  have e2 : dS2 tx n S = cAdv (dS1 tx n S) := if_pos c2
  refine ⟨c, w3.1, ?_, by omega⟩
  rw [e2, e1]; rfl
def lastP : List DPt → Int → Option DPt
  | [], _ => none
  | p :: r, w => match lastP r w with
    | some q => some q
    | none => if p.1 = w then some p else none
theorem lastP_app (L : List DPt) (p : DPt) (w : Int) : lastP (L ++ [p]) w = if p.1 = w then some p else lastP L w := by
  induction L with
  | nil => rfl
  | cons a L ih =>
    show (match lastP (L ++ [p]) w with | some q => some q | none => if a.1 = w then some a else none) = _
    rw [ih]
    by_cases c : p.1 = w
    · rw [if_pos c, if_pos c]
    · rw [if_neg c, if_neg c]; rfl

theorem dNx_iff {I : Nat → Nat → Int} {tx : Nat → Int} {n : Nat} {S : CS} (h : RQ I tx n S) : dNx tx n S ↔ (I 30 8 = 1 ∧ I 30 7 < I 30 6 ∧ I 34 (I 30 7).toNat = 59) := by
  have hw := (RQ.cS h).2.2.2.2.2.2.1
  obtain ⟨h1, h2, h3, h5, h7, h8⟩ := h
  have e : (I 30 7).toNat = S.2 := by omega
  rw [e]
  constructor
  · rintro ⟨a, b, c⟩
    exact ⟨hw.mp a, by omega, by rw [(h8 _ b).1]; exact c⟩
  · rintro ⟨a, b, c⟩
    have b' : S.2 < n := by omega
    exact ⟨hw.mpr a, b', by rw [← (h8 _ b').1]; exact c⟩

def DArr (I : Nat → Nat → Int) (L : List DPt) : Prop := ∀ k p, L[k]? = some p → I 48 k = p.1 ∧ I 47 k = (p.2.1 : Int) ∧ I 46 k = (p.2.2.1 : Int)
theorem DArr.app {I J : Nat → Nat → Int} {L : List DPt} {p : DPt} (h : DArr I L) (hJ : ∀ o k, 46 ≤ o → o ≤ 48 → k < L.length → J o k = I o k) (h1 : J 48 L.length = p.1) (h2 : J 47 L.length = (p.2.1 : Int)) (h3 : J 46 L.length = (p.2.2.1 : Int)) : DArr J (L ++ [p]) := by
  intro k q hq
  rw [List.getElem?_append] at hq
  by_cases c : k < L.length
  · rw [if_pos c] at hq
    have := h k q hq
    rw [hJ _ _ (by decide) (by decide) c, hJ _ _ (by decide) (by decide) c, hJ _ _ (by decide) (by decide) c]
    exact this
  · rw [if_neg c] at hq
    by_cases d : k = L.length
    · subst d
      rw [Nat.sub_self] at hq
      cases Option.some.inj hq
      exact ⟨h1, h2, h3⟩
    · have e : k - L.length = (k - L.length - 1) + 1 := by omega
      rw [e] at hq
      cases hq
def RFd (I I' : Nat → Nat → Int) : Prop := ∀ o k, ¬ (46 ≤ o ∧ o ≤ 48) → ¬ (o = 30 ∧ (k = 7 ∨ k = 8 ∨ k = 26 ∨ k = 27)) → I' o k = I o k
theorem RFd.rf {I : Nat → Nat → Int} : RFd I I := fun _ _ _ _ => rfl
theorem RFd.tr {I J K : Nat → Nat → Int} (h : RFd I J) (h2 : RFd J K) : RFd I K := fun o k a b => (h2 o k a b).trans (h o k a b)
theorem RFd.set {I J : Nat → Nat → Int} {o k : Nat} {v : Int} (h : RFd I J) (hk : (46 ≤ o ∧ o ≤ 48) ∨ (o = 30 ∧ (k = 7 ∨ k = 8 ∨ k = 26 ∨ k = 27))) : RFd I (up2 J o k v) := fun o' k' a b => by
  rw [up2_nx (fun e => by obtain ⟨rfl, rfl⟩ := e; exact hk.elim a b)]
  exact h o' k' a b
theorem QFr.d {I J : Nat → Nat → Int} (h : QFr I J) : RFd I J := fun o k _ b => h o k b
theorem QFs.d {I J : Nat → Nat → Int} (h : QFs I J) : RFd I J := fun o k _ b => h o k (by omega)
theorem EOK.frd {I J : Nat → Nat → Int} (h : EOK I) (hf : RFd I J) (hl : J 30 27 = 0 ∨ J 30 27 = 1) : EOK J := by
  obtain ⟨h1, h2, h3, h4, h5, h6, h7⟩ := h
  refine ⟨?_, ?_, ?_, hl, ?_, ?_, fun k hk => ?_⟩
  · rw [hf 31 64 (by omega) (by omega)]; exact h1
  · rw [hf 31 64 (by omega) (by omega)]; exact h2
  · rw [hf 30 25 (by omega) (by omega)]; exact h3
  · rw [hf 31 64 (by omega) (by omega), hf 30 25 (by omega) (by omega), hf 30 24 (by omega) (by omega)]; exact h5
  · rw [hf 30 25 (by omega) (by omega)]; exact h6
  · rw [hf 31 k (by omega) (by omega)]; exact h7 k hk

