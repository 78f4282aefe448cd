/-! PATTERNS: the parser as one function, over a text tx of n bytes. A state: is all well so far, the place, how many parts, the parts' table (part, fact). Facts 0..8 as the class numbers them; 9.. are ours: how many sequences deep, how high, how long spelled. -/
abbrev Tb : Type := Nat → Nat → Int
abbrev PS : Type := Bool × Nat × Nat × Tb
def chT (tx : Nat → Int) (n i : Nat) : Int := if i < n then tx i else -1
def cS (tx : Nat → Int) (n : Nat) (S : PS) : Int := if S.1 = true then chT tx n S.2.1 else -1
def advP (S : PS) : PS := (S.1, S.2.1 + 1, S.2.2)
def badP (S : PS) : PS := (false, S.2)
def badAt (S : PS) (q : Nat) : PS := if S.1 = true then (false, q, S.2.2) else S
def takeP (tx : Nat → Int) (n : Nat) (S : PS) (c : Int) : PS := if cS tx n S = c then advP S else badP S
def mkT (F : Tb) (p : Nat) (sort letter kids eldest : Int) (g : Nat → Int) : Tb := fun q w => if q = p then (if w = 0 then sort else if w = 1 then letter else if w = 2 then kids else if w = 7 then eldest else if w < 9 then -5 else g w) else F q w
def wiT : Nat → Int → Nat → Tb → Tb
  | 0, _, _, F => F
  | n + 1, k, p, F => wiT n (F k.toNat 8) p (up2 F k.toNat 6 (p : Int))
def mxC (F : Tb) (w : Nat) : Nat → Int → Int
  | 0, _ => 0
  | n + 1, k => max (F k.toNat w) (mxC F w n (F k.toNat 8))
abbrev needB (o i : Int) : Prop := (o = 3 ∧ (i = 3 ∨ i = 4)) ∨ (o = 4 ∧ i = 4) ∨ (o = 5 ∧ (i = 3 ∨ i = 4 ∨ i = 5))
def smC (F : Tb) (o : Int) : Nat → Int → Int
  | 0, _ => 0
  | n + 1, k => F k.toNat 11 + (if needB o (F k.toNat 0) then 2 else 0) + smC F o n (F k.toNat 8)
def gT (F : Tb) (sort : Int) (k : Int) (n : Nat) : Nat → Int := fun w => if w = 9 then mxC F 9 n k + (if sort = 3 then 1 else 0) else if w = 10 then mxC F 10 n k + 1 else smC F sort n k + (if sort = 4 then (n : Int) - 1 else if sort = 6 then (n : Int) + 2 else 0)
def leafP (S : PS) (sort letter : Int) : Int × PS := ((S.2.2.1 : Int), (S.1, S.2.1 + 1, S.2.2.1 + 1, mkT S.2.2.2 S.2.2.1 sort letter 0 (-5) (fun w => if w = 11 then 1 else 0)))
def rndP (S : PS) (sort eldest : Int) (n : Nat) : Int × PS := ((S.2.2.1 : Int), (S.1, S.2.1, S.2.2.1 + 1, wiT n eldest S.2.2.1 (mkT S.2.2.2 S.2.2.1 sort (-5) (n : Int) eldest (gT S.2.2.2 sort eldest n))))
def lnkP (S : PS) (elder younger : Int) : PS := (S.1, S.2.1, S.2.2.1, up2 S.2.2.2 elder.toNat 8 younger)
abbrev isDg (x : Int) : Prop := 48 ≤ x ∧ x ≤ 57
def numP (tx : Nat → Int) (n : Nat) (S : PS) : Int × PS :=
  if isDg (cS tx n S) then (if isDg (cS tx n (advP S)) then (10 * (cS tx n S - 48) + (cS tx n (advP S) - 48), advP (advP S)) else (cS tx n S - 48, advP S)) else (0, badP S)
def curlP (tx : Nat → Int) (n : Nat) (S : PS) : Int × Int × PS :=
  if cS tx n (numP tx n (advP S)).2 = 44 then
    (if isDg (cS tx n (advP (numP tx n (advP S)).2)) then
      ((numP tx n (advP S)).1, (numP tx n (advP (numP tx n (advP S)).2)).1, takeP tx n (if (numP tx n (advP (numP tx n (advP S)).2)).1 = 0 ∨ (numP tx n (advP (numP tx n (advP S)).2)).1 < (numP tx n (advP S)).1 then badAt (numP tx n (advP (numP tx n (advP S)).2)).2 (advP (numP tx n (advP S)).2).2.1 else (numP tx n (advP (numP tx n (advP S)).2)).2) 125)
    else ((numP tx n (advP S)).1, 100, takeP tx n (advP (numP tx n (advP S)).2) 125))
  else ((numP tx n (advP S)).1, (numP tx n (advP S)).1, takeP tx n (if (numP tx n (advP S)).1 = 0 then badP (numP tx n (advP S)).2 else (numP tx n (advP S)).2) 125)
def qLen (lo hi more : Int) : Int := (if hi = 100 ∧ lo < 2 then 1 else if lo = 0 ∧ hi = 1 then 1 else 2 + (if 9 < lo then 2 else 1) + (if hi = lo then 0 else if hi = 100 then 1 else 1 + (if 9 < hi then 2 else 1))) + (if more = 0 then 1 else 0)
def timesP (S : PS) (a lo hi more : Int) : Int × PS := ((rndP S 5 a 1).1, ((rndP S 5 a 1).2.1, (rndP S 5 a 1).2.2.1, (rndP S 5 a 1).2.2.2.1, up2 (up2 (up2 (up2 (rndP S 5 a 1).2.2.2.2 S.2.2.1 11 (gT S.2.2.2 5 a 1 11 + qLen lo hi more)) S.2.2.1 3 lo) S.2.2.1 4 hi) S.2.2.1 5 more))
def quantP (tx : Nat → Int) (n : Nat) (S : PS) : Int × Int × PS := if cS tx n S = 123 then curlP tx n S else (if cS tx n S = 43 then 1 else 0, if cS tx n S = 63 then 1 else 100, advP S)
def repP (tx : Nat → Int) (n : Nat) (A : Int × PS) : Int × PS :=
  if cS tx n A.2 = 42 ∨ cS tx n A.2 = 43 ∨ cS tx n A.2 = 63 ∨ cS tx n A.2 = 123 then
    (if (quantP tx n A.2).2.2.1 = true then
      (if cS tx n (quantP tx n A.2).2.2 = 63 then timesP (advP (quantP tx n A.2).2.2) A.1 (quantP tx n A.2).1 (quantP tx n A.2).2.1 0
      else timesP (quantP tx n A.2).2.2 A.1 (quantP tx n A.2).1 (quantP tx n A.2).2.1 1)
    else (-5, (quantP tx n A.2).2.2))
  else A
abbrev isAt1 (x : Int) : Prop := (65 ≤ x ∧ x ≤ 90) ∨ x = 94 ∨ x = 36 ∨ x = 40 ∨ x = 37
def lpG (tx : Nat → Int) (n : Nat) (cond : Int → Nat → Prop) [∀ x q, Decidable (cond x q)] (go : PS → Int × PS) : Nat → Nat → Int → PS → Nat × PS
  | 0, q, _, S => (q, S)
  | f + 1, q, last, S => if cond (cS tx n S) q then (if (go S).2.1 = true then lpG tx n cond go f (q + 1) (go S).1 (lnkP (go S).2 last (go S).1) else (q, (go S).2)) else (q, S)
def lstP (tx : Nat → Int) (n : Nat) (cond : Int → Nat → Prop) [∀ x q, Decidable (cond x q)] (go : PS → Int × PS) (r : Int × PS) : Nat × PS := lpG tx n cond go (n + 1) 1 r.1 r.2
abbrev cSer : Int → Nat → Prop := fun x _ => isAt1 x
abbrev cAlt : Int → Nat → Prop := fun x _ => x = 124
abbrev cAny : Int → Nat → Prop := fun x q => x = 44 ∧ q < 4
def endP (l : Nat × PS) (sort eldest : Int) : Int × PS := if l.2.1 = true ∧ 1 < l.1 then rndP l.2 sort eldest l.1 else (eldest, l.2)
def serP (tx : Nat → Int) (n : Nat) (rep : PS → Int × PS) (S : PS) : Int × PS := endP (lstP tx n cSer rep (rep S)) 3 (rep S).1
def altP (tx : Nat → Int) (n : Nat) (ser : PS → Int × PS) (S : PS) : Int × PS := endP (lstP tx n cAlt (fun S => ser (advP S)) (ser S)) 4 (ser S).1
def anyL (tx : Nat → Int) (n : Nat) (sub : PS → Int × PS) (S : PS) : Nat × PS := lstP tx n cAny (fun S => sub (advP S)) (sub (takeP tx n (advP S) 40))
def anyE (tx : Nat → Int) (n : Nat) (l : Nat × PS) : PS := takeP tx n (if l.1 < 2 then badP l.2 else l.2) 41
def anyP (tx : Nat → Int) (n : Nat) (sub : PS → Int × PS) (S : PS) : Int × PS :=
  if (anyE tx n (anyL tx n sub S)).1 = true then rndP (anyE tx n (anyL tx n sub S)) 6 (sub (takeP tx n (advP S) 40)).1 (anyL tx n sub S).1 else (-5, anyE tx n (anyL tx n sub S))
def atomP (tx : Nat → Int) (n : Nat) (dp : Bool) (sub : PS → Int × PS) (S : PS) : Int × PS :=
  if 65 ≤ cS tx n S ∧ cS tx n S ≤ 90 then leafP S 0 (cS tx n S - 65)
  else if cS tx n S = 94 then leafP S 1 (-5)
  else if cS tx n S = 36 then leafP S 2 (-5)
  else if cS tx n S = 40 ∧ dp = true then ((sub (advP S)).1, takeP tx n (sub (advP S)).2 41)
  else if cS tx n S = 37 ∧ dp = true then anyP tx n sub S
  else (-5, badP S)
def altL (tx : Nat → Int) (n : Nat) : Nat → PS → Int × PS
  | 0 => altP tx n (serP tx n (fun S => repP tx n (atomP tx n false (fun S => (-5, S)) S)))
  | k + 1 => altP tx n (serP tx n (fun S => repP tx n (atomP tx n true (altL tx n k) S)))
def subL (tx : Nat → Int) (n : Nat) : Nat → PS → Int × PS
  | 0 => fun S => (-5, S)
  | k + 1 => altL tx n k
def dpL (k : Nat) : Bool := decide (0 < k)
def atoL (tx : Nat → Int) (n k : Nat) : PS → Int × PS := atomP tx n (dpL k) (subL tx n k)
def repL (tx : Nat → Int) (n k : Nat) : PS → Int × PS := fun S => repP tx n (atoL tx n k S)
def serL (tx : Nat → Int) (n k : Nat) : PS → Int × PS := serP tx n (repL tx n k)
theorem altL_eq (tx : Nat → Int) (n k : Nat) : altL tx n k = altP tx n (serL tx n k) := by
  cases k <;> rfl
/-! nothing goes on where it is not well -/
def Dead (g : PS → Int × PS) : Prop := ∀ S : PS, S.1 = false → (g S).2 = S
theorem cS_dead {tx : Nat → Int} {n : Nat} {S : PS} (h : S.1 = false) : cS tx n S = -1 := by
  unfold cS; rw [h]; rfl
theorem bad_dead {S : PS} (h : S.1 = false) : badP S = S := by
  obtain ⟨a, b⟩ := S
  simp only at h
  subst h
  rfl
theorem take_dead {tx : Nat → Int} {n : Nat} {S : PS} {c : Int} (hc : c ≠ -1) (h : S.1 = false) : takeP tx n S c = S := by
  unfold takeP
  rw [cS_dead h, if_neg (Ne.symm hc), bad_dead h]
theorem lpG_dead {tx : Nat → Int} {n : Nat} {cond : Int → Nat → Prop} [∀ x q, Decidable (cond x q)] {go : PS → Int × PS} (hc : ∀ q, ¬ cond (-1) q) {f q : Nat} {last : Int} {S : PS} (h : S.1 = false) : lpG tx n cond go f q last S = (q, S) := by
  cases f with
  | zero => rfl
  | succ f => show (if cond (cS tx n S) q then _ else _) = _; rw [cS_dead h, if_neg (hc q)]
theorem atom_dead {tx : Nat → Int} {n : Nat} {dp : Bool} {sub : PS → Int × PS} : Dead (atomP tx n dp sub) := by
  intro S h
  unfold atomP
  rw [cS_dead h, if_neg (by omega), if_neg (by omega), if_neg (by omega), if_neg (by omega), if_neg (by omega)]
  exact bad_dead h
theorem rep_dead {tx : Nat → Int} {n : Nat} {A : Int × PS} (h : A.2.1 = false) : repP tx n A = A := by
  unfold repP
  rw [cS_dead h, if_neg (by omega)]
theorem end_dead {l : Nat × PS} {sort eldest : Int} (h : l.2.1 = false) : endP l sort eldest = (eldest, l.2) := by
  unfold endP
  rw [h, if_neg (by simp)]
theorem repL_dead (tx : Nat → Int) (n k : Nat) : Dead (repL tx n k) := by
  intro S h
  unfold repL
  have h1 : (atoL tx n k S).2 = S := atom_dead S h
  rw [rep_dead (by rw [h1]; exact h), h1]
theorem serL_dead (tx : Nat → Int) (n k : Nat) : Dead (serL tx n k) := by
  intro S h
  unfold serL serP lstP
  have h1 := repL_dead tx n k S h
  rw [lpG_dead (by intro q; unfold cSer isAt1; omega) (by rw [h1]; exact h), end_dead (by rw [h1]; exact h)]
  exact h1
theorem altL_dead (tx : Nat → Int) (n k : Nat) : Dead (altL tx n k) := by
  intro S h
  rw [altL_eq]
  unfold altP lstP
  have h1 := serL_dead tx n k S h
  rw [lpG_dead (by intro q; unfold cAlt; omega) (by rw [h1]; exact h), end_dead (by rw [h1]; exact h)]
  exact h1
theorem subL_dead (tx : Nat → Int) (n k : Nat) : Dead (subL tx n k) := by
  cases k with
  | zero => intro S h; rfl
  | succ k => exact altL_dead tx n k
