/-! THE SEARCH as one function of numbers: class and reference both do its steps. J: numbers (3 frames, 5 options, 6 start, 7 part, 8 up, 9 place, 10 tries, 11 ways, 12 fewest, 13 most), letters, frames (part, up, how far, place, how many sequences it is within), options (part, up, what is left, place, frames) -/
abbrev SJ : Type := (Nat → Int) × (Nat → Int) × (Nat → Nat → Int) × (Nat → Nat → Int)
def up1 (f : Nat → Int) (k : Nat) (v : Int) : Nat → Int := fun k' => if k' = k then v else f k'
def setS (J : SJ) (k : Nat) (v : Int) : SJ := (up1 J.1 k v, J.2)
def chN (F : Tb) (k : Int) : Nat → Int
  | 0 => k
  | i + 1 => F (chN F k i).toNat 8
def kidN (F : Tb) (p : Int) (i : Nat) : Int := chN F (F p.toNat 7) i
def gU (J : SJ) (u : Int) : Int := if u < 0 then 0 else J.2.2.1 u.toNat 4
def frV (F : Tb) (J : SJ) (far : Int) : Nat → Int := fun w => if w = 0 then J.1 7 else if w = 1 then J.1 8 else if w = 2 then far else if w = 3 then J.1 9 else gU J (J.1 8) + (if F (J.1 7).toNat 0 = 3 then 1 else 0)
def pushF (F : Tb) (J : SJ) (far : Int) : SJ := (up1 (up1 J.1 8 (J.1 3)) 3 (J.1 3 + 1), J.2.1, (fun i => if i = (J.1 3).toNat then frV F J far else J.2.2.1 i), J.2.2.2)
def opV (J : SJ) (far : Int) : Nat → Int := fun w => if w = 0 then J.1 7 else if w = 1 then J.1 8 else if w = 2 then far else if w = 3 then J.1 9 else J.1 3
def pushO (J : SJ) (far : Int) : SJ := (up1 J.1 5 (J.1 5 + 1), J.2.1, J.2.2.1, fun j => if j = (J.1 5).toNat then opV J far else J.2.2.2 j)
def comeW (F : Tb) (J : SJ) (far : Int) : Int × SJ := (0, setS (if far + 1 < F (J.1 7).toNat 2 then pushF F J (far + 1) else J) 7 (kidN F (J.1 7) far.toNat))
def chooA (F : Tb) (J : SJ) (far : Int) : Int × SJ := (0, setS (if far + 1 < F (J.1 7).toNat 2 then pushO J (far + 1) else J) 7 (kidN F (J.1 7) far.toNat))
def onceA (F : Tb) (J : SJ) (k : Int) : Int × SJ := (0, setS (pushF F J (k + 1)) 7 (F (J.1 7).toNat 7))
def repA (F : Tb) (J : SJ) (k b : Int) : Int × SJ :=
  if F (J.1 7).toNat 3 < k ∧ J.1 9 = b then (2, J)
  else if k < F (J.1 7).toNat 3 then onceA F J k
  else if k = F (J.1 7).toNat 4 ∧ ¬ F (J.1 7).toNat 4 = 100 then (1, J)
  else if F (J.1 7).toNat 5 = 1 then onceA F (pushO J k) k
  else (1, pushO J k)
def bitA (d r : Int) : Int := and32 (shr32 d r) 1
def ndF (d inn : Int) : Nat → Int → Int
  | 0, r => r
  | f + 1, r => if r < inn ∧ bitA d r = 1 then ndF d inn f (r + 1) else r
def ndA (d r inn : Int) : Int := ndF d inn (inn - r).toNat r
def ordP (F : Tb) (J : SJ) (d r : Int) : SJ := if ndA d (r + 1) (F (J.1 7).toNat 2) < F (J.1 7).toNat 2 then pushO J (d * 8 + ndA d (r + 1) (F (J.1 7).toNat 2)) else J
def ordA (F : Tb) (J : SJ) (d r : Int) : Int × SJ :=
  if F (J.1 7).toNat 2 ≤ ndA d r (F (J.1 7).toNat 2) then (1, J)
  else (0, setS (pushF F (ordP F J d (ndA d r (F (J.1 7).toNat 2))) (or32 d (shl32 1 (ndA d r (F (J.1 7).toNat 2))))) 7 (kidN F (J.1 7) (ndA d r (F (J.1 7).toNat 2)).toNat))
def setL (J : SJ) (k : Nat) (v : Int) : SJ := (J.1, up1 J.2.1 k v, J.2.2)
def envJ (J : SJ) (n : Int) (cl : Nat → Int) : CEnv := (J.1 6, J.1 9, J.2.1, n, cl)
def takA (n : Int) (hc : Nat → CEnv → Int) (cl : Nat → Int) (J : SJ) (w : Int) : Int × SJ :=
  if n ≤ J.1 9 then (2, J)
  else if hc w.toNat (envJ (setL J (J.1 9).toNat w) n cl) = 1 then (1, setS (setL J (J.1 9).toNat w) 9 (J.1 9 + 1))
  else (2, setL J (J.1 9).toNat w)
def tryJ (J : SJ) : SJ := setS J 10 (J.1 10 + 1)
def cm2 (F : Tb) (n : Int) (hc : Nat → CEnv → Int) (cl : Nat → Int) (J : SJ) : Int × SJ :=
  if F (J.1 7).toNat 0 = 0 then takA n hc cl J (F (J.1 7).toNat 1)
  else if F (J.1 7).toNat 0 = 1 then ((if J.1 9 = 0 then 1 else 2), J)
  else if F (J.1 7).toNat 0 = 2 then ((if J.1 9 = n then 1 else 2), J)
  else if F (J.1 7).toNat 0 = 4 then chooA F J 0
  else if F (J.1 7).toNat 0 = 5 then repA F J 0 (-1)
  else ordA F J 0 0
def comeA (F : Tb) (n may : Int) (hc : Nat → CEnv → Int) (cl : Nat → Int) (J : SJ) : Int × SJ :=
  if F (J.1 7).toNat 0 = 3 then comeW F J 0
  else if may < J.1 10 + 1 then (3, tryJ J)
  else cm2 F n hc cl (tryJ J)
def popF (J : SJ) : SJ := setS (setS J 7 (J.2.2.1 (J.1 8).toNat 0)) 8 (J.2.2.1 (J.1 8).toNat 1)
def go2 (F : Tb) (J : SJ) (far b : Int) : Int × SJ := if F (J.1 7).toNat 0 = 5 then repA F J far b else ordA F J far 0
def goOnA (F : Tb) (may : Int) (J : SJ) : Int × SJ :=
  if F (J.2.2.1 (J.1 8).toNat 0).toNat 0 = 3 then comeW F (popF J) (J.2.2.1 (J.1 8).toNat 2)
  else if may < J.1 10 + 1 then (3, tryJ (popF J))
  else go2 F (tryJ (popF J)) (J.2.2.1 (J.1 8).toNat 2) (J.2.2.1 (J.1 8).toNat 3)
def popO (J : SJ) : SJ := setS (setS (setS (setS (setS J 5 (J.1 5 - 1)) 7 (J.2.2.2 (J.1 5 - 1).toNat 0)) 8 (J.2.2.2 (J.1 5 - 1).toNat 1)) 9 (J.2.2.2 (J.1 5 - 1).toNat 3)) 3 (J.2.2.2 (J.1 5 - 1).toNat 4)
def gb2 (F : Tb) (J : SJ) (far : Int) : Int × SJ :=
  if F (J.1 7).toNat 0 = 4 then chooA F J far
  else if F (J.1 7).toNat 0 = 5 then (if F (J.1 7).toNat 5 = 1 then (1, J) else onceA F J far)
  else ordA F J (far / 8) (far % 8)
def goBkA (F : Tb) (J : SJ) : Int × SJ := gb2 F (popO J) (J.2.2.2 (J.1 5 - 1).toNat 2)
def noteA (J : SJ) : SJ := setS (setS (setS J 12 (if J.1 11 = 0 then J.1 9 - J.1 6 else if J.1 9 - J.1 6 < J.1 12 then J.1 9 - J.1 6 else J.1 12)) 13 (if J.1 13 < J.1 9 - J.1 6 then J.1 9 - J.1 6 else J.1 13)) 11 (J.1 11 + 1)
def runA (F : Tb) (n may : Int) (hc : Nat → CEnv → Int) (cl : Nat → Int) (e : Int) : Nat → Int → SJ → Int × SJ
  | 0, _, J => (-7, J)
  | f + 1, ph, J =>
    if ph = 0 then runA F n may hc cl e f (comeA F n may hc cl J).1 (comeA F n may hc cl J).2
    else if ph = 1 ∧ 0 ≤ J.1 8 then runA F n may hc cl e f (goOnA F may J).1 (goOnA F may J).2
    else if ph = 1 then (if e = -1 ∨ e = J.1 9 then (1, noteA J) else runA F n may hc cl e f 2 (noteA J))
    else if ph = 3 then (-7, J)
    else if 0 < J.1 5 then runA F n may hc cl e f (goBkA F J).1 (goBkA F J).2
    else (0, J)
def iniJ (J : SJ) (c st : Int) : SJ := (fun k => if k = 6 ∨ k = 9 then st else if k = 7 then c - 1 else if k = 8 then -1 else 0, J.2)
/-! what holds all through a search -/
def FarF (F : Tb) (p far t : Int) : Prop := (F p.toNat 0 = 3 ∧ 1 ≤ far ∧ far < F p.toNat 2) ∨ (F p.toNat 0 = 5 ∧ 1 ≤ far ∧ far ≤ t) ∨ (F p.toNat 0 = 6 ∧ 0 ≤ far ∧ far < 16)
def FarO (F : Tb) (p far t : Int) : Prop := (F p.toNat 0 = 4 ∧ 1 ≤ far ∧ far < F p.toNat 2) ∨ (F p.toNat 0 = 5 ∧ 0 ≤ far ∧ far + 1 ≤ t) ∨ (F p.toNat 0 = 6 ∧ 0 ≤ far ∧ far < 128 ∧ far % 8 < F p.toNat 2 ∧ ndA (far / 8) (far % 8) (F p.toNat 2) = far % 8)
def Nst (F : Tb) (J : SJ) (p u : Int) : Prop := F p.toNat 9 + gU J u ≤ 6 ∧ F p.toNat 10 ≤ 23
def FrO (F : Tb) (c : Nat) (n : Int) (J : SJ) (i : Nat) : Prop := (0 ≤ J.2.2.1 i 0 ∧ J.2.2.1 i 0 < (c : Int)) ∧ (-1 ≤ J.2.2.1 i 1 ∧ J.2.2.1 i 1 < (i : Int)) ∧ (0 ≤ J.2.2.1 i 3 ∧ J.2.2.1 i 3 ≤ n) ∧ J.2.2.1 i 4 = gU J (J.2.2.1 i 1) + (if F (J.2.2.1 i 0).toNat 0 = 3 then 1 else 0) ∧ Nst F J (J.2.2.1 i 0) (J.2.2.1 i 1) ∧ FarF F (J.2.2.1 i 0) (J.2.2.1 i 2) (J.1 10)
def OpO (F : Tb) (c : Nat) (n : Int) (J : SJ) (j : Nat) : Prop := (0 ≤ J.2.2.2 j 0 ∧ J.2.2.2 j 0 < (c : Int)) ∧ (-1 ≤ J.2.2.2 j 1 ∧ J.2.2.2 j 1 < J.2.2.2 j 4) ∧ (J.1 6 ≤ J.2.2.2 j 3 ∧ J.2.2.2 j 3 ≤ n) ∧ (0 ≤ J.2.2.2 j 4 ∧ J.2.2.2 j 4 ≤ J.1 3) ∧ ((j : Int) + 1 < J.1 5 → J.2.2.2 j 4 ≤ J.2.2.2 (j + 1) 4) ∧ J.2.2.2 j 4 + 1 ≤ J.1 10 + gU J (J.2.2.2 j 1) ∧ Nst F J (J.2.2.2 j 0) (J.2.2.2 j 1) ∧ FarO F (J.2.2.2 j 0) (J.2.2.2 j 2) (J.1 10)
def SI (F : Tb) (c : Nat) (n may : Int) (J : SJ) : Prop := (0 ≤ J.1 3 ∧ J.1 3 ≤ J.1 10 + 6) ∧ (0 ≤ J.1 5 ∧ J.1 5 ≤ J.1 10) ∧ (0 ≤ J.1 6 ∧ J.1 6 ≤ J.1 9 ∧ J.1 9 ≤ n ∧ n ≤ 32) ∧ (0 ≤ J.1 10 ∧ J.1 10 ≤ may ∧ may ≤ 5000) ∧ (0 ≤ J.1 12 ∧ J.1 12 ≤ 32 ∧ 0 ≤ J.1 13 ∧ J.1 13 ≤ 32) ∧ (∀ i : Nat, (i : Int) < J.1 3 → FrO F c n J i) ∧ (∀ j : Nat, (j : Int) < J.1 5 → OpO F c n J j)
def CoI (F : Tb) (c : Nat) (J : SJ) : Prop := (0 ≤ J.1 7 ∧ J.1 7 < (c : Int)) ∧ (-1 ≤ J.1 8 ∧ J.1 8 < J.1 3) ∧ Nst F J (J.1 7) (J.1 8) ∧ J.1 3 ≤ J.1 10 + gU J (J.1 8)
def CtI (F : Tb) (c : Nat) (J : SJ) : Prop := (0 ≤ J.1 7 ∧ J.1 7 < (c : Int)) ∧ (-1 ≤ J.1 8 ∧ J.1 8 < J.1 3) ∧ Nst F J (J.1 7) (J.1 8) ∧ J.1 3 + 1 ≤ J.1 10 + gU J (J.1 8)
def DoI (J : SJ) : Prop := (-1 ≤ J.1 8 ∧ J.1 8 < J.1 3) ∧ J.1 3 + 1 ≤ J.1 10 + gU J (J.1 8) ∧ gU J (J.1 8) ≤ 6
def PhI (F : Tb) (c : Nat) (ph : Int) (J : SJ) : Prop := if ph = 0 then CoI F c J else if ph = 1 then DoI J else ph = 2 ∨ ph = 3
def potA (F : Tb) (may ph : Int) (J : SJ) : Int := if ph = 3 then 0 else 30 * (may - J.1 10) + 2 * J.1 5 + (if ph = 0 then 1 + F (J.1 7).toNat 10 else if ph = 1 then 27 else 26)
/-! the table's facts -/
theorem chN_s {F : Tb} {k : Int} : ∀ i, chN F k (i + 1) = chN F (F k.toNat 8) i
  | 0 => rfl
  | i + 1 => by
    show F (chN F k (i + 1)).toNat 8 = F (chN F (F k.toNat 8) i).toNat 8
    rw [chN_s i]
theorem chN_pth {F : Tb} {a b : Int} : ∀ {q : Nat} {k l : Int}, Pth F a b q k l → ∀ i, i < q → a ≤ chN F k i ∧ chN F k i < b ∧ F (chN F k i).toNat 9 ≤ mxC F 9 q k ∧ F (chN F k i).toNat 10 ≤ mxC F 10 q k ∧ (i + 1 < q → a ≤ F (chN F k i).toNat 8) ∧ (i + 1 = q → chN F k i = l)
  | 0, _, _, h => h.elim
  | 1, k, l, h => by
    obtain ⟨rfl, h1, h2⟩ := h
    intro i hi
    obtain rfl : i = 0 := by omega
    refine ⟨h1, h2, ?_, ?_, fun h => by omega, fun _ => rfl⟩
    · show F k.toNat 9 ≤ max (F k.toNat 9) 0; omega
    · show F k.toNat 10 ≤ max (F k.toNat 10) 0; omega
  | q + 2, k, l, h => by
    obtain ⟨h1, h2, h3, h4⟩ := h
    have m9 : mxC F 9 (q + 2) k = max (F k.toNat 9) (mxC F 9 (q + 1) (F k.toNat 8)) := rfl
    have m10 : mxC F 10 (q + 2) k = max (F k.toNat 10) (mxC F 10 (q + 1) (F k.toNat 8)) := rfl
    intro i hi
    cases i with
    | zero =>
      refine ⟨h1, h2, ?_, ?_, fun _ => ?_, fun h => by omega⟩
      · show F k.toNat 9 ≤ _; omega
      · show F k.toNat 10 ≤ _; omega
      · show a ≤ F k.toNat 8; omega
    | succ i =>
      obtain ⟨i1, i2, i3, i4, i5, i6⟩ := chN_pth h4 i (by omega)
      rw [chN_s]
      exact ⟨i1, i2, by omega, by omega, fun h => i5 (by omega), fun h => i6 (by omega)⟩
theorem inn_kid {T : Tb} {c : Nat} {p : Int} (hW : WfT T 0 c) (hp : 0 ≤ p ∧ p < (c : Int)) (h3 : 3 ≤ T p.toNat 0) : 1 ≤ T p.toNat 2 ∧ T p.toNat 2 ≤ (c : Int) ∧ T p.toNat 0 ≤ 6 ∧ (T p.toNat 0 = 6 → T p.toNat 2 ≤ 4) ∧ (T p.toNat 0 ≠ 5 → 2 ≤ T p.toNat 2) ∧ (T p.toNat 0 = 5 → 0 ≤ T p.toNat 3 ∧ T p.toNat 3 ≤ 99 ∧ 1 ≤ T p.toNat 4 ∧ T p.toNat 4 ≤ 100 ∧ T p.toNat 3 ≤ T p.toNat 4 ∧ (T p.toNat 5 = 0 ∨ T p.toNat 5 = 1)) ∧ ∀ i : Nat, (i : Int) < T p.toNat 2 → 0 ≤ kidN T p i ∧ kidN T p i < (c : Int) ∧ T (kidN T p i).toNat 9 + (if T p.toNat 0 = 3 then 1 else 0) ≤ T p.toNat 9 ∧ T (kidN T p i).toNat 10 + 1 ≤ T p.toNat 10 ∧ ((i : Int) + 1 < T p.toNat 2 → 0 ≤ T (kidN T p i).toNat 8) ∧ (¬ (i : Int) + 1 < T p.toNat 2 → T (kidN T p i).toNat 8 = -5) := by
  rcases hW p.toNat (Nat.zero_le _) (by omega) with e | e
  · have := e.1.2; omega
  · obtain ⟨q, l, i1, i2, i3, i4, i5, i6, i7, i8, i9, i10, i11, i12⟩ := e
    have hc := Pth.cnt i4
    have hbd := Pth.bd i4
    refine ⟨by omega, by omega, i1.2, fun h => by have := i12 h; omega, fun h => by have := i11 h; omega, fun h => (i10 h).2, fun i hi => ?_⟩
    obtain ⟨j1, j2, j3, j4, j5, j6⟩ := chN_pth i4 i (by omega)
    unfold kidN
    refine ⟨by omega, by omega, by omega, by omega, fun h => by have := j5 (by omega); omega, fun h => ?_⟩
    rw [j6 (by omega)]; exact i5
theorem tab_nn {T : Tb} {c : Nat} (hW : WfT T 0 c) : ∀ (d : Nat) (p : Nat), p < c → p < d → 0 ≤ T p 9 ∧ 0 ≤ T p 10
  | 0, p, _, h => by omega
  | d + 1, p, hp, h => by
    rcases hW p (Nat.zero_le _) hp with e | e
    · have := e.2.2.2.2; omega
    · obtain ⟨q, l, i1, i2, i3, i4, i5, i6, i7, i8, i9⟩ := e
      have a := mxC_nn (F := T) (w := 9) q (T p 7)
      have b := mxC_nn (F := T) (w := 10) q (T p 7)
      omega
theorem tab_s {T : Tb} {c : Nat} {p : Int} (hW : WfT T 0 c) (hp : 0 ≤ p ∧ p < (c : Int)) : 0 ≤ T p.toNat 9 ∧ 0 ≤ T p.toNat 10 ∧ 0 ≤ T p.toNat 0 ∧ T p.toNat 0 ≤ 6 ∧ (T p.toNat 0 = 3 → 1 ≤ T p.toNat 9) ∧ (T p.toNat 0 = 0 → 0 ≤ T p.toNat 1 ∧ T p.toNat 1 ≤ 25) := by
  have h := tab_nn hW (p.toNat + 1) p.toNat (by omega) (by omega)
  rcases hW p.toNat (Nat.zero_le _) (by omega) with e | e
  · exact ⟨h.1, h.2, e.1.1, by have := e.1.2; omega, fun h => by have := e.1.2; omega, e.2.1⟩
  · obtain ⟨q, l, i1, i2, i3, i4, i5, i6, i7, i8, i9⟩ := e
    have a := mxC_nn (F := T) (w := 9) q (T p.toNat 7)
    refine ⟨h.1, h.2, by omega, i1.2, fun h3 => ?_, fun h0 => by omega⟩
    rw [if_pos h3] at i7; omega
/-! ranks that aren't done -/
theorem ndF_b (d inn : Int) : ∀ (f : Nat) (r : Int), r + (f : Int) = inn → r ≤ ndF d inn f r ∧ ndF d inn f r ≤ inn
  | 0, r, h => by show r ≤ r ∧ r ≤ inn; omega
  | f + 1, r, h => by
    unfold ndF
    by_cases c : r < inn ∧ bitA d r = 1
    · rw [if_pos c]; have := ndF_b d inn f (r + 1) (by omega); omega
    · rw [if_neg c]; omega
theorem ndF_f (d inn : Int) : ∀ (f : Nat) (r : Int), r + (f : Int) = inn → ndF d inn f r < inn → ¬ bitA d (ndF d inn f r) = 1
  | 0, r, h, h2 => by have h2 : r < inn := h2; omega
  | f + 1, r, h, h2 => by
    unfold ndF at h2 ⊢
    by_cases c : r < inn ∧ bitA d r = 1
    · rw [if_pos c] at h2 ⊢; exact ndF_f d inn f (r + 1) (by omega) h2
    · rw [if_neg c] at h2 ⊢; exact fun e => c ⟨h2, e⟩
theorem ndA_b {d r inn : Int} (h : r ≤ inn) : r ≤ ndA d r inn ∧ ndA d r inn ≤ inn := ndF_b d inn _ r (by omega)
theorem ndA_hi {d r inn : Int} (h : inn ≤ r) : ndA d r inn = r := by
  unfold ndA
  rw [show (inn - r).toNat = 0 from by omega]; rfl
theorem ndA_n {d r inn : Int} (h : bitA d r ≠ 1) : ndA d r inn = r := by
  unfold ndA
  cases (inn - r).toNat with
  | zero => rfl
  | succ f => unfold ndF; rw [if_neg (fun e => h e.2)]
theorem ndA_y {d r inn : Int} (h : r < inn) (hb : bitA d r = 1) : ndA d r inn = ndA d (r + 1) inn := by
  unfold ndA
  rw [show (inn - r).toNat = (inn - (r + 1)).toNat + 1 from by omega]
  show (if r < inn ∧ bitA d r = 1 then _ else r) = _
  rw [if_pos ⟨h, hb⟩]
theorem ndA_ff {d r inn : Int} (h : r ≤ inn) : ndA d (ndA d r inn) inn = ndA d r inn := by
  by_cases c : ndA d r inn < inn
  · exact ndA_n (ndF_f d inn _ r (by omega) c)
  · exact ndA_hi (by omega)
theorem or16 {d r : Int} (hd : 0 ≤ d ∧ d < 16) (hr : 0 ≤ r ∧ r < 4) : 0 ≤ or32 d (shl32 1 r) ∧ or32 d (shl32 1 r) < 16 := by
  have key : ∀ a : Fin 16, ∀ b : Fin 4, 0 ≤ or32 (a.val : Int) (shl32 1 (b.val : Int)) ∧ or32 (a.val : Int) (shl32 1 (b.val : Int)) < 16 := by decide +kernel
  have h := key ⟨d.toNat, by omega⟩ ⟨r.toNat, by omega⟩
  have e1 : ((d.toNat : Nat) : Int) = d := by omega
  have e2 : ((r.toNat : Nat) : Int) = r := by omega
  simp only [e1, e2] at h
  exact h
