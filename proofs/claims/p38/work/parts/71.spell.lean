/-! spell(): what is written of a pattern, as a list -/
def numS (x : Int) : List Int := (if 9 < x then [48 + x / 10] else []) ++ [48 + x % 10]
def qS (lo hi mo : Int) : List Int := (if hi = 100 ∧ lo < 2 then [if lo = 0 then 42 else 43] else if lo = 0 ∧ hi = 1 then [63] else 123 :: (numS lo ++ ((if hi = lo then [] else [44]) ++ ((if hi = lo ∨ hi = 100 then [] else numS hi) ++ [125])))) ++ (if mo = 0 then [63] else [])
def sepS (o : Int) : List Int := if o = 4 then [124] else if o = 6 then [44] else []
def kidS (F : Tb) (g : Nat → List Int) (o : Int) : Bool → Nat → Int → List Int
  | _, 0, _ => []
  | b, q + 1, k => (if b = true then [] else sepS o) ++ ((if needB o (F k.toNat 0) then [40] else []) ++ (g k.toNat ++ ((if needB o (F k.toNat 0) then [41] else []) ++ kidS F g o false q (F k.toNat 8))))
def splF (F : Tb) : Nat → Nat → List Int
  | 0, _ => []
  | f + 1, p => if F p 0 = 0 then [65 + F p 1] else if F p 0 = 1 then [94] else if F p 0 = 2 then [36] else (if F p 0 = 6 then [37, 40] else []) ++ (kidS F (splF F f) (F p 0) true (F p 2).toNat (F p 7) ++ ((if F p 0 = 6 then [41] else []) ++ (if F p 0 = 5 then qS (F p 3) (F p 4) (F p 5) else [])))
theorem numS_len (x : Int) : ((numS x).length : Int) = if 9 < x then 2 else 1 := by
  unfold numS
  by_cases h : 9 < x
  · rw [if_pos h, if_pos h]; rfl
  · rw [if_neg h, if_neg h]; rfl
theorem qS_len (lo hi mo : Int) : ((qS lo hi mo).length : Int) = qLen lo hi mo := by
  unfold qS qLen
  have e : ((if mo = 0 then [(63 : Int)] else []).length : Int) = if mo = 0 then 1 else 0 := by
    by_cases h : mo = 0
    · rw [if_pos h, if_pos h]; rfl
    · rw [if_neg h, if_neg h]; rfl
  rw [List.length_append, Int.natCast_add, e]
  congr 1
  by_cases h1 : hi = 100 ∧ lo < 2
  · rw [if_pos h1, if_pos h1]; rfl
  · rw [if_neg h1, if_neg h1]
    by_cases h2 : lo = 0 ∧ hi = 1
    · rw [if_pos h2, if_pos h2]; rfl
    · rw [if_neg h2, if_neg h2]
      have n1 := numS_len lo
      have n2 := numS_len hi
      by_cases h3 : hi = lo
      · rw [if_pos h3, if_pos (Or.inl h3), if_pos h3]
        simp only [List.length_cons, List.length_append, List.length_nil]
        omega
      · rw [if_neg h3, if_neg h3]
        by_cases h4 : hi = 100
        · rw [if_pos (Or.inr h4), if_pos h4]
          simp only [List.length_cons, List.length_append, List.length_nil]
          omega
        · rw [if_neg (by omega), if_neg h4]
          simp only [List.length_cons, List.length_append, List.length_nil]
          omega
theorem mxC_nn {F : Tb} {w : Nat} : ∀ (q : Nat) (k : Int), 0 ≤ mxC F w q k
  | 0, _ => Int.le_refl _
  | q + 1, k => by
    have := mxC_nn (F := F) (w := w) q (F k.toNat 8)
    show 0 ≤ max (F k.toNat w) (mxC F w q (F k.toNat 8))
    omega
theorem kidS_len {F : Tb} {g : Nat → List Int} {o a b h : Int} (ha : 0 ≤ a) (hg : ∀ x : Nat, (x : Int) < b → F x 10 ≤ h → ((g x).length : Int) = F x 11) : ∀ {q : Nat} {k l : Int} (fs : Bool), Pth F a b q k l → mxC F 10 q k ≤ h → ((kidS F g o fs q k).length : Int) = smC F o q k + (if o = 4 ∨ o = 6 then (q : Int) - (if fs = true then 1 else 0) else 0)
  | 0, _, _, _, h, _ => h.elim
  | q + 1, k, l, fs, hP, hm => by
    have hb := Pth.bd hP
    have hm' : max (F k.toNat 10) (mxC F 10 q (F k.toNat 8)) ≤ h := hm
    have hk := hg k.toNat (by omega) (by omega)
    have ht : ((kidS F g o false q (F k.toNat 8)).length : Int) = smC F o q (F k.toNat 8) + (if o = 4 ∨ o = 6 then (q : Int) else 0) := by
      cases q with
      | zero =>
        show ((0 : Nat) : Int) = 0 + _
        split <;> rfl
      | succ q =>
        have i := kidS_len ha hg (o := o) false hP.2.2.2 (by omega)
        rw [i]
        rw [if_neg (show ¬ false = true by decide)]
        split <;> omega
    have hs : ((sepS o).length : Int) = if o = 4 ∨ o = 6 then 1 else 0 := by
      unfold sepS
      by_cases h4 : o = 4
      · rw [if_pos h4, if_pos (Or.inl h4)]; rfl
      · rw [if_neg h4]
        by_cases h6 : o = 6
        · rw [if_pos h6, if_pos (Or.inr h6)]; rfl
        · rw [if_neg h6, if_neg (by omega)]; rfl
    show (((if fs = true then [] else sepS o) ++ ((if needB o (F k.toNat 0) then [40] else []) ++ (g k.toNat ++ ((if needB o (F k.toNat 0) then [41] else []) ++ kidS F g o false q (F k.toNat 8))))).length : Int) = F k.toNat 11 + (if needB o (F k.toNat 0) then 2 else 0) + smC F o q (F k.toNat 8) + _
    simp only [List.length_append, Int.natCast_add]
    rw [hk, ht]
    have hn : (((if needB o (F k.toNat 0) then [(40 : Int)] else []).length : Nat) : Int) + (((if needB o (F k.toNat 0) then [(41 : Int)] else []).length : Nat) : Int) = if needB o (F k.toNat 0) then 2 else 0 := by
      by_cases c : needB o (F k.toNat 0)
      · rw [if_pos c, if_pos c, if_pos c]; rfl
      · rw [if_neg c, if_neg c, if_neg c]; rfl
    have hf : (((if fs = true then [] else sepS o).length : Nat) : Int) = if o = 4 ∨ o = 6 then 1 - (if fs = true then 1 else 0) else 0 := by
      by_cases c : fs = true
      · rw [if_pos c, if_pos c]; split <;> rfl
      · rw [if_neg c, if_neg c, hs]; split <;> rfl
    rw [hf]
    by_cases c : o = 4 ∨ o = 6
    · rw [if_pos c, if_pos c, if_pos c]; omega
    · rw [if_neg c, if_neg c, if_neg c]; omega
theorem splF_len {F : Tb} {c : Nat} (hF : WfT F 0 c) : ∀ (f p : Nat), p < c → F p 10 < (f : Int) → ((splF F f p).length : Int) = F p 11
  | 0, p, hp, h => by
    rcases hF p (Nat.zero_le _) hp with e | e
    · have := e.2.2.2.2.2.1; omega
    · obtain ⟨q, l, -, -, -, -, -, -, -, i, -⟩ := e
      have := mxC_nn (F := F) (w := 10) q (F p 7)
      omega
  | f + 1, p, hp, h => by
    unfold splF
    rcases hF p (Nat.zero_le _) hp with e | e
    · obtain ⟨e1, e2, e3, e4, e5, e6, e7⟩ := e
      rw [e7]
      by_cases c0 : F p 0 = 0
      · rw [if_pos c0]; rfl
      · rw [if_neg c0]
        by_cases c1 : F p 0 = 1
        · rw [if_pos c1]; rfl
        · rw [if_neg c1, if_pos (by omega)]; rfl
    · obtain ⟨q, l, i1, i2, i3, i4, i5, i6, i7, i8, i9, i10, i11, i12⟩ := e
      rw [if_neg (by omega), if_neg (by omega), if_neg (by omega), i9, show (F p 2).toNat = q from by omega]
      have hk := kidS_len (F := F) (g := splF F f) (o := F p 0) (a := ((0 : Nat) : Int)) (b := (p : Int)) (h := mxC F 10 q (F p 7)) (Int.le_refl _) (fun x hx hh => splF_len hF f x (by omega) (by omega)) true i4 (Int.le_refl _)
      simp only [List.length_append, Int.natCast_add]
      rw [hk, if_pos rfl]
      unfold exL
      by_cases c6 : F p 0 = 6
      · rw [if_pos c6, if_pos c6, if_pos (Or.inr c6), if_neg (by omega), if_neg (by omega), if_neg (by omega), if_pos c6]
        simp only [List.length_cons, List.length_nil]
        omega
      · rw [if_neg c6, if_neg c6]
        by_cases c5 : F p 0 = 5
        · rw [if_neg (by omega), if_pos c5, if_pos c5, qS_len]
          simp only [List.length_nil]
          omega
        · rw [if_neg c5, if_neg c5, if_neg c6]
          simp only [List.length_nil]
          by_cases c4 : F p 0 = 4
          · rw [if_pos (Or.inl c4), if_pos c4]; omega
          · rw [if_neg (by omega), if_neg c4]; omega
