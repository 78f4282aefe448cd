/-! WHAT spelled() GIVES: lengths and letters -/
def tL : Nat → Nat
  | 0 => 1
  | f + 1 => 3 * tL f + 18
def sN : Nat → Nat
  | 0 => 50
  | f + 1 => 3 * sN f + 100
def sZ : Nat → Nat
  | 0 => 400
  | f + 1 => 3 * sZ f + 600 + 60 * tL (f + 1)
def ShT (n : Nat) (w : List Int) : Prop := w.length ≤ n ∧ ∀ x ∈ w, 1 ≤ x ∧ x ≤ 127
theorem ShT.app {a b : Nat} {w v : List Int} (h : ShT a w) (h2 : ShT b v) : ShT (a + b) (w ++ v) := ⟨by rw [List.length_append]; have := h.1; have := h2.1; omega, fun x hx => (List.mem_append.mp hx).elim (h.2 x) (h2.2 x)⟩
theorem ShT.mono {a b : Nat} {w : List Int} (h : ShT a w) (hb : a ≤ b) : ShT b w := ⟨Nat.le_trans h.1 hb, h.2⟩
theorem ShT.nil {n : Nat} : ShT n [] := ⟨Nat.zero_le _, fun x hx => absurd hx List.not_mem_nil⟩
theorem ShT.cons {n : Nat} {x : Int} {w : List Int} (hx : 1 ≤ x ∧ x ≤ 127) (h : ShT n w) : ShT (n + 1) (x :: w) := ⟨Nat.succ_le_succ h.1, fun y hy => (List.mem_cons.mp hy).elim (fun e => e ▸ hx) (h.2 y)⟩
theorem ShT.one {x : Int} (hx : 1 ≤ x ∧ x ≤ 127) : ShT 1 [x] := ShT.cons hx (ShT.nil (n := 0))
theorem hd_sh {s c : Int} (h : s = 0 → 0 ≤ c ∧ c ≤ 2) : ShT 2 (hdT s c) := by
  unfold hdT
  by_cases a : s = 0
  · rw [if_pos a]; exact (ShT.one (by have := h a; omega)).mono (by decide)
  · rw [if_neg a]
    by_cases b : s = 1
    · rw [if_pos b]; exact (ShT.one (by omega)).mono (by decide)
    · rw [if_neg b]
      by_cases b2 : s = 2
      · rw [if_pos b2]; exact (ShT.one (by omega)).mono (by decide)
      · rw [if_neg b2]
        by_cases b6 : s = 6
        · rw [if_pos b6]; exact ShT.cons (by omega) (ShT.one (by omega))
        · rw [if_neg b6]; exact ShT.nil
theorem hd_sh1 {s c : Int} (h : s = 0 → 0 ≤ c ∧ c ≤ 2) (hs : s ≤ 2) : ShT 1 (hdT s c) := by
  refine ⟨?_, (hd_sh h).2⟩
  unfold hdT
  by_cases a : s = 0
  · rw [if_pos a]; exact Nat.le_refl _
  · rw [if_neg a]
    by_cases b : s = 1
    · rw [if_pos b]; exact Nat.le_refl _
    · rw [if_neg b]
      by_cases b2 : s = 2
      · rw [if_pos b2]; exact Nat.le_refl _
      · rw [if_neg b2, if_neg (by omega)]; exact Nat.zero_le _
theorem sep_sh {s : Int} {j : Nat} : ShT 1 (sepT s j) := by
  unfold sepT
  by_cases a : j = 0
  · rw [if_pos a]; exact ShT.nil
  · rw [if_neg a]
    by_cases b : s = 4
    · rw [if_pos b]; exact ShT.one (by omega)
    · rw [if_neg b]
      by_cases b6 : s = 6
      · rw [if_pos b6]; exact ShT.one (by omega)
      · rw [if_neg b6]; exact ShT.nil
theorem brk_sh {s k : Int} {n : Nat} {w : List Int} (h : ShT n w) : ShT (n + 2) (brkT s k w) := by
  unfold brkT
  by_cases a : looT s k
  · rw [if_pos a]; exact ShT.cons (by omega) (h.app (ShT.one (by omega)))
  · rw [if_neg a]; exact h.mono (by omega)
theorem q1_sh {lo hi more : Int} (hQ : QB lo hi more) : ShT 5 (q1T lo hi) := by
  unfold QB at hQ
  unfold q1T
  by_cases a : lo = 0 ∧ hi = 100
  · rw [if_pos a]; exact (ShT.one (by omega)).mono (by decide)
  · rw [if_neg a]
    by_cases b : lo = 1 ∧ hi = 100
    · rw [if_pos b]; exact (ShT.one (by omega)).mono (by decide)
    · rw [if_neg b]
      by_cases c : lo = 0 ∧ hi = 1
      · rw [if_pos c]; exact (ShT.one (by omega)).mono (by decide)
      · rw [if_neg c]
        have h2 : ShT 2 [123, 48 + lo] := ShT.cons (by omega) (ShT.one (by omega))
        have h3 : ShT 2 (if hi = lo then [] else if hi = 100 then [44] else [44, 48 + hi]) := by
          by_cases d : hi = lo
          · rw [if_pos d]; exact ShT.nil
          · rw [if_neg d]
            by_cases e : hi = 100
            · rw [if_pos e]; exact (ShT.one (by omega)).mono (by decide)
            · rw [if_neg e]; exact ShT.cons (by omega) (ShT.one (by omega))
        exact (h2.app h3).app (ShT.one (x := 125) (by omega))
theorem q_sh {lo hi more : Int} (hQ : QB lo hi more) : ShT 6 (qT lo hi more) := by
  unfold qT
  refine (q1_sh hQ).app (b := 1) ?_
  by_cases a : more = 0
  · rw [if_pos a]; exact ShT.one (by omega)
  · rw [if_neg a]; exact ShT.nil
theorem foot_sh {V : Nat → Nat → Int} {p : Nat} (hQ : V p 0 = 5 → QB (V p 2) (V p 3) (V p 4)) : ShT 7 (footT V p) := by
  unfold footT
  refine ShT.app (a := 6) (b := 1) ?_ ?_
  · by_cases a : V p 0 = 5
    · rw [if_pos a]; exact q_sh (hQ a)
    · rw [if_neg a]; exact ShT.nil
  · by_cases a : V p 0 = 6
    · rw [if_pos a]; exact ShT.one (by omega)
    · rw [if_neg a]; exact ShT.nil
theorem kid_sh {V : Nat → Nat → Int} {g : Nat → List Int} {p G : Nat} (h0 : V p 0 = 0 → 0 ≤ V p 1 ∧ V p 1 ≤ 2) : ∀ (j : Nat), (∀ i, i < j → ShT G (g (V p (6 + i)).toNat)) → ShT (2 + j * (G + 3)) (kidT V g p j)
  | 0, _ => (hd_sh h0).mono (by omega)
  | j + 1, h => by
    have i := kid_sh h0 j (fun i hi => h i (by omega))
    have e : 2 + (j + 1) * (G + 3) = 2 + j * (G + 3) + 1 + (G + 2) := by rw [Nat.succ_mul]; omega
    rw [e]
    exact (i.app sep_sh).app (brk_sh (h j (Nat.lt_succ_self _)))
/-- what a part of the table is, all sorts alike -/
def GenT (V : Nat → Nat → Int) (f p n : Nat) : Prop := n ≤ 3 ∧ V p 5 = (n : Int) ∧ (0 ≤ V p 0 ∧ V p 0 ≤ 6) ∧ (V p 0 = 0 → 0 ≤ V p 1 ∧ V p 1 ≤ 2) ∧ (V p 0 = 5 → QB (V p 2) (V p 3) (V p 4)) ∧ ((n = 0 ∧ V p 0 ≤ 2) ∨ ∃ f', f = f' + 1 ∧ ∀ j, j < n → ∃ a lo : Nat, V p (6 + j) = (a : Int) ∧ a < p ∧ TO V f' lo a)
theorem TO.gen {V : Nat → Nat → Int} {f lo p : Nat} (h : TO V f lo p) : ∃ n, GenT V f p n := by
  have lf : ∀ f, lfR V p → ∃ n, GenT V f p n := fun f h => by
    obtain ⟨h5, h0⟩ := h
    exact ⟨0, by decide, h5, by omega, fun e => by omega, fun e => by omega, Or.inl ⟨rfl, by omega⟩⟩
  cases f with
  | zero => exact lf 0 h.2
  | succ f =>
    rcases h with ⟨-, h⟩ | ⟨h0, h5, hQ, a, rfl, h6, ha, hT⟩ | ⟨h0, h5, a, b, rfl, h6, h7, ha, hb, hTa, hTb⟩ | ⟨h0, h5, a, b, c, rfl, h6, h7, h8, ha, hb, hc, hTa, hTb, hTc⟩
    · exact lf _ h
    · refine ⟨1, by decide, h5, by omega, fun e => by omega, fun _ => hQ, Or.inr ⟨f, rfl, fun j hj => ?_⟩⟩
      obtain rfl : j = 0 := by omega
      exact ⟨a, lo, h6, by omega, hT⟩
    · have h0' : V (b + 1) 0 = 3 ∨ V (b + 1) 0 = 4 ∨ V (b + 1) 0 = 6 := h0
      refine ⟨2, by decide, h5, by omega, fun e => by omega, fun e => by omega, Or.inr ⟨f, rfl, fun j hj => ?_⟩⟩
      match j, hj with
      | 0, _ => exact ⟨a, lo, h6, by omega, hTa⟩
      | 1, _ => exact ⟨b, a + 1, h7, by omega, hTb⟩
    · have h0' : V (c + 1) 0 = 3 ∨ V (c + 1) 0 = 4 ∨ V (c + 1) 0 = 6 := h0
      refine ⟨3, by decide, h5, by omega, fun e => by omega, fun e => by omega, Or.inr ⟨f, rfl, fun j hj => ?_⟩⟩
      match j, hj with
      | 0, _ => exact ⟨a, lo, h6, by omega, hTa⟩
      | 1, _ => exact ⟨b, a + 1, h7, by omega, hTb⟩
      | 2, _ => exact ⟨c, b + 1, h8, by omega, hTc⟩
theorem GenT.sp {V : Nat → Nat → Int} {f p n : Nat} (h : GenT V f p n) : spT V f p = kidT V (spT V (f - 1)) p n ++ footT V p := by
  obtain ⟨h1, h2, h3, h4, h5, h6⟩ := h
  cases f with
  | zero =>
    rcases h6 with ⟨rfl, h6⟩ | ⟨f', e, -⟩
    · show hdT _ _ = hdT _ _ ++ footT V p
      unfold footT
      rw [if_neg (by omega), if_neg (by omega)]
      simp
    · omega
  | succ f =>
    show kidT V (spT V f) p (V p 5).toNat ++ footT V p = _
    rw [h2]
    rfl
theorem tL_pos (f : Nat) : 1 ≤ tL f := by cases f <;> unfold tL <;> omega
theorem sp_sh {V : Nat → Nat → Int} : ∀ (f lo p : Nat), TO V f lo p → ShT (tL f) (spT V f p)
  | 0, lo, p, h => by
    obtain ⟨-, h5, h0⟩ := h
    exact hd_sh1 (s := V p 0) (c := V p 1) (fun e => by omega) (by omega)
  | f + 1, lo, p, h => by
    obtain ⟨n, h⟩ := h.gen
    have e := h.sp
    obtain ⟨h1, h2, h3, h4, h5, h6⟩ := h
    rw [e]
    have hk : ShT (2 + n * (tL f + 3)) (kidT V (spT V (f + 1 - 1)) p n) := by
      refine kid_sh h4 n fun i hi => ?_
      rcases h6 with ⟨rfl, -⟩ | ⟨f', e, h6⟩
      · omega
      · obtain rfl : f = f' := by omega
        obtain ⟨a, lo, e1, e2, e3⟩ := h6 i hi
        rw [e1, Int.toNat_natCast]
        exact sp_sh f lo a e3
    refine (hk.app (foot_sh h5)).mono ?_
    have : n * (tL f + 3) ≤ 3 * (tL f + 3) := Nat.mul_le_mul_right _ h1
    show _ ≤ 3 * tL f + 18
    omega
theorem litB_11 : litB.getD 11 [] = [94] := by decide
theorem litB_12 : litB.getD 12 [] = [36] := by decide
theorem litB_13 : litB.getD 13 [] = [37, 40] := by decide
theorem litB_14 : litB.getD 14 [] = [124] := by decide
theorem litB_15 : litB.getD 15 [] = [44] := by decide
theorem litB_16 : litB.getD 16 [] = [40] := by decide
theorem litB_17 : litB.getD 17 [] = [41] := by decide
theorem litB_18 : litB.getD 18 [] = [42] := by decide
theorem litB_19 : litB.getD 19 [] = [43] := by decide
theorem litB_20 : litB.getD 20 [] = [63] := by decide
theorem litB_21 : litB.getD 21 [] = [123] := by decide
theorem litB_22 : litB.getD 22 [] = [125] := by decide
theorem litB_23 : litB.getD 23 [] = [65] := by decide
/-- what stays while texts grow: the part's row, the text so far -/
def SpW (m : Mem) (q B T : Nat) (R : Nat → Int) (w : List Int) : Prop := mT m q = (20, 10) ∧ (∀ c, c < 10 → mI m q c = R c) ∧ StrO m B T w
theorem SpW.kp {m m' : Mem} {q B T b : Nat} {R : Nat → Int} {w : List Int} (h : SpW m q B T R w) (hk : Kp b m m') (hq : q < b) (hB : B ≤ b) : SpW m' q B T R w :=
  ⟨(hk q (Or.inl hq)).1.trans h.1, fun c hc => ((hk q (Or.inl hq)).2.1 c).trans (h.2.1 c hc), h.2.2.kp hk hB⟩

