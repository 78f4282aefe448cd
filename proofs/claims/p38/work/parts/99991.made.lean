/-! WHAT THE LAW MAKES: rows of a table; what they spell; how the class reads that -/
def lfR (V : Nat → Nat → Int) (p : Nat) : Prop := V p 5 = 0 ∧ ((V p 0 = 0 ∧ 0 ≤ V p 1 ∧ V p 1 ≤ 2) ∨ V p 0 = 1 ∨ V p 0 = 2)
abbrev sgR (V : Nat → Nat → Int) (p : Nat) : Prop := V p 0 = 3 ∨ V p 0 = 4 ∨ V p 0 = 6
def TO (V : Nat → Nat → Int) : Nat → Nat → Nat → Prop
  | 0, lo, p => lo = p ∧ lfR V p
  | f + 1, lo, p => (lo = p ∧ lfR V p) ∨
    (V p 0 = 5 ∧ V p 5 = 1 ∧ QB (V p 2) (V p 3) (V p 4) ∧ ∃ a : Nat, p = a + 1 ∧ V p 6 = (a : Int) ∧ lo ≤ a ∧ TO V f lo a) ∨
    (sgR V p ∧ V p 5 = 2 ∧ ∃ a b : Nat, p = b + 1 ∧ V p 6 = (a : Int) ∧ V p 7 = (b : Int) ∧ lo ≤ a ∧ a + 1 ≤ b ∧ TO V f lo a ∧ TO V f (a + 1) b) ∨
    (sgR V p ∧ V p 5 = 3 ∧ ∃ a b c : Nat, p = c + 1 ∧ V p 6 = (a : Int) ∧ V p 7 = (b : Int) ∧ V p 8 = (c : Int) ∧ lo ≤ a ∧ a + 1 ≤ b ∧ b + 1 ≤ c ∧ TO V f lo a ∧ TO V f (a + 1) b ∧ TO V f (b + 1) c)
def hdT (s c : Int) : List Int := if s = 0 then [65 + c] else if s = 1 then [94] else if s = 2 then [36] else if s = 6 then [37, 40] else []
def sepT (s : Int) (j : Nat) : List Int := if j = 0 then [] else if s = 4 then [124] else if s = 6 then [44] else []
abbrev looT (s k : Int) : Prop := (s = 5 ∧ 2 < k ∧ k < 6) ∨ (s = 3 ∧ (k = 3 ∨ k = 4)) ∨ (s = 4 ∧ k = 4)
def brkT (s k : Int) (w : List Int) : List Int := if looT s k then 40 :: (w ++ [41]) else w
/-- header, kids, times, foot -/
def kidT (V : Nat → Nat → Int) (g : Nat → List Int) (p : Nat) : Nat → List Int
  | 0 => hdT (V p 0) (V p 1)
  | j + 1 => kidT V g p j ++ sepT (V p 0) j ++ brkT (V p 0) (V (V p (6 + j)).toNat 0) (g (V p (6 + j)).toNat)
def footT (V : Nat → Nat → Int) (p : Nat) : List Int := (if V p 0 = 5 then qT (V p 2) (V p 3) (V p 4) else []) ++ (if V p 0 = 6 then [41] else [])
def spT (V : Nat → Nat → Int) : Nat → Nat → List Int
  | 0, p => hdT (V p 0) (V p 1)
  | f + 1, p => kidT V (spT V f) p (V p 5).toNat ++ footT V p
theorem sp_leaf {V : Nat → Nat → Int} {p : Nat} (h : lfR V p) (f : Nat) : spT V f p = hdT (V p 0) (V p 1) := by
  cases f with
  | zero => rfl
  | succ f =>
    obtain ⟨h5, h0⟩ := h
    show kidT V (spT V f) p (V p 5).toNat ++ footT V p = _
    rw [h5]
    unfold footT
    rw [if_neg (by omega), if_neg (by omega)]
    show hdT _ _ ++ _ = _
    simp
theorem rd_leaf {V : Nat → Nat → Int} {p : Nat} (h : lfR V p) (k : Nat) : RdAt k (hdT (V p 0) (V p 1)) 1 ∧ Beg (hdT (V p 0) (V p 1)) ∧ (0 ≤ V p 0 ∧ V p 0 ≤ 2) := by
  obtain ⟨h5, h0⟩ := h
  unfold hdT
  rcases h0 with ⟨h0, h1⟩ | h0 | h0
  · rw [if_pos h0]
    exact ⟨rd_letter (by omega), ⟨fun e => (by cases e), Or.inl (by show 65 ≤ 65 + V p 1 ∧ 65 + V p 1 ≤ 90; omega)⟩, by omega⟩
  · rw [h0]
    exact ⟨rd_beg, ⟨fun e => (by cases e), Or.inr (Or.inl rfl)⟩, by omega⟩
  · rw [h0]
    exact ⟨rd_end, ⟨fun e => (by cases e), Or.inr (Or.inr (Or.inl rfl))⟩, by omega⟩
/-- how a made part is read -/
def RdP (V : Nat → Nat → Int) (f lo p : Nat) (w : List Int) : Prop := lo ≤ p ∧ (0 ≤ V p 0 ∧ V p 0 ≤ 6) ∧ Beg w ∧ ∀ k, f ≤ k → ((V p 0 ≤ 2 ∨ V p 0 = 6) → RdAt k w (p - lo + 1)) ∧ (V p 0 = 5 → RdRe k w (p - lo + 1)) ∧ (V p 0 = 3 → RdSe k w (p - lo + 1)) ∧ (V p 0 = 4 → RdAl k w (p - lo + 1))
theorem RdP.al {V : Nat → Nat → Int} {f lo p : Nat} {w : List Int} (h : RdP V f lo p w) {k : Nat} (hk : f ≤ k) : RdAl k w (p - lo + 1) := by
  obtain ⟨h1, h2, h3, h4⟩ := h
  obtain ⟨a, b, c, d⟩ := h4 k hk
  by_cases e : V p 0 ≤ 2 ∨ V p 0 = 6
  · exact (a e).re.se.al
  · by_cases e5 : V p 0 = 5
    · exact (b e5).se.al
    · by_cases e3 : V p 0 = 3
      · exact (c e3).al
      · exact d (by omega)
theorem Beg.br {w : List Int} : Beg (40 :: (w ++ [41])) := ⟨fun e => (by cases e), Or.inr (Or.inr (Or.inr (Or.inl rfl)))⟩
theorem RdP.brk {V : Nat → Nat → Int} {f lo p : Nat} {w : List Int} (h : RdP V f lo p w) (s : Int) : Beg (brkT s (V p 0) w) := by
  unfold brkT
  split
  · exact Beg.br
  · exact h.2.2.1
theorem RdP.k5 {V : Nat → Nat → Int} {f lo p k : Nat} {w : List Int} (h : RdP V f lo p w) (hk : f + 1 ≤ k) : RdAt k (brkT 5 (V p 0) w) (p - lo + 1) := by
  obtain ⟨k', rfl⟩ : ∃ k', k = k' + 1 := ⟨k - 1, by omega⟩
  have h2 := h.2.1
  unfold brkT
  by_cases c : looT 5 (V p 0)
  · rw [if_pos c]; exact rd_brackets (h.al (by omega))
  · rw [if_neg c]; exact (h.2.2.2 (k' + 1) (by omega)).1 (by unfold looT at c; omega)
theorem RdP.k3 {V : Nat → Nat → Int} {f lo p k : Nat} {w : List Int} (h : RdP V f lo p w) (hk : f + 1 ≤ k) : RdRe k (brkT 3 (V p 0) w) (p - lo + 1) := by
  obtain ⟨k', rfl⟩ : ∃ k', k = k' + 1 := ⟨k - 1, by omega⟩
  have h2 := h.2.1
  unfold brkT
  by_cases c : looT 3 (V p 0)
  · rw [if_pos c]; exact (rd_brackets (h.al (by omega))).re
  · rw [if_neg c]
    obtain ⟨a1, a2, a3, a4⟩ := h.2.2.2 (k' + 1) (by omega)
    by_cases e : V p 0 ≤ 2 ∨ V p 0 = 6
    · exact (a1 e).re
    · exact a2 (by unfold looT at c; omega)
theorem RdP.k4 {V : Nat → Nat → Int} {f lo p k : Nat} {w : List Int} (h : RdP V f lo p w) (hk : f + 1 ≤ k) : RdSe k (brkT 4 (V p 0) w) (p - lo + 1) := by
  obtain ⟨k', rfl⟩ : ∃ k', k = k' + 1 := ⟨k - 1, by omega⟩
  have h2 := h.2.1
  unfold brkT
  by_cases c : looT 4 (V p 0)
  · rw [if_pos c]; exact (rd_brackets (h.al (by omega))).re.se
  · rw [if_neg c]
    obtain ⟨a1, a2, a3, a4⟩ := h.2.2.2 (k' + 1) (by omega)
    by_cases e : V p 0 ≤ 2 ∨ V p 0 = 6
    · exact (a1 e).re.se
    · by_cases e5 : V p 0 = 5
      · exact (a2 e5).se
      · exact a3 (by unfold looT at c; omega)
theorem RdP.k6 {V : Nat → Nat → Int} {f lo p k : Nat} {w : List Int} (h : RdP V f lo p w) (hk : f ≤ k) : RdAl k (brkT 6 (V p 0) w) (p - lo + 1) := by
  unfold brkT
  rw [if_neg (by unfold looT; omega)]
  exact h.al hk
theorem RdAt.ct {k : Nat} {w : List Int} {c c' : Nat} (h : RdAt k w c) (e : c = c') : RdAt k w c' := e ▸ h
theorem RdRe.ct {k : Nat} {w : List Int} {c c' : Nat} (h : RdRe k w c) (e : c = c') : RdRe k w c' := e ▸ h
theorem RdSe.ct {k : Nat} {w : List Int} {c c' : Nat} (h : RdSe k w c) (e : c = c') : RdSe k w c' := e ▸ h
theorem RdAl.ct {k : Nat} {w : List Int} {c c' : Nat} (h : RdAl k w c) (e : c = c') : RdAl k w c' := e ▸ h
theorem sp_s {V : Nat → Nat → Int} {f p : Nat} {s : Int} (h0 : V p 0 = s) (hs : s = 3 ∨ s = 4 ∨ s = 6) : footT V p = if s = 6 then [41] else [] := by
  unfold footT
  rw [h0, if_neg (by omega)]
  rfl
theorem made_read {V : Nat → Nat → Int} : ∀ (f lo p : Nat), TO V f lo p → RdP V f lo p (spT V f p)
  | 0, lo, p, h => by
    obtain ⟨rfl, h⟩ := h
    have hl := rd_leaf h
    refine ⟨Nat.le_refl _, ⟨(hl 0).2.2.1, by have := (hl 0).2.2.2; omega⟩, (hl 0).2.1, fun k _ => ⟨fun _ => (hl k).1.ct (by omega), fun e => ?_, fun e => ?_, fun e => ?_⟩⟩ <;> (have := (hl 0).2.2.2; omega)
  | f + 1, lo, p, h => by
    rcases h with ⟨rfl, h⟩ | ⟨h0, h5, hQ, a, rfl, h6, ha, hT⟩ | ⟨h0, h5, a, b, rfl, h6, h7, ha, hb, hTa, hTb⟩ | ⟨h0, h5, a, b, c, rfl, h6, h7, h8, ha, hb, hc, hTa, hTb, hTc⟩
    · have hl := rd_leaf h
      rw [sp_leaf h]
      refine ⟨Nat.le_refl _, ⟨(hl 0).2.2.1, by have := (hl 0).2.2.2; omega⟩, (hl 0).2.1, fun k _ => ⟨fun _ => (hl k).1.ct (by omega), fun e => ?_, fun e => ?_, fun e => ?_⟩⟩ <;> (have := (hl 0).2.2.2; omega)
    · have ia := made_read f lo a hT
      have e : spT V (f + 1) (a + 1) = brkT 5 (V a 0) (spT V f a) ++ qT (V (a + 1) 2) (V (a + 1) 3) (V (a + 1) 4) := by
        show kidT V (spT V f) (a + 1) (V (a + 1) 5).toNat ++ footT V (a + 1) = _
        rw [h5]
        show (hdT (V (a + 1) 0) (V (a + 1) 1) ++ sepT (V (a + 1) 0) 0 ++ brkT (V (a + 1) 0) (V (V (a + 1) (6 + 0)).toNat 0) (spT V f (V (a + 1) (6 + 0)).toNat)) ++ footT V (a + 1) = _
        unfold footT
        rw [Nat.add_zero, h6, Int.toNat_natCast, h0, if_pos rfl, if_neg (by decide), List.append_nil]
        rfl
      rw [e]
      have hb := (ia.brk 5).app (r := qT (V (a + 1) 2) (V (a + 1) 3) (V (a + 1) 4))
      refine ⟨by omega, by omega, hb.2, fun k hk => ⟨fun z => by omega, fun _ => (rd_rep (ia.k5 hk) hQ).ct (by omega), fun z => by omega, fun z => by omega⟩⟩
    · have ia := made_read f lo a hTa
      have ib := made_read f (a + 1) b hTb
      have e : spT V (f + 1) (b + 1) = (hdT (V (b + 1) 0) (V (b + 1) 1) ++ [] ++ brkT (V (b + 1) 0) (V a 0) (spT V f a)) ++ sepT (V (b + 1) 0) 1 ++ brkT (V (b + 1) 0) (V b 0) (spT V f b) ++ footT V (b + 1) := by
        show kidT V (spT V f) (b + 1) (V (b + 1) 5).toNat ++ footT V (b + 1) = _
        rw [h5]
        show ((hdT (V (b + 1) 0) (V (b + 1) 1) ++ [] ++ brkT (V (b + 1) 0) (V (V (b + 1) (6 + 0)).toNat 0) (spT V f (V (b + 1) (6 + 0)).toNat)) ++ sepT (V (b + 1) 0) 1 ++ brkT (V (b + 1) 0) (V (V (b + 1) (6 + 1)).toNat 0) (spT V f (V (b + 1) (6 + 1)).toNat)) ++ footT V (b + 1) = _
        rw [Nat.add_zero, h6, h7, Int.toNat_natCast, Int.toNat_natCast]
      rw [e]
      rcases h0 with h0 | h0 | h0
      · rw [sp_s (f := f) h0 (Or.inl rfl), h0]
        have e2 : (hdT 3 (V (b + 1) 1) ++ [] ++ brkT 3 (V a 0) (spT V f a)) ++ sepT 3 1 ++ brkT 3 (V b 0) (spT V f b) ++ (if (3 : Int) = 6 then [41] else []) = brkT 3 (V a 0) (spT V f a) ++ brkT 3 (V b 0) (spT V f b) := by simp [hdT, sepT]
        rw [e2]
        have hb := (ia.brk 3).app (r := brkT 3 (V b 0) (spT V f b))
        refine ⟨by omega, by omega, hb.2, fun k hk => ⟨fun z => by omega, fun z => by omega, fun _ => (rd_ser2 (ia.k3 hk) (ib.k3 hk) (ib.brk 3)).ct (by omega), fun z => by omega⟩⟩
      · rw [sp_s (f := f) h0 (Or.inr (Or.inl rfl)), h0]
        have e2 : (hdT 4 (V (b + 1) 1) ++ [] ++ brkT 4 (V a 0) (spT V f a)) ++ sepT 4 1 ++ brkT 4 (V b 0) (spT V f b) ++ (if (4 : Int) = 6 then [41] else []) = brkT 4 (V a 0) (spT V f a) ++ 124 :: brkT 4 (V b 0) (spT V f b) := by simp [hdT, sepT]
        rw [e2]
        have hb := (ia.brk 4).app (r := 124 :: brkT 4 (V b 0) (spT V f b))
        refine ⟨by omega, by omega, hb.2, fun k hk => ⟨fun z => by omega, fun z => by omega, fun z => by omega, fun _ => (rd_alt2 (ia.k4 hk) (ib.k4 hk)).ct (by omega)⟩⟩
      · rw [sp_s (f := f) h0 (Or.inr (Or.inr rfl)), h0]
        have e2 : (hdT 6 (V (b + 1) 1) ++ [] ++ brkT 6 (V a 0) (spT V f a)) ++ sepT 6 1 ++ brkT 6 (V b 0) (spT V f b) ++ (if (6 : Int) = 6 then [41] else []) = 37 :: 40 :: (brkT 6 (V a 0) (spT V f a) ++ 44 :: (brkT 6 (V b 0) (spT V f b) ++ [41])) := by simp [hdT, sepT]
        rw [e2]
        refine ⟨by omega, by omega, ⟨fun e => (by cases e), Or.inr (Or.inr (Or.inr (Or.inr rfl)))⟩, fun k hk => ⟨fun _ => ?_, fun z => by omega, fun z => by omega, fun z => by omega⟩⟩
        obtain ⟨k', rfl⟩ : ∃ k', k = k' + 1 := ⟨k - 1, by omega⟩
        exact (rd_any2 (ia.k6 (by omega)) (ib.k6 (by omega))).ct (by omega)
    · have ia := made_read f lo a hTa
      have ib := made_read f (a + 1) b hTb
      have ic := made_read f (b + 1) c hTc
      have e : spT V (f + 1) (c + 1) = ((hdT (V (c + 1) 0) (V (c + 1) 1) ++ [] ++ brkT (V (c + 1) 0) (V a 0) (spT V f a)) ++ sepT (V (c + 1) 0) 1 ++ brkT (V (c + 1) 0) (V b 0) (spT V f b)) ++ sepT (V (c + 1) 0) 2 ++ brkT (V (c + 1) 0) (V c 0) (spT V f c) ++ footT V (c + 1) := by
        show kidT V (spT V f) (c + 1) (V (c + 1) 5).toNat ++ footT V (c + 1) = _
        rw [h5]
        show (((hdT (V (c + 1) 0) (V (c + 1) 1) ++ [] ++ brkT (V (c + 1) 0) (V (V (c + 1) (6 + 0)).toNat 0) (spT V f (V (c + 1) (6 + 0)).toNat)) ++ sepT (V (c + 1) 0) 1 ++ brkT (V (c + 1) 0) (V (V (c + 1) (6 + 1)).toNat 0) (spT V f (V (c + 1) (6 + 1)).toNat)) ++ sepT (V (c + 1) 0) 2 ++ brkT (V (c + 1) 0) (V (V (c + 1) (6 + 2)).toNat 0) (spT V f (V (c + 1) (6 + 2)).toNat)) ++ footT V (c + 1) = _
        rw [Nat.add_zero, h6, h7, h8, Int.toNat_natCast, Int.toNat_natCast, Int.toNat_natCast]
      rw [e]
      rcases h0 with h0 | h0 | h0
      · rw [sp_s (f := f) h0 (Or.inl rfl), h0]
        have e2 : ((hdT 3 (V (c + 1) 1) ++ [] ++ brkT 3 (V a 0) (spT V f a)) ++ sepT 3 1 ++ brkT 3 (V b 0) (spT V f b)) ++ sepT 3 2 ++ brkT 3 (V c 0) (spT V f c) ++ (if (3 : Int) = 6 then [41] else []) = brkT 3 (V a 0) (spT V f a) ++ brkT 3 (V b 0) (spT V f b) ++ brkT 3 (V c 0) (spT V f c) := by simp [hdT, sepT]
        rw [e2]
        have hb := (ia.brk 3).app (r := brkT 3 (V b 0) (spT V f b) ++ brkT 3 (V c 0) (spT V f c))
        rw [← List.append_assoc] at hb
        refine ⟨by omega, by omega, hb.2, fun k hk => ⟨fun z => by omega, fun z => by omega, fun _ => (rd_ser3 (ia.k3 hk) (ib.k3 hk) (ic.k3 hk) (ib.brk 3) (ic.brk 3)).ct (by omega), fun z => by omega⟩⟩
      · rw [sp_s (f := f) h0 (Or.inr (Or.inl rfl)), h0]
        have e2 : ((hdT 4 (V (c + 1) 1) ++ [] ++ brkT 4 (V a 0) (spT V f a)) ++ sepT 4 1 ++ brkT 4 (V b 0) (spT V f b)) ++ sepT 4 2 ++ brkT 4 (V c 0) (spT V f c) ++ (if (4 : Int) = 6 then [41] else []) = brkT 4 (V a 0) (spT V f a) ++ 124 :: brkT 4 (V b 0) (spT V f b) ++ 124 :: brkT 4 (V c 0) (spT V f c) := by simp [hdT, sepT]
        rw [e2]
        have hb := (ia.brk 4).app (r := 124 :: brkT 4 (V b 0) (spT V f b) ++ 124 :: brkT 4 (V c 0) (spT V f c))
        rw [← List.append_assoc] at hb
        refine ⟨by omega, by omega, hb.2, fun k hk => ⟨fun z => by omega, fun z => by omega, fun z => by omega, fun _ => (rd_alt3 (ia.k4 hk) (ib.k4 hk) (ic.k4 hk)).ct (by omega)⟩⟩
      · rw [sp_s (f := f) h0 (Or.inr (Or.inr rfl)), h0]
        have e2 : ((hdT 6 (V (c + 1) 1) ++ [] ++ brkT 6 (V a 0) (spT V f a)) ++ sepT 6 1 ++ brkT 6 (V b 0) (spT V f b)) ++ sepT 6 2 ++ brkT 6 (V c 0) (spT V f c) ++ (if (6 : Int) = 6 then [41] else []) = 37 :: 40 :: (brkT 6 (V a 0) (spT V f a) ++ 44 :: (brkT 6 (V b 0) (spT V f b) ++ 44 :: (brkT 6 (V c 0) (spT V f c) ++ [41]))) := by simp [hdT, sepT]
        rw [e2]
        refine ⟨by omega, by omega, ⟨fun e => (by cases e), Or.inr (Or.inr (Or.inr (Or.inr rfl)))⟩, fun k hk => ⟨fun _ => ?_, fun z => by omega, fun z => by omega, fun z => by omega⟩⟩
        obtain ⟨k', rfl⟩ : ∃ k', k = k' + 1 := ⟨k - 1, by omega⟩
        exact (rd_any3 (ia.k6 (by omega)) (ib.k6 (by omega)) (ic.k6 (by omega))).ct (by omega)
theorem FS2_m1 : FS2 (-1) := by unfold FS2 FS1 FS0 isAt1; omega
/-- the whole text -/
theorem made_whole {V : Nat → Nat → Int} {f p : Nat} (h : TO V f 0 p) (hf : f ≤ 5) : PatW (txL (spT V f p)) (spT V f p).length ∧ (altL (txL (spT V f p)) (spT V f p).length 5 S0).2.2.2.1 = p + 1 := by
  have h1 := (made_read f 0 p h).al hf
  have h2 := h1 (spT V f p) [] 0 S0 ⟨rfl, rfl⟩ (by rw [List.append_nil]; rfl) FS2_m1
  refine ⟨⟨h2.1, by rw [h2.2.1]; omega⟩, ?_⟩
  rw [h2.2.2]
  show 0 + (p - 0 + 1) = p + 1
  omega
