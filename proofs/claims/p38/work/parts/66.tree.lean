/-! PATTERNS: what stands in the parts' table once a text is read -/
def Wth (F : Tb) (v : Int) : Nat → Int → Prop
  | 0, _ => True
  | q + 1, k => F k.toNat 6 = v ∧ Wth F v q (F k.toNat 8)
def penB (o i : Int) : Int := if needB o i then 2 else 0
def exL (so : Int) (q : Nat) (lo hi mo : Int) : Int := if so = 5 then qLen lo hi mo else if so = 4 then (q : Int) - 1 else if so = 6 then (q : Int) + 2 else 0
def Leaf (F : Tb) (p : Nat) : Prop := (0 ≤ F p 0 ∧ F p 0 ≤ 2) ∧ (F p 0 = 0 → 0 ≤ F p 1 ∧ F p 1 ≤ 25) ∧ F p 2 = 0 ∧ F p 7 = -5 ∧ F p 9 = 0 ∧ F p 10 = 0 ∧ F p 11 = 1
def Inn (F : Tb) (a p : Nat) : Prop := ∃ (q : Nat) (l : Int), (3 ≤ F p 0 ∧ F p 0 ≤ 6) ∧ F p 2 = (q : Int) ∧ 1 ≤ q ∧ Pth F a p q (F p 7) l ∧ F l.toNat 8 = -5 ∧ Wth F p q (F p 7) ∧ F p 9 = mxC F 9 q (F p 7) + (if F p 0 = 3 then 1 else 0) ∧ F p 10 = mxC F 10 q (F p 7) + 1 ∧ F p 11 = smC F (F p 0) q (F p 7) + exL (F p 0) q (F p 3) (F p 4) (F p 5) ∧ (F p 0 = 5 → q = 1 ∧ 0 ≤ F p 3 ∧ F p 3 ≤ 99 ∧ 1 ≤ F p 4 ∧ F p 4 ≤ 100 ∧ F p 3 ≤ F p 4 ∧ (F p 5 = 0 ∨ F p 5 = 1)) ∧ (F p 0 ≠ 5 → 2 ≤ q) ∧ (F p 0 = 6 → q ≤ 4)
def WfT (F : Tb) (a c : Nat) : Prop := ∀ p, a ≤ p → p < c → Leaf F p ∨ Inn F a p
def AgB (hi : Nat) (F G : Tb) : Prop := ∀ x w, x < hi → (F x 6 ≠ -5 ∨ (w ≠ 6 ∧ w ≠ 8)) → G x w = F x w
theorem Wth.last {F : Tb} {v a b : Int} : ∀ {q : Nat} {k l : Int}, Pth F a b q k l → Wth F v q k → F l.toNat 6 = v
  | 0, _, _, h, _ => h.elim
  | 1, k, l, h, hw => by obtain ⟨rfl, _⟩ := h; exact hw.1
  | q + 2, k, l, h, hw => Wth.last h.2.2.2 hw.2
theorem Pth.lo {F : Tb} {a a' b : Int} (h : a' ≤ a) : ∀ {q : Nat} {k l : Int}, Pth F a b q k l → Pth F a' b q k l
  | 0, _, _, h => h.elim
  | 1, k, l, h => by obtain ⟨rfl, h1, h2⟩ := h; exact ⟨rfl, by omega, h2⟩
  | q + 2, k, l, h => by obtain ⟨h1, h2, h3, h4⟩ := h; exact ⟨by omega, h2, h3, Pth.lo (by omega) h4⟩
theorem Pth.self {F : Tb} {a b : Int} : ∀ {q : Nat} {k l : Int}, Pth F a b q k l → Pth F k b q k l
  | 0, _, _, h => h.elim
  | 1, k, l, h => by obtain ⟨rfl, h1, h2⟩ := h; exact ⟨rfl, Int.le_refl _, h2⟩
  | q + 2, k, l, h => by obtain ⟨h1, h2, h3, h4⟩ := h; exact ⟨Int.le_refl _, h2, h3, Pth.lo (by omega) (Pth.self h4)⟩
theorem kid_agr {F G : Tb} {hi a b : Nat} {v : Int} (hA : AgB hi F G) (hv : v ≠ -5) (hb : b ≤ hi) : ∀ {q : Nat} {k l : Int}, Pth F a b q k l → Wth F v q k → Pth G a b q k l ∧ Wth G v q k ∧ (∀ w, mxC G w q k = mxC F w q k) ∧ (∀ o, smC G o q k = smC F o q k)
  | 0, _, _, h, _ => h.elim
  | 1, k, l, h, hw => by
    obtain ⟨rfl, h1, h2⟩ := h
    have e : ∀ w, G k.toNat w = F k.toNat w := fun w => hA _ w (by omega) (Or.inl (by rw [hw.1]; exact hv))
    refine ⟨⟨rfl, h1, h2⟩, ⟨(e 6).trans hw.1, trivial⟩, fun w => ?_, fun o => ?_⟩
    · show max (G k.toNat w) 0 = max (F k.toNat w) 0
      rw [e w]
    · show G k.toNat 11 + (if needB o (G k.toNat 0) then 2 else 0) + 0 = F k.toNat 11 + (if needB o (F k.toNat 0) then 2 else 0) + 0
      rw [e 11, e 0]
  | q + 2, k, l, h, hw => by
    obtain ⟨h1, h2, h3, h4⟩ := h
    have e : ∀ w, G k.toNat w = F k.toNat w := fun w => hA _ w (by omega) (Or.inl (by rw [hw.1]; exact hv))
    obtain ⟨i1, i2, i3, i4⟩ := kid_agr hA hv hb h4 hw.2
    refine ⟨⟨h1, h2, by rw [e 8]; exact h3, by rw [e 8]; exact i1⟩, ⟨(e 6).trans hw.1, by rw [e 8]; exact i2⟩, fun w => ?_, fun o => ?_⟩
    · show max (G k.toNat w) (mxC G w (q + 1) (G k.toNat 8)) = max (F k.toNat w) (mxC F w (q + 1) (F k.toNat 8))
      rw [e w, e 8, i3 w]
    · show G k.toNat 11 + (if needB o (G k.toNat 0) then 2 else 0) + smC G o (q + 1) (G k.toNat 8) = F k.toNat 11 + (if needB o (F k.toNat 0) then 2 else 0) + smC F o (q + 1) (F k.toNat 8)
      rw [e 11, e 0, e 8, i4 o]
theorem Inn.agr {F G : Tb} {hi a p : Nat} (hA : AgB hi F G) (hp : p < hi) (h : Leaf F p ∨ Inn F a p) : Leaf G p ∨ Inn G a p := by
  have e : ∀ w, w ≠ 6 → w ≠ 8 → G p w = F p w := fun w h6 h8 => hA p w hp (Or.inr ⟨h6, h8⟩)
  rcases h with h | h
  · left
    unfold Leaf
    rw [e 0 (by decide) (by decide), e 1 (by decide) (by decide), e 2 (by decide) (by decide), e 7 (by decide) (by decide), e 9 (by decide) (by decide), e 10 (by decide) (by decide), e 11 (by decide) (by decide)]
    exact h
  · right
    obtain ⟨q, l, i1, i2, i3, i4, i5, i6, i7, i8, i9, i10, i11, i12⟩ := h
    obtain ⟨k1, k2, k3, k4⟩ := kid_agr hA (v := (p : Int)) (by omega) (Nat.le_of_lt hp) i4 i6
    have b := Pth.bd i4
    have hl : G l.toNat 8 = F l.toNat 8 := hA _ _ (by omega) (Or.inl (by rw [Wth.last i4 i6]; omega))
    unfold Inn
    rw [e 0 (by decide) (by decide), e 2 (by decide) (by decide), e 7 (by decide) (by decide), e 9 (by decide) (by decide), e 10 (by decide) (by decide), e 11 (by decide) (by decide), e 3 (by decide) (by decide), e 4 (by decide) (by decide), e 5 (by decide) (by decide)]
    exact ⟨q, l, i1, i2, i3, k1, hl.trans i5, k2, by rw [k3]; exact i7, by rw [k3]; exact i8, by rw [k4]; exact i9, i10, i11, i12⟩
theorem Inn.lo {F : Tb} {a a' p : Nat} (ha : a' ≤ a) (h : Leaf F p ∨ Inn F a p) : Leaf F p ∨ Inn F a' p := by
  rcases h with h | h
  · exact Or.inl h
  · obtain ⟨q, l, i1, i2, i3, i4, i⟩ := h
    exact Or.inr ⟨q, l, i1, i2, i3, Pth.lo (by omega) i4, i⟩
theorem kid_same {F G : Tb} {a b : Int} (h0 : 0 ≤ a) (hA : ∀ (p w : Nat), (p : Int) < b → w ≠ 6 → G p w = F p w) : ∀ {q : Nat} {k l : Int}, Pth F a b q k l → Pth G a b q k l ∧ (∀ w, w ≠ 6 → mxC G w q k = mxC F w q k) ∧ (∀ o, smC G o q k = smC F o q k)
  | 0, _, _, h => h.elim
  | 1, k, l, h => by
    obtain ⟨rfl, h1, h2⟩ := h
    have e : ∀ w, w ≠ 6 → G k.toNat w = F k.toNat w := fun w => hA _ w (by omega)
    refine ⟨⟨rfl, h1, h2⟩, fun w hw => ?_, fun o => ?_⟩
    · show max (G k.toNat w) 0 = max (F k.toNat w) 0
      rw [e w hw]
    · show G k.toNat 11 + (if needB o (G k.toNat 0) then 2 else 0) + 0 = F k.toNat 11 + (if needB o (F k.toNat 0) then 2 else 0) + 0
      rw [e 11 (by decide), e 0 (by decide)]
  | q + 2, k, l, h => by
    obtain ⟨h1, h2, h3, h4⟩ := h
    have e : ∀ w, w ≠ 6 → G k.toNat w = F k.toNat w := fun w => hA _ w (by omega)
    obtain ⟨i1, i3, i4⟩ := kid_same h0 hA h4
    refine ⟨⟨h1, h2, by rw [e 8 (by decide)]; exact h3, by rw [e 8 (by decide)]; exact i1⟩, fun w hw => ?_, fun o => ?_⟩
    · show max (G k.toNat w) (mxC G w (q + 1) (G k.toNat 8)) = max (F k.toNat w) (mxC F w (q + 1) (F k.toNat 8))
      rw [e w hw, e 8 (by decide), i3 w hw]
    · show G k.toNat 11 + (if needB o (G k.toNat 0) then 2 else 0) + smC G o (q + 1) (G k.toNat 8) = F k.toNat 11 + (if needB o (F k.toNat 0) then 2 else 0) + smC F o (q + 1) (F k.toNat 8)
      rw [e 11 (by decide), e 0 (by decide), e 8 (by decide), i4 o]
theorem Wth.same {F G : Tb} {v a b : Int} (h0 : 0 ≤ a) (hA : ∀ (p w : Nat), a ≤ (p : Int) → (p : Int) < b → G p w = F p w) : ∀ {q : Nat} {k l : Int}, Pth F a b q k l → Wth F v q k → Wth G v q k
  | 0, _, _, h, _ => h.elim
  | 1, k, l, h, hw => by
    obtain ⟨rfl, h1, h2⟩ := h
    exact ⟨(hA _ 6 (by omega) (by omega)).trans hw.1, trivial⟩
  | q + 2, k, l, h, hw => by
    obtain ⟨h1, h2, h3, h4⟩ := h
    refine ⟨(hA _ 6 (by omega) (by omega)).trans hw.1, ?_⟩
    rw [hA _ 8 (by omega) (by omega)]
    exact Wth.same h0 hA h4 hw.2
theorem kid_link {F : Tb} {a b : Int} {v x : Int} (h0 : 0 ≤ a) (hx : F x.toNat 6 = v) : ∀ {q : Nat} {k l : Int}, Pth F a b q k l → Wth F v q k → Wth (up2 F l.toNat 8 x) v (q + 1) k ∧ (∀ w, w ≠ 8 → mxC (up2 F l.toNat 8 x) w (q + 1) k = max (mxC F w q k) (max (F x.toNat w) 0)) ∧ (∀ o, smC (up2 F l.toNat 8 x) o (q + 1) k = smC F o q k + (F x.toNat 11 + penB o (F x.toNat 0)))
  | 0, _, _, h, _ => h.elim
  | 1, k, l, h, hw => by
    obtain ⟨rfl, h1, h2⟩ := h
    have e : ∀ y w, w ≠ 8 → up2 F k.toNat 8 x y w = F y w := fun y w hw => up2_nk hw
    refine ⟨⟨(e _ 6 (by decide)).trans hw.1, ?_, trivial⟩, fun w hw => ?_, fun o => ?_⟩
    · rw [up2_s]; exact (e _ 6 (by decide)).trans hx
    · show max (up2 F k.toNat 8 x k.toNat w) (max (up2 F k.toNat 8 x (up2 F k.toNat 8 x k.toNat 8).toNat w) 0) = max (max (F k.toNat w) 0) (max (F x.toNat w) 0)
      rw [up2_s, e _ w hw, e _ w hw]
      omega
    · show up2 F k.toNat 8 x k.toNat 11 + (if needB o (up2 F k.toNat 8 x k.toNat 0) then 2 else 0) + (up2 F k.toNat 8 x (up2 F k.toNat 8 x k.toNat 8).toNat 11 + (if needB o (up2 F k.toNat 8 x (up2 F k.toNat 8 x k.toNat 8).toNat 0) then 2 else 0) + 0) = F k.toNat 11 + (if needB o (F k.toNat 0) then 2 else 0) + 0 + (F x.toNat 11 + (if needB o (F x.toNat 0) then 2 else 0))
      rw [up2_s, e _ 11 (by decide), e _ 0 (by decide), e _ 11 (by decide), e _ 0 (by decide)]
      omega
  | q + 2, k, l, h, hw => by
    obtain ⟨h1, h2, h3, h4⟩ := h
    have b := Pth.bd h4
    have e : ∀ w, up2 F l.toNat 8 x k.toNat w = F k.toNat w := fun w => up2_no (by omega)
    obtain ⟨i1, i2, i3⟩ := kid_link h0 hx h4 hw.2
    refine ⟨⟨(e 6).trans hw.1, by rw [e 8]; exact i1⟩, fun w hw => ?_, fun o => ?_⟩
    · show max (up2 F l.toNat 8 x k.toNat w) (mxC (up2 F l.toNat 8 x) w (q + 2) (up2 F l.toNat 8 x k.toNat 8)) = max (max (F k.toNat w) (mxC F w (q + 1) (F k.toNat 8))) (max (F x.toNat w) 0)
      rw [e w, e 8, i2 w hw]
      omega
    · show up2 F l.toNat 8 x k.toNat 11 + (if needB o (up2 F l.toNat 8 x k.toNat 0) then 2 else 0) + smC (up2 F l.toNat 8 x) o (q + 2) (up2 F l.toNat 8 x k.toNat 8) = F k.toNat 11 + (if needB o (F k.toNat 0) then 2 else 0) + smC F o (q + 1) (F k.toNat 8) + (F x.toNat 11 + penB o (F x.toNat 0))
      rw [e 11, e 0, e 8, i3 o]
      omega
