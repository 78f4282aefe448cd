/-! spell(): the class writes a part, all levels -/
theorem Pth.cnt {F : Tb} {a b : Int} : ∀ {q : Nat} {k l : Int}, Pth F a b q k l → (q : Int) ≤ b - k
  | 0, _, _, h => h.elim
  | 1, k, l, h => by obtain ⟨rfl, h1, h2⟩ := h; omega
  | q + 2, k, l, h => by
    obtain ⟨h1, h2, h3, h4⟩ := h
    have i := Pth.cnt h4
    omega
theorem qLen_p {lo hi mo : Int} : 1 ≤ qLen lo hi mo := by
  unfold qLen
  have a : 0 ≤ (if mo = 0 then 1 else 0 : Int) := by split <;> omega
  have b : 1 ≤ (if 9 < lo then 2 else 1 : Int) := by split <;> omega
  have c : 0 ≤ (if hi = lo then 0 else if hi = 100 then 1 else 1 + (if 9 < hi then 2 else 1) : Int) := by
    split
    · omega
    · split
      · omega
      · split <;> omega
  split
  · omega
  · split <;> omega
theorem inn_fact {T : Tb} {c f p : Nat} (hW : WfT T 0 c) (hp : p < c) (hh : T p 10 < (f : Int) + 1) (h3 : 3 ≤ T p 0) : T p 2 = ((T p 2).toNat : Int) ∧ (T p 2).toNat ≤ c ∧ (∃ l, Pth T ((0 : Nat) : Int) (p : Int) (T p 2).toNat (T p 7) l ∧ T l.toNat 8 = -5) ∧ mxC T 10 (T p 2).toNat (T p 7) < (f : Int) ∧ T p 0 ≤ 6 ∧ (T p 0 = 6 → (((kidS T (splF T f) (T p 0) true (T p 2).toNat (T p 7)).length : Nat) : Int) + 3 = T p 11) ∧ (T p 0 = 5 → (((kidS T (splF T f) (T p 0) true (T p 2).toNat (T p 7)).length : Nat) : Int) + qLen (T p 3) (T p 4) (T p 5) = T p 11 ∧ 1 ≤ qLen (T p 3) (T p 4) (T p 5)) ∧ (T p 0 ≤ 4 → (((kidS T (splF T f) (T p 0) true (T p 2).toNat (T p 7)).length : Nat) : Int) = T p 11) ∧ (T p 0 = 5 → 0 ≤ T p 3 ∧ T p 3 ≤ 99 ∧ 1 ≤ T p 4 ∧ T p 4 ≤ 100 ∧ T p 3 ≤ T p 4 ∧ (T p 5 = 0 ∨ T p 5 = 1)) := by
  have hlen := splF_len hW (f + 1) p hp (by omega)
  rcases hW p (Nat.zero_le _) hp with e | e
  · have := e.1.2; omega
  · obtain ⟨q, l, i1, i2, i3, i4, i5, i6, i7, i8, i9, i10, i11, i12⟩ := e
    have hq : (T p 2).toNat = q := by omega
    have hc := Pth.cnt i4
    have hbd := Pth.bd i4
    rw [hq]
    unfold splF at hlen
    rw [if_neg (by omega), if_neg (by omega), if_neg (by omega), hq] at hlen
    simp only [List.length_append, Int.natCast_add] at hlen
    refine ⟨i2, by omega, ⟨l, i4, i5⟩, by omega, i1.2, fun h => ?_, fun h => ?_, fun h => ?_, fun h => (i10 h).2⟩
    · rw [if_pos h, if_pos h, if_neg (by omega)] at hlen
      simp only [List.length_cons, List.length_nil] at hlen
      omega
    · rw [if_neg (by omega), if_neg (by omega), if_pos h, qS_len] at hlen
      simp only [List.length_nil] at hlen
      exact ⟨by omega, qLen_p⟩
    · rw [if_neg (by omega), if_neg (by omega), if_neg (by omega)] at hlen
      simp only [List.length_nil] at hlen
      omega
theorem lef_fact {T : Tb} {c p : Nat} (hW : WfT T 0 c) (hp : p < c) (h3 : T p 0 < 3) : 0 ≤ T p 0 ∧ T p 11 = 1 ∧ T p 7 = -5 ∧ (T p 0 = 0 → 0 ≤ T p 1 ∧ T p 1 ≤ 25) := by
  rcases hW p (Nat.zero_le _) hp with e | e
  · exact ⟨e.1.1, e.2.2.2.2.2.2, e.2.2.2.1, e.2.1⟩
  · obtain ⟨q, l, i1, i2⟩ := e
    omega
theorem splF_0 {T : Tb} {f p : Nat} (h : T p 0 = 0) : splF T (f + 1) p = [65 + T p 1] := by unfold splF; rw [if_pos h]
theorem splF_1 {T : Tb} {f p : Nat} (h : T p 0 = 1) : splF T (f + 1) p = [94] := by unfold splF; rw [if_neg (by omega), if_pos h]
theorem splF_2 {T : Tb} {f p : Nat} (h : T p 0 = 2) : splF T (f + 1) p = [36] := by unfold splF; rw [if_neg (by omega), if_neg (by omega), if_pos h]
theorem splF_6 {T : Tb} {f p : Nat} (h : T p 0 = 6) : splF T (f + 1) p = [37] ++ ([40] ++ (kidS T (splF T f) (T p 0) true (T p 2).toNat (T p 7) ++ [41])) := by
  unfold splF; rw [if_neg (by omega), if_neg (by omega), if_neg (by omega), if_pos h, if_pos h, if_neg (by omega)]; simp only [List.append_nil, List.cons_append, List.nil_append]
theorem splF_5 {T : Tb} {f p : Nat} (h : T p 0 = 5) : splF T (f + 1) p = kidS T (splF T f) (T p 0) true (T p 2).toNat (T p 7) ++ qS (T p 3) (T p 4) (T p 5) := by
  unfold splF; rw [if_neg (by omega), if_neg (by omega), if_neg (by omega), if_neg (by omega), if_neg (by omega), if_pos h]; simp only [List.nil_append]
theorem splF_34 {T : Tb} {f p : Nat} (h : T p 0 = 3 ∨ T p 0 = 4) : splF T (f + 1) p = kidS T (splF T f) (T p 0) true (T p 2).toNat (T p 7) := by
  unfold splF; rw [if_neg (by omega), if_neg (by omega), if_neg (by omega), if_neg (by omega), if_neg (by omega), if_neg (by omega)]; simp only [List.nil_append, List.append_nil]
theorem sepS_c {o : Int} (h : o = 3 ∨ o = 5) : sepS o = [] := by unfold sepS; rw [if_neg (by omega), if_neg (by omega)]

