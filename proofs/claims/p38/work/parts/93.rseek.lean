/-! the reference searches: the whole search -/
def RFx (I I' : Nat → Nat → Int) : Prop := ∀ o k, ¬ (34 ≤ o ∧ o ≤ 43) → o ≠ 45 → ¬ (49 ≤ o ∧ o ≤ 54) → ¬ (o = 30 ∧ (k = 6 ∨ k = 7 ∨ k = 8 ∨ k = 9 ∨ k = 19 ∨ k = 20 ∨ k = 24 ∨ k = 25 ∨ k = 26 ∨ k = 27 ∨ k = 33 ∨ (38 ≤ k ∧ k ≤ 48))) → I' o k = I o k
theorem RFx.of {I J K : Nat → Nat → Int} (h : RFi I J) (h2 : RFz J K) : RFx I K := fun o k a b d e => (h2 o k (by omega) b d (by omega)).trans (h o k a (by omega))
/-- how a search ends -/
def ResR (I0 I' : Nat → Nat → Int) (r : Int × SJ) (x : Int) : Prop := RZ0 I0 I' r.2 ∧ ((r.1 = -7 ∧ I' 30 44 = 1 ∧ x = 0) ∨ (r.1 ≠ -7 ∧ I' 30 44 = 0 ∧ RZs I' r.2 ∧ x = if r.1 = 1 then 1 else 0))
theorem RZ.nt {I0 I : Nat → Nat → Int} {F : Tb} {J : SJ} {a b : Int} (h : RZ I0 I F J) (h11 : 0 ≤ J.1 11) (ha : a = (noteA J).1 12) (hb : b = (noteA J).1 13) : RZ I0 (up2 (up2 (up2 I 30 41 (J.1 11 + 1)) 30 42 a) 30 43 b) F (noteA J) := by
  obtain ⟨⟨a1, a2, a3⟩, b', f, g⟩ := h
  have e : ∀ o k', ¬ (o = 30 ∧ 41 ≤ k' ∧ k' ≤ 43) → up2 (up2 (up2 I 30 41 (J.1 11 + 1)) 30 42 a) 30 43 b o k' = I o k' := fun o k' h1 => (up2_nx (by omega)).trans ((up2_nx (by omega)).trans (up2_nx (by omega)))
  obtain ⟨b1, b2, b3, b4, b5, b6, b7, b8⟩ := b'
  have e11 : (noteA J).1 11 = J.1 11 + 1 := rfl
  refine ⟨⟨((a1.set (by omega)).set (by omega)).set (by omega), fun k' => (e 45 k' (by omega)).trans (a2 k'), by rw [e 30 27 (by omega)]; exact a3⟩, ⟨?_, ?_, ?_, ?_, ?_, ?_, fun hz => ?_, fun _ => ⟨?_, ?_⟩⟩, fun i hi => ?_, fun j hj => ?_⟩
  · rw [e 30 33 (by omega)]; exact b1
  · rw [e 30 38 (by omega)]; exact b2
  · rw [e 30 48 (by omega)]; exact b3
  · rw [e 30 40 (by omega)]; exact b4
  · rw [e 30 39 (by omega)]; exact b5
  · rw [up2_nk (by decide), up2_nk (by decide), up2_s]; rfl
  · rw [e11] at hz; omega
  · rw [up2_nk (by decide), up2_s]; exact ha
  · rw [up2_s]; exact hb
  · rw [e 50 _ (by omega), e 49 _ (by omega)]; exact f i hi
  · rw [e 51 _ (by omega), e 52 _ (by omega), e 53 _ (by omega), e 54 _ (by omega)]; exact g j hj

section STS
variable {F : Tb} {n may : Int} {hc : Nat → CEnv → Int} {cl : Nat → Int} {J : SJ}
theorem s6_ite {c : Prop} [Decidable c] {a b : Int × SJ} {v : Int} (ha : a.2.1 6 = v) (hb : b.2.1 6 = v) : (if c then a else b).2.1 6 = v := by
  by_cases h : c
  · rw [if_pos h]; exact ha
  · rw [if_neg h]; exact hb
theorem comeW_6s {far : Int} : (comeW F J far).2.1 6 = J.1 6 := by
  unfold comeW
  split <;> rfl
theorem chooA_6s {far : Int} : (chooA F J far).2.1 6 = J.1 6 := by
  unfold chooA
  split <;> rfl
theorem ordA_6s {d r : Int} : (ordA F J d r).2.1 6 = J.1 6 := by
  unfold ordA
  refine s6_ite rfl ?_
  show (ordP F J d (ndA d r (F (J.1 7).toNat 2))).1 6 = J.1 6
  unfold ordP
  split <;> rfl
theorem repA_6s {k b : Int} : (repA F J k b).2.1 6 = J.1 6 := by
  unfold repA
  exact s6_ite rfl (s6_ite rfl (s6_ite rfl (s6_ite rfl rfl)))
theorem takA_6s {w : Int} : (takA n hc cl J w).2.1 6 = J.1 6 := by
  unfold takA
  exact s6_ite rfl (s6_ite rfl rfl)
theorem comeA_6s : (comeA F n may hc cl J).2.1 6 = J.1 6 := by
  unfold comeA cm2
  exact s6_ite comeW_6s (s6_ite rfl (s6_ite (takA_6s (J := tryJ J)) (s6_ite rfl (s6_ite rfl (s6_ite (chooA_6s (J := tryJ J)) (s6_ite (repA_6s (J := tryJ J)) (ordA_6s (J := tryJ J))))))))
theorem goOnA_6s : (goOnA F may J).2.1 6 = J.1 6 := by
  unfold goOnA go2
  exact s6_ite (comeW_6s (J := popF J)) (s6_ite rfl (s6_ite (repA_6s (J := tryJ (popF J))) (ordA_6s (J := tryJ (popF J)))))
theorem goBkA_6s : (goBkA F J).2.1 6 = J.1 6 := by
  unfold goBkA gb2
  exact s6_ite (chooA_6s (J := popO J)) (s6_ite (s6_ite rfl rfl) (ordA_6s (J := popO J)))
end STS

