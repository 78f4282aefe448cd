/-! the reference searches: the whole search -/
section STS
variable {F : Tb} {n may : Int} {hc : Nat → CEnv → Int} {cl : Nat → Int} {J : SJ}
theorem s6_ite {c : Prop} [Decidable c] {a b : Int × SJ} {v : Int} (ha : a.2.1 6 = v) (hb : b.2.1 6 = v) : (if c then a else b).2.1 6 = v := by
  by_cases h : c
  · rw [if_pos h]; exact ha
  · rw [if_neg h]; exact hb
theorem comeW_6s {far : Int} : (comeW F J far).2.1 6 = J.1 6 := by
  unfold comeW
  split <;> rfl
theorem chooA_6s {far : Int} : (chooA F J far).2.1 6 = J.1 6 := by
  unfold chooA
  split <;> rfl
theorem ordA_6s {d r : Int} : (ordA F J d r).2.1 6 = J.1 6 := by
  unfold ordA
  refine s6_ite rfl ?_
  show (ordP F J d (ndA d r (F (J.1 7).toNat 2))).1 6 = J.1 6
  unfold ordP
  split <;> rfl
theorem repA_6s {k b : Int} : (repA F J k b).2.1 6 = J.1 6 := by
  unfold repA
  exact s6_ite rfl (s6_ite rfl (s6_ite rfl (s6_ite rfl rfl)))
theorem takA_6s {w : Int} : (takA n hc cl J w).2.1 6 = J.1 6 := by
  unfold takA
  exact s6_ite rfl (s6_ite rfl rfl)
theorem comeA_6s : (comeA F n may hc cl J).2.1 6 = J.1 6 := by
  unfold comeA cm2
  exact s6_ite comeW_6s (s6_ite rfl (s6_ite (takA_6s (J := tryJ J)) (s6_ite rfl (s6_ite rfl (s6_ite (chooA_6s (J := tryJ J)) (s6_ite (repA_6s (J := tryJ J)) (ordA_6s (J := tryJ J))))))))
theorem goOnA_6s : (goOnA F may J).2.1 6 = J.1 6 := by
  unfold goOnA go2
  exact s6_ite (comeW_6s (J := popF J)) (s6_ite rfl (s6_ite (repA_6s (J := tryJ (popF J))) (ordA_6s (J := tryJ (popF J)))))
theorem goBkA_6s : (goBkA F J).2.1 6 = J.1 6 := by
  unfold goBkA gb2
  exact s6_ite (chooA_6s (J := popO J)) (s6_ite (s6_ite rfl rfl) (ordA_6s (J := popO J)))
end STS

