/-! the reference reads conditions: operands, tests, the levels -/
theorem RQ.rd {I : Nat → Nat → Int} {tx : Nat → Int} {n : Nat} {S : CS} (h : RQ I tx n S) (hc : ccS tx n S ≠ -1) : I 34 S.2 = ccS tx n S := by
  have hl := cc_lt hc
  rw [(h.2.2.2.2.2 _ hl.2).1]
  unfold ccS at hc ⊢
  by_cases c : S.1 = true ∧ S.2 < n ∧ tx S.2 ≠ 59
  · rw [if_pos c]
  · rw [if_neg c] at hc; exact absurd rfl hc
theorem RQ.lt {I : Nat → Nat → Int} {tx : Nat → Int} {n : Nat} {S : CS} (h : RQ I tx n S) (hc : ccS tx n S ≠ -1) : I 30 7 < I 30 6 := by
  have := cc_lt hc
  rw [h.1, h.2.1]
  omega
theorem valC_48 {e : CEnv} {d : Int} : valC e 48 d = some (d - 1000) := if_pos rfl
theorem valC_120 {e : CEnv} {d : Int} : valC e 120 d = cellE e e.2.1 d := (if_neg (by decide)).trans (if_pos rfl)
theorem valC_112 {e : CEnv} {d : Int} : valC e 112 d = cellE e (e.2.1 - 1) d := (if_neg (by decide)).trans ((if_neg (by decide)).trans (if_pos rfl))
theorem valC_110 {e : CEnv} {d : Int} : valC e 110 d = cellE e (e.2.1 + 1) d := (if_neg (by decide)).trans ((if_neg (by decide)).trans ((if_neg (by decide)).trans (if_pos rfl)))
theorem valC_102 {e : CEnv} {d : Int} : valC e 102 d = cellE e (frE e.2.2.1 (d / 2) (spE e) e.1) (d % 2) := (if_neg (by decide)).trans ((if_neg (by decide)).trans ((if_neg (by decide)).trans ((if_neg (by decide)).trans (if_pos rfl))))
theorem valC_108 {e : CEnv} {d : Int} : valC e 108 d = cellE e (lsE e.2.2.1 (d / 2) (spE e) e.1) (d % 2) := (if_neg (by decide)).trans ((if_neg (by decide)).trans ((if_neg (by decide)).trans ((if_neg (by decide)).trans ((if_neg (by decide)).trans (if_pos rfl)))))
theorem valC_115 {e : CEnv} {d : Int} : valC e 115 d = some (smE e.2.2.1 e.2.2.2.2 (d / 2) (d % 2) (spE e) e.1) := (if_neg (by decide)).trans ((if_neg (by decide)).trans ((if_neg (by decide)).trans ((if_neg (by decide)).trans ((if_neg (by decide)).trans ((if_neg (by decide)).trans (if_pos rfl))))))
theorem valC_99 {e : CEnv} {d : Int} : valC e 99 d = some (cnE e.2.2.1 (d / 2) (spE e) e.1) := (if_neg (by decide)).trans ((if_neg (by decide)).trans ((if_neg (by decide)).trans ((if_neg (by decide)).trans ((if_neg (by decide)).trans ((if_neg (by decide)).trans (if_neg (by decide)))))))

theorem op_goal {I0 I : Nat → Nat → Int} {tx : Nat → Int} {n : Nat} {S st : CS} {k d x : Int} (eK : opK tx n S = (k, d, st)) (hv : 0 ≤ I0 30 25 → st.1 = true → x = (valC (envR I0) k d).getD 0 ∧ I 30 27 = (if (valC (envR I0) k d).isSome = true then I0 30 27 else 1)) (h1 : RQ I tx n st) (h2 : QFr I0 I) (h3 : I 30 27 = 0 ∨ I 30 27 = 1) (h4 : I 30 26 = I0 30 26) : (0 ≤ I0 30 25 → (opS tx n S).2.2.1 = true → x = ((opS tx n S).2.1 (envR I0)).getD 0 ∧ I 30 27 = (if ((opS tx n S).2.1 (envR I0)).isSome = true then I0 30 27 else 1)) ∧ RQ I tx n (opS tx n S).2.2 ∧ QFr I0 I ∧ (I 30 27 = 0 ∨ I 30 27 = 1) ∧ I 30 26 = I0 30 26 := by
  have eO : opS tx n S = (opc k d, (fun e => valC e k d), st) := by unfold opS; rw [eK]
  rw [eO]
  exact ⟨hv, h1, h2, h3, h4⟩
theorem hv_some {I0 I : Nat → Nat → Int} {st : CS} {k d x v : Int} (hval : valC (envR I0) k d = some v) (hx : x = v) (hl : I 30 27 = I0 30 27) : 0 ≤ I0 30 25 → st.1 = true → x = (valC (envR I0) k d).getD 0 ∧ I 30 27 = (if (valC (envR I0) k d).isSome = true then I0 30 27 else 1) := by
  intro _ _
  rw [hval]
  exact ⟨hx, hl.trans (if_pos rfl).symm⟩
theorem hv_seen {I0 I1 I : Nat → Nat → Int} {st : CS} {k d x r c : Int} (hval : 0 ≤ I0 30 25 → valC (envR I0) k d = cellE (envR I0) r c) (hf : QFs I0 I1) (hs : 0 ≤ I1 30 25 → x = (cellE (envR I1) r c).getD 0 ∧ I 30 27 = (if (cellE (envR I1) r c).isSome = true then I1 30 27 else 1)) : 0 ≤ I0 30 25 → st.1 = true → x = (valC (envR I0) k d).getD 0 ∧ I 30 27 = (if (valC (envR I0) k d).isSome = true then I0 30 27 else 1) := by
  intro h0 _
  rw [hval h0]
  have h := hs (by rw [hf 30 25 (by omega)]; exact h0)
  rw [envR_fr hf.r, hf 30 27 (by omega)] at h
  exact h

theorem RQ.same {I : Nat → Nat → Int} {tx : Nat → Int} {n : Nat} {S : CS} {v : Int} (h : RQ I tx n S) (hv : v = (S.2 : Int)) : RQ (up2 I 30 7 v) tx n S := by
  rw [up2_id (h.2.1.trans hv.symm)]; exact h

