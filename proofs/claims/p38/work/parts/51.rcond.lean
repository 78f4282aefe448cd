/-! the reference reads conditions: both, either; whether a letter holds at a row -/
theorem joinC_and {A B : CR} {e : CEnv} : (joinC 38 A B).2.1 e = (A.2.1 e && B.2.1 e) := by
  show (if (38 : Int) = 38 then A.2.1 e && B.2.1 e else A.2.1 e || B.2.1 e) = _
  rw [if_pos rfl]
theorem joinC_or {A B : CR} {e : CEnv} : (joinC 124 A B).2.1 e = (A.2.1 e || B.2.1 e) := by
  show (if (124 : Int) = 38 then A.2.1 e && B.2.1 e else A.2.1 e || B.2.1 e) = _
  rw [if_neg (by decide)]
theorem bI_and (a b : Bool) : bI (a && b) = (if bI a = 1 ∧ bI b = 1 then 1 else 0) := by cases a <;> cases b <;> rfl
theorem bI_or (a b : Bool) : bI (a || b) = (if bI a = 1 ∨ bI b = 1 then 1 else 0) := by cases a <;> cases b <;> rfl
theorem QOut.join {I0 I J K : Nat → Nat → Int} {tx : Nat → Int} {n : Nat} {ch v x y : Int} {A B : CR} {go : CS → CR} (h : QOut I0 I tx n A v) (hc : ccS tx n A.2.2 = ch) (hch : ch = 38 ∨ ch = 124) (hJ : QFr I J) (h26 : J 30 26 = I 30 26) (hB : QOut J K tx n B x) (hni : CNi n 3 (cAdv A.2.2) B.2.2) (hy : y = (if ch = 38 then (if v = 1 ∧ x = 1 then 1 else 0) else (if v = 1 ∨ x = 1 then 1 else 0))) : QOut I0 K tx n (joinC ch A B) y := by
  obtain ⟨a1, a2, a3, a4, a5, a6⟩ := h
  obtain ⟨b1, b2, b3, b4, b5, b6⟩ := hB
  have f1 := QFr.tr a2 (QFr.tr hJ b2)
  refine ⟨b1, f1, b3, b4.trans (h26.trans a4), ?_, fun h0 hw => ?_⟩
  · rw [hy]; split <;> split <;> omega
  · have wB : B.2.2.1 = true := hw
    have wA := ((hni.2.1 wB).1 : A.2.2.1 = true)
    have va := a6 h0 wA
    have fJ : QFr I0 J := QFr.tr a2 hJ
    have vb := b6 (by rw [fJ 30 25 (by omega)]; exact h0) wB
    rw [envR_fr fJ] at vb
    rcases hch with rfl | rfl
    · rw [joinC_and, bI_and, ← va, ← vb, hy]; exact if_pos rfl
    · rw [joinC_or, bI_or, ← va, ← vb, hy]; exact if_neg (by decide)

