/-! THE ENDS OF ALL WAYS -/
section STK
variable {F : Tb} {n may : Int} {hc : Nat → CEnv → Int} {cl : Nat → Int} {J : SJ}
theorem s11_ite {c : Prop} [Decidable c] {a b : Int × SJ} {v : Int} (ha : a.2.1 11 = v) (hb : b.2.1 11 = v) : (if c then a else b).2.1 11 = v := by
  by_cases h : c
  · rw [if_pos h]; exact ha
  · rw [if_neg h]; exact hb
theorem comeW_11s {far : Int} : (comeW F J far).2.1 11 = J.1 11 := by
  unfold comeW
  split <;> rfl
theorem chooA_11s {far : Int} : (chooA F J far).2.1 11 = J.1 11 := by
  unfold chooA
  split <;> rfl
theorem ordA_11s {d r : Int} : (ordA F J d r).2.1 11 = J.1 11 := by
  unfold ordA
  refine s11_ite rfl ?_
  show (ordP F J d (ndA d r (F (J.1 7).toNat 2))).1 11 = J.1 11
  unfold ordP
  split <;> rfl
theorem repA_11s {k b : Int} : (repA F J k b).2.1 11 = J.1 11 := by
  unfold repA
  exact s11_ite rfl (s11_ite rfl (s11_ite rfl (s11_ite rfl rfl)))
theorem takA_11s {w : Int} : (takA n hc cl J w).2.1 11 = J.1 11 := by
  unfold takA
  exact s11_ite rfl (s11_ite rfl rfl)
theorem comeA_11s : (comeA F n may hc cl J).2.1 11 = J.1 11 := by
  unfold comeA cm2
  exact s11_ite comeW_11s (s11_ite rfl (s11_ite (takA_11s (J := tryJ J)) (s11_ite rfl (s11_ite rfl (s11_ite (chooA_11s (J := tryJ J)) (s11_ite (repA_11s (J := tryJ J)) (ordA_11s (J := tryJ J))))))))
theorem goOnA_11s : (goOnA F may J).2.1 11 = J.1 11 := by
  unfold goOnA go2
  exact s11_ite (comeW_11s (J := popF J)) (s11_ite rfl (s11_ite (repA_11s (J := tryJ (popF J))) (ordA_11s (J := tryJ (popF J)))))
theorem goBkA_11s : (goBkA F J).2.1 11 = J.1 11 := by
  unfold goBkA gb2
  exact s11_ite (chooA_11s (J := popO J)) (s11_ite (s11_ite rfl rfl) (ordA_11s (J := popO J)))
theorem s12_ite {c : Prop} [Decidable c] {a b : Int × SJ} {v : Int} (ha : a.2.1 12 = v) (hb : b.2.1 12 = v) : (if c then a else b).2.1 12 = v := by
  by_cases h : c
  · rw [if_pos h]; exact ha
  · rw [if_neg h]; exact hb
theorem comeW_12s {far : Int} : (comeW F J far).2.1 12 = J.1 12 := by
  unfold comeW
  split <;> rfl
theorem chooA_12s {far : Int} : (chooA F J far).2.1 12 = J.1 12 := by
  unfold chooA
  split <;> rfl
theorem ordA_12s {d r : Int} : (ordA F J d r).2.1 12 = J.1 12 := by
  unfold ordA
  refine s12_ite rfl ?_
  show (ordP F J d (ndA d r (F (J.1 7).toNat 2))).1 12 = J.1 12
  unfold ordP
  split <;> rfl
theorem repA_12s {k b : Int} : (repA F J k b).2.1 12 = J.1 12 := by
  unfold repA
  exact s12_ite rfl (s12_ite rfl (s12_ite rfl (s12_ite rfl rfl)))
theorem takA_12s {w : Int} : (takA n hc cl J w).2.1 12 = J.1 12 := by
  unfold takA
  exact s12_ite rfl (s12_ite rfl rfl)
theorem comeA_12s : (comeA F n may hc cl J).2.1 12 = J.1 12 := by
  unfold comeA cm2
  exact s12_ite comeW_12s (s12_ite rfl (s12_ite (takA_12s (J := tryJ J)) (s12_ite rfl (s12_ite rfl (s12_ite (chooA_12s (J := tryJ J)) (s12_ite (repA_12s (J := tryJ J)) (ordA_12s (J := tryJ J))))))))
theorem goOnA_12s : (goOnA F may J).2.1 12 = J.1 12 := by
  unfold goOnA go2
  exact s12_ite (comeW_12s (J := popF J)) (s12_ite rfl (s12_ite (repA_12s (J := tryJ (popF J))) (ordA_12s (J := tryJ (popF J)))))
theorem goBkA_12s : (goBkA F J).2.1 12 = J.1 12 := by
  unfold goBkA gb2
  exact s12_ite (chooA_12s (J := popO J)) (s12_ite (s12_ite rfl rfl) (ordA_12s (J := popO J)))
theorem s13_ite {c : Prop} [Decidable c] {a b : Int × SJ} {v : Int} (ha : a.2.1 13 = v) (hb : b.2.1 13 = v) : (if c then a else b).2.1 13 = v := by
  by_cases h : c
  · rw [if_pos h]; exact ha
  · rw [if_neg h]; exact hb
theorem comeW_13s {far : Int} : (comeW F J far).2.1 13 = J.1 13 := by
  unfold comeW
  split <;> rfl
theorem chooA_13s {far : Int} : (chooA F J far).2.1 13 = J.1 13 := by
  unfold chooA
  split <;> rfl
theorem ordA_13s {d r : Int} : (ordA F J d r).2.1 13 = J.1 13 := by
  unfold ordA
  refine s13_ite rfl ?_
  show (ordP F J d (ndA d r (F (J.1 7).toNat 2))).1 13 = J.1 13
  unfold ordP
  split <;> rfl
theorem repA_13s {k b : Int} : (repA F J k b).2.1 13 = J.1 13 := by
  unfold repA
  exact s13_ite rfl (s13_ite rfl (s13_ite rfl (s13_ite rfl rfl)))
theorem takA_13s {w : Int} : (takA n hc cl J w).2.1 13 = J.1 13 := by
  unfold takA
  exact s13_ite rfl (s13_ite rfl rfl)
theorem comeA_13s : (comeA F n may hc cl J).2.1 13 = J.1 13 := by
  unfold comeA cm2
  exact s13_ite comeW_13s (s13_ite rfl (s13_ite (takA_13s (J := tryJ J)) (s13_ite rfl (s13_ite rfl (s13_ite (chooA_13s (J := tryJ J)) (s13_ite (repA_13s (J := tryJ J)) (ordA_13s (J := tryJ J))))))))
theorem goOnA_13s : (goOnA F may J).2.1 13 = J.1 13 := by
  unfold goOnA go2
  exact s13_ite (comeW_13s (J := popF J)) (s13_ite rfl (s13_ite (repA_13s (J := tryJ (popF J))) (ordA_13s (J := tryJ (popF J)))))
theorem goBkA_13s : (goBkA F J).2.1 13 = J.1 13 := by
  unfold goBkA gb2
  exact s13_ite (chooA_13s (J := popO J)) (s13_ite (s13_ite rfl rfl) (ordA_13s (J := popO J)))
end STK
/-- where all ways end, in their order -/
def endA (F : Tb) (n may : Int) (hc : Nat → CEnv → Int) (cl : Nat → Int) : Nat → Int → SJ → List Int
  | 0, _, _ => []
  | f + 1, ph, J =>
    if ph = 0 then endA F n may hc cl f (comeA F n may hc cl J).1 (comeA F n may hc cl J).2
    else if ph = 1 ∧ 0 ≤ J.1 8 then endA F n may hc cl f (goOnA F may J).1 (goOnA F may J).2
    else if ph = 1 then J.1 9 :: endA F n may hc cl f 2 (noteA J)
    else if ph = 3 then []
    else if 0 < J.1 5 then endA F n may hc cl f (goBkA F J).1 (goBkA F J).2
    else []
section ENA
variable {F : Tb} {n may : Int} {hc : Nat → CEnv → Int} {cl : Nat → Int} {f : Nat} {ph : Int} {J : SJ}
theorem endA_0 (h : ph = 0) : endA F n may hc cl (f + 1) ph J = endA F n may hc cl f (comeA F n may hc cl J).1 (comeA F n may hc cl J).2 := if_pos h
theorem endA_1 (h : ph = 1) (h0 : 0 ≤ J.1 8) : endA F n may hc cl (f + 1) ph J = endA F n may hc cl f (goOnA F may J).1 (goOnA F may J).2 := (if_neg (by omega)).trans (if_pos ⟨h, h0⟩)
theorem endA_w (h : ph = 1) (h0 : J.1 8 < 0) : endA F n may hc cl (f + 1) ph J = J.1 9 :: endA F n may hc cl f 2 (noteA J) := (if_neg (by omega)).trans ((if_neg (fun e => by have := e.2; omega)).trans (if_pos h))
theorem endA_3 (h : ph = 3) : endA F n may hc cl (f + 1) ph J = [] := (if_neg (by omega)).trans ((if_neg (fun e => by have := e.1; omega)).trans ((if_neg (by omega)).trans (if_pos h)))
theorem endA_b (h : ph = 2) (h0 : 0 < J.1 5) : endA F n may hc cl (f + 1) ph J = endA F n may hc cl f (goBkA F J).1 (goBkA F J).2 := (if_neg (by omega)).trans ((if_neg (fun e => by have := e.1; omega)).trans ((if_neg (by omega)).trans ((if_neg (by omega)).trans (if_pos h0))))
theorem endA_n (h : ph = 2) (h0 : J.1 5 ≤ 0) : endA F n may hc cl (f + 1) ph J = [] := (if_neg (by omega)).trans ((if_neg (fun e => by have := e.1; omega)).trans ((if_neg (by omega)).trans ((if_neg (by omega)).trans (if_neg (by omega)))))
end ENA
/-- one step of a run, whatever is sought; or the run's end -/
theorem run_cases {F : Tb} {c : Nat} {n may : Int} {hc : Nat → CEnv → Int} {cl : Nat → Int} {f : Nat} {ph : Int} {J : SJ} (hW : WfT F 0 c) (h : RunI F c n may (f + 1) ph J) :
    (∃ ph1 J1, RunI F c n may f ph1 J1 ∧ (∀ e, runA F n may hc cl e (f + 1) ph J = runA F n may hc cl e f ph1 J1) ∧ endA F n may hc cl (f + 1) ph J = endA F n may hc cl f ph1 J1 ∧ J1.1 6 = J.1 6 ∧ J1.1 11 = J.1 11 ∧ J1.1 12 = J.1 12 ∧ J1.1 13 = J.1 13) ∨
    (ph = 1 ∧ J.1 8 < 0 ∧ RunI F c n may f 2 (noteA J) ∧ endA F n may hc cl (f + 1) ph J = J.1 9 :: endA F n may hc cl f 2 (noteA J) ∧ J.1 6 ≤ J.1 9 ∧ J.1 9 ≤ n) ∨
    ((∃ x, (x = -7 ∨ x = 0) ∧ ∀ e, runA F n may hc cl e (f + 1) ph J = (x, J)) ∧ endA F n may hc cl (f + 1) ph J = []) := by
  have h1 := h.1
  by_cases p0 : ph = 0
  · exact Or.inl ⟨_, _, h.come (hc := hc) (cl := cl) hW p0, fun e => runA_0 p0, endA_0 p0, comeA_6s, comeA_11s, comeA_12s, comeA_13s⟩
  · by_cases p1 : ph = 1
    · by_cases u : 0 ≤ J.1 8
      · exact Or.inl ⟨_, _, h.goOn hW p1 u, fun e => runA_1 p1 u, endA_1 p1 u, goOnA_6s, goOnA_11s, goOnA_12s, goOnA_13s⟩
      · have hs := (h.c1 p1).1
        exact Or.inr (Or.inl ⟨p1, by omega, h.note p1, endA_w p1 (by omega), hs.2.2.1.2.1, hs.2.2.1.2.2.1⟩)
    · by_cases p3 : ph = 3
      · exact Or.inr (Or.inr ⟨⟨-7, Or.inl rfl, fun e => runA_3 p3⟩, endA_3 p3⟩)
      · have p2 : ph = 2 := by omega
        by_cases q : 0 < J.1 5
        · exact Or.inl ⟨_, _, h.back hW p2 q, fun e => runA_b p2 q, endA_b p2 q, goBkA_6s, goBkA_11s, goBkA_12s, goBkA_13s⟩
        · exact Or.inr (Or.inr ⟨⟨0, Or.inr rfl, fun e => runA_n p2 (by omega)⟩, endA_n p2 (by omega)⟩)
/-- the first end -/
theorem end_first {F : Tb} {c : Nat} {n may : Int} {hc : Nat → CEnv → Int} {cl : Nat → Int} (hW : WfT F 0 c) : ∀ (f : Nat) (ph : Int) (J : SJ), RunI F c n may f ph J →
    (endA F n may hc cl f ph J = [] → ∀ e, runA F n may hc cl e f ph J = runA F n may hc cl (-1) f ph J ∧ (runA F n may hc cl (-1) f ph J).1 ≠ 1) ∧
    (∀ p l, endA F n may hc cl f ph J = p :: l → (runA F n may hc cl (-1) f ph J).1 = 1 ∧ (runA F n may hc cl (-1) f ph J).2.1 9 = p)
  | 0, ph, J, h => (RunI.fuel (fun p h1 h2 => (tab_s hW ⟨h1, h2⟩).2.1) h).elim
  | f + 1, ph, J, h => by
    rcases run_cases (hc := hc) (cl := cl) hW h with ⟨ph1, J1, h1, h2, h3, -⟩ | ⟨p1, u, h1, h2, -⟩ | ⟨⟨x, hx, h1⟩, h2⟩
    · have i := end_first (hc := hc) (cl := cl) hW f ph1 J1 h1
      rw [h3]
      simp only [h2]
      exact i
    · rw [h2]
      refine ⟨fun e => (by cases e), fun p l e => ?_⟩
      cases e
      rw [runA_w p1 u (Or.inl rfl)]
      exact ⟨rfl, rfl⟩
    · rw [h2]
      refine ⟨fun _ e => ?_, fun p l e => by cases e⟩
      rw [h1, h1]
      refine ⟨rfl, ?_⟩
      show x ≠ 1
      omega
/-- the run for one end -/
theorem end_at {F : Tb} {c : Nat} {n may : Int} {hc : Nat → CEnv → Int} {cl : Nat → Int} {e : Int} (hW : WfT F 0 c) (he : e ≠ -1) : ∀ (f : Nat) (ph : Int) (J : SJ), RunI F c n may f ph J →
    (e ∈ endA F n may hc cl f ph J → (runA F n may hc cl e f ph J).1 = 1) ∧
    (¬ e ∈ endA F n may hc cl f ph J → (runA F n may hc cl e f ph J).1 ≠ 1 ∧ (¬ -2 ∈ endA F n may hc cl f ph J → runA F n may hc cl e f ph J = runA F n may hc cl (-2) f ph J))
  | 0, ph, J, h => (RunI.fuel (fun p h1 h2 => (tab_s hW ⟨h1, h2⟩).2.1) h).elim
  | f + 1, ph, J, h => by
    rcases run_cases (hc := hc) (cl := cl) hW h with ⟨ph1, J1, h1, h2, h3, -⟩ | ⟨p1, u, h1, h2, -⟩ | ⟨⟨x, hx, h1⟩, h2⟩
    · have i := end_at (hc := hc) (cl := cl) hW he f ph1 J1 h1
      rw [h3]
      simp only [h2]
      exact i
    · rw [h2]
      have i := end_at (hc := hc) (cl := cl) hW he f 2 (noteA J) h1
      by_cases q : e = J.1 9
      · rw [runA_w p1 u (Or.inr q)]
        refine ⟨fun _ => rfl, fun z => absurd (List.mem_cons.mpr (Or.inl q)) z⟩
      · rw [runA_v p1 u (by omega)]
        refine ⟨fun z => i.1 ((List.mem_cons.mp z).resolve_left q), fun z => ?_⟩
        have i2 := i.2 (fun y => z (List.mem_cons_of_mem _ y))
        refine ⟨i2.1, fun z2 => ?_⟩
        have z3 : ¬ (-2 : Int) = J.1 9 := fun y => z2 (List.mem_cons.mpr (Or.inl y))
        rw [runA_v (e := -2) p1 u (by omega)]
        exact i2.2 (fun y => z2 (List.mem_cons_of_mem _ y))
    · rw [h2]
      refine ⟨fun z => by simp at z, fun _ => ⟨?_, fun _ => ?_⟩⟩
      · rw [h1]
        show x ≠ 1
        omega
      · rw [h1, h1]
/-- where ways end -/
theorem end_rng {F : Tb} {c : Nat} {n may : Int} {hc : Nat → CEnv → Int} {cl : Nat → Int} (hW : WfT F 0 c) : ∀ (f : Nat) (ph : Int) (J : SJ), RunI F c n may f ph J → ∀ p ∈ endA F n may hc cl f ph J, J.1 6 ≤ p ∧ p ≤ n
  | 0, ph, J, h => (RunI.fuel (fun p h1 h2 => (tab_s hW ⟨h1, h2⟩).2.1) h).elim
  | f + 1, ph, J, h => by
    rcases run_cases (hc := hc) (cl := cl) hW h with ⟨ph1, J1, h1, h2, h3, h4, -⟩ | ⟨p1, u, h1, h2, h3⟩ | ⟨h1, h2⟩
    · have i := end_rng (hc := hc) (cl := cl) hW f ph1 J1 h1
      rw [h3, ← h4]
      exact i
    · rw [h2]
      intro p hp
      rcases List.mem_cons.mp hp with rfl | hp
      · exact h3
      · exact end_rng (hc := hc) (cl := cl) hW f 2 (noteA J) h1 p hp
    · rw [h2]
      intro p hp
      simp at hp
/-- ways counted: how many, the shortest, the longest -/
def nfA (s : Int) (t : Int × Int × Int) (p : Int) : Int × Int × Int := (t.1 + 1, (if t.1 = 0 then p - s else if p - s < t.2.1 then p - s else t.2.1), if t.2.2 < p - s then p - s else t.2.2)
theorem end_cnt {F : Tb} {c : Nat} {n may : Int} {hc : Nat → CEnv → Int} {cl : Nat → Int} (hW : WfT F 0 c) : ∀ (f : Nat) (ph : Int) (J : SJ), RunI F c n may f ph J → ¬ -2 ∈ endA F n may hc cl f ph J → (runA F n may hc cl (-2) f ph J).1 ≠ -7 →
    ((runA F n may hc cl (-2) f ph J).2.1 11, (runA F n may hc cl (-2) f ph J).2.1 12, (runA F n may hc cl (-2) f ph J).2.1 13) = (endA F n may hc cl f ph J).foldl (nfA (J.1 6)) (J.1 11, J.1 12, J.1 13)
  | 0, ph, J, h => (RunI.fuel (fun p h1 h2 => (tab_s hW ⟨h1, h2⟩).2.1) h).elim
  | f + 1, ph, J, h => by
    intro hz h7
    rcases run_cases (hc := hc) (cl := cl) hW h with ⟨ph1, J1, h1, h2, h3, h4, h5, h6, h8⟩ | ⟨p1, u, h1, h2, h3⟩ | ⟨⟨x, hx, h1⟩, h2⟩
    · rw [h3] at hz
      rw [h2] at h7 ⊢
      have i := end_cnt (hc := hc) (cl := cl) hW f ph1 J1 h1 hz h7
      rw [h3, ← h4, ← h5, ← h6, ← h8]
      exact i
    · rw [h2] at hz
      have z3 : ¬ (-2 : Int) = J.1 9 := fun y => hz (List.mem_cons.mpr (Or.inl y))
      rw [runA_v p1 u (by omega)] at h7 ⊢
      have i := end_cnt (hc := hc) (cl := cl) hW f 2 (noteA J) h1 (fun y => hz (List.mem_cons_of_mem _ y)) h7
      rw [h2]
      exact i
    · rw [h2, h1]
      rfl
theorem nf_fold (s : Int) : ∀ (l : List Int) (t : Int × Int × Int), 1 ≤ t.1 → (l.foldl (nfA s) t).1 = t.1 + (l.length : Int) ∧ ((l.foldl (nfA s) t).2.1 ≤ t.2.1 ∧ ((l.foldl (nfA s) t).2.1 = t.2.1 ∨ ∃ p ∈ l, (l.foldl (nfA s) t).2.1 = p - s)) ∧ (t.2.2 ≤ (l.foldl (nfA s) t).2.2 ∧ ((l.foldl (nfA s) t).2.2 = t.2.2 ∨ ∃ p ∈ l, (l.foldl (nfA s) t).2.2 = p - s)) ∧ ∀ p ∈ l, (l.foldl (nfA s) t).2.1 ≤ p - s ∧ p - s ≤ (l.foldl (nfA s) t).2.2
  | [], t, _ => ⟨by show t.1 = t.1 + ((0 : Nat) : Int); omega, ⟨Int.le_refl _, Or.inl rfl⟩, ⟨Int.le_refl _, Or.inl rfl⟩, fun p hp => by simp at hp⟩
  | q :: l, t, h => by
    obtain ⟨i1, ⟨i2, i3⟩, ⟨i4, i5⟩, i6⟩ := nf_fold s l (nfA s t q) (by show 1 ≤ t.1 + 1; omega)
    have e1 : (nfA s t q).1 = t.1 + 1 := rfl
    have e2 : (nfA s t q).2.1 = if q - s < t.2.1 then q - s else t.2.1 := if_neg (by omega)
    have e3 : (nfA s t q).2.2 = if t.2.2 < q - s then q - s else t.2.2 := rfl
    have ef : (q :: l).foldl (nfA s) t = l.foldl (nfA s) (nfA s t q) := rfl
    rw [ef]
    generalize l.foldl (nfA s) (nfA s t q) = R at *
    rw [e2] at i2 i3
    rw [e3] at i4 i5
    have hlo : R.2.1 ≤ t.2.1 ∧ R.2.1 ≤ q - s := by split at i2 <;> omega
    have hhi : t.2.2 ≤ R.2.2 ∧ q - s ≤ R.2.2 := by split at i4 <;> omega
    refine ⟨by rw [i1, e1, List.length_cons]; omega, ⟨hlo.1, ?_⟩, ⟨hhi.1, ?_⟩, fun p hp => ?_⟩
    · rcases i3 with i3 | ⟨p, hp, i3⟩
      · split at i3
        · exact Or.inr ⟨q, List.mem_cons_self, i3⟩
        · exact Or.inl i3
      · exact Or.inr ⟨p, List.mem_cons_of_mem _ hp, i3⟩
    · rcases i5 with i5 | ⟨p, hp, i5⟩
      · split at i5
        · exact Or.inr ⟨q, List.mem_cons_self, i5⟩
        · exact Or.inl i5
      · exact Or.inr ⟨p, List.mem_cons_of_mem _ hp, i5⟩
    · rcases List.mem_cons.mp hp with rfl | hp
      · exact ⟨hlo.2, hhi.2⟩
      · exact i6 p hp
/-- all ways counted -/
theorem nf_all {s : Int} {l : List Int} (hs : ∀ p ∈ l, s ≤ p) : (l = [] → l.foldl (nfA s) (0, 0, 0) = (0, 0, 0)) ∧ (l ≠ [] → 1 ≤ (l.foldl (nfA s) (0, 0, 0)).1 ∧ (∀ p ∈ l, (l.foldl (nfA s) (0, 0, 0)).2.1 ≤ p - s ∧ p - s ≤ (l.foldl (nfA s) (0, 0, 0)).2.2) ∧ (∃ p ∈ l, p - s = (l.foldl (nfA s) (0, 0, 0)).2.1) ∧ ∃ p ∈ l, p - s = (l.foldl (nfA s) (0, 0, 0)).2.2) := by
  cases l with
  | nil => exact ⟨fun _ => rfl, fun h => absurd rfl h⟩
  | cons q l =>
    refine ⟨fun h => (by cases h), fun _ => ?_⟩
    have hq := hs q List.mem_cons_self
    have e0 : nfA s (0, 0, 0) q = (1, q - s, q - s) := by
      show (((0 : Int) + 1, (if (0 : Int) = 0 then q - s else _), if (0 : Int) < q - s then q - s else 0) : Int × Int × Int) = _
      rw [if_pos rfl]
      by_cases h : (0 : Int) < q - s
      · rw [if_pos h]; rfl
      · rw [if_neg h, show q - s = 0 by omega]; rfl
    have ef : (q :: l).foldl (nfA s) (0, 0, 0) = l.foldl (nfA s) (1, q - s, q - s) := by
      show l.foldl (nfA s) (nfA s (0, 0, 0) q) = _
      rw [e0]
    obtain ⟨i1, ⟨i2, i3⟩, ⟨i4, i5⟩, i6⟩ := nf_fold s l (1, q - s, q - s) (Int.le_refl 1)
    rw [ef]
    generalize l.foldl (nfA s) (1, q - s, q - s) = R at *
    have i1 : R.1 = 1 + (l.length : Int) := i1
    have i2 : R.2.1 ≤ q - s := i2
    have i4 : q - s ≤ R.2.2 := i4
    have i3 : R.2.1 = q - s ∨ ∃ p ∈ l, R.2.1 = p - s := i3
    have i5 : R.2.2 = q - s ∨ ∃ p ∈ l, R.2.2 = p - s := i5
    refine ⟨by omega, fun p hp => ?_, ?_, ?_⟩
    · rcases List.mem_cons.mp hp with rfl | hp
      · exact ⟨i2, i4⟩
      · exact i6 p hp
    · rcases i3 with i3 | ⟨p, hp, i3⟩
      · exact ⟨q, List.mem_cons_self, i3.symm⟩
      · exact ⟨p, List.mem_cons_of_mem _ hp, i3.symm⟩
    · rcases i5 with i5 | ⟨p, hp, i5⟩
      · exact ⟨q, List.mem_cons_self, i5.symm⟩
      · exact ⟨p, List.mem_cons_of_mem _ hp, i5.symm⟩
