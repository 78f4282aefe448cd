/-! the search's steps keep what holds -/
theorem gU_push {F : Tb} {J : SJ} {far u : Int} (h3 : 0 ≤ J.1 3) (h : u < J.1 3) : gU (pushF F J far) u = gU J u := by
  unfold gU
  by_cases c : u < 0
  · rw [if_pos c, if_pos c]
  · rw [if_neg c, if_neg c]
    show (if u.toNat = (J.1 3).toNat then frV F J far else J.2.2.1 u.toNat) 4 = _
    rw [if_neg (by omega)]
theorem gU_new {F : Tb} {J : SJ} {far : Int} (h3 : 0 ≤ J.1 3) : gU (pushF F J far) (J.1 3) = gU J (J.1 8) + (if F (J.1 7).toNat 0 = 3 then 1 else 0) := by
  unfold gU
  rw [if_neg (by omega)]
  show (if (J.1 3).toNat = (J.1 3).toNat then frV F J far else J.2.2.1 (J.1 3).toNat) 4 = _
  rw [if_pos rfl]
  rfl
theorem Nst.push {F : Tb} {J : SJ} {far p u : Int} (h3 : 0 ≤ J.1 3) (hu : u < J.1 3) (h : Nst F J p u) : Nst F (pushF F J far) p u := by
  unfold Nst at h ⊢
  rw [gU_push h3 hu]; exact h
theorem SI.pF {F : Tb} {c : Nat} {n may far : Int} {J : SJ} (h : SI F c n may J) (hp : 0 ≤ J.1 7 ∧ J.1 7 < (c : Int)) (hu : -1 ≤ J.1 8 ∧ J.1 8 < J.1 3) (h6 : Nst F J (J.1 7) (J.1 8)) (hf : FarF F (J.1 7) far (J.1 10)) (hfc : J.1 3 + 1 ≤ J.1 10 + 6) : SI F c n may (pushF F J far) := by
  obtain ⟨h1, h2, h3, h4, h5, hfr, hop⟩ := h
  have e3 : (pushF F J far).1 3 = J.1 3 + 1 := rfl
  refine ⟨⟨?_, ?_⟩, h2, h3, h4, h5, fun i hi => ?_, fun j hj => ?_⟩
  · rw [e3]; omega
  · exact hfc
  · rw [e3] at hi
    by_cases e : i = (J.1 3).toNat
    · have hv : (pushF F J far).2.2.1 i = frV F J far := if_pos e
      unfold FrO
      rw [hv]
      refine ⟨hp, ⟨hu.1, ?_⟩, ⟨by have := h3.1; have := h3.2.1; show 0 ≤ J.1 9; omega, h3.2.2.1⟩, ?_, Nst.push h1.1 hu.2 h6, hf⟩
      · show J.1 8 < (i : Int); omega
      · show gU J (J.1 8) + _ = gU (pushF F J far) (J.1 8) + _
        rw [gU_push h1.1 hu.2]; rfl
    · have hv : (pushF F J far).2.2.1 i = J.2.2.1 i := if_neg e
      obtain ⟨a1, a2, a3, a4, a5, a6⟩ := hfr i (by omega)
      unfold FrO
      rw [hv]
      refine ⟨a1, a2, a3, ?_, Nst.push h1.1 (by omega) a5, a6⟩
      rw [gU_push h1.1 (by omega)]; exact a4
  · obtain ⟨a1, a2, a3, a4, a5, a6, a7, a8⟩ := hop j hj
    have a4' : 0 ≤ J.2.2.2 j 4 ∧ J.2.2.2 j 4 ≤ J.1 3 := a4
    have a2' : -1 ≤ J.2.2.2 j 1 ∧ J.2.2.2 j 1 < J.2.2.2 j 4 := a2
    refine ⟨a1, a2, a3, ⟨a4.1, ?_⟩, a5, ?_, Nst.push h1.1 (by show J.2.2.2 j 1 < J.1 3; omega) a7, a8⟩
    · show J.2.2.2 j 4 ≤ J.1 3 + 1; omega
    · show J.2.2.2 j 4 + 1 ≤ J.1 10 + gU (pushF F J far) (J.2.2.2 j 1)
      rw [gU_push h1.1 (by omega)]; exact a6
theorem SI.pO {F : Tb} {c : Nat} {n may far : Int} {J : SJ} (h : SI F c n may J) (hc : CtI F c J) (hf : FarO F (J.1 7) far (J.1 10)) (ho : J.1 5 + 1 ≤ J.1 10) : SI F c n may (pushO J far) := by
  obtain ⟨h1, h2, h3, h4, h5, hfr, hop⟩ := h
  obtain ⟨hp, hu, h6, ht⟩ := hc
  have e5 : (pushO J far).1 5 = J.1 5 + 1 := rfl
  refine ⟨h1, ⟨?_, ho⟩, h3, h4, h5, hfr, fun j hj => ?_⟩
  · rw [e5]; omega
  · rw [e5] at hj
    by_cases e : j = (J.1 5).toNat
    · have hv : (pushO J far).2.2.2 j = opV J far := if_pos e
      unfold OpO
      rw [hv]
      refine ⟨hp, hu, ⟨h3.2.1, h3.2.2.1⟩, ⟨h1.1, Int.le_refl _⟩, fun hj2 => ?_, ht, h6, hf⟩
      rw [e5] at hj2; omega
    · have hv : (pushO J far).2.2.2 j = J.2.2.2 j := if_neg e
      obtain ⟨a1, a2, a3, a4, a5, a6, a7, a8⟩ := hop j (by omega)
      unfold OpO
      rw [hv]
      refine ⟨a1, a2, a3, a4, fun hj2 => ?_, a6, a7, a8⟩
      rw [e5] at hj2
      by_cases e2 : j + 1 = (J.1 5).toNat
      · have hv2 : (pushO J far).2.2.2 (j + 1) = opV J far := if_pos e2
        rw [hv2]; exact a4.2
      · have hv2 : (pushO J far).2.2.2 (j + 1) = J.2.2.2 (j + 1) := if_neg e2
        rw [hv2]; exact a5 (by omega)
theorem SI.s7 {F : Tb} {c : Nat} {n may v : Int} {J : SJ} (h : SI F c n may J) : SI F c n may (setS J 7 v) := h
theorem SI.s8 {F : Tb} {c : Nat} {n may v : Int} {J : SJ} (h : SI F c n may J) : SI F c n may (setS J 8 v) := h
theorem SI.sL {F : Tb} {c : Nat} {n may v : Int} {J : SJ} {k : Nat} (h : SI F c n may J) : SI F c n may (setL J k v) := h
theorem FarF.mono {F : Tb} {p far t t' : Int} (h : FarF F p far t) (ht : t ≤ t') : FarF F p far t' := by unfold FarF at h ⊢; omega
theorem FarO.mono {F : Tb} {p far t t' : Int} (h : FarO F p far t) (ht : t ≤ t') : FarO F p far t' := by
  unfold FarO at h ⊢
  rcases h with h | h | h
  · exact Or.inl h
  · exact Or.inr (Or.inl (by omega))
  · exact Or.inr (Or.inr h)
theorem SI.tr {F : Tb} {c : Nat} {n may : Int} {J : SJ} (h : SI F c n may J) (ht : J.1 10 + 1 ≤ may) : SI F c n may (tryJ J) := by
  obtain ⟨h1, h2, h3, h4, h5, hfr, hop⟩ := h
  have e10 : (tryJ J).1 10 = J.1 10 + 1 := rfl
  refine ⟨⟨h1.1, ?_⟩, ⟨h2.1, ?_⟩, h3, ⟨?_, ht, h4.2.2⟩, h5, fun i hi => ?_, fun j hj => ?_⟩
  · show J.1 3 ≤ J.1 10 + 1 + 6; omega
  · show J.1 5 ≤ J.1 10 + 1; omega
  · rw [e10]; omega
  · obtain ⟨a1, a2, a3, a4, a5, a6⟩ := hfr i hi
    exact ⟨a1, a2, a3, a4, a5, a6.mono (by rw [e10]; omega)⟩
  · obtain ⟨a1, a2, a3, a4, a5, a6, a7, a8⟩ := hop j hj
    refine ⟨a1, a2, a3, a4, a5, ?_, a7, a8.mono (by rw [e10]; omega)⟩
    show J.2.2.2 j 4 + 1 ≤ J.1 10 + 1 + gU J (J.2.2.2 j 1)
    have a6' : J.2.2.2 j 4 + 1 ≤ J.1 10 + gU J (J.2.2.2 j 1) := a6
    omega
theorem SI.s9 {F : Tb} {c : Nat} {n may v : Int} {J : SJ} (h : SI F c n may J) (hv : J.1 6 ≤ v ∧ v ≤ n) : SI F c n may (setS J 9 v) := by
  obtain ⟨h1, h2, h3, h4, h5, hfr, hop⟩ := h
  exact ⟨h1, h2, ⟨h3.1, hv.1, hv.2, h3.2.2.2⟩, h4, h5, hfr, hop⟩
theorem Nst.u {F : Tb} {c : Nat} {J : SJ} {p u : Int} (hW : WfT F 0 c) (hp : 0 ≤ p ∧ p < (c : Int)) (h : Nst F J p u) : gU J u ≤ 6 := by
  have := (tab_s hW hp).1
  unfold Nst at h
  omega
theorem op_mono {F : Tb} {c : Nat} {n may : Int} {J : SJ} (h : SI F c n may J) : ∀ (d j : Nat), (j : Int) + (d : Int) + 1 = J.1 5 → J.2.2.2 j 4 ≤ J.2.2.2 (J.1 5 - 1).toNat 4
  | 0, j, hj => by
    rw [show (J.1 5 - 1).toNat = j from by omega]; exact Int.le_refl _
  | d + 1, j, hj => by
    have i := op_mono h d (j + 1) (by omega)
    obtain ⟨-, -, -, -, -, -, hop⟩ := h
    have a5 := (hop j (by omega)).2.2.2.2.1 (by omega)
    omega
theorem SI.oP {F : Tb} {c : Nat} {n may : Int} {J : SJ} (hW : WfT F 0 c) (h : SI F c n may J) (h0 : 0 < J.1 5) : SI F c n may (popO J) ∧ CtI F c (popO J) ∧ FarO F ((popO J).1 7) (J.2.2.2 (J.1 5 - 1).toNat 2) (J.1 10) := by
  have hm := op_mono h
  obtain ⟨h1, h2, h3, h4, h5, hfr, hop⟩ := h
  obtain ⟨b1, b2, b3, b4, b5, b6, b7, b8⟩ := hop (J.1 5 - 1).toNat (by omega)
  have hu6 := Nst.u hW b1 b7
  refine ⟨⟨⟨b4.1, ?_⟩, ⟨?_, ?_⟩, ⟨h3.1, b3.1, b3.2, h3.2.2.2⟩, h4, h5, fun i hi => ?_, fun j hj => ?_⟩, ⟨b1, b2, b7, b6⟩, b8⟩
  · show J.2.2.2 (J.1 5 - 1).toNat 4 ≤ J.1 10 + 6; omega
  · show 0 ≤ J.1 5 - 1; omega
  · show J.1 5 - 1 ≤ J.1 10; omega
  · have hi' : (i : Int) < J.2.2.2 (J.1 5 - 1).toNat 4 := hi
    exact hfr i (by omega)
  · have hj' : (j : Int) < J.1 5 - 1 := hj
    obtain ⟨a1, a2, a3, a4, a5, a6, a7, a8⟩ := hop j (by omega)
    refine ⟨a1, a2, a3, ⟨a4.1, ?_⟩, fun hj2 => ?_, a6, a7, a8⟩
    · exact hm (J.1 5 - 1 - (j : Int)).toNat j (by omega)
    · have hj3 : (j : Int) + 1 < J.1 5 - 1 := hj2
      exact a5 (by omega)
/-! what a step gives: the phase, what holds there, how far the end is -/
def StI (F : Tb) (c : Nat) (n may : Int) (w P : Int) (r : Int × SJ) : Prop := (r.1 = 0 ∨ r.1 = 1 ∨ r.1 = 2) ∧ SI F c n may r.2 ∧ PhI F c r.1 r.2 ∧ r.2.1 11 = w ∧ potA F may r.1 r.2 ≤ P
theorem comeW_ok {F : Tb} {c : Nat} {n may far : Int} {J : SJ} (hW : WfT F 0 c) (h : SI F c n may J) (hc : CoI F c J) (h3 : F (J.1 7).toNat 0 = 3) (hf : 0 ≤ far ∧ far < F (J.1 7).toNat 2) : StI F c n may (J.1 11) (30 * (may - J.1 10) + 2 * J.1 5 + F (J.1 7).toNat 10) (comeW F J far) := by
  obtain ⟨hp, hu, h6, ht⟩ := hc
  obtain ⟨k1, k2, k3, k4, k5, k6, k7⟩ := inn_kid hW hp (by omega)
  obtain ⟨j1, j2, j3, j4, j5, j6⟩ := k7 far.toNat (by omega)
  rw [if_pos h3] at j3
  have t9 := (tab_s hW hp).2.2.2.2.1 h3
  unfold Nst at h6
  have hh := h
  obtain ⟨h1, h2, hr⟩ := h
  unfold comeW
  by_cases e : far + 1 < F (J.1 7).toNat 2
  · rw [if_pos e]
    have hs := hh.pF (far := far + 1) hp hu h6 (Or.inl ⟨h3, by omega, e⟩) (by omega)
    have g := gU_new (F := F) (J := J) (far := far + 1) h1.1
    rw [if_pos h3] at g
    refine ⟨Or.inl rfl, hs.s7, ⟨⟨j1, j2⟩, ⟨?_, ?_⟩, ⟨?_, ?_⟩, ?_⟩, rfl, ?_⟩
    · show -1 ≤ J.1 3; omega
    · show J.1 3 < J.1 3 + 1; omega
    · show F (kidN F (J.1 7) far.toNat).toNat 9 + gU (pushF F J (far + 1)) (J.1 3) ≤ 6
      rw [g]; omega
    · show F (kidN F (J.1 7) far.toNat).toNat 10 ≤ 23; omega
    · show J.1 3 + 1 ≤ J.1 10 + gU (pushF F J (far + 1)) (J.1 3)
      rw [g]; omega
    · show 30 * (may - J.1 10) + 2 * J.1 5 + (1 + F (kidN F (J.1 7) far.toNat).toNat 10) ≤ _; omega
  · rw [if_neg e]
    refine ⟨Or.inl rfl, hh.s7, ⟨⟨j1, j2⟩, hu, ⟨?_, ?_⟩, ht⟩, rfl, ?_⟩
    · show F (kidN F (J.1 7) far.toNat).toNat 9 + gU J (J.1 8) ≤ 6; omega
    · show F (kidN F (J.1 7) far.toNat).toNat 10 ≤ 23; omega
    · show 30 * (may - J.1 10) + 2 * J.1 5 + (1 + F (kidN F (J.1 7) far.toNat).toNat 10) ≤ _; omega
theorem onceA_ok {F : Tb} {c : Nat} {n may k : Int} {J : SJ} (hW : WfT F 0 c) (h : SI F c n may J) (hc : CtI F c J) (h5 : F (J.1 7).toNat 0 = 5) (hk : 0 ≤ k ∧ k + 1 ≤ J.1 10) : StI F c n may (J.1 11) (30 * (may - J.1 10) + 2 * J.1 5 + 24) (onceA F J k) := by
  obtain ⟨hp, hu, h6, ht⟩ := hc
  obtain ⟨k1, k2, k3, k4, k5, k6, k7⟩ := inn_kid hW hp (by omega)
  obtain ⟨j1, j2, j3, j4, j5, j6⟩ := k7 0 (by omega)
  rw [if_neg (by omega)] at j3
  have u6 := Nst.u hW hp h6
  have hh := h
  unfold Nst at h6
  obtain ⟨h1, h2, hr⟩ := h
  have hs := hh.pF (far := k + 1) hp hu h6 (Or.inr (Or.inl ⟨h5, by omega, by omega⟩)) (by omega)
  have g := gU_new (F := F) (J := J) (far := k + 1) h1.1
  rw [if_neg (by omega)] at g
  refine ⟨Or.inl rfl, hs.s7, ⟨⟨j1, j2⟩, ⟨?_, ?_⟩, ⟨?_, ?_⟩, ?_⟩, rfl, ?_⟩
  · show -1 ≤ J.1 3; omega
  · show J.1 3 < J.1 3 + 1; omega
  · show F (kidN F (J.1 7) 0).toNat 9 + gU (pushF F J (k + 1)) (J.1 3) ≤ 6
    rw [g]; omega
  · show F (kidN F (J.1 7) 0).toNat 10 ≤ 23; omega
  · show J.1 3 + 1 ≤ J.1 10 + gU (pushF F J (k + 1)) (J.1 3)
    rw [g]; omega
  · show 30 * (may - J.1 10) + 2 * J.1 5 + (1 + F (kidN F (J.1 7) 0).toNat 10) ≤ _; omega
theorem StI.le {F : Tb} {c : Nat} {n may w P P' : Int} {r : Int × SJ} (h : StI F c n may w P r) (hP : P ≤ P') : StI F c n may w P' r := ⟨h.1, h.2.1, h.2.2.1, h.2.2.2.1, Int.le_trans h.2.2.2.2 hP⟩
theorem done_ok {F : Tb} {c : Nat} {n may : Int} {J : SJ} (hW : WfT F 0 c) (h : SI F c n may J) (hc : CtI F c J) : StI F c n may (J.1 11) (30 * (may - J.1 10) + 2 * J.1 5 + 27) (1, J) :=
  ⟨Or.inr (Or.inl rfl), h, ⟨hc.2.1, hc.2.2.2, Nst.u hW hc.1 hc.2.2.1⟩, rfl, Int.le_refl _⟩
theorem back_ok {F : Tb} {c : Nat} {n may : Int} {J : SJ} (h : SI F c n may J) : StI F c n may (J.1 11) (30 * (may - J.1 10) + 2 * J.1 5 + 26) (2, J) :=
  ⟨Or.inr (Or.inr rfl), h, Or.inl rfl, rfl, Int.le_refl _⟩
theorem CtI.pO {F : Tb} {c : Nat} {far : Int} {J : SJ} (h : CtI F c J) : CtI F c (pushO J far) := h
theorem repA_ok {F : Tb} {c : Nat} {n may k b : Int} {J : SJ} (hW : WfT F 0 c) (h : SI F c n may J) (hc : CtI F c J) (h5 : F (J.1 7).toNat 0 = 5) (hk : 0 ≤ k ∧ k + 1 ≤ J.1 10) (ho : J.1 5 + 1 ≤ J.1 10) : StI F c n may (J.1 11) (30 * (may - J.1 10) + 2 * J.1 5 + 29) (repA F J k b) := by
  have hs := h.pO (far := k) hc (Or.inr (Or.inl ⟨h5, hk.1, hk.2⟩)) ho
  have eo : (pushO J k).1 5 = J.1 5 + 1 := rfl
  unfold repA
  by_cases c1 : F (J.1 7).toNat 3 < k ∧ J.1 9 = b
  · rw [if_pos c1]; exact (back_ok h).le (by omega)
  · rw [if_neg c1]
    by_cases c2 : k < F (J.1 7).toNat 3
    · rw [if_pos c2]; exact (onceA_ok hW h hc h5 hk).le (by omega)
    · rw [if_neg c2]
      by_cases c3 : k = F (J.1 7).toNat 4 ∧ ¬ F (J.1 7).toNat 4 = 100
      · rw [if_pos c3]; exact (done_ok hW h hc).le (by omega)
      · rw [if_neg c3]
        by_cases c4 : F (J.1 7).toNat 5 = 1
        · rw [if_pos c4]
          refine (onceA_ok (J := pushO J k) hW hs hc h5 hk).le ?_
          show 30 * (may - J.1 10) + 2 * (J.1 5 + 1) + 24 ≤ _; omega
        · rw [if_neg c4]
          refine (done_ok (J := pushO J k) hW hs hc).le ?_
          show 30 * (may - J.1 10) + 2 * (J.1 5 + 1) + 27 ≤ _; omega
theorem chooA_ok {F : Tb} {c : Nat} {n may far : Int} {J : SJ} (hW : WfT F 0 c) (h : SI F c n may J) (hc : CtI F c J) (h4 : F (J.1 7).toNat 0 = 4) (hf : 0 ≤ far ∧ far < F (J.1 7).toNat 2) (ho : J.1 5 + 1 ≤ J.1 10) : StI F c n may (J.1 11) (30 * (may - J.1 10) + 2 * J.1 5 + 25) (chooA F J far) := by
  have hs := fun e => h.pO (far := far + 1) hc (Or.inl ⟨h4, by omega, e⟩) ho
  obtain ⟨hp, hu, h6, ht⟩ := hc
  obtain ⟨k1, k2, k3, k4, k5, k6, k7⟩ := inn_kid hW hp (by omega)
  obtain ⟨j1, j2, j3, j4, j5, j6⟩ := k7 far.toNat (by omega)
  rw [if_neg (by omega)] at j3
  unfold Nst at h6
  unfold chooA
  by_cases e : far + 1 < F (J.1 7).toNat 2
  · rw [if_pos e]
    refine ⟨Or.inl rfl, (hs e).s7, ⟨⟨j1, j2⟩, hu, ⟨?_, ?_⟩, ?_⟩, rfl, ?_⟩
    · show F (kidN F (J.1 7) far.toNat).toNat 9 + gU J (J.1 8) ≤ 6; omega
    · show F (kidN F (J.1 7) far.toNat).toNat 10 ≤ 23; omega
    · show J.1 3 ≤ J.1 10 + gU J (J.1 8); omega
    · show 30 * (may - J.1 10) + 2 * (J.1 5 + 1) + (1 + F (kidN F (J.1 7) far.toNat).toNat 10) ≤ _; omega
  · rw [if_neg e]
    refine ⟨Or.inl rfl, h.s7, ⟨⟨j1, j2⟩, hu, ⟨?_, ?_⟩, ?_⟩, rfl, ?_⟩
    · show F (kidN F (J.1 7) far.toNat).toNat 9 + gU J (J.1 8) ≤ 6; omega
    · show F (kidN F (J.1 7) far.toNat).toNat 10 ≤ 23; omega
    · show J.1 3 ≤ J.1 10 + gU J (J.1 8); omega
    · show 30 * (may - J.1 10) + 2 * J.1 5 + (1 + F (kidN F (J.1 7) far.toNat).toNat 10) ≤ _; omega
theorem ordA_ok {F : Tb} {c : Nat} {n may d r : Int} {J : SJ} (hW : WfT F 0 c) (h : SI F c n may J) (hc : CtI F c J) (h6' : F (J.1 7).toNat 0 = 6) (hd : 0 ≤ d ∧ d < 16) (hr : 0 ≤ r ∧ r ≤ F (J.1 7).toNat 2) (ho : J.1 5 + 1 ≤ J.1 10) : StI F c n may (J.1 11) (30 * (may - J.1 10) + 2 * J.1 5 + 27) (ordA F J d r) := by
  have hc' := hc
  obtain ⟨hp, hu, h6, ht⟩ := hc
  obtain ⟨k1, k2, k3, k4, k5, k6, k7⟩ := inn_kid hW hp (by omega)
  have k4' := k4 h6'
  have u6 := Nst.u hW hp h6
  unfold ordA
  obtain ⟨x, hx⟩ : ∃ x, ndA d r (F (J.1 7).toNat 2) = x := ⟨_, rfl⟩
  have hb := ndA_b (d := d) hr.2
  rw [hx] at hb ⊢
  by_cases e : F (J.1 7).toNat 2 ≤ x
  · rw [if_pos e]; exact done_ok hW h hc'
  · rw [if_neg e]
    obtain ⟨j1, j2, j3, j4, j5, j6⟩ := k7 x.toNat (by omega)
    rw [if_neg (by omega)] at j3
    have h16 := or16 hd (r := x) (by omega)
    have hf : FarF F (J.1 7) (or32 d (shl32 1 x)) (J.1 10) := Or.inr (Or.inr ⟨h6', h16⟩)
    have key : ∀ K : SJ, SI F c n may K → (∀ k, k ≠ 5 → K.1 k = J.1 k) → K.2.2.1 = J.2.2.1 → K.1 5 ≤ J.1 5 + 1 → StI F c n may (J.1 11) (30 * (may - J.1 10) + 2 * J.1 5 + 27) (0, setS (pushF F K (or32 d (shl32 1 x))) 7 (kidN F (J.1 7) x.toNat)) := by
      intro K hK h5 hF5 h55
      have e3 := h5 3 (by decide)
      have e7 := h5 7 (by decide)
      have e8 := h5 8 (by decide)
      have e10 := h5 10 (by decide)
      have eg : ∀ u, gU K u = gU J u := fun u => by unfold gU; rw [hF5]
      have h1 := hK.1
      unfold Nst at h6
      have hs := hK.pF (far := or32 d (shl32 1 x)) (by rw [e7]; exact hp) (by rw [e8, e3]; exact hu) (by unfold Nst; rw [e7, e8, eg]; exact h6) (by rw [e7, e10]; exact hf) (by rw [e3, e10]; omega)
      have g := gU_new (F := F) (J := K) (far := or32 d (shl32 1 x)) h1.1
      rw [e7, if_neg (by omega), e8, eg] at g
      refine ⟨Or.inl rfl, hs.s7, ⟨⟨j1, j2⟩, ⟨?_, ?_⟩, ⟨?_, ?_⟩, ?_⟩, h5 11 (by decide), ?_⟩
      · show -1 ≤ K.1 3; omega
      · show K.1 3 < K.1 3 + 1; omega
      · show F (kidN F (J.1 7) x.toNat).toNat 9 + gU (pushF F K (or32 d (shl32 1 x))) (K.1 3) ≤ 6
        rw [g]; omega
      · show F (kidN F (J.1 7) x.toNat).toNat 10 ≤ 23; omega
      · show K.1 3 + 1 ≤ K.1 10 + gU (pushF F K (or32 d (shl32 1 x))) (K.1 3)
        rw [g]; omega
      · show 30 * (may - K.1 10) + 2 * K.1 5 + (1 + F (kidN F (J.1 7) x.toNat).toNat 10) ≤ _; omega
    unfold ordP
    by_cases e2 : ndA d (x + 1) (F (J.1 7).toNat 2) < F (J.1 7).toNat 2
    · rw [if_pos e2]
      have hb2 := ndA_b (d := d) (r := x + 1) (inn := F (J.1 7).toNat 2) (by omega)
      have hff := ndA_ff (d := d) (r := x + 1) (inn := F (J.1 7).toNat 2) (by omega)
      refine key (pushO J (d * 8 + ndA d (x + 1) (F (J.1 7).toNat 2))) (h.pO hc' (Or.inr (Or.inr ⟨h6', by omega, by omega, by omega, ?_⟩)) ho) (fun k hk => if_neg hk) rfl (Int.le_refl _)
      rw [show (d * 8 + ndA d (x + 1) (F (J.1 7).toNat 2)) / 8 = d from by omega, show (d * 8 + ndA d (x + 1) (F (J.1 7).toNat 2)) % 8 = ndA d (x + 1) (F (J.1 7).toNat 2) from by omega]
      exact hff
    · rw [if_neg e2]
      exact key J h (fun _ _ => rfl) rfl (by omega)
theorem takA_ok {F : Tb} {c : Nat} {n may w : Int} {hc : Nat → CEnv → Int} {cl : Nat → Int} {J : SJ} (hW : WfT F 0 c) (h : SI F c n may J) (hC : CtI F c J) : StI F c n may (J.1 11) (30 * (may - J.1 10) + 2 * J.1 5 + 27) (takA n hc cl J w) := by
  unfold takA
  by_cases c1 : n ≤ J.1 9
  · rw [if_pos c1]; exact (back_ok h).le (by omega)
  · rw [if_neg c1]
    by_cases c2 : hc w.toNat (envJ (setL J (J.1 9).toNat w) n cl) = 1
    · rw [if_pos c2]
      refine done_ok (J := setS (setL J (J.1 9).toNat w) 9 (J.1 9 + 1)) hW (h.sL.s9 ⟨?_, by omega⟩) hC
      have := h.2.2.1
      show J.1 6 ≤ J.1 9 + 1; omega
    · rw [if_neg c2]; exact (back_ok (J := setL J (J.1 9).toNat w) h.sL).le (by show 30 * (may - J.1 10) + 2 * J.1 5 + 26 ≤ _; omega)
theorem cm2_ok {F : Tb} {c : Nat} {n may : Int} {hc : Nat → CEnv → Int} {cl : Nat → Int} {J : SJ} (hW : WfT F 0 c) (h : SI F c n may J) (hC : CtI F c J) (h3 : F (J.1 7).toNat 0 ≠ 3) (ho : J.1 5 + 1 ≤ J.1 10) : StI F c n may (J.1 11) (30 * (may - J.1 10) + 2 * J.1 5 + 29) (cm2 F n hc cl J) := by
  have ts := tab_s hW hC.1
  have pick : ∀ b : Prop, [Decidable b] → StI F c n may (J.1 11) (30 * (may - J.1 10) + 2 * J.1 5 + 29) ((if b then 1 else 2), J) := fun b _ => by
    by_cases e : b
    · rw [if_pos e]; exact (done_ok hW h hC).le (by omega)
    · rw [if_neg e]; exact (back_ok h).le (by omega)
  unfold cm2
  by_cases c0 : F (J.1 7).toNat 0 = 0
  · rw [if_pos c0]; exact (takA_ok hW h hC).le (by omega)
  · rw [if_neg c0]
    by_cases c1 : F (J.1 7).toNat 0 = 1
    · rw [if_pos c1]; exact pick _
    · rw [if_neg c1]
      by_cases c2 : F (J.1 7).toNat 0 = 2
      · rw [if_pos c2]; exact pick _
      · rw [if_neg c2]
        by_cases c4 : F (J.1 7).toNat 0 = 4
        · rw [if_pos c4]
          have k := inn_kid hW hC.1 (by omega)
          exact (chooA_ok hW h hC c4 ⟨Int.le_refl _, by omega⟩ ho).le (by omega)
        · rw [if_neg c4]
          by_cases c5 : F (J.1 7).toNat 0 = 5
          · rw [if_pos c5]
            exact repA_ok hW h hC c5 ⟨Int.le_refl _, by have := h.2.1; omega⟩ ho
          · rw [if_neg c5]
            have k := inn_kid hW hC.1 (by omega)
            exact (ordA_ok hW h hC (by omega) ⟨Int.le_refl _, by omega⟩ ⟨Int.le_refl _, by omega⟩ ho).le (by omega)
def SpI (F : Tb) (c : Nat) (n may : Int) (w P : Int) (r : Int × SJ) : Prop := (r.1 = 3 ∧ 1 ≤ P) ∨ StI F c n may w (P - 1) r
theorem CtI.tr {F : Tb} {c : Nat} {J : SJ} (hp : 0 ≤ J.1 7 ∧ J.1 7 < (c : Int)) (hu : -1 ≤ J.1 8 ∧ J.1 8 < J.1 3) (h6 : Nst F J (J.1 7) (J.1 8)) (ht : J.1 3 ≤ J.1 10 + gU J (J.1 8)) : CtI F c (tryJ J) := by
  refine ⟨hp, hu, h6, ?_⟩
  show J.1 3 + 1 ≤ J.1 10 + 1 + gU J (J.1 8)
  omega
theorem comeA_ok {F : Tb} {c : Nat} {n may : Int} {hc : Nat → CEnv → Int} {cl : Nat → Int} {J : SJ} (hW : WfT F 0 c) (h : SI F c n may J) (hC : CoI F c J) : SpI F c n may (J.1 11) (potA F may 0 J) (comeA F n may hc cl J) := by
  have ep : potA F may 0 J = 30 * (may - J.1 10) + 2 * J.1 5 + (1 + F (J.1 7).toNat 10) := rfl
  have ts := tab_s hW hC.1
  have h4 := h.2.2.2.1
  have h2 := h.2.1
  unfold comeA
  rw [ep]
  by_cases c3 : F (J.1 7).toNat 0 = 3
  · rw [if_pos c3]
    have k := inn_kid hW hC.1 (by omega)
    exact Or.inr ((comeW_ok hW h hC c3 ⟨Int.le_refl _, by omega⟩).le (by omega))
  · rw [if_neg c3]
    by_cases c1 : may < J.1 10 + 1
    · rw [if_pos c1]; exact Or.inl ⟨rfl, by omega⟩
    · rw [if_neg c1]
      refine Or.inr ((cm2_ok (J := tryJ J) hW (h.tr (by omega)) (CtI.tr hC.1 hC.2.1 hC.2.2.1 hC.2.2.2) c3 ?_).le ?_)
      · show J.1 5 + 1 ≤ J.1 10 + 1; omega
      · show 30 * (may - (J.1 10 + 1)) + 2 * J.1 5 + 29 ≤ _; omega
theorem goOnA_ok {F : Tb} {c : Nat} {n may : Int} {J : SJ} (hW : WfT F 0 c) (h : SI F c n may J) (hD : DoI J) (h0 : 0 ≤ J.1 8) : SpI F c n may (J.1 11) (potA F may 1 J) (goOnA F may J) := by
  have ep : potA F may 1 J = 30 * (may - J.1 10) + 2 * J.1 5 + 27 := rfl
  obtain ⟨d1, d2, d3⟩ := hD
  obtain ⟨a1, a2, a3, a4, a5, a6⟩ := h.2.2.2.2.2.1 (J.1 8).toNat (by omega)
  have ts := tab_s hW a1
  have h4 := h.2.2.2.1
  have h2 := h.2.1
  have hg : gU J (J.1 8) = J.2.2.1 (J.1 8).toNat 4 := if_neg (by omega)
  rw [hg] at d2
  rw [ep]
  unfold goOnA
  have hS : SI F c n may (popF J) := h.s7.s8
  have hu : -1 ≤ (popF J).1 8 ∧ (popF J).1 8 < (popF J).1 3 := by
    show -1 ≤ J.2.2.1 (J.1 8).toNat 1 ∧ J.2.2.1 (J.1 8).toNat 1 < J.1 3
    omega
  unfold Nst at a5
  by_cases c3 : F (J.2.2.1 (J.1 8).toNat 0).toNat 0 = 3
  · rw [if_pos c3]
    rw [if_pos c3] at a4
    have k := inn_kid hW a1 (by omega)
    have hf : 0 ≤ J.2.2.1 (J.1 8).toNat 2 ∧ J.2.2.1 (J.1 8).toNat 2 < F (J.2.2.1 (J.1 8).toNat 0).toNat 2 := by unfold FarF at a6; omega
    refine Or.inr ((comeW_ok (J := popF J) hW hS ⟨a1, hu, a5, ?_⟩ c3 hf).le ?_)
    · show J.1 3 ≤ J.1 10 + gU J (J.2.2.1 (J.1 8).toNat 1); omega
    · show 30 * (may - J.1 10) + 2 * J.1 5 + F (J.2.2.1 (J.1 8).toNat 0).toNat 10 ≤ _; omega
  · rw [if_neg c3]
    rw [if_neg c3] at a4
    by_cases c1 : may < J.1 10 + 1
    · rw [if_pos c1]; exact Or.inl ⟨rfl, by omega⟩
    · rw [if_neg c1]
      have hT : SI F c n may (tryJ (popF J)) := hS.tr (by show J.1 10 + 1 ≤ may; omega)
      have hC : CtI F c (tryJ (popF J)) := CtI.tr (J := popF J) a1 hu a5 (by show J.1 3 ≤ J.1 10 + gU J (J.2.2.1 (J.1 8).toNat 1); omega)
      have ho : (tryJ (popF J)).1 5 + 1 ≤ (tryJ (popF J)).1 10 := by show J.1 5 + 1 ≤ J.1 10 + 1; omega
      refine Or.inr ?_
      unfold go2
      by_cases c5 : F ((tryJ (popF J)).1 7).toNat 0 = 5
      · rw [if_pos c5]
        have c5' : F (J.2.2.1 (J.1 8).toNat 0).toNat 0 = 5 := c5
        have hk : 0 ≤ J.2.2.1 (J.1 8).toNat 2 ∧ J.2.2.1 (J.1 8).toNat 2 + 1 ≤ J.1 10 + 1 := by unfold FarF at a6; omega
        refine (repA_ok (J := tryJ (popF J)) hW hT hC c5 hk ho).le ?_
        show 30 * (may - (J.1 10 + 1)) + 2 * J.1 5 + 29 ≤ _; omega
      · rw [if_neg c5]
        have c5' : F (J.2.2.1 (J.1 8).toNat 0).toNat 0 ≠ 5 := c5
        have hk : F (J.2.2.1 (J.1 8).toNat 0).toNat 0 = 6 ∧ 0 ≤ J.2.2.1 (J.1 8).toNat 2 ∧ J.2.2.1 (J.1 8).toNat 2 < 16 := by unfold FarF at a6; omega
        have k := inn_kid hW a1 (by omega)
        refine (ordA_ok (J := tryJ (popF J)) hW hT hC hk.1 hk.2 ⟨Int.le_refl _, ?_⟩ ho).le ?_
        · show 0 ≤ F (J.2.2.1 (J.1 8).toNat 0).toNat 2; omega
        · show 30 * (may - (J.1 10 + 1)) + 2 * J.1 5 + 27 ≤ _; omega
theorem goBk_ok {F : Tb} {c : Nat} {n may : Int} {J : SJ} (hW : WfT F 0 c) (h : SI F c n may J) (h0 : 0 < J.1 5) : SpI F c n may (J.1 11) (potA F may 2 J) (goBkA F J) := by
  have ep : potA F may 2 J = 30 * (may - J.1 10) + 2 * J.1 5 + 26 := rfl
  obtain ⟨hS, hC, hF⟩ := h.oP hW h0
  have h2 := h.2.1
  have h4 := h.2.2.2.1
  rw [ep]
  refine Or.inr ?_
  have ho : (popO J).1 5 + 1 ≤ (popO J).1 10 := by show J.1 5 - 1 + 1 ≤ J.1 10; omega
  have p5 : (popO J).1 5 = J.1 5 - 1 := rfl
  have p10 : (popO J).1 10 = J.1 10 := rfl
  unfold goBkA gb2
  by_cases c4 : F ((popO J).1 7).toNat 0 = 4
  · rw [if_pos c4]
    have hf : 0 ≤ J.2.2.2 (J.1 5 - 1).toNat 2 ∧ J.2.2.2 (J.1 5 - 1).toNat 2 < F ((popO J).1 7).toNat 2 := by unfold FarO at hF; omega
    exact (chooA_ok (J := popO J) hW hS hC c4 hf ho).le (by omega)
  · rw [if_neg c4]
    by_cases c5 : F ((popO J).1 7).toNat 0 = 5
    · rw [if_pos c5]
      by_cases c1 : F ((popO J).1 7).toNat 5 = 1
      · rw [if_pos c1]; exact (done_ok (J := popO J) hW hS hC).le (by omega)
      · rw [if_neg c1]
        have hk : 0 ≤ J.2.2.2 (J.1 5 - 1).toNat 2 ∧ J.2.2.2 (J.1 5 - 1).toNat 2 + 1 ≤ J.1 10 := by unfold FarO at hF; omega
        exact (onceA_ok (J := popO J) hW hS hC c5 hk).le (by omega)
    · rw [if_neg c5]
      have hk : F ((popO J).1 7).toNat 0 = 6 ∧ 0 ≤ J.2.2.2 (J.1 5 - 1).toNat 2 ∧ J.2.2.2 (J.1 5 - 1).toNat 2 < 128 ∧ J.2.2.2 (J.1 5 - 1).toNat 2 % 8 < F ((popO J).1 7).toNat 2 := by unfold FarO at hF; omega
      have hnn : 30 * (may - (popO J).1 10) + 2 * (popO J).1 5 + 27 ≤ 30 * (may - J.1 10) + 2 * J.1 5 + 26 - 1 := by omega
      exact (ordA_ok (J := popO J) hW hS hC hk.1 (by omega) (by omega) ho).le hnn
theorem SI.nt {F : Tb} {c : Nat} {n may : Int} {J : SJ} (h : SI F c n may J) : SI F c n may (noteA J) := by
  obtain ⟨h1, h2, h3, h4, h5, hfr, hop⟩ := h
  refine ⟨h1, h2, h3, h4, ⟨?_, ?_, ?_, ?_⟩, hfr, hop⟩
  · show 0 ≤ if J.1 11 = 0 then J.1 9 - J.1 6 else if J.1 9 - J.1 6 < J.1 12 then J.1 9 - J.1 6 else J.1 12
    split <;> (try split) <;> omega
  · show (if J.1 11 = 0 then J.1 9 - J.1 6 else if J.1 9 - J.1 6 < J.1 12 then J.1 9 - J.1 6 else J.1 12) ≤ 32
    split <;> (try split) <;> omega
  · show 0 ≤ if J.1 13 < J.1 9 - J.1 6 then J.1 9 - J.1 6 else J.1 13
    split <;> omega
  · show (if J.1 13 < J.1 9 - J.1 6 then J.1 9 - J.1 6 else J.1 13) ≤ 32
    split <;> omega
theorem ini_ok {F : Tb} {c : Nat} {n may st : Int} {J : SJ} (hc : 1 ≤ c) (hs : 0 ≤ st ∧ st ≤ n ∧ n ≤ 32) (hm : 1 ≤ may ∧ may ≤ 5000) (h9 : F (c - 1) 9 ≤ 6) (h10 : F (c - 1) 10 ≤ 23) : SI F c n may (iniJ J c st) ∧ CoI F c (iniJ J c st) ∧ (iniJ J c st).1 11 = 0 ∧ potA F may 0 (iniJ J c st) < 155000 := by
  have e7 : ((iniJ J c st).1 7).toNat = c - 1 := by
    show ((c : Int) - 1).toNat = c - 1
    omega
  refine ⟨⟨⟨Int.le_refl _, ?_⟩, ⟨Int.le_refl _, Int.le_refl _⟩, ⟨hs.1, Int.le_refl _, hs.2.1, hs.2.2⟩, ⟨Int.le_refl _, ?_, hm.2⟩, ⟨Int.le_refl _, ?_, Int.le_refl _, ?_⟩, fun i hi => ?_, fun j hj => ?_⟩, ⟨⟨?_, ?_⟩, ⟨?_, ?_⟩, ⟨?_, ?_⟩, Int.le_refl _⟩, rfl, ?_⟩
  · show (0 : Int) ≤ 0 + 6; omega
  · show 0 ≤ may; omega
  · show (0 : Int) ≤ 32; omega
  · show (0 : Int) ≤ 32; omega
  · have : (i : Int) < 0 := hi; omega
  · have : (j : Int) < 0 := hj; omega
  · show 0 ≤ (c : Int) - 1; omega
  · show (c : Int) - 1 < (c : Int); omega
  · show (-1 : Int) ≤ -1; omega
  · show (-1 : Int) < 0; omega
  · rw [e7]; show F (c - 1) 9 + 0 ≤ 6; omega
  · rw [e7]; exact h10
  · show 30 * (may - 0) + 2 * 0 + (1 + F ((iniJ J c st).1 7).toNat 10) < 155000
    rw [e7]; omega
