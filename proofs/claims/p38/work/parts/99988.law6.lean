/-! THE LAW'S conditions(), 2 -/
/-- the tellings so far -/
def CdI (m0 m : Mem) (i T : Nat) (ps : List (Nat × Nat)) (wv : Nat → Int) : Prop :=
  (Kp (mN m0) m0 m ∧ mT m (mN m0) = (20, 26) ∧ mN m0 + 1 + 4 * i ≤ mN m ∧ mN m ≤ mN m0 + 1 + 15 * i ∧ mZ m ≤ mZ m0 + 26 + 900 * i) ∧ StrO m (mN m) T (jnC ps) ∧
  (∀ j, j < i → mI m (mN m0) j = wv j ∧ -1 ≤ wv j ∧ wv j ≤ 7) ∧ (∀ p ∈ ps, p.1 < 26 ∧ p.2 < 8) ∧ (ps.length ≤ 3 ∧ ps.length ≤ i) ∧ (jnC ps).length ≤ 20 * ps.length ∧ (∀ x ∈ jnC ps, 1 ≤ x ∧ x ≤ 127) ∧
  ∀ j : Nat, lastM (ps.map fun p => ((p.1 : Int), some (cL p.2))) (j : Int) = if j < i ∧ 0 ≤ wv j then some (some (cL (wv j).toNat)) else none
theorem jnC_nil {ps : List (Nat × Nat)} : jnC ps = [] ↔ ps = [] := by
  match ps with
  | [] => exact ⟨fun _ => rfl, fun _ => rfl⟩
  | [p] => exact ⟨fun h => (by cases h), fun h => (by cases h)⟩
  | p :: q :: r => exact ⟨fun h => (by cases h), fun h => (by cases h)⟩
/-- one more -/
theorem CdI.step {m0 m m1 m' : Mem} {i T T' : Nat} {ps : List (Nat × Nat)} {wv : Nat → Int} {y : Int} (h : CdI m0 m i T ps wv) (hi : i < 26) (hy : -1 ≤ y ∧ y ≤ 7 ∧ (3 ≤ i → y = -1))
    (e1 : mN m1 = mN m ∧ mZ m1 = mZ m ∧ (∀ o, mT m1 o = mT m o) ∧ (∀ o k, mR m1 o k = mR m o k) ∧ mI m1 (mN m0) i = y ∧ ∀ o k, ¬ (o = mN m0 ∧ k = i) → mI m1 o k = mI m o k) (hN : mN m1 ≤ NN)
    (hK : Kp (mN m1) m1 m') (hn : mN m1 + 4 ≤ mN m' ∧ mN m' ≤ mN m1 + 15) (hz : mZ m' ≤ mZ m1 + 900) (hS : StrO m' (mN m') T' (jnC ps ++ cAdd (jnC ps) i y)) :
    CdI m0 m' (i + 1) T' (if y < 0 then ps else ps ++ [(i, y.toNat)]) (fun j => if j = i then y else wv j) := by
  obtain ⟨⟨h1, h2, h3, h4, h5⟩, h6, h7, h8, h9, h10, h11, h12⟩ := h
  obtain ⟨f1, f2, f3, f4, f5, f6⟩ := e1
  have hW : mN m0 < mN m1 := by omega
  have kW := hK (mN m0) (Or.inl hW)
  have hk : Kp (mN m0) m0 m' := fun o ho => by
    have a := h1 o ho
    have ne : o ≠ mN m0 := Kp.ne ho (Nat.le_refl _) hW hN
    have b := hK o (ho.imp (fun z => by omega) id)
    exact ⟨b.1.trans ((f3 o).trans a.1), fun k => (b.2.1 k).trans ((f6 o k (fun e => ne e.1)).trans (a.2.1 k)), fun k => (b.2.2 k).trans ((f4 o k).trans (a.2.2 k))⟩
  have hjn : jnC ps ++ cAdd (jnC ps) i y = jnC (if y < 0 then ps else ps ++ [(i, y.toNat)]) := by
    unfold cAdd
    by_cases c : y < 0
    · rw [if_pos c, if_pos c, List.append_nil]
    · rw [if_neg c, if_neg c, jnC_app]
      by_cases d : ps = []
      · rw [if_pos d, if_pos (jnC_nil.mpr d)]
      · rw [if_neg d, if_neg (fun z => d (jnC_nil.mp z))]
  have z1 : mN m0 + 1 + 4 * (i + 1) ≤ mN m' := by omega
  have z2 : mN m' ≤ mN m0 + 1 + 15 * (i + 1) := by omega
  have z3 : mZ m' ≤ mZ m0 + 26 + 900 * (i + 1) := by
    rw [Nat.mul_add_one, ← Nat.add_assoc]
    exact Nat.le_trans hz (Nat.add_le_add_right (f2 ▸ h5) 900)
  refine ⟨⟨hk, kW.1.trans ((f3 _).trans h2), z1, z2, z3⟩, by rw [← hjn]; exact hS, fun j hj => ?_, fun p hp => ?_, ?_, ?_, ?_, fun j => ?_⟩
  · by_cases c : j = i
    · subst c
      show _ = (if j = j then y else wv j) ∧ -1 ≤ (if j = j then y else wv j) ∧ (if j = j then y else wv j) ≤ 7
      rw [if_pos rfl]
      exact ⟨(kW.2.1 j).trans f5, hy.1, hy.2.1⟩
    · show _ = (if j = i then y else wv j) ∧ -1 ≤ (if j = i then y else wv j) ∧ (if j = i then y else wv j) ≤ 7
      rw [if_neg c]
      have := h7 j (by omega)
      exact ⟨(kW.2.1 j).trans ((f6 _ _ (fun e => c e.2)).trans this.1), this.2⟩
  · by_cases c : y < 0
    · rw [if_pos c] at hp; exact h8 p hp
    · rw [if_neg c] at hp
      rcases List.mem_append.mp hp with hp | hp
      · exact h8 p hp
      · rw [List.mem_singleton.mp hp]; exact ⟨hi, by show y.toNat < 8; omega⟩
  · by_cases c : y < 0
    · rw [if_pos c]; omega
    · rw [if_neg c, List.length_append, List.length_singleton]; omega
  · by_cases c : y < 0
    · rw [if_pos c]; exact h10
    · have hc : (cT (i, y.toNat).2).length ≤ 17 := (cT_read (w := y.toNat) (by omega)).2.2.2.1
      rw [if_neg c, jnC_app, List.length_append, List.length_append, List.length_append, List.length_singleton, List.length_cons, List.length_cons]
      split
      · rw [List.length_nil]; omega
      · rw [List.length_singleton]; omega
  · by_cases c : y < 0
    · rw [if_pos c]; exact h11
    · have hc := (cT_read (w := y.toNat) (by omega)).2.2.2.2
      rw [if_neg c, jnC_app]
      intro x hx
      rcases List.mem_append.mp hx with hx | hx
      · exact h11 x hx
      · rcases List.mem_append.mp hx with hx | hx
        · split at hx
          · cases hx
          · rw [List.mem_singleton.mp hx]; omega
        · rcases List.mem_cons.mp hx with rfl | hx
          · show 1 ≤ 65 + (i : Int) ∧ 65 + (i : Int) ≤ 127; omega
          · rcases List.mem_cons.mp hx with rfl | hx
            · omega
            · have := hc x hx; omega
  · show _ = if j < i + 1 ∧ 0 ≤ (if j = i then y else wv j) then some (some (cL (if j = i then y else wv j).toNat)) else none
    by_cases c : y < 0
    · rw [if_pos c, h12 j]
      by_cases d : j = i
      · subst d
        rw [if_neg (by omega), if_pos rfl, if_neg (by omega)]
      · rw [if_neg d]
        by_cases g : j < i ∧ 0 ≤ wv j
        · rw [if_pos g, if_pos ⟨by omega, g.2⟩]
        · rw [if_neg g, if_neg (fun z => g ⟨by omega, z.2⟩)]
    · rw [if_neg c, List.map_append]
      have := lastM_app (ps.map fun p => ((p.1 : Int), some (cL p.2))) ((i : Int), some (cL y.toNat)) (j : Int)
      refine this.trans ?_
      by_cases d : j = i
      · subst d
        rw [if_pos rfl, if_pos rfl, if_pos ⟨by omega, by omega⟩]
      · rw [if_neg (show ¬ (i : Int) = (j : Int) by omega), h12 j, if_neg d]
        by_cases g : j < i ∧ 0 ≤ wv j
        · rw [if_pos g, if_pos ⟨by omega, g.2⟩]
        · rw [if_neg g, if_neg (fun z => g ⟨by omega, z.2⟩)]
/-- what conditions() leaves -/
def CndR (m0 m : Mem) (wv : Nat → Int) : Prop := (mN m0 + 100 ≤ mN m ∧ mN m ≤ mN m0 + 476 ∧ mZ m ≤ mZ m0 + 28540) ∧ (∀ o, o < mN m0 → mT m o = mT m0 o) ∧ (∀ o k, o < mN m0 → ¬ (o = 13 ∧ k = 1) → o ≠ 14 → ¬ (o = 5 ∧ k = 3) → mI m o k = mI m0 o k) ∧ (∀ o k, o < mN m0 → o ≠ 4 → mR m o k = mR m0 o k) ∧ (mI m 13 1 = 0 ∧ mI m 5 3 = 0) ∧ (mT m (mN m0) = (20, 26) ∧ ∀ j, j < 26 → mI m (mN m0) j = wv j ∧ -1 ≤ wv j ∧ wv j ≤ 7) ∧ ∀ w, w < 26 → CdN 59 m 4 w (cdO (wv w))
set_option maxHeartbeats 4000000 in
theorem L_cndL {F : Nat} {m0 : Mem} {at_ : Int} {post : Option AV → Mem → Prop} (ha : 0 ≤ at_ ∧ at_ ≤ 100) (hr : mN m0 + 500 ≤ NN ∧ mZ m0 + 29000 ≤ ZZ)
    (kx : ∀ m T ps wv, CdI m0 m 26 T ps wv → V μL_conditions (F + 22) m0 post 154 [(5, vi 26), (4, vr T), (3, vr (mN m0)), (0, vr 0), (1, vr SC), (2, vi at_)] [] m) : ∀ (dd : Nat) (m : Mem) (T : Nat) (ps : List (Nat × Nat)) (wv : Nat → Int) (i : Nat), dd + i = 26 → CdI m0 m i T ps wv → V μL_conditions (F + 22) m0 post 12 [(5, vi ((i : Nat) : Int)), (4, vr T), (3, vr (mN m0)), (0, vr 0), (1, vr SC), (2, vi at_)] [] m := by
  intro dd
  induction dd with
  | zero =>
    intro m T ps wv i hi hI
    obtain rfl : i = 26 := by omega
    refine V_ld (pc := 12) dL_conditions_12 (v := vi ((26 : Nat) : Int)) rfl rfl ?_
    refine V_bipush (pc := 14) dL_conditions_14 (by unfold I32; omega) (by decide) ?_
    refine V_icmp_ge (pc := 16) dL_conditions_16 (tgt := 154) rfl (fun h16 => ?_) (fun h16 => ?_)
    · skip
      exact kx m T ps wv hI
    · skip
      exfalso; omega
  | succ dd ih =>
    intro m T ps wv i hi hI
    have hI1 := hI.1
    have k64 : ∀ x y : Int, -1 ≤ y ∧ y ≤ 7 ∧ (3 ≤ i → y = -1) → V μL_conditions (F + 22) m0 post 64 [(5, vi ((i : Nat) : Int)), (4, vr T), (3, vr (mN m0)), (0, vr 0), (1, vr SC), (2, vi at_)] [] (setI (setI m (mN m0) i x) (mN m0) i y) := fun x y hy => by
      have hb : ∀ b, mT m b ≠ (20, 26) → b ≠ mN m0 := fun b h e => h (by rw [e]; exact hI1.2.1)
      have hy5 : mI (setI (setI m (mN m0) i x) (mN m0) i y) (mN m0) i = y := if_pos ⟨rfl, rfl⟩
      have hne : ∀ o k, ¬ (o = mN m0 ∧ k = i) → mI (setI (setI m (mN m0) i x) (mN m0) i y) o k = mI m o k := fun o k h => (if_neg h).trans (if_neg h)
      have hSt : StrO (setI (setI m (mN m0) i x) (mN m0) i y) (mN m) T (jnC ps) := by
        obtain ⟨a1, a2, a3, b, a4, a5, a6, a7⟩ := hI.2.1
        have n1 := hb T (by rw [a2]; intro e; cases e)
        have n2 := hb b (by rw [a6]; intro e; cases e)
        exact ⟨a1, a2, (hne _ _ (fun e => n1 e.1)).trans a3, b, a4, a5, a6, fun k x hx => (hne _ _ (fun e => n2 e.1)).trans (a7 k x hx)⟩
      have hl := hI.2.2.2.2.2.1
      have hl3 := hI.2.2.2.2.1
      refine L_cnd2 (F := F) (W := mN m0) (y := y) (tl := jnC ps) ⟨hI1.2.1, hy5, hSt⟩ (show mN m0 < mN m by omega) (by omega) ⟨hy.1, hy.2.1⟩ (by omega) ⟨show mN m + 20 ≤ NN by omega, show mZ m + 900 ≤ ZZ by omega⟩ fun m' T' q1 q2 q3 q4 => ?_
      have hs := hI.step (m1 := setI (setI m (mN m0) i x) (mN m0) i y) (by omega) hy ⟨rfl, rfl, fun _ => rfl, fun _ _ => rfl, hy5, hne⟩ (show mN m ≤ NN by omega) q1 q2 q3 q4
      refine V_iinc (pc := 148) dL_conditions_148 (x := ((i : Nat) : Int)) (ls' := [(5, vi (((i : Nat) : Int) + 1)), (4, vr T'), (3, vr (mN m0)), (0, vr 0), (1, vr SC), (2, vi at_)]) rfl (by unfold I32 at *; omega) (Nat.le_of_ble_eq_true rfl) rfl ?_
      refine V_goto (pc := 151) dL_conditions_151 (tgt := 12) rfl ?_
      skip
      have h_ := ih _ _ _ _ (i + 1) (by omega) hs
      rw [show ((i + 1 : Nat) : Int) = (i : Int) + 1 by omega] at h_
      exact h_
    refine V_ld (pc := 12) dL_conditions_12 (v := vi ((i : Nat) : Int)) rfl rfl ?_
    refine V_bipush (pc := 14) dL_conditions_14 (by unfold I32; omega) (by decide) ?_
    refine V_icmp_ge (pc := 16) dL_conditions_16 (tgt := 154) rfl (fun h16 => ?_) (fun h16 => ?_)
    · skip
      exfalso; omega
    · skip
      refine V_ld (pc := 19) dL_conditions_19 (v := vr (mN m0)) rfl rfl ?_
      refine V_ld (pc := 20) dL_conditions_20 (v := vi ((i : Nat) : Int)) rfl rfl ?_
      refine V_ld (pc := 22) dL_conditions_22 (v := vi ((i : Nat) : Int)) rfl rfl ?_
      refine V_iconst (pc := 24) dL_conditions_24 (by unfold I32; omega) ?_
      refine V_icmp_ge (pc := 25) dL_conditions_25 (tgt := 43) rfl (fun h25 => ?_) (fun h25 => ?_)
      · skip
        refine V_iconst (pc := 43) dL_conditions_43 (by unfold I32; omega) ?_
        refine V_iast (pc := 44) dL_conditions_44 hI1.2.1 (by omega) ?_
        refine V_ld (pc := 45) dL_conditions_45 (v := vr (mN m0)) rfl rfl ?_
        refine V_ld (pc := 46) dL_conditions_46 (v := vi ((i : Nat) : Int)) rfl rfl ?_
        refine V_ld (pc := 48) dL_conditions_48 (v := vr (mN m0)) rfl rfl ?_
        refine V_ld (pc := 49) dL_conditions_49 (v := vi ((i : Nat) : Int)) rfl rfl ?_
        refine V_ialdv (pc := 51) dL_conditions_51 (v := (-1)) hI1.2.1 (by omega) (by first | rfl | (simp only [mI_setI, up2]; repeat (first | rfl | rw [if_neg (by omega)] | rw [if_pos (by omega)]))) (fun g51 => ?_)
        refine V_if_ge (pc := 52) dL_conditions_52 (tgt := 59) rfl (fun h_ => absurd h_ (by decide)) (fun _ => ?_)
        refine V_iconst (pc := 55) dL_conditions_55 (by unfold I32; omega) ?_
        refine V_goto (pc := 56) dL_conditions_56 (tgt := 63) rfl ?_
        refine V_iast (pc := 63) dL_conditions_63 hI1.2.1 (by omega) ?_
        skip
        rw [Int.toNat_natCast]
        exact k64 (-1) (-1) (by omega)
      · skip
        refine V_ld (pc := 28) dL_conditions_28 (v := vr SC) rfl rfl ?_
        refine V_ld (pc := 29) dL_conditions_29 (v := vi at_) rfl rfl ?_
        refine V_ld (pc := 30) dL_conditions_30 (v := vi ((i : Nat) : Int)) rfl rfl ?_
        refine V_iadd (pc := 32) dL_conditions_32 (by unfold I32 at *; omega) ?_
        refine V_bipush (pc := 33) dL_conditions_33 (by unfold I32; omega) (by decide) ?_
        refine V_callS (pc := 35) dL_conditions_35 (F' := 1) (As := [vr SC, vi (at_ + ((i : Nat) : Int)), vi 10]) (st := [vi ((i : Nat) : Int), vr (mN m0)]) cw_RL_17 rfl rfl (Nat.le_of_ble_eq_true rfl) (by omega) (w_pick  m (at_ + ((i : Nat) : Int)) 10   (by omega)) ?_
        rintro _ _ ⟨x35, rfl, hx35, rfl⟩ ok35 le35
        refine V_iconst (pc := 38) dL_conditions_38 (by unfold I32; omega) ?_
        refine V_isub (pc := 39) dL_conditions_39 (by unfold I32 at *; omega) ?_
        refine V_goto (pc := 40) dL_conditions_40 (tgt := 44) rfl ?_
        refine V_iast (pc := 44) dL_conditions_44 hI1.2.1 (by omega) ?_
        refine V_ld (pc := 45) dL_conditions_45 (v := vr (mN m0)) rfl rfl ?_
        refine V_ld (pc := 46) dL_conditions_46 (v := vi ((i : Nat) : Int)) rfl rfl ?_
        refine V_ld (pc := 48) dL_conditions_48 (v := vr (mN m0)) rfl rfl ?_
        refine V_ld (pc := 49) dL_conditions_49 (v := vi ((i : Nat) : Int)) rfl rfl ?_
        refine V_ialdv (pc := 51) dL_conditions_51 (v := x35 - 2) hI1.2.1 (by omega) (by first | rfl | (simp only [mI_setI, up2]; repeat (first | rfl | rw [if_neg (by omega)] | rw [if_pos (by omega)]))) (fun g51 => ?_)
        refine V_if_ge (pc := 52) dL_conditions_52 (tgt := 59) rfl (fun h52 => ?_) (fun h52 => ?_)
        · skip
          refine V_ld (pc := 59) dL_conditions_59 (v := vr (mN m0)) rfl rfl ?_
          refine V_ld (pc := 60) dL_conditions_60 (v := vi ((i : Nat) : Int)) rfl rfl ?_
          refine V_ialdv (pc := 62) dL_conditions_62 (v := x35 - 2) hI1.2.1 (by omega) (by first | rfl | (simp only [mI_setI, up2]; repeat (first | rfl | rw [if_neg (by omega)] | rw [if_pos (by omega)]))) (fun g62 => ?_)
          refine V_iast (pc := 63) dL_conditions_63 hI1.2.1 (by omega) ?_
          skip
          rw [Int.toNat_natCast]
          exact k64 (x35 - 2) (x35 - 2) (by omega)
        · skip
          refine V_iconst (pc := 55) dL_conditions_55 (by unfold I32; omega) ?_
          refine V_goto (pc := 56) dL_conditions_56 (tgt := 63) rfl ?_
          refine V_iast (pc := 63) dL_conditions_63 hI1.2.1 (by omega) ?_
          skip
          rw [Int.toNat_natCast]
          exact k64 (x35 - 2) (-1) (by omega)

theorem Lay.kp {m m' : Mem} {b : Nat} (h : Lay (mT m) (mR m)) (hk : Kp b m m') (hb : 30 ≤ b) : Lay (mT m') (mR m') := by
  have k1 : ∀ p ∈ layT, p.1 < 30 := by decide +kernel
  have k2 : ∀ p ∈ layR, p.1.1 < 30 := by decide +kernel
  exact ⟨fun p hp => (hk p.1 (Or.inl (by have := k1 p hp; omega))).1.trans (h.1 p hp), fun p hp => ((hk p.1.1 (Or.inl (by have := k2 p hp; omega))).2.2 p.1.2).trans (h.2 p hp)⟩
theorem CdI.bd {m0 m : Mem} {T : Nat} {ps : List (Nat × Nat)} {wv : Nat → Int} (hI : CdI m0 m 26 T ps wv) : mN m0 + 105 ≤ mN m ∧ mN m ≤ mN m0 + 391 ∧ mZ m ≤ mZ m0 + 23526 := by
  obtain ⟨⟨h1, h2, h3, h4', h5'⟩, h6⟩ := hI
  clear h1 h2 h6
  exact ⟨by omega, by omega, by omega⟩
theorem CdI.ini {m : Mem} (hN : mN m + 1 ≤ NN) (hS : StrO (newO m 20 26) (mN (newO m 20 26)) (kS 8) []) : CdI m (newO m 20 26) 0 (kS 8) [] (fun _ => -1) := by
  have z1 : mN m + 1 + 4 * 0 ≤ mN (newO m 20 26) := by show _ ≤ mN m + 1; omega
  have z2 : mN (newO m 20 26) ≤ mN m + 1 + 15 * 0 := by show mN m + 1 ≤ _; omega
  have z3 : mZ (newO m 20 26) ≤ mZ m + 26 + 900 * 0 := by show mZ m + 26 ≤ _; omega
  exact ⟨⟨Kp.rf.new (Nat.le_refl _) (by omega), if_pos rfl, z1, z2, z3⟩, hS, fun j hj => absurd hj (Nat.not_lt_zero _), fun p hp => absurd hp List.not_mem_nil, ⟨Nat.zero_le _, Nat.le_refl _⟩, Nat.zero_le _, fun x hx => absurd hx List.not_mem_nil, fun j => (if_neg (fun z => absurd z.1 (Nat.not_lt_zero _))).symm⟩
theorem getD_in {l : List Int} {k : Nat} (hk : k < l.length) : l[k]? = some (l.getD k 0) ∧ l.getD k 0 ∈ l := by
  have h : l[k]? = some (l.getD k 0) := by rw [List.getD_eq_getElem?_getD, List.getElem?_eq_getElem hk]; rfl
  exact ⟨h, List.mem_of_getElem? h⟩
theorem getD_all {l : List Int} {P : Int → Prop} (h : ∀ x ∈ l, P x) {k : Nat} (hk : k < l.length) : P (l.getD k 0) := h _ (getD_in hk).2
theorem FdI.tx {m0 : Mem} {I : Nat → Nat → Int} {l : List Int} (h : FdI m0 I l.length l) {k : Nat} (hk : k < l.length) : I 14 k = l.getD k 0 := h.2.1 k _ hk (getD_in hk).1
theorem jnC_len {ps : List (Nat × Nat)} (h : ps ≠ []) : 2 ≤ (jnC ps).length := by
  match ps with
  | [] => exact absurd rfl h
  | [p] => show 2 ≤ (cT p.2).length + 1 + 1; omega
  | p :: q :: r => show 2 ≤ (cT p.2 ++ 59 :: jnC (q :: r)).length + 1 + 1; omega
theorem CndR.no {m0 m : Mem} {T : Nat} {wv : Nat → Int} (hI : CdI m0 m 26 T [] wv) (hN : 59 ≤ mN m) (h30 : 30 ≤ mN m0) (h4 : ∀ w, w < 26 → mR m0 4 w = none) (h13 : mI m0 13 1 = 0) (h5 : mI m0 5 3 = 0) : CndR m0 m wv := by
  obtain ⟨⟨h1, h2, h3, h4', h5'⟩, h6, h7, h8, h9, h10, h11, h12⟩ := hI
  refine ⟨⟨by omega, by omega, by omega⟩, fun o ho => (h1 o (Or.inl ho)).1, fun o k ho _ _ _ => (h1 o (Or.inl ho)).2.1 k, fun o k ho _ => (h1 o (Or.inl ho)).2.2 k, ⟨((h1 13 (Or.inl (by omega))).2.1 1).trans h13, ((h1 5 (Or.inl (by omega))).2.1 3).trans h5⟩, ⟨h2, h7⟩, fun w hw => ?_⟩
  have e := h12 w
  have hneg : wv w < 0 := by
    by_cases c : 0 ≤ wv w
    · rw [if_pos ⟨hw, c⟩] at e; cases e
    · omega
  show CdN 59 m 4 w (if wv w < 0 then none else some (cL (wv w).toNat))
  rw [if_pos hneg]
  exact ((h1 4 (Or.inl (by omega))).2.2 w).trans (h4 w hw)
theorem CndR.mk {m0 m m' : Mem} {T : Nat} {ps : List (Nat × Nat)} {wv : Nat → Int} {I : Nat → Nat → Int} {x : Int} (hI : CdI m0 m 26 T ps wv) (hF : FdI m I (jnC ps).length (jnC ps)) (hD : DefC2 (wI m I) 5 (jnC ps).length (fun j => (jnC ps).getD j 0) x m') (hp : ps ≠ []) (hN : 59 ≤ mN m) (h30 : 30 ≤ mN m0) (h4 : ∀ w, w < 26 → mR m0 4 w = none) : CndR m0 m' wv := by
  obtain ⟨⟨h1, h2, h3, h4', h5'⟩, h6, h7, h8, h9, h10, h11, h12⟩ := hI
  obtain ⟨d1, d2, d3, d4, d5, d6, d7, d8⟩ := hD
  have d1 : mN m ≤ mN m' := d1
  have d2 : mN m' ≤ mN m + 85 := d2
  have d3 : mZ m' ≤ mZ m + 5114 := d3
  have d4 : ∀ o, o < mN m → mT m' o = mT m o := d4
  have d6 : ∀ o k, o < mN m → ¬ (o = 13 ∧ k = 1) → ¬ (o = 5 ∧ k = 3) → mI m' o k = I o k := d6
  have d7 : ∀ o k, o < mN m → o ≠ 4 → mR m' o k = mR m o k := d7
  obtain ⟨r1, r2⟩ := defL_rd (jnC ps) ps 0 ((jnC ps).length + 1) hp rfl h8 (by have := jnC_len hp; omega)
  rcases d8 with ⟨d8, -⟩ | ⟨-, -, d9, d10⟩
  · exact absurd ⟨by rw [r1], by rw [r1]⟩ d8
  · refine ⟨⟨by omega, by omega, by omega⟩, fun o ho => (d4 o (by omega)).trans (h1 o (Or.inl ho)).1, fun o k ho a1 a2 a3 => (d6 o k (by omega) a1 a3).trans ((hF.2.2 o k a1 a2).trans ((h1 o (Or.inl ho)).2.1 k)), fun o k ho a1 => (d7 o k (by omega) a1).trans ((h1 o (Or.inl ho)).2.2 k), ⟨d5, d9⟩, ⟨(d4 _ (by omega)).trans h2, fun j hj => ⟨(d6 _ j (by omega) (by omega) (by omega)).trans ((hF.2.2 _ j (by omega) (by omega)).trans (h7 j hj).1), (h7 j hj).2⟩⟩, fun w hw => ?_⟩
    have e := h12 w
    have e2 := lastP_M (defL (fun j => (jnC ps).getD j 0) (jnC ps).length ((jnC ps).length + 1) (true, 0)).1 (w : Int)
    rw [r2, e] at e2
    have d := d10 w hw
    generalize lastP (defL (fun j => (jnC ps).getD j 0) (jnC ps).length ((jnC ps).length + 1) (true, 0)).1 (w : Int) = q at *
    show CdN 59 m' 4 w (if wv w < 0 then none else some (cL (wv w).toNat))
    by_cases c : 0 ≤ wv w
    · rw [if_pos ⟨hw, c⟩] at e2
      rw [if_neg (by omega)]
      cases q with
      | none => cases e2
      | some p =>
        have e3 : p.2.2.2 = some (cL (wv w).toNat) := Option.some.inj e2
        have d : CdN (mN m) m' 4 w p.2.2.2 := d
        rw [e3] at d
        obtain ⟨c, g1, A, g2, g3, g4, g5, g6, g7⟩ := d
        exact ⟨c, g1, A, g2, g3, g4, by omega, by omega, g7⟩
    · rw [if_neg (fun z => c z.2)] at e2
      rw [if_pos (by omega)]
      cases q with
      | some p => cases e2
      | none =>
        have d : mR m' 4 w = mR m 4 w := d
        exact d.trans (((h1 4 (Or.inl (by omega))).2.2 w).trans (h4 w hw))

theorem w_define (tx : Nat → Int) (n : Nat) (m : Mem)    (hL : Lay (mT m) (mR m)) (h13 : mR m 1 3 = some 5) (ht : mI m 13 1 = (n : Int) ∧ n ≤ 120) (htx : ∀ k, k < n → mI m 14 k = tx k ∧ 1 ≤ tx k ∧ tx k ≤ 127) (hr : 59 ≤ mN m ∧ mN m + 85 ≤ NN ∧ mZ m + 5114 ≤ ZZ) : Ct μX10_define 22 [vr 0] m (ri fun x_ m' => (True) ∧ DefC2 m 5 n tx x_ m') := c_define2 tx n m 5 hL h13 hL.t5 (Or.inl rfl) ht htx hr
set_option maxHeartbeats 4000000 in
theorem w_conditions  (m : Mem) (at_ : Int)   (hL : Lay (mT m) (mR m)) (h13 : mR m 1 3 = some 5) (ha : 0 ≤ at_ ∧ at_ ≤ 100) (hr : mN m + 500 ≤ NN ∧ mZ m + 29000 ≤ ZZ) (h30 : 30 ≤ mN m) (hz : mI m 13 1 = 0 ∧ mI m 5 3 = 0) (h4 : ∀ w, w < 26 → mR m 4 w = none) : Ct μL_conditions 23 [vr 0, vr SC, vi at_] m (rq fun x_ m' => (x_ = some (mN m)) ∧ (∃ wv, CndR m m' wv)) := by
  refine Ct_of_V rfl (by decide) rfl (Nat.le_of_ble_eq_true rfl) ?_
  show V μL_conditions 23 m _ 0 [(0, vr 0), (1, vr SC), (2, vi at_)] [] m
  refine V_bipush (pc := 0) dL_conditions_0 (by unfold I32; omega) (by decide) ?_
  refine V_newIv (pc := 2) (N := 26) (mN m) rfl rfl dL_conditions_2 (by omega) (by omega) (by omega) (by omega) wa_int ?_
  refine V_st (pc := 4) dL_conditions_4 (ls' := [(3, vr (mN m)), (0, vr 0), (1, vr SC), (2, vi at_)]) rfl (Nat.le_of_ble_eq_true rfl) rfl ?_
  refine V_ldcS (pc := 5) dL_conditions_5 (i := 8) rfl (by decide) (by decide +kernel) ?_
  refine V_st (pc := 7) dL_conditions_7 (ls' := [(4, vr (kS 8)), (3, vr (mN m)), (0, vr 0), (1, vr SC), (2, vi at_)]) rfl (Nat.le_of_ble_eq_true rfl) rfl ?_
  refine V_iconst (pc := 9) dL_conditions_9 (by unfold I32; omega) ?_
  refine V_st (pc := 10) dL_conditions_10 (ls' := [(5, vi 0), (4, vr (kS 8)), (3, vr (mN m)), (0, vr 0), (1, vr SC), (2, vi at_)]) rfl (Nat.le_of_ble_eq_true rfl) rfl ?_
  skip
  refine V_okM fun ok_ => ?_
  have hS8_ := StrO.lit (B := mN (newO m 20 26)) (i := 8) ok_ (by decide)
  rw [litB_8] at hS8_
  refine L_cndL (F := 1) (m0 := m) ha hr (fun m1 T ps wv hI => ?_) 26 _ (kS 8) [] (fun _ => -1) 0 (by omega) (CdI.ini (by omega) hS8_)
  have hI1 := hI.1
  have hS_ := hI.2.1
  have hLm : Lay (mT m1) (mR m1) := hL.kp hI1.1 h30
  have hl_ := hI.2.2.2.2.2.1
  have hl3_ := hI.2.2.2.2.1
  have e13_ : mI m1 13 1 = 0 := ((hI1.1 13 (Or.inl (by omega))).2.1 1).trans hz.1
  have eR_ : mR m1 1 3 = some 5 := ((hI1.1 1 (Or.inl (by omega))).2.2 3).trans h13
  have n1_ := hI.bd
  refine V_ld (pc := 154) dL_conditions_154 (v := vr T) rfl rfl ?_
  refine V_callVS (pc := 156) dL_conditions_156 (F' := 1) (As := []) (st := []) cw_RL_27 rfl rfl hS_.2.1 (Nat.le_of_ble_eq_true rfl) (by omega) (w_len (mN m1) (jnC ps) m1 T   hS_ (by omega)) ?_
  rintro _ _ ⟨x156, rfl, hx156, rfl⟩ ok156 le156
  subst hx156
  refine V_if_le (pc := 159) dL_conditions_159 (tgt := 174) rfl (fun h159 => ?_) (fun h159 => ?_)
  · skip
    refine V_ld (pc := 174) dL_conditions_174 (v := vr (mN m)) rfl rfl ?_
    refine V_retq (pc := 175) dL_conditions_175 trivial ?_
    obtain rfl : ps = [] := jnC_nil.mp (List.eq_nil_of_length_eq_zero (by omega))
    exact ⟨rfl, wv, CndR.no hI (by omega) h30 h4 hz.1 hz.2⟩
  · skip
    refine V_ld (pc := 162) dL_conditions_162 (v := vr 0) rfl rfl ?_
    refine V_ld (pc := 163) dL_conditions_163 (v := vr T) rfl rfl ?_
    refine V_callS (pc := 165) dL_conditions_165 (F' := 4) (As := [vr 0, vr T]) (st := []) cw_RL_100 rfl rfl (Nat.le_of_ble_eq_true rfl) (by omega) (w_feed (mN m1) (jnC ps) m1 T   hLm hS_ ⟨by omega, hI.2.2.2.2.2.2.1⟩ e13_) ?_
    rintro _ m2 ⟨x165, rfl, hx165, ⟨I, hw_, hF_⟩⟩ ok165 le165
    subst hw_
    refine V_pop (pc := 168) dL_conditions_168 rfl ?_
    refine V_ld (pc := 169) dL_conditions_169 (v := vr 0) rfl rfl ?_
    refine V_callV (pc := 170) dL_conditions_170 (F' := 22) (As := []) (st := []) cw_RL_103 rfl rfl hLm.t0 (by decide) (Nat.le_of_ble_eq_true rfl) (by omega) (w_define (fun j => (jnC ps).getD j 0) ((jnC ps).length) (wI m1 I)    hLm eR_ ⟨hF_.1, by omega⟩ (fun k hk => ⟨hF_.tx hk, getD_all hI.2.2.2.2.2.2.1 hk⟩) ⟨show 59 ≤ mN m1 by omega, show mN m1 + 85 ≤ NN by omega, show mZ m1 + 5114 ≤ ZZ by omega⟩) ?_
    rintro _ m3 ⟨x170, rfl, hx170, hD_⟩ ok170 le170
    refine V_pop (pc := 173) dL_conditions_173 rfl ?_
    refine V_ld (pc := 174) dL_conditions_174 (v := vr (mN m)) rfl rfl ?_
    refine V_retq (pc := 175) dL_conditions_175 trivial ?_
    exact ⟨rfl, wv, CndR.mk hI hF_ hD_ (fun z_ => by rw [z_] at h159; exact h159 (Int.le_refl _)) (by omega) h30 h4⟩

