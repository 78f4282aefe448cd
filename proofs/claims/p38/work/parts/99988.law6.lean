/-! THE LAW'S conditions(), 2 -/
/-- the tellings so far -/
def CdI (m0 m : Mem) (i T : Nat) (ps : List (Nat × Nat)) (wv : Nat → Int) : Prop :=
  (Kp (mN m0) m0 m ∧ mT m (mN m0) = (20, 26) ∧ mN m0 + 1 + 4 * i ≤ mN m ∧ mN m ≤ mN m0 + 1 + 15 * i ∧ mZ m ≤ mZ m0 + 26 + 900 * i) ∧ StrO m (mN m) T (jnC ps) ∧
  (∀ j, j < i → mI m (mN m0) j = wv j ∧ -1 ≤ wv j ∧ wv j ≤ 7) ∧ (∀ p ∈ ps, p.1 < 26 ∧ p.2 < 8) ∧ (ps.length ≤ 3 ∧ ps.length ≤ i) ∧ (jnC ps).length ≤ 20 * ps.length ∧ (∀ x ∈ jnC ps, 1 ≤ x ∧ x ≤ 127) ∧
  ∀ j : Nat, lastM (ps.map fun p => ((p.1 : Int), some (cL p.2))) (j : Int) = if j < i ∧ 0 ≤ wv j then some (some (cL (wv j).toNat)) else none
theorem jnC_nil {ps : List (Nat × Nat)} : jnC ps = [] ↔ ps = [] := by
  match ps with
  | [] => exact ⟨fun _ => rfl, fun _ => rfl⟩
  | [p] => exact ⟨fun h => (by cases h), fun h => (by cases h)⟩
  | p :: q :: r => exact ⟨fun h => (by cases h), fun h => (by cases h)⟩
/-- one more -/
theorem CdI.step {m0 m m1 m' : Mem} {i T T' : Nat} {ps : List (Nat × Nat)} {wv : Nat → Int} {y : Int} (h : CdI m0 m i T ps wv) (hi : i < 26) (hy : -1 ≤ y ∧ y ≤ 7 ∧ (3 ≤ i → y = -1))
    (e1 : mN m1 = mN m ∧ mZ m1 = mZ m ∧ (∀ o, mT m1 o = mT m o) ∧ (∀ o k, mR m1 o k = mR m o k) ∧ mI m1 (mN m0) i = y ∧ ∀ o k, ¬ (o = mN m0 ∧ k = i) → mI m1 o k = mI m o k) (hN : mN m1 ≤ NN)
    (hK : Kp (mN m1) m1 m') (hn : mN m1 + 4 ≤ mN m' ∧ mN m' ≤ mN m1 + 15) (hz : mZ m' ≤ mZ m1 + 900) (hS : StrO m' (mN m') T' (jnC ps ++ cAdd (jnC ps) i y)) :
    CdI m0 m' (i + 1) T' (if y < 0 then ps else ps ++ [(i, y.toNat)]) (fun j => if j = i then y else wv j) := by
  obtain ⟨⟨h1, h2, h3, h4, h5⟩, h6, h7, h8, h9, h10, h11, h12⟩ := h
  obtain ⟨f1, f2, f3, f4, f5, f6⟩ := e1
  have hW : mN m0 < mN m1 := by omega
  have kW := hK (mN m0) (Or.inl hW)
  have hk : Kp (mN m0) m0 m' := fun o ho => by
    have a := h1 o ho
    have ne : o ≠ mN m0 := Kp.ne ho (Nat.le_refl _) hW hN
    have b := hK o (ho.imp (fun z => by omega) id)
    exact ⟨b.1.trans ((f3 o).trans a.1), fun k => (b.2.1 k).trans ((f6 o k (fun e => ne e.1)).trans (a.2.1 k)), fun k => (b.2.2 k).trans ((f4 o k).trans (a.2.2 k))⟩
  have hjn : jnC ps ++ cAdd (jnC ps) i y = jnC (if y < 0 then ps else ps ++ [(i, y.toNat)]) := by
    unfold cAdd
    by_cases c : y < 0
    · rw [if_pos c, if_pos c, List.append_nil]
    · rw [if_neg c, if_neg c, jnC_app]
      by_cases d : ps = []
      · rw [if_pos d, if_pos (jnC_nil.mpr d)]
      · rw [if_neg d, if_neg (fun z => d (jnC_nil.mp z))]
  have z1 : mN m0 + 1 + 4 * (i + 1) ≤ mN m' := by omega
  have z2 : mN m' ≤ mN m0 + 1 + 15 * (i + 1) := by omega
  have z3 : mZ m' ≤ mZ m0 + 26 + 900 * (i + 1) := by
    rw [Nat.mul_add_one, ← Nat.add_assoc]
    exact Nat.le_trans hz (Nat.add_le_add_right (f2 ▸ h5) 900)
  refine ⟨⟨hk, kW.1.trans ((f3 _).trans h2), z1, z2, z3⟩, by rw [← hjn]; exact hS, fun j hj => ?_, fun p hp => ?_, ?_, ?_, ?_, fun j => ?_⟩
  · by_cases c : j = i
    · subst c
      show _ = (if j = j then y else wv j) ∧ -1 ≤ (if j = j then y else wv j) ∧ (if j = j then y else wv j) ≤ 7
      rw [if_pos rfl]
      exact ⟨(kW.2.1 j).trans f5, hy.1, hy.2.1⟩
    · show _ = (if j = i then y else wv j) ∧ -1 ≤ (if j = i then y else wv j) ∧ (if j = i then y else wv j) ≤ 7
      rw [if_neg c]
      have := h7 j (by omega)
      exact ⟨(kW.2.1 j).trans ((f6 _ _ (fun e => c e.2)).trans this.1), this.2⟩
  · by_cases c : y < 0
    · rw [if_pos c] at hp; exact h8 p hp
    · rw [if_neg c] at hp
      rcases List.mem_append.mp hp with hp | hp
      · exact h8 p hp
      · rw [List.mem_singleton.mp hp]; exact ⟨hi, by show y.toNat < 8; omega⟩
  · by_cases c : y < 0
    · rw [if_pos c]; omega
    · rw [if_neg c, List.length_append, List.length_singleton]; omega
  · by_cases c : y < 0
    · rw [if_pos c]; exact h10
    · have hc : (cT (i, y.toNat).2).length ≤ 17 := (cT_read (w := y.toNat) (by omega)).2.2.2.1
      rw [if_neg c, jnC_app, List.length_append, List.length_append, List.length_append, List.length_singleton, List.length_cons, List.length_cons]
      split
      · rw [List.length_nil]; omega
      · rw [List.length_singleton]; omega
  · by_cases c : y < 0
    · rw [if_pos c]; exact h11
    · have hc := (cT_read (w := y.toNat) (by omega)).2.2.2.2
      rw [if_neg c, jnC_app]
      intro x hx
      rcases List.mem_append.mp hx with hx | hx
      · exact h11 x hx
      · rcases List.mem_append.mp hx with hx | hx
        · split at hx
          · cases hx
          · rw [List.mem_singleton.mp hx]; omega
        · rcases List.mem_cons.mp hx with rfl | hx
          · show 1 ≤ 65 + (i : Int) ∧ 65 + (i : Int) ≤ 127; omega
          · rcases List.mem_cons.mp hx with rfl | hx
            · omega
            · have := hc x hx; omega
  · show _ = if j < i + 1 ∧ 0 ≤ (if j = i then y else wv j) then some (some (cL (if j = i then y else wv j).toNat)) else none
    by_cases c : y < 0
    · rw [if_pos c, h12 j]
      by_cases d : j = i
      · subst d
        rw [if_neg (by omega), if_pos rfl, if_neg (by omega)]
      · rw [if_neg d]
        by_cases g : j < i ∧ 0 ≤ wv j
        · rw [if_pos g, if_pos ⟨by omega, g.2⟩]
        · rw [if_neg g, if_neg (fun z => g ⟨by omega, z.2⟩)]
    · rw [if_neg c, List.map_append]
      have := lastM_app (ps.map fun p => ((p.1 : Int), some (cL p.2))) ((i : Int), some (cL y.toNat)) (j : Int)
      refine this.trans ?_
      by_cases d : j = i
      · subst d
        rw [if_pos rfl, if_pos rfl, if_pos ⟨by omega, by omega⟩]
      · rw [if_neg (show ¬ (i : Int) = (j : Int) by omega), h12 j, if_neg d]
        by_cases g : j < i ∧ 0 ≤ wv j
        · rw [if_pos g, if_pos ⟨by omega, g.2⟩]
        · rw [if_neg g, if_neg (fun z => g ⟨by omega, z.2⟩)]
/-- what conditions() leaves -/
def CndR (m0 m : Mem) (wv : Nat → Int) : Prop := (mN m0 + 1 ≤ mN m ∧ mN m ≤ mN m0 + 476 ∧ mZ m ≤ mZ m0 + 28540) ∧ (∀ o, o < mN m0 → mT m o = mT m0 o) ∧ (∀ o k, o < mN m0 → ¬ (o = 13 ∧ k = 1) → o ≠ 14 → ¬ (o = 5 ∧ k = 3) → mI m o k = mI m0 o k) ∧ (∀ o k, o < mN m0 → o ≠ 4 → mR m o k = mR m0 o k) ∧ (mI m 13 1 = 0 ∧ mI m 5 3 = 0) ∧ (mT m (mN m0) = (20, 26) ∧ ∀ j, j < 26 → mI m (mN m0) j = wv j ∧ -1 ≤ wv j ∧ wv j ≤ 7) ∧ ∀ w, w < 26 → CdN 59 m 4 w (cdO (wv w))
set_option maxHeartbeats 4000000 in
theorem L_cndL {F : Nat} {m0 : Mem} {at_ : Int} {post : Option AV → Mem → Prop} (ha : 0 ≤ at_ ∧ at_ ≤ 100) (hr : mN m0 + 500 ≤ NN ∧ mZ m0 + 29000 ≤ ZZ)
    (kx : ∀ m T ps wv, CdI m0 m 26 T ps wv → V μL_conditions (F + 22) m0 post 154 [(5, vi 26), (4, vr T), (3, vr (mN m0)), (0, vr 0), (1, vr SC), (2, vi at_)] [] m) : ∀ (dd : Nat) (m : Mem) (T : Nat) (ps : List (Nat × Nat)) (wv : Nat → Int) (i : Nat), dd + i = 26 → CdI m0 m i T ps wv → V μL_conditions (F + 22) m0 post 12 [(5, vi ((i : Nat) : Int)), (4, vr T), (3, vr (mN m0)), (0, vr 0), (1, vr SC), (2, vi at_)] [] m := by
  intro dd
  induction dd with
  | zero =>
    intro m T ps wv i hi hI
    obtain rfl : i = 26 := by omega
    refine V_ld (pc := 12) dL_conditions_12 (v := vi ((26 : Nat) : Int)) rfl rfl ?_
    refine V_bipush (pc := 14) dL_conditions_14 (by unfold I32; omega) (by decide) ?_
    refine V_icmp_ge (pc := 16) dL_conditions_16 (tgt := 154) rfl (fun h16 => ?_) (fun h16 => ?_)
    · skip
      exact kx m T ps wv hI
    · skip
      exfalso; omega
  | succ dd ih =>
    intro m T ps wv i hi hI
    have hI1 := hI.1
    have k64 : ∀ x y : Int, -1 ≤ y ∧ y ≤ 7 ∧ (3 ≤ i → y = -1) → V μL_conditions (F + 22) m0 post 64 [(5, vi ((i : Nat) : Int)), (4, vr T), (3, vr (mN m0)), (0, vr 0), (1, vr SC), (2, vi at_)] [] (setI (setI m (mN m0) i x) (mN m0) i y) := fun x y hy => by
      have hb : ∀ b, mT m b ≠ (20, 26) → b ≠ mN m0 := fun b h e => h (by rw [e]; exact hI1.2.1)
      have hy5 : mI (setI (setI m (mN m0) i x) (mN m0) i y) (mN m0) i = y := if_pos ⟨rfl, rfl⟩
      have hne : ∀ o k, ¬ (o = mN m0 ∧ k = i) → mI (setI (setI m (mN m0) i x) (mN m0) i y) o k = mI m o k := fun o k h => (if_neg h).trans (if_neg h)
      have hSt : StrO (setI (setI m (mN m0) i x) (mN m0) i y) (mN m) T (jnC ps) := by
        obtain ⟨a1, a2, a3, b, a4, a5, a6, a7⟩ := hI.2.1
        have n1 := hb T (by rw [a2]; intro e; cases e)
        have n2 := hb b (by rw [a6]; intro e; cases e)
        exact ⟨a1, a2, (hne _ _ (fun e => n1 e.1)).trans a3, b, a4, a5, a6, fun k x hx => (hne _ _ (fun e => n2 e.1)).trans (a7 k x hx)⟩
      have hl := hI.2.2.2.2.2.1
      have hl3 := hI.2.2.2.2.1
      refine L_cnd2 (F := F) (W := mN m0) (y := y) (tl := jnC ps) ⟨hI1.2.1, hy5, hSt⟩ (show mN m0 < mN m by omega) (by omega) ⟨hy.1, hy.2.1⟩ (by omega) ⟨show mN m + 20 ≤ NN by omega, show mZ m + 900 ≤ ZZ by omega⟩ fun m' T' q1 q2 q3 q4 => ?_
      have hs := hI.step (m1 := setI (setI m (mN m0) i x) (mN m0) i y) (by omega) hy ⟨rfl, rfl, fun _ => rfl, fun _ _ => rfl, hy5, hne⟩ (show mN m ≤ NN by omega) q1 q2 q3 q4
      refine V_iinc (pc := 148) dL_conditions_148 (x := ((i : Nat) : Int)) (ls' := [(5, vi (((i : Nat) : Int) + 1)), (4, vr T'), (3, vr (mN m0)), (0, vr 0), (1, vr SC), (2, vi at_)]) rfl (by unfold I32 at *; omega) (Nat.le_of_ble_eq_true rfl) rfl ?_
      refine V_goto (pc := 151) dL_conditions_151 (tgt := 12) rfl ?_
      skip
      have h_ := ih _ _ _ _ (i + 1) (by omega) hs
      rw [show ((i + 1 : Nat) : Int) = (i : Int) + 1 by omega] at h_
      exact h_
    refine V_ld (pc := 12) dL_conditions_12 (v := vi ((i : Nat) : Int)) rfl rfl ?_
    refine V_bipush (pc := 14) dL_conditions_14 (by unfold I32; omega) (by decide) ?_
    refine V_icmp_ge (pc := 16) dL_conditions_16 (tgt := 154) rfl (fun h16 => ?_) (fun h16 => ?_)
    · skip
      exfalso; omega
    · skip
      refine V_ld (pc := 19) dL_conditions_19 (v := vr (mN m0)) rfl rfl ?_
      refine V_ld (pc := 20) dL_conditions_20 (v := vi ((i : Nat) : Int)) rfl rfl ?_
      refine V_ld (pc := 22) dL_conditions_22 (v := vi ((i : Nat) : Int)) rfl rfl ?_
      refine V_iconst (pc := 24) dL_conditions_24 (by unfold I32; omega) ?_
      refine V_icmp_ge (pc := 25) dL_conditions_25 (tgt := 43) rfl (fun h25 => ?_) (fun h25 => ?_)
      · skip
        refine V_iconst (pc := 43) dL_conditions_43 (by unfold I32; omega) ?_
        refine V_iast (pc := 44) dL_conditions_44 hI1.2.1 (by omega) ?_
        refine V_ld (pc := 45) dL_conditions_45 (v := vr (mN m0)) rfl rfl ?_
        refine V_ld (pc := 46) dL_conditions_46 (v := vi ((i : Nat) : Int)) rfl rfl ?_
        refine V_ld (pc := 48) dL_conditions_48 (v := vr (mN m0)) rfl rfl ?_
        refine V_ld (pc := 49) dL_conditions_49 (v := vi ((i : Nat) : Int)) rfl rfl ?_
        refine V_ialdv (pc := 51) dL_conditions_51 (v := (-1)) hI1.2.1 (by omega) (by first | rfl | (simp only [mI_setI, up2]; repeat (first | rfl | rw [if_neg (by omega)] | rw [if_pos (by omega)]))) (fun g51 => ?_)
        refine V_if_ge (pc := 52) dL_conditions_52 (tgt := 59) rfl (fun h_ => absurd h_ (by decide)) (fun _ => ?_)
        refine V_iconst (pc := 55) dL_conditions_55 (by unfold I32; omega) ?_
        refine V_goto (pc := 56) dL_conditions_56 (tgt := 63) rfl ?_
        refine V_iast (pc := 63) dL_conditions_63 hI1.2.1 (by omega) ?_
        skip
        rw [Int.toNat_natCast]
        exact k64 (-1) (-1) (by omega)
      · skip
        refine V_ld (pc := 28) dL_conditions_28 (v := vr SC) rfl rfl ?_
        refine V_ld (pc := 29) dL_conditions_29 (v := vi at_) rfl rfl ?_
        refine V_ld (pc := 30) dL_conditions_30 (v := vi ((i : Nat) : Int)) rfl rfl ?_
        refine V_iadd (pc := 32) dL_conditions_32 (by unfold I32 at *; omega) ?_
        refine V_bipush (pc := 33) dL_conditions_33 (by unfold I32; omega) (by decide) ?_
        refine V_callS (pc := 35) dL_conditions_35 (F' := 1) (As := [vr SC, vi (at_ + ((i : Nat) : Int)), vi 10]) (st := [vi ((i : Nat) : Int), vr (mN m0)]) cw_RL_17 rfl rfl (Nat.le_of_ble_eq_true rfl) (by omega) (w_pick  m (at_ + ((i : Nat) : Int)) 10   (by omega)) ?_
        rintro _ _ ⟨x35, rfl, hx35, rfl⟩ ok35 le35
        refine V_iconst (pc := 38) dL_conditions_38 (by unfold I32; omega) ?_
        refine V_isub (pc := 39) dL_conditions_39 (by unfold I32 at *; omega) ?_
        refine V_goto (pc := 40) dL_conditions_40 (tgt := 44) rfl ?_
        refine V_iast (pc := 44) dL_conditions_44 hI1.2.1 (by omega) ?_
        refine V_ld (pc := 45) dL_conditions_45 (v := vr (mN m0)) rfl rfl ?_
        refine V_ld (pc := 46) dL_conditions_46 (v := vi ((i : Nat) : Int)) rfl rfl ?_
        refine V_ld (pc := 48) dL_conditions_48 (v := vr (mN m0)) rfl rfl ?_
        refine V_ld (pc := 49) dL_conditions_49 (v := vi ((i : Nat) : Int)) rfl rfl ?_
        refine V_ialdv (pc := 51) dL_conditions_51 (v := x35 - 2) hI1.2.1 (by omega) (by first | rfl | (simp only [mI_setI, up2]; repeat (first | rfl | rw [if_neg (by omega)] | rw [if_pos (by omega)]))) (fun g51 => ?_)
        refine V_if_ge (pc := 52) dL_conditions_52 (tgt := 59) rfl (fun h52 => ?_) (fun h52 => ?_)
        · skip
          refine V_ld (pc := 59) dL_conditions_59 (v := vr (mN m0)) rfl rfl ?_
          refine V_ld (pc := 60) dL_conditions_60 (v := vi ((i : Nat) : Int)) rfl rfl ?_
          refine V_ialdv (pc := 62) dL_conditions_62 (v := x35 - 2) hI1.2.1 (by omega) (by first | rfl | (simp only [mI_setI, up2]; repeat (first | rfl | rw [if_neg (by omega)] | rw [if_pos (by omega)]))) (fun g62 => ?_)
          refine V_iast (pc := 63) dL_conditions_63 hI1.2.1 (by omega) ?_
          skip
          rw [Int.toNat_natCast]
          exact k64 (x35 - 2) (x35 - 2) (by omega)
        · skip
          refine V_iconst (pc := 55) dL_conditions_55 (by unfold I32; omega) ?_
          refine V_goto (pc := 56) dL_conditions_56 (tgt := 63) rfl ?_
          refine V_iast (pc := 63) dL_conditions_63 hI1.2.1 (by omega) ?_
          skip
          rw [Int.toNat_natCast]
          exact k64 (x35 - 2) (-1) (by omega)

