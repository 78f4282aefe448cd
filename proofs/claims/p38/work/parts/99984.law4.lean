/-! THE LAW'S tell(), feed() -/
/-- while rows are told -/
def TlI (m0 : Mem) (I : Nat → Nat → Int) (r : Nat) (v : Nat → Nat → Int) : Prop := I 2 1 = (r : Int) ∧ (∀ k, k < r → I 3 (2 * k) = v k 0 ∧ I 3 (2 * k + 1) = v k 1) ∧ I 5 3 = 0 ∧ (∀ k, 2 * r ≤ k → I 3 k = mI m0 3 k) ∧ ∀ o k, ¬ (o = 2 ∧ k = 1) → o ≠ 3 → ¬ (o = 5 ∧ k = 3) → I o k = mI m0 o k
theorem TlI.rw {m0 : Mem} {I : Nat → Nat → Int} {r o n : Nat} {v v' : Nat → Nat → Int} (h : TlI m0 I r v') (hR : RwX m0 o n v) (ho : 30 ≤ o) : RwO (wI m0 I) o n v :=
  RwX.rwo (hR.fr (m' := wI m0 I) (Nat.le_refl _) fun q h1 h2 => ⟨rfl, fun k => h.2.2.2.2 q k (by omega) (by omega) (by omega), fun _ => rfl⟩)
theorem TlI.step {m0 : Mem} {I : Nat → Nat → Int} {r : Nat} {v : Nat → Nat → Int} (h : TlI m0 I r v) : TlI m0 (mI (_root_.Jvm.Pilot.@@N@@.setI (_root_.Jvm.Pilot.@@N@@.setI (_root_.Jvm.Pilot.@@N@@.setI (_root_.Jvm.Pilot.@@N@@.setI (wI m0 I) 2 1 (I 2 1 + 1)) 3 (I 2 1 * 2).toNat (v r 0)) 3 (I 2 1 * 2 + 1).toNat (v r 1)) 5 3 0)) (r + 1) v := by
  obtain ⟨h1, h2, h3, h5, h4⟩ := h
  rw [h1]
  refine ⟨?_, fun k hk => ⟨?_, ?_⟩, ?_, fun k hk => ?_, fun o k a1 a2 a3 => ?_⟩
  · rw [mI_set, if_neg (by omega), mI_set, if_neg (by omega), mI_set, if_neg (by omega), mI_set, if_pos ⟨rfl, rfl⟩]; omega
  · rw [mI_set, if_neg (by omega), mI_set, if_neg (by omega), mI_set]
    by_cases c : k = r
    · subst c; rw [if_pos (by omega)]
    · rw [if_neg (by omega), mI_set, if_neg (by omega)]; exact (h2 k (by omega)).1
  · rw [mI_set, if_neg (by omega), mI_set]
    by_cases c : k = r
    · subst c; rw [if_pos (by omega)]
    · rw [if_neg (by omega), mI_set, if_neg (by omega), mI_set, if_neg (by omega)]; exact (h2 k (by omega)).2
  · rw [mI_set, if_pos ⟨rfl, rfl⟩]
  · rw [mI_set, if_neg (by omega), mI_set, if_neg (by omega), mI_set, if_neg (by omega), mI_set, if_neg (by omega)]; exact h5 k (by omega)
  · rw [mI_set, if_neg (by omega), mI_set, if_neg (by omega), mI_set, if_neg (by omega), mI_set, if_neg (by omega)]; exact h4 o k a1 a2 a3
/-- while a text is fed -/
def FdI (m0 : Mem) (I : Nat → Nat → Int) (i : Nat) (l : List Int) : Prop := I 13 1 = (i : Int) ∧ (∀ k x, k < i → l[k]? = some x → I 14 k = x) ∧ ∀ o k, ¬ (o = 13 ∧ k = 1) → o ≠ 14 → I o k = mI m0 o k
theorem FdI.str {m0 : Mem} {I : Nat → Nat → Int} {i B o : Nat} {l w : List Int} (h : FdI m0 I i l) (hL : Lay (mT m0) (mR m0)) (hS : StrO m0 B o w) : StrO (wI m0 I) B o w := by
  obtain ⟨h1, h2, h3, b, h4, h5, h6, h7⟩ := hS
  have e14 := hL.t14
  have e13 := hL.t13
  have o13 : o ≠ 13 := fun e => by rw [e, e13] at h2; cases h2
  have o14 : o ≠ 14 := fun e => by rw [e, e14] at h2; cases h2
  have b13 : b ≠ 13 := fun e => by rw [e, e13] at h6; cases h6
  have b14 : b ≠ 14 := fun e => by rw [e, e14] at h6; cases h6
  exact ⟨h1, h2, (h.2.2 o 1 (fun e => o13 e.1) o14).trans h3, b, h4, h5, h6, fun k x hx => (h.2.2 b k (fun e => b13 e.1) b14).trans (h7 k x hx)⟩
theorem FdI.step {m0 : Mem} {I : Nat → Nat → Int} {i : Nat} {l : List Int} {y : Int} (h : FdI m0 I i l) (hy : l[i]? = some y) : FdI m0 (mI (_root_.Jvm.Pilot.@@N@@.setI (_root_.Jvm.Pilot.@@N@@.setI (wI m0 I) 14 (I 13 1).toNat y) 13 1 (I 13 1 + 1))) (i + 1) l := by
  obtain ⟨h1, h2, h3⟩ := h
  rw [h1]
  refine ⟨?_, fun k x hk hx => ?_, fun o k a1 a2 => ?_⟩
  · rw [mI_set, if_pos ⟨rfl, rfl⟩]; omega
  · rw [mI_set, if_neg (by omega), mI_set]
    by_cases c : k = i
    · subst c
      rw [if_pos (by omega)]
      rw [hy] at hx
      exact Option.some.inj hx
    · rw [if_neg (by omega)]; exact h2 k x (by omega) hx
  · rw [mI_set, if_neg a1, mI_set, if_neg (fun e => a2 e.1)]; exact h3 o k a1 a2

theorem w_len (B : Nat) (l : List Int) (m : Mem) (o : Nat)   (hS : StrO m B o l) (hl : l.length ≤ 5000) : Ct μJ0_length_8abf5 1 [vr o] m (ri fun x_ m' => (x_ = (l.length : Int)) ∧ m = m') := k_len hS hl
theorem w_at (B : Nat) (l : List Int) (k : Nat) (y : Int) (m : Mem) (o : Nat)   (hS : StrO m B o l) (hl : l.length ≤ 5000) (hk : l[k]? = some y ∧ 0 ≤ y ∧ y < 128) : Ct μJ0_charAt_5068e 3 [vr o, vi ((k : Nat) : Int)] m (ri fun x_ m' => (x_ = y) ∧ m = m') := k_at hS hl hk.1 hk.2
theorem w_row  (m : Mem) (a : Int) (b : Int)   (hL : Lay (mT m) (mR m)) (h13 : mR m 1 3 = some 5) (hz : 0 ≤ mI m 2 1 ∧ mI m 2 1 < 32) (hab : (-10 ≤ a ∧ a ≤ 1000) ∧ -10 ≤ b ∧ b ≤ 1000) : Ct μX10_row 3 [vr 0, vi a, vi b] m (ri fun x_ m' => (x_ = mI m 2 1) ∧ setI (setI (setI (setI m 2 1 (mI m 2 1 + 1)) 3 (mI m 2 1 * 2).toNat a) 3 (mI m 2 1 * 2 + 1).toNat b) 5 3 0 = m') := by
  refine Ct_mono (c_row m a b 5 hL (by omega) h13 hL.t5 (Or.inl rfl)) fun r m' hp => ?_
  obtain ⟨x, hx, h⟩ := hp
  rcases h with ⟨h, -⟩ | ⟨h, -⟩ | ⟨-, h1, h2⟩
  · exact absurd (show -999 ≤ a ∧ a ≤ 1000 ∧ -999 ≤ b ∧ b ≤ 1000 by omega) h
  · exfalso; omega
  · exact ⟨x, hx, h1, h2⟩
theorem w_feed1  (m : Mem) (a : Int)   (hL : Lay (mT m) (mR m)) (ht : 0 ≤ mI m 13 1 ∧ mI m 13 1 < 120) (ha : 1 ≤ a ∧ a ≤ 127) : Ct μX10_feed 1 [vr 0, vi a] m (ri fun x_ m' => (x_ = mI m 13 1 + 1) ∧ setI (setI m 14 (mI m 13 1).toNat a) 13 1 (mI m 13 1 + 1) = m') := by
  refine Ct_mono (c_feed m a hL (by omega)) fun r m' hp => ?_
  obtain ⟨x, hx, h⟩ := hp
  rcases h with ⟨h, -⟩ | ⟨h, -⟩ | ⟨-, h1, h2⟩
  · exact absurd ha h
  · exfalso; omega
  · exact ⟨x, hx, h1, h2⟩
set_option maxHeartbeats 4000000 in
theorem L_tellL {F : Nat} {m0 : Mem} {o n : Nat} {v : Nat → Nat → Int} {post : Option AV → Mem → Prop} (hL : Lay (mT m0) (mR m0)) (R_1_3 : mR m0 1 3 = some 5) (hX : RwX m0 o n v) (ho : 30 ≤ o) (kx : ∀ I, TlI m0 I n v → V μL_tell (F + 4) m0 post 44 [(3, vi ((n : Nat) : Int)), (2, vi 1), (0, vr 0), (1, vr o)] [] (wI m0 I)) : ∀ (dd : Nat) (I : Nat → Nat → Int) (i : Nat), dd + i = n → TlI m0 I i v → V μL_tell (F + 4) m0 post 4 [(3, vi ((i : Nat) : Int)), (2, vi 1), (0, vr 0), (1, vr o)] [] (wI m0 I) := by
  intro dd
  induction dd with
  | zero =>
    intro I i hi hI
    obtain rfl : n = i := by omega
    have hR := hI.rw hX ho
    have h7_ := hR.2.1
    refine V_ld (pc := 4) dL_tell_4 (v := vi ((n : Nat) : Int)) rfl rfl ?_
    refine V_ld (pc := 5) dL_tell_5 (v := vr o) rfl rfl ?_
    refine V_alenQ (pc := 6) dL_tell_6 hR.1 (by decide) (by omega) ?_
    refine V_icmp_ge (pc := 7) dL_tell_7 (tgt := 44) rfl (fun h7 => ?_) (fun h7 => ?_)
    · skip
      exact kx I hI
    · skip
      exfalso; omega
  | succ dd ih =>
    intro I i hi hI
    have hR := hI.rw hX ho
    have h7_ := hR.2.1
    have h1_ := hI.1
    refine V_ld (pc := 4) dL_tell_4 (v := vi ((i : Nat) : Int)) rfl rfl ?_
    refine V_ld (pc := 5) dL_tell_5 (v := vr o) rfl rfl ?_
    refine V_alenQ (pc := 6) dL_tell_6 hR.1 (by decide) (by omega) ?_
    refine V_icmp_ge (pc := 7) dL_tell_7 (tgt := 44) rfl (fun h7 => ?_) (fun h7 => ?_)
    · skip
      exfalso; omega
    · skip
      refine V_ld (pc := 10) dL_tell_10 (v := vi 1) rfl rfl ?_
      refine V_if_eq (pc := 11) dL_tell_11 (tgt := 36) rfl (fun h_ => absurd h_ (by decide)) (fun _ => ?_)
      refine V_ld (pc := 14) dL_tell_14 (v := vr 0) rfl rfl ?_
      refine V_ld (pc := 15) dL_tell_15 (v := vr o) rfl rfl ?_
      refine V_ld (pc := 16) dL_tell_16 (v := vi ((i : Nat) : Int)) rfl rfl ?_
      obtain ⟨q17, Rq17, Tq17, Vq17, Bq17⟩ := hR.row (r := ((i : Nat) : Int)) (by omega)
      refine V_aaldQ (pc := 17) dL_tell_17 (q := some q17) hR.1 (by decide) (by omega) Rq17 ?_
      refine V_iconst (pc := 18) dL_tell_18 (by unfold I32; omega) ?_
      refine V_ialdv (pc := 19) dL_tell_19 (v := v ((i : Nat) : Int).toNat 0) Tq17 (by omega) Vq17.1 (fun g19 => ?_)
      refine V_ld (pc := 20) dL_tell_20 (v := vr o) rfl rfl ?_
      refine V_ld (pc := 21) dL_tell_21 (v := vi ((i : Nat) : Int)) rfl rfl ?_
      obtain ⟨q22, Rq22, Tq22, Vq22, Bq22⟩ := hR.row (r := ((i : Nat) : Int)) (by omega)
      refine V_aaldQ (pc := 22) dL_tell_22 (q := some q22) hR.1 (by decide) (by omega) Rq22 ?_
      refine V_iconst (pc := 23) dL_tell_23 (by unfold I32; omega) ?_
      refine V_ialdv (pc := 24) dL_tell_24 (v := v ((i : Nat) : Int).toNat 1) Tq22 (by omega) Vq22.2 (fun g24 => ?_)
      refine V_callV (pc := 25) dL_tell_25 (F' := 3) (As := [vi (v ((i : Nat) : Int).toNat 0), vi (v ((i : Nat) : Int).toNat 1)]) (st := []) cw_RL_21 rfl rfl hL.t0 (by decide) (Nat.le_of_ble_eq_true rfl) (by omega) (w_row  (wI m0 I) (v ((i : Nat) : Int).toNat 0) (v ((i : Nat) : Int).toNat 1)   hL R_1_3 (by show 0 ≤ I 2 1 ∧ I 2 1 < 32; omega) ⟨Bq17.1, Bq17.2⟩) ?_
      rintro _ _ ⟨x25, rfl, hx25, rfl⟩ ok25 le25
      have x25_ : x25 = I 2 1 := hx25
      refine V_ld (pc := 28) dL_tell_28 (v := vi ((i : Nat) : Int)) rfl rfl ?_
      refine V_icmp_ne (pc := 29) dL_tell_29 (tgt := 36) rfl (fun h29 => ?_) (fun h29 => ?_)
      · skip
        refine V_iconst (pc := 36) dL_tell_36 (by unfold I32; omega) ?_
        refine V_st (pc := 37) dL_tell_37 (ls' := [(2, vi 0), (3, vi ((i : Nat) : Int)), (0, vr 0), (1, vr o)]) rfl (Nat.le_of_ble_eq_true rfl) rfl ?_
        refine V_iinc (pc := 38) dL_tell_38 (x := ((i : Nat) : Int)) (ls' := [(3, vi (((i : Nat) : Int) + 1)), (2, vi 0), (0, vr 0), (1, vr o)]) rfl (by unfold I32 at *; omega) (Nat.le_of_ble_eq_true rfl) rfl ?_
        refine V_goto (pc := 41) dL_tell_41 (tgt := 4) rfl ?_
        exfalso; omega
      · skip
        refine V_iconst (pc := 32) dL_tell_32 (by unfold I32; omega) ?_
        refine V_goto (pc := 33) dL_tell_33 (tgt := 37) rfl ?_
        refine V_st (pc := 37) dL_tell_37 (ls' := [(2, vi 1), (3, vi ((i : Nat) : Int)), (0, vr 0), (1, vr o)]) rfl (Nat.le_of_ble_eq_true rfl) rfl ?_
        refine V_iinc (pc := 38) dL_tell_38 (x := ((i : Nat) : Int)) (ls' := [(3, vi (((i : Nat) : Int) + 1)), (2, vi 1), (0, vr 0), (1, vr o)]) rfl (by unfold I32 at *; omega) (Nat.le_of_ble_eq_true rfl) rfl ?_
        refine V_goto (pc := 41) dL_tell_41 (tgt := 4) rfl ?_
        first | (exfalso; omega) | skip
        skip
        have h_ := ih _ (i + 1) (by omega) hI.step
        rw [show ((i + 1 : Nat) : Int) = (i : Int) + 1 by omega] at h_
        exact h_

set_option maxHeartbeats 4000000 in
theorem w_tell (n : Nat) (v : Nat → Nat → Int) (m : Mem) (o : Nat)   (hL : Lay (mT m) (mR m)) (R_1_3 : mR m 1 3 = some 5) (hX : RwX m o n v) (ho : 30 ≤ o) (hz : mI m 2 1 = 0 ∧ mI m 5 3 = 0) : Ct μL_tell 4 [vr 0, vr o] m (ri fun x_ m' => (x_ = 1) ∧ (∃ I, wI m I = m' ∧ TlI m I n v)) := by
  refine Ct_of_V rfl (by decide) rfl (Nat.le_of_ble_eq_true rfl) ?_
  show V μL_tell 4 m _ 0 [(0, vr 0), (1, vr o)] [] m
  refine V_iconst (pc := 0) dL_tell_0 (by unfold I32; omega) ?_
  refine V_st (pc := 1) dL_tell_1 (ls' := [(2, vi 1), (0, vr 0), (1, vr o)]) rfl (Nat.le_of_ble_eq_true rfl) rfl ?_
  refine V_iconst (pc := 2) dL_tell_2 (by unfold I32; omega) ?_
  refine V_st (pc := 3) dL_tell_3 (ls' := [(3, vi 0), (2, vi 1), (0, vr 0), (1, vr o)]) rfl (Nat.le_of_ble_eq_true rfl) rfl ?_
  skip
  refine V_mem (m' := wI m (mI m)) rfl ?_
  refine L_tellL (F := 0) hL R_1_3 hX ho (fun I hI => ?_) n _ 0 (by omega) ⟨hz.1, fun k hk => absurd hk (Nat.not_lt_zero _), hz.2, fun _ _ => rfl, fun _ _ _ _ _ => rfl⟩
  refine V_ld (pc := 44) dL_tell_44 (v := vi 1) rfl rfl ?_
  refine V_reti (pc := 45) dL_tell_45 (show _ = (0 : Int) ∨ _ = (1 : Int) from by first | exact Or.inl rfl | exact Or.inr rfl | omega) ?_
  exact ⟨rfl, I, rfl, hI⟩

set_option maxHeartbeats 4000000 in
theorem L_feedL {F : Nat} {m0 : Mem} {o B : Nat} {l : List Int} {post : Option AV → Mem → Prop} (hL : Lay (mT m0) (mR m0)) (hS : StrO m0 B o l) (hl : l.length ≤ 119 ∧ ∀ x ∈ l, 1 ≤ x ∧ x ≤ 127) (kx : ∀ I, FdI m0 I l.length l → V μL_feed (F + 4) m0 post 43 [(3, vi ((l.length : Nat) : Int)), (2, vi 1), (0, vr 0), (1, vr o)] [] (wI m0 I)) : ∀ (dd : Nat) (I : Nat → Nat → Int) (i : Nat), dd + i = l.length → FdI m0 I i l → V μL_feed (F + 4) m0 post 4 [(3, vi ((i : Nat) : Int)), (2, vi 1), (0, vr 0), (1, vr o)] [] (wI m0 I) := by
  intro dd
  induction dd with
  | zero =>
    intro I i hi hI
    obtain rfl : i = l.length := by omega
    have hS_ := hI.str hL hS
    refine V_ld (pc := 4) dL_feed_4 (v := vi ((l.length : Nat) : Int)) rfl rfl ?_
    refine V_ld (pc := 5) dL_feed_5 (v := vr o) rfl rfl ?_
    refine V_callVS (pc := 6) dL_feed_6 (F' := 1) (As := []) (st := [vi ((l.length : Nat) : Int)]) cw_RL_27 rfl rfl hS_.2.1 (Nat.le_of_ble_eq_true rfl) (by omega) (w_len B l (wI m0 I) o   hS_ (by omega)) ?_
    rintro _ _ ⟨x6, rfl, hx6, rfl⟩ ok6 le6
    subst hx6
    refine V_icmp_ge (pc := 9) dL_feed_9 (tgt := 43) rfl (fun h9 => ?_) (fun h9 => ?_)
    · skip
      exact kx I hI
    · skip
      exfalso; omega
  | succ dd ih =>
    intro I i hi hI
    have hS_ := hI.str hL hS
    have h1_ := hI.1
    obtain ⟨y_, hy_⟩ : ∃ y, l[i]? = some y ∧ 1 ≤ y ∧ y ≤ 127 := ⟨l[i]'(by omega), List.getElem?_eq_getElem (by omega), hl.2 _ (List.getElem_mem _)⟩
    refine V_ld (pc := 4) dL_feed_4 (v := vi ((i : Nat) : Int)) rfl rfl ?_
    refine V_ld (pc := 5) dL_feed_5 (v := vr o) rfl rfl ?_
    refine V_callVS (pc := 6) dL_feed_6 (F' := 1) (As := []) (st := [vi ((i : Nat) : Int)]) cw_RL_27 rfl rfl hS_.2.1 (Nat.le_of_ble_eq_true rfl) (by omega) (w_len B l (wI m0 I) o   hS_ (by omega)) ?_
    rintro _ _ ⟨x6, rfl, hx6, rfl⟩ ok6 le6
    subst hx6
    refine V_icmp_ge (pc := 9) dL_feed_9 (tgt := 43) rfl (fun h9 => ?_) (fun h9 => ?_)
    · skip
      exfalso; omega
    · skip
      refine V_ld (pc := 12) dL_feed_12 (v := vi 1) rfl rfl ?_
      refine V_if_eq (pc := 13) dL_feed_13 (tgt := 35) rfl (fun h_ => absurd h_ (by decide)) (fun _ => ?_)
      refine V_ld (pc := 16) dL_feed_16 (v := vr 0) rfl rfl ?_
      refine V_ld (pc := 17) dL_feed_17 (v := vr o) rfl rfl ?_
      refine V_ld (pc := 18) dL_feed_18 (v := vi ((i : Nat) : Int)) rfl rfl ?_
      refine V_callVS (pc := 19) dL_feed_19 (F' := 3) (As := [vi ((i : Nat) : Int)]) (st := [vr 0]) cw_RL_33 rfl rfl hS_.2.1 (Nat.le_of_ble_eq_true rfl) (by omega) (w_at B l i y_ (wI m0 I) o   hS_ (by omega) ⟨hy_.1, by omega, by omega⟩) ?_
      rintro _ _ ⟨x19, rfl, hx19, rfl⟩ ok19 le19
      refine V_callV (pc := 22) dL_feed_22 (F' := 1) (As := [vi x19]) (st := []) cw_RL_37 rfl rfl hL.t0 (by decide) (Nat.le_of_ble_eq_true rfl) (by omega) (w_feed1  (wI m0 I) x19   hL (by show 0 ≤ I 13 1 ∧ I 13 1 < 120; omega) (by rw [hx19]; exact hy_.2)) ?_
      rintro _ _ ⟨x22, rfl, hx22, rfl⟩ ok22 le22
      have x22_ : x22 = I 13 1 + 1 := hx22
      refine V_ld (pc := 25) dL_feed_25 (v := vi ((i : Nat) : Int)) rfl rfl ?_
      refine V_iconst (pc := 26) dL_feed_26 (by unfold I32; omega) ?_
      refine V_iadd (pc := 27) dL_feed_27 (by unfold I32 at *; omega) ?_
      refine V_icmp_ne (pc := 28) dL_feed_28 (tgt := 35) rfl (fun h28 => ?_) (fun h28 => ?_)
      · skip
        refine V_iconst (pc := 35) dL_feed_35 (by unfold I32; omega) ?_
        refine V_st (pc := 36) dL_feed_36 (ls' := [(2, vi 0), (3, vi ((i : Nat) : Int)), (0, vr 0), (1, vr o)]) rfl (Nat.le_of_ble_eq_true rfl) rfl ?_
        refine V_iinc (pc := 37) dL_feed_37 (x := ((i : Nat) : Int)) (ls' := [(3, vi (((i : Nat) : Int) + 1)), (2, vi 0), (0, vr 0), (1, vr o)]) rfl (by unfold I32 at *; omega) (Nat.le_of_ble_eq_true rfl) rfl ?_
        refine V_goto (pc := 40) dL_feed_40 (tgt := 4) rfl ?_
        exfalso; omega
      · skip
        refine V_iconst (pc := 31) dL_feed_31 (by unfold I32; omega) ?_
        refine V_goto (pc := 32) dL_feed_32 (tgt := 36) rfl ?_
        refine V_st (pc := 36) dL_feed_36 (ls' := [(2, vi 1), (3, vi ((i : Nat) : Int)), (0, vr 0), (1, vr o)]) rfl (Nat.le_of_ble_eq_true rfl) rfl ?_
        refine V_iinc (pc := 37) dL_feed_37 (x := ((i : Nat) : Int)) (ls' := [(3, vi (((i : Nat) : Int) + 1)), (2, vi 1), (0, vr 0), (1, vr o)]) rfl (by unfold I32 at *; omega) (Nat.le_of_ble_eq_true rfl) rfl ?_
        refine V_goto (pc := 40) dL_feed_40 (tgt := 4) rfl ?_
        skip
        have h_ := ih _ (i + 1) (by omega) (hI.step (y := x19) (by rw [hx19]; exact hy_.1))
        rw [show ((i + 1 : Nat) : Int) = (i : Int) + 1 by omega] at h_
        exact h_

set_option maxHeartbeats 4000000 in
theorem w_feed (B : Nat) (l : List Int) (m : Mem) (o : Nat)   (hL : Lay (mT m) (mR m)) (hS : StrO m B o l) (hl : l.length ≤ 119 ∧ ∀ x ∈ l, 1 ≤ x ∧ x ≤ 127) (hz : mI m 13 1 = 0) : Ct μL_feed 4 [vr 0, vr o] m (ri fun x_ m' => (x_ = 1) ∧ (∃ I, wI m I = m' ∧ FdI m I l.length l)) := by
  refine Ct_of_V rfl (by decide) rfl (Nat.le_of_ble_eq_true rfl) ?_
  show V μL_feed 4 m _ 0 [(0, vr 0), (1, vr o)] [] m
  refine V_iconst (pc := 0) dL_feed_0 (by unfold I32; omega) ?_
  refine V_st (pc := 1) dL_feed_1 (ls' := [(2, vi 1), (0, vr 0), (1, vr o)]) rfl (Nat.le_of_ble_eq_true rfl) rfl ?_
  refine V_iconst (pc := 2) dL_feed_2 (by unfold I32; omega) ?_
  refine V_st (pc := 3) dL_feed_3 (ls' := [(3, vi 0), (2, vi 1), (0, vr 0), (1, vr o)]) rfl (Nat.le_of_ble_eq_true rfl) rfl ?_
  skip
  refine V_mem (m' := wI m (mI m)) rfl ?_
  refine L_feedL (F := 0) hL hS hl (fun I hI => ?_) l.length _ 0 (by omega) ⟨hz, fun k x hk => absurd hk (Nat.not_lt_zero _), fun _ _ _ _ => rfl⟩
  refine V_ld (pc := 43) dL_feed_43 (v := vi 1) rfl rfl ?_
  refine V_reti (pc := 44) dL_feed_44 (show _ = (0 : Int) ∨ _ = (1 : Int) from by first | exact Or.inl rfl | exact Or.inr rfl | omega) ?_
  exact ⟨rfl, I, rfl, hI⟩

