/-! the reference reads: parts -/
theorem RTab.mk {I I' : Nat → Nat → Int} {F : Tb} {c : Nat} {so le ki fi : Int} {g : Nat → Int} (h : RTab I F c) (h1 : ∀ a p, 35 ≤ a → a ≤ 43 → p < c → I' a p = I a p) (e0 : I' 35 c = so) (e1 : I' 36 c = le) (e2 : I' 40 c = ki) (e3 : I' 37 c = -5) (e4 : I' 38 c = -5) (e5 : I' 39 c = -5) (e6 : I' 43 c = -5) (e7 : I' 41 c = fi) (e8 : I' 42 c = -5) : RTab I' (mkT F c so le ki fi g) (c + 1) := by
  intro p hp
  by_cases e : p = c
  · subst e
    unfold mkT
    simp [e0, e1, e2, e3, e4, e5, e6, e7, e8]
  · obtain ⟨a0, a1, a2, a3, a4, a5, a6, a7, a8⟩ := h p (by omega)
    rw [mkT_ne e, mkT_ne e, mkT_ne e, mkT_ne e, mkT_ne e, mkT_ne e, mkT_ne e, mkT_ne e, mkT_ne e]
    refine ⟨?_, ?_, ?_, ?_, ?_, ?_, ?_, ?_, ?_⟩ <;> rw [h1 _ p (by decide) (by decide) (by omega)] <;> assumption
theorem RTab.w6 {I : Nat → Nat → Int} {G : Tb} {c k : Nat} {v : Int} (h : RTab I G c) : RTab (up2 I 43 k v) (up2 G k 6 v) c := by
  intro p hp
  obtain ⟨a0, a1, a2, a3, a4, a5, a6, a7, a8⟩ := h p hp
  refine ⟨?_, ?_, ?_, ?_, ?_, ?_, ?_, ?_, ?_⟩
  · exact a0.trans (up2_nk (by decide)).symm
  · exact a1.trans (up2_nk (by decide)).symm
  · exact a2.trans (up2_nk (by decide)).symm
  · exact a3.trans (up2_nk (by decide)).symm
  · exact a4.trans (up2_nk (by decide)).symm
  · exact a5.trans (up2_nk (by decide)).symm
  · by_cases e : p = k
    · subst e; rw [up2_s, up2_s]
    · rw [up2_nk e, up2_no e]; exact a6
  · exact a7.trans (up2_nk (by decide)).symm
  · exact a8.trans (up2_nk (by decide)).symm
def colA (w : Nat) : Nat := if w = 0 then 35 else if w = 1 then 36 else if w = 2 then 40 else if w = 3 then 37 else if w = 4 then 38 else if w = 5 then 39 else if w = 6 then 43 else if w = 7 then 41 else 42
theorem RTab.at {I : Nat → Nat → Int} {G : Tb} {c : Nat} (h : RTab I G c) {p w : Nat} (hp : p < c) (hw : w < 9) : I (colA w) p = G p w := by
  obtain ⟨a0, a1, a2, a3, a4, a5, a6, a7, a8⟩ := h p hp
  have e : w = 0 ∨ w = 1 ∨ w = 2 ∨ w = 3 ∨ w = 4 ∨ w = 5 ∨ w = 6 ∨ w = 7 ∨ w = 8 := by omega
  rcases e with rfl | rfl | rfl | rfl | rfl | rfl | rfl | rfl | rfl <;> assumption
theorem RTab.of {I : Nat → Nat → Int} {G : Tb} {c : Nat} (h : ∀ p w, p < c → w < 9 → I (colA w) p = G p w) : RTab I G c := fun p hp =>
  ⟨h p 0 hp (by decide), h p 1 hp (by decide), h p 2 hp (by decide), h p 3 hp (by decide), h p 4 hp (by decide), h p 5 hp (by decide), h p 6 hp (by decide), h p 7 hp (by decide), h p 8 hp (by decide)⟩
/-- a write of one fact -/
theorem RTab.wr {I : Nat → Nat → Int} {G : Tb} {c k w : Nat} {v : Int} (h : RTab I G c) (hw : w < 9) : RTab (up2 I (colA w) k v) (up2 G k w v) c := by
  apply RTab.of
  intro p w' hp hw'
  have h0 := h.at hp hw'
  unfold up2
  by_cases e : p = k ∧ w' = w
  · obtain ⟨rfl, rfl⟩ := e
    rw [if_pos ⟨rfl, rfl⟩, if_pos ⟨rfl, rfl⟩]
  · rw [if_neg e, if_neg, h0]
    intro e2
    apply e
    refine ⟨e2.2, ?_⟩
    have e3 := e2.1
    have a1 : w = 0 ∨ w = 1 ∨ w = 2 ∨ w = 3 ∨ w = 4 ∨ w = 5 ∨ w = 6 ∨ w = 7 ∨ w = 8 := by omega
    have a2 : w' = 0 ∨ w' = 1 ∨ w' = 2 ∨ w' = 3 ∨ w' = 4 ∨ w' = 5 ∨ w' = 6 ∨ w' = 7 ∨ w' = 8 := by omega
    rcases a1 with rfl | rfl | rfl | rfl | rfl | rfl | rfl | rfl | rfl <;> rcases a2 with rfl | rfl | rfl | rfl | rfl | rfl | rfl | rfl | rfl <;> first | rfl | (exact absurd e3 (by decide))
theorem setI_w {m : Mem} {o k : Nat} {v : Int} : setI m o k v = wI m (up2 (mI m) o k v) := rfl
theorem wI_wI {m : Mem} {I J : Nat → Nat → Int} : wI (wI m I) J = wI m J := rfl
theorem mI_wI {m : Mem} {I : Nat → Nat → Int} : mI (wI m I) = I := rfl
/-- a chain of q parts, ending there -/
def chE (F : Tb) (hi : Int) : Nat → Int → Prop
  | 0, k => k = -5
  | q + 1, k => 0 ≤ k ∧ k < hi ∧ chE F hi q (F k.toNat 8)
theorem chE.congr {F G : Tb} {hi : Int} (h : ∀ p : Nat, G p 8 = F p 8) : ∀ {q : Nat} {k : Int}, chE F hi q k → chE G hi q k
  | 0, _, e => e
  | q + 1, k, e => ⟨e.1, e.2.1, by rw [h]; exact chE.congr h e.2.2⟩
theorem Pth.chE {F : Tb} {lo hi : Int} (h0 : 0 ≤ lo) : ∀ {q : Nat} {k l : Int}, Pth F lo hi q k l → F l.toNat 8 = -5 → chE F hi q k
  | 0, _, _, h, _ => h.elim
  | 1, k, l, h, e => by obtain ⟨rfl, h1, h2⟩ := h; exact ⟨by omega, h2, e⟩
  | q + 2, k, l, h, e => by
    obtain ⟨h1, h2, h3, h4⟩ := h
    exact ⟨by omega, h2, Pth.chE h0 h4 e⟩
theorem chE.mono {F : Tb} {hi hi' : Int} (h : hi ≤ hi') : ∀ {q : Nat} {k : Int}, chE F hi q k → chE F hi' q k
  | 0, _, e => e
  | q + 1, k, e => ⟨e.1, by have := e.2.1; omega, chE.mono h e.2.2⟩

def mkI (I : Nat → Nat → Int) (p : Nat) (o : Int) : Nat → Nat → Int := up2 (up2 (up2 (up2 (up2 (up2 (up2 (up2 (up2 (up2 I 35 p o) 36 p (-5)) 37 p (-5)) 38 p (-5)) 39 p (-5)) 40 p 0) 41 p (-5)) 42 p (-5)) 43 p (-5)) 30 9 ((p : Int) + 1)
theorem mkI_ne {I : Nat → Nat → Int} {p : Nat} {o : Int} (a q : Nat) (h : ¬ (35 ≤ a ∧ a ≤ 43 ∧ q = p)) (h2 : ¬ (a = 30 ∧ q = 9)) : mkI I p o a q = I a q := by
  unfold mkI up2
  rw [if_neg h2, if_neg (by omega), if_neg (by omega), if_neg (by omega), if_neg (by omega), if_neg (by omega), if_neg (by omega), if_neg (by omega), if_neg (by omega), if_neg (by omega)]
def MkP (I J : Nat → Nat → Int) (p : Nat) (o : Int) : Prop := (∀ a q, ¬ (35 ≤ a ∧ a ≤ 43 ∧ q = p) → ¬ (a = 30 ∧ q = 9) → J a q = I a q) ∧ J 35 p = o ∧ J 36 p = -5 ∧ J 37 p = -5 ∧ J 38 p = -5 ∧ J 39 p = -5 ∧ J 40 p = 0 ∧ J 41 p = -5 ∧ J 42 p = -5 ∧ J 43 p = -5 ∧ J 30 9 = (p : Int) + 1
theorem mkI_P (I : Nat → Nat → Int) (p : Nat) (o : Int) : MkP I (mkI I p o) p o := by
  refine ⟨mkI_ne, ?_, ?_, ?_, ?_, ?_, ?_, ?_, ?_, ?_, ?_⟩ <;> simp [mkI, up2]

set_option maxHeartbeats 4000000 in
theorem r_makes (p : Nat) (m : Mem) (o : Int)   (hL : Lay (mT m) (mR m)) (hp : mI m 30 9 = (p : Int) ∧ p < 250) : Ct μX11_makes 0 [vr 30, vi o] m (ri fun x_ m' => ∃ I_ : Nat → Nat → Int, wI m I_ = m' ∧ (x_ = (p : Int)) ∧ MkP (mI m) I_ p o) := by
  refine Ct_of_V rfl (by decide) rfl (Nat.le_of_ble_eq_true rfl) ?_
  show V μX11_makes 0 m _ 0 [(0, vr 30), (1, vi o)] [] m
  refine V_rg (k := 1) (x := o) rfl fun r_o => ?_
  refine V_ld (pc := 0) dX11_makes_0 (v := vr 30) rfl rfl ?_
  refine V_getIv (pc := 1) dX11_makes_1 (v := (p : Int)) fw_RX11_139 rfl hL.t30 hp.1 (fun g1 => ?_)
  refine V_st (pc := 4) dX11_makes_4 (ls' := [(2, vi (p : Int)), (0, vr 30), (1, vi o)]) rfl (Nat.le_of_ble_eq_true rfl) rfl ?_
  refine V_ld (pc := 5) dX11_makes_5 (v := vr 30) rfl rfl ?_
  refine V_getRv (pc := 6) dX11_makes_6 (o' := 35) fw_RX11_24 rfl hL.t30 hL.r30_10 ?_
  refine V_ld (pc := 9) dX11_makes_9 (v := vi (p : Int)) rfl rfl ?_
  refine V_ld (pc := 10) dX11_makes_10 (v := vi o) rfl rfl ?_
  refine V_iast (pc := 11) dX11_makes_11 hL.t35 (by omega) ?_
  refine V_ld (pc := 12) dX11_makes_12 (v := vr 30) rfl rfl ?_
  refine V_getRv (pc := 13) dX11_makes_13 (o' := 36) fw_RX11_27 rfl hL.t30 hL.r30_11 ?_
  refine V_ld (pc := 16) dX11_makes_16 (v := vi (p : Int)) rfl rfl ?_
  refine V_bipush (pc := 17) dX11_makes_17 (by unfold I32; omega) (by decide) ?_
  refine V_iast (pc := 19) dX11_makes_19 hL.t36 (by omega) ?_
  refine V_ld (pc := 20) dX11_makes_20 (v := vr 30) rfl rfl ?_
  refine V_getRv (pc := 21) dX11_makes_21 (o' := 37) fw_RX11_30 rfl hL.t30 hL.r30_12 ?_
  refine V_ld (pc := 24) dX11_makes_24 (v := vi (p : Int)) rfl rfl ?_
  refine V_bipush (pc := 25) dX11_makes_25 (by unfold I32; omega) (by decide) ?_
  refine V_iast (pc := 27) dX11_makes_27 hL.t37 (by omega) ?_
  refine V_ld (pc := 28) dX11_makes_28 (v := vr 30) rfl rfl ?_
  refine V_getRv (pc := 29) dX11_makes_29 (o' := 38) fw_RX11_33 rfl hL.t30 hL.r30_13 ?_
  refine V_ld (pc := 32) dX11_makes_32 (v := vi (p : Int)) rfl rfl ?_
  refine V_bipush (pc := 33) dX11_makes_33 (by unfold I32; omega) (by decide) ?_
  refine V_iast (pc := 35) dX11_makes_35 hL.t38 (by omega) ?_
  refine V_ld (pc := 36) dX11_makes_36 (v := vr 30) rfl rfl ?_
  refine V_getRv (pc := 37) dX11_makes_37 (o' := 39) fw_RX11_36 rfl hL.t30 hL.r30_14 ?_
  refine V_ld (pc := 40) dX11_makes_40 (v := vi (p : Int)) rfl rfl ?_
  refine V_bipush (pc := 41) dX11_makes_41 (by unfold I32; omega) (by decide) ?_
  refine V_iast (pc := 43) dX11_makes_43 hL.t39 (by omega) ?_
  refine V_ld (pc := 44) dX11_makes_44 (v := vr 30) rfl rfl ?_
  refine V_getRv (pc := 45) dX11_makes_45 (o' := 40) fw_RX11_39 rfl hL.t30 hL.r30_15 ?_
  refine V_ld (pc := 48) dX11_makes_48 (v := vi (p : Int)) rfl rfl ?_
  refine V_iconst (pc := 49) dX11_makes_49 (by unfold I32; omega) ?_
  refine V_iast (pc := 50) dX11_makes_50 hL.t40 (by omega) ?_
  refine V_ld (pc := 51) dX11_makes_51 (v := vr 30) rfl rfl ?_
  refine V_getRv (pc := 52) dX11_makes_52 (o' := 41) fw_RX11_42 rfl hL.t30 hL.r30_16 ?_
  refine V_ld (pc := 55) dX11_makes_55 (v := vi (p : Int)) rfl rfl ?_
  refine V_bipush (pc := 56) dX11_makes_56 (by unfold I32; omega) (by decide) ?_
  refine V_iast (pc := 58) dX11_makes_58 hL.t41 (by omega) ?_
  refine V_ld (pc := 59) dX11_makes_59 (v := vr 30) rfl rfl ?_
  refine V_getRv (pc := 60) dX11_makes_60 (o' := 42) fw_RX11_45 rfl hL.t30 hL.r30_17 ?_
  refine V_ld (pc := 63) dX11_makes_63 (v := vi (p : Int)) rfl rfl ?_
  refine V_bipush (pc := 64) dX11_makes_64 (by unfold I32; omega) (by decide) ?_
  refine V_iast (pc := 66) dX11_makes_66 hL.t42 (by omega) ?_
  refine V_ld (pc := 67) dX11_makes_67 (v := vr 30) rfl rfl ?_
  refine V_getRv (pc := 68) dX11_makes_68 (o' := 43) fw_RX11_48 rfl hL.t30 hL.r30_18 ?_
  refine V_ld (pc := 71) dX11_makes_71 (v := vi (p : Int)) rfl rfl ?_
  refine V_bipush (pc := 72) dX11_makes_72 (by unfold I32; omega) (by decide) ?_
  refine V_iast (pc := 74) dX11_makes_74 hL.t43 (by omega) ?_
  refine V_ld (pc := 75) dX11_makes_75 (v := vr 30) rfl rfl ?_
  refine V_dup (pc := 76) dX11_makes_76 rfl ?_
  refine V_getIv (pc := 77) dX11_makes_77 (v := (p : Int)) fw_RX11_139 rfl hL.t30 (by first | exact hp.1 | (simp only [mI_setI, up2]; repeat (first | exact hp.1 | rw [if_neg (by omega)]))) (fun g77 => ?_)
  refine V_iconst (pc := 80) dX11_makes_80 (by unfold I32; omega) ?_
  refine V_iadd (pc := 81) dX11_makes_81 (by unfold I32 at *; omega) ?_
  refine V_putI (pc := 82) dX11_makes_82 fw_RX11_139 rfl hL.t30 (Or.inl rfl) (Or.inl rfl) ?_
  refine V_ld (pc := 85) dX11_makes_85 (v := vi (p : Int)) rfl rfl ?_
  refine V_reti (pc := 86) dX11_makes_86 trivial ?_
  refine ⟨mkI (mI m) p o, ?_, rfl, mkI_P _ _ _⟩
  unfold mkI
  simp only [setI_w, wI_wI, mI_wI, Int.toNat_natCast]

theorem MkP.r {I J : Nat → Nat → Int} {p : Nat} {o : Int} (h : MkP I J p o) : RFr I J := fun a q h1 h2 => h.1 a q (by omega) (by omega)
theorem RTab.mkP {I J : Nat → Nat → Int} {F : Tb} {c : Nat} {o : Int} {g : Nat → Int} (h : RTab I F c) (hk : MkP I J c o) : RTab J (mkT F c o (-5) 0 (-5) g) (c + 1) := by
  obtain ⟨h1, e0, e1, e3, e4, e5, e2, e7, e8, e6, -⟩ := hk
  exact RTab.mk h (fun a p _ _ hp => h1 a p (by omega) (by omega)) e0 e1 e2 e3 e4 e5 e6 e7 e8

set_option maxHeartbeats 4000000 in
theorem L_round {F : Nat} {m0 m : Mem} {post : Option AV → Mem → Prop} {c : Nat} {o fr nn : Int} (hL : Lay (mT m) (mR m)) (hc : c < 250) : ∀ (q : Nat) (k : Int) (G : Tb) (I : Nat → Nat → Int), RTab I G (c + 1) → chE G (c : Int) q k → (∀ J k', RTab J (wiT q k c G) (c + 1) → (∀ a p, a ≠ 43 → J a p = I a p) → V μX11_round F m0 post 52 [(5, vi k'), (4, vi (c : Int)), (0, vr 30), (1, vi o), (2, vi fr), (3, vi nn)] [] (wI m J)) → V μX11_round F m0 post 26 [(5, vi k), (4, vi (c : Int)), (0, vr 30), (1, vi o), (2, vi fr), (3, vi nn)] [] (wI m I) := by
  intro q
  induction q with
  | zero =>
    intro k G I hT hch kx
    have hk : k = -5 := hch
    refine V_ld (pc := 26) dX11_round_26 (v := vi k) rfl rfl ?_
    refine V_if_lt (pc := 28) dX11_round_28 (tgt := 52) rfl (fun h28 => ?_) (fun h28 => ?_)
    · skip
      exact kx I k hT (fun _ _ _ => rfl)
    · skip
      exfalso; omega
  | succ q ih =>
    intro k G I hT hch kx
    obtain ⟨k0, k1, k2⟩ := hch
    refine V_ld (pc := 26) dX11_round_26 (v := vi k) rfl rfl ?_
    refine V_if_lt (pc := 28) dX11_round_28 (tgt := 52) rfl (fun h28 => ?_) (fun h28 => ?_)
    · skip
      exfalso; omega
    · skip
      refine V_ld (pc := 31) dX11_round_31 (v := vr 30) rfl rfl ?_
      refine V_getRv (pc := 32) dX11_round_32 (o' := 43) fw_RX11_48 rfl hL.t30 hL.r30_18 ?_
      refine V_ld (pc := 35) dX11_round_35 (v := vi k) rfl rfl ?_
      refine V_ld (pc := 37) dX11_round_37 (v := vi (c : Int)) rfl rfl ?_
      refine V_iast (pc := 39) dX11_round_39 hL.t43 (by omega) ?_
      refine V_ld (pc := 40) dX11_round_40 (v := vr 30) rfl rfl ?_
      refine V_getRv (pc := 41) dX11_round_41 (o' := 42) fw_RX11_45 rfl hL.t30 hL.r30_17 ?_
      refine V_ld (pc := 44) dX11_round_44 (v := vi k) rfl rfl ?_
      refine V_ialdv (pc := 46) dX11_round_46 (v := G k.toNat 8) hL.t42 (by omega) (by first | exact (hT k.toNat (by omega)).2.2.2.2.2.2.2.2 | (simp only [mI_setI, up2]; repeat (first | exact (hT k.toNat (by omega)).2.2.2.2.2.2.2.2 | rw [if_neg (by omega)]))) (fun g46 => ?_)
      refine V_st (pc := 47) dX11_round_47 (ls' := [(5, vi (G k.toNat 8)), (4, vi (c : Int)), (0, vr 30), (1, vi o), (2, vi fr), (3, vi nn)]) rfl (Nat.le_of_ble_eq_true rfl) rfl ?_
      refine V_goto (pc := 49) dX11_round_49 (tgt := 26) rfl ?_
      skip
      exact ih (G k.toNat 8) (up2 G k.toNat 6 (c : Int)) (up2 I 43 k.toNat (c : Int)) (RTab.w6 hT) (chE.congr (fun p => up2_nk (by decide)) k2) (fun J k' h1 h2 => kx J k' h1 (fun a p ha => (h2 a p ha).trans (up2_no ha)))

def RFp (I I' : Nat → Nat → Int) : Prop := ∀ o k, ¬ (35 ≤ o ∧ o ≤ 43) → ¬ (o = 30 ∧ k = 9) → I' o k = I o k
theorem RFp.r {I I' : Nat → Nat → Int} (h : RFp I I') : RFr I I' := fun o k a b => h o k a (by omega)

theorem chE.congr' {F : Tb} {c q : Nat} {k so le ki fi : Int} {g : Nat → Int} (h : chE F (c : Int) q k) : chE (mkT F c so le ki fi g) (c : Int) q k := by
  have key : ∀ (q : Nat) (k : Int), chE F (c : Int) q k → chE (mkT F c so le ki fi g) (c : Int) q k := by
    intro q
    induction q with
    | zero => intro k h; exact h
    | succ q ih =>
      intro k h
      refine ⟨h.1, h.2.1, ?_⟩
      have := h.2.1
      rw [mkT_ne (by have := h.1; omega)]
      exact ih _ h.2.2
  exact key q k h

set_option maxHeartbeats 4000000 in
theorem r_round (T : Tb) (c : Nat) (q : Nat) (g : Nat → Int) (m : Mem) (o : Int) (k : Int) (nn : Int)   (hL : Lay (mT m) (mR m)) (hp : mI m 30 9 = (c : Int) ∧ c < 250) (hT : RTab (mI m) T c) (hch : chE T (c : Int) q k) (hn : nn = (q : Int)) : Ct μX11_round 1 [vr 30, vi o, vi k, vi nn] m (ri fun x_ m' => ∃ I_ : Nat → Nat → Int, wI m I_ = m' ∧ (x_ = (c : Int)) ∧ RTab I_ (wiT q k c (mkT T c o (-5) (q : Int) k g)) (c + 1) ∧ I_ 30 9 = (c : Int) + 1 ∧ RFp (mI m) I_) := by
  refine Ct_of_V rfl (by decide) rfl (Nat.le_of_ble_eq_true rfl) ?_
  show V μX11_round 1 m _ 0 [(0, vr 30), (1, vi o), (2, vi k), (3, vi nn)] [] m
  refine V_rg (k := 1) (x := o) rfl fun r_o => ?_
  refine V_rg (k := 2) (x := k) rfl fun r_k => ?_
  refine V_rg (k := 3) (x := nn) rfl fun r_nn => ?_
  refine V_ld (pc := 0) dX11_round_0 (v := vr 30) rfl rfl ?_
  refine V_ld (pc := 1) dX11_round_1 (v := vi o) rfl rfl ?_
  refine V_callV (pc := 2) dX11_round_2 (F' := 0) (As := [vi o]) (st := []) cw_RX11_142 rfl rfl hL.t30 (by decide) (Nat.le_of_ble_eq_true rfl) (by omega) (r_makes c m o   (by first | assumption | omega) (by first | assumption | omega)) ?_
  rintro _ _ ⟨x2, rfl, Ix2, rfl, rfl, hK2⟩ ok2 le2
  refine V_st (pc := 5) dX11_round_5 (ls' := [(4, vi (c : Int)), (0, vr 30), (1, vi o), (2, vi k), (3, vi nn)]) rfl (Nat.le_of_ble_eq_true rfl) rfl ?_
  refine V_ld (pc := 7) dX11_round_7 (v := vr 30) rfl rfl ?_
  refine V_getRv (pc := 8) dX11_round_8 (o' := 40) fw_RX11_39 rfl hL.t30 hL.r30_15 ?_
  refine V_ld (pc := 11) dX11_round_11 (v := vi (c : Int)) rfl rfl ?_
  refine V_ld (pc := 13) dX11_round_13 (v := vi nn) rfl rfl ?_
  refine V_iast (pc := 14) dX11_round_14 hL.t40 (by omega) ?_
  refine V_ld (pc := 15) dX11_round_15 (v := vr 30) rfl rfl ?_
  refine V_getRv (pc := 16) dX11_round_16 (o' := 41) fw_RX11_42 rfl hL.t30 hL.r30_16 ?_
  refine V_ld (pc := 19) dX11_round_19 (v := vi (c : Int)) rfl rfl ?_
  refine V_ld (pc := 21) dX11_round_21 (v := vi k) rfl rfl ?_
  refine V_iast (pc := 22) dX11_round_22 hL.t41 (by omega) ?_
  refine V_ld (pc := 23) dX11_round_23 (v := vi k) rfl rfl ?_
  refine V_st (pc := 24) dX11_round_24 (ls' := [(5, vi k), (4, vi (c : Int)), (0, vr 30), (1, vi o), (2, vi k), (3, vi nn)]) rfl (Nat.le_of_ble_eq_true rfl) rfl ?_
  have hT1 := RTab.mkP (g := g) hT hK2
  have hT2 : RTab (up2 (up2 Ix2 40 c nn) 41 c k) (mkT T c o (-5) (q : Int) k g) (c + 1) := by
    obtain ⟨h1, e0, e1, e3, e4, e5, e2, e7, e8, e6, -⟩ := hK2
    refine RTab.mk hT (fun a p _ _ hp_ => ?_) ?_ ?_ ?_ ?_ ?_ ?_ ?_ ?_ ?_
    · rw [up2_nk (by omega), up2_nk (by omega)]; exact h1 a p (by omega) (by omega)
    · rw [up2_no (by decide), up2_no (by decide)]; exact e0
    · rw [up2_no (by decide), up2_no (by decide)]; exact e1
    · rw [up2_no (by decide), up2_s]; exact hn
    · rw [up2_no (by decide), up2_no (by decide)]; exact e3
    · rw [up2_no (by decide), up2_no (by decide)]; exact e4
    · rw [up2_no (by decide), up2_no (by decide)]; exact e5
    · rw [up2_no (by decide), up2_no (by decide)]; exact e6
    · rw [up2_s]
    · rw [up2_no (by decide), up2_no (by decide)]; exact e8
  refine V_mem (m' := wI m (up2 (up2 Ix2 40 c nn) 41 c k)) (by simp only [setI_w, wI_wI, mI_wI, Int.toNat_natCast]) ?_
  skip
  refine L_round (m := m) (c := c) (o := o) (fr := k) (nn := nn) hL hp.2 q k _ _ hT2 (chE.congr' hch) ?_
  intro J k' hJ hF
  refine V_ld (pc := 52) dX11_round_52 (v := vi (c : Int)) rfl rfl ?_
  refine V_reti (pc := 54) dX11_round_54 trivial ?_
  refine ⟨J, rfl, rfl, hJ, ?_, ?_⟩
  · rw [hF 30 9 (by decide), up2_no (by decide), up2_no (by decide)]; exact hK2.2.2.2.2.2.2.2.2.2.2
  · intro a p h1 h2
    rw [hF a p (by omega), up2_no (by omega), up2_no (by omega)]
    exact hK2.1 a p (by omega) h2
