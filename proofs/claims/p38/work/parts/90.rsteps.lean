/-! the reference's steps: what they leave -/
section ROS
variable {I0 I : Nat → Nat → Int} {F : Tb} {c : Nat} {n may : Int} {hc : Nat → CEnv → Int} {cl : Nat → Int} {J : SJ}
theorem RO.cm {k bh : Int} (h : RZ I0 I F J) (h44 : I 30 44 = 0) (h45 : I 30 45 = 0) (hk : k = J.1 7) (hb : bh = J.1 8) : RO I0 (up2 (up2 I 30 46 k) 30 47 bh) F (0, J) :=
  Or.inr ⟨show (0 : Int) ≠ 3 by decide, (h.s4 (by omega)).s4 (by omega), (up2_nk (by decide)).trans ((up2_nk (by decide)).trans h44), Or.inl ⟨rfl, (up2_nk (by decide)).trans ((up2_nk (by decide)).trans h45), (up2_nk (by decide)).trans (up2_s.trans hk), up2_s.trans hb⟩⟩
theorem RO.dn {bh : Int} (h : RZ I0 I F J) (h44 : I 30 44 = 0) (h45 : I 30 45 = 0) (hb : bh = J.1 8) : RO I0 (up2 (up2 I 30 46 (-1)) 30 47 bh) F (1, J) :=
  Or.inr ⟨show (1 : Int) ≠ 3 by decide, (h.s4 (by omega)).s4 (by omega), (up2_nk (by decide)).trans ((up2_nk (by decide)).trans h44), Or.inr (Or.inl ⟨rfl, (up2_nk (by decide)).trans ((up2_nk (by decide)).trans h45), (up2_nk (by decide)).trans up2_s, up2_s.trans hb⟩)⟩
theorem RO.fl (h : RZ I0 I F J) (h44 : I 30 44 = 0) : RO I0 (up2 I 30 45 1) F (2, J) :=
  Or.inr ⟨show (2 : Int) ≠ 3 by decide, h.s4 (by omega), (up2_nk (by decide)).trans h44, Or.inr (Or.inr ⟨rfl, up2_s⟩)⟩
theorem RO.fd {a b : Int} (h : RZ I0 I F J) (h44 : I 30 44 = 0) (h45 : I 30 45 = 1) : RO I0 (up2 (up2 I 30 46 a) 30 47 b) F (2, J) :=
  Or.inr ⟨show (2 : Int) ≠ 3 by decide, (h.s4 (by omega)).s4 (by omega), (up2_nk (by decide)).trans ((up2_nk (by decide)).trans h44), Or.inr (Or.inr ⟨rfl, (up2_nk (by decide)).trans ((up2_nk (by decide)).trans h45)⟩)⟩
theorem RO.ov (h : RZ I0 I F J) : RO I0 (up2 I 30 44 1) F (3, tryJ J) := Or.inl ⟨rfl, up2_s, (h.s4 (k := 44) (v := 1) (by omega)).1⟩
theorem RZ.s40 {v : Int} (h : RZ I0 I F J) (hv : v = J.1 9) : RZ I0 (up2 I 30 40 v) F J := by
  have h2 := h.set (q := 40) (k := 9) (v := v) (Or.inl ⟨rfl, rfl⟩)
  have e : ∀ k, (setS J 9 v).1 k = J.1 k := fun k => by
    by_cases hk : k = 9
    · subst hk
      show up1 J.1 9 v 9 = J.1 9
      unfold up1
      rw [if_pos rfl]; exact hv
    · exact if_neg hk
  obtain ⟨a, b, f, g⟩ := h2
  refine ⟨a, ?_, fun i hi => f i (by rw [e]; exact hi), fun j hj => g j (by rw [e]; exact hj)⟩
  unfold RZs at b
  simp only [e] at b
  exact b
theorem RZ.hold {I' : Nat → Nat → Int} {w : Int} (h : RZ I0 I F J) (hF : RFh (J.1 9) I I') (hw : I' 45 (J.1 9).toNat = w) (hl : I' 30 27 = 0 ∨ I' 30 27 = 1) : RZ I0 I' F (setL J (J.1 9).toNat w) := by
  obtain ⟨⟨a1, a2, a3⟩, b, f, g⟩ := h
  have e : ∀ k, k ≠ 6 → k ≠ 7 → k ≠ 8 → k ≠ 24 → k ≠ 25 → k ≠ 26 → k ≠ 27 → I' 30 k = I 30 k := fun k h1 h2 h3 h4 h5 h6 h7 => hF 30 k (by decide) (by omega) (by omega)
  have e' : ∀ o k, 49 ≤ o → I' o k = I o k := fun o k h1 => hF o k (by omega) (by omega) (by omega)
  refine ⟨⟨fun o k h1 h2 h3 h4 => (hF o k h1 (by omega) (by omega)).trans (a1 o k h1 h2 h3 h4), fun k => ?_, hl⟩, ?_, fun i hi => ?_, fun j hj => ?_⟩
  · show I' 45 k = up1 J.2.1 (J.1 9).toNat w k
    by_cases hk : k = (J.1 9).toNat
    · subst hk; exact hw.trans (if_pos rfl).symm
    · exact (hF 45 k (by decide) (by omega) (by omega)).trans ((a2 k).trans (if_neg hk).symm)
  · unfold RZs
    rw [e 33 (by decide) (by decide) (by decide) (by decide) (by decide) (by decide) (by decide), e 38 (by decide) (by decide) (by decide) (by decide) (by decide) (by decide) (by decide), e 48 (by decide) (by decide) (by decide) (by decide) (by decide) (by decide) (by decide), e 40 (by decide) (by decide) (by decide) (by decide) (by decide) (by decide) (by decide), e 39 (by decide) (by decide) (by decide) (by decide) (by decide) (by decide) (by decide), e 41 (by decide) (by decide) (by decide) (by decide) (by decide) (by decide) (by decide), e 42 (by decide) (by decide) (by decide) (by decide) (by decide) (by decide) (by decide), e 43 (by decide) (by decide) (by decide) (by decide) (by decide) (by decide) (by decide)]
    exact b
  · rw [e' 50 _ (by decide), e' 49 _ (by decide)]; exact f i hi
  · rw [e' 51 _ (by decide), e' 52 _ (by decide), e' 53 _ (by decide), e' 54 _ (by decide)]; exact g j hj
theorem envH_J {w : Int} (hS : RB I0 F c n may hc cl) (h : RZ I0 I F J) : envH I (J.1 6) (J.1 9) w = envJ (setL J (J.1 9).toNat w) n cl := by
  have e1 : (fun k => up2 I 45 (J.1 9).toNat w 45 k) = up1 J.2.1 (J.1 9).toNat w := funext fun k => by
    unfold up1
    by_cases hk : k = (J.1 9).toNat
    · subst hk; rw [up2_s, if_pos rfl]
    · rw [up2_nk hk, if_neg hk]; exact h.1.2.1 k
  have e2 : (fun k => I 31 k) = cl := funext fun k => (h.1.1 31 k (by decide) (by decide) (by omega) (by omega)).trans (hS.2.2.1.1 k)
  unfold envH envJ
  rw [e1, e2, RFz.gn hS h.1.1]
  rfl
def repT (F : Tb) (may : Int) (J : SJ) (k b : Int) : Int × SJ := if may < J.1 10 + 1 then (3, tryJ J) else repA F (tryJ J) k b
def ordT (F : Tb) (may : Int) (J : SJ) (d : Int) : Int × SJ := if may < J.1 10 + 1 then (3, tryJ J) else ordA F (tryJ J) d 0
theorem repT_o {k b : Int} (h : may < J.1 10 + 1) : repT F may J k b = (3, tryJ J) := if_pos h
theorem repT_t {k b : Int} (h : ¬ may < J.1 10 + 1) : repT F may J k b = repA F (tryJ J) k b := if_neg h
theorem repT_b {k b : Int} (h : ¬ may < J.1 10 + 1) (h1 : F (J.1 7).toNat 3 < k ∧ J.1 9 = b) : repT F may J k b = (2, tryJ J) := (if_neg h).trans (if_pos h1)
theorem repT_l {k b : Int} (h : ¬ may < J.1 10 + 1) (h1 : ¬ (F (J.1 7).toNat 3 < k ∧ J.1 9 = b)) (h2 : k < F (J.1 7).toNat 3) : repT F may J k b = onceA F (tryJ J) k := (if_neg h).trans ((if_neg h1).trans (if_pos h2))
theorem repT_d {k b : Int} (h : ¬ may < J.1 10 + 1) (h1 : ¬ (F (J.1 7).toNat 3 < k ∧ J.1 9 = b)) (h2 : ¬ k < F (J.1 7).toNat 3) (h3 : k = F (J.1 7).toNat 4 ∧ ¬ F (J.1 7).toNat 4 = 100) : repT F may J k b = (1, tryJ J) := (if_neg h).trans ((if_neg h1).trans ((if_neg h2).trans (if_pos h3)))
theorem repT_m {k b : Int} (h : ¬ may < J.1 10 + 1) (h1 : ¬ (F (J.1 7).toNat 3 < k ∧ J.1 9 = b)) (h2 : ¬ k < F (J.1 7).toNat 3) (h3 : ¬ (k = F (J.1 7).toNat 4 ∧ ¬ F (J.1 7).toNat 4 = 100)) (h4 : F (J.1 7).toNat 5 = 1) : repT F may J k b = onceA F (pushO (tryJ J) k) k := (if_neg h).trans ((if_neg h1).trans ((if_neg h2).trans ((if_neg h3).trans (if_pos h4))))
theorem repT_s {k b : Int} (h : ¬ may < J.1 10 + 1) (h1 : ¬ (F (J.1 7).toNat 3 < k ∧ J.1 9 = b)) (h2 : ¬ k < F (J.1 7).toNat 3) (h3 : ¬ (k = F (J.1 7).toNat 4 ∧ ¬ F (J.1 7).toNat 4 = 100)) (h4 : ¬ F (J.1 7).toNat 5 = 1) : repT F may J k b = (1, pushO (tryJ J) k) := (if_neg h).trans ((if_neg h1).trans ((if_neg h2).trans ((if_neg h3).trans (if_neg h4))))
theorem ordT_o {d : Int} (h : may < J.1 10 + 1) : ordT F may J d = (3, tryJ J) := if_pos h
theorem ordT_d {d : Int} (h : ¬ may < J.1 10 + 1) (h1 : F (J.1 7).toNat 2 ≤ ndA d 0 (F (J.1 7).toNat 2)) : ordT F may J d = (1, tryJ J) := (if_neg h).trans (if_pos h1)
theorem ordT_t {d : Int} (h : ¬ may < J.1 10 + 1) : ordT F may J d = ordA F (tryJ J) d 0 := if_neg h
theorem comeA_5 (h : F (J.1 7).toNat 0 = 5) : comeA F n may hc cl J = repT F may J 0 (-1) := by
  unfold comeA repT
  rw [if_neg (by omega)]
  by_cases c1 : may < J.1 10 + 1
  · rw [if_pos c1, if_pos c1]
  · rw [if_neg c1, if_neg c1]; exact cm2_5 (J := tryJ J) h
theorem comeA_6 (h : F (J.1 7).toNat 0 = 6) : comeA F n may hc cl J = ordT F may J 0 := by
  unfold comeA ordT
  rw [if_neg (by omega)]
  by_cases c1 : may < J.1 10 + 1
  · rw [if_pos c1, if_pos c1]
  · rw [if_neg c1, if_neg c1]; exact cm2_6 (J := tryJ J) h
theorem goOn_5 (h : F (J.2.2.1 (J.1 8).toNat 0).toNat 0 = 5) : goOnA F may J = repT F may (popF J) (J.2.2.1 (J.1 8).toNat 2) (J.2.2.1 (J.1 8).toNat 3) := by
  unfold goOnA
  rw [if_neg (by omega)]
  by_cases c1 : may < J.1 10 + 1
  · rw [if_pos c1]; exact (repT_o (J := popF J) c1).symm
  · rw [if_neg c1, repT_t (J := popF J) c1]; exact if_pos h
theorem goOn_6 (h : F (J.2.2.1 (J.1 8).toNat 0).toNat 0 = 6) : goOnA F may J = ordT F may (popF J) (J.2.2.1 (J.1 8).toNat 2) := by
  unfold goOnA
  rw [if_neg (by omega)]
  by_cases c1 : may < J.1 10 + 1
  · rw [if_pos c1]; exact (ordT_o (J := popF J) c1).symm
  · rw [if_neg c1, ordT_t (J := popF J) c1]; exact if_neg (show ¬ F (J.2.2.1 (J.1 8).toNat 0).toNat 0 = 5 by omega)
theorem ordA_y {d r x : Int} (hx : ndA d r (F (J.1 7).toNat 2) = x) (h1 : x < F (J.1 7).toNat 2) (h2 : ndA d (x + 1) (F (J.1 7).toNat 2) < F (J.1 7).toNat 2) : ordA F J d r = (0, setS (pushF F (pushO J (d * 8 + ndA d (x + 1) (F (J.1 7).toNat 2))) (or32 d (shl32 1 x))) 7 (kidN F (J.1 7) x.toNat)) := by
  unfold ordA ordP
  rw [hx, if_neg (by omega), if_pos h2]
theorem ordA_n {d r x : Int} (hx : ndA d r (F (J.1 7).toNat 2) = x) (h1 : x < F (J.1 7).toNat 2) (h2 : ¬ ndA d (x + 1) (F (J.1 7).toNat 2) < F (J.1 7).toNat 2) : ordA F J d r = (0, setS (pushF F J (or32 d (shl32 1 x))) 7 (kidN F (J.1 7) x.toNat)) := by
  unfold ordA ordP
  rw [hx, if_neg (by omega), if_neg h2]
theorem LfR.o {p far x : Int} (h : F p.toNat 0 ≠ 6) (hx : x = far) : LfR F p far x := by unfold LfR; rw [if_neg h]; exact hx
theorem LfR.a {p d x : Int} (h : F p.toNat 0 = 6) (hd : 0 ≤ d ∧ d < 16) (hx : 0 ≤ x ∧ x < F p.toNat 2) (h4 : F p.toNat 2 ≤ 4) (hn : ndA d (x + 1) (F p.toNat 2) < F p.toNat 2) : LfR F p (d * 8 + ndA d (x + 1) (F p.toNat 2)) (d * 8 + x + 1) := by
  have hb := ndA_b (d := d) (r := x + 1) (inn := F p.toNat 2) (by omega)
  unfold LfR
  rw [if_pos h]
  refine ⟨by omega, by omega, by omega, by omega, ?_⟩
  rw [show (d * 8 + ndA d (x + 1) (F p.toNat 2)) / 8 = d from by omega, show (d * 8 + x + 1) % 8 = x + 1 from by omega, show (d * 8 + ndA d (x + 1) (F p.toNat 2)) % 8 = ndA d (x + 1) (F p.toNat 2) from by omega]
end ROS
