/-! the reference reads: the levels of a pattern -/
theorem RP.leaf {I J : Nat → Nat → Int} {tx : Nat → Int} {n : Nat} {S : PS} {so le v : Int} (h : RP I tx n S) (h1 : S.1 = true) (hlt : S.2.1 < n) (hk : MkP I J S.2.2.1 so) (hv : v = (S.2.1 : Int) + 1) : RP (up2 (up2 J 36 S.2.2.1 le) 30 7 v) tx n (leafP S so le).2 := by
  obtain ⟨a1, a2, a3, a4, a5, a6, a7, a8, a9⟩ := h
  obtain ⟨h1', e0, e1, e3, e4, e5, e2, e7, e8, e6, e9⟩ := hk
  have a6' := a6 h1
  refine ⟨?_, ?_, ?_, ?_, ?_, fun _ => ?_, a7, fun k hk => ?_, ?_⟩
  · exact (h1' 30 6 (by omega) (by omega)).trans a1
  · show v = ((S.2.1 + 1 : Nat) : Int); omega
  · exact (h1' 30 8 (by omega) (by omega)).trans a3
  · show J 30 9 = ((S.2.2.1 + 1 : Nat) : Int); rw [e9]; rfl
  · show S.2.1 + 1 ≤ n; omega
  · show S.2.2.1 + 1 ≤ 2 * (S.2.1 + 1); omega
  · exact ⟨(h1' 34 k (by omega) (by omega)).trans (a8 k hk).1, (a8 k hk).2⟩
  · refine RTab.mk a9 (fun a p _ _ hp => ?_) ?_ ?_ ?_ ?_ ?_ ?_ ?_ ?_ ?_
    · rw [up2_no (by omega), up2_nk (by omega)]; exact h1' a p (by omega) (by omega)
    · rw [up2_no (by decide), up2_no (by decide)]; exact e0
    · rw [up2_no (by decide), up2_s]
    · rw [up2_no (by decide), up2_no (by decide)]; exact e2
    · rw [up2_no (by decide), up2_no (by decide)]; exact e3
    · rw [up2_no (by decide), up2_no (by decide)]; exact e4
    · rw [up2_no (by decide), up2_no (by decide)]; exact e5
    · rw [up2_no (by decide), up2_no (by decide)]; exact e6
    · rw [up2_no (by decide), up2_no (by decide)]; exact e7
    · rw [up2_no (by decide), up2_no (by decide)]; exact e8
theorem up2_id {I : Nat → Nat → Int} {o k : Nat} {v : Int} (h : I o k = v) : up2 I o k v = I := by
  funext a b
  unfold up2
  by_cases e : a = o ∧ b = k
  · obtain ⟨rfl, rfl⟩ := e; rw [if_pos ⟨rfl, rfl⟩, h]
  · rw [if_neg e]
theorem RP.leaf5 {I J : Nat → Nat → Int} {tx : Nat → Int} {n : Nat} {S : PS} {so v : Int} (h : RP I tx n S) (h1 : S.1 = true) (hlt : S.2.1 < n) (hk : MkP I J S.2.2.1 so) (hv : v = (S.2.1 : Int) + 1) : RP (up2 J 30 7 v) tx n (leafP S so (-5)).2 := by
  have := RP.leaf (le := -5) h h1 hlt hk hv
  rw [up2_id hk.2.2.1] at this
  exact this
theorem RP.lnk {I : Nat → Nat → Int} {tx : Nat → Int} {n : Nat} {S : PS} {l x : Int} (h : RP I tx n S) : RP (up2 I 42 l.toNat x) tx n (lnkP S l x) := by
  obtain ⟨a1, a2, a3, a4, a5, a6, a7, a8, a9⟩ := h
  exact ⟨a1, a2, a3, a4, a5, a6, a7, a8, RTab.wr (w := 8) a9 (by decide)⟩
theorem RP.rnd {I J : Nat → Nat → Int} {tx : Nat → Int} {n : Nat} {S : PS} {so k : Int} {q : Nat} (h : RP I tx n S) (hc : S.1 = true → S.2.2.1 + 1 ≤ 2 * S.2.1) (hT : RTab J (wiT q k S.2.2.1 (mkT S.2.2.2 S.2.2.1 so (-5) (q : Int) k (gT S.2.2.2 so k q))) (S.2.2.1 + 1)) (h9 : J 30 9 = (S.2.2.1 : Int) + 1) (hF : RFp I J) : RP J tx n (rndP S so k q).2 := by
  obtain ⟨a1, a2, a3, a4, a5, a6, a7, a8, a9⟩ := h
  exact ⟨(hF 30 6 (by omega) (by omega)).trans a1, (hF 30 7 (by omega) (by omega)).trans a2, (hF 30 8 (by omega) (by omega)).trans a3, h9, a5, hc, a7, fun k hk => ⟨(hF 34 k (by omega) (by omega)).trans (a8 k hk).1, (a8 k hk).2⟩, hT⟩
theorem RP.c240 {I : Nat → Nat → Int} {tx : Nat → Int} {n : Nat} {S : PS} (h : RP I tx n S) (h1 : S.1 = true) : S.2.2.1 ≤ 240 := by
  obtain ⟨a1, a2, a3, a4, a5, a6, a7, a8, a9⟩ := h
  have := a6 h1
  omega
theorem RP.wl {I : Nat → Nat → Int} {tx : Nat → Int} {n : Nat} {S : PS} (h : RP I tx n S) : (S.1 = true ∧ I 30 8 = 1) ∨ (S.1 = false ∧ I 30 8 = 0) := by
  have := h.2.2.1
  cases hS : S.1 with
  | true => rw [hS] at this; exact Or.inl ⟨rfl, this⟩
  | false => rw [hS] at this; exact Or.inr ⟨rfl, this⟩

theorem lst_ch {tx : Nat → Int} {n : Nat} {cond : Int → Nat → Prop} [∀ x q, Decidable (cond x q)] {g : PS → Int × PS} {vv : PS → PS} (hg : ∀ S, Nice n S (g S)) (hv : ∀ (U : PS) (q : Nat), cond (cS tx n U) q → U.1 = true ∧ U.2.1 ≤ (vv U).2.1 ∧ (vv U).2.1 ≤ n ∧ (vv U).2.2 = U.2.2) {S : PS} {R : Int × PS} (hR : Nice n S R) (hw : (lstP tx n cond (fun S => g (vv S)) R).2.1 = true) : chE (lstP tx n cond (fun S => g (vv S)) R).2.2.2.2 ((lstP tx n cond (fun S => g (vv S)) R).2.2.2.1 : Int) (lstP tx n cond (fun S => g (vv S)) R).1 R.1 := by
  obtain ⟨l', hl⟩ := (lpG_nice (tx := tx) (cond := cond) (g := g) (vv := vv) hg hv (n + 1) 1 _ _ (LpI.one hR)).2 hw
  obtain ⟨h1, h2, h3, h4, h5, h6, h7⟩ := hl.2 hw
  exact Pth.chE (by omega) h5 h6
theorem cAny_v {tx : Nat → Int} {n : Nat} (U : PS) (q : Nat) (hc : cAny (cS tx n U) q) : U.1 = true ∧ U.2.1 ≤ (advP U).2.1 ∧ (advP U).2.1 ≤ n ∧ (advP U).2.2 = U.2.2 := by
  have := cS_lt (tx := tx) (n := n) (S := U) (by unfold cAny at hc; omega)
  exact ⟨this.1, Nat.le_succ _, this.2, rfl⟩
theorem cAlt_v {tx : Nat → Int} {n : Nat} (U : PS) (q : Nat) (hc : cAlt (cS tx n U) q) : U.1 = true ∧ U.2.1 ≤ (advP U).2.1 ∧ (advP U).2.1 ≤ n ∧ (advP U).2.2 = U.2.2 := by
  have := cS_lt (tx := tx) (n := n) (S := U) (by unfold cAlt at hc; omega)
  exact ⟨this.1, Nat.le_succ _, this.2, rfl⟩
theorem cSer_v {tx : Nat → Int} {n : Nat} (U : PS) (q : Nat) (hc : cSer (cS tx n U) q) : U.1 = true ∧ U.2.1 ≤ (id U).2.1 ∧ (id U).2.1 ≤ n ∧ (id U).2.2 = U.2.2 := by
  have := cS_lt (tx := tx) (n := n) (S := U) (by unfold cSer isAt1 at hc; omega)
  exact ⟨this.1, Nat.le_refl _, Nat.le_of_lt this.2, rfl⟩

theorem RPrd {I : Nat → Nat → Int} {tx : Nat → Int} {n : Nat} {S : PS} (h : RP I tx n S) (h1 : S.1 = true) (h2 : S.2.1 < n) : I 34 S.2.1 = cS tx n S := by
  have := (h.2.2.2.2.2.2.2.1 _ h2).1
  rw [this]
  unfold cS chT
  rw [if_pos h1, if_pos h2]
theorem subL_pos {tx : Nat → Int} {n k : Nat} (h : 0 < k) : subL tx n k = altL tx n (k - 1) := by
  cases k with
  | zero => omega
  | succ k => rfl

theorem RP.same {I : Nat → Nat → Int} {tx : Nat → Int} {n : Nat} {S : PS} {v : Int} (h : RP I tx n S) (hv : v = (S.2.1 : Int)) : RP (up2 I 30 7 v) tx n S := by
  rw [up2_id (h.2.1.trans hv.symm)]; exact h
theorem RP.times {I : Nat → Nat → Int} {tx : Nat → Int} {n : Nat} {S : PS} {a lo hi mo : Int} (h : RP I tx n (rndP S 5 a 1).2) : RP (up2 (up2 (up2 I 37 S.2.2.1 lo) 38 S.2.2.1 hi) 39 S.2.2.1 mo) tx n (timesP S a lo hi mo).2 := by
  obtain ⟨a1, a2, a3, a4, a5, a6, a7, a8, a9⟩ := h
  refine ⟨a1, a2, a3, a4, a5, a6, a7, a8, ?_⟩
  have w11 : ∀ v, RTab I (up2 (rndP S 5 a 1).2.2.2.2 S.2.2.1 11 v) (rndP S 5 a 1).2.2.2.1 := fun v => by
    apply RTab.of
    intro p w hp hw
    rw [up2_nk (by omega)]
    exact a9.at hp hw
  exact RTab.wr (w := 5) (RTab.wr (w := 4) (RTab.wr (w := 3) (w11 _) (by decide)) (by decide)) (by decide)

