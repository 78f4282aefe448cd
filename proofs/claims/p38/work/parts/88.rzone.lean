/-! THE SEARCH in the reference's memory: I0 at its start, I now -/
def RFz (I0 I : Nat → Nat → Int) : Prop := ∀ o k, o ≠ 34 → o ≠ 45 → ¬ (49 ≤ o ∧ o ≤ 54) → ¬ (o = 30 ∧ (k = 6 ∨ k = 7 ∨ k = 8 ∨ k = 24 ∨ k = 25 ∨ k = 26 ∨ k = 27 ∨ k = 33 ∨ (38 ≤ k ∧ k ≤ 48))) → I o k = I0 o k
def RZ0 (I0 I : Nat → Nat → Int) (J : SJ) : Prop := RFz I0 I ∧ (∀ k, I 45 k = J.2.1 k) ∧ (I 30 27 = 0 ∨ I 30 27 = 1)
def RZs (I : Nat → Nat → Int) (J : SJ) : Prop := I 30 33 = J.1 3 ∧ I 30 38 = J.1 5 ∧ I 30 48 = J.1 6 ∧ I 30 40 = J.1 9 ∧ I 30 39 = J.1 10 ∧ I 30 41 = J.1 11 ∧ (J.1 11 = 0 → I 30 42 = -5 ∧ I 30 43 = -5 ∧ J.1 13 = 0) ∧ (J.1 11 ≠ 0 → I 30 42 = J.1 12 ∧ I 30 43 = J.1 13)
def FrR (F : Tb) (I : Nat → Nat → Int) (J : SJ) : Prop := ∀ i : Nat, (i : Int) < J.1 3 → I 50 i = J.2.2.1 i 0 * 8192 + J.2.2.1 i 1 + 1 ∧ (J.2.2.1 i 2 * 64 ≤ I 49 i ∧ I 49 i < J.2.2.1 i 2 * 64 + 64) ∧ (F (J.2.2.1 i 0).toNat 0 = 5 → I 49 i = J.2.2.1 i 2 * 64 + J.2.2.1 i 3)
def LfR (F : Tb) (p far x : Int) : Prop := if F p.toNat 0 = 6 then (0 ≤ x ∧ x < 128 ∧ x / 8 = far / 8 ∧ x % 8 ≤ F p.toNat 2 ∧ ndA (far / 8) (x % 8) (F p.toNat 2) = far % 8) else x = far
def OpR (F : Tb) (I : Nat → Nat → Int) (J : SJ) : Prop := ∀ j : Nat, (j : Int) < J.1 5 → I 51 j = J.2.2.2 j 0 ∧ LfR F (J.2.2.2 j 0) (J.2.2.2 j 2) (I 52 j) ∧ I 53 j = (J.2.2.2 j 1 + 1) * 8192 + J.2.2.2 j 4 ∧ I 54 j = J.2.2.2 j 3
def RZ (I0 I : Nat → Nat → Int) (F : Tb) (J : SJ) : Prop := RZ0 I0 I J ∧ RZs I J ∧ FrR F I J ∧ OpR F I J
def PhZ (I : Nat → Nat → Int) (ph : Int) (J : SJ) : Prop := I 30 44 = 0 ∧ ((ph = 0 ∧ I 30 45 = 0 ∧ I 30 46 = J.1 7 ∧ I 30 47 = J.1 8) ∨ (ph = 1 ∧ I 30 45 = 0 ∧ I 30 46 = -1 ∧ I 30 47 = J.1 8) ∨ (ph = 2 ∧ I 30 45 = 1))
def RO (I0 I : Nat → Nat → Int) (F : Tb) (r : Int × SJ) : Prop := (r.1 = 3 ∧ I 30 44 = 1 ∧ RZ0 I0 I r.2) ∨ (r.1 ≠ 3 ∧ RZ I0 I F r.2 ∧ PhZ I r.1 r.2)
def RB (I0 : Nat → Nat → Int) (F : Tb) (c : Nat) (n may : Int) (hcn : Nat → CEnv → Int) (cl : Nat → Int) : Prop := (RTab I0 F c ∧ c ≤ 240 ∧ WfT F 0 c) ∧ (I0 31 64 = n ∧ 0 ≤ n ∧ n ≤ 32 ∧ I0 31 3335 = may ∧ 1 ≤ may ∧ may ≤ 5000) ∧ ((∀ k, I0 31 k = cl k) ∧ ∀ k, k < 64 → -999 ≤ cl k ∧ cl k ≤ 1000) ∧ ∀ w, w < 26 → ∃ tx n', CdTx I0 31 w tx n' ∧ (n' ≠ 0 → (eitL tx n' 4 (true, 0)).2.2.1 = true) ∧ ∀ e, cdR e tx n' = hcn w e
section RZL
variable {I0 I : Nat → Nat → Int} {F : Tb} {c : Nat} {n may : Int} {hcn : Nat → CEnv → Int} {cl : Nat → Int} {J : SJ}
theorem RZ.f (h : RZ I0 I F J) : RFz I0 I := h.1.1
theorem RFz.gn (hS : RB I0 F c n may hcn cl) (h : RFz I0 I) : I 31 64 = n := (h 31 64 (by decide) (by decide) (by omega) (by omega)).trans hS.2.1.1
theorem RFz.gm (hS : RB I0 F c n may hcn cl) (h : RFz I0 I) : I 31 3335 = may := (h 31 3335 (by decide) (by decide) (by omega) (by omega)).trans hS.2.1.2.2.2.1
theorem RFz.tab (hS : RB I0 F c n may hcn cl) (h : RFz I0 I) : RTab I F c := fun p hp => by
  have e : ∀ a, 35 ≤ a → a ≤ 43 → I a p = I0 a p := fun a h1 h2 => h a p (by omega) (by omega) (by omega) (by omega)
  have := hS.1.1 p hp
  rw [e 35 (by decide) (by decide), e 36 (by decide) (by decide), e 40 (by decide) (by decide), e 37 (by decide) (by decide), e 38 (by decide) (by decide), e 39 (by decide) (by decide), e 43 (by decide) (by decide), e 41 (by decide) (by decide), e 42 (by decide) (by decide)]
  exact this
theorem RFz.at {p : Int} {w : Nat} (hS : RB I0 F c n may hcn cl) (h : RFz I0 I) (hp : 0 ≤ p ∧ p < (c : Int)) (hw : w < 9) : I (colA w) p.toNat = F p.toNat w := RTab.at (RFz.tab hS h) (by omega) hw
theorem RFz.cell (hS : RB I0 F c n may hcn cl) (h : RFz I0 I) {k : Nat} (hk : k < 64) : I 31 k = cl k ∧ -999 ≤ I 31 k ∧ I 31 k ≤ 1000 := by
  have e : I 31 k = I0 31 k := h 31 k (by decide) (by decide) (by omega) (by omega)
  have a := hS.2.2.1.1 k
  have b := hS.2.2.1.2 k hk
  omega
theorem RFz.cd (hS : RB I0 F c n may hcn cl) (h : RFz I0 I) {w : Nat} (hw : w < 26) : ∃ tx n', CdTx I 31 w tx n' ∧ (n' ≠ 0 → (eitL tx n' 4 (true, 0)).2.2.1 = true) ∧ ∀ e, cdR e tx n' = hcn w e := by
  obtain ⟨tx, n', h1, h2, h3⟩ := hS.2.2.2 w hw
  have e : ∀ k, I 31 k = I0 31 k := fun k => h 31 k (by decide) (by decide) (by omega) (by omega)
  refine ⟨tx, n', ⟨(e _).trans h1.1, h1.2.1, fun k hk => ?_⟩, h2, h3⟩
  rw [e]; exact h1.2.2 k hk
theorem RFz.set {o k : Nat} {v : Int} (h : RFz I0 I) (ho : o = 34 ∨ o = 45 ∨ (49 ≤ o ∧ o ≤ 54) ∨ (o = 30 ∧ (k = 6 ∨ k = 7 ∨ k = 8 ∨ k = 24 ∨ k = 25 ∨ k = 26 ∨ k = 27 ∨ k = 33 ∨ (38 ≤ k ∧ k ≤ 48)))) : RFz I0 (up2 I o k v) := fun a b h1 h2 h3 h4 => (up2_nx (by omega)).trans (h a b h1 h2 h3 h4)
theorem RZ.s4 {k : Nat} {v : Int} (h : RZ I0 I F J) (hk : 44 ≤ k ∧ k ≤ 47) : RZ I0 (up2 I 30 k v) F J := by
  obtain ⟨⟨a1, a2, a3⟩, b, f, g⟩ := h
  have e : ∀ k', k' ≠ k → up2 I 30 k v 30 k' = I 30 k' := fun k' hh => up2_nk hh
  refine ⟨⟨a1.set (by omega), fun k' => (up2_no (by decide)).trans (a2 k'), by rw [e 27 (by omega)]; exact a3⟩, ?_, fun i hi => ?_, fun j hj => ?_⟩
  · unfold RZs
    rw [e 33 (by omega), e 38 (by omega), e 48 (by omega), e 40 (by omega), e 39 (by omega), e 41 (by omega), e 42 (by omega), e 43 (by omega)]
    exact b
  · rw [up2_no (by decide), up2_no (by decide)]; exact f i hi
  · rw [up2_no (by decide), up2_no (by decide), up2_no (by decide), up2_no (by decide)]; exact g j hj
theorem RZ.set {q k : Nat} {v : Int} (h : RZ I0 I F J) (hq : (q = 40 ∧ k = 9) ∨ (q = 39 ∧ k = 10)) : RZ I0 (up2 I 30 q v) F (setS J k v) := by
  obtain ⟨⟨a1, a2, a3⟩, b, f, g⟩ := h
  have e : ∀ k', k' ≠ q → up2 I 30 q v 30 k' = I 30 k' := fun k' hh => up2_nk hh
  have e' : ∀ k', k' ≠ k → (setS J k v).1 k' = J.1 k' := fun k' hh => if_neg hh
  have es : (setS J k v).1 k = v := if_pos rfl
  obtain ⟨b1, b2, b3, b4, b5, b6, b7, b8⟩ := b
  refine ⟨⟨a1.set (by omega), fun k' => (up2_no (by decide)).trans (a2 k'), by rw [e 27 (by omega)]; exact a3⟩, ?_, fun i hi => ?_, fun j hj => ?_⟩
  · unfold RZs
    rcases hq with ⟨rfl, rfl⟩ | ⟨rfl, rfl⟩
    · rw [e 33 (by omega), e 38 (by omega), e 48 (by omega), up2_s, e 39 (by omega), e 41 (by omega), e 42 (by omega), e 43 (by omega), e' 3 (by omega), e' 5 (by omega), e' 6 (by omega), es, e' 10 (by omega), e' 11 (by omega), e' 12 (by omega), e' 13 (by omega)]
      exact ⟨b1, b2, b3, rfl, b5, b6, b7, b8⟩
    · rw [e 33 (by omega), e 38 (by omega), e 48 (by omega), up2_s, e 40 (by omega), e 41 (by omega), e 42 (by omega), e 43 (by omega), e' 3 (by omega), e' 5 (by omega), e' 6 (by omega), es, e' 9 (by omega), e' 11 (by omega), e' 12 (by omega), e' 13 (by omega)]
      exact ⟨b1, b2, b3, b4, rfl, b6, b7, b8⟩
  · rw [e' 3 (by omega)] at hi
    rw [up2_no (by decide), up2_no (by decide)]; exact f i hi
  · rw [e' 5 (by omega)] at hj
    rw [up2_no (by decide), up2_no (by decide), up2_no (by decide), up2_no (by decide)]; exact g j hj
theorem RZ.s78 {k : Nat} {v : Int} (h : RZ I0 I F J) (hk : k = 7 ∨ k = 8) : RZ I0 I F (setS J k v) := by
  have e' : ∀ k', k' ≠ k → (setS J k v).1 k' = J.1 k' := fun k' hh => if_neg hh
  obtain ⟨a, b, f, g⟩ := h
  refine ⟨a, ?_, fun i hi => ?_, fun j hj => ?_⟩
  · unfold RZs
    rw [e' 3 (by omega), e' 5 (by omega), e' 6 (by omega), e' 9 (by omega), e' 10 (by omega), e' 11 (by omega), e' 12 (by omega), e' 13 (by omega)]
    exact b
  · rw [e' 3 (by omega)] at hi; exact f i hi
  · rw [e' 5 (by omega)] at hj; exact g j hj
theorem RZ.tl {far x y : Int} (h : RZ I0 I F J) (h0 : 0 ≤ J.1 3) (hx : far * 64 ≤ x ∧ x < far * 64 + 64) (hx5 : F (J.1 7).toNat 0 = 5 → x = far * 64 + J.1 9) (hy : y = J.1 7 * 8192 + J.1 8 + 1) : RZ I0 (up2 (up2 (up2 I 49 (J.1 3).toNat x) 50 (J.1 3).toNat y) 30 33 (J.1 3 + 1)) F (pushF F J far) := by
  obtain ⟨⟨a1, a2, a3⟩, b, f, g⟩ := h
  have e : ∀ o k', o ≠ 49 → o ≠ 50 → ¬ (o = 30 ∧ k' = 33) → up2 (up2 (up2 I 49 (J.1 3).toNat x) 50 (J.1 3).toNat y) 30 33 (J.1 3 + 1) o k' = I o k' := fun o k' h1 h2 h3 => (up2_nx h3).trans ((up2_no h2).trans (up2_no h1))
  obtain ⟨b1, b2, b3, b4, b5, b6, b7, b8⟩ := b
  refine ⟨⟨((a1.set (by omega)).set (by omega)).set (by omega), fun k' => (e 45 k' (by decide) (by decide) (by omega)).trans (a2 k'), by rw [e 30 27 (by decide) (by decide) (by omega)]; exact a3⟩, ⟨up2_s, ?_, ?_, ?_, ?_, ?_, ?_, ?_⟩, fun i hi => ?_, fun j hj => ?_⟩
  · rw [e 30 38 (by decide) (by decide) (by omega)]; exact b2
  · rw [e 30 48 (by decide) (by decide) (by omega)]; exact b3
  · rw [e 30 40 (by decide) (by decide) (by omega)]; exact b4
  · rw [e 30 39 (by decide) (by decide) (by omega)]; exact b5
  · rw [e 30 41 (by decide) (by decide) (by omega)]; exact b6
  · rw [e 30 42 (by decide) (by decide) (by omega), e 30 43 (by decide) (by decide) (by omega)]; exact b7
  · rw [e 30 42 (by decide) (by decide) (by omega), e 30 43 (by decide) (by decide) (by omega)]; exact b8
  · have hi' : (i : Int) < J.1 3 + 1 := hi
    have q50 : up2 (up2 (up2 I 49 (J.1 3).toNat x) 50 (J.1 3).toNat y) 30 33 (J.1 3 + 1) 50 (J.1 3).toNat = y := (up2_no (by decide)).trans up2_s
    have q49 : up2 (up2 (up2 I 49 (J.1 3).toNat x) 50 (J.1 3).toNat y) 30 33 (J.1 3 + 1) 49 (J.1 3).toNat = x := (up2_no (by decide)).trans ((up2_no (by decide)).trans up2_s)
    have n50 : ∀ i, i ≠ (J.1 3).toNat → up2 (up2 (up2 I 49 (J.1 3).toNat x) 50 (J.1 3).toNat y) 30 33 (J.1 3 + 1) 50 i = I 50 i := fun i hh => (up2_no (by decide)).trans ((up2_nk hh).trans (up2_no (by decide)))
    have n49 : ∀ i, i ≠ (J.1 3).toNat → up2 (up2 (up2 I 49 (J.1 3).toNat x) 50 (J.1 3).toNat y) 30 33 (J.1 3 + 1) 49 i = I 49 i := fun i hh => (up2_no (by decide)).trans ((up2_no (by decide)).trans (up2_nk hh))
    by_cases ei : i = (J.1 3).toNat
    · have hv : (pushF F J far).2.2.1 i = frV F J far := if_pos ei
      rw [hv, ei, q50, q49]
      exact ⟨hy, hx, hx5⟩
    · have hv : (pushF F J far).2.2.1 i = J.2.2.1 i := if_neg ei
      rw [hv, n50 i ei, n49 i ei]
      exact f i (by omega)
  · rw [e 51 _ (by decide) (by decide) (by omega), e 52 _ (by decide) (by decide) (by omega), e 53 _ (by decide) (by decide) (by omega), e 54 _ (by decide) (by decide) (by omega)]
    exact g j hj
theorem RZ.lv {far x : Int} (h : RZ I0 I F J) (h0 : 0 ≤ J.1 5) (hx : LfR F (J.1 7) far x) : RZ I0 (up2 (up2 (up2 (up2 (up2 I 51 (J.1 5).toNat (J.1 7)) 52 (J.1 5).toNat x) 53 (J.1 5).toNat ((J.1 8 + 1) * 8192 + J.1 3)) 54 (J.1 5).toNat (J.1 9)) 30 38 (J.1 5 + 1)) F (pushO J far) := by
  obtain ⟨⟨a1, a2, a3⟩, b, f, g⟩ := h
  have e : ∀ o k', ¬ (51 ≤ o ∧ o ≤ 54) → ¬ (o = 30 ∧ k' = 38) → up2 (up2 (up2 (up2 (up2 I 51 (J.1 5).toNat (J.1 7)) 52 (J.1 5).toNat x) 53 (J.1 5).toNat ((J.1 8 + 1) * 8192 + J.1 3)) 54 (J.1 5).toNat (J.1 9)) 30 38 (J.1 5 + 1) o k' = I o k' := fun o k' h1 h3 => (up2_nx h3).trans ((up2_no (by omega)).trans ((up2_no (by omega)).trans ((up2_no (by omega)).trans (up2_no (by omega)))))
  obtain ⟨b1, b2, b3, b4, b5, b6, b7, b8⟩ := b
  refine ⟨⟨((((a1.set (by omega)).set (by omega)).set (by omega)).set (by omega)).set (by omega), fun k' => (e 45 k' (by omega) (by omega)).trans (a2 k'), by rw [e 30 27 (by omega) (by omega)]; exact a3⟩, ⟨?_, up2_s, ?_, ?_, ?_, ?_, ?_, ?_⟩, fun i hi => ?_, fun j hj => ?_⟩
  · rw [e 30 33 (by omega) (by omega)]; exact b1
  · rw [e 30 48 (by omega) (by omega)]; exact b3
  · rw [e 30 40 (by omega) (by omega)]; exact b4
  · rw [e 30 39 (by omega) (by omega)]; exact b5
  · rw [e 30 41 (by omega) (by omega)]; exact b6
  · rw [e 30 42 (by omega) (by omega), e 30 43 (by omega) (by omega)]; exact b7
  · rw [e 30 42 (by omega) (by omega), e 30 43 (by omega) (by omega)]; exact b8
  · rw [e 50 _ (by omega) (by omega), e 49 _ (by omega) (by omega)]
    exact f i hi
  · have hj' : (j : Int) < J.1 5 + 1 := hj
    have q54 : up2 (up2 (up2 (up2 (up2 I 51 (J.1 5).toNat (J.1 7)) 52 (J.1 5).toNat x) 53 (J.1 5).toNat ((J.1 8 + 1) * 8192 + J.1 3)) 54 (J.1 5).toNat (J.1 9)) 30 38 (J.1 5 + 1) 54 (J.1 5).toNat = J.1 9 := (up2_no (by decide)).trans up2_s
    have q53 : up2 (up2 (up2 (up2 (up2 I 51 (J.1 5).toNat (J.1 7)) 52 (J.1 5).toNat x) 53 (J.1 5).toNat ((J.1 8 + 1) * 8192 + J.1 3)) 54 (J.1 5).toNat (J.1 9)) 30 38 (J.1 5 + 1) 53 (J.1 5).toNat = (J.1 8 + 1) * 8192 + J.1 3 := (up2_no (by decide)).trans ((up2_no (by decide)).trans up2_s)
    have q52 : up2 (up2 (up2 (up2 (up2 I 51 (J.1 5).toNat (J.1 7)) 52 (J.1 5).toNat x) 53 (J.1 5).toNat ((J.1 8 + 1) * 8192 + J.1 3)) 54 (J.1 5).toNat (J.1 9)) 30 38 (J.1 5 + 1) 52 (J.1 5).toNat = x := (up2_no (by decide)).trans ((up2_no (by decide)).trans ((up2_no (by decide)).trans up2_s))
    have q51 : up2 (up2 (up2 (up2 (up2 I 51 (J.1 5).toNat (J.1 7)) 52 (J.1 5).toNat x) 53 (J.1 5).toNat ((J.1 8 + 1) * 8192 + J.1 3)) 54 (J.1 5).toNat (J.1 9)) 30 38 (J.1 5 + 1) 51 (J.1 5).toNat = J.1 7 := (up2_no (by decide)).trans ((up2_no (by decide)).trans ((up2_no (by decide)).trans ((up2_no (by decide)).trans up2_s)))
    have nn : ∀ o i, 51 ≤ o → o ≤ 54 → i ≠ (J.1 5).toNat → up2 (up2 (up2 (up2 (up2 I 51 (J.1 5).toNat (J.1 7)) 52 (J.1 5).toNat x) 53 (J.1 5).toNat ((J.1 8 + 1) * 8192 + J.1 3)) 54 (J.1 5).toNat (J.1 9)) 30 38 (J.1 5 + 1) o i = I o i := fun o i h1 h2 hh => (up2_no (by omega)).trans ((up2_nk hh).trans ((up2_nk hh).trans ((up2_nk hh).trans (up2_nk hh))))
    by_cases ei : j = (J.1 5).toNat
    · have hv : (pushO J far).2.2.2 j = opV J far := if_pos ei
      rw [hv, ei, q51, q52, q53, q54]
      exact ⟨rfl, hx, rfl, rfl⟩
    · have hv : (pushO J far).2.2.2 j = J.2.2.2 j := if_neg ei
      rw [hv, nn 51 j (by decide) (by decide) ei, nn 52 j (by decide) (by decide) ei, nn 53 j (by decide) (by decide) ei, nn 54 j (by decide) (by decide) ei]
      exact g j (by omega)
theorem RZ.tk (h : RZ I0 I F J) (h0 : 0 < J.1 5) (h3 : J.2.2.2 (J.1 5 - 1).toNat 4 ≤ J.1 3) : RZ I0 (up2 (up2 (up2 I 30 38 (J.1 5 - 1)) 30 33 (J.2.2.2 (J.1 5 - 1).toNat 4)) 30 40 (J.2.2.2 (J.1 5 - 1).toNat 3)) F (popO J) := by
  obtain ⟨⟨a1, a2, a3⟩, b, f, g⟩ := h
  have e : ∀ o k', ¬ (o = 30 ∧ (k' = 38 ∨ k' = 33 ∨ k' = 40)) → up2 (up2 (up2 I 30 38 (J.1 5 - 1)) 30 33 (J.2.2.2 (J.1 5 - 1).toNat 4)) 30 40 (J.2.2.2 (J.1 5 - 1).toNat 3) o k' = I o k' := fun o k' h1 => (up2_nx (by omega)).trans ((up2_nx (by omega)).trans (up2_nx (by omega)))
  obtain ⟨b1, b2, b3, b4, b5, b6, b7, b8⟩ := b
  refine ⟨⟨((a1.set (by omega)).set (by omega)).set (by omega), fun k' => (e 45 k' (by omega)).trans (a2 k'), by rw [e 30 27 (by omega)]; exact a3⟩, ⟨?_, ?_, ?_, up2_s, ?_, ?_, ?_, ?_⟩, fun i hi => ?_, fun j hj => ?_⟩
  · rw [up2_nk (by decide), up2_s]; rfl
  · rw [up2_nk (by decide), up2_nk (by decide), up2_s]; rfl
  · rw [e 30 48 (by omega)]; exact b3
  · rw [e 30 39 (by omega)]; exact b5
  · rw [e 30 41 (by omega)]; exact b6
  · rw [e 30 42 (by omega), e 30 43 (by omega)]; exact b7
  · rw [e 30 42 (by omega), e 30 43 (by omega)]; exact b8
  · have hi' : (i : Int) < J.2.2.2 (J.1 5 - 1).toNat 4 := hi
    rw [e 50 _ (by omega), e 49 _ (by omega)]; exact f i (by omega)
  · have hj' : (j : Int) < J.1 5 - 1 := hj
    rw [e 51 _ (by omega), e 52 _ (by omega), e 53 _ (by omega), e 54 _ (by omega)]; exact g j (by omega)
end RZL
