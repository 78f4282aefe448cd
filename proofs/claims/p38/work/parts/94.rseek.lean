/-! how a search ends; the reference's search() -/
/-- the end of a run of steps -/
theorem runA_inv {F : Tb} {c : Nat} {n may : Int} {hc : Nat → CEnv → Int} {cl : Nat → Int} {e : Int} (hW : WfT F 0 c) : ∀ (f : Nat) (ph : Int) (J : SJ), RunI F c n may f ph J → ((runA F n may hc cl e f ph J).1 = -7 ∨ (((runA F n may hc cl e f ph J).1 = 1 ∨ (runA F n may hc cl e f ph J).1 = 0) ∧ SI F c n may (runA F n may hc cl e f ph J).2 ∧ 0 ≤ (runA F n may hc cl e f ph J).2.1 11 ∧ (runA F n may hc cl e f ph J).2.1 11 ≤ 155001)) ∧ (runA F n may hc cl e f ph J).2.1 6 = J.1 6
  | 0, ph, J, h => (RunI.fuel (fun p h1 h2 => (tab_s hW ⟨h1, h2⟩).2.1) h).elim
  | f + 1, ph, J, h => by
    have h1 := h.1
    by_cases p0 : ph = 0
    · rw [runA_0 p0]
      have i := runA_inv (hc := hc) (cl := cl) (e := e) hW f _ _ (h.come (hc := hc) (cl := cl) hW p0)
      exact ⟨i.1, i.2.trans comeA_6s⟩
    · by_cases p1 : ph = 1
      · by_cases u : 0 ≤ J.1 8
        · rw [runA_1 p1 u]
          have i := runA_inv (hc := hc) (cl := cl) (e := e) hW f _ _ (h.goOn hW p1 u)
          exact ⟨i.1, i.2.trans goOnA_6s⟩
        · by_cases he : e = -1 ∨ e = J.1 9
          · rw [runA_w p1 (by omega) he]
            have h2 := h.c2 (by omega)
            refine ⟨Or.inr ⟨Or.inl rfl, h2.1.nt, ?_, ?_⟩, rfl⟩
            · show 0 ≤ J.1 11 + 1; omega
            · show J.1 11 + 1 ≤ 155001; omega
          · rw [runA_v p1 (by omega) he]
            have i := runA_inv (hc := hc) (cl := cl) (e := e) hW f _ _ (h.note p1)
            exact ⟨i.1, i.2⟩
      · by_cases p3 : ph = 3
        · rw [runA_3 p3]; exact ⟨Or.inl rfl, rfl⟩
        · have p2 : ph = 2 := by omega
          by_cases q : 0 < J.1 5
          · rw [runA_b p2 q]
            have i := runA_inv (hc := hc) (cl := cl) (e := e) hW f _ _ (h.back hW p2 q)
            exact ⟨i.1, i.2.trans goBkA_6s⟩
          · rw [runA_n p2 (by omega)]
            have h2 := h.c2 (by omega)
            exact ⟨Or.inr ⟨Or.inr rfl, h2.1, h2.2.1, h2.2.2.1⟩, rfl⟩
/-- a whole search, from its start -/
def seekA (F : Tb) (c : Nat) (n may : Int) (hc : Nat → CEnv → Int) (cl : Nat → Int) (e st : Int) (J : SJ) : Int × SJ := runA F n may hc cl e 155000 0 (iniJ J (c : Int) st)
theorem ini_run {F : Tb} {c : Nat} {n may st : Int} {J : SJ} (hr : 1 ≤ c ∧ F (c - 1) 9 ≤ 6 ∧ F (c - 1) 10 ≤ 23) (hs : 0 ≤ st ∧ st ≤ n ∧ n ≤ 32) (hm : 1 ≤ may ∧ may ≤ 5000) : RunI F c n may 155000 0 (iniJ J (c : Int) st) := by
  have hi0 := ini_ok (F := F) (n := n) (may := may) (st := st) (J := J) hr.1 hs hm hr.2.1 hr.2.2
  exact ⟨Or.inl rfl, Or.inr ⟨hi0.1, hi0.2.1, by rw [hi0.2.2.1]; omega, by rw [hi0.2.2.1]; omega⟩, hi0.2.2.2⟩
theorem seekA_inv {F : Tb} {c : Nat} {n may st e : Int} {hc : Nat → CEnv → Int} {cl : Nat → Int} {J : SJ} (hW : WfT F 0 c) (hr : 1 ≤ c ∧ F (c - 1) 9 ≤ 6 ∧ F (c - 1) 10 ≤ 23) (hs : 0 ≤ st ∧ st ≤ n ∧ n ≤ 32) (hm : 1 ≤ may ∧ may ≤ 5000) : ((seekA F c n may hc cl e st J).1 = -7 ∨ (((seekA F c n may hc cl e st J).1 = 1 ∨ (seekA F c n may hc cl e st J).1 = 0) ∧ st ≤ (seekA F c n may hc cl e st J).2.1 9 ∧ (seekA F c n may hc cl e st J).2.1 9 ≤ n ∧ 0 ≤ (seekA F c n may hc cl e st J).2.1 10 ∧ (seekA F c n may hc cl e st J).2.1 10 ≤ may ∧ 0 ≤ (seekA F c n may hc cl e st J).2.1 11 ∧ (seekA F c n may hc cl e st J).2.1 11 ≤ 155001)) := by
  have h := runA_inv (hc := hc) (cl := cl) (e := e) hW 155000 0 (iniJ J (c : Int) st) (ini_run hr hs hm)
  have h6 : (seekA F c n may hc cl e st J).2.1 6 = st := h.2
  rcases h.1 with h1 | ⟨h1, h2, h3, h4⟩
  · exact Or.inl h1
  · have h5 := h2.2.2.1
    have h7 := h2.2.2.2.1
    exact Or.inr ⟨h1, Int.le_trans (Int.le_of_eq h6.symm) h5.2.1, h5.2.2.1, h7.1, h7.2.1, h3, h4⟩
def firV (r : Int × SJ) (st : Int) : Int := if r.1 = -7 then -7 else if r.1 = 1 then r.2.1 9 - st else -5
def triV (r : Int × SJ) : Int := if r.1 = -7 then -7 else r.2.1 10
def wayV (r : Int × SJ) (st i : Int) : Int := if r.1 = -7 then -7 else if r.1 = 1 ∧ 0 ≤ i ∧ i < r.2.1 9 - st then r.2.2.1 (st + i).toNat else -5
def wasV (r : Int × SJ) : Int := if r.1 = -7 then -7 else r.2.1 11
def spaV (r : Int × SJ) (w : Int) : Int := if r.1 = -7 then -7 else if r.2.1 11 = 0 then -5 else if w = 0 then r.2.1 12 else r.2.1 13
/-- the reference's memory behind a search -/
def SrR (I0 I' : Nat → Nat → Int) (r : Int × SJ) (x : Int) : Prop := RFx I0 I' ∧ (∀ k, I' 45 k = r.2.2.1 k) ∧ (I' 30 27 = 0 ∨ I' 30 27 = 1) ∧ ((r.1 = -7 ∧ I' 30 44 = 1 ∧ x = 0) ∨ (r.1 ≠ -7 ∧ I' 30 44 = 0 ∧ RZs I' r.2 ∧ x = if r.1 = 1 then 1 else 0))
/-- as RB, without the table -/
def RB1 (I0 : Nat → Nat → Int) (n may : Int) (hcn : Nat → CEnv → Int) (cl : Nat → Int) : Prop := (I0 31 64 = n ∧ 0 ≤ n ∧ n ≤ 32 ∧ I0 31 3335 = may ∧ 1 ≤ may ∧ may ≤ 5000) ∧ ((∀ k, I0 31 k = cl k) ∧ ∀ k, k < 64 → -999 ≤ cl k ∧ cl k ≤ 1000) ∧ ∀ w, w < 26 → ∃ tx n', CdTx I0 31 w tx n' ∧ (n' ≠ 0 → (eitL tx n' 4 (true, 0)).2.2.1 = true) ∧ ∀ e, cdR e tx n' = hcn w e
theorem RB1.b {I0 I : Nat → Nat → Int} {n may : Int} {hcn : Nat → CEnv → Int} {cl : Nat → Int} {F : Tb} {c : Nat} (h : RB1 I0 n may hcn cl) (hI : ∀ k, I 31 k = I0 31 k) (hT : RTab I F c) (hc : c ≤ 240) (hW : WfT F 0 c) : RB I F c n may hcn cl := by
  refine ⟨⟨hT, hc, hW⟩, ?_, ⟨fun k => (hI k).trans (h.2.1.1 k), h.2.1.2⟩, fun w hw => ?_⟩
  · rw [hI, hI]; exact h.1
  · obtain ⟨tx, n', h1, h2, h3⟩ := h.2.2 w hw
    refine ⟨tx, n', ⟨(hI _).trans h1.1, h1.2.1, fun k hk => ?_⟩, h2, h3⟩
    rw [hI]; exact h1.2.2 k hk
def iniI (I : Nat → Nat → Int) (c st : Int) : Nat → Nat → Int := up2 (up2 (up2 (up2 (up2 (up2 (up2 (up2 (up2 (up2 (up2 (up2 I 30 33 0) 30 38 0) 30 39 0) 30 40 st) 30 48 st) 30 41 0) 30 42 (-5)) 30 43 (-5)) 30 44 0) 30 45 0) 30 46 (c - 1)) 30 47 (-1)
theorem iniI_o {I : Nat → Nat → Int} {c st : Int} {o k : Nat} (h : ¬ (o = 30 ∧ (k = 33 ∨ (38 ≤ k ∧ k ≤ 48)))) : iniI I c st o k = I o k := by
  unfold iniI
  rw [up2_nx (by omega), up2_nx (by omega), up2_nx (by omega), up2_nx (by omega), up2_nx (by omega), up2_nx (by omega), up2_nx (by omega), up2_nx (by omega), up2_nx (by omega), up2_nx (by omega), up2_nx (by omega), up2_nx (by omega)]
theorem RO.ini {I : Nat → Nat → Int} {F : Tb} {J : SJ} {c : Nat} {st : Int} (hl : ∀ k, I 45 k = J.2.1 k) (h27 : I 30 27 = 0 ∨ I 30 27 = 1) : RO I (iniI I (c : Int) st) F (0, iniJ J (c : Int) st) := by
  refine Or.inr ⟨show (0 : Int) ≠ 3 by decide, ⟨⟨fun o k h1 h2 h3 h4 => iniI_o (by omega), fun k => (iniI_o (by omega)).trans (hl k), by rw [iniI_o (by omega)]; exact h27⟩, ⟨rfl, rfl, rfl, rfl, rfl, rfl, fun _ => ⟨rfl, rfl, rfl⟩, fun h => absurd rfl h⟩, fun i hi => ?_, fun j hj => ?_⟩, rfl, Or.inl ⟨rfl, rfl, rfl, rfl⟩⟩
  · have : (i : Int) < 0 := hi; omega
  · have : (j : Int) < 0 := hj; omega

