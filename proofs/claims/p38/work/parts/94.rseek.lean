/-! how a search ends; the reference's search() -/
theorem runA_inv {F : Tb} {c : Nat} {n may : Int} {hc : Nat → CEnv → Int} {cl : Nat → Int} {e : Int} (hW : WfT F 0 c) : ∀ (f : Nat) (ph : Int) (J : SJ), RunI F c n may f ph J → ((runA F n may hc cl e f ph J).1 = -7 ∨ (((runA F n may hc cl e f ph J).1 = 1 ∨ (runA F n may hc cl e f ph J).1 = 0) ∧ SI F c n may (runA F n may hc cl e f ph J).2 ∧ 0 ≤ (runA F n may hc cl e f ph J).2.1 11 ∧ (runA F n may hc cl e f ph J).2.1 11 ≤ 155001)) ∧ (runA F n may hc cl e f ph J).2.1 6 = J.1 6
  | 0, ph, J, h => (RunI.fuel (fun p h1 h2 => (tab_s hW ⟨h1, h2⟩).2.1) h).elim
  | f + 1, ph, J, h => by
    have h1 := h.1
    by_cases p0 : ph = 0
    · rw [runA_0 p0]
      have i := runA_inv (hc := hc) (cl := cl) (e := e) hW f _ _ (h.come (hc := hc) (cl := cl) hW p0)
      exact ⟨i.1, i.2.trans comeA_6s⟩
    · by_cases p1 : ph = 1
      · by_cases u : 0 ≤ J.1 8
        · rw [runA_1 p1 u]
          have i := runA_inv (hc := hc) (cl := cl) (e := e) hW f _ _ (h.goOn hW p1 u)
          exact ⟨i.1, i.2.trans goOnA_6s⟩
        · by_cases he : e = -1 ∨ e = J.1 9
          · rw [runA_w p1 (by omega) he]
            have h2 := h.c2 (by omega)
            refine ⟨Or.inr ⟨Or.inl rfl, h2.1.nt, ?_, ?_⟩, rfl⟩
            · show 0 ≤ J.1 11 + 1; omega
            · show J.1 11 + 1 ≤ 155001; omega
          · rw [runA_v p1 (by omega) he]
            have i := runA_inv (hc := hc) (cl := cl) (e := e) hW f _ _ (h.note p1)
            exact ⟨i.1, i.2⟩
      · by_cases p3 : ph = 3
        · rw [runA_3 p3]; exact ⟨Or.inl rfl, rfl⟩
        · have p2 : ph = 2 := by omega
          by_cases q : 0 < J.1 5
          · rw [runA_b p2 q]
            have i := runA_inv (hc := hc) (cl := cl) (e := e) hW f _ _ (h.back hW p2 q)
            exact ⟨i.1, i.2.trans goBkA_6s⟩
          · rw [runA_n p2 (by omega)]
            have h2 := h.c2 (by omega)
            exact ⟨Or.inr ⟨Or.inr rfl, h2.1, h2.2.1, h2.2.2.1⟩, rfl⟩
def seekA (F : Tb) (c : Nat) (n may : Int) (hc : Nat → CEnv → Int) (cl : Nat → Int) (e st : Int) (J : SJ) : Int × SJ := runA F n may hc cl e 155000 0 (iniJ J (c : Int) st)
theorem ini_run {F : Tb} {c : Nat} {n may st : Int} {J : SJ} (hr : 1 ≤ c ∧ F (c - 1) 9 ≤ 6 ∧ F (c - 1) 10 ≤ 23) (hs : 0 ≤ st ∧ st ≤ n ∧ n ≤ 32) (hm : 1 ≤ may ∧ may ≤ 5000) : RunI F c n may 155000 0 (iniJ J (c : Int) st) := by
  have hi0 := ini_ok (F := F) (n := n) (may := may) (st := st) (J := J) hr.1 hs hm hr.2.1 hr.2.2
  exact ⟨Or.inl rfl, Or.inr ⟨hi0.1, hi0.2.1, by rw [hi0.2.2.1]; omega, by rw [hi0.2.2.1]; omega⟩, hi0.2.2.2⟩
theorem seekA_inv {F : Tb} {c : Nat} {n may st e : Int} {hc : Nat → CEnv → Int} {cl : Nat → Int} {J : SJ} (hW : WfT F 0 c) (hr : 1 ≤ c ∧ F (c - 1) 9 ≤ 6 ∧ F (c - 1) 10 ≤ 23) (hs : 0 ≤ st ∧ st ≤ n ∧ n ≤ 32) (hm : 1 ≤ may ∧ may ≤ 5000) : ((seekA F c n may hc cl e st J).1 = -7 ∨ (((seekA F c n may hc cl e st J).1 = 1 ∨ (seekA F c n may hc cl e st J).1 = 0) ∧ st ≤ (seekA F c n may hc cl e st J).2.1 9 ∧ (seekA F c n may hc cl e st J).2.1 9 ≤ n ∧ 0 ≤ (seekA F c n may hc cl e st J).2.1 10 ∧ (seekA F c n may hc cl e st J).2.1 10 ≤ may ∧ 0 ≤ (seekA F c n may hc cl e st J).2.1 11 ∧ (seekA F c n may hc cl e st J).2.1 11 ≤ 155001)) := by
  have h := runA_inv (hc := hc) (cl := cl) (e := e) hW 155000 0 (iniJ J (c : Int) st) (ini_run hr hs hm)
  have h6 : (seekA F c n may hc cl e st J).2.1 6 = st := h.2
  rcases h.1 with h1 | ⟨h1, h2, h3, h4⟩
  · exact Or.inl h1
  · have h5 := h2.2.2.1
    have h7 := h2.2.2.2.1
    exact Or.inr ⟨h1, Int.le_trans (Int.le_of_eq h6.symm) h5.2.1, h5.2.2.1, h7.1, h7.2.1, h3, h4⟩
def firV (r : Int × SJ) (st : Int) : Int := if r.1 = -7 then -7 else if r.1 = 1 then r.2.1 9 - st else -5
def triV (r : Int × SJ) : Int := if r.1 = -7 then -7 else r.2.1 10
def wayV (r : Int × SJ) (st i : Int) : Int := if r.1 = -7 then -7 else if r.1 = 1 ∧ 0 ≤ i ∧ i < r.2.1 9 - st then r.2.2.1 (st + i).toNat else -5
def wasV (r : Int × SJ) : Int := if r.1 = -7 then -7 else r.2.1 11
def spaV (r : Int × SJ) (w : Int) : Int := if r.1 = -7 then -7 else if r.2.1 11 = 0 then -5 else if w = 0 then r.2.1 12 else r.2.1 13
