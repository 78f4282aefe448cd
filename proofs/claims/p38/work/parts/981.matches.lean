/-! letters of a search stay letters; a whole run -/
def LtrOK (J : SJ) : Prop := ∀ k, 0 ≤ J.2.1 k ∧ J.2.1 k ≤ 25
theorem lt_ite {c : Prop} [Decidable c] {a b : Int × SJ} (ha : LtrOK a.2) (hb : LtrOK b.2) : LtrOK (if c then a else b).2 := by
  by_cases h : c
  · rw [if_pos h]; exact ha
  · rw [if_neg h]; exact hb
theorem LtrOK.sl {J : SJ} {k : Nat} {v : Int} (h : LtrOK J) (hv : 0 ≤ v ∧ v ≤ 25) : LtrOK (setL J k v) := fun j => by
  show 0 ≤ up1 J.2.1 k v j ∧ up1 J.2.1 k v j ≤ 25
  unfold up1
  split
  · exact hv
  · exact h j
section LTS
variable {F : Tb} {n may : Int} {hc : Nat → CEnv → Int} {cl : Nat → Int} {J : SJ}
theorem comeW_lt {far : Int} (h : LtrOK J) : LtrOK (comeW F J far).2 := by
  unfold comeW
  split <;> exact h
theorem chooA_lt {far : Int} (h : LtrOK J) : LtrOK (chooA F J far).2 := by
  unfold chooA
  split <;> exact h
theorem ordA_lt {d r : Int} (h : LtrOK J) : LtrOK (ordA F J d r).2 := by
  unfold ordA
  refine lt_ite h ?_
  show LtrOK (ordP F J d (ndA d r (F (J.1 7).toNat 2)))
  unfold ordP
  split <;> exact h
theorem repA_lt {k b : Int} (h : LtrOK J) : LtrOK (repA F J k b).2 := by
  unfold repA
  exact lt_ite h (lt_ite h (lt_ite h (lt_ite h h)))
theorem takA_lt {w : Int} (h : LtrOK J) (hw : 0 ≤ w ∧ w ≤ 25) : LtrOK (takA n hc cl J w).2 := by
  unfold takA
  exact lt_ite h (lt_ite (h.sl hw) (h.sl hw))
theorem comeA_lt {c : Nat} (hW : WfT F 0 c) (hp : 0 ≤ J.1 7 ∧ J.1 7 < (c : Int)) (h : LtrOK J) : LtrOK (comeA F n may hc cl J).2 := by
  have ts := tab_s hW hp
  unfold comeA cm2
  refine lt_ite (comeW_lt h) (lt_ite h ?_)
  by_cases h0 : F ((tryJ J).1 7).toNat 0 = 0
  · rw [if_pos h0]; exact takA_lt (J := tryJ J) h (ts.2.2.2.2.2 h0)
  · rw [if_neg h0]
    exact lt_ite h (lt_ite h (lt_ite (chooA_lt (J := tryJ J) h) (lt_ite (repA_lt (J := tryJ J) h) (ordA_lt (J := tryJ J) h))))
theorem goOnA_lt (h : LtrOK J) : LtrOK (goOnA F may J).2 := by
  unfold goOnA go2
  exact lt_ite (comeW_lt (J := popF J) h) (lt_ite h (lt_ite (repA_lt (J := tryJ (popF J)) h) (ordA_lt (J := tryJ (popF J)) h)))
theorem goBkA_lt (h : LtrOK J) : LtrOK (goBkA F J).2 := by
  unfold goBkA gb2
  exact lt_ite (chooA_lt (J := popO J) h) (lt_ite (lt_ite h h) (ordA_lt (J := popO J) h))
end LTS
theorem runA_lt {F : Tb} {c : Nat} {n may : Int} {hc : Nat → CEnv → Int} {cl : Nat → Int} {e : Int} (hW : WfT F 0 c) : ∀ (f : Nat) (ph : Int) (J : SJ), RunI F c n may f ph J → LtrOK J → LtrOK (runA F n may hc cl e f ph J).2
  | 0, ph, J, _, h => h
  | f + 1, ph, J, hR, h => by
    have h1 := hR.1
    by_cases p0 : ph = 0
    · rw [runA_0 p0]
      exact runA_lt hW f _ _ (hR.come hW p0) (comeA_lt hW (hR.c0 p0).2.1 h)
    · by_cases p1 : ph = 1
      · by_cases u : 0 ≤ J.1 8
        · rw [runA_1 p1 u]; exact runA_lt hW f _ _ (hR.goOn hW p1 u) (goOnA_lt h)
        · by_cases he : e = -1 ∨ e = J.1 9
          · rw [runA_w p1 (by omega) he]; exact h
          · rw [runA_v p1 (by omega) he]; exact runA_lt hW f _ _ (hR.note p1) h
      · by_cases p3 : ph = 3
        · rw [runA_3 p3]; exact h
        · by_cases q : 0 < J.1 5
          · rw [runA_b (by omega) q]; exact runA_lt hW f _ _ (hR.back hW (by omega) q) (goBkA_lt h)
          · rw [runA_n (by omega) (by omega)]; exact h
theorem seekA_lt {F : Tb} {c : Nat} {n may st e : Int} {hc : Nat → CEnv → Int} {cl : Nat → Int} {J : SJ} (hW : WfT F 0 c) (hr : 1 ≤ c ∧ F (c - 1) 9 ≤ 6 ∧ F (c - 1) 10 ≤ 23) (hs : 0 ≤ st ∧ st ≤ n ∧ n ≤ 32) (hm : 1 ≤ may ∧ may ≤ 5000) (h : LtrOK J) : LtrOK (seekA F c n may hc cl e st J).2 :=
  runA_lt hW 155000 0 (iniJ J (c : Int) st) (ini_run hr hs hm) h
theorem MsOK.app {n s e : Int} {le : Nat → Int} {Ms : ML} (h : MsOK n Ms) (h1 : 0 ≤ s ∧ s ≤ e ∧ e ≤ n) (h2 : ∀ k, 0 ≤ le k ∧ le k ≤ 25) : MsOK n (Ms ++ [(s, e, le)]) := fun x hx => by
  rcases List.mem_append.mp hx with hx | hx
  · exact h x hx
  · rw [List.mem_singleton] at hx
    subst hx
    exact ⟨h1.1, h1.2.1, h1.2.2, h2⟩
theorem rnA_inv {F : Tb} {c : Nat} {n may : Int} {hc : Nat → CEnv → Int} {cl : Nat → Int} {mo by_ em : Int} (hW : WfT F 0 c) (hr : 1 ≤ c ∧ F (c - 1) 9 ≤ 6 ∧ F (c - 1) 10 ≤ 23) (hn : 0 ≤ n ∧ n ≤ 32) (hm : 1 ≤ may ∧ may ≤ 5000) : ∀ (f : Nat) (st : Int) (Ms : ML) (J : SJ), 0 ≤ st → (Ms.length : Int) ≤ st → st ≤ n + 1 → MsOK n Ms → LtrOK J → ((rnA F c n may hc cl mo by_ em f st Ms J).1 = -7 ∨ (rnA F c n may hc cl mo by_ em f st Ms J).1 = 0) ∧ MsOK n (rnA F c n may hc cl mo by_ em f st Ms J).2.1 ∧ ((rnA F c n may hc cl mo by_ em f st Ms J).2.1.length : Int) ≤ n + 1 ∧ LtrOK (rnA F c n may hc cl mo by_ em f st Ms J).2.2
  | 0, st, Ms, J, h0, h1, h2, h3, h4 => ⟨Or.inr rfl, h3, by show (Ms.length : Int) ≤ n + 1; omega, h4⟩
  | f + 1, st, Ms, J, h0, h1, h2, h3, h4 => by
    unfold rnA
    by_cases c0 : n < st
    · rw [if_pos c0]; exact ⟨Or.inr rfl, h3, by show (Ms.length : Int) ≤ n + 1; omega, h4⟩
    · rw [if_neg c0]
      have hi := seekA_inv (hc := hc) (cl := cl) (e := -1) (J := J) hW hr (st := st) ⟨h0, by omega, hn.2⟩ hm
      have hl := seekA_lt (hc := hc) (cl := cl) (e := -1) (J := J) hW hr (st := st) ⟨h0, by omega, hn.2⟩ hm h4
      by_cases c1 : (seekA F c n may hc cl (-1) st J).1 = -7
      · rw [if_pos c1]; exact ⟨Or.inl rfl, h3, by show (Ms.length : Int) ≤ n + 1; omega, hl⟩
      · rw [if_neg c1]
        have hi := hi.resolve_left c1
        by_cases c2 : (seekA F c n may hc cl (-1) st J).1 = 1 ∧ (st < (seekA F c n may hc cl (-1) st J).2.1 9 ∨ em = 1)
        · rw [if_pos c2]
          have hb := nextA_b (mo := mo) (by_ := by_) (st := st) (pl := (seekA F c n may hc cl (-1) st J).2.1 9) (le := (seekA F c n may hc cl (-1) st J).2.2.1) ⟨h0, hi.2.1⟩
          refine rnA_inv hW hr hn hm f _ _ _ (by omega) ?_ (by omega) (h3.app ⟨h0, hi.2.1, hi.2.2.1⟩ hl) hl
          rw [List.length_append]
          show ((Ms.length + 1 : Nat) : Int) ≤ _
          omega
        · rw [if_neg c2]
          exact rnA_inv hW hr hn hm f _ _ _ (by omega) (by omega) (by omega) h3 hl
