/-! MATCHES one behind the other -/
theorem nextA_cong {mo by_ st pl : Int} {le le' : Nat → Int} (h0 : 0 ≤ st) (h : ∀ k : Nat, st ≤ (k : Int) → (k : Int) < pl → le' k = le k) : nextA mo by_ st pl le' = nextA mo by_ st pl le := by
  have hi : ∀ i : Nat, i < (pl - st).toNat → le' (st + (i : Int)).toNat = le (st + (i : Int)).toNat := fun i hi => h _ (by omega) (by omega)
  have e : tgA mo by_ st le' (pl - st).toNat = tgA mo by_ st le (pl - st).toNat := by
    unfold tgA
    rw [frE_cong _ _ hi, lsE_cong _ _ hi]
  unfold nextA
  rw [e]
/-- no match at this start -/
def FaI (x : CX) (em k : Int) : Prop := fV x k ≤ 0 ∧ ¬ (fV x k = 0 ∧ em = 1) ∧ fV x k ≠ -7
def ChN (x : CX) (mo by_ em : Int) : Int → ML → Prop
  | _, [] => True
  | nx, (s, e, le) :: r => (nx ≤ s ∧ s ≤ x.2.2.1 ∧ fV x s = e - s ∧ s ≤ e) ∧ (em = 0 → s < e) ∧ (∀ k, nx ≤ k → k < s → FaI x em k) ∧ (∀ k : Nat, s ≤ (k : Int) → (k : Int) < e → le k = wV x s ((k : Int) - s)) ∧ ChN x mo by_ em (nextA mo by_ s e le) r
abbrev rnX (x : CX) (mo by_ em : Int) (f : Nat) (st : Int) (Ms : ML) (J : SJ) : Int × ML × SJ := rnA x.1 x.2.1 x.2.2.1 800 x.2.2.2.1 x.2.2.2.2 mo by_ em f st Ms J
section RNI
variable {x : CX} {mo by_ em : Int}
theorem rn_seek (h : CxO x) {st : Int} (hs : 0 ≤ st ∧ st ≤ x.2.2.1) (J : SJ) : (skJ x (-1) st J).1 = (skA x (-1) st).1 ∧ (skJ x (-1) st J).2.1 9 = (skA x (-1) st).2.1 9 ∧ ∀ k : Nat, st ≤ (k : Int) → (k : Int) < (skA x (-1) st).2.1 9 → (skJ x (-1) st J).2.2.1 k = (skA x (-1) st).2.2.1 k := by
  have e := sk_LE h hs (-1) J
  have v := sk_inv h hs (-1)
  exact ⟨e.1, by rw [e.2.1], fun k a b => e.2.2.2.2 k (by rw [v.2]; exact a) b⟩
theorem rn_ind (h : CxO x) : ∀ (f : Nat) (st : Int) (Ms Ms' : ML) (J J' : SJ), 0 ≤ st → Ms.length = Ms'.length → (rnX x mo by_ em f st Ms' J').1 = (rnX x mo by_ em f st Ms J).1 ∧ (rnX x mo by_ em f st Ms' J').2.1.length = (rnX x mo by_ em f st Ms J).2.1.length
  | 0, st, Ms, Ms', J, J', h0, hl => ⟨rfl, hl.symm⟩
  | f + 1, st, Ms, Ms', J, J', h0, hl => by
    by_cases c0 : x.2.2.1 < st
    · show (rnA _ _ _ _ _ _ _ _ _ _ _ _ _).1 = (rnA _ _ _ _ _ _ _ _ _ _ _ _ _).1 ∧ (rnA _ _ _ _ _ _ _ _ _ _ _ _ _).2.1.length = (rnA _ _ _ _ _ _ _ _ _ _ _ _ _).2.1.length
      rw [rnA_end c0, rnA_end c0]; exact ⟨rfl, hl.symm⟩
    · have hs : 0 ≤ st ∧ st ≤ x.2.2.1 := ⟨h0, by omega⟩
      obtain ⟨a1, a2, a3⟩ := rn_seek h hs J
      obtain ⟨b1, b2, b3⟩ := rn_seek h hs J'
      have v := sk_inv h hs (-1)
      show (rnA _ _ _ _ _ _ _ _ _ _ _ _ _).1 = (rnA _ _ _ _ _ _ _ _ _ _ _ _ _).1 ∧ (rnA _ _ _ _ _ _ _ _ _ _ _ _ _).2.1.length = (rnA _ _ _ _ _ _ _ _ _ _ _ _ _).2.1.length
      by_cases c1 : (skA x (-1) st).1 = -7
      · rw [rnA_7 c0 rfl (a1.trans c1), rnA_7 c0 rfl (b1.trans c1)]; exact ⟨rfl, hl.symm⟩
      · by_cases c2 : (skA x (-1) st).1 = 1 ∧ (st < (skA x (-1) st).2.1 9 ∨ em = 1)
        · rw [rnA_m c0 rfl (fun z => c1 (a1.symm.trans z)) ⟨a1.trans c2.1, by rw [show (seekA x.1 x.2.1 x.2.2.1 800 x.2.2.2.1 x.2.2.2.2 (-1) st J).2.1 9 = _ from a2]; exact c2.2⟩, rnA_m c0 rfl (fun z => c1 (b1.symm.trans z)) ⟨b1.trans c2.1, by rw [show (seekA x.1 x.2.1 x.2.2.1 800 x.2.2.2.1 x.2.2.2.2 (-1) st J').2.1 9 = _ from b2]; exact c2.2⟩]
          have e9 : st ≤ (skA x (-1) st).2.1 9 := by
            rcases v.1 with z | z
            · exact absurd z c1
            · exact z.2.1
          have en : nextA mo by_ st ((seekA x.1 x.2.1 x.2.2.1 800 x.2.2.2.1 x.2.2.2.2 (-1) st J').2.1 9) (seekA x.1 x.2.1 x.2.2.1 800 x.2.2.2.1 x.2.2.2.2 (-1) st J').2.2.1 = nextA mo by_ st ((seekA x.1 x.2.1 x.2.2.1 800 x.2.2.2.1 x.2.2.2.2 (-1) st J).2.1 9) (seekA x.1 x.2.1 x.2.2.1 800 x.2.2.2.1 x.2.2.2.2 (-1) st J).2.2.1 := by
            rw [show (seekA x.1 x.2.1 x.2.2.1 800 x.2.2.2.1 x.2.2.2.2 (-1) st J').2.1 9 = _ from b2, show (seekA x.1 x.2.1 x.2.2.1 800 x.2.2.2.1 x.2.2.2.2 (-1) st J).2.1 9 = _ from a2]
            exact nextA_cong h0 fun k p q => (b3 k p q).trans (a3 k p q).symm
          rw [en]
          have hb := nextA_b (mo := mo) (by_ := by_) (st := st) (pl := (seekA x.1 x.2.1 x.2.2.1 800 x.2.2.2.1 x.2.2.2.2 (-1) st J).2.1 9) (le := (seekA x.1 x.2.1 x.2.2.1 800 x.2.2.2.1 x.2.2.2.2 (-1) st J).2.2.1) ⟨h0, by rw [show (seekA x.1 x.2.1 x.2.2.1 800 x.2.2.2.1 x.2.2.2.2 (-1) st J).2.1 9 = _ from a2]; exact e9⟩
          exact rn_ind h f _ _ _ _ _ (by omega) (by rw [List.length_append, List.length_append, hl]; rfl)
        · rw [rnA_n c0 rfl (fun z => c1 (a1.symm.trans z)) (fun z => c2 ⟨a1.symm.trans z.1, by rw [← a2]; exact z.2⟩), rnA_n c0 rfl (fun z => c1 (b1.symm.trans z)) (fun z => c2 ⟨b1.symm.trans z.1, by rw [← b2]; exact z.2⟩)]
          exact rn_ind h f _ _ _ _ _ (by omega) hl
theorem rn_chn (h : CxO x) : ∀ (f : Nat) (st : Int) (Ms : ML) (J : SJ) (nx : Int), 0 ≤ nx → nx ≤ st → (∀ k, nx ≤ k → k < st → FaI x em k) → ∃ r, (rnX x mo by_ em f st Ms J).2.1 = Ms ++ r ∧ ChN x mo by_ em nx r
  | 0, st, Ms, J, nx, _, _, _ => ⟨[], (List.append_nil _).symm, trivial⟩
  | f + 1, st, Ms, J, nx, hn, h0, hf => by
    by_cases c0 : x.2.2.1 < st
    · exact ⟨[], by rw [List.append_nil]; show (rnA _ _ _ _ _ _ _ _ _ _ _ _ _).2.1 = _; rw [rnA_end c0], trivial⟩
    · have hs : 0 ≤ st ∧ st ≤ x.2.2.1 := ⟨by omega, by omega⟩
      have a1 := fir_any h hs J
      have aw := way_any h hs J
      have v := (seekA_inv (hc := x.2.2.2.1) (cl := x.2.2.2.2) (e := -1) (J := J) (may := 800) h.1 h.2.1 ⟨hs.1, hs.2, h.2.2.1.2⟩ (by omega))
      unfold firV at a1
      by_cases c1 : (skJ x (-1) st J).1 = -7
      · exact ⟨[], by rw [List.append_nil]; show (rnA _ _ _ _ _ _ _ _ _ _ _ _ _).2.1 = _; rw [rnA_7 c0 rfl c1], trivial⟩
      · rw [if_neg c1] at a1
        have v := v.resolve_left c1
        by_cases c2 : (skJ x (-1) st J).1 = 1 ∧ (st < (skJ x (-1) st J).2.1 9 ∨ em = 1)
        · rw [if_pos c2.1] at a1
          have hb := nextA_b (mo := mo) (by_ := by_) (st := st) (pl := (skJ x (-1) st J).2.1 9) (le := (skJ x (-1) st J).2.2.1) ⟨hs.1, v.2.1⟩
          obtain ⟨r, r1, r2⟩ := rn_chn h f (nextA mo by_ st ((skJ x (-1) st J).2.1 9) (skJ x (-1) st J).2.2.1) (Ms ++ [(st, (skJ x (-1) st J).2.1 9, (skJ x (-1) st J).2.2.1)]) (skJ x (-1) st J).2 (nextA mo by_ st ((skJ x (-1) st J).2.1 9) (skJ x (-1) st J).2.2.1) (by omega) (Int.le_refl _) (fun k p q => by omega)
          refine ⟨(st, (skJ x (-1) st J).2.1 9, (skJ x (-1) st J).2.2.1) :: r, ?_, ⟨h0, hs.2, a1.symm, v.2.1⟩, fun e0 => by omega, hf, fun k p q => ?_, r2⟩
          · show (rnA _ _ _ _ _ _ _ _ _ _ _ _ _).2.1 = _
            rw [rnA_m c0 rfl c1 c2]
            refine r1.trans ?_
            rw [List.append_assoc]; rfl
          · have w := aw ((k : Int) - st)
            unfold wayV at w
            rw [if_neg c1, if_pos ⟨c2.1, by omega, by omega⟩, show (st + ((k : Int) - st)).toNat = k by omega] at w
            exact w
        · obtain ⟨r, r1, r2⟩ := rn_chn h f (st + 1) Ms (skJ x (-1) st J).2 nx hn (by omega) (fun k p q => by
            by_cases e : k = st
            · rw [e]
              unfold FaI
              rw [← a1]
              by_cases d : (skJ x (-1) st J).1 = 1
              · rw [if_pos d]
                have d2 : ¬ (st < (skJ x (-1) st J).2.1 9 ∨ em = 1) := fun z => c2 ⟨d, z⟩
                have v2 : st ≤ (skJ x (-1) st J).2.1 9 := v.2.1
                have d3 : ¬ em = 1 := fun z => d2 (Or.inr z)
                have d4 : ¬ st < (skJ x (-1) st J).2.1 9 := fun z => d2 (Or.inl z)
                exact ⟨by omega, fun z => d3 z.2, by omega⟩
              · rw [if_neg d]; exact ⟨by omega, by omega, by omega⟩
            · exact hf k p (by omega))
          refine ⟨r, ?_, r2⟩
          show (rnA _ _ _ _ _ _ _ _ _ _ _ _ _).2.1 = _
          rw [rnA_n c0 rfl c1 c2]
          exact r1
theorem chn_nx {nx s e : Int} {le : Nat → Int} {r : ML} (h : ChN x mo by_ em nx ((s, e, le) :: r)) (h0 : 0 ≤ nx) : s < nextA mo by_ s e le := (nextA_b ⟨by have := h.1.1; omega, h.1.2.2.2⟩).1
theorem chn_len : ∀ (r : ML) (nx : Int), 0 ≤ nx → ChN x mo by_ em nx r → r = [] ∨ nx + (r.length : Int) ≤ x.2.2.1 + 1
  | [], _, _, _ => Or.inl rfl
  | (s, e, le) :: r, nx, h0, h => by
    have hx := chn_nx h h0
    have h1 := h.1
    rcases chn_len r _ (by omega) h.2.2.2.2 with rfl | i
    · exact Or.inr (by show nx + ((0 + 1 : Nat) : Int) ≤ _; omega)
    · exact Or.inr (by show nx + ((r.length + 1 : Nat) : Int) ≤ _; omega)
theorem chn_mem (hx : CxO x) : ∀ (r : ML) (nx : Int), 0 ≤ nx → ChN x mo by_ em nx r → ∀ q ∈ r, (0 ≤ q.1 ∧ q.1 ≤ q.2.1 ∧ q.2.1 ≤ x.2.2.1) ∧ ∀ k : Nat, q.1 ≤ (k : Int) → (k : Int) < q.2.1 → 0 ≤ q.2.2 k ∧ q.2.2 k ≤ 25
  | [], _, _, _ => fun q hq => absurd hq List.not_mem_nil
  | (s, e, le) :: r, nx, h0, h => fun q hq => by
    have hn := chn_nx h h0
    obtain ⟨h1, h2, h3, h4, h5⟩ := h
    rcases List.mem_cons.mp hq with rfl | hq
    · have hf := can_first hx (st := s) ⟨by omega, h1.2.1⟩
      rcases hf with hf | hf | hf
      · omega
      · omega
      · refine ⟨⟨by show 0 ≤ s; omega, h1.2.2.2, by show e ≤ _; have := hf.1.2; omega⟩, fun k a b => ?_⟩
        have a : s ≤ (k : Int) := a
        have b : (k : Int) < e := b
        have := hf.2.1 ((k : Int) - s) (by omega) (by omega)
        show 0 ≤ le k ∧ le k ≤ 25
        rw [h4 k a b]
        exact ⟨this.1, this.2.1⟩
    · exact chn_mem hx r _ (by omega) h5 q hq
end RNI
/-! the next start, as the law works it out -/
/-- the last row with the letter, so far -/
def G3 (by_ s : Int) (le : Nat → Int) (k : Nat) : Int := if s < lsE le by_ k s then lsE le by_ k s else s + 1
theorem G3_s {by_ s : Int} {le : Nat → Int} (h0 : 0 ≤ s) (k : Nat) : G3 by_ s le (k + 1) = if le (s + (k : Int)).toNat = by_ ∧ G3 by_ s le k < s + (k : Int) then s + (k : Int) else G3 by_ s le k := by
  have e : lsE le by_ (k + 1) s = if le (s + (k : Int)).toNat = by_ then s + (k : Int) else lsE le by_ k s := rfl
  have b := lsE_lo le by_ k s h0
  unfold G3
  rw [e]
  by_cases c : le (s + (k : Int)).toNat = by_
  · rw [if_pos c]
    by_cases d : s < lsE le by_ k s
    · rw [if_pos d, if_pos (by omega), if_pos ⟨c, by omega⟩]
    · rw [if_neg d]
      by_cases g : s < s + (k : Int)
      · rw [if_pos g]
        by_cases g2 : s + 1 < s + (k : Int)
        · rw [if_pos ⟨c, g2⟩]
        · rw [if_neg (fun z => g2 z.2)]; omega
      · rw [if_neg g, if_neg (fun z => by have := z.2; omega)]
  · rw [if_neg c, if_neg (show ¬ (le (s + (k : Int)).toNat = by_ ∧ (if s < lsE le by_ k s then lsE le by_ k s else s + 1) < s + (k : Int)) from fun z => c z.1)]
/-- the first row with the letter, from here on -/
def G2 (by_ s : Int) (le : Nat → Int) (d : Nat) (r : Int) : Int := if 0 ≤ frE le by_ d r then frE le by_ d r else s + 1
theorem G2_s {by_ s r : Int} {le : Nat → Int} (h0 : 0 ≤ r) (d : Nat) : G2 by_ s le (d + 1) r = if le r.toNat = by_ then r else G2 by_ s le d (r + 1) := by
  have e : frE le by_ (d + 1) r = if le r.toNat = by_ then r else frE le by_ d (r + 1) := rfl
  unfold G2
  rw [e]
  by_cases c : le r.toNat = by_
  · rw [if_pos c, if_pos h0, if_pos c]
  · rw [if_neg c, if_neg c]
theorem next_0 {by_ s e : Int} {le : Nat → Int} : nextA 0 by_ s e le = if s < e then e else s + 1 := if_pos rfl
theorem next_1 {by_ s e : Int} {le : Nat → Int} : nextA 1 by_ s e le = s + 1 := by unfold nextA; rw [if_neg (by decide), if_pos rfl]
theorem next_2 {by_ s e : Int} {le : Nat → Int} (h0 : 0 ≤ s) : nextA 2 by_ s e le = if s < G2 by_ s le (e - s).toNat s then G2 by_ s le (e - s).toNat s else s + 1 := by
  have b := frE_lo le by_ (e - s).toNat s h0
  have t : tgA 2 by_ s le (e - s).toNat = frE le by_ (e - s).toNat s := if_pos rfl
  unfold nextA
  rw [if_neg (by decide), if_neg (by decide), t]
  unfold G2
  by_cases c : 0 ≤ frE le by_ (e - s).toNat s
  · rw [if_pos c]
  · rw [if_neg c, if_neg (by omega), if_pos (by omega)]
theorem next_3 {by_ s e : Int} {le : Nat → Int} : nextA 3 by_ s e le = G3 by_ s le (e - s).toNat := by
  have t : tgA 3 by_ s le (e - s).toNat = lsE le by_ (e - s).toNat s := if_neg (by decide)
  unfold nextA
  rw [if_neg (by decide), if_neg (by decide), t]
  rfl
