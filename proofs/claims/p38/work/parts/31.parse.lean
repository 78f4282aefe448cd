/-! what the parser's function makes: places, counts, chains of parts -/
theorem cS_lt {tx : Nat → Int} {n : Nat} {S : PS} (h : cS tx n S ≠ -1) : S.1 = true ∧ S.2.1 < n := by
  unfold cS at h
  by_cases h1 : S.1 = true
  · rw [if_pos h1] at h
    unfold chT at h
    by_cases h2 : S.2.1 < n
    · exact ⟨h1, h2⟩
    · rw [if_neg h2] at h; exact absurd rfl h
  · rw [if_neg h1] at h; exact absurd rfl h
theorem take_fact {tx : Nat → Int} {n : Nat} {S : PS} {c : Int} (hc : c ≠ -1) : (S.2.1 ≤ n → (takeP tx n S c).2.1 ≤ n) ∧ ((takeP tx n S c).1 = true → S.1 = true ∧ cS tx n S = c ∧ takeP tx n S c = advP S) := by
  unfold takeP
  by_cases h : cS tx n S = c
  · rw [if_pos h]
    have := cS_lt (tx := tx) (n := n) (S := S) (by rw [h]; exact hc)
    exact ⟨fun _ => this.2, fun _ => ⟨this.1, h, rfl⟩⟩
  · rw [if_neg h]
    exact ⟨fun h => h, fun h => by cases h⟩
theorem num_fact (tx : Nat → Int) (n : Nat) (S : PS) : (S.2.1 ≤ n → (numP tx n S).2.2.1 ≤ n) ∧ 0 ≤ (numP tx n S).1 ∧ (numP tx n S).1 ≤ 99 ∧ (numP tx n S).2.2.2 = S.2.2 ∧ ((numP tx n S).2.1 = true → S.1 = true ∧ S.2.1 < (numP tx n S).2.2.1) := by
  unfold numP
  by_cases h : isDg (cS tx n S)
  · rw [if_pos h]
    have h1 := cS_lt (tx := tx) (n := n) (S := S) (by unfold isDg at h; omega)
    by_cases h2 : isDg (cS tx n (advP S))
    · rw [if_pos h2]
      have h3 := cS_lt (tx := tx) (n := n) (S := advP S) (by unfold isDg at h2; omega)
      unfold isDg at h h2
      refine ⟨fun _ => h3.2, ?_, ?_, rfl, fun _ => ⟨h1.1, ?_⟩⟩
      · show 0 ≤ 10 * (cS tx n S - 48) + (cS tx n (advP S) - 48); omega
      · show 10 * (cS tx n S - 48) + (cS tx n (advP S) - 48) ≤ 99; omega
      · show S.2.1 < S.2.1 + 1 + 1; omega
    · rw [if_neg h2]
      unfold isDg at h
      refine ⟨fun _ => h1.2, ?_, ?_, rfl, fun _ => ⟨h1.1, ?_⟩⟩
      · show 0 ≤ cS tx n S - 48; omega
      · show cS tx n S - 48 ≤ 99; omega
      · show S.2.1 < S.2.1 + 1; omega
  · rw [if_neg h]
    exact ⟨fun h => h, by show (0 : Int) ≤ 0; decide, by show (0 : Int) ≤ 99; decide, rfl, fun h => by cases h⟩
theorem curl_fact (tx : Nat → Int) (n : Nat) (S : PS) (h0 : cS tx n S = 123) : ((curlP tx n S).2.2.2.1 ≤ n) ∧ (curlP tx n S).2.2.2.2 = S.2.2 ∧ 0 ≤ (curlP tx n S).1 ∧ (curlP tx n S).1 ≤ 99 ∧ 0 ≤ (curlP tx n S).2.1 ∧ (curlP tx n S).2.1 ≤ 100 ∧ ((curlP tx n S).2.2.1 = true → S.1 = true ∧ S.2.1 + 2 < (curlP tx n S).2.2.2.1 ∧ 1 ≤ (curlP tx n S).2.1 ∧ (curlP tx n S).1 ≤ (curlP tx n S).2.1) := by
  have h1 := cS_lt (tx := tx) (n := n) (S := S) (by omega)
  have ha : (advP S).2.1 ≤ n := h1.2
  obtain ⟨n1, n2, n3, n4, n5⟩ := num_fact tx n (advP S)
  unfold curlP
  generalize numP tx n (advP S) = r at *
  by_cases h2 : cS tx n r.2 = 44
  · rw [if_pos h2]
    have h3 := cS_lt (tx := tx) (n := n) (S := r.2) (by omega)
    have hb : (advP r.2).2.1 ≤ n := h3.2
    have hm := n5 h3.1
    by_cases h4 : isDg (cS tx n (advP r.2))
    · rw [if_pos h4]
      obtain ⟨m1, m2, m3, m4, m5⟩ := num_fact tx n (advP r.2)
      have e2 : (advP r.2).2.2 = r.2.2.2 := rfl
      generalize numP tx n (advP r.2) = q at *
      simp only
      have t := take_fact (tx := tx) (n := n) (S := if q.1 = 0 ∨ q.1 < r.1 then badAt q.2 (advP r.2).2.1 else q.2) (c := 125) (by decide)
      by_cases h5 : q.1 = 0 ∨ q.1 < r.1
      · rw [if_pos h5] at t ⊢
        have hbad : (badAt q.2 (advP r.2).2.1).1 = false := by
          unfold badAt
          by_cases h6 : q.2.1 = true
          · rw [if_pos h6]
          · rw [if_neg h6]; exact Bool.eq_false_iff.mpr h6
        have hpos : (badAt q.2 (advP r.2).2.1).2.1 ≤ n ∧ (badAt q.2 (advP r.2).2.1).2.2 = q.2.2.2 := by
          unfold badAt
          by_cases h6 : q.2.1 = true
          · rw [if_pos h6]; exact ⟨hb, rfl⟩
          · rw [if_neg h6]; exact ⟨m1 hb, rfl⟩
        rw [take_dead (by decide) hbad]
        exact ⟨hpos.1, by rw [hpos.2, m4, e2, n4]; rfl, n2, n3, m2, by omega, fun h => by rw [hbad] at h; cases h⟩
      · rw [if_neg h5] at t ⊢
        refine ⟨t.1 (m1 hb), ?_, n2, n3, m2, by omega, fun h => ?_⟩
        · unfold takeP
          by_cases h6 : cS tx n q.2 = 125
          · rw [if_pos h6]; show q.2.2.2 = _; rw [m4, e2, n4]; rfl
          · rw [if_neg h6]; show q.2.2.2 = _; rw [m4, e2, n4]; rfl
        · obtain ⟨t1, -, t2⟩ := t.2 h
          have m6 := m5 t1
          rw [t2]
          refine ⟨h1.1, ?_, by omega, by omega⟩
          have e3 : (advP r.2).2.1 = r.2.2.1 + 1 := rfl
          have e4 : (advP S).2.1 = S.2.1 + 1 := rfl
          have e5 : (advP q.2).2.1 = q.2.2.1 + 1 := rfl
          omega
    · rw [if_neg h4]
      have t := take_fact (tx := tx) (n := n) (S := advP r.2) (c := 125) (by decide)
      simp only
      refine ⟨t.1 hb, ?_, n2, n3, by decide, by decide, fun h => ?_⟩
      · unfold takeP
        by_cases h6 : cS tx n (advP r.2) = 125
        · rw [if_pos h6]; show r.2.2.2 = _; rw [n4]; rfl
        · rw [if_neg h6]; show r.2.2.2 = _; rw [n4]; rfl
      · obtain ⟨t1, -, t2⟩ := t.2 h
        rw [t2]
        refine ⟨h1.1, ?_, by decide, by omega⟩
        have e3 : (advP r.2).2.1 = r.2.2.1 + 1 := rfl
        have e4 : (advP S).2.1 = S.2.1 + 1 := rfl
        have e5 : (advP (advP r.2)).2.1 = r.2.2.1 + 1 + 1 := rfl
        omega
  · rw [if_neg h2]
    simp only
    have t := take_fact (tx := tx) (n := n) (S := if r.1 = 0 then badP r.2 else r.2) (c := 125) (by decide)
    by_cases h5 : r.1 = 0
    · rw [if_pos h5] at t ⊢
      rw [take_dead (by decide) rfl]
      exact ⟨n1 ha, n4, n2, n3, n2, by omega, fun h => by cases h⟩
    · rw [if_neg h5] at t ⊢
      refine ⟨t.1 (n1 ha), ?_, n2, n3, n2, by omega, fun h => ?_⟩
      · unfold takeP
        by_cases h6 : cS tx n r.2 = 125
        · rw [if_pos h6]; show r.2.2.2 = _; rw [n4]; rfl
        · rw [if_neg h6]; show r.2.2.2 = _; rw [n4]; rfl
      · obtain ⟨t1, -, t2⟩ := t.2 h
        have n6 := n5 t1
        rw [t2]
        refine ⟨h1.1, ?_, by omega, by omega⟩
        have e4 : (advP S).2.1 = S.2.1 + 1 := rfl
        have e5 : (advP r.2).2.1 = r.2.2.1 + 1 := rfl
        omega
def Pth (F : Tb) (lo hi : Int) : Nat → Int → Int → Prop
  | 0, _, _ => False
  | 1, k, l => k = l ∧ lo ≤ k ∧ k < hi
  | q + 2, k, l => lo ≤ k ∧ k < hi ∧ k < F k.toNat 8 ∧ Pth F lo hi (q + 1) (F k.toNat 8) l
theorem Pth.bd {F : Tb} {lo hi : Int} : ∀ {q : Nat} {k l : Int}, Pth F lo hi q k l → lo ≤ k ∧ k ≤ l ∧ l < hi ∧ 1 ≤ q ∧ (1 < q → k < l)
  | 0, _, _, h => h.elim
  | 1, k, l, h => by obtain ⟨rfl, h1, h2⟩ := h; exact ⟨h1, by omega, h2, by omega, by omega⟩
  | q + 2, k, l, h => by
    obtain ⟨h1, h2, h3, h4⟩ := h
    have := Pth.bd h4
    exact ⟨h1, by omega, by omega, by omega, by omega⟩
theorem Pth.mono {F F' : Tb} {lo hi hi' : Int} (h0 : 0 ≤ lo) (hh : hi ≤ hi') : ∀ {q : Nat} {k l : Int}, (∀ p : Nat, lo ≤ (p : Int) → (p : Int) < l → F' p 8 = F p 8) → Pth F lo hi q k l → Pth F' lo hi' q k l
  | 0, _, _, _, h => h.elim
  | 1, k, l, _, h => by obtain ⟨rfl, h1, h2⟩ := h; exact ⟨rfl, h1, by omega⟩
  | q + 2, k, l, hF, h => by
    obtain ⟨h1, h2, h3, h4⟩ := h
    have b := Pth.bd h4
    have e : F' k.toNat 8 = F k.toNat 8 := hF _ (by omega) (by omega)
    refine ⟨h1, by omega, by rw [e]; exact h3, ?_⟩
    rw [e]
    exact Pth.mono h0 hh hF h4
theorem Pth.link {F : Tb} {lo hi hi' : Int} (h0 : 0 ≤ lo) {x : Int} (hx : hi ≤ x) (hx' : x < hi') : ∀ {q : Nat} {k l : Int}, Pth F lo hi q k l → Pth (up2 F l.toNat 8 x) lo hi' (q + 1) k x
  | 0, _, _, h => h.elim
  | 1, k, l, h => by
    obtain ⟨rfl, h1, h2⟩ := h
    refine ⟨h1, by omega, ?_, ?_⟩
    · rw [up2_s]; omega
    · rw [up2_s]; exact ⟨rfl, by omega, hx'⟩
  | q + 2, k, l, h => by
    obtain ⟨h1, h2, h3, h4⟩ := h
    have b := Pth.bd h4
    have e : up2 F l.toNat 8 x k.toNat 8 = F k.toNat 8 := up2_no (by omega)
    refine ⟨h1, by omega, by rw [e]; exact h3, ?_⟩
    rw [e]
    exact Pth.link h0 hx hx' h4
theorem wiT_w {w : Nat} (hw : w ≠ 6) (p' : Nat) : ∀ (q : Nat) (k : Int) (p : Nat) (F : Tb), wiT q k p F p' w = F p' w
  | 0, _, _, _ => rfl
  | q + 1, k, p, F => by
    show wiT q (F k.toNat 8) p (up2 F k.toNat 6 p) p' w = _
    rw [wiT_w hw p' q]
    exact up2_nk hw
theorem wiT_lo {lo hi : Int} (h0 : 0 ≤ lo) (w : Nat) {p' : Nat} : ∀ {q : Nat} {k l : Int} {p : Nat} {F : Tb}, Pth F lo hi q k l → ((p' : Int) < lo ∨ hi ≤ (p' : Int)) → wiT q k p F p' w = F p' w
  | 0, _, _, _, _, h, _ => h.elim
  | 1, k, l, p, F, h, hp => by
    obtain ⟨rfl, h1, h2⟩ := h
    show up2 F k.toNat 6 p p' w = _
    exact up2_no (by omega)
  | q + 2, k, l, p, F, h, hp => by
    obtain ⟨h1, h2, h3, h4⟩ := h
    show wiT (q + 1) (F k.toNat 8) p (up2 F k.toNat 6 p) p' w = _
    rw [wiT_lo (lo := lo) (hi := hi) h0 w (l := l) (Pth.mono h0 (Int.le_refl _) (fun p _ _ => up2_nk (by decide)) h4) hp]
    exact up2_no (by omega)
def Nice (n : Nat) (S : PS) (R : Int × PS) : Prop := (S.2.1 ≤ n → R.2.2.1 ≤ n) ∧ (R.2.1 = true → S.1 = true ∧ S.2.1 < R.2.2.1 ∧ S.2.2.1 < R.2.2.2.1 ∧ R.2.2.2.1 + 1 + 2 * S.2.1 ≤ S.2.2.1 + 2 * R.2.2.1 ∧ (S.2.2.1 : Int) ≤ R.1 ∧ R.1 < R.2.2.2.1 ∧ R.2.2.2.2 R.1.toNat 8 = -5 ∧ ∀ p, p < S.2.2.1 → ∀ w, R.2.2.2.2 p w = S.2.2.2 p w)
theorem mkT_ne {F : Tb} {p q w : Nat} {a b c d : Int} {g : Nat → Int} (h : q ≠ p) : mkT F p a b c d g q w = F q w := if_neg h
theorem mkT_8 {F : Tb} {p : Nat} {a b c d : Int} {g : Nat → Int} : mkT F p a b c d g p 8 = -5 := by
  unfold mkT; simp
theorem leaf_nice {tx : Nat → Int} {n : Nat} {S : PS} {a b : Int} (h : cS tx n S ≠ -1) : Nice n S (leafP S a b) := by
  have h1 := cS_lt h
  refine ⟨fun _ => h1.2, fun _ => ⟨h1.1, ?_, ?_, ?_, ?_, ?_, ?_, ?_⟩⟩
  · show S.2.1 < S.2.1 + 1; omega
  · show S.2.2.1 < S.2.2.1 + 1; omega
  · show S.2.2.1 + 1 + 1 + 2 * S.2.1 ≤ S.2.2.1 + 2 * (S.2.1 + 1); omega
  · exact Int.le_refl _
  · show (S.2.2.1 : Int) < ((S.2.2.1 + 1 : Nat) : Int); omega
  · show mkT S.2.2.2 S.2.2.1 a b 0 (-5) (fun w => if w = 11 then 1 else 0) ((S.2.2.1 : Int)).toNat 8 = -5
    rw [Int.toNat_natCast]
    exact mkT_8
  · intro p hp w
    show mkT S.2.2.2 S.2.2.1 a b 0 (-5) (fun w => if w = 11 then 1 else 0) p w = _
    exact mkT_ne (by omega)
def LpI (n : Nat) (S : PS) (k : Int) (q : Nat) (l : Int) (U : PS) : Prop := (S.2.1 ≤ n → U.2.1 ≤ n) ∧ (U.1 = true → S.1 = true ∧ S.2.1 < U.2.1 ∧ U.2.2.1 + q + 2 * S.2.1 ≤ S.2.2.1 + 2 * U.2.1 ∧ q ≤ U.2.1 ∧ Pth U.2.2.2 S.2.2.1 U.2.2.1 q k l ∧ U.2.2.2 l.toNat 8 = -5 ∧ ∀ p, p < S.2.2.1 → ∀ w, U.2.2.2 p w = S.2.2.2 p w)
theorem LpI.one {n : Nat} {S : PS} {R : Int × PS} (h : Nice n S R) : LpI n S R.1 1 R.1 R.2 := by
  refine ⟨h.1, fun hw => ?_⟩
  obtain ⟨h1, h2, h3, h4, h5, h6, h7, h8⟩ := h.2 hw
  exact ⟨h1, h2, by omega, by omega, ⟨rfl, h5, h6⟩, h7, h8⟩
theorem LpI.more {n : Nat} {S U V : PS} {k l : Int} {q : Nat} {R : Int × PS} (h : LpI n S k q l U) (hU : U.1 = true) (hV : U.2.1 ≤ V.2.1 ∧ V.2.2 = U.2.2) (hn : V.2.1 ≤ n) (hN : Nice n V R) (hw : R.2.1 = true) : LpI n S k (q + 1) R.1 (lnkP R.2 l R.1) := by
  obtain ⟨h1, h2, h3, h4, h5, h6, h7⟩ := h.2 hU
  obtain ⟨r1, r2, r3, r4, r5, r6, r7, r8⟩ := hN.2 hw
  obtain ⟨v1, v2⟩ := hV
  have b := Pth.bd h5
  rw [v2] at r3 r4 r5 r8
  refine ⟨fun _ => hN.1 hn, fun _ => ⟨h1, ?_, ?_, ?_, ?_, ?_, ?_⟩⟩
  · show S.2.1 < R.2.2.1; omega
  · show R.2.2.2.1 + (q + 1) + 2 * S.2.1 ≤ S.2.2.1 + 2 * R.2.2.1; omega
  · show q + 1 ≤ R.2.2.1; omega
  · have hp : Pth R.2.2.2.2 S.2.2.1 U.2.2.1 q k l := Pth.mono (by omega) (Int.le_refl _) (fun p _ hp => r8 p (by omega) 8) h5
    exact Pth.link (by omega) r5 r6 hp
  · show up2 R.2.2.2.2 l.toNat 8 R.1 R.1.toNat 8 = -5
    rw [up2_no (by omega)]
    exact r7
  · intro p hp w
    show up2 R.2.2.2.2 l.toNat 8 R.1 p w = _
    rw [up2_no (by omega), r8 p (by omega) w]
    exact h7 p hp w
theorem lpG_nice {tx : Nat → Int} {n : Nat} {cond : Int → Nat → Prop} [∀ x q, Decidable (cond x q)] {g : PS → Int × PS} {vv : PS → PS} (hg : ∀ S, Nice n S (g S)) (hv : ∀ (U : PS) (q : Nat), cond (cS tx n U) q → U.1 = true ∧ U.2.1 ≤ (vv U).2.1 ∧ (vv U).2.1 ≤ n ∧ (vv U).2.2 = U.2.2) {S : PS} {k : Int} : ∀ (f q : Nat) (l : Int) (U : PS), LpI n S k q l U → (S.2.1 ≤ n → (lpG tx n cond (fun S => g (vv S)) f q l U).2.2.1 ≤ n) ∧ ((lpG tx n cond (fun S => g (vv S)) f q l U).2.1 = true → ∃ l', LpI n S k (lpG tx n cond (fun S => g (vv S)) f q l U).1 l' (lpG tx n cond (fun S => g (vv S)) f q l U).2)
  | 0, q, l, U, h => ⟨h.1, fun _ => ⟨l, h⟩⟩
  | f + 1, q, l, U, h => by
    show (S.2.1 ≤ n → (if cond (cS tx n U) q then (if (g (vv U)).2.1 = true then lpG tx n cond (fun S => g (vv S)) f (q + 1) (g (vv U)).1 (lnkP (g (vv U)).2 l (g (vv U)).1) else (q, (g (vv U)).2)) else (q, U)).2.2.1 ≤ n) ∧ ((if cond (cS tx n U) q then (if (g (vv U)).2.1 = true then lpG tx n cond (fun S => g (vv S)) f (q + 1) (g (vv U)).1 (lnkP (g (vv U)).2 l (g (vv U)).1) else (q, (g (vv U)).2)) else (q, U)).2.1 = true → ∃ l', LpI n S k (if cond (cS tx n U) q then (if (g (vv U)).2.1 = true then lpG tx n cond (fun S => g (vv S)) f (q + 1) (g (vv U)).1 (lnkP (g (vv U)).2 l (g (vv U)).1) else (q, (g (vv U)).2)) else (q, U)).1 l' (if cond (cS tx n U) q then (if (g (vv U)).2.1 = true then lpG tx n cond (fun S => g (vv S)) f (q + 1) (g (vv U)).1 (lnkP (g (vv U)).2 l (g (vv U)).1) else (q, (g (vv U)).2)) else (q, U)).2)
    by_cases hc : cond (cS tx n U) q
    · rw [if_pos hc]
      obtain ⟨v0, v1, v2, v3⟩ := hv U q hc
      by_cases hw : (g (vv U)).2.1 = true
      · rw [if_pos hw]
        exact lpG_nice hg hv f (q + 1) _ _ (LpI.more h v0 ⟨v1, v3⟩ v2 (hg (vv U)) hw)
      · rw [if_neg hw]
        exact ⟨fun _ => (hg (vv U)).1 v2, fun e => absurd e hw⟩
    · rw [if_neg hc]
      exact ⟨h.1, fun _ => ⟨l, h⟩⟩
theorem rnd_8 {S : PS} {so k : Int} {q : Nat} : (rndP S so k q).2.2.2.2 S.2.2.1 8 = -5 := by
  show wiT q k S.2.2.1 _ S.2.2.1 8 = -5
  rw [wiT_w (by decide)]
  exact mkT_8
theorem rnd_nice {n : Nat} {S U : PS} {k l so : Int} {q : Nat} (h : LpI n S k q l U) (hU : U.1 = true) (h2q : 2 ≤ q) : Nice n S (rndP U so k q) := by
  obtain ⟨h1, h2, h3, h4, h5, h6, h7⟩ := h.2 hU
  have b := Pth.bd h5
  refine ⟨h.1, fun _ => ⟨h1, h2, ?_, ?_, ?_, ?_, ?_, ?_⟩⟩
  · show S.2.2.1 < U.2.2.1 + 1; omega
  · show U.2.2.1 + 1 + 1 + 2 * S.2.1 ≤ S.2.2.1 + 2 * U.2.1; omega
  · show (S.2.2.1 : Int) ≤ (U.2.2.1 : Int); omega
  · show (U.2.2.1 : Int) < ((U.2.2.1 + 1 : Nat) : Int); omega
  · show (rndP U so k q).2.2.2.2 ((U.2.2.1 : Int)).toNat 8 = -5
    rw [Int.toNat_natCast]
    exact rnd_8
  · intro p hp w
    show wiT q k U.2.2.1 (mkT U.2.2.2 U.2.2.1 so (-5) (q : Int) k (gT U.2.2.2 so k q)) p w = _
    rw [wiT_lo (lo := S.2.2.1) (hi := U.2.2.1) (by omega) w (l := l) (Pth.mono (by omega) (Int.le_refl _) (fun p _ _ => mkT_ne (by omega)) h5) (Or.inl (by omega)), mkT_ne (by omega)]
    exact h7 p hp w
theorem end_nice {n : Nat} {S : PS} {k l so : Int} {L : Nat × PS} (hp : S.2.1 ≤ n → L.2.2.1 ≤ n) (h : L.2.1 = true → ∃ l, LpI n S k L.1 l L.2) : Nice n S (endP L so k) := by
  unfold endP
  by_cases hc : L.2.1 = true ∧ 1 < L.1
  · rw [if_pos hc]
    obtain ⟨l, hl⟩ := h hc.1
    exact rnd_nice hl hc.1 hc.2
  · rw [if_neg hc]
    refine ⟨hp, fun hw => ?_⟩
    obtain ⟨l, hl⟩ := h hw
    obtain ⟨h1, h2, h3, h4, h5, h6, h7⟩ := hl.2 hw
    have b := Pth.bd h5
    have e1 : L.1 = 1 := by
      have : ¬ 1 < L.1 := fun h => hc ⟨hw, h⟩
      omega
    rw [e1] at h5
    obtain ⟨rfl, -, -⟩ := h5
    exact ⟨h1, h2, by show S.2.2.1 < L.2.2.2.1; omega, by show L.2.2.2.1 + 1 + 2 * S.2.1 ≤ S.2.2.1 + 2 * L.2.2.1; omega, b.1, b.2.2.1, h6, h7⟩
theorem rep_nice {tx : Nat → Int} {n : Nat} {S : PS} {A : Int × PS} (h : Nice n S A) : Nice n S (repP tx n A) := by
  unfold repP
  by_cases hc : cS tx n A.2 = 42 ∨ cS tx n A.2 = 43 ∨ cS tx n A.2 = 63 ∨ cS tx n A.2 = 123
  · rw [if_pos hc]
    have ht := cS_lt (tx := tx) (n := n) (S := A.2) (by omega)
    obtain ⟨h1, h2, h3, h4, h5, h6, h7, h8⟩ := h.2 ht.1
    have hq : (quantP tx n A.2).2.2.2.1 ≤ n ∧ (quantP tx n A.2).2.2.2.2 = A.2.2.2 ∧ ((quantP tx n A.2).2.2.1 = true → A.2.2.1 < (quantP tx n A.2).2.2.2.1) := by
      unfold quantP
      by_cases h9 : cS tx n A.2 = 123
      · rw [if_pos h9]
        obtain ⟨c1, c2, -, -, -, -, c3⟩ := curl_fact tx n A.2 h9
        exact ⟨c1, c2, fun e => by have := c3 e; omega⟩
      · rw [if_neg h9]
        exact ⟨ht.2, rfl, fun _ => Nat.lt_succ_self _⟩
    generalize quantP tx n A.2 = Q at hq ⊢
    obtain ⟨q1, q2, q3⟩ := hq
    by_cases hw : Q.2.2.1 = true
    · rw [if_pos hw]
      have q4 := q3 hw
      have key : ∀ (V : PS) (lo hi mo : Int), V.2.1 ≤ n → Q.2.2.2.1 ≤ V.2.1 → V.2.2 = A.2.2.2 → V.1 = true → Nice n S (timesP V A.1 lo hi mo) := by
        intro V lo hi mo v1 v2 v3 v4
        have hc' : V.2.2.1 = A.2.2.2.1 := by rw [v3]
        have hF : V.2.2.2 = A.2.2.2.2 := by rw [v3]
        have hP : Pth V.2.2.2 S.2.2.1 V.2.2.1 1 A.1 A.1 := ⟨rfl, h5, by omega⟩
        refine ⟨fun _ => v1, fun _ => ⟨h1, ?_, ?_, ?_, ?_, ?_, ?_, ?_⟩⟩
        · show S.2.1 < V.2.1; omega
        · show S.2.2.1 < V.2.2.1 + 1; omega
        · show V.2.2.1 + 1 + 1 + 2 * S.2.1 ≤ S.2.2.1 + 2 * V.2.1; omega
        · show (S.2.2.1 : Int) ≤ (V.2.2.1 : Int); omega
        · show (V.2.2.1 : Int) < ((V.2.2.1 + 1 : Nat) : Int); omega
        · show up2 (up2 (up2 (up2 _ _ _ _) _ _ _) _ _ _) _ _ _ ((V.2.2.1 : Int)).toNat 8 = -5
          rw [Int.toNat_natCast, up2_nk (by decide), up2_nk (by decide), up2_nk (by decide), up2_nk (by decide)]
          exact rnd_8
        · intro p hp w
          show up2 (up2 (up2 (up2 _ _ _ _) _ _ _) _ _ _) _ _ _ p w = _
          rw [up2_no (by omega), up2_no (by omega), up2_no (by omega), up2_no (by omega)]
          show wiT 1 A.1 V.2.2.1 (mkT V.2.2.2 V.2.2.1 5 (-5) ((1 : Nat) : Int) A.1 (gT V.2.2.2 5 A.1 1)) p w = _
          have hP1 : Pth (mkT V.2.2.2 V.2.2.1 5 (-5) ((1 : Nat) : Int) A.1 (gT V.2.2.2 5 A.1 1)) S.2.2.1 V.2.2.1 1 A.1 A.1 := ⟨rfl, h5, by omega⟩
          rw [wiT_lo (p' := p) (by omega) w hP1 (Or.inl (by omega)), mkT_ne (by omega), hF]
          exact h8 p hp w
      by_cases h9 : cS tx n Q.2.2 = 63
      · rw [if_pos h9]
        have := cS_lt (tx := tx) (n := n) (S := Q.2.2) (by omega)
        exact key _ _ _ _ this.2 (Nat.le_succ _) q2 hw
      · rw [if_neg h9]
        exact key _ _ _ _ q1 (Nat.le_refl _) q2 hw
    · rw [if_neg hw]
      exact ⟨fun _ => q1, fun e => absurd e hw⟩
  · rw [if_neg hc]
    exact h
theorem ser_nice {tx : Nat → Int} {n : Nat} {rep : PS → Int × PS} (hr : ∀ S, Nice n S (rep S)) (S : PS) : Nice n S (serP tx n rep S) := by
  unfold serP lstP
  have h := lpG_nice (tx := tx) (cond := cSer) (g := rep) (vv := id) hr (fun U q hc => by
    have := cS_lt (tx := tx) (n := n) (S := U) (by unfold cSer isAt1 at hc; omega)
    exact ⟨this.1, Nat.le_refl _, Nat.le_of_lt this.2, rfl⟩) (n + 1) 1 _ _ (LpI.one (hr S))
  exact end_nice h.1 h.2 (l := 0)
theorem alt_nice {tx : Nat → Int} {n : Nat} {ser : PS → Int × PS} (hr : ∀ S, Nice n S (ser S)) (S : PS) : Nice n S (altP tx n ser S) := by
  unfold altP lstP
  have h := lpG_nice (tx := tx) (cond := cAlt) (g := ser) (vv := advP) hr (fun U q hc => by
    have := cS_lt (tx := tx) (n := n) (S := U) (by unfold cAlt at hc; omega)
    exact ⟨this.1, Nat.le_succ _, this.2, rfl⟩) (n + 1) 1 _ _ (LpI.one (hr S))
  exact end_nice h.1 h.2 (l := 0)
theorem any_nice {tx : Nat → Int} {n : Nat} {sub : PS → Int × PS} (hr : ∀ S, Nice n S (sub S)) (S : PS) (h37 : cS tx n S = 37) : Nice n S (anyP tx n sub S) := by
  have h0 := cS_lt (tx := tx) (n := n) (S := S) (by omega)
  have t := take_fact (tx := tx) (n := n) (S := advP S) (c := 40) (by decide)
  have tn := t.1 h0.2
  have h := lpG_nice (tx := tx) (cond := cAny) (g := sub) (vv := advP) hr (fun U q hc => by
    have := cS_lt (tx := tx) (n := n) (S := U) (by unfold cAny at hc; omega)
    exact ⟨this.1, Nat.le_succ _, this.2, rfl⟩) (n + 1) 1 _ _ (LpI.one (hr (takeP tx n (advP S) 40)))
  have hL : anyL tx n sub S = lpG tx n cAny (fun S => sub (advP S)) (n + 1) 1 (sub (takeP tx n (advP S) 40)).1 (sub (takeP tx n (advP S) 40)).2 := rfl
  rw [← hL] at h
  unfold anyP
  generalize anyL tx n sub S = L at h ⊢
  have t2 := take_fact (tx := tx) (n := n) (S := if L.1 < 2 then badP L.2 else L.2) (c := 41) (by decide)
  have hp : (if L.1 < 2 then badP L.2 else L.2).2.1 ≤ n := by
    by_cases h2 : L.1 < 2
    · rw [if_pos h2]; exact h.1 tn
    · rw [if_neg h2]; exact h.1 tn
  have hE : (anyE tx n L).2.1 ≤ n := t2.1 hp
  by_cases hw : (anyE tx n L).1 = true
  · rw [if_pos hw]
    obtain ⟨a1, a2, a3⟩ := t2.2 hw
    have h2 : ¬ L.1 < 2 := fun h2 => by rw [if_pos h2] at a1; cases a1
    rw [if_neg h2] at a1 a2 a3
    obtain ⟨l', hl⟩ := h.2 a1
    have e3 : anyE tx n L = advP L.2 := by
      show takeP tx n (if L.1 < 2 then badP L.2 else L.2) 41 = _
      rw [if_neg h2]
      exact a3
    have hs := (hl.2 a1).1
    obtain ⟨b1, b2, b3⟩ := t.2 hs
    rw [e3]
    have e4 : (takeP tx n (advP S) 40).2.2 = S.2.2 := by rw [b3]; rfl
    have e5 : (takeP tx n (advP S) 40).2.1 = S.2.1 + 2 := by rw [b3]; rfl
    have hl2 : LpI n S (sub (takeP tx n (advP S) 40)).1 L.1 l' (advP L.2) := by
      obtain ⟨c1, c2, c3, c4, c5, c6, c7⟩ := hl.2 a1
      rw [e4] at c3 c5 c7
      rw [e5] at c2 c3
      refine ⟨fun _ => ?_, fun _ => ⟨h0.1, ?_, ?_, ?_, c5, c6, c7⟩⟩
      · rw [← e3]; exact hE
      · show S.2.1 < L.2.2.1 + 1; omega
      · show L.2.2.2.1 + L.1 + 2 * S.2.1 ≤ S.2.2.1 + 2 * (L.2.2.1 + 1); omega
      · show L.1 ≤ L.2.2.1 + 1; omega
    exact rnd_nice hl2 a1 (by omega)
  · rw [if_neg hw]
    exact ⟨fun _ => hE, fun e => absurd e hw⟩
theorem atom_nice {tx : Nat → Int} {n : Nat} {dp : Bool} {sub : PS → Int × PS} (hr : dp = true → ∀ S, Nice n S (sub S)) (S : PS) : Nice n S (atomP tx n dp sub S) := by
  unfold atomP
  by_cases h1 : 65 ≤ cS tx n S ∧ cS tx n S ≤ 90
  · rw [if_pos h1]; exact leaf_nice (tx := tx) (n := n) (S := S) (by omega)
  · rw [if_neg h1]
    by_cases h2 : cS tx n S = 94
    · rw [if_pos h2]; exact leaf_nice (tx := tx) (n := n) (S := S) (by omega)
    · rw [if_neg h2]
      by_cases h3 : cS tx n S = 36
      · rw [if_pos h3]; exact leaf_nice (tx := tx) (n := n) (S := S) (by omega)
      · rw [if_neg h3]
        by_cases h4 : cS tx n S = 40 ∧ dp = true
        · rw [if_pos h4]
          have h0 := cS_lt (tx := tx) (n := n) (S := S) (by omega)
          obtain ⟨n1, n2⟩ := hr h4.2 (advP S)
          have t := take_fact (tx := tx) (n := n) (S := (sub (advP S)).2) (c := 41) (by decide)
          refine ⟨fun _ => t.1 (n1 h0.2), fun hw => ?_⟩
          obtain ⟨t1, -, t3⟩ := t.2 hw
          obtain ⟨m1, m2, m3, m4, m5, m6, m7, m8⟩ := n2 t1
          have e1 : (advP S).2.1 = S.2.1 + 1 := rfl
          have e2 : (advP S).2.2 = S.2.2 := rfl
          rw [e1] at m2 m4
          rw [e2] at m3 m4 m5 m8
          show _ ∧ S.2.1 < (takeP tx n (sub (advP S)).2 41).2.1 ∧ S.2.2.1 < (takeP tx n (sub (advP S)).2 41).2.2.1 ∧ (takeP tx n (sub (advP S)).2 41).2.2.1 + 1 + 2 * S.2.1 ≤ S.2.2.1 + 2 * (takeP tx n (sub (advP S)).2 41).2.1 ∧ (S.2.2.1 : Int) ≤ (sub (advP S)).1 ∧ (sub (advP S)).1 < (takeP tx n (sub (advP S)).2 41).2.2.1 ∧ (takeP tx n (sub (advP S)).2 41).2.2.2 (sub (advP S)).1.toNat 8 = -5 ∧ ∀ p, p < S.2.2.1 → ∀ w, (takeP tx n (sub (advP S)).2 41).2.2.2 p w = S.2.2.2 p w
          rw [t3]
          refine ⟨h0.1, ?_, m3, ?_, m5, m6, m7, m8⟩
          · show S.2.1 < (sub (advP S)).2.2.1 + 1; omega
          · show (sub (advP S)).2.2.2.1 + 1 + 2 * S.2.1 ≤ S.2.2.1 + 2 * ((sub (advP S)).2.2.1 + 1); omega
        · rw [if_neg h4]
          by_cases h5 : cS tx n S = 37 ∧ dp = true
          · rw [if_pos h5]; exact any_nice (hr h5.2) S h5.1
          · rw [if_neg h5]
            exact ⟨fun h => h, fun e => by cases e⟩
theorem altL_nice (tx : Nat → Int) (n : Nat) : ∀ k S, Nice n S (altL tx n k S)
  | 0, S => alt_nice (fun S => ser_nice (fun S => rep_nice (atom_nice (fun h => by cases h) S)) S) S
  | k + 1, S => alt_nice (fun S => ser_nice (fun S => rep_nice (atom_nice (fun _ => altL_nice tx n k) S)) S) S
theorem subL_nice (tx : Nat → Int) (n k : Nat) (h : dpL k = true) (S : PS) : Nice n S (subL tx n k S) := by
  cases k with
  | zero => cases h
  | succ k => exact altL_nice tx n k S
theorem atoL_nice (tx : Nat → Int) (n k : Nat) (S : PS) : Nice n S (atoL tx n k S) := atom_nice (subL_nice tx n k) S
theorem repL_nice (tx : Nat → Int) (n k : Nat) (S : PS) : Nice n S (repL tx n k S) := rep_nice (atoL_nice tx n k S)
theorem serL_nice (tx : Nat → Int) (n k : Nat) (S : PS) : Nice n S (serL tx n k S) := ser_nice (repL_nice tx n k) S
