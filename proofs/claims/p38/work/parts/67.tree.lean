/-! PATTERNS: the loops and the rounds of the parser keep the table in order -/
def Wf (o d9 d10 : Int) (S : PS) (R : Int × PS) : Prop := R.2.1 = true → WfT R.2.2.2.2 S.2.2.1 R.2.2.2.1 ∧ R.2.2.2.2 R.1.toNat 6 = -5 ∧ R.2.2.2.2 R.1.toNat 11 + penB o (R.2.2.2.2 R.1.toNat 0) + (S.2.1 : Int) ≤ R.2.2.1 ∧ R.2.2.2.2 R.1.toNat 9 ≤ d9 ∧ R.2.2.2.2 R.1.toNat 10 ≤ d10
def LpW (o d9 d10 sep : Int) (S : PS) (k : Int) (q : Nat) (U : PS) : Prop := U.1 = true → WfT U.2.2.2 S.2.2.1 U.2.2.1 ∧ Wth U.2.2.2 (-5) q k ∧ smC U.2.2.2 o q k + sep * ((q : Int) - 1) + (S.2.1 : Int) ≤ U.2.1 ∧ mxC U.2.2.2 9 q k ≤ d9 ∧ mxC U.2.2.2 10 q k ≤ d10
theorem LpW.one {o d9 d10 sep : Int} {S : PS} {R : Int × PS} (h9 : 0 ≤ d9) (h10 : 0 ≤ d10) (h : Wf o d9 d10 S R) : LpW o d9 d10 sep S R.1 1 R.2 := fun hw => by
  obtain ⟨a1, a2, a3, a4, a5⟩ := h hw
  refine ⟨a1, ⟨a2, trivial⟩, ?_, ?_, ?_⟩
  · show R.2.2.2.2 R.1.toNat 11 + penB o (R.2.2.2.2 R.1.toNat 0) + 0 + sep * (((1 : Nat) : Int) - 1) + (S.2.1 : Int) ≤ R.2.2.1
    rw [show (((1 : Nat) : Int) - 1) = 0 from rfl, Int.mul_zero]
    omega
  · show max (R.2.2.2.2 R.1.toNat 9) 0 ≤ d9
    omega
  · show max (R.2.2.2.2 R.1.toNat 10) 0 ≤ d10
    omega
theorem LpW.more {n : Nat} {o d9 d10 sep : Int} {S U V : PS} {k l : Int} {q : Nat} {R : Int × PS} (h9 : 0 ≤ d9) (h10 : 0 ≤ d10) (hI : LpI n S k q l U) (h : LpW o d9 d10 sep S k q U) (hU : U.1 = true) (hs : (V.2.1 : Int) = U.2.1 + sep) (hV : V.2.2 = U.2.2) (hN : Nice n V R) (hW : Wf o d9 d10 V R) (hw : R.2.1 = true) : LpW o d9 d10 sep S k (q + 1) (lnkP R.2 l R.1) := fun _ => by
  obtain ⟨w1, w2, w3, w4, w5⟩ := h hU
  obtain ⟨-, -, -, -, p5, p6, -⟩ := hI.2 hU
  obtain ⟨-, -, r3, -, r5, r6, r7, r8⟩ := hN.2 hw
  obtain ⟨x1, x2, x3, x4, x5⟩ := hW hw
  rw [hV] at r3 r5 r8 x1
  have b := Pth.bd p5
  have h0 : (0 : Int) ≤ (S.2.2.1 : Int) := by omega
  have hl6 : R.2.2.2.2 l.toNat 6 = -5 := (r8 _ (by omega) 6).trans (Wth.last p5 w2)
  obtain ⟨s1, s2, s3⟩ := kid_same (G := R.2.2.2.2) h0 (fun p w hp _ => r8 p (by omega) w) p5
  have s4 : Wth R.2.2.2.2 (-5) q k := Wth.same h0 (fun p w _ hp => r8 p (by omega) w) p5 w2
  obtain ⟨t1, t2, t3⟩ := kid_link h0 x2 s1 s4
  have hG : AgB R.2.2.2.1 R.2.2.2.2 (up2 R.2.2.2.2 l.toNat 8 R.1) := fun x w _ hx => by
    by_cases c : x = l.toNat ∧ w = 8
    · obtain ⟨rfl, rfl⟩ := c
      exact absurd rfl (hx.resolve_left (fun z => z hl6)).2
    · exact if_neg c
  have hU' : AgB U.2.2.1 U.2.2.2 R.2.2.2.2 := fun x w hx _ => r8 x hx w
  refine ⟨fun p hp1 hp2 => ?_, t1, ?_, ?_, ?_⟩
  · show Leaf (up2 R.2.2.2.2 l.toNat 8 R.1) p ∨ Inn (up2 R.2.2.2.2 l.toNat 8 R.1) S.2.2.1 p
    refine Inn.agr hG hp2 ?_
    by_cases c : p < U.2.2.1
    · exact Inn.agr hU' c (w1 p hp1 c)
    · exact Inn.lo (a := U.2.2.1) (by omega) (x1 p (by omega) hp2)
  · show smC (up2 R.2.2.2.2 l.toNat 8 R.1) o (q + 1) k + sep * (((q + 1 : Nat) : Int) - 1) + (S.2.1 : Int) ≤ R.2.2.1
    rw [t3 o, s3 o, show ((q + 1 : Nat) : Int) - 1 = ((q : Int) - 1) + 1 from by omega, Int.mul_add, Int.mul_one]
    generalize sep * ((q : Int) - 1) = z at *
    omega
  · show mxC (up2 R.2.2.2.2 l.toNat 8 R.1) 9 (q + 1) k ≤ d9
    rw [t2 9 (by decide), s2 9 (by decide)]
    omega
  · show mxC (up2 R.2.2.2.2 l.toNat 8 R.1) 10 (q + 1) k ≤ d10
    rw [t2 10 (by decide), s2 10 (by decide)]
    omega
theorem lpG_wf {tx : Nat → Int} {n : Nat} {cond : Int → Nat → Prop} [∀ x q, Decidable (cond x q)] {g : PS → Int × PS} {vv : PS → PS} {o d9 d10 sep : Int} (h9 : 0 ≤ d9) (h10 : 0 ≤ d10) (hg : ∀ S, Nice n S (g S)) (hW : ∀ S, Wf o d9 d10 S (g S)) (hv : ∀ (U : PS) (q : Nat), cond (cS tx n U) q → U.1 = true ∧ ((vv U).2.1 : Int) = U.2.1 + sep ∧ U.2.1 ≤ (vv U).2.1 ∧ (vv U).2.1 ≤ n ∧ (vv U).2.2 = U.2.2) {S : PS} {k : Int} : ∀ (f q : Nat) (l : Int) (U : PS), LpI n S k q l U → LpW o d9 d10 sep S k q U → LpW o d9 d10 sep S k (lpG tx n cond (fun S => g (vv S)) f q l U).1 (lpG tx n cond (fun S => g (vv S)) f q l U).2
  | 0, q, l, U, _, h => h
  | f + 1, q, l, U, hI, h => by
    show LpW o d9 d10 sep S k (if cond (cS tx n U) q then (if (g (vv U)).2.1 = true then lpG tx n cond (fun S => g (vv S)) f (q + 1) (g (vv U)).1 (lnkP (g (vv U)).2 l (g (vv U)).1) else (q, (g (vv U)).2)) else (q, U)).1 (if cond (cS tx n U) q then (if (g (vv U)).2.1 = true then lpG tx n cond (fun S => g (vv S)) f (q + 1) (g (vv U)).1 (lnkP (g (vv U)).2 l (g (vv U)).1) else (q, (g (vv U)).2)) else (q, U)).2
    by_cases hc : cond (cS tx n U) q
    · rw [if_pos hc]
      obtain ⟨v0, v1, v2, v3, v4⟩ := hv U q hc
      by_cases hw : (g (vv U)).2.1 = true
      · rw [if_pos hw]
        exact lpG_wf h9 h10 hg hW hv f (q + 1) _ _ (LpI.more hI v0 ⟨v2, v4⟩ v3 (hg (vv U)) hw) (LpW.more h9 h10 hI h v0 v1 v4 (hg (vv U)) (hW (vv U)) hw)
      · rw [if_neg hw]
        exact fun e => absurd e hw
    · rw [if_neg hc]
      exact h
theorem WfT.node {F G : Tb} {a c q : Nat} {k l so : Int} (h : WfT F a c) (hP : Pth F a c q k l) (h8 : F l.toNat 8 = -5) (hG : AgB c F G) (hG6 : ∀ (p w : Nat), (p : Int) < c → w ≠ 6 → G p w = F p w) (hw : Wth G c q k) (e0 : G c 0 = so) (hso : 3 ≤ so ∧ so ≤ 6) (e2 : G c 2 = (q : Int)) (e7 : G c 7 = k) (e9 : G c 9 = mxC F 9 q k + (if so = 3 then 1 else 0)) (e10 : G c 10 = mxC F 10 q k + 1) (e11 : G c 11 = smC F so q k + exL so q (G c 3) (G c 4) (G c 5)) (h5 : so = 5 → q = 1 ∧ 0 ≤ G c 3 ∧ G c 3 ≤ 99 ∧ 1 ≤ G c 4 ∧ G c 4 ≤ 100 ∧ G c 3 ≤ G c 4 ∧ (G c 5 = 0 ∨ G c 5 = 1)) (hq : so ≠ 5 → 2 ≤ q) (hq6 : so = 6 → q ≤ 4) : WfT G a (c + 1) := fun p hp1 hp2 => by
  by_cases hc : p < c
  · exact Inn.agr hG hc (h p hp1 hc)
  · obtain rfl : p = c := by omega
    right
    have b := Pth.bd hP
    obtain ⟨s1, s2, s3⟩ := kid_same (G := G) (by omega) hG6 hP
    unfold Inn
    rw [e0, e2, e7, e9, e10, e11]
    exact ⟨q, l, hso, rfl, b.2.2.2.1, s1, (hG6 _ 8 (by omega) (by decide)).trans h8, hw, by rw [s2 9 (by decide)], by rw [s2 10 (by decide)], by rw [s3 so], h5, hq, hq6⟩
theorem wiT_6 {a b : Int} (h0 : 0 ≤ a) {x : Nat} : ∀ {q : Nat} {k l : Int} {p : Nat} {F : Tb}, Pth F a b q k l → Wth F (-5) q k → F x 6 ≠ -5 → wiT q k p F x 6 = F x 6
  | 0, _, _, _, _, h, _, _ => h.elim
  | 1, k, l, p, F, h, hw, hx => by
    show up2 F k.toNat 6 p x 6 = _
    exact up2_no (fun e => hx (by rw [e]; exact hw.1))
  | q + 2, k, l, p, F, h, hw, hx => by
    obtain ⟨h1, h2, h3, h4⟩ := h
    have hk : x ≠ k.toNat := fun e => hx (by rw [e]; exact hw.1)
    have hxe : up2 F k.toNat 6 p x 6 = F x 6 := up2_no hk
    show wiT (q + 1) (F k.toNat 8) p (up2 F k.toNat 6 p) x 6 = _
    have bb := Pth.bd h4
    have h4' := Pth.self h4
    rw [wiT_6 (a := F k.toNat 8) (b := b) (by omega) (Pth.mono (by omega) (Int.le_refl _) (fun p _ _ => up2_nk (by decide)) h4') (Wth.same (by omega) (fun p w hp _ => up2_no (by omega)) h4' hw.2) (by rw [hxe]; exact hx)]
    exact hxe
theorem wiT_wth {a b : Int} (h0 : 0 ≤ a) : ∀ {q : Nat} {k l : Int} {p : Nat} {F : Tb}, Pth F a b q k l → Wth (wiT q k p F) p q k
  | 0, _, _, _, _, h => h.elim
  | 1, k, l, p, F, h => ⟨by show up2 F k.toNat 6 p k.toNat 6 = _; exact up2_s, trivial⟩
  | q + 2, k, l, p, F, h => by
    obtain ⟨h1, h2, h3, h4⟩ := h
    have h4' : Pth (up2 F k.toNat 6 p) (F k.toNat 8) b (q + 1) (F k.toNat 8) l := Pth.mono (by omega) (Int.le_refl _) (fun p _ _ => up2_nk (by decide)) (Pth.self h4)
    have e : ∀ w, wiT (q + 1) (F k.toNat 8) p (up2 F k.toNat 6 p) k.toNat w = up2 F k.toNat 6 p k.toNat w := fun w => wiT_lo (by omega) w h4' (Or.inl (by omega))
    refine ⟨?_, ?_⟩
    · show wiT (q + 1) (F k.toNat 8) p (up2 F k.toNat 6 p) k.toNat 6 = _
      rw [e 6]; exact up2_s
    · show Wth (wiT (q + 1) (F k.toNat 8) p (up2 F k.toNat 6 p)) p (q + 1) (wiT (q + 1) (F k.toNat 8) p (up2 F k.toNat 6 p) k.toNat 8)
      rw [e 8, up2_nk (by decide)]
      exact wiT_wth (by omega) h4'
