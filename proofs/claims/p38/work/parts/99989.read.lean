/-! HOW THE CLASS READS WHAT THE LAW SPELLS: what is read, and how many parts it is -/
def hdL (w : List Int) : Int := w.headD (-1)
def txL (l : List Int) : Nat → Int := fun j => l.getD j 0
def PAt (S : PS) (b : Nat) : Prop := S.1 = true ∧ S.2.1 = b
def Rs (X : Int × PS) (b c : Nat) : Prop := X.2.1 = true ∧ X.2.2.1 = b ∧ X.2.2.2.1 = c
theorem Rs.at {X : Int × PS} {b c : Nat} (h : Rs X b c) : PAt X.2 b := ⟨h.1, h.2.1⟩
theorem cS_hd {l w : List Int} {b : Nat} {S : PS} (h : PAt S b) (hd : l.drop b = w) : cS (txL l) l.length S = hdL w := by
  unfold cS chT
  rw [if_pos h.1, h.2]
  cases w with
  | nil =>
    have : l.length ≤ b := List.drop_eq_nil_iff.mp hd
    rw [if_neg (by omega)]; rfl
  | cons x r =>
    have hl : b < l.length := by
      rcases Nat.lt_or_ge b l.length with c | c
      · exact c
      · rw [List.drop_eq_nil_of_le c] at hd; cases hd
    rw [if_pos hl]
    show l.getD b 0 = x
    have := getD_drop (l := l) (b := b) (k := 0)
    rw [Nat.add_zero, hd] at this
    exact this
theorem drop_app {l w r : List Int} {b : Nat} (h : l.drop b = w ++ r) : l.drop (b + w.length) = r := by
  rw [← List.drop_drop, h]
  simp
theorem drop_len {l w : List Int} {b : Nat} (h : l.drop b = w) (hw : w ≠ []) : b + w.length = l.length := by
  have := congrArg List.length h
  rw [List.length_drop] at this
  have : 0 < w.length := List.length_pos_iff.mpr hw
  omega
/-- what may come behind -/
def FS0 (x : Int) : Prop := x ≠ 42 ∧ x ≠ 43 ∧ x ≠ 63 ∧ x ≠ 123
def FS1 (x : Int) : Prop := FS0 x ∧ ¬ isAt1 x
def FS2 (x : Int) : Prop := FS1 x ∧ x ≠ 124
def RdAt (k : Nat) (w : List Int) (c : Nat) : Prop := ∀ (l r : List Int) (b : Nat) (S : PS), PAt S b → l.drop b = w ++ r → Rs (atoL (txL l) l.length k S) (b + w.length) (S.2.2.1 + c)
def RdRe (k : Nat) (w : List Int) (c : Nat) : Prop := ∀ (l r : List Int) (b : Nat) (S : PS), PAt S b → l.drop b = w ++ r → FS0 (hdL r) → Rs (repL (txL l) l.length k S) (b + w.length) (S.2.2.1 + c)
def RdSe (k : Nat) (w : List Int) (c : Nat) : Prop := ∀ (l r : List Int) (b : Nat) (S : PS), PAt S b → l.drop b = w ++ r → FS1 (hdL r) → Rs (serL (txL l) l.length k S) (b + w.length) (S.2.2.1 + c)
def RdAl (k : Nat) (w : List Int) (c : Nat) : Prop := ∀ (l r : List Int) (b : Nat) (S : PS), PAt S b → l.drop b = w ++ r → FS2 (hdL r) → Rs (altL (txL l) l.length k S) (b + w.length) (S.2.2.1 + c)
/-- a text begins as an atom does -/
def Beg (w : List Int) : Prop := w ≠ [] ∧ isAt1 (hdL w)
theorem Beg.app {w r : List Int} (h : Beg w) : hdL (w ++ r) = hdL w ∧ Beg (w ++ r) := by
  cases w with
  | nil => exact absurd rfl h.1
  | cons x w => exact ⟨rfl, fun e => (by cases e), h.2⟩
theorem lp_none {tx : Nat → Int} {n : Nat} {cond : Int → Nat → Prop} [∀ x q, Decidable (cond x q)] {go : PS → Int × PS} {r : Int × PS} (h : ¬ cond (cS tx n r.2) 1) : lstP tx n cond go r = (1, r.2) := if_neg h
theorem lp_two {tx : Nat → Int} {n : Nat} {cond : Int → Nat → Prop} [∀ x q, Decidable (cond x q)] {go : PS → Int × PS} {r : Int × PS} (h : cond (cS tx n r.2) 1) (hg : (go r.2).2.1 = true) (h2 : ¬ cond (cS tx n (go r.2).2) 2) : ∃ F, lstP tx n cond go r = (2, ((go r.2).2.1, (go r.2).2.2.1, (go r.2).2.2.2.1, F)) := by
  refine ⟨up2 (go r.2).2.2.2.2 r.1.toNat 8 (go r.2).1, ?_⟩
  show (if _ then (if _ then lpG tx n cond go n 2 _ (lnkP (go r.2).2 r.1 (go r.2).1) else _) else _) = _
  have e2 : cS tx n (lnkP (go r.2).2 r.1 (go r.2).1) = cS tx n (go r.2).2 := cS_of rfl rfl
  rw [if_pos h, if_pos hg, lp_stop (by rw [e2]; exact h2)]
  rfl
theorem lp_three {tx : Nat → Int} {n : Nat} {cond : Int → Nat → Prop} [∀ x q, Decidable (cond x q)] {go : PS → Int × PS} {r : Int × PS} (hn : 0 < n) (h : cond (cS tx n r.2) 1) (hg : (go r.2).2.1 = true) (h2 : cond (cS tx n (go r.2).2) 2)
    (h3 : ∀ F, (go ((go r.2).2.1, (go r.2).2.2.1, (go r.2).2.2.2.1, F)).2.1 = true) (h4 : ∀ F, ¬ cond (cS tx n (go ((go r.2).2.1, (go r.2).2.2.1, (go r.2).2.2.2.1, F)).2) 3) : ∃ F G, lstP tx n cond go r = (3, ((go ((go r.2).2.1, (go r.2).2.2.1, (go r.2).2.2.2.1, F)).2.1, (go ((go r.2).2.1, (go r.2).2.2.1, (go r.2).2.2.2.1, F)).2.2.1, (go ((go r.2).2.1, (go r.2).2.2.1, (go r.2).2.2.2.1, F)).2.2.2.1, G)) := by
  obtain ⟨n', rfl⟩ : ∃ n', n = n' + 1 := ⟨n - 1, by omega⟩
  generalize hF : up2 (go r.2).2.2.2.2 r.1.toNat 8 (go r.2).1 = F
  have e1 : lnkP (go r.2).2 r.1 (go r.2).1 = ((go r.2).2.1, (go r.2).2.2.1, (go r.2).2.2.2.1, F) := by rw [← hF]; rfl
  refine ⟨F, up2 (go ((go r.2).2.1, (go r.2).2.2.1, (go r.2).2.2.2.1, F)).2.2.2.2 (go r.2).1.toNat 8 (go ((go r.2).2.1, (go r.2).2.2.1, (go r.2).2.2.2.1, F)).1, ?_⟩
  show (if _ then (if _ then (if _ then (if _ then lpG tx (n' + 1) cond go n' 3 _ _ else _) else _) else _) else _) = _
  have e2 : cS tx (n' + 1) ((go r.2).2.1, (go r.2).2.2.1, (go r.2).2.2.2.1, F) = cS tx (n' + 1) (go r.2).2 := cS_of rfl rfl
  have e3 : cS tx (n' + 1) (lnkP (go ((go r.2).2.1, (go r.2).2.2.1, (go r.2).2.2.2.1, F)).2 (go r.2).1 (go ((go r.2).2.1, (go r.2).2.2.1, (go r.2).2.2.2.1, F)).1) = cS tx (n' + 1) (go ((go r.2).2.1, (go r.2).2.2.1, (go r.2).2.2.2.1, F)).2 := cS_of rfl rfl
  rw [if_pos h, if_pos hg, e1, if_pos (by rw [e2]; exact h2), if_pos (h3 F), lp_stop (by rw [e3]; exact h4 F)]
  rfl
/-! atoms -/
theorem rd_letter {k : Nat} {x : Int} (h : 65 ≤ x ∧ x ≤ 90) : RdAt k [x] 1 := fun l r b S hS hd => by
  have e := cS_hd hS hd
  have e : cS (txL l) l.length S = x := e
  unfold atoL atomP
  rw [e, if_pos h]
  exact ⟨hS.1, by show S.2.1 + 1 = _; rw [hS.2]; rfl, rfl⟩
theorem rd_beg {k : Nat} : RdAt k [94] 1 := fun l r b S hS hd => by
  have e : cS (txL l) l.length S = 94 := cS_hd hS hd
  unfold atoL atomP
  rw [e, if_neg (by decide), if_pos rfl]
  exact ⟨hS.1, by show S.2.1 + 1 = _; rw [hS.2]; rfl, rfl⟩
theorem rd_end {k : Nat} : RdAt k [36] 1 := fun l r b S hS hd => by
  have e : cS (txL l) l.length S = 36 := cS_hd hS hd
  unfold atoL atomP
  rw [e, if_neg (by decide), if_neg (by decide), if_pos rfl]
  exact ⟨hS.1, by show S.2.1 + 1 = _; rw [hS.2]; rfl, rfl⟩
theorem take_hd {l r : List Int} {b : Nat} {S : PS} {c : Int} (hS : PAt S b) (hd : l.drop b = c :: r) : takeP (txL l) l.length S c = (S.1, b + 1, S.2.2) := by
  unfold takeP
  rw [if_pos (show cS (txL l) l.length S = c from cS_hd hS hd)]
  unfold advP
  rw [hS.2]
theorem adv_at {S : PS} {b : Nat} (h : PAt S b) : PAt (advP S) (b + 1) := ⟨h.1, by show S.2.1 + 1 = _; rw [h.2]⟩
theorem drop_cons {l r : List Int} {b : Nat} {c : Int} (hd : l.drop b = c :: r) : l.drop (b + 1) = r := drop_app (w := [c]) hd
theorem FS2_41 : FS2 41 := by unfold FS2 FS1 FS0 isAt1; omega
theorem FS2_44 : FS2 44 := by unfold FS2 FS1 FS0 isAt1; omega
theorem rd_brackets {k : Nat} {w : List Int} {c : Nat} (h : RdAl k w c) : RdAt (k + 1) (40 :: (w ++ [41])) c := fun l r b S hS hd => by
  have hd : l.drop b = 40 :: (w ++ 41 :: r) := by rw [hd]; simp
  have e : cS (txL l) l.length S = 40 := cS_hd hS hd
  have hd1 := drop_cons hd
  have h1 := h l (41 :: r) (b + 1) (advP S) (adv_at hS) hd1 FS2_41
  have hd2 := drop_app hd1
  have h2 := take_hd h1.at hd2
  unfold atoL atomP
  rw [e, if_neg (by decide), if_neg (by decide), if_neg (by decide), if_pos ⟨rfl, rfl⟩]
  show Rs ((altL (txL l) l.length k (advP S)).1, takeP (txL l) l.length (altL (txL l) l.length k (advP S)).2 41) _ _
  rw [h2]
  refine ⟨h1.1, ?_, h1.2.2⟩
  show b + 1 + w.length + 1 = b + (w ++ [41]).length.succ
  rw [List.length_append]
  show b + 1 + w.length + 1 = b + (w.length + 1) + 1
  omega
theorem RdAt.re {k : Nat} {w : List Int} {c : Nat} (h : RdAt k w c) : RdRe k w c := fun l r b S hS hd hf => by
  have h1 := h l r b S hS hd
  have e := cS_hd h1.at (drop_app hd)
  unfold repL repP
  rw [e, if_neg (by unfold FS0 at hf; omega)]
  exact h1
theorem RdRe.se {k : Nat} {w : List Int} {c : Nat} (h : RdRe k w c) : RdSe k w c := fun l r b S hS hd hf => by
  have h1 := h l r b S hS hd hf.1
  have e := cS_hd h1.at (drop_app hd)
  unfold serL serP endP
  rw [lp_none (by rw [e]; exact hf.2), if_neg (fun z => absurd z.2 (Nat.lt_irrefl 1))]
  exact h1
theorem RdSe.al {k : Nat} {w : List Int} {c : Nat} (h : RdSe k w c) : RdAl k w c := fun l r b S hS hd hf => by
  have h1 := h l r b S hS hd hf.1
  have e := cS_hd h1.at (drop_app hd)
  rw [altL_eq]
  unfold altP endP
  rw [lp_none (by rw [e]; exact hf.2), if_neg (fun z => absurd z.2 (Nat.lt_irrefl 1))]
  exact h1
theorem isAt_FS0 {x : Int} (h : isAt1 x) : FS0 x := by unfold FS0; unfold isAt1 at h; omega
/-! series -/
theorem rd_ser2 {k : Nat} {w1 w2 : List Int} {c1 c2 : Nat} (h1 : RdRe k w1 c1) (h2 : RdRe k w2 c2) (b2 : Beg w2) : RdSe k (w1 ++ w2) (c1 + c2 + 1) := fun l r b S hS hd hf => by
  rw [List.append_assoc] at hd
  have hb := b2.app (r := r)
  have a1 := h1 l (w2 ++ r) b S hS hd (by rw [hb.1]; exact isAt_FS0 b2.2)
  have hd1 := drop_app hd
  have e1 := cS_hd a1.at hd1
  have a2 := h2 l r _ _ a1.at hd1 hf.1
  have e2 := cS_hd a2.at (drop_app hd1)
  obtain ⟨F, e⟩ := lp_two (tx := txL l) (n := l.length) (cond := cSer) (go := repL (txL l) l.length k) (r := repL (txL l) l.length k S) (by rw [e1, hb.1]; exact b2.2) a2.1 (by rw [e2]; exact hf.2)
  unfold serL serP endP
  rw [e, if_pos ⟨a2.1, show 1 < 2 by decide⟩]
  refine ⟨a2.1, ?_, ?_⟩
  · show (repL (txL l) l.length k (repL (txL l) l.length k S).2).2.2.1 = _
    rw [a2.2.1, List.length_append]; omega
  · show (repL (txL l) l.length k (repL (txL l) l.length k S).2).2.2.2.1 + 1 = _
    rw [a2.2.2, a1.2.2]; omega
theorem rd_ser3 {k : Nat} {w1 w2 w3 : List Int} {c1 c2 c3 : Nat} (h1 : RdRe k w1 c1) (h2 : RdRe k w2 c2) (h3 : RdRe k w3 c3) (b2 : Beg w2) (b3 : Beg w3) : RdSe k (w1 ++ w2 ++ w3) (c1 + c2 + c3 + 1) := fun l r b S hS hd hf => by
  rw [List.append_assoc, List.append_assoc] at hd
  have hb := b2.app (r := w3 ++ r)
  have hb3 := b3.app (r := r)
  have a1 := h1 l (w2 ++ (w3 ++ r)) b S hS hd (by rw [hb.1]; exact isAt_FS0 b2.2)
  have hd1 := drop_app hd
  have e1 := cS_hd a1.at hd1
  have a2 := h2 l (w3 ++ r) _ _ a1.at hd1 (by rw [hb3.1]; exact isAt_FS0 b3.2)
  have hd2 := drop_app hd1
  have e2 := cS_hd a2.at hd2
  have hn : 0 < l.length := by
    have : l.drop (b + w1.length + w2.length) ≠ [] := by rw [hd2]; exact hb3.2.1
    have := drop_len rfl this
    have z : 0 < (l.drop (b + w1.length + w2.length)).length := List.length_pos_iff.mpr (by rw [hd2]; exact hb3.2.1)
    omega
  have a3 : ∀ F, Rs (repL (txL l) l.length k ((repL (txL l) l.length k (repL (txL l) l.length k S).2).2.1, (repL (txL l) l.length k (repL (txL l) l.length k S).2).2.2.1, (repL (txL l) l.length k (repL (txL l) l.length k S).2).2.2.2.1, F)) (b + w1.length + w2.length + w3.length) ((repL (txL l) l.length k (repL (txL l) l.length k S).2).2.2.2.1 + c3) := fun F => h3 l r _ _ ⟨a2.1, a2.2.1⟩ hd2 hf.1
  obtain ⟨F, G, e⟩ := lp_three (tx := txL l) (n := l.length) (cond := cSer) (go := repL (txL l) l.length k) (r := repL (txL l) l.length k S) hn (by rw [e1, hb.1]; exact b2.2) a2.1 (by rw [e2, hb3.1]; exact b3.2) (fun F => (a3 F).1) (fun F => by rw [cS_hd (a3 F).at (drop_app hd2)]; exact hf.2)
  unfold serL serP endP
  rw [e, if_pos ⟨(a3 F).1, show 1 < 3 by decide⟩]
  refine ⟨(a3 F).1, ?_, ?_⟩
  · refine (a3 F).2.1.trans ?_
    rw [List.length_append, List.length_append]; omega
  · refine (congrArg (· + 1) (a3 F).2.2).trans ?_
    show _ + c3 + 1 = _
    rw [a2.2.2, a1.2.2]; omega
/-! alternatives -/
theorem FS1_124 : FS1 124 := by unfold FS1 FS0 isAt1; omega
theorem rd_alt2 {k : Nat} {w1 w2 : List Int} {c1 c2 : Nat} (h1 : RdSe k w1 c1) (h2 : RdSe k w2 c2) : RdAl k (w1 ++ 124 :: w2) (c1 + c2 + 1) := fun l r b S hS hd hf => by
  have hd : l.drop b = w1 ++ 124 :: (w2 ++ r) := by rw [hd]; simp
  have a1 := h1 l (124 :: (w2 ++ r)) b S hS hd FS1_124
  have hd1 := drop_app hd
  have e1 : cS (txL l) l.length (serL (txL l) l.length k S).2 = 124 := cS_hd a1.at hd1
  have a2 := h2 l r _ _ (adv_at a1.at) (drop_cons hd1) hf.1
  have e2 := cS_hd a2.at (drop_app (drop_cons hd1))
  obtain ⟨F, e⟩ := lp_two (tx := txL l) (n := l.length) (cond := cAlt) (go := fun S => serL (txL l) l.length k (advP S)) (r := serL (txL l) l.length k S) e1 a2.1 (by rw [e2]; exact hf.2)
  rw [altL_eq]
  unfold altP endP
  rw [e, if_pos ⟨a2.1, show 1 < 2 by decide⟩]
  refine ⟨a2.1, ?_, ?_⟩
  · refine a2.2.1.trans ?_
    rw [List.length_append, List.length_cons]; omega
  · refine (congrArg (· + 1) a2.2.2).trans ?_
    show (serL (txL l) l.length k S).2.2.2.1 + c2 + 1 = _
    rw [a1.2.2]; omega
theorem rd_alt3 {k : Nat} {w1 w2 w3 : List Int} {c1 c2 c3 : Nat} (h1 : RdSe k w1 c1) (h2 : RdSe k w2 c2) (h3 : RdSe k w3 c3) : RdAl k (w1 ++ 124 :: w2 ++ 124 :: w3) (c1 + c2 + c3 + 1) := fun l r b S hS hd hf => by
  have hd : l.drop b = w1 ++ 124 :: (w2 ++ 124 :: (w3 ++ r)) := by rw [hd]; simp
  have a1 := h1 l (124 :: (w2 ++ 124 :: (w3 ++ r))) b S hS hd FS1_124
  have hd1 := drop_app hd
  have e1 : cS (txL l) l.length (serL (txL l) l.length k S).2 = 124 := cS_hd a1.at hd1
  have a2 := h2 l (124 :: (w3 ++ r)) _ _ (adv_at a1.at) (drop_cons hd1) FS1_124
  have hd2 := drop_app (drop_cons hd1)
  have e2 : cS (txL l) l.length (serL (txL l) l.length k (advP (serL (txL l) l.length k S).2)).2 = 124 := cS_hd a2.at hd2
  have hn : 0 < l.length := by
    have := drop_len hd2 (fun e => by cases e)
    rw [List.length_cons] at this
    omega
  have a3 : ∀ F, Rs (serL (txL l) l.length k (advP ((serL (txL l) l.length k (advP (serL (txL l) l.length k S).2)).2.1, (serL (txL l) l.length k (advP (serL (txL l) l.length k S).2)).2.2.1, (serL (txL l) l.length k (advP (serL (txL l) l.length k S).2)).2.2.2.1, F))) (b + w1.length + 1 + w2.length + 1 + w3.length) ((serL (txL l) l.length k (advP (serL (txL l) l.length k S).2)).2.2.2.1 + c3) := fun F => h3 l r _ _ (adv_at ⟨a2.1, a2.2.1⟩) (drop_cons hd2) hf.1
  obtain ⟨F, G, e⟩ := lp_three (tx := txL l) (n := l.length) (cond := cAlt) (go := fun S => serL (txL l) l.length k (advP S)) (r := serL (txL l) l.length k S) hn e1 a2.1 e2 (fun F => (a3 F).1) (fun F => by rw [cS_hd (a3 F).at (drop_app (drop_cons hd2))]; exact hf.2)
  rw [altL_eq]
  unfold altP endP
  rw [e, if_pos ⟨(a3 F).1, show 1 < 3 by decide⟩]
  refine ⟨(a3 F).1, ?_, ?_⟩
  · refine (a3 F).2.1.trans ?_
    simp only [List.length_append, List.length_cons]; omega
  · refine (congrArg (· + 1) (a3 F).2.2).trans ?_
    show (serL (txL l) l.length k (advP (serL (txL l) l.length k S).2)).2.2.2.1 + c3 + 1 = _
    have z : (serL (txL l) l.length k (advP (serL (txL l) l.length k S).2)).2.2.2.1 = (serL (txL l) l.length k S).2.2.2.1 + c2 := a2.2.2
    rw [z, a1.2.2]; omega
