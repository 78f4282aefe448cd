/-! CONDITIONS 2: what a code does; a part of a text read alone -/
def sgT (s t : Int) : Int := if s = 33 then xor64 t 1 else if s = 38 then and64 (shr64 t 1) (or64 t (-2)) else if s = 124 then or64 (shr64 t 1) (and64 t 1) else t
abbrev isOp (s : Int) : Prop := s = 33 ∨ s = 38 ∨ s = 124
def valZ (e : CEnv) (code : Int) : Option Int := valC e (shr32 code 12) (and32 code 4095)
def bI (b : Bool) : Int := if b = true then 1 else 0
def psh (t : Int) (b : Bool) : Int := or64 (shl64 t 1) (bI b)
def runL (e : CEnv) : List Int → Int → Int
  | [], t => t
  | [s], t => sgT s t
  | [s, a], t => sgT a (sgT s t)
  | s :: a :: b :: r, t => if isOp s then runL e (a :: b :: r) (sgT s t) else runL e r (psh t (cmpB s (valZ e a) (valZ e b)))
theorem runL_op {e : CEnv} {s t : Int} {r : List Int} (h : isOp s) : runL e (s :: r) t = runL e r (sgT s t) := by
  match r with
  | [] => rfl
  | [a] => rfl
  | a :: b :: r => 
    show (if isOp s then _ else _) = _
    rw [if_pos h]
theorem runL_tst {e : CEnv} {s a b t : Int} {r : List Int} (h : ¬ isOp s) : runL e (s :: a :: b :: r) t = runL e r (psh t (cmpB s (valZ e a) (valZ e b))) := by
  show (if isOp s then _ else _) = _
  rw [if_neg h]
theorem bI_v (b : Bool) : bI b = 0 ∨ bI b = 1 := by cases b <;> simp [bI]
theorem psh_eq {t : Int} {b : Bool} (ht : 0 ≤ t ∧ t < 2000000000000000000) : psh t b = 2 * t + bI b := by
  unfold psh
  rw [shl64_1 (by omega), or64_b (by omega) (bI_v b)]
  have := bI_v b
  split <;> omega
theorem sgT_not {t b : Int} (ht : 0 ≤ t ∧ t < 2000000000000000000) (hb : b = 0 ∨ b = 1) : sgT 33 (2 * t + b) = 2 * t + (1 - b) := by
  unfold sgT
  rw [if_pos rfl]
  exact xor64_1 (by omega) hb
theorem sgT_and {t b c : Int} (ht : 0 ≤ t ∧ t < 1000000000000000000) (hb : b = 0 ∨ b = 1) (hc : c = 0 ∨ c = 1) : sgT 38 (2 * (2 * t + b) + c) = 2 * t + (if b = 1 ∧ c = 1 then 1 else 0) := by
  unfold sgT
  rw [if_neg (by decide), if_pos rfl, shr64_1 (by omega), and64_or (by omega) (by omega)]
  split <;> split <;> omega
theorem sgT_or {t b c : Int} (ht : 0 ≤ t ∧ t < 1000000000000000000) (hb : b = 0 ∨ b = 1) (hc : c = 0 ∨ c = 1) : sgT 124 (2 * (2 * t + b) + c) = 2 * t + (if b = 1 ∨ c = 1 then 1 else 0) := by
  unfold sgT
  rw [if_neg (by decide), if_neg (by decide), if_pos rfl, shr64_1 (by omega), and64_1 (by omega), or64_b (by omega) (by omega)]
  split <;> split <;> omega
theorem valZ_opc {e : CEnv} {k d : Int} (h : KD k d) : valZ e (opc k d) = valC e k d := by
  have hk : (0 ≤ k ∧ k < 128) ∧ (0 ≤ d ∧ d < 4096) := by unfold KD at h; omega
  unfold valZ
  rw [opc_eq hk.1 hk.2, shr12 (by omega), and4095 (by omega)]
  rw [show (4096 * k + d) / 4096 = k from by omega, show (4096 * k + d) % 4096 = d from by omega]
def Sg (B : Int) (R : CR) : Prop := ∀ (e : CEnv) (r : List Int) (t : Int), 0 ≤ t → t < B → runL e (R.1 ++ r) t = runL e r (2 * t + bI (R.2.1 e))
theorem Sg.le {B B' : Int} {R : CR} (h : Sg B R) (hb : B' ≤ B) : Sg B' R := fun e r t h0 h1 => h e r t h0 (by omega)
theorem tst_Sg {tx : Nat → Int} {n : Nat} {S : CS} (hw : (tstS tx n S).2.2.1 = true) : Sg 1000000000000000000 (tstS tx n S) := by
  intro e r t h0 h1
  have n2 := opK_ni tx n (cTake tx n (opS tx n S).2.2 (sgn tx n (opS tx n S).2.2))
  have k2 := n2.2 hw
  have w2 := (n2.1.2.1 hw).1
  have hs := sgn_v tx n (opS tx n S).2.2
  have w1 := ((CNi.take (tx := tx) (n := n) (S := (opS tx n S).2.2) (c := sgn tx n (opS tx n S).2.2) (by rcases hs with h | h | h <;> rw [h] <;> decide)).2.1 w2).1
  have k1 := (opK_ni tx n S).2 w1
  show runL e (sgn tx n (opS tx n S).2.2 :: (opS tx n S).1 :: (opS tx n (cTake tx n (opS tx n S).2.2 (sgn tx n (opS tx n S).2.2))).1 :: r) t = _
  rw [runL_tst (by unfold isOp; omega), psh_eq (by omega)]
  have e1 : valZ e (opS tx n S).1 = (opS tx n S).2.1 e := valZ_opc k1
  have e2 : valZ e (opS tx n (cTake tx n (opS tx n S).2.2 (sgn tx n (opS tx n S).2.2))).1 = (opS tx n (cTake tx n (opS tx n S).2.2 (sgn tx n (opS tx n S).2.2))).2.1 e := valZ_opc k2
  rw [e1, e2]
  rfl
theorem join_Sg {B B' ch : Int} {A C : CR} (hch : ch = 38 ∨ ch = 124) (hA : Sg B A) (hC : Sg B' C) (hB : 2 * B ≤ B') (hB2 : B ≤ 1000000000000000000) : Sg B (joinC ch A C) := by
  intro e r t h0 h1
  show runL e ((A.1 ++ C.1 ++ [ch]) ++ r) t = _
  have b1 := bI_v (A.2.1 e)
  have b2 := bI_v (C.2.1 e)
  rw [List.append_assoc, List.append_assoc, hA e _ t h0 h1, hC e _ _ (by omega) (by omega)]
  show runL e (ch :: r) _ = _
  rw [runL_op (by unfold isOp; omega)]
  congr 1
  rcases hch with rfl | rfl
  · rw [sgT_and (by omega) b1 b2]
    show _ = 2 * t + bI (A.2.1 e && C.2.1 e)
    congr 1
    cases A.2.1 e <;> cases C.2.1 e <;> rfl
  · rw [sgT_or (by omega) b1 b2]
    show _ = 2 * t + bI (A.2.1 e || C.2.1 e)
    congr 1
    cases A.2.1 e <;> cases C.2.1 e <;> rfl
theorem lpC_stop {tx : Nat → Int} {n : Nat} {ch : Int} {go : CS → CR} {f : Nat} {R : CR} (h : ¬ ccS tx n R.2.2 = ch) : lpC tx n ch go f R = R := by
  cases f with
  | zero => rfl
  | succ f => exact if_neg h
theorem lpC_dead {tx : Nat → Int} {n : Nat} {ch : Int} {go : CS → CR} {f : Nat} {R : CR} (hc : ch ≠ -1) (h : R.2.2.1 = false) : lpC tx n ch go f R = R := lpC_stop (by rw [cc_dead h]; exact Ne.symm hc)
theorem lpC_Sg {tx : Nat → Int} {n : Nat} {ch B B' : Int} {go : CS → CR} (hch : ch = 38 ∨ ch = 124) (hB : 2 * B ≤ B') (hB2 : B ≤ 1000000000000000000) (hg : ∀ S, (go S).2.2.1 = true → Sg B' (go S)) : ∀ (f : Nat) (R : CR), (R.2.2.1 = true → Sg B R) → (lpC tx n ch go f R).2.2.1 = true → Sg B (lpC tx n ch go f R)
  | 0, R, h, hw => h hw
  | f + 1, R, h, hw => by
    have e : lpC tx n ch go (f + 1) R = (if ccS tx n R.2.2 = ch then lpC tx n ch go f (joinC ch R (go (cAdv R.2.2))) else R) := rfl
    by_cases c : ccS tx n R.2.2 = ch
    · rw [e, if_pos c] at hw ⊢
      have wR := (cc_lt (tx := tx) (n := n) (S := R.2.2) (by omega)).1
      exact lpC_Sg hch hB hB2 hg f _ (fun w => join_Sg hch (h wR) (hg _ w) hB hB2) hw
    · rw [e, if_neg c] at hw ⊢
      exact h hw
def BF : Nat → Int
  | 0 => 1000000000000000000
  | k + 1 => BF k / 4
theorem BF_le (k : Nat) : BF k ≤ 1000000000000000000 ∧ 0 ≤ BF k := by
  induction k with
  | zero => exact ⟨Int.le_refl _, by decide⟩
  | succ k ih => show BF k / 4 ≤ _ ∧ 0 ≤ BF k / 4; omega
theorem eitF_Sg {tx : Nat → Int} {n : Nat} {fac : CS → CR} {B : Int} (hB : 0 ≤ B ∧ B ≤ 1000000000000000000) (hg : ∀ S, (fac S).2.2.1 = true → Sg B (fac S)) (S : CS) (hw : (eitF tx n fac S).2.2.1 = true) : Sg (B / 4) (eitF tx n fac S) := by
  have hb : ∀ S, (bthC tx n fac S).2.2.1 = true → Sg (B / 2) (bthC tx n fac S) := fun S => lpC_Sg (Or.inl rfl) (by omega) (by omega) hg _ _ (fun w => (hg S w).le (by omega))
  exact lpC_Sg (Or.inr rfl) (by omega) (by omega) hb _ _ (fun w => (hb S w).le (by omega)) hw
theorem fac_Sg (tx : Nat → Int) (n : Nat) : ∀ k S, (facC tx n k S).2.2.1 = true → Sg (BF k) (facC tx n k S)
  | 0, S, hw => tst_Sg hw
  | k + 1, S, hw => by
    have hk := BF_le k
    have e : facC tx n (k + 1) S = (if ccS tx n S = 33 then ((facC tx n k (cAdv S)).1 ++ [33], (fun e => !((facC tx n k (cAdv S)).2.1 e)), (facC tx n k (cAdv S)).2.2)
      else if ccS tx n S = 40 then ((eitF tx n (facC tx n k) (cAdv S)).1, (eitF tx n (facC tx n k) (cAdv S)).2.1, cTake tx n (eitF tx n (facC tx n k) (cAdv S)).2.2 41)
      else tstS tx n S) := rfl
    by_cases h1 : ccS tx n S = 33
    · rw [e, if_pos h1] at hw ⊢
      intro v r t h0 h2
      have hs := fac_Sg tx n k (cAdv S) hw
      have h3 : BF (k + 1) = BF k / 4 := rfl
      have hb := bI_v ((facC tx n k (cAdv S)).2.1 v)
      show runL v (((facC tx n k (cAdv S)).1 ++ [33]) ++ r) t = _
      rw [List.append_assoc, hs v _ t h0 (by omega)]
      show runL v (33 :: r) _ = _
      rw [runL_op (by unfold isOp; omega), sgT_not (by omega) hb]
      congr 2
      show _ = bI (!((facC tx n k (cAdv S)).2.1 v))
      cases (facC tx n k (cAdv S)).2.1 v <;> rfl
    · rw [e, if_neg h1] at hw ⊢
      by_cases h2 : ccS tx n S = 40
      · rw [if_pos h2] at hw ⊢
        have w := ((CNi.take (tx := tx) (n := n) (S := (eitF tx n (facC tx n k) (cAdv S)).2.2) (c := 41) (by decide)).2.1 hw).1
        exact eitF_Sg ⟨hk.2, hk.1⟩ (fac_Sg tx n k) (cAdv S) w
      · rw [if_neg h2] at hw ⊢
        exact (tst_Sg hw).le (by have := (BF_le (k + 1)).1; exact this)
theorem eit_run (tx : Nat → Int) (n : Nat) (S : CS) (hw : (eitL tx n 4 S).2.2.1 = true) (e : CEnv) : runL e (eitL tx n 4 S).1 0 = bI ((eitL tx n 4 S).2.1 e) := by
  have h := eitF_Sg (tx := tx) (n := n) ⟨(BF_le 4).2, (BF_le 4).1⟩ (fac_Sg tx n 4) S hw e [] 0 (Int.le_refl _) (by decide)
  rw [List.append_nil] at h
  rw [show eitL tx n 4 S = eitF tx n (facC tx n 4) S from rfl, h]
  show 2 * 0 + _ = _
  omega
/-! a part of a text, alone -/
def shS (b : Nat) (S : CS) : CS := (S.1, b + S.2)
def shR (b : Nat) (R : CR) : CR := (R.1, R.2.1, shS b R.2.2)
def Sub (tx : Nat → Int) (n b : Nat) (tx2 : Nat → Int) (n2 : Nat) : Prop := (∀ k, k < n2 → tx2 k = tx (b + k)) ∧ b + n2 ≤ n ∧ (b + n2 < n → tx (b + n2) = 59)
section SUBT
variable {tx tx2 : Nat → Int} {n n2 b : Nat}
theorem cc_sh (h : Sub tx n b tx2 n2) {S : CS} (hS : S.2 ≤ n2) : ccS tx n (shS b S) = ccS tx2 n2 S := by
  obtain ⟨h1, h2, h3⟩ := h
  unfold ccS shS
  by_cases c : S.2 < n2
  · have e := h1 _ c
    rw [e]
    by_cases d : S.1 = true ∧ tx (b + S.2) ≠ 59
    · rw [if_pos ⟨d.1, (by show b + S.2 < n; omega), d.2⟩, if_pos ⟨d.1, c, d.2⟩]
    · rw [if_neg (fun x => d ⟨x.1, x.2.2⟩), if_neg (fun x => d ⟨x.1, x.2.2⟩)]
  · have e : S.2 = n2 := by omega
    have key : ¬ (S.1 = true ∧ b + S.2 < n ∧ tx (b + S.2) ≠ 59) := fun x => by
      rw [e] at x
      exact x.2.2 (h3 x.2.1)
    have key2 : ¬ (S.1 = true ∧ S.2 < n2 ∧ tx2 S.2 ≠ 59) := fun x => c x.2.1
    rw [if_neg key, if_neg key2]
theorem adv_sh {S : CS} : shS b (cAdv S) = cAdv (shS b S) := rfl
theorem bad_sh {S : CS} : shS b (cBad S) = cBad (shS b S) := rfl
theorem take_sh (h : Sub tx n b tx2 n2) {S : CS} (hS : S.2 ≤ n2) {c : Int} : cTake tx n (shS b S) c = shS b (cTake tx2 n2 S c) := by
  unfold cTake
  rw [cc_sh h hS]
  split <;> rfl
theorem num3_sh (h : Sub tx n b tx2 n2) {S : CS} (hS : S.2 ≤ n2) : num3 tx n (shS b S) = ((num3 tx2 n2 S).1, shS b (num3 tx2 n2 S).2) := by
  unfold num3
  rw [cc_sh h hS]
  by_cases h1 : cDg (ccS tx2 n2 S)
  · rw [if_pos h1, if_pos h1]
    have a1 : (cAdv S).2 ≤ n2 := (cc_lt (tx := tx2) (n := n2) (S := S) (by unfold cDg at h1; omega)).2
    rw [← adv_sh, cc_sh h a1]
    by_cases h2 : cDg (ccS tx2 n2 (cAdv S))
    · rw [if_pos h2, if_pos h2]
      have a2 : (cAdv (cAdv S)).2 ≤ n2 := (cc_lt (tx := tx2) (n := n2) (S := cAdv S) (by unfold cDg at h2; omega)).2
      rw [← adv_sh, cc_sh h a2]
      split <;> rfl
    · rw [if_neg h2, if_neg h2]
  · rw [if_neg h1, if_neg h1]; rfl
theorem ccol_sh (h : Sub tx n b tx2 n2) {S : CS} (hS : S.2 ≤ n2) : cCol tx n (shS b S) = ((cCol tx2 n2 S).1, shS b (cCol tx2 n2 S).2) := by
  unfold cCol
  rw [cc_sh h hS, take_sh h hS]
  split <;> rfl
theorem opK_sh (h : Sub tx n b tx2 n2) {S : CS} (hS : S.2 ≤ n2) : opK tx n (shS b S) = ((opK tx2 n2 S).1, (opK tx2 n2 S).2.1, shS b (opK tx2 n2 S).2.2) := by
  unfold opK
  rw [cc_sh h hS]
  by_cases h1 : ccS tx2 n2 S = 120 ∨ ccS tx2 n2 S = 121
  · rw [if_pos h1, if_pos h1, ccol_sh h hS]
  · rw [if_neg h1, if_neg h1]
    by_cases h2 : ccS tx2 n2 S = 112 ∨ ccS tx2 n2 S = 110
    · have a1 : (cAdv S).2 ≤ n2 := (cc_lt (tx := tx2) (n := n2) (S := S) (by omega)).2
      rw [if_pos h2, if_pos h2, ← adv_sh, ccol_sh h a1]
    · rw [if_neg h2, if_neg h2]
      by_cases h3 : ccS tx2 n2 S = 102 ∨ ccS tx2 n2 S = 108 ∨ ccS tx2 n2 S = 115 ∨ ccS tx2 n2 S = 99
      · have a1 : (cAdv S).2 ≤ n2 := (cc_lt (tx := tx2) (n := n2) (S := S) (by omega)).2
        rw [if_pos h3, if_pos h3, ← adv_sh, cc_sh h a1]
        by_cases h4 : 65 ≤ ccS tx2 n2 (cAdv S) ∧ ccS tx2 n2 (cAdv S) ≤ 90
        · have a2 : (cAdv (cAdv S)).2 ≤ n2 := (cc_lt (tx := tx2) (n := n2) (S := cAdv S) (by omega)).2
          rw [if_pos h4, if_pos h4, ← adv_sh, ccol_sh h a2]
          split <;> rfl
        · rw [if_neg h4, if_neg h4]; rfl
      · rw [if_neg h3, if_neg h3]
        by_cases h4 : ccS tx2 n2 S = 45
        · have a1 : (cAdv S).2 ≤ n2 := (cc_lt (tx := tx2) (n := n2) (S := S) (by omega)).2
          rw [if_pos h4, if_pos h4, ← adv_sh, num3_sh h a1]
        · rw [if_neg h4, if_neg h4, num3_sh h hS]
theorem opS_sh (h : Sub tx n b tx2 n2) {S : CS} (hS : S.2 ≤ n2) : opS tx n (shS b S) = ((opS tx2 n2 S).1, (opS tx2 n2 S).2.1, shS b (opS tx2 n2 S).2.2) := by
  unfold opS
  rw [opK_sh h hS]
theorem tst_sh (h : Sub tx n b tx2 n2) {S : CS} (hS : S.2 ≤ n2) : tstS tx n (shS b S) = shR b (tstS tx2 n2 S) := by
  have a1 : (opS tx2 n2 S).2.2.2 ≤ n2 := (opS_ni tx2 n2 S).1 hS
  have e1 : sgn tx n (shS b (opS tx2 n2 S).2.2) = sgn tx2 n2 (opS tx2 n2 S).2.2 := by
    unfold sgn; rw [cc_sh h a1]
  have hs := sgn_v tx2 n2 (opS tx2 n2 S).2.2
  have a2 := (CNi.take (tx := tx2) (n := n2) (S := (opS tx2 n2 S).2.2) (c := sgn tx2 n2 (opS tx2 n2 S).2.2) (by rcases hs with h | h | h <;> rw [h] <;> decide)).1 a1
  unfold tstS
  rw [opS_sh h hS]
  simp only []
  rw [e1, take_sh h a1, opS_sh h a2]
  rfl
theorem lp_sh (h : Sub tx n b tx2 n2) {ch : Int} (hch : ch ≠ -1) {go go2 : CS → CR} (hg : ∀ S, S.2 ≤ n2 → go (shS b S) = shR b (go2 S)) (hn : ∀ S, CNi n2 3 S (go2 S).2.2) : ∀ (f f2 : Nat) (R : CR), n2 + 1 ≤ f + R.2.2.2 → n2 + 1 ≤ f2 + R.2.2.2 → R.2.2.2 ≤ n2 → lpC tx n ch go f (shR b R) = shR b (lpC tx2 n2 ch go2 f2 R)
  | 0, _, R, h1, _, h3 => by omega
  | f + 1, 0, R, _, h2, h3 => by omega
  | f + 1, f2 + 1, R, h1, h2, h3 => by
    have e1 : lpC tx n ch go (f + 1) (shR b R) = (if ccS tx n (shS b R.2.2) = ch then lpC tx n ch go f (joinC ch (shR b R) (go (cAdv (shS b R.2.2)))) else shR b R) := rfl
    have e2 : lpC tx2 n2 ch go2 (f2 + 1) R = (if ccS tx2 n2 R.2.2 = ch then lpC tx2 n2 ch go2 f2 (joinC ch R (go2 (cAdv R.2.2))) else R) := rfl
    rw [e1, e2, cc_sh h h3]
    by_cases c : ccS tx2 n2 R.2.2 = ch
    · rw [if_pos c, if_pos c, ← adv_sh]
      have a1 : (cAdv R.2.2).2 ≤ n2 := (cc_lt (tx := tx2) (n := n2) (S := R.2.2) (by omega)).2
      rw [hg _ a1]
      have ej : joinC ch (shR b R) (shR b (go2 (cAdv R.2.2))) = shR b (joinC ch R (go2 (cAdv R.2.2))) := rfl
      rw [ej]
      have ni := hn (cAdv R.2.2)
      by_cases w : (go2 (cAdv R.2.2)).2.2.1 = true
      · have g := (ni.2.1 w).2
        have g2 : (cAdv R.2.2).2 = R.2.2.2 + 1 := rfl
        exact lp_sh h hch hg hn f f2 _ (by show n2 + 1 ≤ f + (go2 (cAdv R.2.2)).2.2.2; omega) (by show n2 + 1 ≤ f2 + (go2 (cAdv R.2.2)).2.2.2; omega) (ni.1 a1)
      · have w' : (joinC ch R (go2 (cAdv R.2.2))).2.2.1 = false := Bool.eq_false_iff.mpr w
        rw [lpC_dead hch w', lpC_dead hch (show (shR b (joinC ch R (go2 (cAdv R.2.2)))).2.2.1 = false from w')]
    · rw [if_neg c, if_neg c]
theorem bth_sh (h : Sub tx n b tx2 n2) {fac fac2 : CS → CR} (hg : ∀ S, S.2 ≤ n2 → fac (shS b S) = shR b (fac2 S)) (hn : ∀ S, CNi n2 3 S (fac2 S).2.2) {S : CS} (hS : S.2 ≤ n2) : bthC tx n fac (shS b S) = shR b (bthC tx2 n2 fac2 S) := by
  unfold bthC
  rw [hg S hS]
  have := h.2.1
  exact lp_sh h (by decide) hg hn _ _ _ (by omega) (by omega) ((hn S).1 hS)
theorem eit_sh (h : Sub tx n b tx2 n2) {fac fac2 : CS → CR} (hg : ∀ S, S.2 ≤ n2 → fac (shS b S) = shR b (fac2 S)) (hn : ∀ S, CNi n2 3 S (fac2 S).2.2 ∧ CLn S (fac2 S)) {S : CS} (hS : S.2 ≤ n2) : eitF tx n fac (shS b S) = shR b (eitF tx2 n2 fac2 S) := by
  unfold eitF
  rw [bth_sh h hg (fun S => (hn S).1) hS]
  have := h.2.1
  exact lp_sh h (by decide) (fun S hS => bth_sh h hg (fun S => (hn S).1) hS) (fun S => (bth_ni hn S).1) _ _ _ (by omega) (by omega) ((bth_ni hn S).1.1 hS)
theorem fac_sh (h : Sub tx n b tx2 n2) : ∀ k S, S.2 ≤ n2 → facC tx n k (shS b S) = shR b (facC tx2 n2 k S)
  | 0, S, hS => tst_sh h hS
  | k + 1, S, hS => by
    have e : ∀ (tx : Nat → Int) (n : Nat) (S : CS), facC tx n (k + 1) S = (if ccS tx n S = 33 then ((facC tx n k (cAdv S)).1 ++ [33], (fun e => !((facC tx n k (cAdv S)).2.1 e)), (facC tx n k (cAdv S)).2.2)
      else if ccS tx n S = 40 then ((eitF tx n (facC tx n k) (cAdv S)).1, (eitF tx n (facC tx n k) (cAdv S)).2.1, cTake tx n (eitF tx n (facC tx n k) (cAdv S)).2.2 41)
      else tstS tx n S) := fun _ _ _ => rfl
    rw [e, e, cc_sh h hS]
    by_cases h1 : ccS tx2 n2 S = 33
    · have a1 : (cAdv S).2 ≤ n2 := (cc_lt (tx := tx2) (n := n2) (S := S) (by omega)).2
      rw [if_pos h1, if_pos h1, ← adv_sh, fac_sh h k _ a1]
      rfl
    · rw [if_neg h1, if_neg h1]
      by_cases h2 : ccS tx2 n2 S = 40
      · have a1 : (cAdv S).2 ≤ n2 := (cc_lt (tx := tx2) (n := n2) (S := S) (by omega)).2
        rw [if_pos h2, if_pos h2, ← adv_sh, eit_sh h (fac_sh h k) (fac_ni tx2 n2 k) a1]
        show (_, _, cTake tx n (shS b _) 41) = _
        rw [take_sh h ((eit_ni (fac_ni tx2 n2 k) _).1.1 a1)]
        rfl
      · rw [if_neg h2, if_neg h2, tst_sh h hS]
theorem eitL_sh (h : Sub tx n b tx2 n2) (k : Nat) {S : CS} (hS : S.2 ≤ n2) : eitL tx n k (shS b S) = shR b (eitL tx2 n2 k S) := eit_sh h (fac_sh h k) (fac_ni tx2 n2 k) hS
end SUBT
