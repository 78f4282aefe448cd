/-! WHAT SEARCHES TELL, whatever was there before -/
theorem frE_cong {le le' : Nat → Int} {w : Int} : ∀ (d : Nat) (a : Int), (∀ i : Nat, i < d → le' (a + (i : Int)).toNat = le (a + (i : Int)).toNat) → frE le' w d a = frE le w d a
  | 0, a, _ => rfl
  | d + 1, a, h => by
    show (if le' a.toNat = w then a else frE le' w d (a + 1)) = (if le a.toNat = w then a else frE le w d (a + 1))
    have h0 := h 0 (Nat.zero_lt_succ _)
    rw [show a + ((0 : Nat) : Int) = a by omega] at h0
    have h1 : ∀ i : Nat, i < d → le' (a + 1 + (i : Int)).toNat = le (a + 1 + (i : Int)).toNat := fun i hi => by
      have := h (i + 1) (by omega)
      rw [show a + ((i + 1 : Nat) : Int) = a + 1 + (i : Int) by omega] at this
      exact this
    rw [h0, frE_cong d (a + 1) h1]
theorem lsE_cong {le le' : Nat → Int} {w : Int} : ∀ (d : Nat) (a : Int), (∀ i : Nat, i < d → le' (a + (i : Int)).toNat = le (a + (i : Int)).toNat) → lsE le' w d a = lsE le w d a
  | 0, a, _ => rfl
  | d + 1, a, h => by
    show (if le' (a + (d : Int)).toNat = w then a + (d : Int) else lsE le' w d a) = (if le (a + (d : Int)).toNat = w then a + (d : Int) else lsE le w d a)
    rw [h d (Nat.lt_succ_self d), lsE_cong d a (fun i hi => h i (by omega))]
theorem cnE_cong {le le' : Nat → Int} {w : Int} : ∀ (d : Nat) (a : Int), (∀ i : Nat, i < d → le' (a + (i : Int)).toNat = le (a + (i : Int)).toNat) → cnE le' w d a = cnE le w d a
  | 0, a, _ => rfl
  | d + 1, a, h => by
    show cnE le' w d a + (if le' (a + (d : Int)).toNat = w then 1 else 0) = cnE le w d a + (if le (a + (d : Int)).toNat = w then 1 else 0)
    rw [h d (Nat.lt_succ_self d), cnE_cong d a (fun i hi => h i (by omega))]
theorem smL_cong {le le' ce : Nat → Int} {w c : Int} : ∀ (d : Nat) (a : Int), (∀ i : Nat, i < d → le' (a + (i : Int)).toNat = le (a + (i : Int)).toNat) → smE le' ce w c d a = smE le ce w c d a
  | 0, a, _ => rfl
  | d + 1, a, h => by
    show smE le' ce w c d a + (if le' (a + (d : Int)).toNat = w ∧ ce (2 * (a + (d : Int)) + c).toNat ≠ 1000 then ce (2 * (a + (d : Int)) + c).toNat else 0) = smE le ce w c d a + (if le (a + (d : Int)).toNat = w ∧ ce (2 * (a + (d : Int)) + c).toNat ≠ 1000 then ce (2 * (a + (d : Int)) + c).toNat else 0)
    rw [h d (Nat.lt_succ_self d), smL_cong d a (fun i hi => h i (by omega))]
theorem valC_L {a b n : Int} {L L' cl : Nat → Int} {k d : Int} (h0 : 0 ≤ a) (h : ∀ q : Nat, a ≤ (q : Int) → (q : Int) ≤ b → L q = L' q) : valC (a, b, L, n, cl) k d = valC (a, b, L', n, cl) k d := by
  have hi : ∀ i : Nat, i < (b - a + 1).toNat → L (a + (i : Int)).toNat = L' (a + (i : Int)).toNat := fun i hi => h _ (by omega) (by omega)
  have hv : ∀ L : Nat → Int, valC (a, b, L, n, cl) k d = (if k = 48 then some (d - 1000) else if k = 120 then cellE (a, b, L, n, cl) b d else if k = 112 then cellE (a, b, L, n, cl) (b - 1) d else if k = 110 then cellE (a, b, L, n, cl) (b + 1) d else if k = 102 then cellE (a, b, L, n, cl) (frE L (d / 2) (b - a + 1).toNat a) (d % 2) else if k = 108 then cellE (a, b, L, n, cl) (lsE L (d / 2) (b - a + 1).toNat a) (d % 2) else if k = 115 then some (smE L cl (d / 2) (d % 2) (b - a + 1).toNat a) else some (cnE L (d / 2) (b - a + 1).toNat a)) := fun L => rfl
  have hc : ∀ r c, cellE (a, b, L, n, cl) r c = cellE (a, b, L', n, cl) r c := fun _ _ => rfl
  rw [hv L, hv L', frE_cong _ _ hi, lsE_cong _ _ hi, smL_cong _ _ hi, cnE_cong _ _ hi]
  simp only [hc]
theorem runL_L {e e' : CEnv} (hv : ∀ k d, valC e k d = valC e' k d) : ∀ (l : List Int) (t : Int), runL e l t = runL e' l t
  | [], t => rfl
  | [s], t => rfl
  | [s, a], t => rfl
  | s :: a :: b :: r, t => by
    show (if isOp s then runL e (a :: b :: r) (sgT s t) else runL e r (psh t (cmpB s (valZ e a) (valZ e b)))) = (if isOp s then runL e' (a :: b :: r) (sgT s t) else runL e' r (psh t (cmpB s (valZ e' a) (valZ e' b))))
    rw [runL_L hv (a :: b :: r), runL_L hv r]
    unfold valZ
    rw [hv, hv]
theorem cdV_L {e e' : CEnv} (hv : ∀ k d, valC e k d = valC e' k d) (q : Option (List Int)) : cdV e q = cdV e' q := by
  cases q with
  | none => rfl
  | some l =>
    show (if and64 (runL e l 0) 1 = 1 then (1 : Int) else 0) = if and64 (runL e' l 0) 1 = 1 then 1 else 0
    rw [runL_L hv]
theorem hcL_cd (wv : Nat → Int) : HcL (fun w e => cdV e (cdO (wv w))) := fun w a b L L' n cl h0 h => cdV_L (fun k d => valC_L h0 h) _
/-- a way takes a try -/
theorem run_tr {F : Tb} {c : Nat} {n may : Int} {hc : Nat → CEnv → Int} {cl : Nat → Int} {e : Int} (hW : WfT F 0 c) : ∀ (f : Nat) (ph : Int) (J : SJ), RunI F c n may f ph J → (runA F n may hc cl e f ph J).1 = 1 → 1 ≤ (runA F n may hc cl e f ph J).2.1 10
  | 0, ph, J, h => (RunI.fuel (fun p h1 h2 => (tab_s hW ⟨h1, h2⟩).2.1) h).elim
  | f + 1, ph, J, h => by
    intro h7
    rcases run_cases (hc := hc) (cl := cl) hW h with ⟨ph1, J1, h1, h2, h3, -⟩ | ⟨p1, u, h1, h2, h3⟩ | ⟨⟨x, hx, h1⟩, h2⟩
    · rw [h2] at h7 ⊢
      exact run_tr hW f ph1 J1 h1 h7
    · obtain ⟨hs, hd⟩ := h.c1 p1
      have hg : gU J (J.1 8) = 0 := if_pos u
      have hd2 := hd.2.1
      have hs3 := hs.1.1
      by_cases he : e = -1 ∨ e = J.1 9
      · rw [runA_w p1 u he]
        show 1 ≤ J.1 10
        omega
      · rw [runA_v p1 u he] at h7 ⊢
        exact run_tr hW f 2 _ h1 h7
    · rw [h1] at h7
      have h7 : x = 1 := h7
      omega
/-! the search's answers, made canonical: x = table, parts, rows, conditions, cells -/
abbrev CX : Type := Tb × Nat × Int × (Nat → CEnv → Int) × (Nat → Int)
def CxO (x : CX) : Prop := WfT x.1 0 x.2.1 ∧ (1 ≤ x.2.1 ∧ x.1 (x.2.1 - 1) 9 ≤ 6 ∧ x.1 (x.2.1 - 1) 10 ≤ 23) ∧ (0 ≤ x.2.2.1 ∧ x.2.2.1 ≤ 32) ∧ HcL x.2.2.2.1
def J00 : SJ := (fun _ => 0, fun _ => 0, fun _ _ => 0, fun _ _ => 0)
abbrev skJ (x : CX) (e st : Int) (J : SJ) : Int × SJ := seekA x.1 x.2.1 x.2.2.1 800 x.2.2.2.1 x.2.2.2.2 e st J
def skA (x : CX) (e st : Int) : Int × SJ := skJ x e st J00
def fV (x : CX) (st : Int) : Int := firV (skA x (-1) st) st
def tV (x : CX) (st : Int) : Int := triV (skA x (-1) st)
def wV (x : CX) (st i : Int) : Int := wayV (skA x (-1) st) st i
def aV (x : CX) (st : Int) : Int := wasV (skA x (-2) st)
def sV (x : CX) (st w : Int) : Int := spaV (skA x (-2) st) w
def eV (x : CX) (st e : Int) : Int := (skA x e st).1
theorem ini_LE {J J' : SJ} {c st : Int} : LE (iniJ J c st) (iniJ J' c st) := ⟨rfl, fun i hi => by have hi : (i : Int) < 0 := hi; omega, fun i hi => by have hi : (i : Int) < 0 := hi; omega, fun k h1 h2 => by
  have h1 : st ≤ (k : Int) := h1
  have h2 : (k : Int) < st := h2
  omega⟩
theorem ini_Gd {hc : Nat → CEnv → Int} {n : Int} {cl : Nat → Int} {J : SJ} {c st : Int} : GdJ hc n cl (iniJ J c st) := ⟨⟨fun i hi => by have hi : (i : Int) < 0 := hi; omega, fun i hi => by have hi : (i : Int) + 1 < 0 := hi; omega⟩, fun k h1 h2 => by
  have h1 : st ≤ (k : Int) := h1
  have h2 : (k : Int) < st := h2
  omega⟩
section CAN
variable {x : CX} {st : Int}
theorem CxO.run (h : CxO x) (hs : 0 ≤ st ∧ st ≤ x.2.2.1) (J : SJ) : RunI x.1 x.2.1 x.2.2.1 800 155000 0 (iniJ J (x.2.1 : Int) st) := ini_run h.2.1 ⟨hs.1, hs.2, h.2.2.1.2⟩ (by omega)
theorem sk_LE (h : CxO x) (hs : 0 ≤ st ∧ st ≤ x.2.2.1) (e : Int) (J : SJ) : LEr (skA x e st) (skJ x e st J) :=
  (run_LE (e := e) (cl := x.2.2.2.2) h.1 h.2.2.2 155000 0 (iniJ J00 (x.2.1 : Int) st) (iniJ J (x.2.1 : Int) st) (h.run hs J00) ini_Gd ini_LE).1
theorem sk_Gd (h : CxO x) (hs : 0 ≤ st ∧ st ≤ x.2.2.1) (e : Int) : GdJ x.2.2.2.1 x.2.2.1 x.2.2.2.2 (skA x e st).2 :=
  (run_LE (e := e) (cl := x.2.2.2.2) h.1 h.2.2.2 155000 0 (iniJ J00 (x.2.1 : Int) st) (iniJ J00 (x.2.1 : Int) st) (h.run hs J00) ini_Gd ini_LE).2.2
theorem sk_inv (h : CxO x) (hs : 0 ≤ st ∧ st ≤ x.2.2.1) (e : Int) : ((skA x e st).1 = -7 ∨ (((skA x e st).1 = 1 ∨ (skA x e st).1 = 0) ∧ st ≤ (skA x e st).2.1 9 ∧ (skA x e st).2.1 9 ≤ x.2.2.1 ∧ 0 ≤ (skA x e st).2.1 10 ∧ (skA x e st).2.1 10 ≤ 800)) ∧ (skA x e st).2.1 6 = st := by
  have a := runA_inv (hc := x.2.2.2.1) (cl := x.2.2.2.2) (e := e) h.1 155000 0 _ (h.run hs J00)
  have b := seekA_inv (hc := x.2.2.2.1) (cl := x.2.2.2.2) (e := e) (J := J00) (may := 800) h.1 h.2.1 ⟨hs.1, hs.2, h.2.2.1.2⟩ (by omega)
  refine ⟨b.imp id fun z => ⟨z.1, z.2.1, z.2.2.1, z.2.2.2.1, z.2.2.2.2.1⟩, a.2⟩
theorem fir_any (h : CxO x) (hs : 0 ≤ st ∧ st ≤ x.2.2.1) (J : SJ) : firV (skJ x (-1) st J) st = fV x st := by
  have e := sk_LE h hs (-1) J
  unfold fV firV
  rw [e.1, e.2.1]
theorem tri_any (h : CxO x) (hs : 0 ≤ st ∧ st ≤ x.2.2.1) (J : SJ) : triV (skJ x (-1) st J) = tV x st := by
  have e := sk_LE h hs (-1) J
  unfold tV triV
  rw [e.1, e.2.1]
theorem way_any (h : CxO x) (hs : 0 ≤ st ∧ st ≤ x.2.2.1) (J : SJ) (i : Int) : wayV (skJ x (-1) st J) st i = wV x st i := by
  have e := sk_LE h hs (-1) J
  have v := sk_inv h hs (-1)
  unfold wV wayV
  rw [e.1, e.2.1]
  by_cases c : (skA x (-1) st).1 = -7
  · rw [if_pos c, if_pos c]
  · rw [if_neg c, if_neg c]
    by_cases d : (skA x (-1) st).1 = 1 ∧ 0 ≤ i ∧ i < (skA x (-1) st).2.1 9 - st
    · rw [if_pos d, if_pos d]
      exact e.2.2.2.2 (st + i).toNat (by rw [v.2]; omega) (by omega)
    · rw [if_neg d, if_neg d]
theorem was_any (h : CxO x) (hs : 0 ≤ st ∧ st ≤ x.2.2.1) (J : SJ) : wasV (skJ x (-2) st J) = aV x st := by
  have e := sk_LE h hs (-2) J
  unfold aV wasV
  rw [e.1, e.2.1]
theorem spa_any (h : CxO x) (hs : 0 ≤ st ∧ st ≤ x.2.2.1) (J : SJ) (w : Int) : spaV (skJ x (-2) st J) w = sV x st w := by
  have e := sk_LE h hs (-2) J
  unfold sV spaV
  rw [e.1, e.2.1]
theorem fit_any (h : CxO x) (hs : 0 ≤ st ∧ st ≤ x.2.2.1) (J : SJ) (e : Int) : (skJ x e st J).1 = eV x st e := (sk_LE h hs e J).1
/-- what the law asks of a start -/
theorem can_first (h : CxO x) (hs : 0 ≤ st ∧ st ≤ x.2.2.1) :
    (fV x st = -7 ∧ aV x st = -7 ∧ tV x st = -7) ∨
    (fV x st = -5 ∧ aV x st = 0 ∧ sV x st 0 = -5 ∧ sV x st 1 = -5 ∧ ∀ e, st ≤ e → e ≤ x.2.2.1 → eV x st e = 0) ∨
    ((0 ≤ fV x st ∧ st + fV x st ≤ x.2.2.1) ∧ (∀ k, 0 ≤ k → k < fV x st → 0 ≤ wV x st k ∧ wV x st k ≤ 25 ∧ x.2.2.2.1 (wV x st k).toNat (st, st + k, (fun q : Nat => wV x st ((q : Int) - st)), x.2.2.1, x.2.2.2.2) = 1) ∧ wV x st (fV x st) = -5 ∧ eV x st (st + fV x st) = 1 ∧ (1 ≤ tV x st ∧ tV x st ≤ 800) ∧
      (aV x st = -7 ∨ (1 ≤ aV x st ∧ (0 ≤ sV x st 0 ∧ sV x st 0 ≤ fV x st ∧ fV x st ≤ sV x st 1 ∧ st + sV x st 1 ≤ x.2.2.1) ∧ ∀ e, st ≤ e → e ≤ x.2.2.1 → (eV x st e = 1 ∧ sV x st 0 ≤ e - st ∧ e - st ≤ sV x st 1) ∨ (eV x st e = 0 ∧ e - st ≠ sV x st 0 ∧ e - st ≠ sV x st 1)))) := by
  have hR := h.run hs J00
  obtain ⟨F1, F2⟩ := end_first (hc := x.2.2.2.1) (cl := x.2.2.2.2) h.1 155000 0 _ hR
  have hrng := end_rng (hc := x.2.2.2.1) (cl := x.2.2.2.2) h.1 155000 0 _ hR
  have h2 : ¬ (-2 : Int) ∈ endA x.1 x.2.2.1 800 x.2.2.2.1 x.2.2.2.2 155000 0 (iniJ J00 (x.2.1 : Int) st) := fun hm => by
    have := (hrng _ hm).1
    have this : st ≤ -2 := this
    omega
  have hat : ∀ e, st ≤ e → _ := fun e he => end_at (hc := x.2.2.2.1) (cl := x.2.2.2.2) (e := e) h.1 (by omega) 155000 0 _ hR
  have hcnt := end_cnt (hc := x.2.2.2.1) (cl := x.2.2.2.2) h.1 155000 0 _ hR h2
  have htr := run_tr (hc := x.2.2.2.1) (cl := x.2.2.2.2) (e := -1) h.1 155000 0 _ hR
  have v := sk_inv h hs (-1)
  have v2 := sk_inv h hs (-2)
  have ve := fun e => sk_inv h hs e
  have g := (sk_Gd h hs (-1)).2
  have e1 : runA x.1 x.2.2.1 800 x.2.2.2.1 x.2.2.2.2 (-1) 155000 0 (iniJ J00 (x.2.1 : Int) st) = skA x (-1) st := rfl
  have e2 : runA x.1 x.2.2.1 800 x.2.2.2.1 x.2.2.2.2 (-2) 155000 0 (iniJ J00 (x.2.1 : Int) st) = skA x (-2) st := rfl
  have ee : ∀ e, runA x.1 x.2.2.1 800 x.2.2.2.1 x.2.2.2.2 e 155000 0 (iniJ J00 (x.2.1 : Int) st) = skA x e st := fun e => rfl
  have i6 : (iniJ J00 (x.2.1 : Int) st).1 6 = st := rfl
  have i11 : (iniJ J00 (x.2.1 : Int) st).1 11 = 0 := rfl
  have i12 : (iniJ J00 (x.2.1 : Int) st).1 12 = 0 := rfl
  have i13 : (iniJ J00 (x.2.1 : Int) st).1 13 = 0 := rfl
  rw [i6, i11, i12, i13, e2] at hcnt
  rw [e1] at htr
  generalize hE : endA x.1 x.2.2.1 800 x.2.2.2.1 x.2.2.2.2 155000 0 (iniJ J00 (x.2.1 : Int) st) = E at *
  have fd : fV x st = if (skA x (-1) st).1 = -7 then -7 else if (skA x (-1) st).1 = 1 then (skA x (-1) st).2.1 9 - st else -5 := rfl
  have td : tV x st = if (skA x (-1) st).1 = -7 then -7 else (skA x (-1) st).2.1 10 := rfl
  have ad : aV x st = if (skA x (-2) st).1 = -7 then -7 else (skA x (-2) st).2.1 11 := rfl
  have sd : ∀ w, sV x st w = if (skA x (-2) st).1 = -7 then -7 else if (skA x (-2) st).2.1 11 = 0 then -5 else if w = 0 then (skA x (-2) st).2.1 12 else (skA x (-2) st).2.1 13 := fun w => rfl
  have wd : ∀ i, wV x st i = if (skA x (-1) st).1 = -7 then -7 else if (skA x (-1) st).1 = 1 ∧ 0 ≤ i ∧ i < (skA x (-1) st).2.1 9 - st then (skA x (-1) st).2.2.1 (st + i).toNat else -5 := fun i => rfl
  cases E with
  | nil =>
    obtain ⟨q1, q2⟩ := F1 rfl (-2)
    rw [e1, e2] at q1
    rw [e1] at q2
    by_cases c : (skA x (-1) st).1 = -7
    · refine Or.inl ⟨?_, ?_, ?_⟩
      · rw [fd, if_pos c]
      · rw [ad, q1, if_pos c]
      · rw [td, if_pos c]
    · have c0 : (skA x (-1) st).1 = 0 := by omega
      have hc3 := hcnt (by rw [q1]; exact c)
      have n11 : (skA x (-2) st).2.1 11 = 0 := congrArg Prod.fst hc3
      refine Or.inr (Or.inl ⟨?_, ?_, ?_, ?_, fun e he hn => ?_⟩)
      · rw [fd, if_neg c, if_neg q2]
      · rw [ad, if_neg (by rw [q1]; exact c)]; exact n11
      · rw [sd, if_neg (by rw [q1]; exact c), if_pos n11]
      · rw [sd, if_neg (by rw [q1]; exact c), if_pos n11]
      · have z := (F1 rfl e).1
        rw [ee, e1] at z
        show (skA x e st).1 = 0
        rw [z]; exact c0
  | cons p l =>
    obtain ⟨q1, q2⟩ := F2 p l rfl
    rw [e1] at q1 q2
    have hp := hrng p List.mem_cons_self
    have hp1 : st ≤ p := hp.1
    have f0 : fV x st = p - st := by rw [fd, if_neg (by omega), if_pos q1, q2]
    have g6 := v.2
    refine Or.inr (Or.inr ⟨⟨by omega, by rw [f0]; have := hp.2; omega⟩, fun k k0 k1 => ?_, ?_, ?_, ?_, ?_⟩)
    · have w0 : ∀ i, 0 ≤ i → i < p - st → wV x st i = (skA x (-1) st).2.2.1 (st + i).toNat := fun i a b => by
        rw [wd, if_neg (by omega), if_pos ⟨q1, a, by rw [q2]; exact b⟩]
      have gk := g (st + k).toNat (by rw [g6]; omega) (by rw [q2]; omega)
      rw [w0 k k0 (by omega)]
      refine ⟨gk.1, gk.2.1, ?_⟩
      have gz := gk.2.2
      rw [g6, show (((st + k).toNat : Nat) : Int) = st + k by omega] at gz
      have hq : ∀ q : Nat, st ≤ (q : Int) → (q : Int) ≤ st + k → (fun q : Nat => wV x st ((q : Int) - st)) q = (skA x (-1) st).2.2.1 q := fun q a b => by
        show wV x st ((q : Int) - st) = _
        rw [w0 _ (by omega) (by omega), show (st + ((q : Int) - st)).toNat = q by omega]
      exact (h.2.2.2 ((skA x (-1) st).2.2.1 (st + k).toNat).toNat st (st + k) (fun q : Nat => wV x st ((q : Int) - st)) (skA x (-1) st).2.2.1 x.2.2.1 x.2.2.2.2 hs.1 hq).trans gz
    · rw [wd, if_neg (by omega), if_neg (by rw [q2, f0]; omega)]
    · rw [f0, show st + (p - st) = p by omega]
      exact (hat p hp1).1 List.mem_cons_self
    · have t1 := htr q1
      rcases v.1 with z | z
      · omega
      · rw [td, if_neg (by omega)]; omega
    · by_cases c : (skA x (-2) st).1 = -7
      · refine Or.inl ?_
        rw [ad, if_pos c]
      · have hc3 := hcnt c
        have hall := (nf_all (s := st) (l := p :: l) (fun q hq => (hrng q hq).1)).2 (by simp)
        rw [← hc3] at hall
        obtain ⟨m1, m2, ⟨plo, l1, l2⟩, ⟨phi, l3, l4⟩⟩ := hall
        have m1 : 1 ≤ (skA x (-2) st).2.1 11 := m1
        have m2 : ∀ q ∈ p :: l, (skA x (-2) st).2.1 12 ≤ q - st ∧ q - st ≤ (skA x (-2) st).2.1 13 := m2
        have l2 : plo - st = (skA x (-2) st).2.1 12 := l2
        have l4 : phi - st = (skA x (-2) st).2.1 13 := l4
        have s0 : sV x st 0 = plo - st := by rw [sd, if_neg c, if_neg (by omega), if_pos rfl]; omega
        have s1 : sV x st 1 = phi - st := by rw [sd, if_neg c, if_neg (by omega), if_neg (by omega)]; omega
        have a1 : aV x st = (skA x (-2) st).2.1 11 := by rw [ad, if_neg c]
        have rlo := hrng plo l1
        have rhi := hrng phi l3
        have rlo1 : st ≤ plo := rlo.1
        have mp := m2 p List.mem_cons_self
        refine Or.inr ⟨by omega, ⟨by omega, by omega, by omega, by have := rhi.2; omega⟩, fun e he hn => ?_⟩
        by_cases d : e ∈ p :: l
        · refine Or.inl ⟨(hat e he).1 d, ?_⟩
          have := m2 e d
          omega
        · obtain ⟨z1, z2⟩ := (hat e he).2 d
          have z3 := z2 h2
          rw [ee, e2] at z3
          rw [ee] at z1
          refine Or.inr ⟨?_, fun z => ?_, fun z => ?_⟩
          · show (skA x e st).1 = 0
            rcases (ve e).1 with y | y
            · rw [z3] at y; exact absurd y c
            · omega
          · have : e = plo := by omega
            subst this; exact d l1
          · have : e = phi := by omega
            subst this; exact d l3
end CAN
