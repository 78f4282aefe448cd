/-! the reference reads conditions: signs, numbers, rows -/
def RQ (I : Nat → Nat → Int) (tx : Nat → Int) (n : Nat) (S : CS) : Prop := I 30 6 = (n : Int) ∧ I 30 7 = (S.2 : Int) ∧ I 30 8 = (if S.1 = true then 1 else 0) ∧ S.2 ≤ n ∧ n ≤ 120 ∧ (∀ k, k < n → I 34 k = tx k ∧ 1 ≤ tx k ∧ tx k ≤ 127)
def QFr (I I' : Nat → Nat → Int) : Prop := ∀ o k, ¬ (o = 30 ∧ (k = 7 ∨ k = 8 ∨ k = 26 ∨ k = 27)) → I' o k = I o k
theorem QFr.rf {I : Nat → Nat → Int} : QFr I I := fun _ _ _ => rfl
theorem QFr.tr {I J K : Nat → Nat → Int} (h : QFr I J) (h2 : QFr J K) : QFr I K := fun o k a => (h2 o k a).trans (h o k a)
theorem QFr.set {I J : Nat → Nat → Int} {o k : Nat} {v : Int} (h : QFr I J) (hk : o = 30 ∧ (k = 7 ∨ k = 8 ∨ k = 26 ∨ k = 27)) : QFr I (up2 J o k v) := fun o' k' a => by
  have e : up2 J o k v o' k' = J o' k' := if_neg fun e => by
    obtain ⟨rfl, rfl⟩ := e
    exact a hk
  rw [e]
  exact h o' k' a
def QFs (I I' : Nat → Nat → Int) : Prop := ∀ o k, ¬ (o = 30 ∧ (k = 7 ∨ k = 8)) → I' o k = I o k
theorem QFs.r {I I' : Nat → Nat → Int} (h : QFs I I') : QFr I I' := fun o k a => h o k (by omega)
theorem QFs.rf {I : Nat → Nat → Int} : QFs I I := fun _ _ _ => rfl
theorem QFs.tr {I J K : Nat → Nat → Int} (h : QFs I J) (h2 : QFs J K) : QFs I K := fun o k a => (h2 o k a).trans (h o k a)
theorem QFs.set {I J : Nat → Nat → Int} {o k : Nat} {v : Int} (h : QFs I J) (hk : o = 30 ∧ (k = 7 ∨ k = 8)) : QFs I (up2 J o k v) := fun o' k' a => by
  have e : up2 J o k v o' k' = J o' k' := if_neg fun e => by
    obtain ⟨rfl, rfl⟩ := e
    exact a hk
  rw [e]
  exact h o' k' a
theorem RQ.cS {I : Nat → Nat → Int} {tx : Nat → Int} {n : Nat} {S : CS} (h : RQ I tx n S) : ccS tx n S = (if I 30 8 = 1 ∧ I 30 7 < I 30 6 ∧ I 34 (I 30 7).toNat ≠ 59 then I 34 (I 30 7).toNat else -1) ∧ 0 ≤ I 30 7 ∧ I 30 7 ≤ I 30 6 ∧ I 30 6 ≤ 120 ∧ (I 30 8 = 0 ∨ I 30 8 = 1) ∧ (I 30 7 < I 30 6 → 1 ≤ I 34 (I 30 7).toNat ∧ I 34 (I 30 7).toNat ≤ 127) ∧ (S.1 = true ↔ I 30 8 = 1) ∧ I 30 7 = (S.2 : Int) := by
  obtain ⟨h1, h2, h3, h5, h7, h8⟩ := h
  have e : (I 30 7).toNat = S.2 := by omega
  have hw : S.1 = true ↔ I 30 8 = 1 := by
    by_cases a : S.1 = true
    · rw [if_pos a] at h3; exact ⟨fun _ => h3, fun _ => a⟩
    · rw [if_neg a] at h3; exact ⟨fun e => absurd e a, fun e => by omega⟩
  refine ⟨?_, by omega, by omega, by omega, ?_, fun hl => ?_, hw, h2⟩
  · unfold ccS
    rw [e]
    by_cases b : S.2 < n
    · rw [(h8 _ b).1]
      by_cases c : S.1 = true ∧ tx S.2 ≠ 59
      · rw [if_pos ⟨c.1, b, c.2⟩, if_pos ⟨hw.mp c.1, by omega, c.2⟩]
      · rw [if_neg (fun x => c ⟨x.1, x.2.2⟩), if_neg (fun x => c ⟨hw.mpr x.1, x.2.2⟩)]
    · rw [if_neg (fun x => b x.2.1), if_neg (by omega)]
  · by_cases a : S.1 = true
    · rw [if_pos a] at h3; exact Or.inr h3
    · rw [if_neg a] at h3; exact Or.inl h3
  · rw [e, (h8 _ (by omega)).1]; exact (h8 _ (by omega)).2
theorem RQ.adv {I : Nat → Nat → Int} {tx : Nat → Int} {n : Nat} {S : CS} {v : Int} (h : RQ I tx n S) (hv : v = I 30 7 + 1) (hlt : I 30 7 < I 30 6) : RQ (up2 I 30 7 v) tx n (cAdv S) := by
  obtain ⟨h1, h2, h3, h5, h7, h8⟩ := h
  refine ⟨h1, ?_, h3, ?_, h7, h8⟩
  · show v = ((S.2 + 1 : Nat) : Int); omega
  · show S.2 + 1 ≤ n; omega
theorem RQ.bad {I : Nat → Nat → Int} {tx : Nat → Int} {n : Nat} {S : CS} (h : RQ I tx n S) : RQ (up2 I 30 8 0) tx n (cBad S) := by
  obtain ⟨h1, h2, h3, h5, h7, h8⟩ := h
  exact ⟨h1, h2, rfl, h5, h7, h8⟩
theorem RQ.bad' {I : Nat → Nat → Int} {tx : Nat → Int} {n : Nat} {S : CS} (h : RQ I tx n S) (h0 : I 30 8 = 0) : RQ I tx n (cBad S) := by
  have e : S.1 = false := by
    have := (RQ.cS h).2.2.2.2.2.2.1
    cases hS : S.1 with
    | false => rfl
    | true => have := this.mp hS; omega
  rw [cbad_dead e]; exact h
theorem RQ.fr {I J : Nat → Nat → Int} {tx : Nat → Int} {n : Nat} {S : CS} (h : RQ I tx n S) (hJ : ∀ o k, (o = 30 ∧ (k = 6 ∨ k = 7 ∨ k = 8)) ∨ o = 34 → J o k = I o k) : RQ J tx n S := by
  obtain ⟨h1, h2, h3, h5, h7, h8⟩ := h
  exact ⟨(hJ _ _ (by omega)).trans h1, (hJ _ _ (by omega)).trans h2, (hJ _ _ (by omega)).trans h3, h5, h7, fun k hk => ⟨(hJ _ _ (by omega)).trans (h8 k hk).1, (h8 k hk).2⟩⟩
def envR (I : Nat → Nat → Int) : CEnv := (I 30 24, I 30 25, fun k => I 45 k, I 31 64, fun k => I 31 k)
theorem envR_fr {I J : Nat → Nat → Int} (h : QFr I J) : envR J = envR I := by
  have e1 : (fun k => J 45 k) = fun k => I 45 k := funext fun k => h 45 k (by omega)
  have e2 : (fun k => J 31 k) = fun k => I 31 k := funext fun k => h 31 k (by omega)
  unfold envR
  rw [h 30 24 (by omega), h 30 25 (by omega), h 31 64 (by omega), e1, e2]
def EOK (I : Nat → Nat → Int) : Prop := 0 ≤ I 31 64 ∧ I 31 64 ≤ 32 ∧ -1 ≤ I 30 25 ∧ (I 30 27 = 0 ∨ I 30 27 = 1) ∧ (0 ≤ I 30 25 → 0 ≤ I 30 24 ∧ I 30 24 ≤ I 30 25 ∧ I 30 25 < I 31 64) ∧ I 30 25 < 32 ∧ ∀ k, k < 64 → -999 ≤ I 31 k ∧ I 31 k ≤ 1000
theorem EOK.fr {I J : Nat → Nat → Int} (h : EOK I) (hf : QFr I J) (hl : J 30 27 = 0 ∨ J 30 27 = 1) : EOK J := by
  obtain ⟨h1, h2, h3, h4, h5, h6, h7⟩ := h
  refine ⟨?_, ?_, ?_, hl, ?_, ?_, fun k hk => ?_⟩
  · rw [hf 31 64 (by omega)]; exact h1
  · rw [hf 31 64 (by omega)]; exact h2
  · rw [hf 30 25 (by omega)]; exact h3
  · rw [hf 31 64 (by omega), hf 30 25 (by omega), hf 30 24 (by omega)]; exact h5
  · rw [hf 30 25 (by omega)]; exact h6
  · rw [hf 31 k (by omega)]; exact h7 k hk
theorem EOK.frs {I J : Nat → Nat → Int} (h : EOK I) (hf : QFs I J) : EOK J := h.fr hf.r (by rw [hf 30 27 (by omega)]; exact h.2.2.2.1)

theorem n30 {tx : Nat → Int} {n : Nat} {S : CS} (h : ¬ cDg (ccS tx n S)) : num3 tx n S = (0, cBad S) := if_neg h
theorem n31 {tx : Nat → Int} {n : Nat} {S : CS} (h : cDg (ccS tx n S)) (h2 : ¬ cDg (ccS tx n (cAdv S))) : num3 tx n S = (ccS tx n S - 48, cAdv S) := (if_pos h).trans (if_neg h2)
theorem n32 {tx : Nat → Int} {n : Nat} {S : CS} (h : cDg (ccS tx n S)) (h2 : cDg (ccS tx n (cAdv S))) (h3 : ¬ cDg (ccS tx n (cAdv (cAdv S)))) : num3 tx n S = (10 * (ccS tx n S - 48) + (ccS tx n (cAdv S) - 48), cAdv (cAdv S)) := (if_pos h).trans ((if_pos h2).trans (if_neg h3))
theorem n33 {tx : Nat → Int} {n : Nat} {S : CS} (h : cDg (ccS tx n S)) (h2 : cDg (ccS tx n (cAdv S))) (h3 : cDg (ccS tx n (cAdv (cAdv S)))) : num3 tx n S = (100 * (ccS tx n S - 48) + 10 * (ccS tx n (cAdv S) - 48) + (ccS tx n (cAdv (cAdv S)) - 48), cAdv (cAdv (cAdv S))) := (if_pos h).trans ((if_pos h2).trans (if_pos h3))

theorem up2_nx {α : Type} {f : Nat → Nat → α} {o k o' k' : Nat} {v : α} (h : ¬ (o' = o ∧ k' = k)) : up2 f o k v o' k' = f o' k' := if_neg h

theorem frE_lo (le : Nat → Int) (w : Int) : ∀ (d : Nat) (r : Int), 0 ≤ r → frE le w d r = -1 ∨ (r ≤ frE le w d r ∧ frE le w d r < r + d)
  | 0, r, _ => Or.inl rfl
  | d + 1, r, h => by
    have e2 : frE le w (d + 1) r = if le r.toNat = w then r else frE le w d (r + 1) := rfl
    rw [e2]
    by_cases c : le r.toNat = w
    · rw [if_pos c]; omega
    · rw [if_neg c]
      have := frE_lo le w d (r + 1) (by omega)
      omega
theorem lsE_lo (le : Nat → Int) (w : Int) : ∀ (d : Nat) (r : Int), 0 ≤ r → lsE le w d r = -1 ∨ (r ≤ lsE le w d r ∧ lsE le w d r < r + d)
  | 0, r, _ => Or.inl rfl
  | d + 1, r, h => by
    have e2 : lsE le w (d + 1) r = if le (r + d).toNat = w then r + d else lsE le w d r := rfl
    rw [e2]
    by_cases c : le (r + d).toNat = w
    · rw [if_pos c]; omega
    · rw [if_neg c]
      have := lsE_lo le w d r h
      omega
theorem frE_s (le : Nat → Int) (w : Int) : ∀ (d : Nat) (r : Int), 0 ≤ r → frE le w (d + 1) r = if 0 ≤ frE le w d r then frE le w d r else if le (r + d).toNat = w then r + d else -1
  | 0, r, h => by
    show (if le r.toNat = w then r else -1) = if 0 ≤ (-1 : Int) then _ else if le (r + (0 : Nat)).toNat = w then r + (0 : Nat) else -1
    simp
  | d + 1, r, h => by
    have e : frE le w (d + 1 + 1) r = if le r.toNat = w then r else frE le w (d + 1) (r + 1) := rfl
    have e2 : frE le w (d + 1) r = if le r.toNat = w then r else frE le w d (r + 1) := rfl
    rw [e, e2]
    by_cases c : le r.toNat = w
    · rw [if_pos c, if_pos c, if_pos h]
    · rw [if_neg c, if_neg c, frE_s le w d (r + 1) (by omega)]
      have e3 : r + 1 + (d : Int) = r + ((d + 1 : Nat) : Int) := by omega
      rw [e3]
theorem cnE_b (le : Nat → Int) (w r : Int) : ∀ d : Nat, 0 ≤ cnE le w d r ∧ cnE le w d r ≤ d
  | 0 => ⟨Int.le_refl _, Int.le_refl _⟩
  | d + 1 => by
    have h := cnE_b le w r d
    show 0 ≤ cnE le w d r + (if le (r + d).toNat = w then 1 else 0) ∧ cnE le w d r + (if le (r + d).toNat = w then 1 else 0) ≤ ((d + 1 : Nat) : Int)
    split <;> omega
theorem smE_b (le ce : Nat → Int) (w c r : Int) (hc : ∀ k, k < 64 → -999 ≤ ce k ∧ ce k ≤ 1000) (hr : 0 ≤ r) (h01 : 0 ≤ c ∧ c ≤ 1) : ∀ d : Nat, r + d ≤ 32 → -1000 * (d : Int) ≤ smE le ce w c d r ∧ smE le ce w c d r ≤ 1000 * (d : Int)
  | 0, _ => ⟨Int.le_refl _, Int.le_refl _⟩
  | d + 1, hd => by
    have h := smE_b le ce w c r hc hr h01 d (by omega)
    have h2 := hc (2 * (r + d) + c).toNat (by omega)
    show _ ≤ smE le ce w c d r + (if le (r + d).toNat = w ∧ ce (2 * (r + d) + c).toNat ≠ 1000 then ce (2 * (r + d) + c).toNat else 0) ∧ smE le ce w c d r + (if le (r + d).toNat = w ∧ ce (2 * (r + d) + c).toNat ≠ 1000 then ce (2 * (r + d) + c).toNat else 0) ≤ _
    split <;> omega

