/-! what is told of matches and measures: class and reference alike -/
theorem covF_congr {f g : Nat → Int} : ∀ n, (∀ j, j < n → f j = g j) → covF f n = covF g n
  | 0, _ => rfl
  | n + 1, h => by
    have ih := covF_congr n (fun j hj => h j (by omega))
    show (if 0 ≤ f n then covF f n + 1 else covF f n) = (if 0 ≤ g n then covF g n + 1 else covF g n)
    rw [h n (by omega), ih]
theorem cn0_congr {f g : Nat → Int} : ∀ n, (∀ j, j < n → f j = g j) → cn0 f n = cn0 g n
  | 0, _ => rfl
  | n + 1, h => by
    have ih := cn0_congr n (fun j hj => h j (by omega))
    show (if f n = 0 then cn0 f n + 1 else cn0 f n) = (if g n = 0 then cn0 g n + 1 else cn0 g n)
    rw [h n (by omega), ih]
theorem mskF_congr {f g : Nat → Bool} : ∀ n, (∀ j, j < n → f j = g j) → mskF f n = mskF g n
  | 0, _ => rfl
  | n + 1, h => by
    have ih := mskF_congr n (fun j hj => h j (by omega))
    show (if f n = true then or32 (mskF f n) (shl32 1 (n : Int)) else mskF f n) = (if g n = true then or32 (mskF g n) (shl32 1 (n : Int)) else mskF g n)
    rw [h n (by omega), ih]
theorem foldM_congr {f g u v : Nat → Int} {L : Int} : ∀ n, (∀ j, j < n → f j = g j) → (∀ j, j < n → u j = v j) → foldM f u L n = foldM g v L n
  | 0, _, _ => rfl
  | n + 1, h, k => by
    have ih := foldM_congr (L := L) n (fun j hj => h j (by omega)) (fun j hj => k j (by omega))
    show stepM (f n) (u n) L (foldM f u L n) = stepM (g n) (v n) L (foldM g v L n)
    rw [h n (by omega), k n (by omega), ih]
theorem foldM_tail {f u : Nat → Int} {L : Int} (n : Nat) : ∀ d, (∀ r, n ≤ r → r < n + d → f r = -5) → foldM f u L (n + d) = foldM f u L n
  | 0, _ => rfl
  | d + 1, h => by
    have ih := foldM_tail (u := u) (L := L) n d (fun r h1 h2 => h r h1 (by omega))
    show stepM (f (n + d)) (u (n + d)) L (foldM f u L (n + d)) = _
    rw [ih, h (n + d) (by omega) (by omega)]
    unfold stepM
    rw [if_neg (by omega)]
theorem MsOK.at {n : Int} {Ms : ML} (h : MsOK n Ms) {j : Nat} (hj : j < Ms.length) : ∃ s e le, Ms[j]? = some (s, e, le) ∧ 0 ≤ s ∧ s ≤ e ∧ e ≤ n ∧ ∀ k, 0 ≤ le k ∧ le k ≤ 25 := by
  have q := h Ms[j] (List.getElem_mem hj)
  exact ⟨Ms[j].1, Ms[j].2.1, Ms[j].2.2, List.getElem?_eq_getElem hj, q.1, q.2.1, q.2.2.1, q.2.2.2⟩
theorem MaR.mat {m : Mem} {n : Int} {Ms : ML} (hR : MaR (mI m) 31 3337 Ms) (hl : Ms.length ≤ 33 ∧ mI m 31 3336 = (Ms.length : Int)) (hO : MsOK n Ms) (hn : n ≤ 32) : MatR m := by
  refine ⟨by omega, by omega, fun j h0 h1 => ?_⟩
  obtain ⟨s, e, le, q1, q2, q3, q4, q5⟩ := hO.at (j := j.toNat) (by omega)
  obtain ⟨w1, w2, w3⟩ := hR _ _ _ _ q1
  rw [show (3337 + 34 * j + 0).toNat = 3337 + 34 * j.toNat by omega, show (3337 + 34 * j + 1).toNat = 3337 + 34 * j.toNat + 1 by omega, w1, w2]
  omega
/-- a row's letter: class and reference -/
theorem lab_at {m : Mem} {M : Nat} {n : Int} {Ms : ML} (hC : MaC (mI m) M (M + 1) (M + 2) (M + 3) Ms) (hR : MaR (mI m) 31 3337 Ms) (hO : MsOK n Ms) (hn : n ≤ 32) {j r : Nat} (hj : j < Ms.length) (hr : r < 32) : mI m (M + 3) (32 * j + r) = labR m (j : Int) (r : Int) ∧ (mI m (M + 3) (32 * j + r) = -5 ∨ (0 ≤ mI m (M + 3) (32 * j + r) ∧ mI m (M + 3) (32 * j + r) ≤ 25)) ∧ (n ≤ (r : Int) → mI m (M + 3) (32 * j + r) = -5) := by
  obtain ⟨s, e, le, q1, q2, q3, q4, q5⟩ := hO.at hj
  obtain ⟨w1, w2, w3⟩ := hR _ _ _ _ q1
  have v3 := (hC.2 _ _ _ _ q1).2.2 r hr
  rw [v3]
  unfold labR
  rw [show (3337 + 34 * (j : Int) + 0).toNat = 3337 + 34 * j by omega, show (3337 + 34 * (j : Int) + 1).toNat = 3337 + 34 * j + 1 by omega, w1, w2]
  have q5r := q5 r
  by_cases c : s ≤ (r : Int) ∧ (r : Int) < e
  · rw [if_pos c, if_pos (show 0 ≤ (r : Int) - s ∧ (r : Int) - s < e - s by omega)]
    have w := w3 ((r : Int) - s).toNat (by omega)
    rw [show (3337 + 34 * (j : Int) + (2 + ((r : Int) - s))).toNat = 3337 + 34 * j + 2 + ((r : Int) - s).toNat by omega, w, show (s + (((r : Int) - s).toNat : Int)).toNat = r by omega]
    exact ⟨rfl, Or.inr q5r, fun h => by omega⟩
  · rw [if_neg c, if_neg (show ¬ (0 ≤ (r : Int) - s ∧ (r : Int) - s < e - s) by omega)]
    exact ⟨rfl, Or.inl rfl, fun _ => rfl⟩
theorem labC_at {m : Mem} {M j r : Nat} : labC m (M + 3) (j : Int) r = mI m (M + 3) (32 * j + r) := by
  unfold labC
  rw [show ((j : Int) * 32 + (r : Int)).toNat = 32 * j + r by omega]
theorem numC_bd {m : Mem} {col : Int} (hT : TabG m 1 31) (hc : 0 ≤ col ∧ col < 2) (r : Nat) : -999 ≤ numC m 2 3 col r ∧ numC m 2 3 col r ≤ 1000 := by
  obtain ⟨⟨t1, t2, t3⟩, t4⟩ := hT
  have n1 : mI m 2 1 = mI m 31 64 := t1
  unfold numC
  by_cases c : (r : Int) < mI m 2 1
  · rw [if_pos c]
    have t : mI m 3 ((r : Int) * 2 + col).toNat = mI m 31 ((r : Int) * 2 + col).toNat ∧ -999 ≤ mI m 31 ((r : Int) * 2 + col).toNat ∧ mI m 31 ((r : Int) * 2 + col).toNat ≤ 1000 := t4 _ (by omega)
    omega
  · rw [if_neg c]; omega
/-- a measure of a match: class and reference -/
theorem mes_eq {m : Mem} {M : Nat} {Ms : ML} {e col w : Int} (hT : TabG m 1 31) (hC : MaC (mI m) M (M + 1) (M + 2) (M + 3) Ms) (hR : MaR (mI m) 31 3337 Ms) (hO : MsOK (mI m 31 64) Ms) {j : Nat} (hj : j < Ms.length) (hcol : 0 ≤ col ∧ col < 2) : mesC m (M + 3) e col w j = mesR m e col w j := by
  obtain ⟨⟨t1, t2, t3⟩, t4⟩ := hT
  have n1 : mI m 2 1 = mI m 31 64 := t1
  obtain ⟨n, hn⟩ : ∃ n : Nat, mI m 31 64 = (n : Int) := ⟨(mI m 31 64).toNat, by omega⟩
  have e0 : foldM (labC m (M + 3) (j : Int)) (numC m 2 3 col) e 32 = foldM (labC m (M + 3) (j : Int)) (numC m 2 3 col) e n := by
    obtain ⟨d, hd⟩ : ∃ d, 32 = n + d := ⟨32 - n, by omega⟩
    have q := foldM_tail (f := labC m (M + 3) (j : Int)) (u := numC m 2 3 col) (L := e) n d (fun r h1 h2 => by
      rw [labC_at]
      exact (lab_at hC hR hO t3 hj (show r < 32 by omega)).2.2 (by omega))
    rw [← hd] at q
    exact q
  have e1 : foldM (labC m (M + 3) (j : Int)) (numC m 2 3 col) e n = foldM (fun r_ : Nat => labR m (j : Int) (r_ : Int)) (numR2 m col) e n :=
    foldM_congr n (fun r hr => by rw [labC_at]; exact (lab_at hC hR hO t3 hj (show r < 32 by omega)).1) (fun r hr => by
      unfold numC numR2
      rw [if_pos (show (r : Int) < mI m 2 1 by omega), if_pos (show r < 32 by omega), show (2 * (r : Int) + col).toNat = ((r : Int) * 2 + col).toNat by omega]
      exact (t4 _ (by omega)).1)
  unfold mesC mesR
  rw [e0, e1, hn, Int.toNat_natCast]
/-- letters' bits of a match -/
theorem bits_eq {f g : Nat → Int} {s e : Nat} (hse : s ≤ e) (h1 : ∀ r, r < 32 → f r = if s ≤ r ∧ r < e then g (r - s) else -5) (h2 : ∀ k, 0 ≤ g k) : ∀ q, q ≤ 32 → bitsF f q = (foldB g (min (q - s) (e - s))).1
  | 0, _ => by rw [show min (0 - s) (e - s) = 0 by omega]; rfl
  | q + 1, hq => by
    have ih := bits_eq hse h1 h2 q (by omega)
    show (if 0 ≤ f q then or32 (bitsF f q) (shl32 1 (f q)) else bitsF f q) = _
    rw [h1 q (by omega)]
    by_cases c : s ≤ q ∧ q < e
    · rw [if_pos c, if_pos (h2 _), ih, show min (q + 1 - s) (e - s) = (q - s) + 1 by omega, show min (q - s) (e - s) = q - s by omega]
      rfl
    · rw [if_neg c, if_neg (by omega), ih]
      by_cases c2 : q < s
      · rw [show min (q + 1 - s) (e - s) = 0 by omega, show min (q - s) (e - s) = 0 by omega]
      · rw [show min (q + 1 - s) (e - s) = e - s by omega, show min (q - s) (e - s) = e - s by omega]
