/-! BUILDERS AND STRINGS AS LISTS OF LETTERS -/
theorem mI_set {m : Mem} {o k o' k' : Nat} {v : Int} : mI (setI m o k v) o' k' = if o' = o ∧ k' = k then v else mI m o' k' := rfl
theorem mI_cpy {m : Mem} {a sp b dp n o k : Nat} : mI (cpyI m a sp b dp n) o k = if o = b ∧ dp ≤ k ∧ k < dp + n then mI m a (sp + (k - dp)) else mI m o k := rfl
theorem mI_new {m : Mem} {c n o k : Nat} : mI (newO m c n) o k = if o = mN m then 0 else mI m o k := rfl
theorem mR_set {m : Mem} {o k o' k' : Nat} {v : Option Nat} : mR (setR m o k v) o' k' = if o' = o ∧ k' = k then v else mR m o' k' := rfl
theorem mR_new {m : Mem} {c n o k : Nat} : mR (newO m c n) o k = if o = mN m then none else mR m o k := rfl
theorem mT_newE {m : Mem} {c n o : Nat} : mT (newO m c n) o = if o = mN m then (c, n) else mT m o := rfl
theorem mI_cln {m : Mem} {a n o k : Nat} : mI (clnB m a n) o k = if o = mN m then mI m a k else mI m o k := rfl
theorem mR_cln {m : Mem} {a n o k : Nat} : mR (clnB m a n) o k = if o = mN m then none else mR m o k := rfl
theorem mT_cln {m : Mem} {a n o : Nat} : mT (clnB m a n) o = if o = mN m then (24, n) else mT m o := rfl
theorem mI_newN {m : Mem} {c n o k : Nat} (h : o ≠ mN m) : mI (newO m c n) o k = mI m o k := if_neg h
theorem mT_newN {m : Mem} {c n o : Nat} (h : o ≠ mN m) : mT (newO m c n) o = mT m o := if_neg h
theorem mI_clnN {m : Mem} {a n o k : Nat} (h : o ≠ mN m) : mI (clnB m a n) o k = mI m o k := if_neg h
theorem mT_clnN {m : Mem} {a n o : Nat} (h : o ≠ mN m) : mT (clnB m a n) o = mT m o := if_neg h
/-- a new builder -/
theorem SbO.mk {m : Mem} {bs : Nat} (hb : bs ≤ mN m) : SbO (setI (setR (newO (newO m 12 4) 24 16) (mN m) 0 (some (mN m + 1))) (mN m) 1 0) bs (mN m) [] := by
  have e1 : ∀ k, mI (newO (newO m 12 4) 24 16) (mN m) k = 0 := fun k => by
    rw [mI_newN (m := newO m 12 4) (show mN m ≠ mN m + 1 by omega), mI_new, if_pos rfl]
  refine ⟨hb, show mN m < mN m + 2 by omega, ?_, ?_, ?_, mN m + 1, 16, show bs ≤ mN m + 1 by omega, show mN m + 1 < mN m + 2 by omega, by omega, ?_, ?_, by decide, by decide, fun k x h => by simp at h⟩
  · show mT (newO (newO m 12 4) 24 16) (mN m) = _
    rw [mT_newN (m := newO m 12 4) (show mN m ≠ mN m + 1 by omega), mT_newE, if_pos rfl]
  · rw [mI_set, if_pos ⟨rfl, rfl⟩]
  · rw [mI_set, if_neg (fun e => by have := e.2; omega)]
    exact e1 3
  · exact if_pos ⟨rfl, rfl⟩
  · show mT (newO (newO m 12 4) 24 16) (mN m + 1) = _
    exact if_pos rfl
theorem Kp.mk {m : Mem} {bs : Nat} (hb : bs ≤ mN m) (hN : mN m + 2 ≤ NN) : Kp bs m (_root_.Jvm.Pilot.@@N@@.setI (_root_.Jvm.Pilot.@@N@@.setR (newO (newO m 12 4) 24 16) (mN m) 0 (some (mN m + 1))) (mN m) 1 0) := by
  have h1 : Kp bs m (newO (newO m 12 4) 24 16) := (Kp.rf.new hb (by omega)).new (show bs ≤ mN m + 1 by omega) (show mN m + 1 ≤ NN by omega)
  exact (h1.setR (q := mN m) hb (show mN m < mN m + 2 by omega) hN).setI hb (show mN m < mN m + 2 by omega) hN
/-- append of a String -/
theorem k_app {m : Mem} {bs B s o : Nat} {l w : List Int} (hS : SbO m bs s l) (hO : StrO m B o w) (hB : B ≤ mN m) (hl : l.length + w.length ≤ 5000) (hr : mN m + 1 ≤ NN ∧ mZ m + 2 * (l.length + w.length) ≤ ZZ) :
    Ct μJ4_append_15ec4 5 [vr s, vr o] m (rq fun x m' => x = some s ∧ SbO m' bs s (l ++ w) ∧ Kp bs m m' ∧ mN m ≤ mN m' ∧ mN m' ≤ mN m + 1 ∧ mZ m' ≤ mZ m + 2 * (l.length + w.length)) := by
  obtain ⟨h1, h2, h3, h4, h5, b, n, h6, h7, h8, h9, h10, h11, h12, h13⟩ := hS
  obtain ⟨g1, g2, g3, bo, g4, g5, g6, g7⟩ := hO
  have hos : o ≠ s := fun e => by rw [e, h3] at g2; cases g2
  have ho : (o < mN m ∨ isOut o) ∧ (bo < mN m ∨ isOut bo) ∧ o ≠ s := ⟨g1.imp (fun h => by omega) id, g4.imp (fun h => by omega) id, hos⟩
  by_cases c : l.length + w.length ≤ n
  · refine Ct_mono (b_appN n w.length l.length m s o b bo h3 h9 h10 h4 (by omega) g2 g5 g6 g3 (by omega) ⟨h5, h11, h7, h2⟩ ⟨c, h8⟩) fun r m' hp => ?_
    obtain ⟨x, hx, hx2, rfl⟩ := hp
    refine ⟨x, hx, hx2, ⟨h1, h2, h3, ?_, ?_, b, n, h6, h7, h8, h9, h10, by rw [List.length_append]; exact c, by rw [List.length_append]; omega, fun k y hy => ?_⟩, (Kp.rf.cpy h6 h7 (by omega)).setI h1 h2 (by show mN m ≤ NN; omega), Nat.le_refl _, Nat.le_succ _, Nat.le_add_right _ _⟩
    · rw [mI_set, if_neg (fun e => by have := e.2; omega), mI_cpy, if_neg (fun e => h8 e.1.symm)]; exact h4
    · rw [mI_set, if_pos ⟨rfl, rfl⟩, List.length_append]; omega
    · rw [mI_set, if_neg (fun e => h8 e.1), mI_cpy]
      rcases get_app hy with ⟨a1, a2⟩ | ⟨a1, a2⟩
      · rw [if_neg (fun e => by have := e.2.1; omega)]; exact h13 k y a2
      · have := get_lt a2
        rw [if_pos ⟨rfl, a1, by omega⟩, Nat.zero_add]; exact g7 _ y a2
  · obtain ⟨cap, hcap⟩ : ∃ cap : Nat, (cap : Int) = (n : Int) + (if ((l.length : Int) + (w.length : Int)) - (n : Int) < (n : Int) + 2 then (n : Int) + 2 else ((l.length : Int) + (w.length : Int)) - (n : Int)) := ⟨n + (if l.length + w.length - n < n + 2 then n + 2 else l.length + w.length - n), by
      split <;> split <;> omega⟩
    have hc2 : l.length + w.length ≤ cap ∧ cap ≤ 2 * (l.length + w.length) := by split at hcap <;> omega
    refine Ct_mono (b_appG n w.length l.length cap m s o b bo h3 h9 h10 h4 (by omega) g2 g5 g6 g3 (by omega) ⟨h5, h11, h7, h2⟩ ⟨by omega, hr.1, by omega, by omega, h8, hcap⟩ ho) fun r m' hp => ?_
    obtain ⟨x, hx, hx2, rfl⟩ := hp
    have hbo : bo ≠ mN m := Kp.ne ho.2.1 (Nat.le_refl (mN m)) (Nat.lt_succ_self _) hr.1
    have eI : ∀ q k, q ≠ mN m → mI (setR (cpyI (newO m 24 cap) b 0 (mN m) 0 n) s 0 (some (mN m))) q k = mI m q k := fun q k hq => by
      show mI (cpyI (newO m 24 cap) b 0 (mN m) 0 n) q k = _
      rw [mI_cpy, if_neg (fun e => hq e.1), mI_new, if_neg hq]
    refine ⟨x, hx, hx2, ⟨h1, show s < mN m + 1 by omega, ?_, ?_, ?_, mN m, cap, by omega, show mN m < mN m + 1 by omega, by omega, ?_, ?_, by rw [List.length_append]; omega, by rw [List.length_append]; omega, fun k y hy => ?_⟩, ?_, Nat.le_succ _, Nat.le_refl _, ?_⟩
    · show mT (newO m 24 cap) s = _
      rw [mT_newE, if_neg (by omega)]; exact h3
    · rw [mI_set, if_neg (fun e => by have := e.2; omega), mI_cpy, if_neg (fun e => by have := e.1; omega), eI s 1 (by omega)]; exact h4
    · rw [mI_set, if_pos ⟨rfl, rfl⟩, List.length_append]; omega
    · exact if_pos ⟨rfl, rfl⟩
    · show mT (newO m 24 cap) (mN m) = _
      exact if_pos rfl
    · rw [mI_set, if_neg (fun e => by have := e.1; omega), mI_cpy]
      rcases get_app hy with ⟨a1, a2⟩ | ⟨a1, a2⟩
      · rw [if_neg (fun e => by have := e.2.1; omega)]
        show mI (cpyI (newO m 24 cap) b 0 (mN m) 0 n) (mN m) k = _
        rw [mI_cpy, if_pos ⟨rfl, by omega, by omega⟩, mI_new, if_neg (by omega), Nat.zero_add, Nat.sub_zero]
        exact h13 k y a2
      · have := get_lt a2
        rw [if_pos ⟨rfl, a1, by omega⟩, Nat.zero_add, eI bo _ hbo]; exact g7 _ y a2
    · have k1 : Kp bs m (newO m 24 cap) := Kp.rf.new (by omega) (by omega)
      have k2 := k1.cpy (a := b) (sp := 0) (dp := 0) (n := n) (q := mN m) (by omega) (show mN m < mN m + 1 by omega) hr.1
      have k3 := k2.setR (q := s) (k := 0) (v := some (mN m)) h1 (show s < mN m + 1 by omega) hr.1
      have k4 := k3.cpy (a := bo) (sp := 0) (dp := l.length) (n := w.length) (q := mN m) (by omega) (show mN m < mN m + 1 by omega) hr.1
      exact k4.setI h1 (show s < mN m + 1 by omega) hr.1
    · show mZ m + cap ≤ _
      omega
/-- append of a letter, of a figure: x is what comes into the row -/
theorem k_one {m : Mem} {bs s : Nat} {l : List Int} {x : Int} (hS : SbO m bs s l) (hl : l.length ≤ 5000) (hr : mN m + 1 ≤ NN ∧ mZ m + 2 * (l.length + 1) ≤ ZZ) {μ : MI} {a : AV}
    (hN : ∀ n b, mT m s = (12, 4) → mR m s 0 = some b → mT m b = (24, n) → mI m s 1 = 0 → n ≤ 100000 → (mI m s 3 = (l.length : Int) ∧ l.length ≤ n ∧ b < mN m ∧ s < mN m) → (l.length + 1 ≤ n ∧ b ≠ s) → Ct μ 5 [vr s, a] m (rq fun y m' => y = some s ∧ (setI (setI m s 3 ((l.length : Int) + 1)) b l.length x = m' ∨ setI (setI m b l.length x) s 3 ((l.length : Int) + 1) = m')))
    (hG : ∀ n b cap, mT m s = (12, 4) → mR m s 0 = some b → mT m b = (24, n) → mI m s 1 = 0 → n ≤ 100000 → (mI m s 3 = (l.length : Int) ∧ l.length ≤ n ∧ b < mN m ∧ s < mN m) → (n < l.length + 1 ∧ mN m + 1 ≤ NN ∧ mZ m + cap ≤ ZZ ∧ l.length + 1 ≤ 20000 ∧ b ≠ s ∧ (cap : Int) = (n : Int) + (if ((l.length : Int) + 1) - (n : Int) < (n : Int) + 2 then (n : Int) + 2 else ((l.length : Int) + 1) - (n : Int))) → Ct μ 5 [vr s, a] m (rq fun y m' => y = some s ∧ (setI (setI (setR (cpyI (newO m 24 cap) b 0 (mN m) 0 n) s 0 (some (mN m))) s 3 ((l.length : Int) + 1)) (mN m) l.length x = m' ∨ setI (setI (setR (cpyI (newO m 24 cap) b 0 (mN m) 0 n) s 0 (some (mN m))) (mN m) l.length x) s 3 ((l.length : Int) + 1) = m'))) :
    Ct μ 5 [vr s, a] m (rq fun y m' => y = some s ∧ SbO m' bs s (l ++ [x]) ∧ Kp bs m m' ∧ mN m ≤ mN m' ∧ mN m' ≤ mN m + 1 ∧ mZ m' ≤ mZ m + 2 * (l.length + 1)) := by
  obtain ⟨h1, h2, h3, h4, h5, b, n, h6, h7, h8, h9, h10, h11, h12, h13⟩ := hS
  have el : (l ++ [x]).length = l.length + 1 := by rw [List.length_append]; rfl
  have gx : ∀ (k : Nat) (y : Int), (l ++ [x])[k]? = some y → (k < l.length ∧ l[k]? = some y) ∨ (k = l.length ∧ y = x) := fun k y hy => by
    rcases get_app hy with h | ⟨a1, a2⟩
    · exact Or.inl h
    · have := get_lt a2
      have this : k - l.length < 1 := this
      rw [show k - l.length = 0 by omega] at a2
      exact Or.inr ⟨by omega, (Option.some.inj a2).symm⟩
  by_cases c : l.length + 1 ≤ n
  · refine Ct_mono (hN n b h3 h9 h10 h4 (by omega) ⟨h5, h11, h7, h2⟩ ⟨c, h8⟩) fun r m' hp => ?_
    obtain ⟨y, hy1, hy2, hm⟩ := hp
    have key : mN m' = mN m ∧ mZ m' = mZ m ∧ (∀ q, mT m' q = mT m q) ∧ (∀ q k, mR m' q k = mR m q k) ∧ mI m' s 1 = 0 ∧ mI m' s 3 = (l.length : Int) + 1 ∧ mI m' b l.length = x ∧ (∀ k, k < l.length → mI m' b k = mI m b k) ∧ Kp bs m m' := by
      rcases hm with rfl | rfl
      · refine ⟨rfl, rfl, fun _ => rfl, fun _ _ => rfl, ?_, ?_, ?_, fun k hk => ?_, (Kp.rf.setI h1 h2 (by omega)).setI h6 h7 (by show mN m ≤ NN; omega)⟩
        · rw [mI_set, if_neg (fun e => h8 e.1.symm), mI_set, if_neg (fun e => by have := e.2; omega)]; exact h4
        · rw [mI_set, if_neg (fun e => h8 e.1.symm), mI_set, if_pos ⟨rfl, rfl⟩]
        · rw [mI_set, if_pos ⟨rfl, rfl⟩]
        · rw [mI_set, if_neg (fun e => by have := e.2; omega), mI_set, if_neg (fun e => h8 e.1)]
      · refine ⟨rfl, rfl, fun _ => rfl, fun _ _ => rfl, ?_, ?_, ?_, fun k hk => ?_, (Kp.rf.setI h6 h7 (by omega)).setI h1 h2 (by show mN m ≤ NN; omega)⟩
        · rw [mI_set, if_neg (fun e => by have := e.2; omega), mI_set, if_neg (fun e => h8 e.1.symm)]; exact h4
        · rw [mI_set, if_pos ⟨rfl, rfl⟩]
        · rw [mI_set, if_neg (fun e => h8 e.1), mI_set, if_pos ⟨rfl, rfl⟩]
        · rw [mI_set, if_neg (fun e => h8 e.1), mI_set, if_neg (fun e => by have := e.2; omega)]
    obtain ⟨k1, k2, k3, k4, k5, k6, k7, k8, k9⟩ := key
    refine ⟨y, hy1, hy2, ⟨h1, by omega, (k3 s).trans h3, k5, by rw [k6, el]; omega, b, n, h6, by omega, h8, (k4 s 0).trans h9, (k3 b).trans h10, by omega, by omega, fun k z hz => ?_⟩, k9, by omega, by omega, by omega⟩
    rcases gx k z hz with ⟨a1, a2⟩ | ⟨rfl, rfl⟩
    · rw [k8 k a1]; exact h13 k z a2
    · exact k7
  · obtain ⟨cap, hcap⟩ : ∃ cap : Nat, (cap : Int) = (n : Int) + (if ((l.length : Int) + 1) - (n : Int) < (n : Int) + 2 then (n : Int) + 2 else ((l.length : Int) + 1) - (n : Int)) := ⟨n + (if l.length + 1 - n < n + 2 then n + 2 else l.length + 1 - n), by
      split <;> split <;> omega⟩
    have hc2 : l.length + 1 ≤ cap ∧ cap ≤ 2 * (l.length + 1) := by split at hcap <;> omega
    refine Ct_mono (hG n b cap h3 h9 h10 h4 (by omega) ⟨h5, h11, h7, h2⟩ ⟨by omega, hr.1, by omega, by omega, h8, hcap⟩) fun r m' hp => ?_
    obtain ⟨y, hy1, hy2, hm⟩ := hp
    have eT : ∀ q, q ≠ mN m → mT (newO m 24 cap) q = mT m q := fun q hq => if_neg hq
    have eI : ∀ q k, q ≠ mN m → mI (setR (cpyI (newO m 24 cap) b 0 (mN m) 0 n) s 0 (some (mN m))) q k = mI m q k := fun q k hq => by
      show mI (cpyI (newO m 24 cap) b 0 (mN m) 0 n) q k = _
      rw [mI_cpy, if_neg (fun e => hq e.1), mI_new, if_neg hq]
    have eB : ∀ k, k < n → mI (setR (cpyI (newO m 24 cap) b 0 (mN m) 0 n) s 0 (some (mN m))) (mN m) k = mI m b k := fun k hk => by
      show mI (cpyI (newO m 24 cap) b 0 (mN m) 0 n) (mN m) k = _
      rw [mI_cpy, if_pos ⟨rfl, by omega, by omega⟩, mI_new, if_neg (by omega), Nat.zero_add, Nat.sub_zero]
    have k1 : Kp bs m (newO m 24 cap) := Kp.rf.new (by omega) (by omega)
    have k2 := k1.cpy (a := b) (sp := 0) (dp := 0) (n := n) (q := mN m) (by omega) (show mN m < mN m + 1 by omega) hr.1
    have k3 := k2.setR (q := s) (k := 0) (v := some (mN m)) h1 (show s < mN m + 1 by omega) hr.1
    have hs : s ≠ mN m := by omega
    have key : mN m' = mN m + 1 ∧ mZ m' = mZ m + cap ∧ mT m' s = (12, 4) ∧ mT m' (mN m) = (24, cap) ∧ mR m' s 0 = some (mN m) ∧ mI m' s 1 = 0 ∧ mI m' s 3 = (l.length : Int) + 1 ∧ mI m' (mN m) l.length = x ∧ (∀ k, k < l.length → mI m' (mN m) k = mI m b k) ∧ Kp bs m m' := by
      rcases hm with rfl | rfl
      · refine ⟨rfl, rfl, (eT s hs).trans h3, if_pos rfl, if_pos ⟨rfl, rfl⟩, ?_, ?_, ?_, fun k hk => ?_, (k3.setI h1 (show s < mN m + 1 by omega) hr.1).setI (by omega) (show mN m < mN m + 1 by omega) hr.1⟩
        · rw [mI_set, if_neg (fun e => hs e.1), mI_set, if_neg (fun e => by have := e.2; omega), eI s 1 hs]; exact h4
        · rw [mI_set, if_neg (fun e => hs e.1), mI_set, if_pos ⟨rfl, rfl⟩]
        · rw [mI_set, if_pos ⟨rfl, rfl⟩]
        · rw [mI_set, if_neg (fun e => by have := e.2; omega), mI_set, if_neg (fun e => hs e.1.symm), eB k (by omega)]
      · refine ⟨rfl, rfl, (eT s hs).trans h3, if_pos rfl, if_pos ⟨rfl, rfl⟩, ?_, ?_, ?_, fun k hk => ?_, (k3.setI (by omega) (show mN m < mN m + 1 by omega) hr.1).setI h1 (show s < mN m + 1 by omega) hr.1⟩
        · rw [mI_set, if_neg (fun e => by have := e.2; omega), mI_set, if_neg (fun e => hs e.1), eI s 1 hs]; exact h4
        · rw [mI_set, if_pos ⟨rfl, rfl⟩]
        · rw [mI_set, if_neg (fun e => hs e.1.symm), mI_set, if_pos ⟨rfl, rfl⟩]
        · rw [mI_set, if_neg (fun e => hs e.1.symm), mI_set, if_neg (fun e => by have := e.2; omega), eB k (by omega)]
    obtain ⟨k1', k2', k3', k4', k5', k6', k7', k8', k9', k10'⟩ := key
    refine ⟨y, hy1, hy2, ⟨h1, by omega, k3', k6', by rw [k7', el]; omega, mN m, cap, by omega, by omega, by omega, k5', k4', by omega, by omega, fun k z hz => ?_⟩, k10', by omega, by omega, by omega⟩
    rcases gx k z hz with ⟨a1, a2⟩ | ⟨rfl, rfl⟩
    · rw [k9' k a1]; exact h13 k z a2
    · exact k8'
theorem k_chr {m : Mem} {bs s : Nat} {l : List Int} {x : Int} (hS : SbO m bs s l) (hx : 0 ≤ x ∧ x < 128) (hl : l.length ≤ 5000) (hr : mN m + 1 ≤ NN ∧ mZ m + 2 * (l.length + 1) ≤ ZZ) :
    Ct μJ4_append_cf468 5 [vr s, vi x] m (rq fun y m' => y = some s ∧ SbO m' bs s (l ++ [x]) ∧ Kp bs m m' ∧ mN m ≤ mN m' ∧ mN m' ≤ mN m + 1 ∧ mZ m' ≤ mZ m + 2 * (l.length + 1)) :=
  k_one hS hl hr (fun n b a1 a2 a3 a4 a5 a6 a7 => Ct_mono (b_chN n l.length m s x b a1 a2 a3 a4 a5 hx a6 a7) fun _ _ ⟨y, e1, e2, e3⟩ => ⟨y, e1, e2, Or.inl e3⟩)
    (fun n b cap a1 a2 a3 a4 a5 a6 a7 => Ct_mono (b_chG n l.length cap m s x b a1 a2 a3 a4 a5 hx a6 a7) fun _ _ ⟨y, e1, e2, e3⟩ => ⟨y, e1, e2, Or.inl e3⟩)
theorem k_fig {m : Mem} {bs s : Nat} {l : List Int} {x : Int} (hS : SbO m bs s l) (hx : 0 ≤ x ∧ x < 10) (hl : l.length ≤ 5000) (hr : mN m + 1 ≤ NN ∧ mZ m + 2 * (l.length + 1) ≤ ZZ) :
    Ct μJ4_append_bf812 5 [vr s, vi x] m (rq fun y m' => y = some s ∧ SbO m' bs s (l ++ [48 + x]) ∧ Kp bs m m' ∧ mN m ≤ mN m' ∧ mN m' ≤ mN m + 1 ∧ mZ m' ≤ mZ m + 2 * (l.length + 1)) :=
  k_one hS hl hr (fun n b a1 a2 a3 a4 a5 a6 a7 => Ct_mono (b_inN n l.length m s x b a1 a2 a3 a4 a5 hx a6 a7) fun _ _ ⟨y, e1, e2, e3⟩ => ⟨y, e1, e2, Or.inr e3⟩)
    (fun n b cap a1 a2 a3 a4 a5 a6 a7 => Ct_mono (b_inG n l.length cap m s x b a1 a2 a3 a4 a5 hx a6 a7) fun _ _ ⟨y, e1, e2, e3⟩ => ⟨y, e1, e2, Or.inr e3⟩)
/-- toString() -/
theorem k_str {m : Mem} {bs s : Nat} {l : List Int} (hS : SbO m bs s l) (hl : l.length ≤ 5000) (hr : mN m + 2 ≤ NN ∧ mZ m + 4 + l.length ≤ ZZ) :
    Ct μJ4_toString_0e30d 6 [vr s] m (rq fun x m' => x = some (mN m) ∧ StrO m' (mN m') (mN m) l ∧ Kp (mN m) m m' ∧ mN m' = mN m + 2 ∧ mZ m' = mZ m + 4 + l.length) := by
  obtain ⟨h1, h2, h3, h4, h5, b, n, h6, h7, h8, h9, h10, h11, h12, h13⟩ := hS
  by_cases c : l.length < n
  · refine Ct_mono (b_toStrS n l.length m s b h3 h9 h10 h4 (by omega) h5 ⟨hr.1, hr.2, h7, h2⟩ c) fun r m' hp => ?_
    obtain ⟨x, hx, hx2, rfl⟩ := hp
    refine ⟨x, hx, hx2, ⟨Or.inl (show mN m < mN m + 2 by omega), ?_, ?_, mN m + 1, Or.inl (show mN m + 1 < mN m + 2 by omega), if_pos ⟨rfl, rfl⟩, ?_, fun k y hy => ?_⟩, ?_, rfl, rfl⟩
    · show mT (newO (newO m 11 4) 24 l.length) (mN m) = _
      rw [mT_newN (m := newO m 11 4) (show mN m ≠ mN m + 1 by omega), mT_newE, if_pos rfl]
    · show mI (cpyI (newO (setI (newO m 11 4) (mN m) 1 0) 24 l.length) b 0 (mN m + 1) 0 l.length) (mN m) 1 = 0
      rw [mI_cpy, if_neg (fun e => by have := e.1; omega), mI_newN (m := setI (newO m 11 4) (mN m) 1 0) (show mN m ≠ mN m + 1 by omega), mI_set, if_pos ⟨rfl, rfl⟩]
    · show mT (newO (newO m 11 4) 24 l.length) (mN m + 1) = _
      exact if_pos rfl
    · have hk := get_lt hy
      show mI (cpyI (newO (setI (newO m 11 4) (mN m) 1 0) 24 l.length) b 0 (mN m + 1) 0 l.length) (mN m + 1) k = y
      rw [mI_cpy, if_pos ⟨rfl, by omega, by omega⟩, mI_newN (m := setI (newO m 11 4) (mN m) 1 0) (show b ≠ mN m + 1 by omega), mI_set, if_neg (fun e => by have := e.1; omega), mI_new, if_neg (show ¬ b = mN m by omega), Nat.zero_add, Nat.sub_zero]
      exact h13 k y hy
    · have k1 : Kp (mN m) m (newO m 11 4) := Kp.rf.new (Nat.le_refl _) (by omega)
      have k2 := k1.setI (q := mN m) (k := 1) (v := 0) (Nat.le_refl _) (show mN m < mN m + 1 by omega) (show mN m + 1 ≤ NN by omega)
      have k3 := k2.new (c := 24) (n := l.length) (show mN m ≤ mN m + 1 by omega) (show mN m + 1 ≤ NN by omega)
      have k4 := k3.cpy (a := b) (sp := 0) (dp := 0) (n := l.length) (q := mN m + 1) (by omega) (show mN m + 1 < mN m + 2 by omega) hr.1
      exact k4.setR (Nat.le_refl _) (show mN m < mN m + 2 by omega) hr.1
  · have hn : l.length = n := by omega
    refine Ct_mono (b_toStrC n l.length m s b h3 h9 h10 h4 (by omega) h5 ⟨hr.1, hr.2, h7, h2⟩ hn) fun r m' hp => ?_
    obtain ⟨x, hx, hx2, rfl⟩ := hp
    refine ⟨x, hx, hx2, ⟨Or.inl (show mN m < mN m + 2 by omega), ?_, ?_, mN m + 1, Or.inl (show mN m + 1 < mN m + 2 by omega), if_pos ⟨rfl, rfl⟩, ?_, fun k y hy => ?_⟩, ?_, rfl, rfl⟩
    · show mT (clnB (setI (newO m 11 4) (mN m) 1 0) b l.length) (mN m) = _
      rw [mT_clnN (m := setI (newO m 11 4) (mN m) 1 0) (show mN m ≠ mN m + 1 by omega)]
      show mT (newO m 11 4) (mN m) = _
      rw [mT_newE, if_pos rfl]
    · show mI (clnB (setI (newO m 11 4) (mN m) 1 0) b l.length) (mN m) 1 = 0
      rw [mI_clnN (m := setI (newO m 11 4) (mN m) 1 0) (show mN m ≠ mN m + 1 by omega), mI_set, if_pos ⟨rfl, rfl⟩]
    · show mT (clnB (setI (newO m 11 4) (mN m) 1 0) b l.length) (mN m + 1) = _
      exact if_pos rfl
    · show mI (clnB (setI (newO m 11 4) (mN m) 1 0) b l.length) (mN m + 1) k = y
      rw [mI_cln, if_pos (show mN m + 1 = mN (setI (newO m 11 4) (mN m) 1 0) from rfl), mI_set, if_neg (fun e => by have := e.1; omega), mI_new, if_neg (show ¬ b = mN m by omega)]
      exact h13 k y hy
    · have k1 : Kp (mN m) m (newO m 11 4) := Kp.rf.new (Nat.le_refl _) (by omega)
      have k2 := k1.setI (q := mN m) (k := 1) (v := 0) (Nat.le_refl _) (show mN m < mN m + 1 by omega) (show mN m + 1 ≤ NN by omega)
      have k3 := k2.cln (a := b) (n := l.length) (show mN m ≤ mN m + 1 by omega) (show mN m + 1 ≤ NN by omega)
      exact k3.setR (Nat.le_refl _) (show mN m < mN m + 2 by omega) hr.1
/-- length(), charAt(i) -/
theorem k_len {m : Mem} {B o : Nat} {l : List Int} (h : StrO m B o l) (hl : l.length ≤ 5000) : Ct μJ0_length_8abf5 1 [vr o] m (ri fun x m' => x = (l.length : Int) ∧ m = m') := by
  obtain ⟨h1, h2, h3, b, h4, h5, h6, h7⟩ := h
  exact s_length l.length m o b h2 h5 h6 h3 (by omega)
theorem k_at {m : Mem} {B o : Nat} {l : List Int} {i : Nat} {y : Int} (h : StrO m B o l) (hl : l.length ≤ 5000) (hi : l[i]? = some y) (hy : 0 ≤ y ∧ y < 128) : Ct μJ0_charAt_5068e 3 [vr o, vi (i : Int)] m (ri fun x m' => x = y ∧ m = m') := by
  obtain ⟨h1, h2, h3, b, h4, h5, h6, h7⟩ := h
  have := get_lt hi
  exact s_charAt l.length y m o (i : Int) b h2 h5 h6 h3 (by omega) ⟨by omega, by omega⟩ ⟨by rw [Int.toNat_natCast]; exact h7 i y hi, hy⟩
