/-! TEXTS: Strings and builders as lists of letters -/
section ROWS11
variable {μ : MI} {F : Nat} {m0 : Mem} {post : Option AV → Mem → Prop} {pc : Nat} {ls : AL} {st : List AV} {m : Mem}
theorem V_newBv {n : Int} {N : Nat} (o : Nat) (ho : mN m = o) (hN : n.toNat = N) (hd : decode (μc μ) pc = .ok (.newarray .byte, 2)) (hn : o + 1 ≤ NN) (hz : mZ m + N ≤ ZZ) (h0 : 0 ≤ n) (h1 : n ≤ 1000000) (next : V μ F m0 post (pc + 2) ls (vr o :: st) (newO m 24 N)) : V μ F m0 post pc ls (vi n :: st) m := by
  subst ho; subst hN
  exact V_newB hd hn hz h0 h1 next
theorem V_newTv {n : Int} {N idx : Nat} (o : Nat) (ho : mN m = o) (hN : n.toNat = N) (hd : decode (μc μ) pc = .ok (.anewarray idx, 3)) (hn : o + 1 ≤ NN) (hz : mZ m + N ≤ ZZ) (h0 : 0 ≤ n) (h1 : n ≤ 1000000) (hl : Cond.classLink (μo μ) idx RJ0 ∈ lwg) (next : V μ F m0 post (pc + 3) ls (vr o :: st) (newO m 26 N)) : V μ F m0 post pc ls (vi n :: st) m := by
  subst ho; subst hN
  exact V_newT hd hn hz h0 h1 hl next
theorem V_newAv {n : Int} {N idx : Nat} (o : Nat) (ho : mN m = o) (hN : n.toNat = N) (hd : decode (μc μ) pc = .ok (.anewarray idx, 3)) (hn : o + 1 ≤ NN) (hz : mZ m + N ≤ ZZ) (h0 : 0 ≤ n) (h1 : n ≤ 1000000) (hl : Cond.classLink (μo μ) idx "[I" ∈ lwg) (next : V μ F m0 post (pc + 3) ls (vr o :: st) (newO m 25 N)) : V μ F m0 post pc ls (vi n :: st) m := by
  subst ho; subst hN
  exact V_newA hd hn hz h0 h1 hl next
theorem V_cloneBv {a n idx : Nat} (o : Nat) (ho : mN m = o) (hd : decode (μc μ) pc = .ok (.invokevirtual idx, 3)) (hl : Cond.methodLink (μo μ) idx ⟨"[B", "clone", "()Ljava/lang/Object;"⟩ ∈ lwg) (ha : mT m a = (24, n)) (hla0 : a < mN m) (hn : o + 1 ≤ NN) (hz : mZ m + n ≤ ZZ) (hF : 0 < F) (hs : (st.map ac).sum ≤ 8) (next : V μ F m0 post (pc + 3) ls (vr o :: st) (clnB m a n)) : V μ F m0 post pc ls (vr a :: st) m := by
  subst ho
  exact V_cloneB hd hl ha hla0 hn hz hF hs next
end ROWS11
/-- below b, and outside, all is as it was -/
def Kp (b : Nat) (m m' : Mem) : Prop := ∀ o, o < b ∨ isOut o → mT m' o = mT m o ∧ (∀ k, mI m' o k = mI m o k) ∧ ∀ k, mR m' o k = mR m o k
theorem Kp.rf {b : Nat} {m : Mem} : Kp b m m := fun _ _ => ⟨rfl, fun _ => rfl, fun _ => rfl⟩
theorem Kp.tr {b : Nat} {m m1 m2 : Mem} (h : Kp b m m1) (h2 : Kp b m1 m2) : Kp b m m2 := fun o ho => ⟨(h2 o ho).1.trans (h o ho).1, fun k => ((h2 o ho).2.1 k).trans ((h o ho).2.1 k), fun k => ((h2 o ho).2.2 k).trans ((h o ho).2.2 k)⟩
theorem Kp.le {b c : Nat} {m m' : Mem} (h : Kp b m m') (hc : c ≤ b) : Kp c m m' := fun o ho => h o (ho.imp (fun h => Nat.lt_of_lt_of_le h hc) id)
theorem Kp.new {b c n : Nat} {m m' : Mem} (h : Kp b m m') (hb : b ≤ mN m') (hn : mN m' ≤ NN) : Kp b m (newO m' c n) := fun o ho => by
  have hne : o ≠ mN m' := by
    rcases ho with ho | ho
    · omega
    · unfold isOut SC at ho; unfold NN at hn; omega
  exact ⟨(if_neg hne).trans (h o ho).1, fun k => (if_neg hne).trans ((h o ho).2.1 k), fun k => (if_neg hne).trans ((h o ho).2.2 k)⟩
theorem Kp.ne {b q o n : Nat} (ho : o < b ∨ isOut o) (hq : b ≤ q) (hn : q < n) (hN : n ≤ NN) : o ≠ q := by
  rcases ho with ho | ho
  · omega
  · unfold isOut SC at ho; unfold NN at hN; omega
theorem Kp.setI {b q k : Nat} {v : Int} {m m' : Mem} (h : Kp b m m') (hq : b ≤ q) (hl : q < mN m') (hN : mN m' ≤ NN) : Kp b m (setI m' q k v) := fun o ho =>
  ⟨(h o ho).1, fun k' => (if_neg (fun e => Kp.ne ho hq hl hN e.1)).trans ((h o ho).2.1 k'), (h o ho).2.2⟩
theorem Kp.setR {b q k : Nat} {v : Option Nat} {m m' : Mem} (h : Kp b m m') (hq : b ≤ q) (hl : q < mN m') (hN : mN m' ≤ NN) : Kp b m (setR m' q k v) := fun o ho =>
  ⟨(h o ho).1, (h o ho).2.1, fun k' => (if_neg (fun e => Kp.ne ho hq hl hN e.1)).trans ((h o ho).2.2 k')⟩
theorem Kp.cpy {b q a sp dp n : Nat} {m m' : Mem} (h : Kp b m m') (hq : b ≤ q) (hl : q < mN m') (hN : mN m' ≤ NN) : Kp b m (cpyI m' a sp q dp n) := fun o ho =>
  ⟨(h o ho).1, fun k' => (if_neg (fun e => Kp.ne ho hq hl hN e.1)).trans ((h o ho).2.1 k'), (h o ho).2.2⟩
theorem Kp.cln {b a n : Nat} {m m' : Mem} (h : Kp b m m') (hb : b ≤ mN m') (hn : mN m' ≤ NN) : Kp b m (clnB m' a n) := fun o ho => by
  have hne : o ≠ mN m' := by
    rcases ho with ho | ho
    · omega
    · unfold isOut SC at ho; unfold NN at hn; omega
  exact ⟨(if_neg hne).trans (h o ho).1, fun k => (if_neg hne).trans ((h o ho).2.1 k), fun k => (if_neg hne).trans ((h o ho).2.2 k)⟩
/-- a String with these letters, below B (or a constant) -/
def StrO (m : Mem) (B o : Nat) (l : List Int) : Prop := (o < B ∨ isOut o) ∧ mT m o = (11, 4) ∧ mI m o 1 = 0 ∧ ∃ b, (b < B ∨ isOut b) ∧ mR m o 0 = some b ∧ mT m b = (24, l.length) ∧ ∀ (k : Nat) (x : Int), l[k]? = some x → mI m b k = x
theorem StrO.kp {m m' : Mem} {B B' o : Nat} {l : List Int} (h : StrO m B o l) (hk : Kp B' m m') (hB : B ≤ B') : StrO m' B o l := by
  obtain ⟨h1, h2, h3, b, h4, h5, h6, h7⟩ := h
  have e1 := hk o (h1.imp (fun h => Nat.lt_of_lt_of_le h hB) id)
  have e2 := hk b (h4.imp (fun h => Nat.lt_of_lt_of_le h hB) id)
  exact ⟨h1, e1.1.trans h2, (e1.2.1 1).trans h3, b, h4, (e1.2.2 0).trans h5, e2.1.trans h6, fun k x hx => (e2.2.1 k).trans (h7 k x hx)⟩
theorem StrO.up {m : Mem} {B B' o : Nat} {l : List Int} (h : StrO m B o l) (hB : B ≤ B') : StrO m B' o l := by
  obtain ⟨h1, h2, h3, b, h4, h5⟩ := h
  exact ⟨h1.imp (fun h => Nat.lt_of_lt_of_le h hB) id, h2, h3, b, h4.imp (fun h => Nat.lt_of_lt_of_le h hB) id, h5⟩
/-- a constant -/
theorem StrO.lit {m : Mem} {B i : Nat} (hM : okM m) (hi : i < 24) : StrO m B (kS i) (litB.getD i []) := by
  have h1 := hM.2.2.2.2.1 _ (isOut_kS hi)
  have h2 := hM.2.2.2.2.1 _ (isOut_kB hi)
  refine ⟨Or.inr (isOut_kS hi), by rw [h1.1, outT_kS _ hi], by rw [h1.2.1, outI_kS hi], kB i, Or.inr (isOut_kB hi), by rw [h1.2.2, outR_kS hi], by rw [h2.1, outT_kB _ hi], fun k x hx => ?_⟩
  rw [h2.2.1, outI_kB hi, List.getD_eq_getElem?_getD, hx]
  rfl
/-- a builder with these letters, made above bs -/
def SbO (m : Mem) (bs s : Nat) (l : List Int) : Prop := bs ≤ s ∧ s < mN m ∧ mT m s = (12, 4) ∧ mI m s 1 = 0 ∧ mI m s 3 = (l.length : Int) ∧ ∃ b n, bs ≤ b ∧ b < mN m ∧ b ≠ s ∧ mR m s 0 = some b ∧ mT m b = (24, n) ∧ l.length ≤ n ∧ n ≤ 16 + 2 * l.length ∧ ∀ (k : Nat) (x : Int), l[k]? = some x → mI m b k = x
theorem SbO.kp {m m' : Mem} {bs s B : Nat} {l : List Int} (h : SbO m bs s l) (hk : Kp B m m') (hB : mN m ≤ B) (hn : mN m ≤ mN m') : SbO m' bs s l := by
  obtain ⟨h1, h2, h3, h4, h5, b, n, h6, h7, h8, h9, h10, h11, h12, h13⟩ := h
  have e1 := hk s (Or.inl (Nat.lt_of_lt_of_le h2 hB))
  have e2 := hk b (Or.inl (Nat.lt_of_lt_of_le h7 hB))
  exact ⟨h1, Nat.lt_of_lt_of_le h2 hn, e1.1.trans h3, (e1.2.1 1).trans h4, (e1.2.1 3).trans h5, b, n, h6, Nat.lt_of_lt_of_le h7 hn, h8, (e1.2.2 0).trans h9, e2.1.trans h10, h11, h12, fun k x hx => (e2.2.1 k).trans (h13 k x hx)⟩
/-- letters of a text: small -/
def Asc (l : List Int) : Prop := ∀ x ∈ l, 0 ≤ x ∧ x < 128
theorem get_app {l w : List Int} {k : Nat} {x : Int} (h : (l ++ w)[k]? = some x) : (k < l.length ∧ l[k]? = some x) ∨ (l.length ≤ k ∧ w[k - l.length]? = some x) := by
  by_cases c : k < l.length
  · rw [List.getElem?_append_left c] at h; exact Or.inl ⟨c, h⟩
  · rw [List.getElem?_append_right (by omega)] at h; exact Or.inr ⟨by omega, h⟩
theorem get_lt {l : List Int} {k : Nat} {x : Int} (h : l[k]? = some x) : k < l.length := by
  rcases Nat.lt_or_ge k l.length with c | c
  · exact c
  · rw [List.getElem?_eq_none c] at h; cases h
