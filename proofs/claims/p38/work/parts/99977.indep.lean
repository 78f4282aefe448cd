/-! WHAT A SEARCH TELLS DOESN'T REST ON WHAT WAS THERE BEFORE; letters of a way hold -/
/-- a condition looks at the letters from the start to the place -/
def HcL (hc : Nat → CEnv → Int) : Prop := ∀ (w : Nat) (a b : Int) (L L' : Nat → Int) (n : Int) (cl : Nat → Int), 0 ≤ a → (∀ k : Nat, a ≤ (k : Int) → (k : Int) ≤ b → L k = L' k) → hc w (a, b, L, n, cl) = hc w (a, b, L', n, cl)
/-- two searches at one place -/
def LE (J J' : SJ) : Prop := J'.1 = J.1 ∧ (∀ i : Nat, (i : Int) < J.1 3 → J'.2.2.1 i = J.2.2.1 i) ∧ (∀ j : Nat, (j : Int) < J.1 5 → J'.2.2.2 j = J.2.2.2 j) ∧ ∀ k : Nat, J.1 6 ≤ (k : Int) → (k : Int) < J.1 9 → J'.2.1 k = J.2.1 k
def LEr (r r' : Int × SJ) : Prop := r'.1 = r.1 ∧ LE r.2 r'.2
section LES
variable {F : Tb} {n may : Int} {hc : Nat → CEnv → Int} {cl : Nat → Int} {J J' : SJ}
theorem LE.num (h : LE J J') (k : Nat) : J'.1 k = J.1 k := by rw [h.1]
theorem LEr.ite {c c' : Prop} [Decidable c] [Decidable c'] {a b a' b' : Int × SJ} (hcc : c ↔ c') (ha : c → LEr a a') (hb : ¬ c → LEr b b') : LEr (if c then a else b) (if c' then a' else b') := by
  by_cases h : c
  · rw [if_pos h, if_pos (hcc.mp h)]; exact ha h
  · rw [if_neg h, if_neg (fun e => h (hcc.mpr e))]; exact hb h
theorem LE.s7 (h : LE J J') (v : Int) : LE (setS J 7 v) (setS J' 7 v) := ⟨by show up1 J'.1 7 v = up1 J.1 7 v; rw [h.1], h.2.1, h.2.2.1, h.2.2.2⟩
theorem LE.s8 (h : LE J J') (v : Int) : LE (setS J 8 v) (setS J' 8 v) := ⟨by show up1 J'.1 8 v = up1 J.1 8 v; rw [h.1], h.2.1, h.2.2.1, h.2.2.2⟩
theorem LE.s10 (h : LE J J') : LE (tryJ J) (tryJ J') := ⟨by show up1 J'.1 10 (J'.1 10 + 1) = up1 J.1 10 (J.1 10 + 1); rw [h.1], h.2.1, h.2.2.1, h.2.2.2⟩
theorem LE.gU (h : LE J J') {u : Int} (hu : -1 ≤ u ∧ u < J.1 3) : gU J' u = gU J u := by
  unfold _root_.Jvm.Pilot.@@N@@.gU
  by_cases c : u < 0
  · rw [if_pos c, if_pos c]
  · rw [if_neg c, if_neg c, h.2.1 u.toNat (by omega)]
theorem LE.pF (h : LE J J') (far : Int) (h3 : 0 ≤ J.1 3) (hu : -1 ≤ J.1 8 ∧ J.1 8 < J.1 3) : LE (pushF F J far) (pushF F J' far) := by
  have hg := h.gU hu
  have e1 := h.1
  refine ⟨?_, fun i hi => ?_, h.2.2.1, h.2.2.2⟩
  · show up1 (up1 J'.1 8 (J'.1 3)) 3 (J'.1 3 + 1) = up1 (up1 J.1 8 (J.1 3)) 3 (J.1 3 + 1)
    rw [e1]
  · have hi : (i : Int) < J.1 3 + 1 := hi
    show (if i = (J'.1 3).toNat then frV F J' far else J'.2.2.1 i) = (if i = (J.1 3).toNat then frV F J far else J.2.2.1 i)
    rw [e1]
    by_cases c : i = (J.1 3).toNat
    · rw [if_pos c, if_pos c]
      funext w
      unfold frV
      rw [e1, hg]
    · rw [if_neg c, if_neg c]; exact h.2.1 i (by omega)
theorem LE.pO (h : LE J J') (far : Int) (h5 : 0 ≤ J.1 5) : LE (pushO J far) (pushO J' far) := by
  have e1 := h.1
  refine ⟨?_, h.2.1, fun j hj => ?_, h.2.2.2⟩
  · show up1 J'.1 5 (J'.1 5 + 1) = up1 J.1 5 (J.1 5 + 1)
    rw [e1]
  · have hj : (j : Int) < J.1 5 + 1 := hj
    show (if j = (J'.1 5).toNat then opV J' far else J'.2.2.2 j) = (if j = (J.1 5).toNat then opV J far else J.2.2.2 j)
    rw [e1]
    by_cases c : j = (J.1 5).toNat
    · rw [if_pos c, if_pos c]
      funext w
      unfold opV
      rw [e1]
    · rw [if_neg c, if_neg c]; exact h.2.2.1 j (by omega)
theorem LE.comeW (h : LE J J') (far : Int) (h3 : 0 ≤ J.1 3) (hu : -1 ≤ J.1 8 ∧ J.1 8 < J.1 3) : LEr (comeW F J far) (comeW F J' far) := by
  have e1 := h.1
  unfold _root_.Jvm.Pilot.@@N@@.comeW
  rw [e1]
  refine ⟨rfl, LE.s7 ?_ _⟩
  by_cases c : far + 1 < F (J.1 7).toNat 2
  · rw [if_pos c, if_pos c]; exact h.pF _ h3 hu
  · rw [if_neg c, if_neg c]; exact h
theorem LE.chooA (h : LE J J') (far : Int) (h5 : 0 ≤ J.1 5) : LEr (chooA F J far) (chooA F J' far) := by
  have e1 := h.1
  unfold _root_.Jvm.Pilot.@@N@@.chooA
  rw [e1]
  refine ⟨rfl, LE.s7 ?_ _⟩
  by_cases c : far + 1 < F (J.1 7).toNat 2
  · rw [if_pos c, if_pos c]; exact h.pO _ h5
  · rw [if_neg c, if_neg c]; exact h
theorem LE.onceA (h : LE J J') (k : Int) (h3 : 0 ≤ J.1 3) (hu : -1 ≤ J.1 8 ∧ J.1 8 < J.1 3) : LEr (onceA F J k) (onceA F J' k) := by
  unfold _root_.Jvm.Pilot.@@N@@.onceA
  rw [h.1]
  exact ⟨rfl, (h.pF _ h3 hu).s7 _⟩
theorem LE.repA (h : LE J J') (k b : Int) (h3 : 0 ≤ J.1 3) (h5 : 0 ≤ J.1 5) (hu : -1 ≤ J.1 8 ∧ J.1 8 < J.1 3) : LEr (repA F J k b) (repA F J' k b) := by
  unfold _root_.Jvm.Pilot.@@N@@.repA
  rw [h.1]
  refine LEr.ite Iff.rfl (fun _ => ⟨rfl, h⟩) fun _ => LEr.ite Iff.rfl (fun _ => h.onceA k h3 hu) fun _ => LEr.ite Iff.rfl (fun _ => ⟨rfl, h⟩) fun _ => LEr.ite Iff.rfl (fun _ => ?_) fun _ => ⟨rfl, h.pO k h5⟩
  exact LE.onceA (h.pO k h5) k h3 hu
theorem LE.ordA (h : LE J J') (d r : Int) (h3 : 0 ≤ J.1 3) (h5 : 0 ≤ J.1 5) (hu : -1 ≤ J.1 8 ∧ J.1 8 < J.1 3) : LEr (ordA F J d r) (ordA F J' d r) := by
  have hp : ∀ x, LE (ordP F J d x) (ordP F J' d x) ∧ (ordP F J d x).1 3 = J.1 3 ∧ (ordP F J d x).1 8 = J.1 8 := fun x => by
    unfold ordP
    rw [h.1]
    by_cases c : ndA d (x + 1) (F (J.1 7).toNat 2) < F (J.1 7).toNat 2
    · rw [if_pos c, if_pos c]; exact ⟨h.pO _ h5, rfl, rfl⟩
    · rw [if_neg c, if_neg c]; exact ⟨h, rfl, rfl⟩
  unfold _root_.Jvm.Pilot.@@N@@.ordA
  rw [h.1]
  refine LEr.ite Iff.rfl (fun _ => ⟨rfl, h⟩) fun _ => ?_
  obtain ⟨p1, p2, p3⟩ := hp (ndA d r (F (J.1 7).toNat 2))
  exact ⟨rfl, (p1.pF _ (by rw [p2]; exact h3) (by rw [p2, p3]; exact hu)).s7 _⟩
theorem LE.takA (hH : HcL hc) (h : LE J J') (w : Int) (h9 : 0 ≤ J.1 9) (h6 : 0 ≤ J.1 6) : LEr (takA n hc cl J w) (takA n hc cl J' w) := by
  have hl : ∀ k : Nat, J.1 6 ≤ (k : Int) → (k : Int) ≤ J.1 9 → up1 J'.2.1 (J.1 9).toNat w k = up1 J.2.1 (J.1 9).toNat w k := fun k a b => by
    unfold up1
    by_cases c : k = (J.1 9).toNat
    · rw [if_pos c, if_pos c]
    · rw [if_neg c, if_neg c]; exact h.2.2.2 k a (by omega)
  unfold _root_.Jvm.Pilot.@@N@@.takA
  rw [h.1]
  have he : hc w.toNat (envJ (setL J' (J.1 9).toNat w) n cl) = hc w.toNat (envJ (setL J (J.1 9).toNat w) n cl) := by
    show hc w.toNat (J'.1 6, J'.1 9, up1 J'.2.1 (J.1 9).toNat w, n, cl) = hc w.toNat (J.1 6, J.1 9, up1 J.2.1 (J.1 9).toNat w, n, cl)
    rw [h.1]
    exact hH _ _ _ _ _ _ _ h6 hl
  rw [he]
  refine LEr.ite Iff.rfl (fun _ => ⟨rfl, h⟩) fun _ => LEr.ite Iff.rfl (fun _ => ⟨rfl, ?_, h.2.1, h.2.2.1, fun k a b => ?_⟩) fun _ => ⟨rfl, h.1, h.2.1, h.2.2.1, fun k a b => ?_⟩
  · show up1 J'.1 9 (J.1 9 + 1) = up1 J.1 9 (J.1 9 + 1)
    rw [h.1]
  · have a : J.1 6 ≤ (k : Int) := a
    have b : (k : Int) < J.1 9 + 1 := b
    exact hl k a (by omega)
  · have a : J.1 6 ≤ (k : Int) := a
    have b : (k : Int) < J.1 9 := b
    exact hl k a (by omega)
theorem LE.comeA (hH : HcL hc) (h : LE J J') (h3 : 0 ≤ J.1 3) (h5 : 0 ≤ J.1 5) (h9 : 0 ≤ J.1 9) (h6 : 0 ≤ J.1 6) (hu : -1 ≤ J.1 8 ∧ J.1 8 < J.1 3) : LEr (comeA F n may hc cl J) (comeA F n may hc cl J') := by
  have ht := h.s10
  unfold _root_.Jvm.Pilot.@@N@@.comeA
  rw [h.1]
  refine LEr.ite Iff.rfl (fun _ => h.comeW 0 h3 hu) fun _ => LEr.ite Iff.rfl (fun _ => ⟨rfl, ht⟩) fun _ => ?_
  unfold cm2
  rw [ht.1]
  refine LEr.ite Iff.rfl (fun _ => ht.takA hH _ h9 h6) fun _ => LEr.ite Iff.rfl (fun _ => ⟨rfl, ht⟩) fun _ => LEr.ite Iff.rfl (fun _ => ⟨rfl, ht⟩) fun _ => LEr.ite Iff.rfl (fun _ => ht.chooA 0 h5) fun _ => LEr.ite Iff.rfl (fun _ => ht.repA 0 (-1) h3 h5 hu) fun _ => ht.ordA 0 0 h3 h5 hu
theorem LE.goOnA (h : LE J J') (h3 : 0 ≤ J.1 3) (h5 : 0 ≤ J.1 5) (hu : 0 ≤ J.1 8 ∧ J.1 8 < J.1 3) (hf : -1 ≤ J.2.2.1 (J.1 8).toNat 1 ∧ J.2.2.1 (J.1 8).toNat 1 < J.1 3) : LEr (goOnA F may J) (goOnA F may J') := by
  have ef := h.2.1 (J.1 8).toNat (by omega)
  have hp : LE (popF J) (popF J') := by
    have e : popF J' = setS (setS J' 7 (J.2.2.1 (J.1 8).toNat 0)) 8 (J.2.2.1 (J.1 8).toNat 1) := by
      unfold popF
      rw [h.1, ef]
    rw [e]
    exact (h.s7 _).s8 _
  have ht := hp.s10
  unfold _root_.Jvm.Pilot.@@N@@.goOnA
  rw [h.1, ef]
  refine LEr.ite Iff.rfl (fun _ => hp.comeW _ h3 hf) fun _ => LEr.ite Iff.rfl (fun _ => ⟨rfl, ht⟩) fun _ => ?_
  unfold go2
  rw [ht.1]
  exact LEr.ite Iff.rfl (fun _ => ht.repA _ _ h3 h5 hf) fun _ => ht.ordA _ 0 h3 h5 hf
theorem LE.ppO (h : LE J J') (h5 : 0 < J.1 5) (h4 : J.2.2.2 (J.1 5 - 1).toNat 4 ≤ J.1 3) (h9 : J.2.2.2 (J.1 5 - 1).toNat 3 ≤ J.1 9) : LE (popO J) (popO J') := by
  have ef := h.2.2.1 (J.1 5 - 1).toNat (by omega)
  refine ⟨?_, fun i hi => ?_, fun j hj => ?_, fun k a b => ?_⟩
  · show up1 (up1 (up1 (up1 (up1 J'.1 5 (J'.1 5 - 1)) 7 (J'.2.2.2 (J'.1 5 - 1).toNat 0)) 8 (J'.2.2.2 (J'.1 5 - 1).toNat 1)) 9 (J'.2.2.2 (J'.1 5 - 1).toNat 3)) 3 (J'.2.2.2 (J'.1 5 - 1).toNat 4) = _
    rw [h.1, ef]
    rfl
  · have hi : (i : Int) < J.2.2.2 (J.1 5 - 1).toNat 4 := hi
    exact h.2.1 i (by omega)
  · have hj : (j : Int) < J.1 5 - 1 := hj
    exact h.2.2.1 j (by omega)
  · have a : J.1 6 ≤ (k : Int) := a
    have b : (k : Int) < J.2.2.2 (J.1 5 - 1).toNat 3 := b
    exact h.2.2.2 k a (by omega)
theorem LE.goBkA (h : LE J J') (h5 : 0 < J.1 5) (h4 : 0 ≤ J.2.2.2 (J.1 5 - 1).toNat 4 ∧ J.2.2.2 (J.1 5 - 1).toNat 4 ≤ J.1 3) (h9 : J.2.2.2 (J.1 5 - 1).toNat 3 ≤ J.1 9) (hf : -1 ≤ J.2.2.2 (J.1 5 - 1).toNat 1 ∧ J.2.2.2 (J.1 5 - 1).toNat 1 < J.2.2.2 (J.1 5 - 1).toNat 4) : LEr (goBkA F J) (goBkA F J') := by
  have hp := h.ppO h5 h4.2 h9
  have ef := h.2.2.1 (J.1 5 - 1).toNat (by omega)
  have z5 : (popO J).1 5 = J.1 5 - 1 := rfl
  have g5 : 0 ≤ (popO J).1 5 := by rw [z5]; omega
  unfold _root_.Jvm.Pilot.@@N@@.goBkA
  rw [h.1, ef]
  unfold gb2
  rw [hp.1]
  refine LEr.ite Iff.rfl (fun _ => hp.chooA _ g5) fun _ => LEr.ite Iff.rfl (fun _ => LEr.ite Iff.rfl (fun _ => ⟨rfl, hp⟩) fun _ => hp.onceA _ h4.1 hf) fun _ => hp.ordA _ _ h4.1 g5 hf
end LES
/-! options' places rise; the letters from the start to the place hold -/
def OpP (J : SJ) : Prop := (∀ j : Nat, (j : Int) < J.1 5 → J.2.2.2 j 3 ≤ J.1 9) ∧ ∀ j : Nat, (j : Int) + 1 < J.1 5 → J.2.2.2 j 3 ≤ J.2.2.2 (j + 1) 3
/-- the letters hold -/
def HoJ (hc : Nat → CEnv → Int) (n : Int) (cl : Nat → Int) (J : SJ) : Prop := ∀ k : Nat, J.1 6 ≤ (k : Int) → (k : Int) < J.1 9 → 0 ≤ J.2.1 k ∧ J.2.1 k ≤ 25 ∧ hc (J.2.1 k).toNat (J.1 6, (k : Int), J.2.1, n, cl) = 1
def GdJ (hc : Nat → CEnv → Int) (n : Int) (cl : Nat → Int) (J : SJ) : Prop := OpP J ∧ HoJ hc n cl J
section GDS
variable {F : Tb} {n may : Int} {hc : Nat → CEnv → Int} {cl : Nat → Int} {J : SJ}
theorem OpP.pO (h : OpP J) (far : Int) (h5 : 0 ≤ J.1 5) : OpP (pushO J far) := by
  refine ⟨fun j hj => ?_, fun j hj => ?_⟩
  · have hj : (j : Int) < J.1 5 + 1 := hj
    show (if j = (J.1 5).toNat then opV J far else J.2.2.2 j) 3 ≤ J.1 9
    by_cases c : j = (J.1 5).toNat
    · rw [if_pos c]; exact Int.le_refl _
    · rw [if_neg c]; exact h.1 j (by omega)
  · have hj : (j : Int) + 1 < J.1 5 + 1 := hj
    show (if j = (J.1 5).toNat then opV J far else J.2.2.2 j) 3 ≤ (if j + 1 = (J.1 5).toNat then opV J far else J.2.2.2 (j + 1)) 3
    rw [if_neg (by omega)]
    by_cases c : j + 1 = (J.1 5).toNat
    · rw [if_pos c]; exact h.1 j (by omega)
    · rw [if_neg c]; exact h.2 j (by omega)
theorem GdJ.pO (h : GdJ hc n cl J) (far : Int) (h5 : 0 ≤ J.1 5) : GdJ hc n cl (pushO J far) := ⟨h.1.pO far h5, h.2⟩
theorem Gd_ite {c : Prop} [Decidable c] {a b : Int × SJ} (ha : c → GdJ hc n cl a.2) (hb : ¬ c → GdJ hc n cl b.2) : GdJ hc n cl (if c then a else b).2 := by
  by_cases h : c
  · rw [if_pos h]; exact ha h
  · rw [if_neg h]; exact hb h
theorem GdJ.comeW (h : GdJ hc n cl J) (far : Int) : GdJ hc n cl (comeW F J far).2 := by
  unfold _root_.Jvm.Pilot.@@N@@.comeW
  split <;> exact h
theorem GdJ.chooA (h : GdJ hc n cl J) (far : Int) (h5 : 0 ≤ J.1 5) : GdJ hc n cl (chooA F J far).2 := by
  unfold _root_.Jvm.Pilot.@@N@@.chooA
  split
  · exact h.pO _ h5
  · exact h
theorem GdJ.repA (h : GdJ hc n cl J) (k b : Int) (h5 : 0 ≤ J.1 5) : GdJ hc n cl (repA F J k b).2 := by
  unfold _root_.Jvm.Pilot.@@N@@.repA
  exact Gd_ite (fun _ => h) fun _ => Gd_ite (fun _ => h) fun _ => Gd_ite (fun _ => h) fun _ => Gd_ite (fun _ => h.pO k h5) fun _ => h.pO k h5
theorem GdJ.ordA (h : GdJ hc n cl J) (d r : Int) (h5 : 0 ≤ J.1 5) : GdJ hc n cl (ordA F J d r).2 := by
  unfold _root_.Jvm.Pilot.@@N@@.ordA
  refine Gd_ite (fun _ => h) fun _ => ?_
  have hp : GdJ hc n cl (ordP F J d (ndA d r (F (J.1 7).toNat 2))) := by
    unfold ordP
    split
    · exact h.pO _ h5
    · exact h
  exact hp
theorem GdJ.takA (hH : HcL hc) (h : GdJ hc n cl J) (w : Int) (h6 : 0 ≤ J.1 6 ∧ J.1 6 ≤ J.1 9) (hw : 0 ≤ w ∧ w ≤ 25) : GdJ hc n cl (takA n hc cl J w).2 := by
  have hl : ∀ k : Nat, (k : Int) < J.1 9 → up1 J.2.1 (J.1 9).toNat w k = J.2.1 k := fun k a => if_neg (by omega)
  have ho : ∀ k : Nat, J.1 6 ≤ (k : Int) → (k : Int) < J.1 9 → 0 ≤ up1 J.2.1 (J.1 9).toNat w k ∧ up1 J.2.1 (J.1 9).toNat w k ≤ 25 ∧ hc (up1 J.2.1 (J.1 9).toNat w k).toNat (J.1 6, (k : Int), up1 J.2.1 (J.1 9).toNat w, n, cl) = 1 := fun k a b => by
    rw [hl k b]
    obtain ⟨h1, h2, h3⟩ := h.2 k a b
    refine ⟨h1, h2, ?_⟩
    rw [← h3]
    exact hH _ _ _ _ _ _ _ h6.1 fun q _ hq => hl q (by omega)
  unfold _root_.Jvm.Pilot.@@N@@.takA
  refine Gd_ite (fun _ => h) fun _ => ?_
  by_cases c : hc w.toNat (envJ (setL J (J.1 9).toNat w) n cl) = 1
  · rw [if_pos c]
    refine ⟨⟨fun j hj => ?_, h.1.2⟩, fun k a b => ?_⟩
    · show J.2.2.2 j 3 ≤ J.1 9 + 1
      have := h.1.1 j hj
      omega
    · have a : J.1 6 ≤ (k : Int) := a
      have b : (k : Int) < J.1 9 + 1 := b
      by_cases q : (k : Int) < J.1 9
      · exact ho k a q
      · have e : (k : Int) = J.1 9 := by omega
        have ek : k = (J.1 9).toNat := by omega
        show 0 ≤ up1 J.2.1 (J.1 9).toNat w k ∧ up1 J.2.1 (J.1 9).toNat w k ≤ 25 ∧ hc (up1 J.2.1 (J.1 9).toNat w k).toNat (J.1 6, (k : Int), up1 J.2.1 (J.1 9).toNat w, n, cl) = 1
        rw [show up1 J.2.1 (J.1 9).toNat w k = w from if_pos ek, e]
        exact ⟨hw.1, hw.2, c⟩
  · rw [if_neg c]
    exact ⟨h.1, ho⟩
theorem GdJ.comeA {c : Nat} (hH : HcL hc) (hW : WfT F 0 c) (h : GdJ hc n cl J) (hp : 0 ≤ J.1 7 ∧ J.1 7 < (c : Int)) (h5 : 0 ≤ J.1 5) (h6 : 0 ≤ J.1 6 ∧ J.1 6 ≤ J.1 9) : GdJ hc n cl (comeA F n may hc cl J).2 := by
  have ht : GdJ hc n cl (tryJ J) := h
  unfold _root_.Jvm.Pilot.@@N@@.comeA
  refine Gd_ite (fun _ => h.comeW 0) fun _ => Gd_ite (fun _ => ht) fun _ => ?_
  unfold cm2
  refine Gd_ite (fun e => ht.takA hH _ h6 ((tab_s hW hp).2.2.2.2.2 e)) fun _ => Gd_ite (fun _ => ht) fun _ => Gd_ite (fun _ => ht) fun _ => Gd_ite (fun _ => ht.chooA 0 h5) fun _ => Gd_ite (fun _ => ht.repA 0 (-1) h5) fun _ => ht.ordA 0 0 h5
theorem GdJ.goOnA (h : GdJ hc n cl J) (h5 : 0 ≤ J.1 5) : GdJ hc n cl (goOnA F may J).2 := by
  have hp : GdJ hc n cl (popF J) := h
  have ht : GdJ hc n cl (tryJ (popF J)) := h
  unfold _root_.Jvm.Pilot.@@N@@.goOnA
  refine Gd_ite (fun _ => hp.comeW _) fun _ => Gd_ite (fun _ => ht) fun _ => ?_
  unfold go2
  exact Gd_ite (fun _ => ht.repA _ _ h5) fun _ => ht.ordA _ 0 h5
theorem GdJ.goBkA (h : GdJ hc n cl J) (h5 : 0 < J.1 5) : GdJ hc n cl (goBkA F J).2 := by
  have h9 := h.1.1 (J.1 5 - 1).toNat (by omega)
  have hmono : ∀ (d j : Nat), (j : Int) + (d : Int) + 1 = J.1 5 → J.2.2.2 j 3 ≤ J.2.2.2 (J.1 5 - 1).toNat 3 := by
    intro d
    induction d with
    | zero => intro j hj; rw [show (J.1 5 - 1).toNat = j from by omega]; exact Int.le_refl _
    | succ d ih =>
      intro j hj
      have i := ih (j + 1) (by omega)
      have a := h.1.2 j (by omega)
      omega
  have z5 : (popO J).1 5 = J.1 5 - 1 := rfl
  have g5 : 0 ≤ (popO J).1 5 := by rw [z5]; omega
  have hp : GdJ hc n cl (popO J) := by
    refine ⟨⟨fun j hj => ?_, fun j hj => ?_⟩, fun k a b => ?_⟩
    · have hj : (j : Int) < J.1 5 - 1 := hj
      exact hmono (J.1 5 - 1 - (j : Int)).toNat j (by omega)
    · have hj : (j : Int) + 1 < J.1 5 - 1 := hj
      exact h.1.2 j (by omega)
    · have a : J.1 6 ≤ (k : Int) := a
      have b : (k : Int) < J.2.2.2 (J.1 5 - 1).toNat 3 := b
      exact h.2 k a (by omega)
  unfold _root_.Jvm.Pilot.@@N@@.goBkA gb2
  refine Gd_ite (fun _ => hp.chooA _ g5) fun _ => Gd_ite (fun _ => Gd_ite (fun _ => hp) fun _ => hp) fun _ => hp.ordA _ _ g5
end GDS
/-! whole runs -/
theorem run_LE {F : Tb} {c : Nat} {n may : Int} {hc : Nat → CEnv → Int} {cl : Nat → Int} {e : Int} (hW : WfT F 0 c) (hH : HcL hc) : ∀ (f : Nat) (ph : Int) (J J' : SJ), RunI F c n may f ph J → GdJ hc n cl J → LE J J' →
    LEr (runA F n may hc cl e f ph J) (runA F n may hc cl e f ph J') ∧ endA F n may hc cl f ph J' = endA F n may hc cl f ph J ∧ GdJ hc n cl (runA F n may hc cl e f ph J).2
  | 0, ph, J, J', h, _, _ => (RunI.fuel (fun p h1 h2 => (tab_s hW ⟨h1, h2⟩).2.1) h).elim
  | f + 1, ph, J, J', h, hG, hE => by
    have h1 := h.1
    by_cases p0 : ph = 0
    · obtain ⟨hs, hco⟩ := h.c0 p0
      have a := hE.comeA (F := F) (n := n) (may := may) (cl := cl) hH hs.1.1 hs.2.1.1 (by have := hs.2.2.1; omega) hs.2.2.1.1 hco.2.1
      have g := hG.comeA (F := F) (may := may) hH hW hco.1 hs.2.1.1 ⟨hs.2.2.1.1, hs.2.2.1.2.1⟩
      rw [runA_0 p0, runA_0 p0, endA_0 p0, endA_0 p0, a.1]
      exact run_LE hW hH f _ _ _ (h.come (hc := hc) (cl := cl) hW p0) g a.2
    · by_cases p1 : ph = 1
      · obtain ⟨hs, hd1, hd2⟩ := h.c1 p1
        by_cases u : 0 ≤ J.1 8
        · have hu3 := hd1.2
          have hf := (hs.2.2.2.2.2.1 (J.1 8).toNat (by omega)).2.1
          have a := hE.goOnA (F := F) (may := may) hs.1.1 hs.2.1.1 ⟨u, hd1.2⟩ ⟨hf.1, by omega⟩
          have g := hG.goOnA (F := F) (may := may) hs.2.1.1
          rw [runA_1 p1 u, runA_1 p1 (by rw [hE.1]; exact u), endA_1 p1 u, endA_1 p1 (by rw [hE.1]; exact u), a.1]
          exact run_LE hW hH f _ _ _ (h.goOn hW p1 u) g a.2
        · have hn : LE (noteA J) (noteA J') := by
            refine ⟨?_, hE.2.1, hE.2.2.1, hE.2.2.2⟩
            show (noteA J').1 = (noteA J).1
            unfold noteA
            show up1 (up1 (up1 J'.1 12 _) 13 _) 11 _ = up1 (up1 (up1 J.1 12 _) 13 _) 11 _
            rw [hE.1]
          have gn : GdJ hc n cl (noteA J) := hG
          have i := run_LE (e := e) hW hH f 2 (noteA J) (noteA J') (h.note p1) gn hn
          have e8 : J'.1 8 = J.1 8 := by rw [hE.1]
          have e9 : J'.1 9 = J.1 9 := by rw [hE.1]
          have w1 := endA_w (F := F) (n := n) (may := may) (hc := hc) (cl := cl) (f := f) (J := J) p1 (by omega)
          have w2 := endA_w (F := F) (n := n) (may := may) (hc := hc) (cl := cl) (f := f) (J := J') p1 (by omega)
          rw [w1, w2, e9, i.2.1]
          by_cases he : e = -1 ∨ e = J.1 9
          · rw [runA_w (J := J) p1 (by omega) he, runA_w (J := J') p1 (by omega) (by rw [e9]; exact he)]
            exact ⟨⟨rfl, hn⟩, rfl, gn⟩
          · rw [runA_v (J := J) p1 (by omega) he, runA_v (J := J') p1 (by omega) (by rw [e9]; exact he)]
            exact ⟨i.1, rfl, i.2.2⟩
      · by_cases p3 : ph = 3
        · rw [runA_3 p3, runA_3 p3, endA_3 p3, endA_3 p3]
          exact ⟨⟨rfl, hE⟩, rfl, hG⟩
        · have p2 : ph = 2 := by omega
          have hs := (h.c2 (by omega)).1
          by_cases q : 0 < J.1 5
          · obtain ⟨o1, o2, o3, o4, o5⟩ := hs.2.2.2.2.2.2 (J.1 5 - 1).toNat (by omega)
            have a := hE.goBkA (F := F) q o4 (hG.1.1 _ (by omega)) o2
            have g := hG.goBkA (F := F) q
            rw [runA_b p2 q, runA_b p2 (by rw [hE.1]; exact q), endA_b p2 q, endA_b p2 (by rw [hE.1]; exact q), a.1]
            exact run_LE hW hH f _ _ _ (h.back hW p2 q) g a.2
          · have e5 : J'.1 5 = J.1 5 := by rw [hE.1]
            have w1 := endA_n (F := F) (n := n) (may := may) (hc := hc) (cl := cl) (f := f) (J := J) p2 (by omega)
            have w2 := endA_n (F := F) (n := n) (may := may) (hc := hc) (cl := cl) (f := f) (J := J') p2 (by omega)
            have w3 := runA_n (F := F) (n := n) (may := may) (hc := hc) (cl := cl) (e := e) (f := f) (J := J) p2 (by omega)
            have w4 := runA_n (F := F) (n := n) (may := may) (hc := hc) (cl := cl) (e := e) (f := f) (J := J') p2 (by omega)
            rw [w1, w2, w3, w4]
            exact ⟨⟨rfl, hE⟩, rfl, hG⟩
