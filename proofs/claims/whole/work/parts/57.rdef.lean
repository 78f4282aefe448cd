/-! define(): the parts; the reference reads them -/
def dS1 (tx : Nat → Int) (n : Nat) (S : CS) : CS := if 65 ≤ ccS tx n S ∧ ccS tx n S ≤ 90 then cAdv S else cBad S
def dS2 (tx : Nat → Int) (n : Nat) (S : CS) : CS := cTake tx n (dS1 tx n S) 61
def dR (tx : Nat → Int) (n : Nat) (S : CS) : CR := if ccS tx n (dS2 tx n S) = -1 then ([], fun _ => true, dS2 tx n S) else eitL tx n 4 (dS2 tx n S)
abbrev dNx (tx : Nat → Int) (n : Nat) (S : CS) : Prop := S.1 = true ∧ S.2 < n ∧ tx S.2 = 59
/-- a part: its letter, where its text begins and ends, its code -/
abbrev DPt : Type := Int × Nat × Nat × Option (List Int)
def dPt (tx : Nat → Int) (n : Nat) (S : CS) : DPt := (ccS tx n S - 65, (dS2 tx n S).2, (dR tx n S).2.2.2, if ccS tx n (dS2 tx n S) = -1 then none else some (dR tx n S).1)
def defL (tx : Nat → Int) (n : Nat) : Nat → CS → List DPt × CS
  | 0, S => ([], cBad S)
  | f + 1, S => if (dR tx n S).2.2.1 = true then (if dNx tx n (dR tx n S).2.2 then (dPt tx n S :: (defL tx n f (cAdv (dR tx n S).2.2)).1, (defL tx n f (cAdv (dR tx n S).2.2)).2) else ([dPt tx n S], (dR tx n S).2.2)) else ([], (dR tx n S).2.2)
theorem dR_ni (tx : Nat → Int) (n : Nat) (S : CS) : CNi n 2 S (dR tx n S).2.2 ∧ ((dR tx n S).2.2.1 = true → (65 ≤ ccS tx n S ∧ ccS tx n S ≤ 90) ∧ (dS2 tx n S).1 = true ∧ (dS2 tx n S).2 = S.2 + 2 ∧ (dS2 tx n S).2 ≤ (dR tx n S).2.2.2) := by
  have h1 : CNi n 1 S (dS1 tx n S) := by
    unfold dS1
    by_cases c : 65 ≤ ccS tx n S ∧ ccS tx n S ≤ 90
    · rw [if_pos c]; exact CNi.adv (tx := tx) (by omega)
    · rw [if_neg c]; exact CNi.bad
  have h2 : CNi n 1 (dS1 tx n S) (dS2 tx n S) := CNi.take (by decide)
  have h3 : CNi n 0 (dS2 tx n S) (dR tx n S).2.2 := by
    unfold dR
    by_cases c : ccS tx n (dS2 tx n S) = -1
    · rw [if_pos c]; exact ⟨fun h => h, fun h => ⟨h, Nat.le_refl _⟩, fun _ => rfl⟩
    · rw [if_neg c]; exact (eitL_ni tx n 4 _).1.le (by omega)
  refine ⟨(h1.tr h2).tr h3, fun hw => ?_⟩
  have w3 := h3.2.1 hw
  have w2 := h2.2.1 w3.1
  have c : 65 ≤ ccS tx n S ∧ ccS tx n S ≤ 90 := by
    by_cases c : 65 ≤ ccS tx n S ∧ ccS tx n S ≤ 90
    · exact c
    · have := w2.1
      unfold dS1 at this
      rw [if_neg c] at this
      cases this
  have e1 : dS1 tx n S = cAdv S := if_pos c
  have c2 : ccS tx n (dS1 tx n S) = 61 := by
    by_cases c2 : ccS tx n (dS1 tx n S) = 61
    · exact c2
    · have := w3.1
      unfold dS2 cTake at this
      rw [if_neg c2] at this
      cases this
  have e2 : dS2 tx n S = cAdv (dS1 tx n S) := if_pos c2
  refine ⟨c, w3.1, ?_, by omega⟩
  rw [e2, e1]; rfl
def lastP : List DPt → Int → Option DPt
  | [], _ => none
  | p :: r, w => match lastP r w with
    | some q => some q
    | none => if p.1 = w then some p else none
theorem lastP_app (L : List DPt) (p : DPt) (w : Int) : lastP (L ++ [p]) w = if p.1 = w then some p else lastP L w := by
  induction L with
  | nil => rfl
  | cons a L ih =>
    show (match lastP (L ++ [p]) w with | some q => some q | none => if a.1 = w then some a else none) = _
    rw [ih]
    by_cases c : p.1 = w
    · rw [if_pos c, if_pos c]
    · rw [if_neg c, if_neg c]; rfl

theorem dNx_iff {I : Nat → Nat → Int} {tx : Nat → Int} {n : Nat} {S : CS} (h : RQ I tx n S) : dNx tx n S ↔ (I 30 8 = 1 ∧ I 30 7 < I 30 6 ∧ I 34 (I 30 7).toNat = 59) := by
  have hw := (RQ.cS h).2.2.2.2.2.2.1
  obtain ⟨h1, h2, h3, h5, h7, h8⟩ := h
  have e : (I 30 7).toNat = S.2 := by omega
  rw [e]
  constructor
  · rintro ⟨a, b, c⟩
    exact ⟨hw.mp a, by omega, by rw [(h8 _ b).1]; exact c⟩
  · rintro ⟨a, b, c⟩
    have b' : S.2 < n := by omega
    exact ⟨hw.mpr a, b', by rw [← (h8 _ b').1]; exact c⟩

set_option maxHeartbeats 4000000 in
theorem q_isAt59 (tx : Nat → Int) (n : Nat) (S : CS) (m : Mem) (c : Int)   (hL : Lay (mT m) (mR m)) (hP : RQ (mI m) tx n S) (hc : c = 59) : Ct μX11_isAt 0 [vr 30, vi c] m (ri fun x_ m' => (x_ = if dNx tx n S then 1 else 0) ∧ m = m') := by
  refine Ct_of_V rfl (by decide) rfl (Nat.le_of_ble_eq_true rfl) ?_
  show V μX11_isAt 0 m _ 0 [(0, vr 30), (1, vi c)] [] m
  refine V_rg (k := 1) (x := c) rfl fun r_c => ?_
  obtain ⟨hs, ha0, ha1, ha2, hw, ht, hb, hi⟩ := RQ.cS hP
  have hdn := dNx_iff hP
  refine V_ld (pc := 0) dX11_isAt_0 (v := vr 30) rfl rfl ?_
  refine V_getIv (pc := 1) dX11_isAt_1 (v := mI m 30 8) fw_RX11_128 rfl hL.t30 rfl (fun g1 => ?_)
  refine V_if_eq (pc := 4) dX11_isAt_4 (tgt := 35) rfl (fun h4 => ?_) (fun h4 => ?_)
  · skip
    refine V_iconst (pc := 35) dX11_isAt_35 (by unfold I32; omega) ?_
    refine V_reti (pc := 36) dX11_isAt_36 (show _ = (0 : Int) ∨ _ = (1 : Int) from by first | exact Or.inl rfl | exact Or.inr rfl | omega) ?_
    first
      | (exfalso; omega)
      | (rw [if_pos (hdn.mpr (by omega))]; exact ⟨rfl, rfl⟩)
      | (rw [if_neg (fun h_ => by have h2_ := hdn.mp h_; omega)]; exact ⟨rfl, rfl⟩)
  · skip
    refine V_ld (pc := 7) dX11_isAt_7 (v := vr 30) rfl rfl ?_
    refine V_getIv (pc := 8) dX11_isAt_8 (v := mI m 30 7) fw_RX11_125 rfl hL.t30 rfl (fun g8 => ?_)
    refine V_ld (pc := 11) dX11_isAt_11 (v := vr 30) rfl rfl ?_
    refine V_getIv (pc := 12) dX11_isAt_12 (v := mI m 30 6) fw_RX11_122 rfl hL.t30 rfl (fun g12 => ?_)
    refine V_icmp_ge (pc := 15) dX11_isAt_15 (tgt := 35) rfl (fun h15 => ?_) (fun h15 => ?_)
    · skip
      refine V_iconst (pc := 35) dX11_isAt_35 (by unfold I32; omega) ?_
      refine V_reti (pc := 36) dX11_isAt_36 (show _ = (0 : Int) ∨ _ = (1 : Int) from by first | exact Or.inl rfl | exact Or.inr rfl | omega) ?_
      first
        | (exfalso; omega)
        | (rw [if_pos (hdn.mpr (by omega))]; exact ⟨rfl, rfl⟩)
        | (rw [if_neg (fun h_ => by have h2_ := hdn.mp h_; omega)]; exact ⟨rfl, rfl⟩)
    · skip
      refine V_ld (pc := 18) dX11_isAt_18 (v := vr 30) rfl rfl ?_
      refine V_getRv (pc := 19) dX11_isAt_19 (o' := 34) fw_RX11_21 rfl hL.t30 hL.r30_5 ?_
      refine V_ld (pc := 22) dX11_isAt_22 (v := vr 30) rfl rfl ?_
      refine V_getIv (pc := 23) dX11_isAt_23 (v := mI m 30 7) fw_RX11_125 rfl hL.t30 rfl (fun g23 => ?_)
      refine V_ialdv (pc := 26) dX11_isAt_26 (v := mI m 34 ((mI m 30 7).toNat)) hL.t34 (by omega) rfl (fun g26 => ?_)
      refine V_ld (pc := 27) dX11_isAt_27 (v := vi c) rfl rfl ?_
      refine V_icmp_ne (pc := 28) dX11_isAt_28 (tgt := 35) rfl (fun h28 => ?_) (fun h28 => ?_)
      · skip
        refine V_iconst (pc := 35) dX11_isAt_35 (by unfold I32; omega) ?_
        refine V_reti (pc := 36) dX11_isAt_36 (show _ = (0 : Int) ∨ _ = (1 : Int) from by first | exact Or.inl rfl | exact Or.inr rfl | omega) ?_
        first
          | (exfalso; omega)
          | (rw [if_pos (hdn.mpr (by omega))]; exact ⟨rfl, rfl⟩)
          | (rw [if_neg (fun h_ => by have h2_ := hdn.mp h_; omega)]; exact ⟨rfl, rfl⟩)
      · skip
        refine V_iconst (pc := 31) dX11_isAt_31 (by unfold I32; omega) ?_
        refine V_goto (pc := 32) dX11_isAt_32 (tgt := 36) rfl ?_
        refine V_reti (pc := 36) dX11_isAt_36 (show _ = (0 : Int) ∨ _ = (1 : Int) from by first | exact Or.inl rfl | exact Or.inr rfl | omega) ?_
        first
          | (exfalso; omega)
          | (rw [if_pos (hdn.mpr (by omega))]; exact ⟨rfl, rfl⟩)
          | (rw [if_neg (fun h_ => by have h2_ := hdn.mp h_; omega)]; exact ⟨rfl, rfl⟩)

/-- the parts' rows of numbers -/
def DArr (I : Nat → Nat → Int) (L : List DPt) : Prop := ∀ k p, L[k]? = some p → I 48 k = p.1 ∧ I 47 k = (p.2.1 : Int) ∧ I 46 k = (p.2.2.1 : Int)
theorem DArr.app {I J : Nat → Nat → Int} {L : List DPt} {p : DPt} (h : DArr I L) (hJ : ∀ o k, 46 ≤ o → o ≤ 48 → k < L.length → J o k = I o k) (h1 : J 48 L.length = p.1) (h2 : J 47 L.length = (p.2.1 : Int)) (h3 : J 46 L.length = (p.2.2.1 : Int)) : DArr J (L ++ [p]) := by
  intro k q hq
  rw [List.getElem?_append] at hq
  by_cases c : k < L.length
  · rw [if_pos c] at hq
    have := h k q hq
    rw [hJ _ _ (by decide) (by decide) c, hJ _ _ (by decide) (by decide) c, hJ _ _ (by decide) (by decide) c]
    exact this
  · rw [if_neg c] at hq
    by_cases d : k = L.length
    · subst d
      rw [Nat.sub_self] at hq
      cases Option.some.inj hq
      exact ⟨h1, h2, h3⟩
    · have e : k - L.length = (k - L.length - 1) + 1 := by omega
      rw [e] at hq
      cases hq
def RFd (I I' : Nat → Nat → Int) : Prop := ∀ o k, ¬ (46 ≤ o ∧ o ≤ 48) → ¬ (o = 30 ∧ (k = 7 ∨ k = 8 ∨ k = 26 ∨ k = 27)) → I' o k = I o k
theorem RFd.rf {I : Nat → Nat → Int} : RFd I I := fun _ _ _ _ => rfl
theorem RFd.tr {I J K : Nat → Nat → Int} (h : RFd I J) (h2 : RFd J K) : RFd I K := fun o k a b => (h2 o k a b).trans (h o k a b)
theorem RFd.set {I J : Nat → Nat → Int} {o k : Nat} {v : Int} (h : RFd I J) (hk : (46 ≤ o ∧ o ≤ 48) ∨ (o = 30 ∧ (k = 7 ∨ k = 8 ∨ k = 26 ∨ k = 27))) : RFd I (up2 J o k v) := fun o' k' a b => by
  rw [up2_nx (fun e => by obtain ⟨rfl, rfl⟩ := e; exact hk.elim a b)]
  exact h o' k' a b
theorem QFr.d {I J : Nat → Nat → Int} (h : QFr I J) : RFd I J := fun o k _ b => h o k b
theorem QFs.d {I J : Nat → Nat → Int} (h : QFs I J) : RFd I J := fun o k _ b => h o k (by omega)
theorem EOK.frd {I J : Nat → Nat → Int} (h : EOK I) (hf : RFd I J) (hl : J 30 27 = 0 ∨ J 30 27 = 1) : EOK J := by
  obtain ⟨h1, h2, h3, h4, h5, h6, h7⟩ := h
  refine ⟨?_, ?_, ?_, hl, ?_, ?_, fun k hk => ?_⟩
  · rw [hf 31 64 (by omega) (by omega)]; exact h1
  · rw [hf 31 64 (by omega) (by omega)]; exact h2
  · rw [hf 30 25 (by omega) (by omega)]; exact h3
  · rw [hf 31 64 (by omega) (by omega), hf 30 25 (by omega) (by omega), hf 30 24 (by omega) (by omega)]; exact h5
  · rw [hf 30 25 (by omega) (by omega)]; exact h6
  · rw [hf 31 k (by omega) (by omega)]; exact h7 k hk

set_option maxHeartbeats 16000000 in
theorem L_rdef {F : Nat} {m0 m : Mem} {post : Option AV → Mem → Prop} {tx : Nat → Int} {n : Nat} {I0 : Nat → Nat → Int} (hL : Lay (mT m) (mR m)) (hE0 : EOK I0) (hFF : 19 < F) : ∀ (f : Nat) (S : CS) (L : List DPt) (I : Nat → Nat → Int), RQ I tx n S → S.1 = true → RFd I0 I → (I 30 27 = 0 ∨ I 30 27 = 1) → DArr I L → 3 * L.length ≤ S.2 → n + 1 ≤ f + S.2 → (∀ (nn nx : Int) (J : Nat → Nat → Int), RQ J tx n (defL tx n f S).2 → RFd I0 J → (J 30 27 = 0 ∨ J 30 27 = 1) → ((defL tx n f S).2.1 = true → nn = ((L ++ (defL tx n f S).1).length : Int) ∧ DArr J (L ++ (defL tx n f S).1) ∧ (L ++ (defL tx n f S).1).length ≤ 120) → V μX11_define F m0 post 170 [(2, vi nx), (1, vi nn), (0, vr 30)] [] (wI m J)) → V μX11_define F m0 post 13 [(2, vi 1), (1, vi (L.length : Int)), (0, vr 30)] [] (wI m I) := by
  intro f
  induction f with
  | zero =>
    intro S L I hP hS hF hl hA hLn hf kx
    have h_ := hP.2.2.2.1
    omega
  | succ f ih =>
    intro S L I hP hS hF hl hA hLn hf kx
    have hB0 := hP.2.2.2.1
    have hn120 := hP.2.2.2.2.1
    have hE : EOK I := EOK.frd hE0 hF hl
    have h8 : I 30 8 = 1 := by have h_ := hP.2.2.1; rw [if_pos hS] at h_; exact h_
    have hni := dR_ni tx n S
    refine V_ld (pc := 13) dX11_define_13 (v := vi 1) rfl rfl ?_
    refine V_if_eq (pc := 14) dX11_define_14 (tgt := 170) rfl (fun h_ => absurd h_ (by decide)) (fun _ => ?_)
    refine V_ld (pc := 17) dX11_define_17 (v := vr 30) rfl rfl ?_
    refine V_getIv (pc := 18) dX11_define_18 (v := 1) fw_RX11_128 rfl hL.t30 h8 (fun g18 => ?_)
    refine V_if_eq (pc := 21) dX11_define_21 (tgt := 170) rfl (fun h_ => absurd h_ (by decide)) (fun _ => ?_)
    refine V_ld (pc := 24) dX11_define_24 (v := vr 30) rfl rfl ?_
    refine V_bipush (pc := 25) dX11_define_25 (by unfold I32; omega) (by decide) ?_
    refine V_bipush (pc := 27) dX11_define_27 (by unfold I32; omega) (by decide) ?_
    refine V_callV (pc := 29) dX11_define_29 (F' := 1) (As := [vi 65, vi 90]) (st := []) cw_RX11_135 rfl rfl hL.t30 (by decide) (Nat.le_of_ble_eq_true rfl) (by omega) (q_isAmong tx n S (wI m I) 65 90   (by first | assumption | omega) hP (by decide)) ?_
    rintro _ _ ⟨x29, rfl, hx29, rfl⟩ ok29 le29
    refine V_if_eq (pc := 32) dX11_define_32 (tgt := 66) rfl (fun h32 => ?_) (fun h32 => ?_)
    · skip
      refine V_ld (pc := 66) dX11_define_66 (v := vr 30) rfl rfl ?_
      refine V_iconst (pc := 67) dX11_define_67 (by unfold I32; omega) ?_
      refine V_putI (pc := 68) dX11_define_68 fw_RX11_128 rfl hL.t30 (Or.inl rfl) (Or.inr ⟨rfl, by first | exact Or.inl rfl | exact Or.inr rfl | omega⟩) ?_
      have hnl : ¬ (65 ≤ ccS tx n S ∧ ccS tx n S ≤ 90) := by omega
      have e63 : dS1 tx n S = cBad S := if_neg hnl
      have hB63 : RQ (mI (setI (wI m I) 30 8 0)) tx n (dS1 tx n S) := by rw [e63]; exact RQ.bad hP
      have hF63 : RFd I0 (mI (setI (wI m I) 30 8 0)) := (RFd.set hF (by omega))
      have hK63 : ∀ o k, 46 ≤ o → o ≤ 48 → k < L.length → mI (setI (wI m I) 30 8 0) o k = I o k := fun o k _ _ h_ => mI_setne (by omega)
      have hl63 : mI (setI (wI m I) 30 8 0) 30 27 = I 30 27 := mI_setne (by omega)
      refine V_ld (pc := 71) dX11_define_71 (v := vr 30) rfl rfl ?_
      refine V_bipush (pc := 72) dX11_define_72 (by unfold I32; omega) (by decide) ?_
      refine V_callV (pc := 74) dX11_define_74 (F' := 1) (As := [vi 61]) (st := []) cw_RX11_146 rfl rfl hL.t30 (by decide) (Nat.le_of_ble_eq_true rfl) (by omega) (q_takes tx n (dS1 tx n S) (setI (wI m I) 30 8 0) 61   (by first | assumption | omega) hB63 (by decide)) ?_
      rintro _ _ ⟨rfl, Ix74, rfl, hP74, hF74⟩ ok74 le74
      have hb74 : (dS2 tx n S).2 ≤ n := hP74.2.2.2.1
      have hP74 : RQ Ix74 tx n (dS2 tx n S) := hP74
      refine V_ld (pc := 77) dX11_define_77 (v := vr 30) rfl rfl ?_
      refine V_getRv (pc := 78) dX11_define_78 (o' := 47) fw_RX11_60 rfl hL.t30 hL.r30_29 ?_
      refine V_ld (pc := 81) dX11_define_81 (v := vi (L.length : Int)) rfl rfl ?_
      refine V_ld (pc := 82) dX11_define_82 (v := vr 30) rfl rfl ?_
      refine V_getIv (pc := 83) dX11_define_83 (v := ((dS2 tx n S).2 : Int)) fw_RX11_125 rfl hL.t30 hP74.2.1 (fun g83 => ?_)
      refine V_iast (pc := 86) dX11_define_86 hL.t47 (by omega) ?_
      refine V_ld (pc := 87) dX11_define_87 (v := vr 30) rfl rfl ?_
      refine V_iconst (pc := 88) dX11_define_88 (by unfold I32; omega) ?_
      refine V_putI (pc := 89) dX11_define_89 fw_RX11_246 rfl hL.t30 (Or.inl rfl) (Or.inl rfl) ?_
      have hP92 : RQ (mI (setI (setI (wI (setI (wI m I) 30 8 0) Ix74) 47 ((L.length : Int).toNat) ((dS2 tx n S).2 : Int)) 30 26 0)) tx n (dS2 tx n S) := RQ.fr hP74 (fun o k h_ => (up2_nx (by omega)).trans (up2_nx (by omega)))
      have hF92 : RFd I0 (mI (setI (setI (wI (setI (wI m I) 30 8 0) Ix74) 47 ((L.length : Int).toNat) ((dS2 tx n S).2 : Int)) 30 26 0)) := (RFd.set (RFd.set (RFd.tr hF63 (QFs.d hF74)) (by omega)) (by omega))
      have h47 : mI (setI (setI (wI (setI (wI m I) 30 8 0) Ix74) 47 ((L.length : Int).toNat) ((dS2 tx n S).2 : Int)) 30 26 0) 47 L.length = ((dS2 tx n S).2 : Int) := (mI_setne (by omega)).trans mI_sets
      have h26 : mI (setI (setI (wI (setI (wI m I) 30 8 0) Ix74) 47 ((L.length : Int).toNat) ((dS2 tx n S).2 : Int)) 30 26 0) 30 26 = 0 := mI_sets
      have hK92 : ∀ o k, 46 ≤ o → o ≤ 48 → (k < L.length ∨ o = 48) → mI (setI (setI (wI (setI (wI m I) 30 8 0) Ix74) 47 ((L.length : Int).toNat) ((dS2 tx n S).2 : Int)) 30 26 0) o k = Ix74 o k := fun o k _ _ h_ => (mI_setne (by omega)).trans (mI_setne (by omega))
      have hl92 : mI (setI (setI (wI (setI (wI m I) 30 8 0) Ix74) 47 ((L.length : Int).toNat) ((dS2 tx n S).2 : Int)) 30 26 0) 30 27 = 0 ∨ mI (setI (setI (wI (setI (wI m I) 30 8 0) Ix74) 47 ((L.length : Int).toNat) ((dS2 tx n S).2 : Int)) 30 26 0) 30 27 = 1 := by
        rw [show mI (setI (setI (wI (setI (wI m I) 30 8 0) Ix74) 47 ((L.length : Int).toNat) ((dS2 tx n S).2 : Int)) 30 26 0) 30 27 = Ix74 30 27 from (mI_setne (by omega)).trans (mI_setne (by omega)), hF74 30 27 (by omega), hl63]; exact hl
      have hE92 : EOK (mI (setI (setI (wI (setI (wI m I) 30 8 0) Ix74) 47 ((L.length : Int).toNat) ((dS2 tx n S).2 : Int)) 30 26 0)) := EOK.frd hE0 hF92 hl92
      have hw92 := (RQ.cS hP92).2.2.2.2.2.2.1
      have hcs92 := (RQ.cS hP92).1
      have hw01 := (RQ.cS hP92).2.2.2.2.1
      have hty92 := (RQ.cS hP92).2.2.2.2.2.1
      rw [hP92.2.1, hP92.1] at hcs92 hty92
      have h34 : mI (setI (setI (wI (setI (wI m I) 30 8 0) Ix74) 47 ((L.length : Int).toNat) ((dS2 tx n S).2 : Int)) 30 26 0) 34 ((dS2 tx n S).2 : Int).toNat = mI (wI (setI (wI m I) 30 8 0) Ix74) 34 ((dS2 tx n S).2 : Int).toNat := (mI_setne (by omega)).trans (mI_setne (by omega))
      refine V_ld (pc := 92) dX11_define_92 (v := vr 30) rfl rfl ?_
      refine V_getIv (pc := 93) dX11_define_93 (v := mI (setI (setI (wI (setI (wI m I) 30 8 0) Ix74) 47 ((L.length : Int).toNat) ((dS2 tx n S).2 : Int)) 30 26 0) 30 8) fw_RX11_128 rfl hL.t30 rfl (fun g93 => ?_)
      refine V_if_eq (pc := 96) dX11_define_96 (tgt := 129) rfl (fun h96 => ?_) (fun h96 => ?_)
      · skip
        have heq : ccS tx n (dS2 tx n S) = -1 := by
          rw [hcs92, if_neg (by omega)]
        have eR : dR tx n S = ([], (fun _ => true), dS2 tx n S) := if_pos heq
        have hPR : RQ (mI (setI (setI (wI (setI (wI m I) 30 8 0) Ix74) 47 ((L.length : Int).toNat) ((dS2 tx n S).2 : Int)) 30 26 0)) tx n (dR tx n S).2.2 := by rw [eR]; exact hP92
        have hFR : RFd I0 (mI (setI (setI (wI (setI (wI m I) 30 8 0) Ix74) 47 ((L.length : Int).toNat) ((dS2 tx n S).2 : Int)) 30 26 0)) := hF92
        have hlR : mI (setI (setI (wI (setI (wI m I) 30 8 0) Ix74) 47 ((L.length : Int).toNat) ((dS2 tx n S).2 : Int)) 30 26 0) 30 27 = 0 ∨ mI (setI (setI (wI (setI (wI m I) 30 8 0) Ix74) 47 ((L.length : Int).toNat) ((dS2 tx n S).2 : Int)) 30 26 0) 30 27 = 1 := hl92
        have hKR : ∀ o k, 46 ≤ o → o ≤ 48 → mI (setI (setI (wI (setI (wI m I) 30 8 0) Ix74) 47 ((L.length : Int).toNat) ((dS2 tx n S).2 : Int)) 30 26 0) o k = mI (setI (setI (wI (setI (wI m I) 30 8 0) Ix74) 47 ((L.length : Int).toNat) ((dS2 tx n S).2 : Int)) 30 26 0) o k := fun o k _ _ => rfl
        have hbR : (dR tx n S).2.2.2 ≤ n := hPR.2.2.2.1
        refine V_ld (pc := 129) dX11_define_129 (v := vr 30) rfl rfl ?_
        refine V_getRv (pc := 130) dX11_define_130 (o' := 46) fw_RX11_57 rfl hL.t30 hL.r30_28 ?_
        refine V_ld (pc := 133) dX11_define_133 (v := vi (L.length : Int)) rfl rfl ?_
        refine V_ld (pc := 134) dX11_define_134 (v := vr 30) rfl rfl ?_
        refine V_getIv (pc := 135) dX11_define_135 (v := ((dR tx n S).2.2.2 : Int)) fw_RX11_125 rfl hL.t30 hPR.2.1 (fun g135 => ?_)
        refine V_iast (pc := 138) dX11_define_138 hL.t46 (by omega) ?_
        refine V_iinc (pc := 139) dX11_define_139 (x := (L.length : Int)) (ls' := [(1, vi ((L.length : Int) + 1)), (2, vi 1), (0, vr 30)]) rfl (by unfold I32 at *; omega) (Nat.le_of_ble_eq_true rfl) rfl ?_
        have hP142 : RQ (mI (setI (setI (setI (wI (setI (wI m I) 30 8 0) Ix74) 47 ((L.length : Int).toNat) ((dS2 tx n S).2 : Int)) 30 26 0) 46 ((L.length : Int).toNat) ((dR tx n S).2.2.2 : Int))) tx n (dR tx n S).2.2 := RQ.fr hPR (fun o k h_ => up2_nx (by omega))
        have hF142 : RFd I0 (mI (setI (setI (setI (wI (setI (wI m I) 30 8 0) Ix74) 47 ((L.length : Int).toNat) ((dS2 tx n S).2 : Int)) 30 26 0) 46 ((L.length : Int).toNat) ((dR tx n S).2.2.2 : Int))) := (RFd.set hFR (by omega))
        have hl142 : mI (setI (setI (setI (wI (setI (wI m I) 30 8 0) Ix74) 47 ((L.length : Int).toNat) ((dS2 tx n S).2 : Int)) 30 26 0) 46 ((L.length : Int).toNat) ((dR tx n S).2.2.2 : Int)) 30 27 = 0 ∨ mI (setI (setI (setI (wI (setI (wI m I) 30 8 0) Ix74) 47 ((L.length : Int).toNat) ((dS2 tx n S).2 : Int)) 30 26 0) 46 ((L.length : Int).toNat) ((dR tx n S).2.2.2 : Int)) 30 27 = 1 := by
          rw [show mI (setI (setI (setI (wI (setI (wI m I) 30 8 0) Ix74) 47 ((L.length : Int).toNat) ((dS2 tx n S).2 : Int)) 30 26 0) 46 ((L.length : Int).toNat) ((dR tx n S).2.2.2 : Int)) 30 27 = mI (setI (setI (wI (setI (wI m I) 30 8 0) Ix74) 47 ((L.length : Int).toNat) ((dS2 tx n S).2 : Int)) 30 26 0) 30 27 from mI_setne (by omega)]; exact hlR
        have hA142 : (dR tx n S).2.2.1 = true → DArr (mI (setI (setI (setI (wI (setI (wI m I) 30 8 0) Ix74) 47 ((L.length : Int).toNat) ((dS2 tx n S).2 : Int)) 30 26 0) 46 ((L.length : Int).toNat) ((dR tx n S).2.2.2 : Int))) (L ++ [dPt tx n S]) := by
          intro hw_
          have hd_ := hni.2 hw_
          refine DArr.app hA (fun o k h1 h2 h3 => ?_) ?_ ?_ mI_sets
          · exact (mI_setne (by omega)).trans ((hKR o k h1 h2).trans ((hK92 o k h1 h2 (Or.inl h3)).trans ((hF74 o k (by omega)).trans (hK63 o k h1 h2 h3))))
          · exact absurd hd_.1 hnl
          · exact (mI_setne (by omega)).trans ((hKR 47 _ (by decide) (by decide)).trans h47)
        have hlen142 : (dR tx n S).2.2.1 = true → 3 * L.length + 2 ≤ (dR tx n S).2.2.2 := by
          intro hw_
          have hd_ := hni.2 hw_
          omega
        refine V_ld (pc := 142) dX11_define_142 (v := vr 30) rfl rfl ?_
        refine V_bipush (pc := 143) dX11_define_143 (by unfold I32; omega) (by decide) ?_
        refine V_callV (pc := 145) dX11_define_145 (F' := 0) (As := [vi 59]) (st := []) cw_RX11_132 rfl rfl hL.t30 (by decide) (Nat.le_of_ble_eq_true rfl) (by omega) (q_isAt59 tx n ((dR tx n S).2.2) (setI (setI (setI (wI (setI (wI m I) 30 8 0) Ix74) 47 ((L.length : Int).toNat) ((dS2 tx n S).2 : Int)) 30 26 0) 46 ((L.length : Int).toNat) ((dR tx n S).2.2.2 : Int)) 59   (by first | assumption | omega) hP142 rfl) ?_
        rintro _ _ ⟨x145, rfl, hx145, rfl⟩ ok145 le145
        refine V_st (pc := 148) dX11_define_148 (ls' := [(2, vi x145), (1, vi ((L.length : Int) + 1)), (0, vr 30)]) rfl (Nat.le_of_ble_eq_true rfl) rfl ?_
        refine V_ld (pc := 149) dX11_define_149 (v := vr 30) rfl rfl ?_
        refine V_dup (pc := 150) dX11_define_150 rfl ?_
        refine V_getIv (pc := 151) dX11_define_151 (v := ((dR tx n S).2.2.2 : Int)) fw_RX11_125 rfl hL.t30 hP142.2.1 (fun g151 => ?_)
        refine V_ld (pc := 154) dX11_define_154 (v := vi x145) rfl rfl ?_
        refine V_if_eq (pc := 155) dX11_define_155 (tgt := 162) rfl (fun h155 => ?_) (fun h155 => ?_)
        · skip
          refine V_iconst (pc := 162) dX11_define_162 (by unfold I32; omega) ?_
          refine V_iadd (pc := 163) dX11_define_163 (by unfold I32 at *; omega) ?_
          refine V_putI (pc := 164) dX11_define_164 fw_RX11_125 rfl hL.t30 (Or.inl rfl) (Or.inl rfl) ?_
          have hnx : ¬ dNx tx n (dR tx n S).2.2 := by
            intro c_
            rw [if_pos c_] at hx145; omega
          obtain rfl : x145 = 0 := by rw [hx145, if_neg hnx]
          refine V_goto (pc := 167) dX11_define_167 (tgt := 13) rfl ?_
          refine V_ls (ls' := [(2, vi 0), (1, vi ((L.length : Int) + 1)), (0, vr 30)]) (by intro q_ h_; simp only [List.mem_cons, List.not_mem_nil, or_false] at h_ ⊢; rcases h_ with rfl | rfl | rfl <;> simp) ?_
          refine V_ld (pc := 13) dX11_define_13 (v := vi 0) rfl rfl ?_
          refine V_if_eq (pc := 14) dX11_define_14 (tgt := 170) rfl (fun _ => ?_) (fun h_ => absurd rfl h_)
          have hP_ : RQ (mI (setI (setI (setI (setI (wI (setI (wI m I) 30 8 0) Ix74) 47 ((L.length : Int).toNat) ((dS2 tx n S).2 : Int)) 30 26 0) 46 ((L.length : Int).toNat) ((dR tx n S).2.2.2 : Int)) 30 7 (((dR tx n S).2.2.2 : Int) + 0))) tx n (dR tx n S).2.2 := RQ.same hP142 (by omega)
          have hl_ : mI (setI (setI (setI (setI (wI (setI (wI m I) 30 8 0) Ix74) 47 ((L.length : Int).toNat) ((dS2 tx n S).2 : Int)) 30 26 0) 46 ((L.length : Int).toNat) ((dR tx n S).2.2.2 : Int)) 30 7 (((dR tx n S).2.2.2 : Int) + 0)) 30 27 = 0 ∨ mI (setI (setI (setI (setI (wI (setI (wI m I) 30 8 0) Ix74) 47 ((L.length : Int).toNat) ((dS2 tx n S).2 : Int)) 30 26 0) 46 ((L.length : Int).toNat) ((dR tx n S).2.2.2 : Int)) 30 7 (((dR tx n S).2.2.2 : Int) + 0)) 30 27 = 1 := by
            rw [show mI (setI (setI (setI (setI (wI (setI (wI m I) 30 8 0) Ix74) 47 ((L.length : Int).toNat) ((dS2 tx n S).2 : Int)) 30 26 0) 46 ((L.length : Int).toNat) ((dR tx n S).2.2.2 : Int)) 30 7 (((dR tx n S).2.2.2 : Int) + 0)) 30 27 = mI (setI (setI (setI (wI (setI (wI m I) 30 8 0) Ix74) 47 ((L.length : Int).toNat) ((dS2 tx n S).2 : Int)) 30 26 0) 46 ((L.length : Int).toNat) ((dR tx n S).2.2.2 : Int)) 30 27 from mI_setne (by omega)]; exact hl142
          refine V_mem (m' := wI m (mI (setI (setI (setI (setI (wI (setI (wI m I) 30 8 0) Ix74) 47 ((L.length : Int).toNat) ((dS2 tx n S).2 : Int)) 30 26 0) 46 ((L.length : Int).toNat) ((dR tx n S).2.2.2 : Int)) 30 7 (((dR tx n S).2.2.2 : Int) + 0)))) rfl ?_
          by_cases hw_ : (dR tx n S).2.2.1 = true
          · have eD : defL tx n (f + 1) S = ([dPt tx n S], (dR tx n S).2.2) := (if_pos hw_).trans (if_neg hnx)
            have hln_ := hlen142 hw_
            have hA_ := hA142 hw_
            refine kx _ _ _ (by rw [eD]; exact hP_) (RFd.set hF142 (by omega)) hl_ (fun _ => ?_)
            rw [eD]
            exact ⟨by rw [List.length_append]; rfl, hA_, by rw [List.length_append]; show L.length + 1 ≤ 120; omega⟩
          · have eD : defL tx n (f + 1) S = ([], (dR tx n S).2.2) := if_neg hw_
            refine kx _ _ _ (by rw [eD]; exact hP_) (RFd.set hF142 (by omega)) hl_ (fun h_ => ?_)
            rw [eD] at h_
            exact absurd h_ hw_
        · skip
          refine V_iconst (pc := 158) dX11_define_158 (by unfold I32; omega) ?_
          refine V_goto (pc := 159) dX11_define_159 (tgt := 163) rfl ?_
          refine V_iadd (pc := 163) dX11_define_163 (by unfold I32 at *; omega) ?_
          refine V_putI (pc := 164) dX11_define_164 fw_RX11_125 rfl hL.t30 (Or.inl rfl) (Or.inl rfl) ?_
          have hnx : dNx tx n (dR tx n S).2.2 := by
            by_cases c_ : dNx tx n (dR tx n S).2.2
            · exact c_
            · rw [if_neg c_] at hx145; omega
          obtain rfl : x145 = 1 := by rw [hx145, if_pos hnx]
          refine V_goto (pc := 167) dX11_define_167 (tgt := 13) rfl ?_
          refine V_ls (ls' := [(2, vi 1), (1, vi ((L.length : Int) + 1)), (0, vr 30)]) (by intro q_ h_; simp only [List.mem_cons, List.not_mem_nil, or_false] at h_ ⊢; rcases h_ with rfl | rfl | rfl <;> simp) ?_
          have eD : defL tx n (f + 1) S = (dPt tx n S :: (defL tx n f (cAdv (dR tx n S).2.2)).1, (defL tx n f (cAdv (dR tx n S).2.2)).2) := (if_pos hnx.1).trans (if_pos hnx)
          have hA_ := hA142 hnx.1
          have hln_ := hlen142 hnx.1
          have hP_ : RQ (mI (setI (setI (setI (setI (wI (setI (wI m I) 30 8 0) Ix74) 47 ((L.length : Int).toNat) ((dS2 tx n S).2 : Int)) 30 26 0) 46 ((L.length : Int).toNat) ((dR tx n S).2.2.2 : Int)) 30 7 (((dR tx n S).2.2.2 : Int) + 1))) tx n (cAdv (dR tx n S).2.2) := RQ.adv hP142 (congrArg (fun z => z + 1) hP142.2.1.symm) (Int.lt_of_le_of_lt (Int.le_of_eq hP142.2.1) (Int.lt_of_lt_of_le (Int.ofNat_lt.mpr hnx.2.1) (Int.le_of_eq hP142.1.symm)))
          have hll_ : ((L.length : Int) + 1) = ((L ++ [dPt tx n S]).length : Int) := by rw [List.length_append]; rfl
          rw [hll_]
          refine ih (cAdv (dR tx n S).2.2) (L ++ [dPt tx n S]) (mI (setI (setI (setI (setI (wI (setI (wI m I) 30 8 0) Ix74) 47 ((L.length : Int).toNat) ((dS2 tx n S).2 : Int)) 30 26 0) 46 ((L.length : Int).toNat) ((dR tx n S).2.2.2 : Int)) 30 7 (((dR tx n S).2.2.2 : Int) + 1))) hP_ hnx.1 (RFd.set hF142 (by omega)) (by rw [show mI (setI (setI (setI (setI (wI (setI (wI m I) 30 8 0) Ix74) 47 ((L.length : Int).toNat) ((dS2 tx n S).2 : Int)) 30 26 0) 46 ((L.length : Int).toNat) ((dR tx n S).2.2.2 : Int)) 30 7 (((dR tx n S).2.2.2 : Int) + 1)) 30 27 = mI (setI (setI (setI (wI (setI (wI m I) 30 8 0) Ix74) 47 ((L.length : Int).toNat) ((dS2 tx n S).2 : Int)) 30 26 0) 46 ((L.length : Int).toNat) ((dR tx n S).2.2.2 : Int)) 30 27 from mI_setne (by omega)]; exact hl142) hA_ ?_ ?_ ?_
          · rw [List.length_append]; show 3 * (L.length + 1) ≤ (dR tx n S).2.2.2 + 1; omega
          · have hgr_ := (hni.1.2.1 hnx.1).2
            show n + 1 ≤ f + ((dR tx n S).2.2.2 + 1); omega
          · intro nn nx J h1 h2 h3 h4
            refine kx nn nx J (by rw [eD]; exact h1) h2 h3 (fun hw_ => ?_)
            rw [eD] at hw_ ⊢
            have h5 := h4 hw_
            rw [List.append_assoc] at h5
            exact h5
      · skip
        refine V_ld (pc := 99) dX11_define_99 (v := vr 30) rfl rfl ?_
        refine V_getIv (pc := 100) dX11_define_100 (v := ((dS2 tx n S).2 : Int)) fw_RX11_125 rfl hL.t30 hP92.2.1 (fun g100 => ?_)
        refine V_ld (pc := 103) dX11_define_103 (v := vr 30) rfl rfl ?_
        refine V_getIv (pc := 104) dX11_define_104 (v := (n : Int)) fw_RX11_122 rfl hL.t30 hP92.1 (fun g104 => ?_)
        refine V_icmp_ge (pc := 107) dX11_define_107 (tgt := 129) rfl (fun h107 => ?_) (fun h107 => ?_)
        · skip
          have heq : ccS tx n (dS2 tx n S) = -1 := by
            rw [hcs92, if_neg (by omega)]
          have eR : dR tx n S = ([], (fun _ => true), dS2 tx n S) := if_pos heq
          have hPR : RQ (mI (setI (setI (wI (setI (wI m I) 30 8 0) Ix74) 47 ((L.length : Int).toNat) ((dS2 tx n S).2 : Int)) 30 26 0)) tx n (dR tx n S).2.2 := by rw [eR]; exact hP92
          have hFR : RFd I0 (mI (setI (setI (wI (setI (wI m I) 30 8 0) Ix74) 47 ((L.length : Int).toNat) ((dS2 tx n S).2 : Int)) 30 26 0)) := hF92
          have hlR : mI (setI (setI (wI (setI (wI m I) 30 8 0) Ix74) 47 ((L.length : Int).toNat) ((dS2 tx n S).2 : Int)) 30 26 0) 30 27 = 0 ∨ mI (setI (setI (wI (setI (wI m I) 30 8 0) Ix74) 47 ((L.length : Int).toNat) ((dS2 tx n S).2 : Int)) 30 26 0) 30 27 = 1 := hl92
          have hKR : ∀ o k, 46 ≤ o → o ≤ 48 → mI (setI (setI (wI (setI (wI m I) 30 8 0) Ix74) 47 ((L.length : Int).toNat) ((dS2 tx n S).2 : Int)) 30 26 0) o k = mI (setI (setI (wI (setI (wI m I) 30 8 0) Ix74) 47 ((L.length : Int).toNat) ((dS2 tx n S).2 : Int)) 30 26 0) o k := fun o k _ _ => rfl
          have hbR : (dR tx n S).2.2.2 ≤ n := hPR.2.2.2.1
          refine V_ld (pc := 129) dX11_define_129 (v := vr 30) rfl rfl ?_
          refine V_getRv (pc := 130) dX11_define_130 (o' := 46) fw_RX11_57 rfl hL.t30 hL.r30_28 ?_
          refine V_ld (pc := 133) dX11_define_133 (v := vi (L.length : Int)) rfl rfl ?_
          refine V_ld (pc := 134) dX11_define_134 (v := vr 30) rfl rfl ?_
          refine V_getIv (pc := 135) dX11_define_135 (v := ((dR tx n S).2.2.2 : Int)) fw_RX11_125 rfl hL.t30 hPR.2.1 (fun g135 => ?_)
          refine V_iast (pc := 138) dX11_define_138 hL.t46 (by omega) ?_
          refine V_iinc (pc := 139) dX11_define_139 (x := (L.length : Int)) (ls' := [(1, vi ((L.length : Int) + 1)), (2, vi 1), (0, vr 30)]) rfl (by unfold I32 at *; omega) (Nat.le_of_ble_eq_true rfl) rfl ?_
          have hP142 : RQ (mI (setI (setI (setI (wI (setI (wI m I) 30 8 0) Ix74) 47 ((L.length : Int).toNat) ((dS2 tx n S).2 : Int)) 30 26 0) 46 ((L.length : Int).toNat) ((dR tx n S).2.2.2 : Int))) tx n (dR tx n S).2.2 := RQ.fr hPR (fun o k h_ => up2_nx (by omega))
          have hF142 : RFd I0 (mI (setI (setI (setI (wI (setI (wI m I) 30 8 0) Ix74) 47 ((L.length : Int).toNat) ((dS2 tx n S).2 : Int)) 30 26 0) 46 ((L.length : Int).toNat) ((dR tx n S).2.2.2 : Int))) := (RFd.set hFR (by omega))
          have hl142 : mI (setI (setI (setI (wI (setI (wI m I) 30 8 0) Ix74) 47 ((L.length : Int).toNat) ((dS2 tx n S).2 : Int)) 30 26 0) 46 ((L.length : Int).toNat) ((dR tx n S).2.2.2 : Int)) 30 27 = 0 ∨ mI (setI (setI (setI (wI (setI (wI m I) 30 8 0) Ix74) 47 ((L.length : Int).toNat) ((dS2 tx n S).2 : Int)) 30 26 0) 46 ((L.length : Int).toNat) ((dR tx n S).2.2.2 : Int)) 30 27 = 1 := by
            rw [show mI (setI (setI (setI (wI (setI (wI m I) 30 8 0) Ix74) 47 ((L.length : Int).toNat) ((dS2 tx n S).2 : Int)) 30 26 0) 46 ((L.length : Int).toNat) ((dR tx n S).2.2.2 : Int)) 30 27 = mI (setI (setI (wI (setI (wI m I) 30 8 0) Ix74) 47 ((L.length : Int).toNat) ((dS2 tx n S).2 : Int)) 30 26 0) 30 27 from mI_setne (by omega)]; exact hlR
          have hA142 : (dR tx n S).2.2.1 = true → DArr (mI (setI (setI (setI (wI (setI (wI m I) 30 8 0) Ix74) 47 ((L.length : Int).toNat) ((dS2 tx n S).2 : Int)) 30 26 0) 46 ((L.length : Int).toNat) ((dR tx n S).2.2.2 : Int))) (L ++ [dPt tx n S]) := by
            intro hw_
            have hd_ := hni.2 hw_
            refine DArr.app hA (fun o k h1 h2 h3 => ?_) ?_ ?_ mI_sets
            · exact (mI_setne (by omega)).trans ((hKR o k h1 h2).trans ((hK92 o k h1 h2 (Or.inl h3)).trans ((hF74 o k (by omega)).trans (hK63 o k h1 h2 h3))))
            · exact absurd hd_.1 hnl
            · exact (mI_setne (by omega)).trans ((hKR 47 _ (by decide) (by decide)).trans h47)
          have hlen142 : (dR tx n S).2.2.1 = true → 3 * L.length + 2 ≤ (dR tx n S).2.2.2 := by
            intro hw_
            have hd_ := hni.2 hw_
            omega
          refine V_ld (pc := 142) dX11_define_142 (v := vr 30) rfl rfl ?_
          refine V_bipush (pc := 143) dX11_define_143 (by unfold I32; omega) (by decide) ?_
          refine V_callV (pc := 145) dX11_define_145 (F' := 0) (As := [vi 59]) (st := []) cw_RX11_132 rfl rfl hL.t30 (by decide) (Nat.le_of_ble_eq_true rfl) (by omega) (q_isAt59 tx n ((dR tx n S).2.2) (setI (setI (setI (wI (setI (wI m I) 30 8 0) Ix74) 47 ((L.length : Int).toNat) ((dS2 tx n S).2 : Int)) 30 26 0) 46 ((L.length : Int).toNat) ((dR tx n S).2.2.2 : Int)) 59   (by first | assumption | omega) hP142 rfl) ?_
          rintro _ _ ⟨x145, rfl, hx145, rfl⟩ ok145 le145
          refine V_st (pc := 148) dX11_define_148 (ls' := [(2, vi x145), (1, vi ((L.length : Int) + 1)), (0, vr 30)]) rfl (Nat.le_of_ble_eq_true rfl) rfl ?_
          refine V_ld (pc := 149) dX11_define_149 (v := vr 30) rfl rfl ?_
          refine V_dup (pc := 150) dX11_define_150 rfl ?_
          refine V_getIv (pc := 151) dX11_define_151 (v := ((dR tx n S).2.2.2 : Int)) fw_RX11_125 rfl hL.t30 hP142.2.1 (fun g151 => ?_)
          refine V_ld (pc := 154) dX11_define_154 (v := vi x145) rfl rfl ?_
          refine V_if_eq (pc := 155) dX11_define_155 (tgt := 162) rfl (fun h155 => ?_) (fun h155 => ?_)
          · skip
            refine V_iconst (pc := 162) dX11_define_162 (by unfold I32; omega) ?_
            refine V_iadd (pc := 163) dX11_define_163 (by unfold I32 at *; omega) ?_
            refine V_putI (pc := 164) dX11_define_164 fw_RX11_125 rfl hL.t30 (Or.inl rfl) (Or.inl rfl) ?_
            have hnx : ¬ dNx tx n (dR tx n S).2.2 := by
              intro c_
              rw [if_pos c_] at hx145; omega
            obtain rfl : x145 = 0 := by rw [hx145, if_neg hnx]
            refine V_goto (pc := 167) dX11_define_167 (tgt := 13) rfl ?_
            refine V_ls (ls' := [(2, vi 0), (1, vi ((L.length : Int) + 1)), (0, vr 30)]) (by intro q_ h_; simp only [List.mem_cons, List.not_mem_nil, or_false] at h_ ⊢; rcases h_ with rfl | rfl | rfl <;> simp) ?_
            refine V_ld (pc := 13) dX11_define_13 (v := vi 0) rfl rfl ?_
            refine V_if_eq (pc := 14) dX11_define_14 (tgt := 170) rfl (fun _ => ?_) (fun h_ => absurd rfl h_)
            have hP_ : RQ (mI (setI (setI (setI (setI (wI (setI (wI m I) 30 8 0) Ix74) 47 ((L.length : Int).toNat) ((dS2 tx n S).2 : Int)) 30 26 0) 46 ((L.length : Int).toNat) ((dR tx n S).2.2.2 : Int)) 30 7 (((dR tx n S).2.2.2 : Int) + 0))) tx n (dR tx n S).2.2 := RQ.same hP142 (by omega)
            have hl_ : mI (setI (setI (setI (setI (wI (setI (wI m I) 30 8 0) Ix74) 47 ((L.length : Int).toNat) ((dS2 tx n S).2 : Int)) 30 26 0) 46 ((L.length : Int).toNat) ((dR tx n S).2.2.2 : Int)) 30 7 (((dR tx n S).2.2.2 : Int) + 0)) 30 27 = 0 ∨ mI (setI (setI (setI (setI (wI (setI (wI m I) 30 8 0) Ix74) 47 ((L.length : Int).toNat) ((dS2 tx n S).2 : Int)) 30 26 0) 46 ((L.length : Int).toNat) ((dR tx n S).2.2.2 : Int)) 30 7 (((dR tx n S).2.2.2 : Int) + 0)) 30 27 = 1 := by
              rw [show mI (setI (setI (setI (setI (wI (setI (wI m I) 30 8 0) Ix74) 47 ((L.length : Int).toNat) ((dS2 tx n S).2 : Int)) 30 26 0) 46 ((L.length : Int).toNat) ((dR tx n S).2.2.2 : Int)) 30 7 (((dR tx n S).2.2.2 : Int) + 0)) 30 27 = mI (setI (setI (setI (wI (setI (wI m I) 30 8 0) Ix74) 47 ((L.length : Int).toNat) ((dS2 tx n S).2 : Int)) 30 26 0) 46 ((L.length : Int).toNat) ((dR tx n S).2.2.2 : Int)) 30 27 from mI_setne (by omega)]; exact hl142
            refine V_mem (m' := wI m (mI (setI (setI (setI (setI (wI (setI (wI m I) 30 8 0) Ix74) 47 ((L.length : Int).toNat) ((dS2 tx n S).2 : Int)) 30 26 0) 46 ((L.length : Int).toNat) ((dR tx n S).2.2.2 : Int)) 30 7 (((dR tx n S).2.2.2 : Int) + 0)))) rfl ?_
            by_cases hw_ : (dR tx n S).2.2.1 = true
            · have eD : defL tx n (f + 1) S = ([dPt tx n S], (dR tx n S).2.2) := (if_pos hw_).trans (if_neg hnx)
              have hln_ := hlen142 hw_
              have hA_ := hA142 hw_
              refine kx _ _ _ (by rw [eD]; exact hP_) (RFd.set hF142 (by omega)) hl_ (fun _ => ?_)
              rw [eD]
              exact ⟨by rw [List.length_append]; rfl, hA_, by rw [List.length_append]; show L.length + 1 ≤ 120; omega⟩
            · have eD : defL tx n (f + 1) S = ([], (dR tx n S).2.2) := if_neg hw_
              refine kx _ _ _ (by rw [eD]; exact hP_) (RFd.set hF142 (by omega)) hl_ (fun h_ => ?_)
              rw [eD] at h_
              exact absurd h_ hw_
          · skip
            refine V_iconst (pc := 158) dX11_define_158 (by unfold I32; omega) ?_
            refine V_goto (pc := 159) dX11_define_159 (tgt := 163) rfl ?_
            refine V_iadd (pc := 163) dX11_define_163 (by unfold I32 at *; omega) ?_
            refine V_putI (pc := 164) dX11_define_164 fw_RX11_125 rfl hL.t30 (Or.inl rfl) (Or.inl rfl) ?_
            have hnx : dNx tx n (dR tx n S).2.2 := by
              by_cases c_ : dNx tx n (dR tx n S).2.2
              · exact c_
              · rw [if_neg c_] at hx145; omega
            obtain rfl : x145 = 1 := by rw [hx145, if_pos hnx]
            refine V_goto (pc := 167) dX11_define_167 (tgt := 13) rfl ?_
            refine V_ls (ls' := [(2, vi 1), (1, vi ((L.length : Int) + 1)), (0, vr 30)]) (by intro q_ h_; simp only [List.mem_cons, List.not_mem_nil, or_false] at h_ ⊢; rcases h_ with rfl | rfl | rfl <;> simp) ?_
            have eD : defL tx n (f + 1) S = (dPt tx n S :: (defL tx n f (cAdv (dR tx n S).2.2)).1, (defL tx n f (cAdv (dR tx n S).2.2)).2) := (if_pos hnx.1).trans (if_pos hnx)
            have hA_ := hA142 hnx.1
            have hln_ := hlen142 hnx.1
            have hP_ : RQ (mI (setI (setI (setI (setI (wI (setI (wI m I) 30 8 0) Ix74) 47 ((L.length : Int).toNat) ((dS2 tx n S).2 : Int)) 30 26 0) 46 ((L.length : Int).toNat) ((dR tx n S).2.2.2 : Int)) 30 7 (((dR tx n S).2.2.2 : Int) + 1))) tx n (cAdv (dR tx n S).2.2) := RQ.adv hP142 (congrArg (fun z => z + 1) hP142.2.1.symm) (Int.lt_of_le_of_lt (Int.le_of_eq hP142.2.1) (Int.lt_of_lt_of_le (Int.ofNat_lt.mpr hnx.2.1) (Int.le_of_eq hP142.1.symm)))
            have hll_ : ((L.length : Int) + 1) = ((L ++ [dPt tx n S]).length : Int) := by rw [List.length_append]; rfl
            rw [hll_]
            refine ih (cAdv (dR tx n S).2.2) (L ++ [dPt tx n S]) (mI (setI (setI (setI (setI (wI (setI (wI m I) 30 8 0) Ix74) 47 ((L.length : Int).toNat) ((dS2 tx n S).2 : Int)) 30 26 0) 46 ((L.length : Int).toNat) ((dR tx n S).2.2.2 : Int)) 30 7 (((dR tx n S).2.2.2 : Int) + 1))) hP_ hnx.1 (RFd.set hF142 (by omega)) (by rw [show mI (setI (setI (setI (setI (wI (setI (wI m I) 30 8 0) Ix74) 47 ((L.length : Int).toNat) ((dS2 tx n S).2 : Int)) 30 26 0) 46 ((L.length : Int).toNat) ((dR tx n S).2.2.2 : Int)) 30 7 (((dR tx n S).2.2.2 : Int) + 1)) 30 27 = mI (setI (setI (setI (wI (setI (wI m I) 30 8 0) Ix74) 47 ((L.length : Int).toNat) ((dS2 tx n S).2 : Int)) 30 26 0) 46 ((L.length : Int).toNat) ((dR tx n S).2.2.2 : Int)) 30 27 from mI_setne (by omega)]; exact hl142) hA_ ?_ ?_ ?_
            · rw [List.length_append]; show 3 * (L.length + 1) ≤ (dR tx n S).2.2.2 + 1; omega
            · have hgr_ := (hni.1.2.1 hnx.1).2
              show n + 1 ≤ f + ((dR tx n S).2.2.2 + 1); omega
            · intro nn nx J h1 h2 h3 h4
              refine kx nn nx J (by rw [eD]; exact h1) h2 h3 (fun hw_ => ?_)
              rw [eD] at hw_ ⊢
              have h5 := h4 hw_
              rw [List.append_assoc] at h5
              exact h5
        · skip
          refine V_ld (pc := 110) dX11_define_110 (v := vr 30) rfl rfl ?_
          refine V_getRv (pc := 111) dX11_define_111 (o' := 34) fw_RX11_21 rfl hL.t30 hL.r30_5 ?_
          refine V_ld (pc := 114) dX11_define_114 (v := vr 30) rfl rfl ?_
          refine V_getIv (pc := 115) dX11_define_115 (v := ((dS2 tx n S).2 : Int)) fw_RX11_125 rfl hL.t30 hP92.2.1 (fun g115 => ?_)
          refine V_ialdv (pc := 118) dX11_define_118 (v := mI (wI (setI (wI m I) 30 8 0) Ix74) 34 (((dS2 tx n S).2 : Int).toNat)) hL.t34 (by omega) rfl (fun g118 => ?_)
          refine V_bipush (pc := 119) dX11_define_119 (by unfold I32; omega) (by decide) ?_
          refine V_icmp_eq (pc := 121) dX11_define_121 (tgt := 129) rfl (fun h121 => ?_) (fun h121 => ?_)
          · skip
            have heq : ccS tx n (dS2 tx n S) = -1 := by
              rw [hcs92, if_neg (by omega)]
            have eR : dR tx n S = ([], (fun _ => true), dS2 tx n S) := if_pos heq
            have hPR : RQ (mI (setI (setI (wI (setI (wI m I) 30 8 0) Ix74) 47 ((L.length : Int).toNat) ((dS2 tx n S).2 : Int)) 30 26 0)) tx n (dR tx n S).2.2 := by rw [eR]; exact hP92
            have hFR : RFd I0 (mI (setI (setI (wI (setI (wI m I) 30 8 0) Ix74) 47 ((L.length : Int).toNat) ((dS2 tx n S).2 : Int)) 30 26 0)) := hF92
            have hlR : mI (setI (setI (wI (setI (wI m I) 30 8 0) Ix74) 47 ((L.length : Int).toNat) ((dS2 tx n S).2 : Int)) 30 26 0) 30 27 = 0 ∨ mI (setI (setI (wI (setI (wI m I) 30 8 0) Ix74) 47 ((L.length : Int).toNat) ((dS2 tx n S).2 : Int)) 30 26 0) 30 27 = 1 := hl92
            have hKR : ∀ o k, 46 ≤ o → o ≤ 48 → mI (setI (setI (wI (setI (wI m I) 30 8 0) Ix74) 47 ((L.length : Int).toNat) ((dS2 tx n S).2 : Int)) 30 26 0) o k = mI (setI (setI (wI (setI (wI m I) 30 8 0) Ix74) 47 ((L.length : Int).toNat) ((dS2 tx n S).2 : Int)) 30 26 0) o k := fun o k _ _ => rfl
            have hbR : (dR tx n S).2.2.2 ≤ n := hPR.2.2.2.1
            refine V_ld (pc := 129) dX11_define_129 (v := vr 30) rfl rfl ?_
            refine V_getRv (pc := 130) dX11_define_130 (o' := 46) fw_RX11_57 rfl hL.t30 hL.r30_28 ?_
            refine V_ld (pc := 133) dX11_define_133 (v := vi (L.length : Int)) rfl rfl ?_
            refine V_ld (pc := 134) dX11_define_134 (v := vr 30) rfl rfl ?_
            refine V_getIv (pc := 135) dX11_define_135 (v := ((dR tx n S).2.2.2 : Int)) fw_RX11_125 rfl hL.t30 hPR.2.1 (fun g135 => ?_)
            refine V_iast (pc := 138) dX11_define_138 hL.t46 (by omega) ?_
            refine V_iinc (pc := 139) dX11_define_139 (x := (L.length : Int)) (ls' := [(1, vi ((L.length : Int) + 1)), (2, vi 1), (0, vr 30)]) rfl (by unfold I32 at *; omega) (Nat.le_of_ble_eq_true rfl) rfl ?_
            have hP142 : RQ (mI (setI (setI (setI (wI (setI (wI m I) 30 8 0) Ix74) 47 ((L.length : Int).toNat) ((dS2 tx n S).2 : Int)) 30 26 0) 46 ((L.length : Int).toNat) ((dR tx n S).2.2.2 : Int))) tx n (dR tx n S).2.2 := RQ.fr hPR (fun o k h_ => up2_nx (by omega))
            have hF142 : RFd I0 (mI (setI (setI (setI (wI (setI (wI m I) 30 8 0) Ix74) 47 ((L.length : Int).toNat) ((dS2 tx n S).2 : Int)) 30 26 0) 46 ((L.length : Int).toNat) ((dR tx n S).2.2.2 : Int))) := (RFd.set hFR (by omega))
            have hl142 : mI (setI (setI (setI (wI (setI (wI m I) 30 8 0) Ix74) 47 ((L.length : Int).toNat) ((dS2 tx n S).2 : Int)) 30 26 0) 46 ((L.length : Int).toNat) ((dR tx n S).2.2.2 : Int)) 30 27 = 0 ∨ mI (setI (setI (setI (wI (setI (wI m I) 30 8 0) Ix74) 47 ((L.length : Int).toNat) ((dS2 tx n S).2 : Int)) 30 26 0) 46 ((L.length : Int).toNat) ((dR tx n S).2.2.2 : Int)) 30 27 = 1 := by
              rw [show mI (setI (setI (setI (wI (setI (wI m I) 30 8 0) Ix74) 47 ((L.length : Int).toNat) ((dS2 tx n S).2 : Int)) 30 26 0) 46 ((L.length : Int).toNat) ((dR tx n S).2.2.2 : Int)) 30 27 = mI (setI (setI (wI (setI (wI m I) 30 8 0) Ix74) 47 ((L.length : Int).toNat) ((dS2 tx n S).2 : Int)) 30 26 0) 30 27 from mI_setne (by omega)]; exact hlR
            have hA142 : (dR tx n S).2.2.1 = true → DArr (mI (setI (setI (setI (wI (setI (wI m I) 30 8 0) Ix74) 47 ((L.length : Int).toNat) ((dS2 tx n S).2 : Int)) 30 26 0) 46 ((L.length : Int).toNat) ((dR tx n S).2.2.2 : Int))) (L ++ [dPt tx n S]) := by
              intro hw_
              have hd_ := hni.2 hw_
              refine DArr.app hA (fun o k h1 h2 h3 => ?_) ?_ ?_ mI_sets
              · exact (mI_setne (by omega)).trans ((hKR o k h1 h2).trans ((hK92 o k h1 h2 (Or.inl h3)).trans ((hF74 o k (by omega)).trans (hK63 o k h1 h2 h3))))
              · exact absurd hd_.1 hnl
              · exact (mI_setne (by omega)).trans ((hKR 47 _ (by decide) (by decide)).trans h47)
            have hlen142 : (dR tx n S).2.2.1 = true → 3 * L.length + 2 ≤ (dR tx n S).2.2.2 := by
              intro hw_
              have hd_ := hni.2 hw_
              omega
            refine V_ld (pc := 142) dX11_define_142 (v := vr 30) rfl rfl ?_
            refine V_bipush (pc := 143) dX11_define_143 (by unfold I32; omega) (by decide) ?_
            refine V_callV (pc := 145) dX11_define_145 (F' := 0) (As := [vi 59]) (st := []) cw_RX11_132 rfl rfl hL.t30 (by decide) (Nat.le_of_ble_eq_true rfl) (by omega) (q_isAt59 tx n ((dR tx n S).2.2) (setI (setI (setI (wI (setI (wI m I) 30 8 0) Ix74) 47 ((L.length : Int).toNat) ((dS2 tx n S).2 : Int)) 30 26 0) 46 ((L.length : Int).toNat) ((dR tx n S).2.2.2 : Int)) 59   (by first | assumption | omega) hP142 rfl) ?_
            rintro _ _ ⟨x145, rfl, hx145, rfl⟩ ok145 le145
            refine V_st (pc := 148) dX11_define_148 (ls' := [(2, vi x145), (1, vi ((L.length : Int) + 1)), (0, vr 30)]) rfl (Nat.le_of_ble_eq_true rfl) rfl ?_
            refine V_ld (pc := 149) dX11_define_149 (v := vr 30) rfl rfl ?_
            refine V_dup (pc := 150) dX11_define_150 rfl ?_
            refine V_getIv (pc := 151) dX11_define_151 (v := ((dR tx n S).2.2.2 : Int)) fw_RX11_125 rfl hL.t30 hP142.2.1 (fun g151 => ?_)
            refine V_ld (pc := 154) dX11_define_154 (v := vi x145) rfl rfl ?_
            refine V_if_eq (pc := 155) dX11_define_155 (tgt := 162) rfl (fun h155 => ?_) (fun h155 => ?_)
            · skip
              refine V_iconst (pc := 162) dX11_define_162 (by unfold I32; omega) ?_
              refine V_iadd (pc := 163) dX11_define_163 (by unfold I32 at *; omega) ?_
              refine V_putI (pc := 164) dX11_define_164 fw_RX11_125 rfl hL.t30 (Or.inl rfl) (Or.inl rfl) ?_
              have hnx : ¬ dNx tx n (dR tx n S).2.2 := by
                intro c_
                rw [if_pos c_] at hx145; omega
              obtain rfl : x145 = 0 := by rw [hx145, if_neg hnx]
              refine V_goto (pc := 167) dX11_define_167 (tgt := 13) rfl ?_
              refine V_ls (ls' := [(2, vi 0), (1, vi ((L.length : Int) + 1)), (0, vr 30)]) (by intro q_ h_; simp only [List.mem_cons, List.not_mem_nil, or_false] at h_ ⊢; rcases h_ with rfl | rfl | rfl <;> simp) ?_
              refine V_ld (pc := 13) dX11_define_13 (v := vi 0) rfl rfl ?_
              refine V_if_eq (pc := 14) dX11_define_14 (tgt := 170) rfl (fun _ => ?_) (fun h_ => absurd rfl h_)
              have hP_ : RQ (mI (setI (setI (setI (setI (wI (setI (wI m I) 30 8 0) Ix74) 47 ((L.length : Int).toNat) ((dS2 tx n S).2 : Int)) 30 26 0) 46 ((L.length : Int).toNat) ((dR tx n S).2.2.2 : Int)) 30 7 (((dR tx n S).2.2.2 : Int) + 0))) tx n (dR tx n S).2.2 := RQ.same hP142 (by omega)
              have hl_ : mI (setI (setI (setI (setI (wI (setI (wI m I) 30 8 0) Ix74) 47 ((L.length : Int).toNat) ((dS2 tx n S).2 : Int)) 30 26 0) 46 ((L.length : Int).toNat) ((dR tx n S).2.2.2 : Int)) 30 7 (((dR tx n S).2.2.2 : Int) + 0)) 30 27 = 0 ∨ mI (setI (setI (setI (setI (wI (setI (wI m I) 30 8 0) Ix74) 47 ((L.length : Int).toNat) ((dS2 tx n S).2 : Int)) 30 26 0) 46 ((L.length : Int).toNat) ((dR tx n S).2.2.2 : Int)) 30 7 (((dR tx n S).2.2.2 : Int) + 0)) 30 27 = 1 := by
                rw [show mI (setI (setI (setI (setI (wI (setI (wI m I) 30 8 0) Ix74) 47 ((L.length : Int).toNat) ((dS2 tx n S).2 : Int)) 30 26 0) 46 ((L.length : Int).toNat) ((dR tx n S).2.2.2 : Int)) 30 7 (((dR tx n S).2.2.2 : Int) + 0)) 30 27 = mI (setI (setI (setI (wI (setI (wI m I) 30 8 0) Ix74) 47 ((L.length : Int).toNat) ((dS2 tx n S).2 : Int)) 30 26 0) 46 ((L.length : Int).toNat) ((dR tx n S).2.2.2 : Int)) 30 27 from mI_setne (by omega)]; exact hl142
              refine V_mem (m' := wI m (mI (setI (setI (setI (setI (wI (setI (wI m I) 30 8 0) Ix74) 47 ((L.length : Int).toNat) ((dS2 tx n S).2 : Int)) 30 26 0) 46 ((L.length : Int).toNat) ((dR tx n S).2.2.2 : Int)) 30 7 (((dR tx n S).2.2.2 : Int) + 0)))) rfl ?_
              by_cases hw_ : (dR tx n S).2.2.1 = true
              · have eD : defL tx n (f + 1) S = ([dPt tx n S], (dR tx n S).2.2) := (if_pos hw_).trans (if_neg hnx)
                have hln_ := hlen142 hw_
                have hA_ := hA142 hw_
                refine kx _ _ _ (by rw [eD]; exact hP_) (RFd.set hF142 (by omega)) hl_ (fun _ => ?_)
                rw [eD]
                exact ⟨by rw [List.length_append]; rfl, hA_, by rw [List.length_append]; show L.length + 1 ≤ 120; omega⟩
              · have eD : defL tx n (f + 1) S = ([], (dR tx n S).2.2) := if_neg hw_
                refine kx _ _ _ (by rw [eD]; exact hP_) (RFd.set hF142 (by omega)) hl_ (fun h_ => ?_)
                rw [eD] at h_
                exact absurd h_ hw_
            · skip
              refine V_iconst (pc := 158) dX11_define_158 (by unfold I32; omega) ?_
              refine V_goto (pc := 159) dX11_define_159 (tgt := 163) rfl ?_
              refine V_iadd (pc := 163) dX11_define_163 (by unfold I32 at *; omega) ?_
              refine V_putI (pc := 164) dX11_define_164 fw_RX11_125 rfl hL.t30 (Or.inl rfl) (Or.inl rfl) ?_
              have hnx : dNx tx n (dR tx n S).2.2 := by
                by_cases c_ : dNx tx n (dR tx n S).2.2
                · exact c_
                · rw [if_neg c_] at hx145; omega
              obtain rfl : x145 = 1 := by rw [hx145, if_pos hnx]
              refine V_goto (pc := 167) dX11_define_167 (tgt := 13) rfl ?_
              refine V_ls (ls' := [(2, vi 1), (1, vi ((L.length : Int) + 1)), (0, vr 30)]) (by intro q_ h_; simp only [List.mem_cons, List.not_mem_nil, or_false] at h_ ⊢; rcases h_ with rfl | rfl | rfl <;> simp) ?_
              have eD : defL tx n (f + 1) S = (dPt tx n S :: (defL tx n f (cAdv (dR tx n S).2.2)).1, (defL tx n f (cAdv (dR tx n S).2.2)).2) := (if_pos hnx.1).trans (if_pos hnx)
              have hA_ := hA142 hnx.1
              have hln_ := hlen142 hnx.1
              have hP_ : RQ (mI (setI (setI (setI (setI (wI (setI (wI m I) 30 8 0) Ix74) 47 ((L.length : Int).toNat) ((dS2 tx n S).2 : Int)) 30 26 0) 46 ((L.length : Int).toNat) ((dR tx n S).2.2.2 : Int)) 30 7 (((dR tx n S).2.2.2 : Int) + 1))) tx n (cAdv (dR tx n S).2.2) := RQ.adv hP142 (congrArg (fun z => z + 1) hP142.2.1.symm) (Int.lt_of_le_of_lt (Int.le_of_eq hP142.2.1) (Int.lt_of_lt_of_le (Int.ofNat_lt.mpr hnx.2.1) (Int.le_of_eq hP142.1.symm)))
              have hll_ : ((L.length : Int) + 1) = ((L ++ [dPt tx n S]).length : Int) := by rw [List.length_append]; rfl
              rw [hll_]
              refine ih (cAdv (dR tx n S).2.2) (L ++ [dPt tx n S]) (mI (setI (setI (setI (setI (wI (setI (wI m I) 30 8 0) Ix74) 47 ((L.length : Int).toNat) ((dS2 tx n S).2 : Int)) 30 26 0) 46 ((L.length : Int).toNat) ((dR tx n S).2.2.2 : Int)) 30 7 (((dR tx n S).2.2.2 : Int) + 1))) hP_ hnx.1 (RFd.set hF142 (by omega)) (by rw [show mI (setI (setI (setI (setI (wI (setI (wI m I) 30 8 0) Ix74) 47 ((L.length : Int).toNat) ((dS2 tx n S).2 : Int)) 30 26 0) 46 ((L.length : Int).toNat) ((dR tx n S).2.2.2 : Int)) 30 7 (((dR tx n S).2.2.2 : Int) + 1)) 30 27 = mI (setI (setI (setI (wI (setI (wI m I) 30 8 0) Ix74) 47 ((L.length : Int).toNat) ((dS2 tx n S).2 : Int)) 30 26 0) 46 ((L.length : Int).toNat) ((dR tx n S).2.2.2 : Int)) 30 27 from mI_setne (by omega)]; exact hl142) hA_ ?_ ?_ ?_
              · rw [List.length_append]; show 3 * (L.length + 1) ≤ (dR tx n S).2.2.2 + 1; omega
              · have hgr_ := (hni.1.2.1 hnx.1).2
                show n + 1 ≤ f + ((dR tx n S).2.2.2 + 1); omega
              · intro nn nx J h1 h2 h3 h4
                refine kx nn nx J (by rw [eD]; exact h1) h2 h3 (fun hw_ => ?_)
                rw [eD] at hw_ ⊢
                have h5 := h4 hw_
                rw [List.append_assoc] at h5
                exact h5
          · skip
            have hne : ccS tx n (dS2 tx n S) ≠ -1 := by
              rw [hcs92, if_pos (by omega)]
              omega
            have eR : dR tx n S = eitL tx n 4 (dS2 tx n S) := if_neg hne
            refine V_ld (pc := 124) dX11_define_124 (v := vr 30) rfl rfl ?_
            refine V_callV (pc := 125) dX11_define_125 (F' := (7 + 3 * 4)) (As := []) (st := []) cw_RX11_252 rfl rfl hL.t30 (by decide) (Nat.le_of_ble_eq_true rfl) (by omega) ((QEit_all tx n 4) (dS2 tx n S) (setI (setI (wI (setI (wI m I) 30 8 0) Ix74) 47 ((L.length : Int).toNat) ((dS2 tx n S).2 : Int)) 30 26 0)    (by first | assumption | omega) hP92 hE92 (by rw [h26]; decide)) ?_
            rintro _ _ ⟨x125, rfl, Ix125, rfl, hx125, ⟨hP125, hF125, hl125, hi125, hb125, hv125⟩⟩ ok125 le125
            have hB125 := hP125.2.2.2.1
            refine V_pop (pc := 128) dX11_define_128 rfl ?_
            have hPR : RQ (mI (wI (setI (setI (wI (setI (wI m I) 30 8 0) Ix74) 47 ((L.length : Int).toNat) ((dS2 tx n S).2 : Int)) 30 26 0) Ix125)) tx n (dR tx n S).2.2 := by rw [eR]; exact hP125
            have hFR : RFd I0 (mI (wI (setI (setI (wI (setI (wI m I) 30 8 0) Ix74) 47 ((L.length : Int).toNat) ((dS2 tx n S).2 : Int)) 30 26 0) Ix125)) := (RFd.tr hF92 (QFr.d hF125))
            have hlR : mI (wI (setI (setI (wI (setI (wI m I) 30 8 0) Ix74) 47 ((L.length : Int).toNat) ((dS2 tx n S).2 : Int)) 30 26 0) Ix125) 30 27 = 0 ∨ mI (wI (setI (setI (wI (setI (wI m I) 30 8 0) Ix74) 47 ((L.length : Int).toNat) ((dS2 tx n S).2 : Int)) 30 26 0) Ix125) 30 27 = 1 := hl125
            have hKR : ∀ o k, 46 ≤ o → o ≤ 48 → mI (wI (setI (setI (wI (setI (wI m I) 30 8 0) Ix74) 47 ((L.length : Int).toNat) ((dS2 tx n S).2 : Int)) 30 26 0) Ix125) o k = mI (setI (setI (wI (setI (wI m I) 30 8 0) Ix74) 47 ((L.length : Int).toNat) ((dS2 tx n S).2 : Int)) 30 26 0) o k := fun o k _ _ => hF125 o k (by omega)
            have hbR : (dR tx n S).2.2.2 ≤ n := hPR.2.2.2.1
            refine V_ld (pc := 129) dX11_define_129 (v := vr 30) rfl rfl ?_
            refine V_getRv (pc := 130) dX11_define_130 (o' := 46) fw_RX11_57 rfl hL.t30 hL.r30_28 ?_
            refine V_ld (pc := 133) dX11_define_133 (v := vi (L.length : Int)) rfl rfl ?_
            refine V_ld (pc := 134) dX11_define_134 (v := vr 30) rfl rfl ?_
            refine V_getIv (pc := 135) dX11_define_135 (v := ((dR tx n S).2.2.2 : Int)) fw_RX11_125 rfl hL.t30 hPR.2.1 (fun g135 => ?_)
            refine V_iast (pc := 138) dX11_define_138 hL.t46 (by omega) ?_
            refine V_iinc (pc := 139) dX11_define_139 (x := (L.length : Int)) (ls' := [(1, vi ((L.length : Int) + 1)), (2, vi 1), (0, vr 30)]) rfl (by unfold I32 at *; omega) (Nat.le_of_ble_eq_true rfl) rfl ?_
            have hP142 : RQ (mI (setI (wI (setI (setI (wI (setI (wI m I) 30 8 0) Ix74) 47 ((L.length : Int).toNat) ((dS2 tx n S).2 : Int)) 30 26 0) Ix125) 46 ((L.length : Int).toNat) ((dR tx n S).2.2.2 : Int))) tx n (dR tx n S).2.2 := RQ.fr hPR (fun o k h_ => up2_nx (by omega))
            have hF142 : RFd I0 (mI (setI (wI (setI (setI (wI (setI (wI m I) 30 8 0) Ix74) 47 ((L.length : Int).toNat) ((dS2 tx n S).2 : Int)) 30 26 0) Ix125) 46 ((L.length : Int).toNat) ((dR tx n S).2.2.2 : Int))) := (RFd.set hFR (by omega))
            have hl142 : mI (setI (wI (setI (setI (wI (setI (wI m I) 30 8 0) Ix74) 47 ((L.length : Int).toNat) ((dS2 tx n S).2 : Int)) 30 26 0) Ix125) 46 ((L.length : Int).toNat) ((dR tx n S).2.2.2 : Int)) 30 27 = 0 ∨ mI (setI (wI (setI (setI (wI (setI (wI m I) 30 8 0) Ix74) 47 ((L.length : Int).toNat) ((dS2 tx n S).2 : Int)) 30 26 0) Ix125) 46 ((L.length : Int).toNat) ((dR tx n S).2.2.2 : Int)) 30 27 = 1 := by
              rw [show mI (setI (wI (setI (setI (wI (setI (wI m I) 30 8 0) Ix74) 47 ((L.length : Int).toNat) ((dS2 tx n S).2 : Int)) 30 26 0) Ix125) 46 ((L.length : Int).toNat) ((dR tx n S).2.2.2 : Int)) 30 27 = mI (wI (setI (setI (wI (setI (wI m I) 30 8 0) Ix74) 47 ((L.length : Int).toNat) ((dS2 tx n S).2 : Int)) 30 26 0) Ix125) 30 27 from mI_setne (by omega)]; exact hlR
            have hA142 : (dR tx n S).2.2.1 = true → DArr (mI (setI (wI (setI (setI (wI (setI (wI m I) 30 8 0) Ix74) 47 ((L.length : Int).toNat) ((dS2 tx n S).2 : Int)) 30 26 0) Ix125) 46 ((L.length : Int).toNat) ((dR tx n S).2.2.2 : Int))) (L ++ [dPt tx n S]) := by
              intro hw_
              have hd_ := hni.2 hw_
              refine DArr.app hA (fun o k h1 h2 h3 => ?_) ?_ ?_ mI_sets
              · exact (mI_setne (by omega)).trans ((hKR o k h1 h2).trans ((hK92 o k h1 h2 (Or.inl h3)).trans ((hF74 o k (by omega)).trans (hK63 o k h1 h2 h3))))
              · exact absurd hd_.1 hnl
              · exact (mI_setne (by omega)).trans ((hKR 47 _ (by decide) (by decide)).trans h47)
            have hlen142 : (dR tx n S).2.2.1 = true → 3 * L.length + 2 ≤ (dR tx n S).2.2.2 := by
              intro hw_
              have hd_ := hni.2 hw_
              omega
            refine V_ld (pc := 142) dX11_define_142 (v := vr 30) rfl rfl ?_
            refine V_bipush (pc := 143) dX11_define_143 (by unfold I32; omega) (by decide) ?_
            refine V_callV (pc := 145) dX11_define_145 (F' := 0) (As := [vi 59]) (st := []) cw_RX11_132 rfl rfl hL.t30 (by decide) (Nat.le_of_ble_eq_true rfl) (by omega) (q_isAt59 tx n ((dR tx n S).2.2) (setI (wI (setI (setI (wI (setI (wI m I) 30 8 0) Ix74) 47 ((L.length : Int).toNat) ((dS2 tx n S).2 : Int)) 30 26 0) Ix125) 46 ((L.length : Int).toNat) ((dR tx n S).2.2.2 : Int)) 59   (by first | assumption | omega) hP142 rfl) ?_
            rintro _ _ ⟨x145, rfl, hx145, rfl⟩ ok145 le145
            refine V_st (pc := 148) dX11_define_148 (ls' := [(2, vi x145), (1, vi ((L.length : Int) + 1)), (0, vr 30)]) rfl (Nat.le_of_ble_eq_true rfl) rfl ?_
            refine V_ld (pc := 149) dX11_define_149 (v := vr 30) rfl rfl ?_
            refine V_dup (pc := 150) dX11_define_150 rfl ?_
            refine V_getIv (pc := 151) dX11_define_151 (v := ((dR tx n S).2.2.2 : Int)) fw_RX11_125 rfl hL.t30 hP142.2.1 (fun g151 => ?_)
            refine V_ld (pc := 154) dX11_define_154 (v := vi x145) rfl rfl ?_
            refine V_if_eq (pc := 155) dX11_define_155 (tgt := 162) rfl (fun h155 => ?_) (fun h155 => ?_)
            · skip
              refine V_iconst (pc := 162) dX11_define_162 (by unfold I32; omega) ?_
              refine V_iadd (pc := 163) dX11_define_163 (by unfold I32 at *; omega) ?_
              refine V_putI (pc := 164) dX11_define_164 fw_RX11_125 rfl hL.t30 (Or.inl rfl) (Or.inl rfl) ?_
              have hnx : ¬ dNx tx n (dR tx n S).2.2 := by
                intro c_
                rw [if_pos c_] at hx145; omega
              obtain rfl : x145 = 0 := by rw [hx145, if_neg hnx]
              refine V_goto (pc := 167) dX11_define_167 (tgt := 13) rfl ?_
              refine V_ls (ls' := [(2, vi 0), (1, vi ((L.length : Int) + 1)), (0, vr 30)]) (by intro q_ h_; simp only [List.mem_cons, List.not_mem_nil, or_false] at h_ ⊢; rcases h_ with rfl | rfl | rfl <;> simp) ?_
              refine V_ld (pc := 13) dX11_define_13 (v := vi 0) rfl rfl ?_
              refine V_if_eq (pc := 14) dX11_define_14 (tgt := 170) rfl (fun _ => ?_) (fun h_ => absurd rfl h_)
              have hP_ : RQ (mI (setI (setI (wI (setI (setI (wI (setI (wI m I) 30 8 0) Ix74) 47 ((L.length : Int).toNat) ((dS2 tx n S).2 : Int)) 30 26 0) Ix125) 46 ((L.length : Int).toNat) ((dR tx n S).2.2.2 : Int)) 30 7 (((dR tx n S).2.2.2 : Int) + 0))) tx n (dR tx n S).2.2 := RQ.same hP142 (by omega)
              have hl_ : mI (setI (setI (wI (setI (setI (wI (setI (wI m I) 30 8 0) Ix74) 47 ((L.length : Int).toNat) ((dS2 tx n S).2 : Int)) 30 26 0) Ix125) 46 ((L.length : Int).toNat) ((dR tx n S).2.2.2 : Int)) 30 7 (((dR tx n S).2.2.2 : Int) + 0)) 30 27 = 0 ∨ mI (setI (setI (wI (setI (setI (wI (setI (wI m I) 30 8 0) Ix74) 47 ((L.length : Int).toNat) ((dS2 tx n S).2 : Int)) 30 26 0) Ix125) 46 ((L.length : Int).toNat) ((dR tx n S).2.2.2 : Int)) 30 7 (((dR tx n S).2.2.2 : Int) + 0)) 30 27 = 1 := by
                rw [show mI (setI (setI (wI (setI (setI (wI (setI (wI m I) 30 8 0) Ix74) 47 ((L.length : Int).toNat) ((dS2 tx n S).2 : Int)) 30 26 0) Ix125) 46 ((L.length : Int).toNat) ((dR tx n S).2.2.2 : Int)) 30 7 (((dR tx n S).2.2.2 : Int) + 0)) 30 27 = mI (setI (wI (setI (setI (wI (setI (wI m I) 30 8 0) Ix74) 47 ((L.length : Int).toNat) ((dS2 tx n S).2 : Int)) 30 26 0) Ix125) 46 ((L.length : Int).toNat) ((dR tx n S).2.2.2 : Int)) 30 27 from mI_setne (by omega)]; exact hl142
              refine V_mem (m' := wI m (mI (setI (setI (wI (setI (setI (wI (setI (wI m I) 30 8 0) Ix74) 47 ((L.length : Int).toNat) ((dS2 tx n S).2 : Int)) 30 26 0) Ix125) 46 ((L.length : Int).toNat) ((dR tx n S).2.2.2 : Int)) 30 7 (((dR tx n S).2.2.2 : Int) + 0)))) rfl ?_
              by_cases hw_ : (dR tx n S).2.2.1 = true
              · have eD : defL tx n (f + 1) S = ([dPt tx n S], (dR tx n S).2.2) := (if_pos hw_).trans (if_neg hnx)
                have hln_ := hlen142 hw_
                have hA_ := hA142 hw_
                refine kx _ _ _ (by rw [eD]; exact hP_) (RFd.set hF142 (by omega)) hl_ (fun _ => ?_)
                rw [eD]
                exact ⟨by rw [List.length_append]; rfl, hA_, by rw [List.length_append]; show L.length + 1 ≤ 120; omega⟩
              · have eD : defL tx n (f + 1) S = ([], (dR tx n S).2.2) := if_neg hw_
                refine kx _ _ _ (by rw [eD]; exact hP_) (RFd.set hF142 (by omega)) hl_ (fun h_ => ?_)
                rw [eD] at h_
                exact absurd h_ hw_
            · skip
              refine V_iconst (pc := 158) dX11_define_158 (by unfold I32; omega) ?_
              refine V_goto (pc := 159) dX11_define_159 (tgt := 163) rfl ?_
              refine V_iadd (pc := 163) dX11_define_163 (by unfold I32 at *; omega) ?_
              refine V_putI (pc := 164) dX11_define_164 fw_RX11_125 rfl hL.t30 (Or.inl rfl) (Or.inl rfl) ?_
              have hnx : dNx tx n (dR tx n S).2.2 := by
                by_cases c_ : dNx tx n (dR tx n S).2.2
                · exact c_
                · rw [if_neg c_] at hx145; omega
              obtain rfl : x145 = 1 := by rw [hx145, if_pos hnx]
              refine V_goto (pc := 167) dX11_define_167 (tgt := 13) rfl ?_
              refine V_ls (ls' := [(2, vi 1), (1, vi ((L.length : Int) + 1)), (0, vr 30)]) (by intro q_ h_; simp only [List.mem_cons, List.not_mem_nil, or_false] at h_ ⊢; rcases h_ with rfl | rfl | rfl <;> simp) ?_
              have eD : defL tx n (f + 1) S = (dPt tx n S :: (defL tx n f (cAdv (dR tx n S).2.2)).1, (defL tx n f (cAdv (dR tx n S).2.2)).2) := (if_pos hnx.1).trans (if_pos hnx)
              have hA_ := hA142 hnx.1
              have hln_ := hlen142 hnx.1
              have hP_ : RQ (mI (setI (setI (wI (setI (setI (wI (setI (wI m I) 30 8 0) Ix74) 47 ((L.length : Int).toNat) ((dS2 tx n S).2 : Int)) 30 26 0) Ix125) 46 ((L.length : Int).toNat) ((dR tx n S).2.2.2 : Int)) 30 7 (((dR tx n S).2.2.2 : Int) + 1))) tx n (cAdv (dR tx n S).2.2) := RQ.adv hP142 (congrArg (fun z => z + 1) hP142.2.1.symm) (Int.lt_of_le_of_lt (Int.le_of_eq hP142.2.1) (Int.lt_of_lt_of_le (Int.ofNat_lt.mpr hnx.2.1) (Int.le_of_eq hP142.1.symm)))
              have hll_ : ((L.length : Int) + 1) = ((L ++ [dPt tx n S]).length : Int) := by rw [List.length_append]; rfl
              rw [hll_]
              refine ih (cAdv (dR tx n S).2.2) (L ++ [dPt tx n S]) (mI (setI (setI (wI (setI (setI (wI (setI (wI m I) 30 8 0) Ix74) 47 ((L.length : Int).toNat) ((dS2 tx n S).2 : Int)) 30 26 0) Ix125) 46 ((L.length : Int).toNat) ((dR tx n S).2.2.2 : Int)) 30 7 (((dR tx n S).2.2.2 : Int) + 1))) hP_ hnx.1 (RFd.set hF142 (by omega)) (by rw [show mI (setI (setI (wI (setI (setI (wI (setI (wI m I) 30 8 0) Ix74) 47 ((L.length : Int).toNat) ((dS2 tx n S).2 : Int)) 30 26 0) Ix125) 46 ((L.length : Int).toNat) ((dR tx n S).2.2.2 : Int)) 30 7 (((dR tx n S).2.2.2 : Int) + 1)) 30 27 = mI (setI (wI (setI (setI (wI (setI (wI m I) 30 8 0) Ix74) 47 ((L.length : Int).toNat) ((dS2 tx n S).2 : Int)) 30 26 0) Ix125) 46 ((L.length : Int).toNat) ((dR tx n S).2.2.2 : Int)) 30 27 from mI_setne (by omega)]; exact hl142) hA_ ?_ ?_ ?_
              · rw [List.length_append]; show 3 * (L.length + 1) ≤ (dR tx n S).2.2.2 + 1; omega
              · have hgr_ := (hni.1.2.1 hnx.1).2
                show n + 1 ≤ f + ((dR tx n S).2.2.2 + 1); omega
              · intro nn nx J h1 h2 h3 h4
                refine kx nn nx J (by rw [eD]; exact h1) h2 h3 (fun hw_ => ?_)
                rw [eD] at hw_ ⊢
                have h5 := h4 hw_
                rw [List.append_assoc] at h5
                exact h5
    · skip
      have hlt_ := (cc_lt (tx := tx) (n := n) (S := S) (by omega)).2
      refine V_ld (pc := 35) dX11_define_35 (v := vr 30) rfl rfl ?_
      refine V_getRv (pc := 36) dX11_define_36 (o' := 48) fw_RX11_63 rfl hL.t30 hL.r30_30 ?_
      refine V_ld (pc := 39) dX11_define_39 (v := vi (L.length : Int)) rfl rfl ?_
      refine V_ld (pc := 40) dX11_define_40 (v := vr 30) rfl rfl ?_
      refine V_getRv (pc := 41) dX11_define_41 (o' := 34) fw_RX11_21 rfl hL.t30 hL.r30_5 ?_
      refine V_ld (pc := 44) dX11_define_44 (v := vr 30) rfl rfl ?_
      refine V_getIv (pc := 45) dX11_define_45 (v := (S.2 : Int)) fw_RX11_125 rfl hL.t30 hP.2.1 (fun g45 => ?_)
      refine V_ialdv (pc := 48) dX11_define_48 (v := (ccS tx n S)) hL.t34 (by omega) (RQ.rd hP (by omega)) (fun g48 => ?_)
      refine V_bipush (pc := 49) dX11_define_49 (by unfold I32; omega) (by decide) ?_
      refine V_isub (pc := 51) dX11_define_51 (by unfold I32 at *; omega) ?_
      refine V_iast (pc := 52) dX11_define_52 hL.t48 (by omega) ?_
      refine V_ld (pc := 53) dX11_define_53 (v := vr 30) rfl rfl ?_
      refine V_dup (pc := 54) dX11_define_54 rfl ?_
      refine V_getIv (pc := 55) dX11_define_55 (v := (S.2 : Int)) fw_RX11_125 rfl hL.t30 (by first | exact hP.2.1 | (simp only [mI_setI, up2]; repeat (first | exact hP.2.1 | rw [if_neg (by omega)]))) (fun g55 => ?_)
      refine V_iconst (pc := 58) dX11_define_58 (by unfold I32; omega) ?_
      refine V_iadd (pc := 59) dX11_define_59 (by unfold I32 at *; omega) ?_
      refine V_putI (pc := 60) dX11_define_60 fw_RX11_125 rfl hL.t30 (Or.inl rfl) (Or.inl rfl) ?_
      have hA63 : RQ (mI (setI (setI (wI m I) 48 ((L.length : Int).toNat) ((ccS tx n S) - 65)) 30 7 ((S.2 : Int) + 1))) tx n (cAdv S) := RQ.adv (v := (S.2 : Int) + 1) (RQ.fr hP (fun o k h_ => up2_nx (by omega))) (congrArg (fun z => z + 1) ((mI_setne (M := wI m I) (by omega)).trans hP.2.1).symm) (by show I 30 7 < I 30 6; exact RQ.lt hP (by omega))
      have hF63 : RFd I0 (mI (setI (setI (wI m I) 48 ((L.length : Int).toNat) ((ccS tx n S) - 65)) 30 7 ((S.2 : Int) + 1))) := (RFd.set (RFd.set hF (by omega)) (by omega))
      have e63 : dS1 tx n S = cAdv S := if_pos (by omega)
      have hB63 := hA63
      rw [← e63] at hB63
      have h48 : mI (setI (setI (wI m I) 48 ((L.length : Int).toNat) ((ccS tx n S) - 65)) 30 7 ((S.2 : Int) + 1)) 48 L.length = ccS tx n S - 65 := (mI_setne (by omega)).trans mI_sets
      have hK63 : ∀ o k, 46 ≤ o → o ≤ 48 → k < L.length → mI (setI (setI (wI m I) 48 ((L.length : Int).toNat) ((ccS tx n S) - 65)) 30 7 ((S.2 : Int) + 1)) o k = I o k := fun o k _ _ h_ => (mI_setne (by omega)).trans (mI_setne (by omega))
      have hl63 : mI (setI (setI (wI m I) 48 ((L.length : Int).toNat) ((ccS tx n S) - 65)) 30 7 ((S.2 : Int) + 1)) 30 27 = I 30 27 := (mI_setne (by omega)).trans (mI_setne (by omega))
      refine V_goto (pc := 63) dX11_define_63 (tgt := 71) rfl ?_
      skip
      refine V_ld (pc := 71) dX11_define_71 (v := vr 30) rfl rfl ?_
      refine V_bipush (pc := 72) dX11_define_72 (by unfold I32; omega) (by decide) ?_
      refine V_callV (pc := 74) dX11_define_74 (F' := 1) (As := [vi 61]) (st := []) cw_RX11_146 rfl rfl hL.t30 (by decide) (Nat.le_of_ble_eq_true rfl) (by omega) (q_takes tx n (dS1 tx n S) (setI (setI (wI m I) 48 ((L.length : Int).toNat) ((ccS tx n S) - 65)) 30 7 ((S.2 : Int) + 1)) 61   (by first | assumption | omega) hB63 (by decide)) ?_
      rintro _ _ ⟨rfl, Ix74, rfl, hP74, hF74⟩ ok74 le74
      have hb74 : (dS2 tx n S).2 ≤ n := hP74.2.2.2.1
      have hP74 : RQ Ix74 tx n (dS2 tx n S) := hP74
      refine V_ld (pc := 77) dX11_define_77 (v := vr 30) rfl rfl ?_
      refine V_getRv (pc := 78) dX11_define_78 (o' := 47) fw_RX11_60 rfl hL.t30 hL.r30_29 ?_
      refine V_ld (pc := 81) dX11_define_81 (v := vi (L.length : Int)) rfl rfl ?_
      refine V_ld (pc := 82) dX11_define_82 (v := vr 30) rfl rfl ?_
      refine V_getIv (pc := 83) dX11_define_83 (v := ((dS2 tx n S).2 : Int)) fw_RX11_125 rfl hL.t30 hP74.2.1 (fun g83 => ?_)
      refine V_iast (pc := 86) dX11_define_86 hL.t47 (by omega) ?_
      refine V_ld (pc := 87) dX11_define_87 (v := vr 30) rfl rfl ?_
      refine V_iconst (pc := 88) dX11_define_88 (by unfold I32; omega) ?_
      refine V_putI (pc := 89) dX11_define_89 fw_RX11_246 rfl hL.t30 (Or.inl rfl) (Or.inl rfl) ?_
      have hP92 : RQ (mI (setI (setI (wI (setI (setI (wI m I) 48 ((L.length : Int).toNat) ((ccS tx n S) - 65)) 30 7 ((S.2 : Int) + 1)) Ix74) 47 ((L.length : Int).toNat) ((dS2 tx n S).2 : Int)) 30 26 0)) tx n (dS2 tx n S) := RQ.fr hP74 (fun o k h_ => (up2_nx (by omega)).trans (up2_nx (by omega)))
      have hF92 : RFd I0 (mI (setI (setI (wI (setI (setI (wI m I) 48 ((L.length : Int).toNat) ((ccS tx n S) - 65)) 30 7 ((S.2 : Int) + 1)) Ix74) 47 ((L.length : Int).toNat) ((dS2 tx n S).2 : Int)) 30 26 0)) := (RFd.set (RFd.set (RFd.tr hF63 (QFs.d hF74)) (by omega)) (by omega))
      have h47 : mI (setI (setI (wI (setI (setI (wI m I) 48 ((L.length : Int).toNat) ((ccS tx n S) - 65)) 30 7 ((S.2 : Int) + 1)) Ix74) 47 ((L.length : Int).toNat) ((dS2 tx n S).2 : Int)) 30 26 0) 47 L.length = ((dS2 tx n S).2 : Int) := (mI_setne (by omega)).trans mI_sets
      have h26 : mI (setI (setI (wI (setI (setI (wI m I) 48 ((L.length : Int).toNat) ((ccS tx n S) - 65)) 30 7 ((S.2 : Int) + 1)) Ix74) 47 ((L.length : Int).toNat) ((dS2 tx n S).2 : Int)) 30 26 0) 30 26 = 0 := mI_sets
      have hK92 : ∀ o k, 46 ≤ o → o ≤ 48 → (k < L.length ∨ o = 48) → mI (setI (setI (wI (setI (setI (wI m I) 48 ((L.length : Int).toNat) ((ccS tx n S) - 65)) 30 7 ((S.2 : Int) + 1)) Ix74) 47 ((L.length : Int).toNat) ((dS2 tx n S).2 : Int)) 30 26 0) o k = Ix74 o k := fun o k _ _ h_ => (mI_setne (by omega)).trans (mI_setne (by omega))
      have hl92 : mI (setI (setI (wI (setI (setI (wI m I) 48 ((L.length : Int).toNat) ((ccS tx n S) - 65)) 30 7 ((S.2 : Int) + 1)) Ix74) 47 ((L.length : Int).toNat) ((dS2 tx n S).2 : Int)) 30 26 0) 30 27 = 0 ∨ mI (setI (setI (wI (setI (setI (wI m I) 48 ((L.length : Int).toNat) ((ccS tx n S) - 65)) 30 7 ((S.2 : Int) + 1)) Ix74) 47 ((L.length : Int).toNat) ((dS2 tx n S).2 : Int)) 30 26 0) 30 27 = 1 := by
        rw [show mI (setI (setI (wI (setI (setI (wI m I) 48 ((L.length : Int).toNat) ((ccS tx n S) - 65)) 30 7 ((S.2 : Int) + 1)) Ix74) 47 ((L.length : Int).toNat) ((dS2 tx n S).2 : Int)) 30 26 0) 30 27 = Ix74 30 27 from (mI_setne (by omega)).trans (mI_setne (by omega)), hF74 30 27 (by omega), hl63]; exact hl
      have hE92 : EOK (mI (setI (setI (wI (setI (setI (wI m I) 48 ((L.length : Int).toNat) ((ccS tx n S) - 65)) 30 7 ((S.2 : Int) + 1)) Ix74) 47 ((L.length : Int).toNat) ((dS2 tx n S).2 : Int)) 30 26 0)) := EOK.frd hE0 hF92 hl92
      have hw92 := (RQ.cS hP92).2.2.2.2.2.2.1
      have hcs92 := (RQ.cS hP92).1
      have hw01 := (RQ.cS hP92).2.2.2.2.1
      have hty92 := (RQ.cS hP92).2.2.2.2.2.1
      rw [hP92.2.1, hP92.1] at hcs92 hty92
      have h34 : mI (setI (setI (wI (setI (setI (wI m I) 48 ((L.length : Int).toNat) ((ccS tx n S) - 65)) 30 7 ((S.2 : Int) + 1)) Ix74) 47 ((L.length : Int).toNat) ((dS2 tx n S).2 : Int)) 30 26 0) 34 ((dS2 tx n S).2 : Int).toNat = mI (wI (setI (setI (wI m I) 48 ((L.length : Int).toNat) ((ccS tx n S) - 65)) 30 7 ((S.2 : Int) + 1)) Ix74) 34 ((dS2 tx n S).2 : Int).toNat := (mI_setne (by omega)).trans (mI_setne (by omega))
      refine V_ld (pc := 92) dX11_define_92 (v := vr 30) rfl rfl ?_
      refine V_getIv (pc := 93) dX11_define_93 (v := mI (setI (setI (wI (setI (setI (wI m I) 48 ((L.length : Int).toNat) ((ccS tx n S) - 65)) 30 7 ((S.2 : Int) + 1)) Ix74) 47 ((L.length : Int).toNat) ((dS2 tx n S).2 : Int)) 30 26 0) 30 8) fw_RX11_128 rfl hL.t30 rfl (fun g93 => ?_)
      refine V_if_eq (pc := 96) dX11_define_96 (tgt := 129) rfl (fun h96 => ?_) (fun h96 => ?_)
      · skip
        have heq : ccS tx n (dS2 tx n S) = -1 := by
          rw [hcs92, if_neg (by omega)]
        have eR : dR tx n S = ([], (fun _ => true), dS2 tx n S) := if_pos heq
        have hPR : RQ (mI (setI (setI (wI (setI (setI (wI m I) 48 ((L.length : Int).toNat) ((ccS tx n S) - 65)) 30 7 ((S.2 : Int) + 1)) Ix74) 47 ((L.length : Int).toNat) ((dS2 tx n S).2 : Int)) 30 26 0)) tx n (dR tx n S).2.2 := by rw [eR]; exact hP92
        have hFR : RFd I0 (mI (setI (setI (wI (setI (setI (wI m I) 48 ((L.length : Int).toNat) ((ccS tx n S) - 65)) 30 7 ((S.2 : Int) + 1)) Ix74) 47 ((L.length : Int).toNat) ((dS2 tx n S).2 : Int)) 30 26 0)) := hF92
        have hlR : mI (setI (setI (wI (setI (setI (wI m I) 48 ((L.length : Int).toNat) ((ccS tx n S) - 65)) 30 7 ((S.2 : Int) + 1)) Ix74) 47 ((L.length : Int).toNat) ((dS2 tx n S).2 : Int)) 30 26 0) 30 27 = 0 ∨ mI (setI (setI (wI (setI (setI (wI m I) 48 ((L.length : Int).toNat) ((ccS tx n S) - 65)) 30 7 ((S.2 : Int) + 1)) Ix74) 47 ((L.length : Int).toNat) ((dS2 tx n S).2 : Int)) 30 26 0) 30 27 = 1 := hl92
        have hKR : ∀ o k, 46 ≤ o → o ≤ 48 → mI (setI (setI (wI (setI (setI (wI m I) 48 ((L.length : Int).toNat) ((ccS tx n S) - 65)) 30 7 ((S.2 : Int) + 1)) Ix74) 47 ((L.length : Int).toNat) ((dS2 tx n S).2 : Int)) 30 26 0) o k = mI (setI (setI (wI (setI (setI (wI m I) 48 ((L.length : Int).toNat) ((ccS tx n S) - 65)) 30 7 ((S.2 : Int) + 1)) Ix74) 47 ((L.length : Int).toNat) ((dS2 tx n S).2 : Int)) 30 26 0) o k := fun o k _ _ => rfl
        have hbR : (dR tx n S).2.2.2 ≤ n := hPR.2.2.2.1
        refine V_ld (pc := 129) dX11_define_129 (v := vr 30) rfl rfl ?_
        refine V_getRv (pc := 130) dX11_define_130 (o' := 46) fw_RX11_57 rfl hL.t30 hL.r30_28 ?_
        refine V_ld (pc := 133) dX11_define_133 (v := vi (L.length : Int)) rfl rfl ?_
        refine V_ld (pc := 134) dX11_define_134 (v := vr 30) rfl rfl ?_
        refine V_getIv (pc := 135) dX11_define_135 (v := ((dR tx n S).2.2.2 : Int)) fw_RX11_125 rfl hL.t30 hPR.2.1 (fun g135 => ?_)
        refine V_iast (pc := 138) dX11_define_138 hL.t46 (by omega) ?_
        refine V_iinc (pc := 139) dX11_define_139 (x := (L.length : Int)) (ls' := [(1, vi ((L.length : Int) + 1)), (2, vi 1), (0, vr 30)]) rfl (by unfold I32 at *; omega) (Nat.le_of_ble_eq_true rfl) rfl ?_
        have hP142 : RQ (mI (setI (setI (setI (wI (setI (setI (wI m I) 48 ((L.length : Int).toNat) ((ccS tx n S) - 65)) 30 7 ((S.2 : Int) + 1)) Ix74) 47 ((L.length : Int).toNat) ((dS2 tx n S).2 : Int)) 30 26 0) 46 ((L.length : Int).toNat) ((dR tx n S).2.2.2 : Int))) tx n (dR tx n S).2.2 := RQ.fr hPR (fun o k h_ => up2_nx (by omega))
        have hF142 : RFd I0 (mI (setI (setI (setI (wI (setI (setI (wI m I) 48 ((L.length : Int).toNat) ((ccS tx n S) - 65)) 30 7 ((S.2 : Int) + 1)) Ix74) 47 ((L.length : Int).toNat) ((dS2 tx n S).2 : Int)) 30 26 0) 46 ((L.length : Int).toNat) ((dR tx n S).2.2.2 : Int))) := (RFd.set hFR (by omega))
        have hl142 : mI (setI (setI (setI (wI (setI (setI (wI m I) 48 ((L.length : Int).toNat) ((ccS tx n S) - 65)) 30 7 ((S.2 : Int) + 1)) Ix74) 47 ((L.length : Int).toNat) ((dS2 tx n S).2 : Int)) 30 26 0) 46 ((L.length : Int).toNat) ((dR tx n S).2.2.2 : Int)) 30 27 = 0 ∨ mI (setI (setI (setI (wI (setI (setI (wI m I) 48 ((L.length : Int).toNat) ((ccS tx n S) - 65)) 30 7 ((S.2 : Int) + 1)) Ix74) 47 ((L.length : Int).toNat) ((dS2 tx n S).2 : Int)) 30 26 0) 46 ((L.length : Int).toNat) ((dR tx n S).2.2.2 : Int)) 30 27 = 1 := by
          rw [show mI (setI (setI (setI (wI (setI (setI (wI m I) 48 ((L.length : Int).toNat) ((ccS tx n S) - 65)) 30 7 ((S.2 : Int) + 1)) Ix74) 47 ((L.length : Int).toNat) ((dS2 tx n S).2 : Int)) 30 26 0) 46 ((L.length : Int).toNat) ((dR tx n S).2.2.2 : Int)) 30 27 = mI (setI (setI (wI (setI (setI (wI m I) 48 ((L.length : Int).toNat) ((ccS tx n S) - 65)) 30 7 ((S.2 : Int) + 1)) Ix74) 47 ((L.length : Int).toNat) ((dS2 tx n S).2 : Int)) 30 26 0) 30 27 from mI_setne (by omega)]; exact hlR
        have hA142 : (dR tx n S).2.2.1 = true → DArr (mI (setI (setI (setI (wI (setI (setI (wI m I) 48 ((L.length : Int).toNat) ((ccS tx n S) - 65)) 30 7 ((S.2 : Int) + 1)) Ix74) 47 ((L.length : Int).toNat) ((dS2 tx n S).2 : Int)) 30 26 0) 46 ((L.length : Int).toNat) ((dR tx n S).2.2.2 : Int))) (L ++ [dPt tx n S]) := by
          intro hw_
          have hd_ := hni.2 hw_
          refine DArr.app hA (fun o k h1 h2 h3 => ?_) ?_ ?_ mI_sets
          · exact (mI_setne (by omega)).trans ((hKR o k h1 h2).trans ((hK92 o k h1 h2 (Or.inl h3)).trans ((hF74 o k (by omega)).trans (hK63 o k h1 h2 h3))))
          · exact (mI_setne (by omega)).trans ((hKR 48 _ (by decide) (by decide)).trans ((hK92 48 _ (by decide) (by decide) (Or.inr rfl)).trans ((hF74 48 _ (by omega)).trans h48)))
          · exact (mI_setne (by omega)).trans ((hKR 47 _ (by decide) (by decide)).trans h47)
        have hlen142 : (dR tx n S).2.2.1 = true → 3 * L.length + 2 ≤ (dR tx n S).2.2.2 := by
          intro hw_
          have hd_ := hni.2 hw_
          omega
        refine V_ld (pc := 142) dX11_define_142 (v := vr 30) rfl rfl ?_
        refine V_bipush (pc := 143) dX11_define_143 (by unfold I32; omega) (by decide) ?_
        refine V_callV (pc := 145) dX11_define_145 (F' := 0) (As := [vi 59]) (st := []) cw_RX11_132 rfl rfl hL.t30 (by decide) (Nat.le_of_ble_eq_true rfl) (by omega) (q_isAt59 tx n ((dR tx n S).2.2) (setI (setI (setI (wI (setI (setI (wI m I) 48 ((L.length : Int).toNat) ((ccS tx n S) - 65)) 30 7 ((S.2 : Int) + 1)) Ix74) 47 ((L.length : Int).toNat) ((dS2 tx n S).2 : Int)) 30 26 0) 46 ((L.length : Int).toNat) ((dR tx n S).2.2.2 : Int)) 59   (by first | assumption | omega) hP142 rfl) ?_
        rintro _ _ ⟨x145, rfl, hx145, rfl⟩ ok145 le145
        refine V_st (pc := 148) dX11_define_148 (ls' := [(2, vi x145), (1, vi ((L.length : Int) + 1)), (0, vr 30)]) rfl (Nat.le_of_ble_eq_true rfl) rfl ?_
        refine V_ld (pc := 149) dX11_define_149 (v := vr 30) rfl rfl ?_
        refine V_dup (pc := 150) dX11_define_150 rfl ?_
        refine V_getIv (pc := 151) dX11_define_151 (v := ((dR tx n S).2.2.2 : Int)) fw_RX11_125 rfl hL.t30 hP142.2.1 (fun g151 => ?_)
        refine V_ld (pc := 154) dX11_define_154 (v := vi x145) rfl rfl ?_
        refine V_if_eq (pc := 155) dX11_define_155 (tgt := 162) rfl (fun h155 => ?_) (fun h155 => ?_)
        · skip
          refine V_iconst (pc := 162) dX11_define_162 (by unfold I32; omega) ?_
          refine V_iadd (pc := 163) dX11_define_163 (by unfold I32 at *; omega) ?_
          refine V_putI (pc := 164) dX11_define_164 fw_RX11_125 rfl hL.t30 (Or.inl rfl) (Or.inl rfl) ?_
          have hnx : ¬ dNx tx n (dR tx n S).2.2 := by
            intro c_
            rw [if_pos c_] at hx145; omega
          obtain rfl : x145 = 0 := by rw [hx145, if_neg hnx]
          refine V_goto (pc := 167) dX11_define_167 (tgt := 13) rfl ?_
          refine V_ls (ls' := [(2, vi 0), (1, vi ((L.length : Int) + 1)), (0, vr 30)]) (by intro q_ h_; simp only [List.mem_cons, List.not_mem_nil, or_false] at h_ ⊢; rcases h_ with rfl | rfl | rfl <;> simp) ?_
          refine V_ld (pc := 13) dX11_define_13 (v := vi 0) rfl rfl ?_
          refine V_if_eq (pc := 14) dX11_define_14 (tgt := 170) rfl (fun _ => ?_) (fun h_ => absurd rfl h_)
          have hP_ : RQ (mI (setI (setI (setI (setI (wI (setI (setI (wI m I) 48 ((L.length : Int).toNat) ((ccS tx n S) - 65)) 30 7 ((S.2 : Int) + 1)) Ix74) 47 ((L.length : Int).toNat) ((dS2 tx n S).2 : Int)) 30 26 0) 46 ((L.length : Int).toNat) ((dR tx n S).2.2.2 : Int)) 30 7 (((dR tx n S).2.2.2 : Int) + 0))) tx n (dR tx n S).2.2 := RQ.same hP142 (by omega)
          have hl_ : mI (setI (setI (setI (setI (wI (setI (setI (wI m I) 48 ((L.length : Int).toNat) ((ccS tx n S) - 65)) 30 7 ((S.2 : Int) + 1)) Ix74) 47 ((L.length : Int).toNat) ((dS2 tx n S).2 : Int)) 30 26 0) 46 ((L.length : Int).toNat) ((dR tx n S).2.2.2 : Int)) 30 7 (((dR tx n S).2.2.2 : Int) + 0)) 30 27 = 0 ∨ mI (setI (setI (setI (setI (wI (setI (setI (wI m I) 48 ((L.length : Int).toNat) ((ccS tx n S) - 65)) 30 7 ((S.2 : Int) + 1)) Ix74) 47 ((L.length : Int).toNat) ((dS2 tx n S).2 : Int)) 30 26 0) 46 ((L.length : Int).toNat) ((dR tx n S).2.2.2 : Int)) 30 7 (((dR tx n S).2.2.2 : Int) + 0)) 30 27 = 1 := by
            rw [show mI (setI (setI (setI (setI (wI (setI (setI (wI m I) 48 ((L.length : Int).toNat) ((ccS tx n S) - 65)) 30 7 ((S.2 : Int) + 1)) Ix74) 47 ((L.length : Int).toNat) ((dS2 tx n S).2 : Int)) 30 26 0) 46 ((L.length : Int).toNat) ((dR tx n S).2.2.2 : Int)) 30 7 (((dR tx n S).2.2.2 : Int) + 0)) 30 27 = mI (setI (setI (setI (wI (setI (setI (wI m I) 48 ((L.length : Int).toNat) ((ccS tx n S) - 65)) 30 7 ((S.2 : Int) + 1)) Ix74) 47 ((L.length : Int).toNat) ((dS2 tx n S).2 : Int)) 30 26 0) 46 ((L.length : Int).toNat) ((dR tx n S).2.2.2 : Int)) 30 27 from mI_setne (by omega)]; exact hl142
          refine V_mem (m' := wI m (mI (setI (setI (setI (setI (wI (setI (setI (wI m I) 48 ((L.length : Int).toNat) ((ccS tx n S) - 65)) 30 7 ((S.2 : Int) + 1)) Ix74) 47 ((L.length : Int).toNat) ((dS2 tx n S).2 : Int)) 30 26 0) 46 ((L.length : Int).toNat) ((dR tx n S).2.2.2 : Int)) 30 7 (((dR tx n S).2.2.2 : Int) + 0)))) rfl ?_
          by_cases hw_ : (dR tx n S).2.2.1 = true
          · have eD : defL tx n (f + 1) S = ([dPt tx n S], (dR tx n S).2.2) := (if_pos hw_).trans (if_neg hnx)
            have hln_ := hlen142 hw_
            have hA_ := hA142 hw_
            refine kx _ _ _ (by rw [eD]; exact hP_) (RFd.set hF142 (by omega)) hl_ (fun _ => ?_)
            rw [eD]
            exact ⟨by rw [List.length_append]; rfl, hA_, by rw [List.length_append]; show L.length + 1 ≤ 120; omega⟩
          · have eD : defL tx n (f + 1) S = ([], (dR tx n S).2.2) := if_neg hw_
            refine kx _ _ _ (by rw [eD]; exact hP_) (RFd.set hF142 (by omega)) hl_ (fun h_ => ?_)
            rw [eD] at h_
            exact absurd h_ hw_
        · skip
          refine V_iconst (pc := 158) dX11_define_158 (by unfold I32; omega) ?_
          refine V_goto (pc := 159) dX11_define_159 (tgt := 163) rfl ?_
          refine V_iadd (pc := 163) dX11_define_163 (by unfold I32 at *; omega) ?_
          refine V_putI (pc := 164) dX11_define_164 fw_RX11_125 rfl hL.t30 (Or.inl rfl) (Or.inl rfl) ?_
          have hnx : dNx tx n (dR tx n S).2.2 := by
            by_cases c_ : dNx tx n (dR tx n S).2.2
            · exact c_
            · rw [if_neg c_] at hx145; omega
          obtain rfl : x145 = 1 := by rw [hx145, if_pos hnx]
          refine V_goto (pc := 167) dX11_define_167 (tgt := 13) rfl ?_
          refine V_ls (ls' := [(2, vi 1), (1, vi ((L.length : Int) + 1)), (0, vr 30)]) (by intro q_ h_; simp only [List.mem_cons, List.not_mem_nil, or_false] at h_ ⊢; rcases h_ with rfl | rfl | rfl <;> simp) ?_
          have eD : defL tx n (f + 1) S = (dPt tx n S :: (defL tx n f (cAdv (dR tx n S).2.2)).1, (defL tx n f (cAdv (dR tx n S).2.2)).2) := (if_pos hnx.1).trans (if_pos hnx)
          have hA_ := hA142 hnx.1
          have hln_ := hlen142 hnx.1
          have hP_ : RQ (mI (setI (setI (setI (setI (wI (setI (setI (wI m I) 48 ((L.length : Int).toNat) ((ccS tx n S) - 65)) 30 7 ((S.2 : Int) + 1)) Ix74) 47 ((L.length : Int).toNat) ((dS2 tx n S).2 : Int)) 30 26 0) 46 ((L.length : Int).toNat) ((dR tx n S).2.2.2 : Int)) 30 7 (((dR tx n S).2.2.2 : Int) + 1))) tx n (cAdv (dR tx n S).2.2) := RQ.adv hP142 (congrArg (fun z => z + 1) hP142.2.1.symm) (Int.lt_of_le_of_lt (Int.le_of_eq hP142.2.1) (Int.lt_of_lt_of_le (Int.ofNat_lt.mpr hnx.2.1) (Int.le_of_eq hP142.1.symm)))
          have hll_ : ((L.length : Int) + 1) = ((L ++ [dPt tx n S]).length : Int) := by rw [List.length_append]; rfl
          rw [hll_]
          refine ih (cAdv (dR tx n S).2.2) (L ++ [dPt tx n S]) (mI (setI (setI (setI (setI (wI (setI (setI (wI m I) 48 ((L.length : Int).toNat) ((ccS tx n S) - 65)) 30 7 ((S.2 : Int) + 1)) Ix74) 47 ((L.length : Int).toNat) ((dS2 tx n S).2 : Int)) 30 26 0) 46 ((L.length : Int).toNat) ((dR tx n S).2.2.2 : Int)) 30 7 (((dR tx n S).2.2.2 : Int) + 1))) hP_ hnx.1 (RFd.set hF142 (by omega)) (by rw [show mI (setI (setI (setI (setI (wI (setI (setI (wI m I) 48 ((L.length : Int).toNat) ((ccS tx n S) - 65)) 30 7 ((S.2 : Int) + 1)) Ix74) 47 ((L.length : Int).toNat) ((dS2 tx n S).2 : Int)) 30 26 0) 46 ((L.length : Int).toNat) ((dR tx n S).2.2.2 : Int)) 30 7 (((dR tx n S).2.2.2 : Int) + 1)) 30 27 = mI (setI (setI (setI (wI (setI (setI (wI m I) 48 ((L.length : Int).toNat) ((ccS tx n S) - 65)) 30 7 ((S.2 : Int) + 1)) Ix74) 47 ((L.length : Int).toNat) ((dS2 tx n S).2 : Int)) 30 26 0) 46 ((L.length : Int).toNat) ((dR tx n S).2.2.2 : Int)) 30 27 from mI_setne (by omega)]; exact hl142) hA_ ?_ ?_ ?_
          · rw [List.length_append]; show 3 * (L.length + 1) ≤ (dR tx n S).2.2.2 + 1; omega
          · have hgr_ := (hni.1.2.1 hnx.1).2
            show n + 1 ≤ f + ((dR tx n S).2.2.2 + 1); omega
          · intro nn nx J h1 h2 h3 h4
            refine kx nn nx J (by rw [eD]; exact h1) h2 h3 (fun hw_ => ?_)
            rw [eD] at hw_ ⊢
            have h5 := h4 hw_
            rw [List.append_assoc] at h5
            exact h5
      · skip
        refine V_ld (pc := 99) dX11_define_99 (v := vr 30) rfl rfl ?_
        refine V_getIv (pc := 100) dX11_define_100 (v := ((dS2 tx n S).2 : Int)) fw_RX11_125 rfl hL.t30 hP92.2.1 (fun g100 => ?_)
        refine V_ld (pc := 103) dX11_define_103 (v := vr 30) rfl rfl ?_
        refine V_getIv (pc := 104) dX11_define_104 (v := (n : Int)) fw_RX11_122 rfl hL.t30 hP92.1 (fun g104 => ?_)
        refine V_icmp_ge (pc := 107) dX11_define_107 (tgt := 129) rfl (fun h107 => ?_) (fun h107 => ?_)
        · skip
          have heq : ccS tx n (dS2 tx n S) = -1 := by
            rw [hcs92, if_neg (by omega)]
          have eR : dR tx n S = ([], (fun _ => true), dS2 tx n S) := if_pos heq
          have hPR : RQ (mI (setI (setI (wI (setI (setI (wI m I) 48 ((L.length : Int).toNat) ((ccS tx n S) - 65)) 30 7 ((S.2 : Int) + 1)) Ix74) 47 ((L.length : Int).toNat) ((dS2 tx n S).2 : Int)) 30 26 0)) tx n (dR tx n S).2.2 := by rw [eR]; exact hP92
          have hFR : RFd I0 (mI (setI (setI (wI (setI (setI (wI m I) 48 ((L.length : Int).toNat) ((ccS tx n S) - 65)) 30 7 ((S.2 : Int) + 1)) Ix74) 47 ((L.length : Int).toNat) ((dS2 tx n S).2 : Int)) 30 26 0)) := hF92
          have hlR : mI (setI (setI (wI (setI (setI (wI m I) 48 ((L.length : Int).toNat) ((ccS tx n S) - 65)) 30 7 ((S.2 : Int) + 1)) Ix74) 47 ((L.length : Int).toNat) ((dS2 tx n S).2 : Int)) 30 26 0) 30 27 = 0 ∨ mI (setI (setI (wI (setI (setI (wI m I) 48 ((L.length : Int).toNat) ((ccS tx n S) - 65)) 30 7 ((S.2 : Int) + 1)) Ix74) 47 ((L.length : Int).toNat) ((dS2 tx n S).2 : Int)) 30 26 0) 30 27 = 1 := hl92
          have hKR : ∀ o k, 46 ≤ o → o ≤ 48 → mI (setI (setI (wI (setI (setI (wI m I) 48 ((L.length : Int).toNat) ((ccS tx n S) - 65)) 30 7 ((S.2 : Int) + 1)) Ix74) 47 ((L.length : Int).toNat) ((dS2 tx n S).2 : Int)) 30 26 0) o k = mI (setI (setI (wI (setI (setI (wI m I) 48 ((L.length : Int).toNat) ((ccS tx n S) - 65)) 30 7 ((S.2 : Int) + 1)) Ix74) 47 ((L.length : Int).toNat) ((dS2 tx n S).2 : Int)) 30 26 0) o k := fun o k _ _ => rfl
          have hbR : (dR tx n S).2.2.2 ≤ n := hPR.2.2.2.1
          refine V_ld (pc := 129) dX11_define_129 (v := vr 30) rfl rfl ?_
          refine V_getRv (pc := 130) dX11_define_130 (o' := 46) fw_RX11_57 rfl hL.t30 hL.r30_28 ?_
          refine V_ld (pc := 133) dX11_define_133 (v := vi (L.length : Int)) rfl rfl ?_
          refine V_ld (pc := 134) dX11_define_134 (v := vr 30) rfl rfl ?_
          refine V_getIv (pc := 135) dX11_define_135 (v := ((dR tx n S).2.2.2 : Int)) fw_RX11_125 rfl hL.t30 hPR.2.1 (fun g135 => ?_)
          refine V_iast (pc := 138) dX11_define_138 hL.t46 (by omega) ?_
          refine V_iinc (pc := 139) dX11_define_139 (x := (L.length : Int)) (ls' := [(1, vi ((L.length : Int) + 1)), (2, vi 1), (0, vr 30)]) rfl (by unfold I32 at *; omega) (Nat.le_of_ble_eq_true rfl) rfl ?_
          have hP142 : RQ (mI (setI (setI (setI (wI (setI (setI (wI m I) 48 ((L.length : Int).toNat) ((ccS tx n S) - 65)) 30 7 ((S.2 : Int) + 1)) Ix74) 47 ((L.length : Int).toNat) ((dS2 tx n S).2 : Int)) 30 26 0) 46 ((L.length : Int).toNat) ((dR tx n S).2.2.2 : Int))) tx n (dR tx n S).2.2 := RQ.fr hPR (fun o k h_ => up2_nx (by omega))
          have hF142 : RFd I0 (mI (setI (setI (setI (wI (setI (setI (wI m I) 48 ((L.length : Int).toNat) ((ccS tx n S) - 65)) 30 7 ((S.2 : Int) + 1)) Ix74) 47 ((L.length : Int).toNat) ((dS2 tx n S).2 : Int)) 30 26 0) 46 ((L.length : Int).toNat) ((dR tx n S).2.2.2 : Int))) := (RFd.set hFR (by omega))
          have hl142 : mI (setI (setI (setI (wI (setI (setI (wI m I) 48 ((L.length : Int).toNat) ((ccS tx n S) - 65)) 30 7 ((S.2 : Int) + 1)) Ix74) 47 ((L.length : Int).toNat) ((dS2 tx n S).2 : Int)) 30 26 0) 46 ((L.length : Int).toNat) ((dR tx n S).2.2.2 : Int)) 30 27 = 0 ∨ mI (setI (setI (setI (wI (setI (setI (wI m I) 48 ((L.length : Int).toNat) ((ccS tx n S) - 65)) 30 7 ((S.2 : Int) + 1)) Ix74) 47 ((L.length : Int).toNat) ((dS2 tx n S).2 : Int)) 30 26 0) 46 ((L.length : Int).toNat) ((dR tx n S).2.2.2 : Int)) 30 27 = 1 := by
            rw [show mI (setI (setI (setI (wI (setI (setI (wI m I) 48 ((L.length : Int).toNat) ((ccS tx n S) - 65)) 30 7 ((S.2 : Int) + 1)) Ix74) 47 ((L.length : Int).toNat) ((dS2 tx n S).2 : Int)) 30 26 0) 46 ((L.length : Int).toNat) ((dR tx n S).2.2.2 : Int)) 30 27 = mI (setI (setI (wI (setI (setI (wI m I) 48 ((L.length : Int).toNat) ((ccS tx n S) - 65)) 30 7 ((S.2 : Int) + 1)) Ix74) 47 ((L.length : Int).toNat) ((dS2 tx n S).2 : Int)) 30 26 0) 30 27 from mI_setne (by omega)]; exact hlR
          have hA142 : (dR tx n S).2.2.1 = true → DArr (mI (setI (setI (setI (wI (setI (setI (wI m I) 48 ((L.length : Int).toNat) ((ccS tx n S) - 65)) 30 7 ((S.2 : Int) + 1)) Ix74) 47 ((L.length : Int).toNat) ((dS2 tx n S).2 : Int)) 30 26 0) 46 ((L.length : Int).toNat) ((dR tx n S).2.2.2 : Int))) (L ++ [dPt tx n S]) := by
            intro hw_
            have hd_ := hni.2 hw_
            refine DArr.app hA (fun o k h1 h2 h3 => ?_) ?_ ?_ mI_sets
            · exact (mI_setne (by omega)).trans ((hKR o k h1 h2).trans ((hK92 o k h1 h2 (Or.inl h3)).trans ((hF74 o k (by omega)).trans (hK63 o k h1 h2 h3))))
            · exact (mI_setne (by omega)).trans ((hKR 48 _ (by decide) (by decide)).trans ((hK92 48 _ (by decide) (by decide) (Or.inr rfl)).trans ((hF74 48 _ (by omega)).trans h48)))
            · exact (mI_setne (by omega)).trans ((hKR 47 _ (by decide) (by decide)).trans h47)
          have hlen142 : (dR tx n S).2.2.1 = true → 3 * L.length + 2 ≤ (dR tx n S).2.2.2 := by
            intro hw_
            have hd_ := hni.2 hw_
            omega
          refine V_ld (pc := 142) dX11_define_142 (v := vr 30) rfl rfl ?_
          refine V_bipush (pc := 143) dX11_define_143 (by unfold I32; omega) (by decide) ?_
          refine V_callV (pc := 145) dX11_define_145 (F' := 0) (As := [vi 59]) (st := []) cw_RX11_132 rfl rfl hL.t30 (by decide) (Nat.le_of_ble_eq_true rfl) (by omega) (q_isAt59 tx n ((dR tx n S).2.2) (setI (setI (setI (wI (setI (setI (wI m I) 48 ((L.length : Int).toNat) ((ccS tx n S) - 65)) 30 7 ((S.2 : Int) + 1)) Ix74) 47 ((L.length : Int).toNat) ((dS2 tx n S).2 : Int)) 30 26 0) 46 ((L.length : Int).toNat) ((dR tx n S).2.2.2 : Int)) 59   (by first | assumption | omega) hP142 rfl) ?_
          rintro _ _ ⟨x145, rfl, hx145, rfl⟩ ok145 le145
          refine V_st (pc := 148) dX11_define_148 (ls' := [(2, vi x145), (1, vi ((L.length : Int) + 1)), (0, vr 30)]) rfl (Nat.le_of_ble_eq_true rfl) rfl ?_
          refine V_ld (pc := 149) dX11_define_149 (v := vr 30) rfl rfl ?_
          refine V_dup (pc := 150) dX11_define_150 rfl ?_
          refine V_getIv (pc := 151) dX11_define_151 (v := ((dR tx n S).2.2.2 : Int)) fw_RX11_125 rfl hL.t30 hP142.2.1 (fun g151 => ?_)
          refine V_ld (pc := 154) dX11_define_154 (v := vi x145) rfl rfl ?_
          refine V_if_eq (pc := 155) dX11_define_155 (tgt := 162) rfl (fun h155 => ?_) (fun h155 => ?_)
          · skip
            refine V_iconst (pc := 162) dX11_define_162 (by unfold I32; omega) ?_
            refine V_iadd (pc := 163) dX11_define_163 (by unfold I32 at *; omega) ?_
            refine V_putI (pc := 164) dX11_define_164 fw_RX11_125 rfl hL.t30 (Or.inl rfl) (Or.inl rfl) ?_
            have hnx : ¬ dNx tx n (dR tx n S).2.2 := by
              intro c_
              rw [if_pos c_] at hx145; omega
            obtain rfl : x145 = 0 := by rw [hx145, if_neg hnx]
            refine V_goto (pc := 167) dX11_define_167 (tgt := 13) rfl ?_
            refine V_ls (ls' := [(2, vi 0), (1, vi ((L.length : Int) + 1)), (0, vr 30)]) (by intro q_ h_; simp only [List.mem_cons, List.not_mem_nil, or_false] at h_ ⊢; rcases h_ with rfl | rfl | rfl <;> simp) ?_
            refine V_ld (pc := 13) dX11_define_13 (v := vi 0) rfl rfl ?_
            refine V_if_eq (pc := 14) dX11_define_14 (tgt := 170) rfl (fun _ => ?_) (fun h_ => absurd rfl h_)
            have hP_ : RQ (mI (setI (setI (setI (setI (wI (setI (setI (wI m I) 48 ((L.length : Int).toNat) ((ccS tx n S) - 65)) 30 7 ((S.2 : Int) + 1)) Ix74) 47 ((L.length : Int).toNat) ((dS2 tx n S).2 : Int)) 30 26 0) 46 ((L.length : Int).toNat) ((dR tx n S).2.2.2 : Int)) 30 7 (((dR tx n S).2.2.2 : Int) + 0))) tx n (dR tx n S).2.2 := RQ.same hP142 (by omega)
            have hl_ : mI (setI (setI (setI (setI (wI (setI (setI (wI m I) 48 ((L.length : Int).toNat) ((ccS tx n S) - 65)) 30 7 ((S.2 : Int) + 1)) Ix74) 47 ((L.length : Int).toNat) ((dS2 tx n S).2 : Int)) 30 26 0) 46 ((L.length : Int).toNat) ((dR tx n S).2.2.2 : Int)) 30 7 (((dR tx n S).2.2.2 : Int) + 0)) 30 27 = 0 ∨ mI (setI (setI (setI (setI (wI (setI (setI (wI m I) 48 ((L.length : Int).toNat) ((ccS tx n S) - 65)) 30 7 ((S.2 : Int) + 1)) Ix74) 47 ((L.length : Int).toNat) ((dS2 tx n S).2 : Int)) 30 26 0) 46 ((L.length : Int).toNat) ((dR tx n S).2.2.2 : Int)) 30 7 (((dR tx n S).2.2.2 : Int) + 0)) 30 27 = 1 := by
              rw [show mI (setI (setI (setI (setI (wI (setI (setI (wI m I) 48 ((L.length : Int).toNat) ((ccS tx n S) - 65)) 30 7 ((S.2 : Int) + 1)) Ix74) 47 ((L.length : Int).toNat) ((dS2 tx n S).2 : Int)) 30 26 0) 46 ((L.length : Int).toNat) ((dR tx n S).2.2.2 : Int)) 30 7 (((dR tx n S).2.2.2 : Int) + 0)) 30 27 = mI (setI (setI (setI (wI (setI (setI (wI m I) 48 ((L.length : Int).toNat) ((ccS tx n S) - 65)) 30 7 ((S.2 : Int) + 1)) Ix74) 47 ((L.length : Int).toNat) ((dS2 tx n S).2 : Int)) 30 26 0) 46 ((L.length : Int).toNat) ((dR tx n S).2.2.2 : Int)) 30 27 from mI_setne (by omega)]; exact hl142
            refine V_mem (m' := wI m (mI (setI (setI (setI (setI (wI (setI (setI (wI m I) 48 ((L.length : Int).toNat) ((ccS tx n S) - 65)) 30 7 ((S.2 : Int) + 1)) Ix74) 47 ((L.length : Int).toNat) ((dS2 tx n S).2 : Int)) 30 26 0) 46 ((L.length : Int).toNat) ((dR tx n S).2.2.2 : Int)) 30 7 (((dR tx n S).2.2.2 : Int) + 0)))) rfl ?_
            by_cases hw_ : (dR tx n S).2.2.1 = true
            · have eD : defL tx n (f + 1) S = ([dPt tx n S], (dR tx n S).2.2) := (if_pos hw_).trans (if_neg hnx)
              have hln_ := hlen142 hw_
              have hA_ := hA142 hw_
              refine kx _ _ _ (by rw [eD]; exact hP_) (RFd.set hF142 (by omega)) hl_ (fun _ => ?_)
              rw [eD]
              exact ⟨by rw [List.length_append]; rfl, hA_, by rw [List.length_append]; show L.length + 1 ≤ 120; omega⟩
            · have eD : defL tx n (f + 1) S = ([], (dR tx n S).2.2) := if_neg hw_
              refine kx _ _ _ (by rw [eD]; exact hP_) (RFd.set hF142 (by omega)) hl_ (fun h_ => ?_)
              rw [eD] at h_
              exact absurd h_ hw_
          · skip
            refine V_iconst (pc := 158) dX11_define_158 (by unfold I32; omega) ?_
            refine V_goto (pc := 159) dX11_define_159 (tgt := 163) rfl ?_
            refine V_iadd (pc := 163) dX11_define_163 (by unfold I32 at *; omega) ?_
            refine V_putI (pc := 164) dX11_define_164 fw_RX11_125 rfl hL.t30 (Or.inl rfl) (Or.inl rfl) ?_
            have hnx : dNx tx n (dR tx n S).2.2 := by
              by_cases c_ : dNx tx n (dR tx n S).2.2
              · exact c_
              · rw [if_neg c_] at hx145; omega
            obtain rfl : x145 = 1 := by rw [hx145, if_pos hnx]
            refine V_goto (pc := 167) dX11_define_167 (tgt := 13) rfl ?_
            refine V_ls (ls' := [(2, vi 1), (1, vi ((L.length : Int) + 1)), (0, vr 30)]) (by intro q_ h_; simp only [List.mem_cons, List.not_mem_nil, or_false] at h_ ⊢; rcases h_ with rfl | rfl | rfl <;> simp) ?_
            have eD : defL tx n (f + 1) S = (dPt tx n S :: (defL tx n f (cAdv (dR tx n S).2.2)).1, (defL tx n f (cAdv (dR tx n S).2.2)).2) := (if_pos hnx.1).trans (if_pos hnx)
            have hA_ := hA142 hnx.1
            have hln_ := hlen142 hnx.1
            have hP_ : RQ (mI (setI (setI (setI (setI (wI (setI (setI (wI m I) 48 ((L.length : Int).toNat) ((ccS tx n S) - 65)) 30 7 ((S.2 : Int) + 1)) Ix74) 47 ((L.length : Int).toNat) ((dS2 tx n S).2 : Int)) 30 26 0) 46 ((L.length : Int).toNat) ((dR tx n S).2.2.2 : Int)) 30 7 (((dR tx n S).2.2.2 : Int) + 1))) tx n (cAdv (dR tx n S).2.2) := RQ.adv hP142 (congrArg (fun z => z + 1) hP142.2.1.symm) (Int.lt_of_le_of_lt (Int.le_of_eq hP142.2.1) (Int.lt_of_lt_of_le (Int.ofNat_lt.mpr hnx.2.1) (Int.le_of_eq hP142.1.symm)))
            have hll_ : ((L.length : Int) + 1) = ((L ++ [dPt tx n S]).length : Int) := by rw [List.length_append]; rfl
            rw [hll_]
            refine ih (cAdv (dR tx n S).2.2) (L ++ [dPt tx n S]) (mI (setI (setI (setI (setI (wI (setI (setI (wI m I) 48 ((L.length : Int).toNat) ((ccS tx n S) - 65)) 30 7 ((S.2 : Int) + 1)) Ix74) 47 ((L.length : Int).toNat) ((dS2 tx n S).2 : Int)) 30 26 0) 46 ((L.length : Int).toNat) ((dR tx n S).2.2.2 : Int)) 30 7 (((dR tx n S).2.2.2 : Int) + 1))) hP_ hnx.1 (RFd.set hF142 (by omega)) (by rw [show mI (setI (setI (setI (setI (wI (setI (setI (wI m I) 48 ((L.length : Int).toNat) ((ccS tx n S) - 65)) 30 7 ((S.2 : Int) + 1)) Ix74) 47 ((L.length : Int).toNat) ((dS2 tx n S).2 : Int)) 30 26 0) 46 ((L.length : Int).toNat) ((dR tx n S).2.2.2 : Int)) 30 7 (((dR tx n S).2.2.2 : Int) + 1)) 30 27 = mI (setI (setI (setI (wI (setI (setI (wI m I) 48 ((L.length : Int).toNat) ((ccS tx n S) - 65)) 30 7 ((S.2 : Int) + 1)) Ix74) 47 ((L.length : Int).toNat) ((dS2 tx n S).2 : Int)) 30 26 0) 46 ((L.length : Int).toNat) ((dR tx n S).2.2.2 : Int)) 30 27 from mI_setne (by omega)]; exact hl142) hA_ ?_ ?_ ?_
            · rw [List.length_append]; show 3 * (L.length + 1) ≤ (dR tx n S).2.2.2 + 1; omega
            · have hgr_ := (hni.1.2.1 hnx.1).2
              show n + 1 ≤ f + ((dR tx n S).2.2.2 + 1); omega
            · intro nn nx J h1 h2 h3 h4
              refine kx nn nx J (by rw [eD]; exact h1) h2 h3 (fun hw_ => ?_)
              rw [eD] at hw_ ⊢
              have h5 := h4 hw_
              rw [List.append_assoc] at h5
              exact h5
        · skip
          refine V_ld (pc := 110) dX11_define_110 (v := vr 30) rfl rfl ?_
          refine V_getRv (pc := 111) dX11_define_111 (o' := 34) fw_RX11_21 rfl hL.t30 hL.r30_5 ?_
          refine V_ld (pc := 114) dX11_define_114 (v := vr 30) rfl rfl ?_
          refine V_getIv (pc := 115) dX11_define_115 (v := ((dS2 tx n S).2 : Int)) fw_RX11_125 rfl hL.t30 hP92.2.1 (fun g115 => ?_)
          refine V_ialdv (pc := 118) dX11_define_118 (v := mI (wI (setI (setI (wI m I) 48 ((L.length : Int).toNat) ((ccS tx n S) - 65)) 30 7 ((S.2 : Int) + 1)) Ix74) 34 (((dS2 tx n S).2 : Int).toNat)) hL.t34 (by omega) rfl (fun g118 => ?_)
          refine V_bipush (pc := 119) dX11_define_119 (by unfold I32; omega) (by decide) ?_
          refine V_icmp_eq (pc := 121) dX11_define_121 (tgt := 129) rfl (fun h121 => ?_) (fun h121 => ?_)
          · skip
            have heq : ccS tx n (dS2 tx n S) = -1 := by
              rw [hcs92, if_neg (by omega)]
            have eR : dR tx n S = ([], (fun _ => true), dS2 tx n S) := if_pos heq
            have hPR : RQ (mI (setI (setI (wI (setI (setI (wI m I) 48 ((L.length : Int).toNat) ((ccS tx n S) - 65)) 30 7 ((S.2 : Int) + 1)) Ix74) 47 ((L.length : Int).toNat) ((dS2 tx n S).2 : Int)) 30 26 0)) tx n (dR tx n S).2.2 := by rw [eR]; exact hP92
            have hFR : RFd I0 (mI (setI (setI (wI (setI (setI (wI m I) 48 ((L.length : Int).toNat) ((ccS tx n S) - 65)) 30 7 ((S.2 : Int) + 1)) Ix74) 47 ((L.length : Int).toNat) ((dS2 tx n S).2 : Int)) 30 26 0)) := hF92
            have hlR : mI (setI (setI (wI (setI (setI (wI m I) 48 ((L.length : Int).toNat) ((ccS tx n S) - 65)) 30 7 ((S.2 : Int) + 1)) Ix74) 47 ((L.length : Int).toNat) ((dS2 tx n S).2 : Int)) 30 26 0) 30 27 = 0 ∨ mI (setI (setI (wI (setI (setI (wI m I) 48 ((L.length : Int).toNat) ((ccS tx n S) - 65)) 30 7 ((S.2 : Int) + 1)) Ix74) 47 ((L.length : Int).toNat) ((dS2 tx n S).2 : Int)) 30 26 0) 30 27 = 1 := hl92
            have hKR : ∀ o k, 46 ≤ o → o ≤ 48 → mI (setI (setI (wI (setI (setI (wI m I) 48 ((L.length : Int).toNat) ((ccS tx n S) - 65)) 30 7 ((S.2 : Int) + 1)) Ix74) 47 ((L.length : Int).toNat) ((dS2 tx n S).2 : Int)) 30 26 0) o k = mI (setI (setI (wI (setI (setI (wI m I) 48 ((L.length : Int).toNat) ((ccS tx n S) - 65)) 30 7 ((S.2 : Int) + 1)) Ix74) 47 ((L.length : Int).toNat) ((dS2 tx n S).2 : Int)) 30 26 0) o k := fun o k _ _ => rfl
            have hbR : (dR tx n S).2.2.2 ≤ n := hPR.2.2.2.1
            refine V_ld (pc := 129) dX11_define_129 (v := vr 30) rfl rfl ?_
            refine V_getRv (pc := 130) dX11_define_130 (o' := 46) fw_RX11_57 rfl hL.t30 hL.r30_28 ?_
            refine V_ld (pc := 133) dX11_define_133 (v := vi (L.length : Int)) rfl rfl ?_
            refine V_ld (pc := 134) dX11_define_134 (v := vr 30) rfl rfl ?_
            refine V_getIv (pc := 135) dX11_define_135 (v := ((dR tx n S).2.2.2 : Int)) fw_RX11_125 rfl hL.t30 hPR.2.1 (fun g135 => ?_)
            refine V_iast (pc := 138) dX11_define_138 hL.t46 (by omega) ?_
            refine V_iinc (pc := 139) dX11_define_139 (x := (L.length : Int)) (ls' := [(1, vi ((L.length : Int) + 1)), (2, vi 1), (0, vr 30)]) rfl (by unfold I32 at *; omega) (Nat.le_of_ble_eq_true rfl) rfl ?_
            have hP142 : RQ (mI (setI (setI (setI (wI (setI (setI (wI m I) 48 ((L.length : Int).toNat) ((ccS tx n S) - 65)) 30 7 ((S.2 : Int) + 1)) Ix74) 47 ((L.length : Int).toNat) ((dS2 tx n S).2 : Int)) 30 26 0) 46 ((L.length : Int).toNat) ((dR tx n S).2.2.2 : Int))) tx n (dR tx n S).2.2 := RQ.fr hPR (fun o k h_ => up2_nx (by omega))
            have hF142 : RFd I0 (mI (setI (setI (setI (wI (setI (setI (wI m I) 48 ((L.length : Int).toNat) ((ccS tx n S) - 65)) 30 7 ((S.2 : Int) + 1)) Ix74) 47 ((L.length : Int).toNat) ((dS2 tx n S).2 : Int)) 30 26 0) 46 ((L.length : Int).toNat) ((dR tx n S).2.2.2 : Int))) := (RFd.set hFR (by omega))
            have hl142 : mI (setI (setI (setI (wI (setI (setI (wI m I) 48 ((L.length : Int).toNat) ((ccS tx n S) - 65)) 30 7 ((S.2 : Int) + 1)) Ix74) 47 ((L.length : Int).toNat) ((dS2 tx n S).2 : Int)) 30 26 0) 46 ((L.length : Int).toNat) ((dR tx n S).2.2.2 : Int)) 30 27 = 0 ∨ mI (setI (setI (setI (wI (setI (setI (wI m I) 48 ((L.length : Int).toNat) ((ccS tx n S) - 65)) 30 7 ((S.2 : Int) + 1)) Ix74) 47 ((L.length : Int).toNat) ((dS2 tx n S).2 : Int)) 30 26 0) 46 ((L.length : Int).toNat) ((dR tx n S).2.2.2 : Int)) 30 27 = 1 := by
              rw [show mI (setI (setI (setI (wI (setI (setI (wI m I) 48 ((L.length : Int).toNat) ((ccS tx n S) - 65)) 30 7 ((S.2 : Int) + 1)) Ix74) 47 ((L.length : Int).toNat) ((dS2 tx n S).2 : Int)) 30 26 0) 46 ((L.length : Int).toNat) ((dR tx n S).2.2.2 : Int)) 30 27 = mI (setI (setI (wI (setI (setI (wI m I) 48 ((L.length : Int).toNat) ((ccS tx n S) - 65)) 30 7 ((S.2 : Int) + 1)) Ix74) 47 ((L.length : Int).toNat) ((dS2 tx n S).2 : Int)) 30 26 0) 30 27 from mI_setne (by omega)]; exact hlR
            have hA142 : (dR tx n S).2.2.1 = true → DArr (mI (setI (setI (setI (wI (setI (setI (wI m I) 48 ((L.length : Int).toNat) ((ccS tx n S) - 65)) 30 7 ((S.2 : Int) + 1)) Ix74) 47 ((L.length : Int).toNat) ((dS2 tx n S).2 : Int)) 30 26 0) 46 ((L.length : Int).toNat) ((dR tx n S).2.2.2 : Int))) (L ++ [dPt tx n S]) := by
              intro hw_
              have hd_ := hni.2 hw_
              refine DArr.app hA (fun o k h1 h2 h3 => ?_) ?_ ?_ mI_sets
              · exact (mI_setne (by omega)).trans ((hKR o k h1 h2).trans ((hK92 o k h1 h2 (Or.inl h3)).trans ((hF74 o k (by omega)).trans (hK63 o k h1 h2 h3))))
              · exact (mI_setne (by omega)).trans ((hKR 48 _ (by decide) (by decide)).trans ((hK92 48 _ (by decide) (by decide) (Or.inr rfl)).trans ((hF74 48 _ (by omega)).trans h48)))
              · exact (mI_setne (by omega)).trans ((hKR 47 _ (by decide) (by decide)).trans h47)
            have hlen142 : (dR tx n S).2.2.1 = true → 3 * L.length + 2 ≤ (dR tx n S).2.2.2 := by
              intro hw_
              have hd_ := hni.2 hw_
              omega
            refine V_ld (pc := 142) dX11_define_142 (v := vr 30) rfl rfl ?_
            refine V_bipush (pc := 143) dX11_define_143 (by unfold I32; omega) (by decide) ?_
            refine V_callV (pc := 145) dX11_define_145 (F' := 0) (As := [vi 59]) (st := []) cw_RX11_132 rfl rfl hL.t30 (by decide) (Nat.le_of_ble_eq_true rfl) (by omega) (q_isAt59 tx n ((dR tx n S).2.2) (setI (setI (setI (wI (setI (setI (wI m I) 48 ((L.length : Int).toNat) ((ccS tx n S) - 65)) 30 7 ((S.2 : Int) + 1)) Ix74) 47 ((L.length : Int).toNat) ((dS2 tx n S).2 : Int)) 30 26 0) 46 ((L.length : Int).toNat) ((dR tx n S).2.2.2 : Int)) 59   (by first | assumption | omega) hP142 rfl) ?_
            rintro _ _ ⟨x145, rfl, hx145, rfl⟩ ok145 le145
            refine V_st (pc := 148) dX11_define_148 (ls' := [(2, vi x145), (1, vi ((L.length : Int) + 1)), (0, vr 30)]) rfl (Nat.le_of_ble_eq_true rfl) rfl ?_
            refine V_ld (pc := 149) dX11_define_149 (v := vr 30) rfl rfl ?_
            refine V_dup (pc := 150) dX11_define_150 rfl ?_
            refine V_getIv (pc := 151) dX11_define_151 (v := ((dR tx n S).2.2.2 : Int)) fw_RX11_125 rfl hL.t30 hP142.2.1 (fun g151 => ?_)
            refine V_ld (pc := 154) dX11_define_154 (v := vi x145) rfl rfl ?_
            refine V_if_eq (pc := 155) dX11_define_155 (tgt := 162) rfl (fun h155 => ?_) (fun h155 => ?_)
            · skip
              refine V_iconst (pc := 162) dX11_define_162 (by unfold I32; omega) ?_
              refine V_iadd (pc := 163) dX11_define_163 (by unfold I32 at *; omega) ?_
              refine V_putI (pc := 164) dX11_define_164 fw_RX11_125 rfl hL.t30 (Or.inl rfl) (Or.inl rfl) ?_
              have hnx : ¬ dNx tx n (dR tx n S).2.2 := by
                intro c_
                rw [if_pos c_] at hx145; omega
              obtain rfl : x145 = 0 := by rw [hx145, if_neg hnx]
              refine V_goto (pc := 167) dX11_define_167 (tgt := 13) rfl ?_
              refine V_ls (ls' := [(2, vi 0), (1, vi ((L.length : Int) + 1)), (0, vr 30)]) (by intro q_ h_; simp only [List.mem_cons, List.not_mem_nil, or_false] at h_ ⊢; rcases h_ with rfl | rfl | rfl <;> simp) ?_
              refine V_ld (pc := 13) dX11_define_13 (v := vi 0) rfl rfl ?_
              refine V_if_eq (pc := 14) dX11_define_14 (tgt := 170) rfl (fun _ => ?_) (fun h_ => absurd rfl h_)
              have hP_ : RQ (mI (setI (setI (setI (setI (wI (setI (setI (wI m I) 48 ((L.length : Int).toNat) ((ccS tx n S) - 65)) 30 7 ((S.2 : Int) + 1)) Ix74) 47 ((L.length : Int).toNat) ((dS2 tx n S).2 : Int)) 30 26 0) 46 ((L.length : Int).toNat) ((dR tx n S).2.2.2 : Int)) 30 7 (((dR tx n S).2.2.2 : Int) + 0))) tx n (dR tx n S).2.2 := RQ.same hP142 (by omega)
              have hl_ : mI (setI (setI (setI (setI (wI (setI (setI (wI m I) 48 ((L.length : Int).toNat) ((ccS tx n S) - 65)) 30 7 ((S.2 : Int) + 1)) Ix74) 47 ((L.length : Int).toNat) ((dS2 tx n S).2 : Int)) 30 26 0) 46 ((L.length : Int).toNat) ((dR tx n S).2.2.2 : Int)) 30 7 (((dR tx n S).2.2.2 : Int) + 0)) 30 27 = 0 ∨ mI (setI (setI (setI (setI (wI (setI (setI (wI m I) 48 ((L.length : Int).toNat) ((ccS tx n S) - 65)) 30 7 ((S.2 : Int) + 1)) Ix74) 47 ((L.length : Int).toNat) ((dS2 tx n S).2 : Int)) 30 26 0) 46 ((L.length : Int).toNat) ((dR tx n S).2.2.2 : Int)) 30 7 (((dR tx n S).2.2.2 : Int) + 0)) 30 27 = 1 := by
                rw [show mI (setI (setI (setI (setI (wI (setI (setI (wI m I) 48 ((L.length : Int).toNat) ((ccS tx n S) - 65)) 30 7 ((S.2 : Int) + 1)) Ix74) 47 ((L.length : Int).toNat) ((dS2 tx n S).2 : Int)) 30 26 0) 46 ((L.length : Int).toNat) ((dR tx n S).2.2.2 : Int)) 30 7 (((dR tx n S).2.2.2 : Int) + 0)) 30 27 = mI (setI (setI (setI (wI (setI (setI (wI m I) 48 ((L.length : Int).toNat) ((ccS tx n S) - 65)) 30 7 ((S.2 : Int) + 1)) Ix74) 47 ((L.length : Int).toNat) ((dS2 tx n S).2 : Int)) 30 26 0) 46 ((L.length : Int).toNat) ((dR tx n S).2.2.2 : Int)) 30 27 from mI_setne (by omega)]; exact hl142
              refine V_mem (m' := wI m (mI (setI (setI (setI (setI (wI (setI (setI (wI m I) 48 ((L.length : Int).toNat) ((ccS tx n S) - 65)) 30 7 ((S.2 : Int) + 1)) Ix74) 47 ((L.length : Int).toNat) ((dS2 tx n S).2 : Int)) 30 26 0) 46 ((L.length : Int).toNat) ((dR tx n S).2.2.2 : Int)) 30 7 (((dR tx n S).2.2.2 : Int) + 0)))) rfl ?_
              by_cases hw_ : (dR tx n S).2.2.1 = true
              · have eD : defL tx n (f + 1) S = ([dPt tx n S], (dR tx n S).2.2) := (if_pos hw_).trans (if_neg hnx)
                have hln_ := hlen142 hw_
                have hA_ := hA142 hw_
                refine kx _ _ _ (by rw [eD]; exact hP_) (RFd.set hF142 (by omega)) hl_ (fun _ => ?_)
                rw [eD]
                exact ⟨by rw [List.length_append]; rfl, hA_, by rw [List.length_append]; show L.length + 1 ≤ 120; omega⟩
              · have eD : defL tx n (f + 1) S = ([], (dR tx n S).2.2) := if_neg hw_
                refine kx _ _ _ (by rw [eD]; exact hP_) (RFd.set hF142 (by omega)) hl_ (fun h_ => ?_)
                rw [eD] at h_
                exact absurd h_ hw_
            · skip
              refine V_iconst (pc := 158) dX11_define_158 (by unfold I32; omega) ?_
              refine V_goto (pc := 159) dX11_define_159 (tgt := 163) rfl ?_
              refine V_iadd (pc := 163) dX11_define_163 (by unfold I32 at *; omega) ?_
              refine V_putI (pc := 164) dX11_define_164 fw_RX11_125 rfl hL.t30 (Or.inl rfl) (Or.inl rfl) ?_
              have hnx : dNx tx n (dR tx n S).2.2 := by
                by_cases c_ : dNx tx n (dR tx n S).2.2
                · exact c_
                · rw [if_neg c_] at hx145; omega
              obtain rfl : x145 = 1 := by rw [hx145, if_pos hnx]
              refine V_goto (pc := 167) dX11_define_167 (tgt := 13) rfl ?_
              refine V_ls (ls' := [(2, vi 1), (1, vi ((L.length : Int) + 1)), (0, vr 30)]) (by intro q_ h_; simp only [List.mem_cons, List.not_mem_nil, or_false] at h_ ⊢; rcases h_ with rfl | rfl | rfl <;> simp) ?_
              have eD : defL tx n (f + 1) S = (dPt tx n S :: (defL tx n f (cAdv (dR tx n S).2.2)).1, (defL tx n f (cAdv (dR tx n S).2.2)).2) := (if_pos hnx.1).trans (if_pos hnx)
              have hA_ := hA142 hnx.1
              have hln_ := hlen142 hnx.1
              have hP_ : RQ (mI (setI (setI (setI (setI (wI (setI (setI (wI m I) 48 ((L.length : Int).toNat) ((ccS tx n S) - 65)) 30 7 ((S.2 : Int) + 1)) Ix74) 47 ((L.length : Int).toNat) ((dS2 tx n S).2 : Int)) 30 26 0) 46 ((L.length : Int).toNat) ((dR tx n S).2.2.2 : Int)) 30 7 (((dR tx n S).2.2.2 : Int) + 1))) tx n (cAdv (dR tx n S).2.2) := RQ.adv hP142 (congrArg (fun z => z + 1) hP142.2.1.symm) (Int.lt_of_le_of_lt (Int.le_of_eq hP142.2.1) (Int.lt_of_lt_of_le (Int.ofNat_lt.mpr hnx.2.1) (Int.le_of_eq hP142.1.symm)))
              have hll_ : ((L.length : Int) + 1) = ((L ++ [dPt tx n S]).length : Int) := by rw [List.length_append]; rfl
              rw [hll_]
              refine ih (cAdv (dR tx n S).2.2) (L ++ [dPt tx n S]) (mI (setI (setI (setI (setI (wI (setI (setI (wI m I) 48 ((L.length : Int).toNat) ((ccS tx n S) - 65)) 30 7 ((S.2 : Int) + 1)) Ix74) 47 ((L.length : Int).toNat) ((dS2 tx n S).2 : Int)) 30 26 0) 46 ((L.length : Int).toNat) ((dR tx n S).2.2.2 : Int)) 30 7 (((dR tx n S).2.2.2 : Int) + 1))) hP_ hnx.1 (RFd.set hF142 (by omega)) (by rw [show mI (setI (setI (setI (setI (wI (setI (setI (wI m I) 48 ((L.length : Int).toNat) ((ccS tx n S) - 65)) 30 7 ((S.2 : Int) + 1)) Ix74) 47 ((L.length : Int).toNat) ((dS2 tx n S).2 : Int)) 30 26 0) 46 ((L.length : Int).toNat) ((dR tx n S).2.2.2 : Int)) 30 7 (((dR tx n S).2.2.2 : Int) + 1)) 30 27 = mI (setI (setI (setI (wI (setI (setI (wI m I) 48 ((L.length : Int).toNat) ((ccS tx n S) - 65)) 30 7 ((S.2 : Int) + 1)) Ix74) 47 ((L.length : Int).toNat) ((dS2 tx n S).2 : Int)) 30 26 0) 46 ((L.length : Int).toNat) ((dR tx n S).2.2.2 : Int)) 30 27 from mI_setne (by omega)]; exact hl142) hA_ ?_ ?_ ?_
              · rw [List.length_append]; show 3 * (L.length + 1) ≤ (dR tx n S).2.2.2 + 1; omega
              · have hgr_ := (hni.1.2.1 hnx.1).2
                show n + 1 ≤ f + ((dR tx n S).2.2.2 + 1); omega
              · intro nn nx J h1 h2 h3 h4
                refine kx nn nx J (by rw [eD]; exact h1) h2 h3 (fun hw_ => ?_)
                rw [eD] at hw_ ⊢
                have h5 := h4 hw_
                rw [List.append_assoc] at h5
                exact h5
          · skip
            have hne : ccS tx n (dS2 tx n S) ≠ -1 := by
              rw [hcs92, if_pos (by omega)]
              omega
            have eR : dR tx n S = eitL tx n 4 (dS2 tx n S) := if_neg hne
            refine V_ld (pc := 124) dX11_define_124 (v := vr 30) rfl rfl ?_
            refine V_callV (pc := 125) dX11_define_125 (F' := (7 + 3 * 4)) (As := []) (st := []) cw_RX11_252 rfl rfl hL.t30 (by decide) (Nat.le_of_ble_eq_true rfl) (by omega) ((QEit_all tx n 4) (dS2 tx n S) (setI (setI (wI (setI (setI (wI m I) 48 ((L.length : Int).toNat) ((ccS tx n S) - 65)) 30 7 ((S.2 : Int) + 1)) Ix74) 47 ((L.length : Int).toNat) ((dS2 tx n S).2 : Int)) 30 26 0)    (by first | assumption | omega) hP92 hE92 (by rw [h26]; decide)) ?_
            rintro _ _ ⟨x125, rfl, Ix125, rfl, hx125, ⟨hP125, hF125, hl125, hi125, hb125, hv125⟩⟩ ok125 le125
            have hB125 := hP125.2.2.2.1
            refine V_pop (pc := 128) dX11_define_128 rfl ?_
            have hPR : RQ (mI (wI (setI (setI (wI (setI (setI (wI m I) 48 ((L.length : Int).toNat) ((ccS tx n S) - 65)) 30 7 ((S.2 : Int) + 1)) Ix74) 47 ((L.length : Int).toNat) ((dS2 tx n S).2 : Int)) 30 26 0) Ix125)) tx n (dR tx n S).2.2 := by rw [eR]; exact hP125
            have hFR : RFd I0 (mI (wI (setI (setI (wI (setI (setI (wI m I) 48 ((L.length : Int).toNat) ((ccS tx n S) - 65)) 30 7 ((S.2 : Int) + 1)) Ix74) 47 ((L.length : Int).toNat) ((dS2 tx n S).2 : Int)) 30 26 0) Ix125)) := (RFd.tr hF92 (QFr.d hF125))
            have hlR : mI (wI (setI (setI (wI (setI (setI (wI m I) 48 ((L.length : Int).toNat) ((ccS tx n S) - 65)) 30 7 ((S.2 : Int) + 1)) Ix74) 47 ((L.length : Int).toNat) ((dS2 tx n S).2 : Int)) 30 26 0) Ix125) 30 27 = 0 ∨ mI (wI (setI (setI (wI (setI (setI (wI m I) 48 ((L.length : Int).toNat) ((ccS tx n S) - 65)) 30 7 ((S.2 : Int) + 1)) Ix74) 47 ((L.length : Int).toNat) ((dS2 tx n S).2 : Int)) 30 26 0) Ix125) 30 27 = 1 := hl125
            have hKR : ∀ o k, 46 ≤ o → o ≤ 48 → mI (wI (setI (setI (wI (setI (setI (wI m I) 48 ((L.length : Int).toNat) ((ccS tx n S) - 65)) 30 7 ((S.2 : Int) + 1)) Ix74) 47 ((L.length : Int).toNat) ((dS2 tx n S).2 : Int)) 30 26 0) Ix125) o k = mI (setI (setI (wI (setI (setI (wI m I) 48 ((L.length : Int).toNat) ((ccS tx n S) - 65)) 30 7 ((S.2 : Int) + 1)) Ix74) 47 ((L.length : Int).toNat) ((dS2 tx n S).2 : Int)) 30 26 0) o k := fun o k _ _ => hF125 o k (by omega)
            have hbR : (dR tx n S).2.2.2 ≤ n := hPR.2.2.2.1
            refine V_ld (pc := 129) dX11_define_129 (v := vr 30) rfl rfl ?_
            refine V_getRv (pc := 130) dX11_define_130 (o' := 46) fw_RX11_57 rfl hL.t30 hL.r30_28 ?_
            refine V_ld (pc := 133) dX11_define_133 (v := vi (L.length : Int)) rfl rfl ?_
            refine V_ld (pc := 134) dX11_define_134 (v := vr 30) rfl rfl ?_
            refine V_getIv (pc := 135) dX11_define_135 (v := ((dR tx n S).2.2.2 : Int)) fw_RX11_125 rfl hL.t30 hPR.2.1 (fun g135 => ?_)
            refine V_iast (pc := 138) dX11_define_138 hL.t46 (by omega) ?_
            refine V_iinc (pc := 139) dX11_define_139 (x := (L.length : Int)) (ls' := [(1, vi ((L.length : Int) + 1)), (2, vi 1), (0, vr 30)]) rfl (by unfold I32 at *; omega) (Nat.le_of_ble_eq_true rfl) rfl ?_
            have hP142 : RQ (mI (setI (wI (setI (setI (wI (setI (setI (wI m I) 48 ((L.length : Int).toNat) ((ccS tx n S) - 65)) 30 7 ((S.2 : Int) + 1)) Ix74) 47 ((L.length : Int).toNat) ((dS2 tx n S).2 : Int)) 30 26 0) Ix125) 46 ((L.length : Int).toNat) ((dR tx n S).2.2.2 : Int))) tx n (dR tx n S).2.2 := RQ.fr hPR (fun o k h_ => up2_nx (by omega))
            have hF142 : RFd I0 (mI (setI (wI (setI (setI (wI (setI (setI (wI m I) 48 ((L.length : Int).toNat) ((ccS tx n S) - 65)) 30 7 ((S.2 : Int) + 1)) Ix74) 47 ((L.length : Int).toNat) ((dS2 tx n S).2 : Int)) 30 26 0) Ix125) 46 ((L.length : Int).toNat) ((dR tx n S).2.2.2 : Int))) := (RFd.set hFR (by omega))
            have hl142 : mI (setI (wI (setI (setI (wI (setI (setI (wI m I) 48 ((L.length : Int).toNat) ((ccS tx n S) - 65)) 30 7 ((S.2 : Int) + 1)) Ix74) 47 ((L.length : Int).toNat) ((dS2 tx n S).2 : Int)) 30 26 0) Ix125) 46 ((L.length : Int).toNat) ((dR tx n S).2.2.2 : Int)) 30 27 = 0 ∨ mI (setI (wI (setI (setI (wI (setI (setI (wI m I) 48 ((L.length : Int).toNat) ((ccS tx n S) - 65)) 30 7 ((S.2 : Int) + 1)) Ix74) 47 ((L.length : Int).toNat) ((dS2 tx n S).2 : Int)) 30 26 0) Ix125) 46 ((L.length : Int).toNat) ((dR tx n S).2.2.2 : Int)) 30 27 = 1 := by
              rw [show mI (setI (wI (setI (setI (wI (setI (setI (wI m I) 48 ((L.length : Int).toNat) ((ccS tx n S) - 65)) 30 7 ((S.2 : Int) + 1)) Ix74) 47 ((L.length : Int).toNat) ((dS2 tx n S).2 : Int)) 30 26 0) Ix125) 46 ((L.length : Int).toNat) ((dR tx n S).2.2.2 : Int)) 30 27 = mI (wI (setI (setI (wI (setI (setI (wI m I) 48 ((L.length : Int).toNat) ((ccS tx n S) - 65)) 30 7 ((S.2 : Int) + 1)) Ix74) 47 ((L.length : Int).toNat) ((dS2 tx n S).2 : Int)) 30 26 0) Ix125) 30 27 from mI_setne (by omega)]; exact hlR
            have hA142 : (dR tx n S).2.2.1 = true → DArr (mI (setI (wI (setI (setI (wI (setI (setI (wI m I) 48 ((L.length : Int).toNat) ((ccS tx n S) - 65)) 30 7 ((S.2 : Int) + 1)) Ix74) 47 ((L.length : Int).toNat) ((dS2 tx n S).2 : Int)) 30 26 0) Ix125) 46 ((L.length : Int).toNat) ((dR tx n S).2.2.2 : Int))) (L ++ [dPt tx n S]) := by
              intro hw_
              have hd_ := hni.2 hw_
              refine DArr.app hA (fun o k h1 h2 h3 => ?_) ?_ ?_ mI_sets
              · exact (mI_setne (by omega)).trans ((hKR o k h1 h2).trans ((hK92 o k h1 h2 (Or.inl h3)).trans ((hF74 o k (by omega)).trans (hK63 o k h1 h2 h3))))
              · exact (mI_setne (by omega)).trans ((hKR 48 _ (by decide) (by decide)).trans ((hK92 48 _ (by decide) (by decide) (Or.inr rfl)).trans ((hF74 48 _ (by omega)).trans h48)))
              · exact (mI_setne (by omega)).trans ((hKR 47 _ (by decide) (by decide)).trans h47)
            have hlen142 : (dR tx n S).2.2.1 = true → 3 * L.length + 2 ≤ (dR tx n S).2.2.2 := by
              intro hw_
              have hd_ := hni.2 hw_
              omega
            refine V_ld (pc := 142) dX11_define_142 (v := vr 30) rfl rfl ?_
            refine V_bipush (pc := 143) dX11_define_143 (by unfold I32; omega) (by decide) ?_
            refine V_callV (pc := 145) dX11_define_145 (F' := 0) (As := [vi 59]) (st := []) cw_RX11_132 rfl rfl hL.t30 (by decide) (Nat.le_of_ble_eq_true rfl) (by omega) (q_isAt59 tx n ((dR tx n S).2.2) (setI (wI (setI (setI (wI (setI (setI (wI m I) 48 ((L.length : Int).toNat) ((ccS tx n S) - 65)) 30 7 ((S.2 : Int) + 1)) Ix74) 47 ((L.length : Int).toNat) ((dS2 tx n S).2 : Int)) 30 26 0) Ix125) 46 ((L.length : Int).toNat) ((dR tx n S).2.2.2 : Int)) 59   (by first | assumption | omega) hP142 rfl) ?_
            rintro _ _ ⟨x145, rfl, hx145, rfl⟩ ok145 le145
            refine V_st (pc := 148) dX11_define_148 (ls' := [(2, vi x145), (1, vi ((L.length : Int) + 1)), (0, vr 30)]) rfl (Nat.le_of_ble_eq_true rfl) rfl ?_
            refine V_ld (pc := 149) dX11_define_149 (v := vr 30) rfl rfl ?_
            refine V_dup (pc := 150) dX11_define_150 rfl ?_
            refine V_getIv (pc := 151) dX11_define_151 (v := ((dR tx n S).2.2.2 : Int)) fw_RX11_125 rfl hL.t30 hP142.2.1 (fun g151 => ?_)
            refine V_ld (pc := 154) dX11_define_154 (v := vi x145) rfl rfl ?_
            refine V_if_eq (pc := 155) dX11_define_155 (tgt := 162) rfl (fun h155 => ?_) (fun h155 => ?_)
            · skip
              refine V_iconst (pc := 162) dX11_define_162 (by unfold I32; omega) ?_
              refine V_iadd (pc := 163) dX11_define_163 (by unfold I32 at *; omega) ?_
              refine V_putI (pc := 164) dX11_define_164 fw_RX11_125 rfl hL.t30 (Or.inl rfl) (Or.inl rfl) ?_
              have hnx : ¬ dNx tx n (dR tx n S).2.2 := by
                intro c_
                rw [if_pos c_] at hx145; omega
              obtain rfl : x145 = 0 := by rw [hx145, if_neg hnx]
              refine V_goto (pc := 167) dX11_define_167 (tgt := 13) rfl ?_
              refine V_ls (ls' := [(2, vi 0), (1, vi ((L.length : Int) + 1)), (0, vr 30)]) (by intro q_ h_; simp only [List.mem_cons, List.not_mem_nil, or_false] at h_ ⊢; rcases h_ with rfl | rfl | rfl <;> simp) ?_
              refine V_ld (pc := 13) dX11_define_13 (v := vi 0) rfl rfl ?_
              refine V_if_eq (pc := 14) dX11_define_14 (tgt := 170) rfl (fun _ => ?_) (fun h_ => absurd rfl h_)
              have hP_ : RQ (mI (setI (setI (wI (setI (setI (wI (setI (setI (wI m I) 48 ((L.length : Int).toNat) ((ccS tx n S) - 65)) 30 7 ((S.2 : Int) + 1)) Ix74) 47 ((L.length : Int).toNat) ((dS2 tx n S).2 : Int)) 30 26 0) Ix125) 46 ((L.length : Int).toNat) ((dR tx n S).2.2.2 : Int)) 30 7 (((dR tx n S).2.2.2 : Int) + 0))) tx n (dR tx n S).2.2 := RQ.same hP142 (by omega)
              have hl_ : mI (setI (setI (wI (setI (setI (wI (setI (setI (wI m I) 48 ((L.length : Int).toNat) ((ccS tx n S) - 65)) 30 7 ((S.2 : Int) + 1)) Ix74) 47 ((L.length : Int).toNat) ((dS2 tx n S).2 : Int)) 30 26 0) Ix125) 46 ((L.length : Int).toNat) ((dR tx n S).2.2.2 : Int)) 30 7 (((dR tx n S).2.2.2 : Int) + 0)) 30 27 = 0 ∨ mI (setI (setI (wI (setI (setI (wI (setI (setI (wI m I) 48 ((L.length : Int).toNat) ((ccS tx n S) - 65)) 30 7 ((S.2 : Int) + 1)) Ix74) 47 ((L.length : Int).toNat) ((dS2 tx n S).2 : Int)) 30 26 0) Ix125) 46 ((L.length : Int).toNat) ((dR tx n S).2.2.2 : Int)) 30 7 (((dR tx n S).2.2.2 : Int) + 0)) 30 27 = 1 := by
                rw [show mI (setI (setI (wI (setI (setI (wI (setI (setI (wI m I) 48 ((L.length : Int).toNat) ((ccS tx n S) - 65)) 30 7 ((S.2 : Int) + 1)) Ix74) 47 ((L.length : Int).toNat) ((dS2 tx n S).2 : Int)) 30 26 0) Ix125) 46 ((L.length : Int).toNat) ((dR tx n S).2.2.2 : Int)) 30 7 (((dR tx n S).2.2.2 : Int) + 0)) 30 27 = mI (setI (wI (setI (setI (wI (setI (setI (wI m I) 48 ((L.length : Int).toNat) ((ccS tx n S) - 65)) 30 7 ((S.2 : Int) + 1)) Ix74) 47 ((L.length : Int).toNat) ((dS2 tx n S).2 : Int)) 30 26 0) Ix125) 46 ((L.length : Int).toNat) ((dR tx n S).2.2.2 : Int)) 30 27 from mI_setne (by omega)]; exact hl142
              refine V_mem (m' := wI m (mI (setI (setI (wI (setI (setI (wI (setI (setI (wI m I) 48 ((L.length : Int).toNat) ((ccS tx n S) - 65)) 30 7 ((S.2 : Int) + 1)) Ix74) 47 ((L.length : Int).toNat) ((dS2 tx n S).2 : Int)) 30 26 0) Ix125) 46 ((L.length : Int).toNat) ((dR tx n S).2.2.2 : Int)) 30 7 (((dR tx n S).2.2.2 : Int) + 0)))) rfl ?_
              by_cases hw_ : (dR tx n S).2.2.1 = true
              · have eD : defL tx n (f + 1) S = ([dPt tx n S], (dR tx n S).2.2) := (if_pos hw_).trans (if_neg hnx)
                have hln_ := hlen142 hw_
                have hA_ := hA142 hw_
                refine kx _ _ _ (by rw [eD]; exact hP_) (RFd.set hF142 (by omega)) hl_ (fun _ => ?_)
                rw [eD]
                exact ⟨by rw [List.length_append]; rfl, hA_, by rw [List.length_append]; show L.length + 1 ≤ 120; omega⟩
              · have eD : defL tx n (f + 1) S = ([], (dR tx n S).2.2) := if_neg hw_
                refine kx _ _ _ (by rw [eD]; exact hP_) (RFd.set hF142 (by omega)) hl_ (fun h_ => ?_)
                rw [eD] at h_
                exact absurd h_ hw_
            · skip
              refine V_iconst (pc := 158) dX11_define_158 (by unfold I32; omega) ?_
              refine V_goto (pc := 159) dX11_define_159 (tgt := 163) rfl ?_
              refine V_iadd (pc := 163) dX11_define_163 (by unfold I32 at *; omega) ?_
              refine V_putI (pc := 164) dX11_define_164 fw_RX11_125 rfl hL.t30 (Or.inl rfl) (Or.inl rfl) ?_
              have hnx : dNx tx n (dR tx n S).2.2 := by
                by_cases c_ : dNx tx n (dR tx n S).2.2
                · exact c_
                · rw [if_neg c_] at hx145; omega
              obtain rfl : x145 = 1 := by rw [hx145, if_pos hnx]
              refine V_goto (pc := 167) dX11_define_167 (tgt := 13) rfl ?_
              refine V_ls (ls' := [(2, vi 1), (1, vi ((L.length : Int) + 1)), (0, vr 30)]) (by intro q_ h_; simp only [List.mem_cons, List.not_mem_nil, or_false] at h_ ⊢; rcases h_ with rfl | rfl | rfl <;> simp) ?_
              have eD : defL tx n (f + 1) S = (dPt tx n S :: (defL tx n f (cAdv (dR tx n S).2.2)).1, (defL tx n f (cAdv (dR tx n S).2.2)).2) := (if_pos hnx.1).trans (if_pos hnx)
              have hA_ := hA142 hnx.1
              have hln_ := hlen142 hnx.1
              have hP_ : RQ (mI (setI (setI (wI (setI (setI (wI (setI (setI (wI m I) 48 ((L.length : Int).toNat) ((ccS tx n S) - 65)) 30 7 ((S.2 : Int) + 1)) Ix74) 47 ((L.length : Int).toNat) ((dS2 tx n S).2 : Int)) 30 26 0) Ix125) 46 ((L.length : Int).toNat) ((dR tx n S).2.2.2 : Int)) 30 7 (((dR tx n S).2.2.2 : Int) + 1))) tx n (cAdv (dR tx n S).2.2) := RQ.adv hP142 (congrArg (fun z => z + 1) hP142.2.1.symm) (Int.lt_of_le_of_lt (Int.le_of_eq hP142.2.1) (Int.lt_of_lt_of_le (Int.ofNat_lt.mpr hnx.2.1) (Int.le_of_eq hP142.1.symm)))
              have hll_ : ((L.length : Int) + 1) = ((L ++ [dPt tx n S]).length : Int) := by rw [List.length_append]; rfl
              rw [hll_]
              refine ih (cAdv (dR tx n S).2.2) (L ++ [dPt tx n S]) (mI (setI (setI (wI (setI (setI (wI (setI (setI (wI m I) 48 ((L.length : Int).toNat) ((ccS tx n S) - 65)) 30 7 ((S.2 : Int) + 1)) Ix74) 47 ((L.length : Int).toNat) ((dS2 tx n S).2 : Int)) 30 26 0) Ix125) 46 ((L.length : Int).toNat) ((dR tx n S).2.2.2 : Int)) 30 7 (((dR tx n S).2.2.2 : Int) + 1))) hP_ hnx.1 (RFd.set hF142 (by omega)) (by rw [show mI (setI (setI (wI (setI (setI (wI (setI (setI (wI m I) 48 ((L.length : Int).toNat) ((ccS tx n S) - 65)) 30 7 ((S.2 : Int) + 1)) Ix74) 47 ((L.length : Int).toNat) ((dS2 tx n S).2 : Int)) 30 26 0) Ix125) 46 ((L.length : Int).toNat) ((dR tx n S).2.2.2 : Int)) 30 7 (((dR tx n S).2.2.2 : Int) + 1)) 30 27 = mI (setI (wI (setI (setI (wI (setI (setI (wI m I) 48 ((L.length : Int).toNat) ((ccS tx n S) - 65)) 30 7 ((S.2 : Int) + 1)) Ix74) 47 ((L.length : Int).toNat) ((dS2 tx n S).2 : Int)) 30 26 0) Ix125) 46 ((L.length : Int).toNat) ((dR tx n S).2.2.2 : Int)) 30 27 from mI_setne (by omega)]; exact hl142) hA_ ?_ ?_ ?_
              · rw [List.length_append]; show 3 * (L.length + 1) ≤ (dR tx n S).2.2.2 + 1; omega
              · have hgr_ := (hni.1.2.1 hnx.1).2
                show n + 1 ≤ f + ((dR tx n S).2.2.2 + 1); omega
              · intro nn nx J h1 h2 h3 h4
                refine kx nn nx J (by rw [eD]; exact h1) h2 h3 (fun hw_ => ?_)
                rw [eD] at hw_ ⊢
                have h5 := h4 hw_
                rw [List.append_assoc] at h5
                exact h5
