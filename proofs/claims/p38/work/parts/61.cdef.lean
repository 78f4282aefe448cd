/-! define(): the class reads all parts -/
def StC (m : Mem) (r : Nat) (L : List DPt) : Prop := 0 ≤ mI m r 5 ∧ mI m r 5 < 67108864 ∧ ∀ w : Nat, w < 26 → match lastP L (w : Int) with
  | none => (mI m r 5).toNat.testBit w = false
  | some p => (mI m r 5).toNat.testBit w = true ∧ (p.2.2.2 = none → mR m (r + 1) w = none) ∧ ∀ cd, p.2.2.2 = some cd → ∃ c, mR m (r + 1) w = some c ∧ HasG m (r + 3) c cd
theorem or_bit {x : Int} {w l : Nat} (hx : 0 ≤ x ∧ x < 67108864) (hl : l < 26) (hw : w < 26) : 0 ≤ or32 x (shl32 1 (l : Int)) ∧ or32 x (shl32 1 (l : Int)) < 67108864 ∧ (or32 x (shl32 1 (l : Int))).toNat.testBit w = (x.toNat.testBit w || decide (l = w)) := by
  have hp : (2 ^ l : Nat) ≤ 2 ^ 25 := Nat.pow_le_pow_right (by decide) (by omega)
  have key : ∀ P : Nat, P ≤ 2 ^ 25 → or32 x (P : Int) = ((x.toNat ||| P : Nat) : Int) := fun P hP => by
    rw [or32_nat (by omega) (by omega), Int.toNat_natCast]
  rw [shl32_one (by omega), Int.toNat_natCast, key _ hp, Int.toNat_natCast, Nat.testBit_or, Nat.testBit_two_pow]
  have hb : x.toNat ||| 2 ^ l < 2 ^ 26 := Nat.or_lt_two_pow (by omega) (Nat.lt_of_le_of_lt hp (by decide))
  generalize x.toNat ||| 2 ^ l = z at *
  exact ⟨by omega, by omega, rfl⟩
theorem StC.step {m m' : Mem} {r : Nat} {L : List DPt} {p : DPt} (h : StC m r L) (hp : 0 ≤ p.1 ∧ p.1 < 26) (hf : FrC m m' r) (hr : r + 2 < mN m) (hn : mI m' r 5 = or32 (mI m r 5) (shl32 1 p.1)) (hB : ∀ k, k ≠ p.1.toNat → mR m' (r + 1) k = mR m (r + 1) k) (h0 : p.2.2.2 = none → mR m' (r + 1) p.1.toNat = none) (h1 : ∀ cd, p.2.2.2 = some cd → ∃ c, mR m' (r + 1) p.1.toNat = some c ∧ HasG m' (r + 3) c cd) : StC m' r (L ++ [p]) := by
  obtain ⟨a1, a2, a3⟩ := h
  have el : ((p.1.toNat : Nat) : Int) = p.1 := Int.toNat_of_nonneg hp.1
  have hob := fun w (hw : w < 26) => or_bit (x := mI m r 5) (w := w) (l := p.1.toNat) ⟨a1, a2⟩ (by omega) hw
  rw [el] at hob
  rw [← hn] at hob
  refine ⟨(hob 0 (by decide)).1, (hob 0 (by decide)).2.1, fun w hw => ?_⟩
  rw [lastP_app]
  by_cases c : p.1 = (w : Int)
  · rw [if_pos c]
    have ew : p.1.toNat = w := by omega
    rw [ew] at h0 h1
    refine ⟨?_, h0, h1⟩
    rw [(hob w hw).2.2, ew]
    simp
  · rw [if_neg c]
    have ew : p.1.toNat ≠ w := by omega
    have hs := a3 w hw
    have hb : (mI m' r 5).toNat.testBit w = (mI m r 5).toNat.testBit w := by
      rw [(hob w hw).2.2, decide_eq_false ew, Bool.or_false]
    cases e : lastP L (w : Int) with
    | none =>
      rw [e] at hs
      exact hb.trans hs
    | some q =>
      rw [e] at hs
      refine ⟨hb.trans hs.1, fun z => (hB w (Ne.symm ew)).trans (hs.2.1 z), fun cd z => ?_⟩
      obtain ⟨c, c1, c2⟩ := hs.2.2 cd z
      exact ⟨c, (hB w (Ne.symm ew)).trans c1, c2.fr hf⟩
theorem StC.fr {m m' : Mem} {r : Nat} {L : List DPt} (h : StC m r L) (hf : FrC m m' r) (h5 : mI m' r 5 = mI m r 5) (hB : ∀ k, mR m' (r + 1) k = mR m (r + 1) k) : StC m' r L := by
  obtain ⟨a1, a2, a3⟩ := h
  refine ⟨by rw [h5]; exact a1, by rw [h5]; exact a2, fun w hw => ?_⟩
  have hs := a3 w hw
  cases e : lastP L (w : Int) with
  | none => rw [e] at hs; rw [h5]; exact hs
  | some q =>
    rw [e] at hs
    refine ⟨by rw [h5]; exact hs.1, fun z => (hB w).trans (hs.2.1 z), fun cd z => ?_⟩
    obtain ⟨c, c1, c2⟩ := hs.2.2 cd z
    exact ⟨c, (hB w).trans c1, c2.fr hf⟩
def CRd (m0 : Mem) (r : Nat) (n : Nat) (L : List DPt) (R : List DPt × CS) (x : Int) (m' : Mem) : Prop := FrC m0 m' r ∧ mN m' ≤ mN m0 + 82 ∧ mZ m' ≤ mZ m0 + 4961 ∧
  (((R.2.1 = true ∧ R.2.2 = n) ∧ x = ((L ++ R.1).length : Int) ∧ StC m' r (L ++ R.1)) ∨ (¬ (R.2.1 = true ∧ R.2.2 = n) ∧ x = -1 ∧ mI m' r 4 = (R.2.2 : Int)))

set_option maxHeartbeats 4000000 in
theorem d_passes59 (tx : Nat → Int) (n : Nat) (S : CS) (C : List Int) (m : Mem) (r : Nat) (g : Int)   (hL : Lay (mT m) (mR m)) (hQ : QLay m r n) (hP : DQ (mI m) r tx n S C) (hc : g = 59 ∧ (S.2 < n ∨ S.2 = n)) : Ct μX1_passes 2 [vr r, vi g] m (ri fun x_ m' => ∃ I_ : Nat → Nat → Int, wI m I_ = m' ∧ (DFr r (mI m) I_) ∧ ((dNx tx n S ∧ x_ = 1 ∧ DQ I_ r tx n (cAdv S) C) ∨ (¬ dNx tx n S ∧ x_ = 0 ∧ I_ r 4 = (S.2 : Int)))) := by
  refine Ct_of_V rfl (by decide) rfl (Nat.le_of_ble_eq_true rfl) ?_
  show V μX1_passes 2 m _ 0 [(0, vr r), (1, vi g)] [] m
  refine V_rg (k := 1) (x := g) rfl fun r_g => ?_
  obtain ⟨hr59, hq120⟩ := hQ.1
  refine V_ld (pc := 0) dX1_passes_0 (v := vr r) rfl rfl ?_
  refine V_ld (pc := 1) dX1_passes_1 (v := vi g) rfl rfl ?_
  refine V_callV (pc := 2) dX1_passes_2 (F' := 1) (As := [vi g]) (st := []) cw_RX1_56 rfl rfl hQ.2.1 (by decide) (Nat.le_of_ble_eq_true rfl) (by omega) (d_comes59 tx n S C m r g   (by first | assumption | omega) hQ (by first | assumption | omega) hc.1) ?_
  rintro _ _ ⟨x2, rfl, hx2, rfl⟩ ok2 le2
  refine V_if_ne (pc := 5) dX1_passes_5 (tgt := 13) rfl (fun h5 => ?_) (fun h5 => ?_)
  · skip
    refine V_ld (pc := 13) dX1_passes_13 (v := vr r) rfl rfl ?_
    refine V_dup (pc := 14) dX1_passes_14 rfl ?_
    refine V_getIv (pc := 15) dX1_passes_15 (v := (S.2 : Int)) fw_RX1_34 rfl hQ.2.1 hP.2.1 (fun g15 => ?_)
    refine V_iconst (pc := 18) dX1_passes_18 (by unfold I32; omega) ?_
    refine V_iadd (pc := 19) dX1_passes_19 (by unfold I32 at *; omega) ?_
    refine V_putI (pc := 20) dX1_passes_20 fw_RX1_34 rfl hQ.2.1 (Or.inl rfl) (Or.inl rfl) ?_
    refine V_iconst (pc := 23) dX1_passes_23 (by unfold I32; omega) ?_
    refine V_reti (pc := 24) dX1_passes_24 (show _ = (0 : Int) ∨ _ = (1 : Int) from by first | exact Or.inl rfl | exact Or.inr rfl | omega) ?_
    have hd_ : dNx tx n S := hx2.2.2.2.mp (by have h_ := hx2.1; omega)
    exact ⟨mI (setI m r 3 ((S.2 : Int) + 1)), rfl, (DFr.set DFr.rf (by omega)), Or.inl ⟨hd_, rfl, DQ.adv hP rfl hd_.2.1⟩⟩
  · skip
    refine V_ld (pc := 8) dX1_passes_8 (v := vr r) rfl rfl ?_
    refine V_callV (pc := 9) dX1_passes_9 (F' := 0) (As := []) (st := []) cw_RX1_45 rfl rfl hQ.2.1 (by decide) (Nat.le_of_ble_eq_true rfl) (by omega) (d_failed n m r   hQ) ?_
    rintro _ _ ⟨x9, rfl, Ix9, rfl, rfl, hI9, hF9⟩ ok9 le9
    refine V_reti (pc := 12) dX1_passes_12 (show _ = (0 : Int) ∨ _ = (1 : Int) from by first | exact Or.inl rfl | exact Or.inr rfl | omega) ?_
    refine ⟨mI (wI m Ix9), rfl, (DFr.tr DFr.rf hF9), Or.inr ⟨fun h_ => ?_, rfl, hI9.trans ((if_pos hP.2.2.1).trans hP.2.1)⟩⟩
    have h2_ := hx2.2.2.2.mpr h_
    omega

set_option maxHeartbeats 16000000 in
theorem L_cdef {F : Nat} {m0 : Mem} {tx : Nat → Int} {n r : Nat} (hr0 : r + 2 < mN m0) (hFF : 20 < F) (h59 : 59 ≤ r ∧ n ≤ 120) (hroom : mN m0 + 82 ≤ NN ∧ mZ m0 + 4961 ≤ ZZ) : ∀ (f : Nat) (S : CS) (L : List DPt) (C : List Int) (m : Mem), Lay (mT m) (mR m) → QLay m r n → DQ (mI m) r tx n S C → FrC m0 m r → StC m r L → 3 * L.length ≤ S.2 → n + 1 ≤ f + S.2 → mN m ≤ mN m0 + 2 * L.length → mZ m ≤ mZ m0 + 121 * L.length → V μX1_read F m0 (ri fun x_ m' => (True) ∧ CRd m0 r n L (defL tx n f S) x_ m') 2 [(1, vi ((L.length : Int) + 1)), (0, vr r)] [] m := by
  intro f
  induction f with
  | zero =>
    intro S L C m hL hQ hP hF hS hLn hf hN hZ
    have h_ := hP.2.2.2.2.1
    omega
  | succ f ih =>
    intro S L C m hL hQ hP hF hS hLn hf hN hZ
    have hn120 := hP.2.2.2.2.2.1
    have hb0 := hP.2.2.2.2.1
    obtain ⟨hr59, hq120⟩ := hQ.1
    have hS1 : S.1 = true := hP.2.2.2.2.2.2.2.2.1
    have hrm : r + 2 < mN m := Nat.lt_of_lt_of_le hr0 hF.1
    have eD : defL tx n (f + 1) S = (if (dR tx n S).2.2.1 = true then (if dNx tx n (dR tx n S).2.2 then (dPt tx n S :: (defL tx n f (cAdv (dR tx n S).2.2)).1, (defL tx n f (cAdv (dR tx n S).2.2)).2) else ([dPt tx n S], (dR tx n S).2.2)) else ([], (dR tx n S).2.2)) := rfl
    refine V_ld (pc := 2) dX1_read_2 (v := vi ((L.length : Int) + 1)) rfl rfl ?_
    refine V_bipush (pc := 3) dX1_read_3 (by unfold I32; omega) (by decide) ?_
    refine V_icmp_gt (pc := 5) dX1_read_5 (tgt := 99) rfl (fun h5 => ?_) (fun h5 => ?_)
    · skip
      exfalso; omega
    · skip
      refine V_ld (pc := 8) dX1_read_8 (v := vr r) rfl rfl ?_
      refine V_getRv (pc := 9) dX1_read_9 (o' := 13) fw_RX1_21 rfl hQ.2.1 hQ.2.2.1 ?_
      refine V_ld (pc := 12) dX1_read_12 (v := vr r) rfl rfl ?_
      refine V_getIv (pc := 13) dX1_read_13 (v := (S.2 : Int)) fw_RX1_34 rfl hQ.2.1 hP.2.1 (fun g13 => ?_)
      refine V_callV (pc := 16) dX1_read_16 (F' := 0) (As := [vi (S.2 : Int)]) (st := []) cw_RX1_37 rfl rfl hL.t13 (by decide) (Nat.le_of_ble_eq_true rfl) (by omega) (c_Text_at  m 13 (S.2 : Int) 14  hL.t13 hL.r13_0 hL.t14) ?_
      rintro _ _ ⟨x16, rfl, hx16, rfl⟩ ok16 le16
      obtain ⟨cr16, cr160, cr161, cr162⟩ := DQ.at hP rfl hx16
      refine V_bipush (pc := 19) dX1_read_19 (by unfold I32; omega) (by decide) ?_
      refine V_isub (pc := 21) dX1_read_21 (by unfold I32 at *; omega) ?_
      refine V_st (pc := 22) dX1_read_22 (ls' := [(2, vi (x16 - 65)), (1, vi ((L.length : Int) + 1)), (0, vr r)]) rfl (Nat.le_of_ble_eq_true rfl) rfl ?_
      refine V_ld (pc := 23) dX1_read_23 (v := vi (x16 - 65)) rfl rfl ?_
      refine V_callSN (pc := 24) dX1_read_24 (F' := 0) (As := [vi (x16 - 65)]) (st := []) cn_RX1_41 rfl rfl (Nat.le_of_ble_eq_true rfl) (by omega) (c_isLetter  m (x16 - 65)   ) ?_
      rintro _ _ ⟨x24, rfl, hx24, rfl⟩ ok24 le24
      refine V_if_ne (pc := 27) dX1_read_27 (tgt := 37) rfl (fun h27 => ?_) (fun h27 => ?_)
      · skip
        refine V_ld (pc := 37) dX1_read_37 (v := vr r) rfl rfl ?_
        refine V_dup (pc := 38) dX1_read_38 rfl ?_
        refine V_getIv (pc := 39) dX1_read_39 (v := (S.2 : Int)) fw_RX1_34 rfl hQ.2.1 hP.2.1 (fun g39 => ?_)
        refine V_iconst (pc := 42) dX1_read_42 (by unfold I32; omega) ?_
        refine V_iadd (pc := 43) dX1_read_43 (by unfold I32 at *; omega) ?_
        refine V_putI (pc := 44) dX1_read_44 fw_RX1_34 rfl hQ.2.1 (Or.inl rfl) (Or.inl rfl) ?_
        have lthA47 : S.2 < n := by first | omega | exact (cc_lt (tx := tx) (n := n) (S := S) (by omega)).2
        have hA47 : DQ (mI (setI m r 3 ((S.2 : Int) + 1))) r tx n (cAdv S) C := DQ.adv hP rfl lthA47
        have ehA47 : (cAdv S).2 = S.2 + 1 := rfl
        have hlet : 65 ≤ ccS tx n S ∧ ccS tx n S ≤ 90 := by omega
        have e47 : dS1 tx n S = cAdv S := if_pos hlet
        have hB47 : DQ (mI (setI m r 3 ((S.2 : Int) + 1))) r tx n (dS1 tx n S) C := by rw [e47]; exact hA47
        have hw_ : x16 - 65 = ccS tx n S - 65 := by omega
        rw [hw_]
        refine V_ld (pc := 47) dX1_read_47 (v := vr r) rfl rfl ?_
        refine V_bipush (pc := 48) dX1_read_48 (by unfold I32; omega) (by decide) ?_
        refine V_callV (pc := 50) dX1_read_50 (F' := 2) (As := [vi 61]) (st := []) cw_RX1_49 rfl rfl hQ.2.1 (by decide) (Nat.le_of_ble_eq_true rfl) (by omega) (d_passes tx n (dS1 tx n S) C (setI m r 3 ((S.2 : Int) + 1)) r 61   (by first | assumption | omega) hQ hB47 (by decide)) ?_
        rintro _ _ ⟨x50, rfl, Ix50, rfl, hF50, (⟨hw50, rfl, hP50⟩ | ⟨hw50, rfl, hf50⟩)⟩ ok50 le50
        · skip
          have hb50 := hP50.2.2.2.2.1
          refine V_if_eq (pc := 53) dX1_read_53 (tgt := 64) rfl (fun h_ => absurd h_ (by decide)) (fun _ => ?_)
          have hP57 : DQ (mI (wI (setI m r 3 ((S.2 : Int) + 1)) Ix50)) r tx n (dS2 tx n S) C := hP50
          have hFa47 : FrC m (wI (setI m r 3 ((S.2 : Int) + 1)) Ix50) r := (show FrC m (wI (setI m r 3 ((S.2 : Int) + 1)) Ix50) r from ⟨Nat.le_refl _, Nat.le_refl _, fun _ _ => rfl, fun _ _ _ _ => rfl, fun o k ho h1 h2 => ((DFr.tr (DFr.set (DFr.rf : DFr r (mI m) (mI m)) (by omega)) hF50) : DFr r (mI m) (mI (wI (setI m r 3 ((S.2 : Int) + 1)) Ix50))) o k (by omega) h2⟩)
          have hL57 : Lay (mT (wI (setI m r 3 ((S.2 : Int) + 1)) Ix50)) (mR (wI (setI m r 3 ((S.2 : Int) + 1)) Ix50)) := hL
          have hge : 2 ≤ (dS2 tx n S).2 := by
            have h1_ := (CNi.take (tx := tx) (n := n) (S := dS1 tx n S) (c := 61) (by decide)).2.1 hP57.2.2.2.2.2.2.2.2.1
            have h2_ : (dS1 tx n S).2 = S.2 + 1 := by rw [e47]; rfl
            have h3_ : (dS1 tx n S).2 + 1 ≤ (dS2 tx n S).2 := h1_.2
            omega
          refine V_ld (pc := 56) dX1_read_56 (v := vr r) rfl rfl ?_
          refine V_ld (pc := 57) dX1_read_57 (v := vi (ccS tx n S - 65)) rfl rfl ?_
          refine V_callV (pc := 58) dX1_read_58 (F' := 20) (As := [vi (ccS tx n S - 65)]) (st := []) cw_RX1_52 rfl rfl hQ.2.1 (by decide) (Nat.le_of_ble_eq_true rfl) (by omega) (d_conditionOf tx n (dS2 tx n S) C (wI (setI m r 3 ((S.2 : Int) + 1)) Ix50) r (ccS tx n S - 65)   (by first | assumption | omega) hQ hP57 hge (by omega) ⟨(by show r + 2 < mN m; omega), (by show mN m + 2 ≤ NN; omega), (by show mZ m + 121 ≤ ZZ; omega)⟩) ?_
          rintro _ m58 ⟨x58, rfl, hx58, ⟨hC58, hN58, hZ58, h58⟩⟩ ok58 le58
          refine V_if_ne (pc := 61) dX1_read_61 (tgt := 66) rfl (fun h61 => ?_) (fun h61 => ?_)
          · skip
            have hg58 := h58.resolve_left (fun z => by have z1 := z.1; omega)
            obtain ⟨hx1_, hwR', ⟨C58, hP58'⟩, h5_, hq_, hB_⟩ := hg58
            have hwR : (dR tx n S).2.2.1 = true := hwR'
            have hP58 : DQ (mI m58) r tx n (dR tx n S).2.2 C58 := hP58'
            have hL58 : Lay (mT m58) (mR m58) := Lay.frc hL57 hC58 (by show 59 ≤ r ∧ r < mN m; omega)
            have hQ58 : QLay m58 r n := QLay.fr (m := (wI (setI m r 3 ((S.2 : Int) + 1)) Ix50)) hQ hC58 (by show r + 2 < mN m; omega)
            have hS47 : StC (wI (setI m r 3 ((S.2 : Int) + 1)) Ix50) r L := StC.fr hS hFa47 ((DFr.tr (DFr.set (DFr.rf : DFr r (mI m) (mI m)) (by omega)) hF50) r 5 (by omega) (by omega)) (fun _ => rfl)
            have hSt58 : StC m58 r (L ++ [dPt tx n S]) := by
              refine StC.step hS47 (p := dPt tx n S) ⟨(by show 0 ≤ ccS tx n S - 65; omega), (by show ccS tx n S - 65 < 26; omega)⟩ hC58 (by show r + 2 < mN m; omega) h5_ hB_ (fun z => ?_) (fun cd z => ?_)
              · have z' : (if ccS tx n (dS2 tx n S) = -1 then none else some (dR tx n S).1) = none := z
                by_cases c_ : ccS tx n (dS2 tx n S) = -1
                · rw [if_pos c_] at hq_; exact hq_
                · rw [if_neg c_] at z'; cases z'
              · have z' : (if ccS tx n (dS2 tx n S) = -1 then none else some (dR tx n S).1) = some cd := z
                by_cases c_ : ccS tx n (dS2 tx n S) = -1
                · rw [if_pos c_] at z'; cases z'
                · rw [if_neg c_] at z' hq_
                  cases Option.some.inj z'
                  exact hq_
            have hgr := ((dR_ni tx n S).1.2.1 hwR).2
            have hb58 := hP58.2.2.2.2.1
            refine V_ld (pc := 66) dX1_read_66 (v := vr r) rfl rfl ?_
            refine V_getIv (pc := 67) dX1_read_67 (v := ((dR tx n S).2.2.2 : Int)) fw_RX1_34 rfl hQ58.2.1 hP58.2.1 (fun g67 => ?_)
            refine V_ld (pc := 70) dX1_read_70 (v := vr r) rfl rfl ?_
            refine V_getRv (pc := 71) dX1_read_71 (o' := 13) fw_RX1_21 rfl hQ58.2.1 hQ58.2.2.1 ?_
            refine V_getIv (pc := 74) dX1_read_74 (v := (n : Int)) fw_RX1_25 rfl hL58.t13 hP58.1 (fun g74 => ?_)
            refine V_icmp_lt (pc := 77) dX1_read_77 (tgt := 82) rfl (fun h77 => ?_) (fun h77 => ?_)
            · skip
              refine V_ld (pc := 82) dX1_read_82 (v := vr r) rfl rfl ?_
              refine V_bipush (pc := 83) dX1_read_83 (by unfold I32; omega) (by decide) ?_
              refine V_callV (pc := 85) dX1_read_85 (F' := 2) (As := [vi 59]) (st := []) cw_RX1_49 rfl rfl hQ58.2.1 (by decide) (Nat.le_of_ble_eq_true rfl) (by omega) (d_passes59 tx n ((dR tx n S).2.2) C58 m58 r 59   hL58 hQ58 hP58 ⟨rfl, by omega⟩) ?_
              rintro _ _ ⟨x85, rfl, Ix85, rfl, hF85, (⟨hd85, rfl, hP85⟩ | ⟨hd85, rfl, hf85⟩)⟩ ok85 le85
              · skip
                refine V_if_ne (pc := 88) dX1_read_88 (tgt := 93) rfl (fun _ => ?_) (fun h_ => absurd h_ (by decide))
                refine V_iinc (pc := 93) dX1_read_93 (x := ((L.length : Int) + 1)) (ls' := [(1, vi (((L.length : Int) + 1) + 1)), (2, vi (ccS tx n S - 65)), (0, vr r)]) rfl (by unfold I32 at *; omega) (Nat.le_of_ble_eq_true rfl) rfl ?_
                refine V_goto (pc := 96) dX1_read_96 (tgt := 2) rfl ?_
                have hx_ : ((L.length : Int) + 1) + 1 = (((L ++ [dPt tx n S]).length : Nat) : Int) + 1 := by rw [List.length_append]; rfl
                rw [hx_]
                refine V_ls (ls' := [(1, vi ((((L ++ [dPt tx n S]).length : Nat) : Int) + 1)), (0, vr r)]) (by intro q_ h_; simp only [List.mem_cons, List.not_mem_nil, or_false] at h_ ⊢; rcases h_ with rfl | rfl <;> simp) ?_
                have ef_ : defL tx n (f + 1) S = (dPt tx n S :: (defL tx n f (cAdv (dR tx n S).2.2)).1, (defL tx n f (cAdv (dR tx n S).2.2)).2) := by rw [eD, if_pos hwR, if_pos hd85]
                have hFr85 : FrC m58 (wI m58 Ix85) r := ⟨Nat.le_refl _, Nat.le_refl _, fun _ _ => rfl, fun _ _ _ _ => rfl, fun o k ho h1 h2 => hF85 o k (by omega) h2⟩
                have hpost_ : (ri fun x_ m' => (True) ∧ CRd m0 r n L (defL tx n (f + 1) S) x_ m') = (ri fun x_ m' => (True) ∧ CRd m0 r n (L ++ [dPt tx n S]) (defL tx n f (cAdv (dR tx n S).2.2)) x_ m') := by
                  unfold CRd
                  rw [ef_]
                  simp only [List.append_assoc, List.cons_append, List.nil_append]
                rw [hpost_]
                refine ih (cAdv (dR tx n S).2.2) (L ++ [dPt tx n S]) C58 _ hL58 hQ58 hP85 (FrC.tr hF (FrC.tr (FrC.tr hFa47 hC58) hFr85)) (StC.fr hSt58 hFr85 (hF85 r 5 (by omega) (by omega)) (fun _ => rfl)) ?_ ?_ ?_ ?_
                · rw [List.length_append]; show 3 * (L.length + 1) ≤ (dR tx n S).2.2.2 + 1; omega
                · show n + 1 ≤ f + ((dR tx n S).2.2.2 + 1); omega
                · rw [List.length_append]; have h2_ : mN m58 ≤ mN m + 2 := hN58; show mN m58 ≤ mN m0 + 2 * (L.length + 1); omega
                · rw [List.length_append]; have h2_ : mZ m58 ≤ mZ m + 121 := hZ58; show mZ m58 ≤ mZ m0 + 121 * (L.length + 1); omega
              · skip
                refine V_if_ne (pc := 88) dX1_read_88 (tgt := 93) rfl (fun h_ => absurd h_ (by decide)) (fun _ => ?_)
                refine V_iconst (pc := 91) dX1_read_91 (by unfold I32; omega) ?_
                refine V_reti (pc := 92) dX1_read_92 trivial ?_
                have ef_ : defL tx n (f + 1) S = ([dPt tx n S], (dR tx n S).2.2) := by rw [eD, if_pos hwR, if_neg hd85]
                have hFd_ : DFr r (mI m58) (mI (wI m58 Ix85)) := hF85
                refine ⟨trivial, FrC.tr hF (FrC.tr (FrC.tr hFa47 hC58) (show FrC m58 (wI m58 Ix85) r from ⟨Nat.le_refl _, Nat.le_refl _, fun _ _ => rfl, fun _ _ _ _ => rfl, fun o k ho h1 h2 => hFd_ o k (by omega) h2⟩)), by have h2_ : mN m58 ≤ mN m + 2 := hN58; show mN m58 ≤ _; omega, by have h2_ : mZ m58 ≤ mZ m + 121 := hZ58; show mZ m58 ≤ _; omega, Or.inr ⟨?_, rfl, ?_⟩⟩
                · rw [ef_]; rintro ⟨-, h_⟩; have h2_ : (dR tx n S).2.2.2 = n := h_; omega
                · rw [ef_]; exact hf85
            · skip
              refine V_ld (pc := 80) dX1_read_80 (v := vi ((L.length : Int) + 1)) rfl rfl ?_
              refine V_reti (pc := 81) dX1_read_81 trivial ?_
              have hat_ : (dR tx n S).2.2.2 = n := by omega
              have hnx_ : ¬ dNx tx n (dR tx n S).2.2 := fun h_ => by have h2_ := h_.2.1; omega
              have ef_ : defL tx n (f + 1) S = ([dPt tx n S], (dR tx n S).2.2) := by rw [eD, if_pos hwR, if_neg hnx_]
              refine ⟨trivial, FrC.tr hF (FrC.tr hFa47 hC58), by have h2_ : mN m58 ≤ mN m + 2 := hN58; omega, by have h2_ : mZ m58 ≤ mZ m + 121 := hZ58; omega, Or.inl ⟨?_, ?_, ?_⟩⟩
              · rw [ef_]; exact ⟨hwR, hat_⟩
              · rw [ef_, List.length_append]; rfl
              · rw [ef_]; exact hSt58
          · skip
            have hb58 := h58.resolve_right (fun z => by have z1 := z.1; omega)
            obtain ⟨hx0_, hz58, hf58⟩ := hb58
            refine V_iconst (pc := 64) dX1_read_64 (by unfold I32; omega) ?_
            refine V_reti (pc := 65) dX1_read_65 trivial ?_
            have ed_ : (dR tx n S).2.2.1 = false := by rw [dR_cof]; exact hz58
            have ef_ : defL tx n (f + 1) S = ([], (dR tx n S).2.2) := by rw [eD, if_neg (by rw [ed_]; exact Bool.false_ne_true)]
            refine ⟨trivial, FrC.tr hF (FrC.tr hFa47 hC58), ?_, ?_, Or.inr ⟨?_, rfl, ?_⟩⟩
            · have h_ := hN58; show mN m58 ≤ _; have h2_ : mN m58 ≤ mN m + 2 := h_; omega
            · have h2_ : mZ m58 ≤ mZ m + 121 := hZ58; omega
            · rw [ef_]; rintro ⟨h_, -⟩; rw [ed_] at h_; cases h_
            · rw [ef_]; rw [dR_cof]; exact hf58
        · skip
          refine V_if_eq (pc := 53) dX1_read_53 (tgt := 64) rfl (fun _ => ?_) (fun h_ => absurd h_ (by decide))
          have hw50' : (dS2 tx n S).1 = false := hw50
          have hf50' := hf50
          refine V_iconst (pc := 64) dX1_read_64 (by unfold I32; omega) ?_
          refine V_reti (pc := 65) dX1_read_65 trivial ?_
          have e2_ : (dS2 tx n S).1 = false := hw50'
          have e3_ : dR tx n S = ([], (fun _ => true), dS2 tx n S) := if_pos (cc_dead e2_)
          have ed_ : (dR tx n S).2.2.1 = false := by rw [e3_]; exact e2_
          have eb_ : (dR tx n S).2.2.2 = (dS2 tx n S).2 := by rw [e3_]
          have hFd_ : DFr r (mI m) (mI (wI (setI m r 3 ((S.2 : Int) + 1)) Ix50)) := (DFr.tr (DFr.set (DFr.rf : DFr r (mI m) (mI m)) (by omega)) hF50)
          have ef_ : defL tx n (f + 1) S = ([], (dR tx n S).2.2) := by rw [eD, if_neg (by rw [ed_]; exact Bool.false_ne_true)]
          refine ⟨trivial, FrC.tr hF (show FrC m (wI (setI m r 3 ((S.2 : Int) + 1)) Ix50) r from ⟨Nat.le_refl _, Nat.le_refl _, fun _ _ => rfl, fun _ _ _ _ => rfl, fun o k ho h1 h2 => hFd_ o k (by omega) h2⟩), ?_, ?_, Or.inr ⟨?_, rfl, ?_⟩⟩
          · show mN m ≤ _; omega
          · show mZ m ≤ _; omega
          · rw [ef_]; rintro ⟨h_, -⟩; rw [ed_] at h_; cases h_
          · rw [ef_]; rw [eb_]; exact hf50'
      · skip
        refine V_ld (pc := 30) dX1_read_30 (v := vr r) rfl rfl ?_
        refine V_callV (pc := 31) dX1_read_31 (F' := 0) (As := []) (st := []) cw_RX1_45 rfl rfl hQ.2.1 (by decide) (Nat.le_of_ble_eq_true rfl) (by omega) (d_failed n m r   hQ) ?_
        rintro _ _ ⟨x31, rfl, Ix31, rfl, rfl, hI31, hF31⟩ ok31 le31
        refine V_pop (pc := 34) dX1_read_34 rfl ?_
        refine V_iconst (pc := 35) dX1_read_35 (by unfold I32; omega) ?_
        refine V_reti (pc := 36) dX1_read_36 trivial ?_
        have hnl : ¬ (65 ≤ ccS tx n S ∧ ccS tx n S ≤ 90) := by omega
        have e1_ : dS1 tx n S = cBad S := if_neg hnl
        have e2_ : dS2 tx n S = cBad S := by unfold dS2; rw [e1_, ctake_dead (by decide) rfl]
        have e3_ : dR tx n S = ([], (fun _ => true), cBad S) := by
          have h_ : dR tx n S = ([], (fun _ => true), dS2 tx n S) := if_pos (by rw [e2_]; exact cc_dead rfl)
          rw [h_, e2_]
        have ed_ : (dR tx n S).2.2.1 = false := by rw [e3_]; rfl
        have eb_ : (dR tx n S).2.2.2 = S.2 := by rw [e3_]; rfl
        have ef_ : defL tx n (f + 1) S = ([], (dR tx n S).2.2) := by rw [eD, if_neg (by rw [ed_]; exact Bool.false_ne_true)]
        refine ⟨trivial, FrC.tr hF (show FrC m (wI m Ix31) r from ⟨Nat.le_refl _, Nat.le_refl _, fun _ _ => rfl, fun _ _ _ _ => rfl, fun o k ho h1 h2 => hF31 o k (by omega) h2⟩), ?_, ?_, Or.inr ⟨?_, rfl, ?_⟩⟩
        · show mN m ≤ _; omega
        · show mZ m ≤ _; omega
        · rw [ef_]; rintro ⟨h_, -⟩; rw [ed_] at h_; cases h_
        · rw [ef_]; rw [eb_]; exact hI31.trans ((if_pos hP.2.2.1).trans hP.2.1)

set_option maxHeartbeats 4000000 in
theorem d_read (tx : Nat → Int) (n : Nat) (m : Mem) (r : Nat)   (hL : Lay (mT m) (mR m)) (hQ : QLay m r n) (hP : DQ (mI m) r tx n (true, 0) []) (hS : StC m r []) (hm : r + 2 < mN m ∧ mN m + 82 ≤ NN ∧ mZ m + 4961 ≤ ZZ ∧ n ≤ 120) : Ct μX1_read 21 [vr r] m (ri fun x_ m' => (True) ∧ CRd m r n [] (defL tx n (n + 1) (true, 0)) x_ m') := by
  refine Ct_of_V rfl (by decide) rfl (Nat.le_of_ble_eq_true rfl) ?_
  show V μX1_read 21 m _ 0 [(0, vr r)] [] m
  obtain ⟨hr59, hq120⟩ := hQ.1
  refine V_iconst (pc := 0) dX1_read_0 (by unfold I32; omega) ?_
  refine V_st (pc := 1) dX1_read_1 (ls' := [(1, vi 1), (0, vr r)]) rfl (Nat.le_of_ble_eq_true rfl) rfl ?_
  have h1_ : (1 : Int) = (([] : List DPt).length : Int) + 1 := rfl
  refine V_ls (ls' := [(1, vi 1), (0, vr r)]) (by intro q_ h_; simp only [List.mem_cons, List.not_mem_nil, or_false] at h_ ⊢; rcases h_ with rfl | rfl <;> simp) ?_
  exact L_cdef hm.1 (by omega) ⟨hr59, hq120⟩ ⟨hm.2.1, hm.2.2.1⟩ (n + 1) (true, 0) [] [] m hL hQ hP FrC.rf hS (Nat.zero_le _) (by omega) (Nat.le_refl _) (Nat.le_refl _)
