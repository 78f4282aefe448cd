/-! THE LAW'S EIGHT CONDITIONS: what the class reads, and what isHeld() tells -/
def cT (w : Nat) : List Int := litB.getD w []
def cL : Nat → List Int
  | 0 => [62, opc 120 0, opc 48 1000]
  | 1 => [60, opc 120 1, opc 120 0, 61, opc 120 0, opc 48 1005, 124]
  | 2 => [60, opc 112 0, opc 120 0]
  | 3 => [60, opc 99 0, opc 48 1002, 61, opc 120 0, opc 48 1003, 33, 38]
  | 4 => [62, opc 115 2, opc 48 1002, 60, opc 108 1, opc 120 1, 124]
  | 5 => [61, opc 102 0, opc 120 0]
  | 6 => [62, opc 110 0, opc 120 0, 62, opc 99 2, opc 99 0, 124]
  | _ => [62, opc 120 1, opc 48 998, 60, opc 115 1, opc 48 1000, 124, 33, 60, opc 120 0, opc 48 1009, 38]
def cTx (w : Nat) : Nat → Int := fun k => (cT w).getD k 0
theorem cT_read {w : Nat} (h : w < 8) : (eitL (cTx w) (cT w).length 4 (true, 0)).1 = cL w ∧ (eitL (cTx w) (cT w).length 4 (true, 0)).2.2 = (true, (cT w).length) ∧ 3 ≤ (cT w).length ∧ (cT w).length ≤ 17 ∧ ∀ x ∈ cT w, 1 ≤ x ∧ x ≤ 127 ∧ x ≠ 59 := by
  rcases (show w = 0 ∨ w = 1 ∨ w = 2 ∨ w = 3 ∨ w = 4 ∨ w = 5 ∨ w = 6 ∨ w = 7 by omega) with rfl | rfl | rfl | rfl | rfl | rfl | rfl | rfl <;> decide +kernel
/-! what the codes tell -/
/-- a number that may be missing: x is it, or 1000 -/
def OV (X : Option Int) (x : Int) : Prop := (X = none ∧ x = 1000) ∨ (X = some x ∧ x < 1000)
theorem OV.k {x : Int} (h : x < 1000) : OV (some x) x := Or.inr ⟨rfl, h⟩
theorem OV.lt {X Y : Option Int} {x y : Int} (hx : OV X x) (hy : OV Y y) : bI (cmpB 60 X Y) = lsI x y := by
  unfold lsI
  rcases hx with ⟨rfl, rfl⟩ | ⟨rfl, hx⟩
  · rw [if_neg (by omega)]; rfl
  · rcases hy with ⟨rfl, rfl⟩ | ⟨rfl, hy⟩
    · rw [if_neg (by omega)]; rfl
    · show bI (decide (x < y)) = _
      by_cases c : x < y
      · rw [decide_eq_true c, if_pos ⟨hx, hy, c⟩]; rfl
      · rw [decide_eq_false c, if_neg (fun z => c z.2.2)]; rfl
theorem OV.gt {X Y : Option Int} {x y : Int} (hx : OV X x) (hy : OV Y y) : bI (cmpB 62 X Y) = lsI y x := by
  unfold lsI
  rcases hx with ⟨rfl, rfl⟩ | ⟨rfl, hx⟩
  · rw [if_neg (by omega)]; rfl
  · rcases hy with ⟨rfl, rfl⟩ | ⟨rfl, hy⟩
    · rw [if_neg (by omega)]; rfl
    · show bI (decide (y < x)) = _
      by_cases c : y < x
      · rw [decide_eq_true c, if_pos ⟨hy, hx, c⟩]; rfl
      · rw [decide_eq_false c, if_neg (fun z => c z.2.2)]; rfl
theorem OV.eq {X Y : Option Int} {x y : Int} (hx : OV X x) (hy : OV Y y) : bI (cmpB 61 X Y) = lqI x y := by
  unfold lqI
  rcases hx with ⟨rfl, rfl⟩ | ⟨rfl, hx⟩
  · rw [if_neg (by omega)]; rfl
  · rcases hy with ⟨rfl, rfl⟩ | ⟨rfl, hy⟩
    · rw [if_neg (by omega)]; rfl
    · show bI (decide (x = y)) = _
      by_cases c : x = y
      · rw [decide_eq_true c, if_pos ⟨hx, c⟩]; rfl
      · rw [decide_eq_false c, if_neg (fun z => c z.2)]; rfl
theorem cm_lt {x y : Int} : bI (cmpB 60 (some x) (some y)) = if x < y then 1 else 0 := by
  show bI (decide (x < y)) = _
  by_cases c : x < y
  · rw [decide_eq_true c, if_pos c]; rfl
  · rw [decide_eq_false c, if_neg c]; rfl
theorem cm_gt {x y : Int} : bI (cmpB 62 (some x) (some y)) = if y < x then 1 else 0 := by
  show bI (decide (y < x)) = _
  by_cases c : y < x
  · rw [decide_eq_true c, if_pos c]; rfl
  · rw [decide_eq_false c, if_neg c]; rfl
theorem rT {e : CEnv} {s a b t k d k2 d2 : Int} {r : List Int} (hs : ¬ isOp s) (ha : a = opc k d) (hb : b = opc k2 d2) (h1 : KD k d) (h2 : KD k2 d2) (ht : 0 ≤ t ∧ t < 1000) : runL e (s :: a :: b :: r) t = runL e r (2 * t + bI (cmpB s (valC e k d) (valC e k2 d2))) := by
  subst ha; subst hb
  rw [runL_tst hs, psh_eq (by omega), valZ_opc h1, valZ_opc h2]
theorem bI_z {x : Int} (h : x = 0 ∨ x = 1) : (if and64 x 1 = 1 then (1 : Int) else 0) = x := by
  rcases h with rfl | rfl <;> decide +kernel
theorem cdV_1 {e : CEnv} {l : List Int} {x : Int} (h : runL e l 0 = x) (hx : x = 0 ∨ x = 1) : cdV e (some l) = x := by
  show (if and64 (runL e l 0) 1 = 1 then (1 : Int) else 0) = x
  rw [h]
  exact bI_z hx
theorem or01 {b c : Int} : (if b = 1 ∨ c = 1 then (1 : Int) else 0) = 0 ∨ (if b = 1 ∨ c = 1 then (1 : Int) else 0) = 1 := by split <;> omega
theorem and01 {b c : Int} : (if b = 1 ∧ c = 1 then (1 : Int) else 0) = 0 ∨ (if b = 1 ∧ c = 1 then (1 : Int) else 0) = 1 := by split <;> omega
theorem if01 {p : Prop} [Decidable p] : (if p then (1 : Int) else 0) = 0 ∨ (if p then (1 : Int) else 0) = 1 := by by_cases h : p
                                                                                                                  · exact Or.inr (if_pos h)
                                                                                                                  · exact Or.inl (if_neg h)
section EIGHT
variable {e : CEnv}
theorem cd_0 : cdV e (some (cL 0)) = bI (cmpB 62 (valC e 120 0) (valC e 48 1000)) := by
  refine cdV_1 ?_ (bI_v _)
  show runL e [62, opc 120 0, opc 48 1000] 0 = _
  rw [rT (by decide) rfl rfl (by unfold KD; omega) (by unfold KD; omega) (by omega)]
  show 2 * 0 + _ = _
  omega
theorem cd_2 : cdV e (some (cL 2)) = bI (cmpB 60 (valC e 112 0) (valC e 120 0)) := by
  refine cdV_1 ?_ (bI_v _)
  show runL e [60, opc 112 0, opc 120 0] 0 = _
  rw [rT (by decide) rfl rfl (by unfold KD; omega) (by unfold KD; omega) (by omega)]
  show 2 * 0 + _ = _
  omega
theorem cd_5 : cdV e (some (cL 5)) = bI (cmpB 61 (valC e 102 0) (valC e 120 0)) := by
  refine cdV_1 ?_ (bI_v _)
  show runL e [61, opc 102 0, opc 120 0] 0 = _
  rw [rT (by decide) rfl rfl (by unfold KD; omega) (by unfold KD; omega) (by omega)]
  show 2 * 0 + _ = _
  omega
theorem rOr {s1 s2 a b c d k1 d1 k2 d2 k3 d3 k4 d4 : Int} (hs : ¬ isOp s1) (hs2 : ¬ isOp s2) (ha : a = opc k1 d1) (hb : b = opc k2 d2) (hc : c = opc k3 d3) (hd : d = opc k4 d4) (h1 : KD k1 d1) (h2 : KD k2 d2) (h3 : KD k3 d3) (h4 : KD k4 d4) {r : List Int} : runL e (s1 :: a :: b :: s2 :: c :: d :: 124 :: r) 0 = runL e r (if bI (cmpB s1 (valC e k1 d1) (valC e k2 d2)) = 1 ∨ bI (cmpB s2 (valC e k3 d3) (valC e k4 d4)) = 1 then 1 else 0) := by
  have b1 := bI_v (cmpB s1 (valC e k1 d1) (valC e k2 d2))
  have b2 := bI_v (cmpB s2 (valC e k3 d3) (valC e k4 d4))
  rw [rT hs ha hb h1 h2 (by omega), rT hs2 hc hd h3 h4 (by omega), runL_op (by decide), sgT_or (by omega) b1 b2]
  congr 1
  omega
theorem cd_1 : cdV e (some (cL 1)) = if bI (cmpB 60 (valC e 120 1) (valC e 120 0)) = 1 ∨ bI (cmpB 61 (valC e 120 0) (valC e 48 1005)) = 1 then 1 else 0 := by
  refine cdV_1 ?_ if01
  show runL e [60, opc 120 1, opc 120 0, 61, opc 120 0, opc 48 1005, 124] 0 = _
  rw [rOr (by decide) (by decide) rfl rfl rfl rfl (by unfold KD; omega) (by unfold KD; omega) (by unfold KD; omega) (by unfold KD; omega)]
  rfl
theorem cd_4 : cdV e (some (cL 4)) = if bI (cmpB 62 (valC e 115 2) (valC e 48 1002)) = 1 ∨ bI (cmpB 60 (valC e 108 1) (valC e 120 1)) = 1 then 1 else 0 := by
  refine cdV_1 ?_ if01
  show runL e [62, opc 115 2, opc 48 1002, 60, opc 108 1, opc 120 1, 124] 0 = _
  rw [rOr (by decide) (by decide) rfl rfl rfl rfl (by unfold KD; omega) (by unfold KD; omega) (by unfold KD; omega) (by unfold KD; omega)]
  rfl
theorem cd_6 : cdV e (some (cL 6)) = if bI (cmpB 62 (valC e 110 0) (valC e 120 0)) = 1 ∨ bI (cmpB 62 (valC e 99 2) (valC e 99 0)) = 1 then 1 else 0 := by
  refine cdV_1 ?_ if01
  show runL e [62, opc 110 0, opc 120 0, 62, opc 99 2, opc 99 0, 124] 0 = _
  rw [rOr (by decide) (by decide) rfl rfl rfl rfl (by unfold KD; omega) (by unfold KD; omega) (by unfold KD; omega) (by unfold KD; omega)]
  rfl
theorem cd_3 : cdV e (some (cL 3)) = if bI (cmpB 60 (valC e 99 0) (valC e 48 1002)) = 1 ∧ 1 - bI (cmpB 61 (valC e 120 0) (valC e 48 1003)) = 1 then 1 else 0 := by
  have b1 := bI_v (cmpB 60 (valC e 99 0) (valC e 48 1002))
  have b2 := bI_v (cmpB 61 (valC e 120 0) (valC e 48 1003))
  refine cdV_1 ?_ if01
  show runL e [60, opc 99 0, opc 48 1002, 61, opc 120 0, opc 48 1003, 33, 38] 0 = _
  rw [rT (by decide) rfl rfl (by unfold KD; omega) (by unfold KD; omega) (by omega), rT (by decide) rfl rfl (by unfold KD; omega) (by unfold KD; omega) (by omega), runL_op (by decide), sgT_not (by omega) b2, runL_op (by decide), sgT_and (by omega) b1 (by omega)]
  show 2 * 0 + _ = _
  omega
theorem cd_7 {B : Int} (hB : (if bI (cmpB 62 (valC e 120 1) (valC e 48 998)) = 1 ∨ bI (cmpB 60 (valC e 115 1) (valC e 48 1000)) = 1 then (1 : Int) else 0) = B) : cdV e (some (cL 7)) = if 1 - B = 1 ∧ bI (cmpB 60 (valC e 120 0) (valC e 48 1009)) = 1 then 1 else 0 := by
  have b3 := bI_v (cmpB 60 (valC e 120 0) (valC e 48 1009))
  have b12 := or01 (b := bI (cmpB 62 (valC e 120 1) (valC e 48 998))) (c := bI (cmpB 60 (valC e 115 1) (valC e 48 1000)))
  refine cdV_1 ?_ if01
  show runL e [62, opc 120 1, opc 48 998, 60, opc 115 1, opc 48 1000, 124, 33, 60, opc 120 0, opc 48 1009, 38] 0 = _
  rw [rOr (by decide) (by decide) rfl rfl rfl rfl (by unfold KD; omega) (by unfold KD; omega) (by unfold KD; omega) (by unfold KD; omega)]
  rw [hB] at b12 ⊢
  have hn := sgT_not (t := 0) (b := B) (by omega) b12
  rw [show 2 * 0 + B = B by omega, show 2 * 0 + (1 - B) = 1 - B by omega] at hn
  rw [runL_op (by decide), hn, rT (by decide) rfl rfl (by unfold KD; omega) (by unfold KD; omega) (by omega), runL_op (by decide)]
  have ha := sgT_and (t := 0) (b := 1 - B) (c := bI (cmpB 60 (valC e 120 0) (valC e 48 1009))) (by omega) (by omega) b3
  rw [show 2 * 0 + (1 - B) = 1 - B by omega] at ha
  rw [ha]
  show 2 * 0 + _ = _
  omega
end EIGHT
/-- the condition that is told by a number -/
def cdO (w : Int) : Option (List Int) := if w < 0 then none else some (cL w.toNat)
theorem smE_cong {le ce ce' : Nat → Int} {w c : Int} : ∀ (d : Nat) (a : Int), (∀ i : Nat, i < d → ce' (2 * (a + (i : Int)) + c).toNat = ce (2 * (a + (i : Int)) + c).toNat) → smE le ce' w c d a = smE le ce w c d a
  | 0, a, _ => rfl
  | d + 1, a, h => by
    show smE le ce' w c d a + (if le (a + d).toNat = w ∧ ce' (2 * (a + d) + c).toNat ≠ 1000 then ce' (2 * (a + d) + c).toNat else 0) = smE le ce w c d a + (if le (a + d).toNat = w ∧ ce (2 * (a + d) + c).toNat ≠ 1000 then ce (2 * (a + d) + c).toNat else 0)
    rw [h d (Nat.lt_succ_self d), smE_cong d a (fun i hi => h i (by omega))]
/-- isHeld() and the class's condition -/
theorem held_cdV {v : Nat → Nat → Int} {n a N : Nat} {le cl : Nat → Int} {r w : Int} (hw : -1 ≤ w ∧ w ≤ 7) (hr : r + 1 = (a : Int) + (N : Int)) (hn : 0 ≤ r ∧ r < (n : Int)) (hv : ∀ r c, r < n → c < 2 → -10 ≤ v r c ∧ v r c ≤ 1000) (hcl : ∀ r c, r < n → c < 2 → cl (2 * r + c) = v r c) : hlR v n le a N r w = cdV ((a : Int), r, le, (n : Int), cl) (cdO w) := by
  have hsp : spE ((a : Int), r, le, (n : Int), cl) = N := by
    show (r - (a : Int) + 1).toNat = N
    omega
  have hcell : ∀ (q c : Int), c = 0 ∨ c = 1 → OV (cellE ((a : Int), r, le, (n : Int), cl) q c) (valR v n q c) := fun q c hc => by
    unfold cellE
    by_cases h : 0 ≤ q ∧ q < (n : Int)
    · have e1 := hcl q.toNat c.toNat (by omega) (by omega)
      have e2 := hv q.toNat c.toNat (by omega) (by omega)
      rw [show 2 * q.toNat + c.toNat = (2 * q + c).toNat by omega] at e1
      rw [valR_in h]
      show OV (if 0 ≤ q ∧ q < (n : Int) ∧ cl (2 * q + c).toNat ≠ 1000 then some (cl (2 * q + c).toNat) else none) _
      rw [e1]
      by_cases h2 : v q.toNat c.toNat = 1000
      · rw [if_neg (fun z => z.2.2 h2)]; exact Or.inl ⟨rfl, h2⟩
      · rw [if_pos ⟨h.1, h.2, h2⟩]; exact Or.inr ⟨rfl, by omega⟩
    · rw [valR_out h, if_neg (fun z => h ⟨z.1, z.2.1⟩)]; exact Or.inl ⟨rfl, rfl⟩
  have cX : OV (valC ((a : Int), r, le, (n : Int), cl) 120 0) (v r.toNat 0) := by
    have h := hcell r 0 (Or.inl rfl)
    rw [valR_in hn] at h; exact h
  have cY : OV (valC ((a : Int), r, le, (n : Int), cl) 120 1) (v r.toNat 1) := by
    have h := hcell r 1 (Or.inr rfl)
    rw [valR_in hn] at h; exact h
  have hS : ∀ w c : Int, c = 0 ∨ c = 1 → smE le cl w c N (a : Int) = smE le (ceR v) w c N (a : Int) := fun w c hc => smE_cong N _ fun i hi => by
    rw [ceR_v (by omega) hc]
    have := hcl ((a : Int) + (i : Int)).toNat c.toNat (by omega) (by omega)
    rw [show 2 * ((a : Int) + (i : Int)).toNat + c.toNat = (2 * ((a : Int) + (i : Int)) + c).toNat by omega] at this
    exact this
  unfold hlR cdO
  rcases (show w = -1 ∨ w = 0 ∨ w = 1 ∨ w = 2 ∨ w = 3 ∨ w = 4 ∨ w = 5 ∨ w = 6 ∨ w = 7 by omega) with rfl | rfl | rfl | rfl | rfl | rfl | rfl | rfl | rfl
  · rfl
  · show lsI 0 (v r.toNat 0) = cdV _ (some (cL 0))
    rw [cd_0]
    exact (OV.gt cX (OV.k (x := 0) (by omega))).symm
  · show _ = cdV _ (some (cL 1))
    rw [cd_1, OV.lt cY cX, OV.eq (Y := valC ((a : Int), r, le, (n : Int), cl) 48 1005) cX (OV.k (x := 5) (by omega))]
    have h1 := lsI_v (v r.toNat 1) (v r.toNat 0)
    have h2 := lqI_v (v r.toNat 0) 5
    show (if ¬ lsI (v r.toNat 1) (v r.toNat 0) = 0 ∨ ¬ lqI (v r.toNat 0) 5 = 0 then (1 : Int) else 0) = _
    split <;> split <;> omega
  · show lsI (valR v n (r - 1) 0) (v r.toNat 0) = cdV _ (some (cL 2))
    rw [cd_2]
    exact (OV.lt (hcell (r - 1) 0 (Or.inl rfl)) cX).symm
  · show _ = cdV _ (some (cL 3))
    have h2 := lqI_v (v r.toNat 0) 3
    have e1 : valC ((a : Int), r, le, (n : Int), cl) 99 0 = some (cnE le 0 N (a : Int)) := by
      show some (cnE le 0 (spE _) (a : Int)) = _
      rw [hsp]
    rw [cd_3, OV.eq (Y := valC ((a : Int), r, le, (n : Int), cl) 48 1003) cX (OV.k (x := 3) (by omega)), e1]
    have e2 : bI (cmpB 60 (some (cnE le 0 N (a : Int))) (valC ((a : Int), r, le, (n : Int), cl) 48 1002)) = if cnE le 0 N (a : Int) < 2 then 1 else 0 := cm_lt
    rw [e2]
    show (if cnE le 0 N (a : Int) < 2 ∧ lqI (v r.toNat 0) 3 = 0 then (1 : Int) else 0) = _
    split <;> split <;> split at * <;> omega
  · show _ = cdV _ (some (cL 4))
    have h2 := lsI_v (valR v n (lsE le 0 N (a : Int)) 1) (v r.toNat 1)
    have e1 : valC ((a : Int), r, le, (n : Int), cl) 115 2 = some (smE le (ceR v) 1 0 N (a : Int)) := by
      show some (smE le cl 1 0 (spE _) (a : Int)) = _
      rw [hsp, hS 1 0 (Or.inl rfl)]
    have e3 : valC ((a : Int), r, le, (n : Int), cl) 108 1 = cellE ((a : Int), r, le, (n : Int), cl) (lsE le 0 N (a : Int)) 1 := by
      show cellE _ (lsE le 0 (spE _) (a : Int)) 1 = _
      rw [hsp]
    rw [cd_4, e3, OV.lt (hcell _ 1 (Or.inr rfl)) cY, e1]
    have e2 : bI (cmpB 62 (some (smE le (ceR v) 1 0 N (a : Int))) (valC ((a : Int), r, le, (n : Int), cl) 48 1002)) = if 2 < smE le (ceR v) 1 0 N (a : Int) then 1 else 0 := cm_gt
    rw [e2]
    show (if 2 < smE le (ceR v) 1 0 N (a : Int) ∨ ¬ lsI (valR v n (lsE le 0 N (a : Int)) 1) (v r.toNat 1) = 0 then (1 : Int) else 0) = _
    split <;> split <;> split at * <;> omega
  · show lqI (valR v n (frE le 0 N (a : Int)) 0) (v r.toNat 0) = cdV _ (some (cL 5))
    have e3 : valC ((a : Int), r, le, (n : Int), cl) 102 0 = cellE ((a : Int), r, le, (n : Int), cl) (frE le 0 N (a : Int)) 0 := by
      show cellE _ (frE le 0 (spE _) (a : Int)) 0 = _
      rw [hsp]
    rw [cd_5, e3]
    exact (OV.eq (hcell _ 0 (Or.inl rfl)) cX).symm
  · show _ = cdV _ (some (cL 6))
    have h2 := lsI_v (v r.toNat 0) (valR v n (r + 1) 0)
    have e1 : valC ((a : Int), r, le, (n : Int), cl) 99 0 = some (cnE le 0 N (a : Int)) := by
      show some (cnE le 0 (spE _) (a : Int)) = _
      rw [hsp]
    have e2 : valC ((a : Int), r, le, (n : Int), cl) 99 2 = some (cnE le 1 N (a : Int)) := by
      show some (cnE le 1 (spE _) (a : Int)) = _
      rw [hsp]
    have e4 : bI (cmpB 62 (valC ((a : Int), r, le, (n : Int), cl) 110 0) (valC ((a : Int), r, le, (n : Int), cl) 120 0)) = lsI (v r.toNat 0) (valR v n (r + 1) 0) := OV.gt (hcell (r + 1) 0 (Or.inl rfl)) cX
    rw [cd_6, e4, e1, e2, cm_gt]
    show (if ¬ lsI (v r.toNat 0) (valR v n (r + 1) 0) = 0 ∨ cnE le 0 N (a : Int) < cnE le 1 N (a : Int) then (1 : Int) else 0) = _
    split <;> split <;> split at * <;> omega
  · show _ = cdV _ (some (cL 7))
    have h2 := lsI_v (v r.toNat 0) 9
    have h3 := lsI_v (-2) (v r.toNat 1)
    have e1 : valC ((a : Int), r, le, (n : Int), cl) 115 1 = some (smE le (ceR v) 0 1 N (a : Int)) := by
      show some (smE le cl 0 1 (spE _) (a : Int)) = _
      rw [hsp, hS 0 1 (Or.inr rfl)]
    have e2 : bI (cmpB 60 (some (smE le (ceR v) 0 1 N (a : Int))) (valC ((a : Int), r, le, (n : Int), cl) 48 1000)) = if smE le (ceR v) 0 1 N (a : Int) < 0 then 1 else 0 := cm_lt
    have e3 : bI (cmpB 62 (valC ((a : Int), r, le, (n : Int), cl) 120 1) (valC ((a : Int), r, le, (n : Int), cl) 48 998)) = lsI (-2) (v r.toNat 1) := by
      have z : valC ((a : Int), r, le, (n : Int), cl) 48 998 = some (-2) := by
        show some ((998 : Int) - 1000) = some (-2)
        rw [show (998 : Int) - 1000 = -2 from by decide]
      rw [z]
      exact OV.gt cY (OV.k (x := -2) (by omega))
    have e4 : bI (cmpB 60 (valC ((a : Int), r, le, (n : Int), cl) 120 0) (valC ((a : Int), r, le, (n : Int), cl) 48 1009)) = lsI (v r.toNat 0) 9 := OV.lt cX (OV.k (x := 9) (by omega))
    rw [cd_7 rfl, e1, e2, e3, e4]
    show (if (lsI (-2) (v r.toNat 1) = 0 ∧ 0 ≤ smE le (ceR v) 0 1 N (a : Int)) ∧ ¬ lsI (v r.toNat 0) 9 = 0 then (1 : Int) else 0) = _
    generalize lsI (-2) (v r.toNat 1) = A at *
    generalize lsI (v r.toNat 0) 9 = B at *
    generalize smE le (ceR v) 0 1 N (a : Int) = C at *
    repeat (first | omega | split)
