/-! the constructors of class and reference, from the empty memory on -/
def lkT : List (Nat × Nat × Nat) → Nat → Nat × Nat
  | [], _ => (0, 0)
  | (k, v) :: l, o => if o = k then v else lkT l o
def lkR : List (Nat × Nat × Option Nat) → Nat → Nat → Option Nat
  | [], _, _ => none
  | (a, b, v) :: l, o, k => if o = a ∧ k = b then v else lkR l o k
def lkI : List (Nat × Nat × Int) → Nat → Nat → Int
  | [], _, _ => 0
  | (a, b, v) :: l, o, k => if o = a ∧ k = b then v else lkI l o k
theorem lkR_no {n k : Nat} : ∀ {l : List (Nat × Nat × Option Nat)}, l.all (fun q => Nat.blt q.1 n) = true → lkR l n k = none
  | [], _ => rfl
  | (a, b, v) :: l, h => by
    have h1 : (Nat.blt a n && l.all (fun q => Nat.blt q.1 n)) = true := h
    rw [Bool.and_eq_true] at h1
    have h2 : a < n := by have := h1.1; rw [Nat.blt_eq] at this; exact this
    show (if n = a ∧ k = b then v else lkR l n k) = none
    rw [if_neg (by omega)]
    exact lkR_no h1.2
theorem lkI_no {n k : Nat} : ∀ {l : List (Nat × Nat × Int)}, l.all (fun q => Nat.blt q.1 n) = true → lkI l n k = 0
  | [], _ => rfl
  | (a, b, v) :: l, h => by
    have h1 : (Nat.blt a n && l.all (fun q => Nat.blt q.1 n)) = true := h
    rw [Bool.and_eq_true] at h1
    have h2 : a < n := by have := h1.1; rw [Nat.blt_eq] at this; exact this
    show (if n = a ∧ k = b then v else lkI l n k) = 0
    rw [if_neg (by omega)]
    exact lkI_no h1.2
def St (m : Mem) (n z : Nat) (tl : List (Nat × Nat × Nat)) (rl : List (Nat × Nat × Option Nat)) (il : List (Nat × Nat × Int)) : Prop := mN m = n ∧ mZ m = z ∧ (∀ o, o < n → mT m o = lkT tl o) ∧ (∀ o k, o < 1000 → mR m o k = lkR rl o k) ∧ ∀ o k, o < 1000 → mI m o k = lkI il o k
theorem St.t {m : Mem} {n z : Nat} {tl : List (Nat × Nat × Nat)} {rl : List (Nat × Nat × Option Nat)} {il : List (Nat × Nat × Int)} (h : St m n z tl rl il) (o : Nat) {v : Nat × Nat} (ho : Nat.blt o n = true) (e : lkT tl o = v) : mT m o = v := (h.2.2.1 o (by rw [Nat.blt_eq] at ho; exact ho)).trans e
theorem St.r {m : Mem} {n z : Nat} {tl : List (Nat × Nat × Nat)} {rl : List (Nat × Nat × Option Nat)} {il : List (Nat × Nat × Int)} (h : St m n z tl rl il) (o k : Nat) {v : Option Nat} (e : lkR rl o k = v) (ho : Nat.blt o 1000 = true := by decide) : mR m o k = v := (h.2.2.2.1 o k (by rw [Nat.blt_eq] at ho; exact ho)).trans e
theorem St.i {m : Mem} {n z : Nat} {tl : List (Nat × Nat × Nat)} {rl : List (Nat × Nat × Option Nat)} {il : List (Nat × Nat × Int)} (h : St m n z tl rl il) (o k : Nat) {v : Int} (e : lkI il o k = v) (ho : Nat.blt o 1000 = true := by decide) : mI m o k = v := (h.2.2.2.2 o k (by rw [Nat.blt_eq] at ho; exact ho)).trans e
theorem St.new {m : Mem} {n z : Nat} {tl : List (Nat × Nat × Nat)} {rl : List (Nat × Nat × Option Nat)} {il : List (Nat × Nat × Int)} (h : St m n z tl rl il) (c s n' z' : Nat) (en : n' = n + 1) (ez : z' = z + s) (hr : rl.all (fun q => Nat.blt q.1 n) = true) (hi : il.all (fun q => Nat.blt q.1 n) = true) : St (newO m c s) n' z' ((n, c, s) :: tl) rl il := by
  obtain ⟨h1, h2, h3, h4, h5⟩ := h
  refine ⟨by rw [mN_newO, h1, en], by rw [mZ_newOs, h2, ez], fun o ho => ?_, fun o k ho => ?_, fun o k ho => ?_⟩
  · rw [mT_newO, h1]
    show _ = if o = n then (c, s) else lkT tl o
    by_cases e : o = n
    · rw [if_pos e, if_pos e]
    · rw [if_neg e, if_neg e]; exact h3 o (by omega)
  · rw [mR_newO, h1]
    by_cases e : o = n
    · rw [if_pos e, e]; exact (lkR_no hr).symm
    · rw [if_neg e]; exact h4 o k ho
  · rw [mI_newO, h1]
    by_cases e : o = n
    · rw [if_pos e, e]; exact (lkI_no hi).symm
    · rw [if_neg e]; exact h5 o k ho
theorem St.sR {m : Mem} {n z : Nat} {tl : List (Nat × Nat × Nat)} {rl : List (Nat × Nat × Option Nat)} {il : List (Nat × Nat × Int)} (h : St m n z tl rl il) (a b : Nat) (v : Option Nat) : St (setR m a b v) n z tl ((a, b, v) :: rl) il := by
  obtain ⟨h1, h2, h3, h4, h5⟩ := h
  refine ⟨by rw [mN_setR]; exact h1, by rw [mZ_setRs]; exact h2, fun o ho => by rw [mT_setR]; exact h3 o ho, fun o k ho => ?_, fun o k ho => by rw [mI_setR]; exact h5 o k ho⟩
  rw [mR_sRif]
  show _ = if o = a ∧ k = b then v else lkR rl o k
  by_cases e : o = a ∧ k = b
  · rw [if_pos e, if_pos e]
  · rw [if_neg e, if_neg e]; exact h4 o k ho
theorem St.sI {m : Mem} {n z : Nat} {tl : List (Nat × Nat × Nat)} {rl : List (Nat × Nat × Option Nat)} {il : List (Nat × Nat × Int)} (h : St m n z tl rl il) (a b : Nat) (v : Int) : St (setI m a b v) n z tl rl ((a, b, v) :: il) := by
  obtain ⟨h1, h2, h3, h4, h5⟩ := h
  refine ⟨by rw [mN_setI]; exact h1, by rw [mZ_setIs]; exact h2, fun o ho => by rw [mT_setI]; exact h3 o ho, fun o k ho => by rw [mR_setI]; exact h4 o k ho, fun o k ho => ?_⟩
  rw [mI_setI]
  show up2 (mI m) a b v o k = if o = a ∧ k = b then v else lkI il o k
  unfold up2
  by_cases e : o = a ∧ k = b
  · rw [if_pos e, if_pos e]
  · rw [if_neg e, if_neg e]; exact h5 o k ho

set_option maxHeartbeats 4000000 in
theorem c_Text_init  (m : Mem) (t : Nat)   (T_t : mT m t = (9, 2)) (hp : t < mN m ∧ mN m + 1 ≤ NN ∧ mZ m + 120 ≤ ZZ) : Ct μX9_init 1 [vr t] m (rv fun m' => setR (newO m 20 120) t 0 (some (mN m)) = m') := by
  refine Ct_of_V rfl (by decide) rfl (Nat.le_of_ble_eq_true rfl) ?_
  show V μX9_init 1 m _ 0 [(0, vr t)] [] m
  refine V_ld (pc := 0) dX9_init_0 (v := vr t) rfl rfl ?_
  refine V_objInit (pc := 1) dX9_init_1 oi_RX9_3 wo_i wo_c (by omega) (Nat.le_of_ble_eq_true rfl) ?_
  refine V_ld (pc := 4) dX9_init_4 (v := vr t) rfl rfl ?_
  refine V_bipush (pc := 5) dX9_init_5 (by unfold I32; omega) (by decide) ?_
  refine V_newIv (pc := 7) (N := 120) (mN m) rfl rfl dX9_init_7 (by omega) (by show mZ m + 120 ≤ ZZ; omega) (by omega) (by omega) wa_int ?_
  refine V_putR (pc := 9) dX9_init_9 fw_RX9_9 rfl ((mT_newne (M := m) (c := 20) (n := 120) (o := t) (mN m) rfl (by omega)).trans T_t) (Or.inr ⟨rfl, rfl⟩) (fun o_ h_ => by cases h_; (try unfold NN at *); unfold SC; omega) ?_
  refine V_retv (pc := 12) dX9_init_12 trivial ?_
  first | exact ⟨rfl, rfl⟩ | exact rfl

set_option maxHeartbeats 4000000 in
theorem c_Longs_init  (m : Mem) (t : Nat)   (T_t : mT m t = (2, 2)) (hp : t < mN m ∧ mN m + 1 ≤ NN ∧ mZ m + 40 ≤ ZZ) : Ct μX2_init 1 [vr t] m (rv fun m' => setI (setR (newO m 21 40) t 0 (some (mN m))) t 1 (-1) = m') := by
  refine Ct_of_V rfl (by decide) rfl (Nat.le_of_ble_eq_true rfl) ?_
  show V μX2_init 1 m _ 0 [(0, vr t)] [] m
  refine V_ld (pc := 0) dX2_init_0 (v := vr t) rfl rfl ?_
  refine V_objInit (pc := 1) dX2_init_1 oi_RX2_3 wo_i wo_c (by omega) (Nat.le_of_ble_eq_true rfl) ?_
  refine V_ld (pc := 4) dX2_init_4 (v := vr t) rfl rfl ?_
  refine V_bipush (pc := 5) dX2_init_5 (by unfold I32; omega) (by decide) ?_
  refine V_newLv (pc := 7) (N := 40) (mN m) rfl rfl dX2_init_7 (by omega) (by show mZ m + 40 ≤ ZZ; omega) (by omega) (by omega) wa_long ?_
  refine V_putR (pc := 9) dX2_init_9 fw_RX2_9 rfl ((mT_newne (M := m) (c := 21) (n := 40) (o := t) (mN m) rfl (by omega)).trans T_t) (Or.inr ⟨rfl, rfl⟩) (fun o_ h_ => by cases h_; (try unfold NN at *); unfold SC; omega) ?_
  refine V_ld (pc := 12) dX2_init_12 (v := vr t) rfl rfl ?_
  refine V_iconst (pc := 13) dX2_init_13 (by unfold I32; omega) ?_
  refine V_putI (pc := 14) dX2_init_14 fw_RX2_15 rfl ((congrFun mT_setR t).trans ((mT_newne (M := m) (c := 21) (n := 40) (o := t) (mN m) rfl (by omega)).trans T_t)) (Or.inl rfl) (Or.inl rfl) ?_
  refine V_retv (pc := 17) dX2_init_17 trivial ?_
  first | exact ⟨rfl, rfl⟩ | exact rfl

set_option maxHeartbeats 4000000 in
theorem c_sit0  (m : Mem)    (hs0 : St m 2 15 [(1, 7, 8), (0, 10, 7)] [] []) : Ct μX7_init 3 [vr 1] m (rv fun m' => St m' 9 1233 [(8, 20, 1056), (7, 20, 33), (6, 20, 33), (5, 3, 4), (4, 23, 26), (3, 20, 64), (2, 8, 2), (1, 7, 8), (0, 10, 7)] [(1, 3, some 5), (5, 2, some 8), (5, 1, some 7), (5, 0, some 6), (1, 1, some 4), (1, 0, some 2), (2, 0, some 3)] [(1, 7, 5000), (1, 6, 1), (1, 4, 0)]) := by
  refine Ct_of_V rfl (by decide) rfl (Nat.le_of_ble_eq_true rfl) ?_
  show V μX7_init 3 m _ 0 [(0, vr 1)] [] m
  refine V_ld (pc := 0) dX7_init_0 (v := vr 1) rfl rfl ?_
  refine V_objInit (pc := 1) dX7_init_1 oi_RX7_3 wo_i wo_c (by omega) (Nat.le_of_ble_eq_true rfl) ?_
  refine V_ld (pc := 4) dX7_init_4 (v := vr 1) rfl rfl ?_
  refine V_newv (pc := 5) 2 hs0.1 dX7_init_5 nw_RX7_9 (by unfold NN; omega) (by rw [hs0.2.1]; unfold ZZ; omega) ?_
  have hs1 := hs0.new 8 2 3 17 rfl rfl rfl rfl
  generalize newO m 8 2 = mm1 at hs1 ⊢
  refine V_dup (pc := 8) dX7_init_8 rfl ?_
  refine V_callN (pc := 9) dX7_init_9 (F' := 1) (As := []) (st := [vr 2, vr 1]) cn_RX7_11 rfl rfl (Nat.le_of_ble_eq_true rfl) (by omega) (c_Table_init mm1 2 (hs1.t 2 rfl rfl) ⟨by rw [hs1.1]; omega, by rw [hs1.1]; unfold NN; omega, by rw [hs1.2.1]; unfold ZZ; omega⟩) ?_
  rintro _ mq9 ⟨rfl, hq9⟩ ok9 le9
  clear ok9 le9
  rw [hs1.1] at hq9
  have hs2 := hs1.new 20 64 4 81 rfl rfl rfl rfl
  generalize newO mm1 20 64 = mm2 at hs2 hq9
  have hs3 := (show St (setR mm2 2 0 (some 3)) _ _ _ _ _ from hs2.sR 2 0 (some 3))
  generalize setR mm2 2 0 (some 3) = mm3 at hs3 hq9
  subst hq9
  refine V_putR (pc := 12) dX7_init_12 fw_RX7_12 rfl (hs3.t 1 rfl rfl) (Or.inr ⟨rfl, rfl⟩) (fun o_ h_ => by cases h_; unfold SC; omega) ?_
  have hs4 := hs3.sR 1 0 (some 2)
  generalize setR mm3 1 0 (some 2) = mm4 at hs4 ⊢
  refine V_ld (pc := 15) dX7_init_15 (v := vr 1) rfl rfl ?_
  refine V_bipush (pc := 16) dX7_init_16 (by unfold I32; omega) (by decide) ?_
  refine V_newQv (pc := 18) (N := 26) 4 hs4.1 rfl dX7_init_18 (by unfold NN; omega) (by rw [hs4.2.1]; unfold ZZ; omega) (by omega) (by omega) (Or.inr ⟨rfl, rfl⟩) cl_RX7_18 ?_
  have hs5 := hs4.new 23 26 5 107 rfl rfl rfl rfl
  generalize newO mm4 23 26 = mm5 at hs5 ⊢
  refine V_putR (pc := 21) dX7_init_21 fw_RX7_20 rfl (hs5.t 1 rfl rfl) (Or.inr ⟨rfl, rfl⟩) (fun o_ h_ => by cases h_; unfold SC; omega) ?_
  have hs6 := hs5.sR 1 1 (some 4)
  generalize setR mm5 1 1 (some 4) = mm6 at hs6 ⊢
  refine V_ld (pc := 24) dX7_init_24 (v := vr 1) rfl rfl ?_
  refine V_newv (pc := 25) 5 hs6.1 dX7_init_25 nw_RX7_24 (by unfold NN; omega) (by rw [hs6.2.1]; unfold ZZ; omega) ?_
  have hs7 := hs6.new 3 4 6 111 rfl rfl rfl rfl
  generalize newO mm6 3 4 = mm7 at hs7 ⊢
  refine V_dup (pc := 28) dX7_init_28 rfl ?_
  refine V_callN (pc := 29) dX7_init_29 (F' := 1) (As := []) (st := [vr 5, vr 1]) cn_RX7_26 rfl rfl (Nat.le_of_ble_eq_true rfl) (by omega) (c_Mat_init mm7 5 (hs7.t 5 rfl rfl) ⟨by rw [hs7.1]; omega, by rw [hs7.1]; unfold NN; omega, by rw [hs7.2.1]; unfold ZZ; omega⟩) ?_
  rintro _ mq29 ⟨rfl, hq29⟩ ok29 le29
  clear ok29 le29
  rw [hs7.1] at hq29
  have hs8 := hs7.new 20 33 7 144 rfl rfl rfl rfl
  generalize newO mm7 20 33 = mm8 at hs8 hq29
  have hs9 := (show St (setR mm8 5 0 (some 6)) _ _ _ _ _ from hs8.sR 5 0 (some 6))
  generalize setR mm8 5 0 (some 6) = mm9 at hs9 hq29
  have hs10 := hs9.new 20 33 8 177 rfl rfl rfl rfl
  generalize newO mm9 20 33 = mm10 at hs10 hq29
  have hs11 := (show St (setR mm10 5 1 (some (6 + 1))) _ _ _ _ _ from hs10.sR 5 1 (some 7))
  generalize setR mm10 5 1 (some (6 + 1)) = mm11 at hs11 hq29
  have hs12 := hs11.new 20 1056 9 1233 rfl rfl rfl rfl
  generalize newO mm11 20 1056 = mm12 at hs12 hq29
  have hs13 := (show St (setR mm12 5 2 (some (6 + 2))) _ _ _ _ _ from hs12.sR 5 2 (some 8))
  generalize setR mm12 5 2 (some (6 + 2)) = mm13 at hs13 hq29
  subst hq29
  refine V_putR (pc := 32) dX7_init_32 fw_RX7_27 rfl (hs13.t 1 rfl rfl) (Or.inl rfl) (fun o_ h_ => by cases h_; unfold SC; omega) ?_
  have hs14 := hs13.sR 1 3 (some 5)
  generalize setR mm13 1 3 (some 5) = mm14 at hs14 ⊢
  refine V_ld (pc := 35) dX7_init_35 (v := vr 1) rfl rfl ?_
  refine V_iconst (pc := 36) dX7_init_36 (by unfold I32; omega) ?_
  refine V_putI (pc := 37) dX7_init_37 fw_RX7_31 rfl (hs14.t 1 rfl rfl) (Or.inl rfl) (Or.inl rfl) ?_
  have hs15 := hs14.sI 1 4 0
  generalize setI mm14 1 4 0 = mm15 at hs15 ⊢
  refine V_ld (pc := 40) dX7_init_40 (v := vr 1) rfl rfl ?_
  refine V_iconst (pc := 41) dX7_init_41 (by unfold I32; omega) ?_
  refine V_putI (pc := 42) dX7_init_42 fw_RX7_35 rfl (hs15.t 1 rfl rfl) (Or.inl rfl) (Or.inl rfl) ?_
  have hs16 := hs15.sI 1 6 1
  generalize setI mm15 1 6 1 = mm16 at hs16 ⊢
  refine V_ld (pc := 45) dX7_init_45 (v := vr 1) rfl rfl ?_
  refine V_sipush (pc := 46) dX7_init_46 (by unfold I32; omega) (by decide) ?_
  refine V_putI (pc := 49) dX7_init_49 fw_RX7_38 rfl (hs16.t 1 rfl rfl) (Or.inl rfl) (Or.inl rfl) ?_
  have hs17 := hs16.sI 1 7 5000
  generalize setI mm16 1 7 5000 = mm17 at hs17 ⊢
  refine V_retv (pc := 52) dX7_init_52 trivial ?_
  exact hs17

set_option maxHeartbeats 4000000 in
theorem c_search0  (m : Mem)    (hs0 : St m 10 1247 [(9, 6, 14), (8, 20, 1056), (7, 20, 33), (6, 20, 33), (5, 3, 4), (4, 23, 26), (3, 20, 64), (2, 8, 2), (1, 7, 8), (0, 10, 7)] [(0, 0, some 1), (1, 3, some 5), (5, 2, some 8), (5, 1, some 7), (5, 0, some 6), (1, 1, some 4), (1, 0, some 2), (2, 0, some 3)] [(1, 7, 5000), (1, 6, 1), (1, 4, 0)]) : Ct μX6_init 1 [vr 9, vr 1] m (rv fun m' => St m' 13 1855 [(12, 20, 320), (11, 20, 256), (10, 20, 32), (9, 6, 14), (8, 20, 1056), (7, 20, 33), (6, 20, 33), (5, 3, 4), (4, 23, 26), (3, 20, 64), (2, 8, 2), (1, 7, 8), (0, 10, 7)] [(9, 0, some 1), (9, 4, some 12), (9, 2, some 11), (9, 1, some 10), (0, 0, some 1), (1, 3, some 5), (5, 2, some 8), (5, 1, some 7), (5, 0, some 6), (1, 1, some 4), (1, 0, some 2), (2, 0, some 3)] [(1, 7, 5000), (1, 6, 1), (1, 4, 0)]) := by
  refine Ct_of_V rfl (by decide) rfl (Nat.le_of_ble_eq_true rfl) ?_
  show V μX6_init 1 m _ 0 [(0, vr 9), (1, vr 1)] [] m
  refine V_ld (pc := 0) dX6_init_0 (v := vr 9) rfl rfl ?_
  refine V_objInit (pc := 1) dX6_init_1 oi_RX6_3 wo_i wo_c (by omega) (Nat.le_of_ble_eq_true rfl) ?_
  refine V_ld (pc := 4) dX6_init_4 (v := vr 9) rfl rfl ?_
  refine V_bipush (pc := 5) dX6_init_5 (by unfold I32; omega) (by decide) ?_
  refine V_newIv (pc := 7) (N := 32) 10 hs0.1 rfl dX6_init_7 (by unfold NN; omega) (by rw [hs0.2.1]; unfold ZZ; omega) (by omega) (by omega) wa_int ?_
  have hs1 := hs0.new 20 32 11 1279 rfl rfl rfl rfl
  generalize newO m 20 32 = mm1 at hs1 ⊢
  refine V_putR (pc := 9) dX6_init_9 fw_RX6_9 rfl (hs1.t 9 rfl rfl) (Or.inr ⟨rfl, rfl⟩) (fun o_ h_ => by cases h_; unfold SC; omega) ?_
  have hs2 := hs1.sR 9 1 (some 10)
  generalize setR mm1 9 1 (some 10) = mm2 at hs2 ⊢
  refine V_ld (pc := 12) dX6_init_12 (v := vr 9) rfl rfl ?_
  refine V_sipush (pc := 13) dX6_init_13 (by unfold I32; omega) (by decide) ?_
  refine V_newIv (pc := 16) (N := 256) 11 hs2.1 rfl dX6_init_16 (by unfold NN; omega) (by rw [hs2.2.1]; unfold ZZ; omega) (by omega) (by omega) wa_int ?_
  have hs3 := hs2.new 20 256 12 1535 rfl rfl rfl rfl
  generalize newO mm2 20 256 = mm3 at hs3 ⊢
  refine V_putR (pc := 18) dX6_init_18 fw_RX6_15 rfl (hs3.t 9 rfl rfl) (Or.inl rfl) (fun o_ h_ => by cases h_; unfold SC; omega) ?_
  have hs4 := hs3.sR 9 2 (some 11)
  generalize setR mm3 9 2 (some 11) = mm4 at hs4 ⊢
  refine V_ld (pc := 21) dX6_init_21 (v := vr 9) rfl rfl ?_
  refine V_sipush (pc := 22) dX6_init_22 (by unfold I32; omega) (by decide) ?_
  refine V_newIv (pc := 25) (N := 320) 12 hs4.1 rfl dX6_init_25 (by unfold NN; omega) (by rw [hs4.2.1]; unfold ZZ; omega) (by omega) (by omega) wa_int ?_
  have hs5 := hs4.new 20 320 13 1855 rfl rfl rfl rfl
  generalize newO mm4 20 320 = mm5 at hs5 ⊢
  refine V_putR (pc := 27) dX6_init_27 fw_RX6_18 rfl (hs5.t 9 rfl rfl) (Or.inl rfl) (fun o_ h_ => by cases h_; unfold SC; omega) ?_
  have hs6 := hs5.sR 9 4 (some 12)
  generalize setR mm5 9 4 (some 12) = mm6 at hs6 ⊢
  refine V_ld (pc := 30) dX6_init_30 (v := vr 9) rfl rfl ?_
  refine V_ld (pc := 31) dX6_init_31 (v := vr 1) rfl rfl ?_
  refine V_putR (pc := 32) dX6_init_32 fw_RX6_21 rfl (hs6.t 9 rfl rfl) (Or.inr ⟨rfl, rfl⟩) (fun o_ h_ => by cases h_; unfold SC; omega) ?_
  have hs7 := hs6.sR 9 0 (some 1)
  generalize setR mm6 9 0 (some 1) = mm7 at hs7 ⊢
  refine V_retv (pc := 35) dX6_init_35 trivial ?_
  exact hs7

set_option maxHeartbeats 4000000 in
theorem c_init10  (m : Mem)    (hs0 : St m 1 7 [(0, 10, 7)] [] []) : Ct μX10_init 4 [vr 0] m (rv fun m' => St m' 30 3397 [(29, 21, 40), (28, 2, 2), (27, 21, 40), (26, 2, 2), (25, 21, 40), (24, 2, 2), (23, 21, 40), (22, 2, 2), (21, 20, 1056), (20, 20, 33), (19, 20, 33), (18, 3, 4), (17, 22, 4), (16, 20, 120), (15, 9, 2), (14, 20, 120), (13, 9, 2), (12, 20, 320), (11, 20, 256), (10, 20, 32), (9, 6, 14), (8, 20, 1056), (7, 20, 33), (6, 20, 33), (5, 3, 4), (4, 23, 26), (3, 20, 64), (2, 8, 2), (1, 7, 8), (0, 10, 7)] [(17, 3, some 28), (28, 0, some 29), (17, 2, some 26), (26, 0, some 27), (17, 1, some 24), (24, 0, some 25), (17, 0, some 22), (22, 0, some 23), (0, 5, some 18), (18, 2, some 21), (18, 1, some 20), (18, 0, some 19), (0, 4, some 17), (0, 3, some 15), (15, 0, some 16), (0, 2, some 13), (13, 0, some 14), (0, 1, some 9), (9, 0, some 1), (9, 4, some 12), (9, 2, some 11), (9, 1, some 10), (0, 0, some 1), (1, 3, some 5), (5, 2, some 8), (5, 1, some 7), (5, 0, some 6), (1, 1, some 4), (1, 0, some 2), (2, 0, some 3)] [(28, 1, (-1)), (26, 1, (-1)), (24, 1, (-1)), (22, 1, (-1)), (1, 7, 5000), (1, 6, 1), (1, 4, 0)]) := by
  refine Ct_of_V rfl (by decide) rfl (Nat.le_of_ble_eq_true rfl) ?_
  show V μX10_init 4 m _ 0 [(0, vr 0)] [] m
  refine V_ld (pc := 0) dX10_init_0 (v := vr 0) rfl rfl ?_
  refine V_objInit (pc := 1) dX10_init_1 oi_RX10_3 wo_i wo_c (by omega) (Nat.le_of_ble_eq_true rfl) ?_
  refine V_ld (pc := 4) dX10_init_4 (v := vr 0) rfl rfl ?_
  refine V_newv (pc := 5) 1 hs0.1 dX10_init_5 nw_RX10_9 (by unfold NN; omega) (by rw [hs0.2.1]; unfold ZZ; omega) ?_
  have hs1 := hs0.new 7 8 2 15 rfl rfl rfl rfl
  generalize newO m 7 8 = mm1 at hs1 ⊢
  refine V_dup (pc := 8) dX10_init_8 rfl ?_
  refine V_callN (pc := 9) dX10_init_9 (F' := 3) (As := []) (st := [vr 1, vr 0]) cn_RX10_11 rfl rfl (Nat.le_of_ble_eq_true rfl) (by omega) (c_sit0 mm1 hs1) ?_
  rintro _ mm2 ⟨rfl, hs2⟩ ok9 le9
  refine V_putR (pc := 12) dX10_init_12 fw_RX10_12 rfl (hs2.t 0 rfl rfl) (Or.inr ⟨rfl, rfl⟩) (fun o_ h_ => by cases h_; unfold SC; omega) ?_
  have hs3 := hs2.sR 0 0 (some 1)
  generalize setR mm2 0 0 (some 1) = mm3 at hs3 ⊢
  refine V_ld (pc := 15) dX10_init_15 (v := vr 0) rfl rfl ?_
  refine V_newv (pc := 16) 9 hs3.1 dX10_init_16 nw_RX10_18 (by unfold NN; omega) (by rw [hs3.2.1]; unfold ZZ; omega) ?_
  have hs4 := hs3.new 6 14 10 1247 rfl rfl rfl rfl
  generalize newO mm3 6 14 = mm4 at hs4 ⊢
  refine V_dup (pc := 19) dX10_init_19 rfl ?_
  refine V_ld (pc := 20) dX10_init_20 (v := vr 0) rfl rfl ?_
  refine V_getRv (pc := 21) dX10_init_21 (o' := 1) fw_RX10_12 rfl (hs4.t 0 rfl rfl) (hs4.r 0 0 rfl) ?_
  refine V_callI (pc := 24) dX10_init_24 (F' := 1) (As := [vr 1]) (st := [vr 9, vr 0]) cw_RX10_20 rfl rfl (Nat.le_of_ble_eq_true rfl) (by omega) (c_search0 mm4 hs4) ?_
  rintro _ mm5 ⟨rfl, hs5⟩ ok24 le24
  refine V_putR (pc := 27) dX10_init_27 fw_RX10_23 rfl (hs5.t 0 rfl rfl) (Or.inr ⟨rfl, rfl⟩) (fun o_ h_ => by cases h_; unfold SC; omega) ?_
  have hs6 := hs5.sR 0 1 (some 9)
  generalize setR mm5 0 1 (some 9) = mm6 at hs6 ⊢
  refine V_ld (pc := 30) dX10_init_30 (v := vr 0) rfl rfl ?_
  refine V_newv (pc := 31) 13 hs6.1 dX10_init_31 nw_RX10_27 (by unfold NN; omega) (by rw [hs6.2.1]; unfold ZZ; omega) ?_
  have hs7 := hs6.new 9 2 14 1857 rfl rfl rfl rfl
  generalize newO mm6 9 2 = mm7 at hs7 ⊢
  refine V_dup (pc := 34) dX10_init_34 rfl ?_
  refine V_callN (pc := 35) dX10_init_35 (F' := 1) (As := []) (st := [vr 13, vr 0]) cn_RX10_29 rfl rfl (Nat.le_of_ble_eq_true rfl) (by omega) (c_Text_init mm7 13 (hs7.t 13 rfl rfl) ⟨by rw [hs7.1]; omega, by rw [hs7.1]; unfold NN; omega, by rw [hs7.2.1]; unfold ZZ; omega⟩) ?_
  rintro _ mq35 ⟨rfl, hq35⟩ ok35 le35
  clear ok35 le35
  rw [hs7.1] at hq35
  have hs8 := hs7.new 20 120 15 1977 rfl rfl rfl rfl
  generalize newO mm7 20 120 = mm8 at hs8 hq35
  have hs9 := (show St (setR mm8 13 0 (some 14)) _ _ _ _ _ from hs8.sR 13 0 (some 14))
  generalize setR mm8 13 0 (some 14) = mm9 at hs9 hq35
  subst hq35
  refine V_putR (pc := 38) dX10_init_38 fw_RX10_30 rfl (hs9.t 0 rfl rfl) (Or.inr ⟨rfl, rfl⟩) (fun o_ h_ => by cases h_; unfold SC; omega) ?_
  have hs10 := hs9.sR 0 2 (some 13)
  generalize setR mm9 0 2 (some 13) = mm10 at hs10 ⊢
  refine V_ld (pc := 41) dX10_init_41 (v := vr 0) rfl rfl ?_
  refine V_newv (pc := 42) 15 hs10.1 dX10_init_42 nw_RX10_27 (by unfold NN; omega) (by rw [hs10.2.1]; unfold ZZ; omega) ?_
  have hs11 := hs10.new 9 2 16 1979 rfl rfl rfl rfl
  generalize newO mm10 9 2 = mm11 at hs11 ⊢
  refine V_dup (pc := 45) dX10_init_45 rfl ?_
  refine V_callN (pc := 46) dX10_init_46 (F' := 1) (As := []) (st := [vr 15, vr 0]) cn_RX10_29 rfl rfl (Nat.le_of_ble_eq_true rfl) (by omega) (c_Text_init mm11 15 (hs11.t 15 rfl rfl) ⟨by rw [hs11.1]; omega, by rw [hs11.1]; unfold NN; omega, by rw [hs11.2.1]; unfold ZZ; omega⟩) ?_
  rintro _ mq46 ⟨rfl, hq46⟩ ok46 le46
  clear ok46 le46
  rw [hs11.1] at hq46
  have hs12 := hs11.new 20 120 17 2099 rfl rfl rfl rfl
  generalize newO mm11 20 120 = mm12 at hs12 hq46
  have hs13 := (show St (setR mm12 15 0 (some 16)) _ _ _ _ _ from hs12.sR 15 0 (some 16))
  generalize setR mm12 15 0 (some 16) = mm13 at hs13 hq46
  subst hq46
  refine V_putR (pc := 49) dX10_init_49 fw_RX10_34 rfl (hs13.t 0 rfl rfl) (Or.inr ⟨rfl, rfl⟩) (fun o_ h_ => by cases h_; unfold SC; omega) ?_
  have hs14 := hs13.sR 0 3 (some 15)
  generalize setR mm13 0 3 (some 15) = mm14 at hs14 ⊢
  refine V_ld (pc := 52) dX10_init_52 (v := vr 0) rfl rfl ?_
  refine V_iconst (pc := 53) dX10_init_53 (by unfold I32; omega) ?_
  refine V_newQv (pc := 54) (N := 4) 17 hs14.1 rfl dX10_init_54 (by unfold NN; omega) (by rw [hs14.2.1]; unfold ZZ; omega) (by omega) (by omega) (Or.inl ⟨rfl, rfl⟩) cl_RX10_37 ?_
  have hs15 := hs14.new 22 4 18 2103 rfl rfl rfl rfl
  generalize newO mm14 22 4 = mm15 at hs15 ⊢
  refine V_putR (pc := 57) dX10_init_57 fw_RX10_39 rfl (hs15.t 0 rfl rfl) (Or.inr ⟨rfl, rfl⟩) (fun o_ h_ => by cases h_; unfold SC; omega) ?_
  have hs16 := hs15.sR 0 4 (some 17)
  generalize setR mm15 0 4 (some 17) = mm16 at hs16 ⊢
  refine V_ld (pc := 60) dX10_init_60 (v := vr 0) rfl rfl ?_
  refine V_newv (pc := 61) 18 hs16.1 dX10_init_61 nw_RX10_43 (by unfold NN; omega) (by rw [hs16.2.1]; unfold ZZ; omega) ?_
  have hs17 := hs16.new 3 4 19 2107 rfl rfl rfl rfl
  generalize newO mm16 3 4 = mm17 at hs17 ⊢
  refine V_dup (pc := 64) dX10_init_64 rfl ?_
  refine V_callN (pc := 65) dX10_init_65 (F' := 1) (As := []) (st := [vr 18, vr 0]) cn_RX10_45 rfl rfl (Nat.le_of_ble_eq_true rfl) (by omega) (c_Mat_init mm17 18 (hs17.t 18 rfl rfl) ⟨by rw [hs17.1]; omega, by rw [hs17.1]; unfold NN; omega, by rw [hs17.2.1]; unfold ZZ; omega⟩) ?_
  rintro _ mq65 ⟨rfl, hq65⟩ ok65 le65
  clear ok65 le65
  rw [hs17.1] at hq65
  have hs18 := hs17.new 20 33 20 2140 rfl rfl rfl rfl
  generalize newO mm17 20 33 = mm18 at hs18 hq65
  have hs19 := (show St (setR mm18 18 0 (some 19)) _ _ _ _ _ from hs18.sR 18 0 (some 19))
  generalize setR mm18 18 0 (some 19) = mm19 at hs19 hq65
  have hs20 := hs19.new 20 33 21 2173 rfl rfl rfl rfl
  generalize newO mm19 20 33 = mm20 at hs20 hq65
  have hs21 := (show St (setR mm20 18 1 (some (19 + 1))) _ _ _ _ _ from hs20.sR 18 1 (some 20))
  generalize setR mm20 18 1 (some (19 + 1)) = mm21 at hs21 hq65
  have hs22 := hs21.new 20 1056 22 3229 rfl rfl rfl rfl
  generalize newO mm21 20 1056 = mm22 at hs22 hq65
  have hs23 := (show St (setR mm22 18 2 (some (19 + 2))) _ _ _ _ _ from hs22.sR 18 2 (some 21))
  generalize setR mm22 18 2 (some (19 + 2)) = mm23 at hs23 hq65
  subst hq65
  refine V_putR (pc := 68) dX10_init_68 fw_RX10_46 rfl (hs23.t 0 rfl rfl) (Or.inl rfl) (fun o_ h_ => by cases h_; unfold SC; omega) ?_
  have hs24 := hs23.sR 0 5 (some 18)
  generalize setR mm23 0 5 (some 18) = mm24 at hs24 ⊢
  refine V_iconst (pc := 71) dX10_init_71 (by unfold I32; omega) ?_
  refine V_st (pc := 72) dX10_init_72 (ls' := [(1, vi 0), (0, vr 0)]) rfl (Nat.le_of_ble_eq_true rfl) rfl ?_
  refine V_ld (pc := 73) dX10_init_73 (v := vi 0) rfl rfl ?_
  refine V_ld (pc := 74) dX10_init_74 (v := vr 0) rfl rfl ?_
  refine V_getRv (pc := 75) dX10_init_75 (o' := 17) fw_RX10_39 rfl (hs24.t 0 rfl rfl) (hs24.r 0 4 rfl) ?_
  refine V_alen (pc := 78) dX10_init_78 (hs24.t 17 rfl rfl) (by decide) (by omega) ?_
  refine V_icmp_ge (pc := 79) dX10_init_79 (tgt := 101) rfl (fun h_ => absurd h_ (by decide)) (fun _ => ?_)
  refine V_ld (pc := 82) dX10_init_82 (v := vr 0) rfl rfl ?_
  refine V_getRv (pc := 83) dX10_init_83 (o' := 17) fw_RX10_39 rfl (hs24.t 0 rfl rfl) (hs24.r 0 4 rfl) ?_
  refine V_ld (pc := 86) dX10_init_86 (v := vi 0) rfl rfl ?_
  refine V_newv (pc := 87) 22 hs24.1 dX10_init_87 nw_RX10_37 (by unfold NN; omega) (by rw [hs24.2.1]; unfold ZZ; omega) ?_
  have hs25 := hs24.new 2 2 23 3231 rfl rfl rfl rfl
  generalize newO mm24 2 2 = mm25 at hs25 ⊢
  refine V_dup (pc := 90) dX10_init_90 rfl ?_
  refine V_callN (pc := 91) dX10_init_91 (F' := 1) (As := []) (st := [vr 22, vi 0, vr 17]) cn_RX10_50 rfl rfl (Nat.le_of_ble_eq_true rfl) (by omega) (c_Longs_init mm25 22 (hs25.t 22 rfl rfl) ⟨by rw [hs25.1]; omega, by rw [hs25.1]; unfold NN; omega, by rw [hs25.2.1]; unfold ZZ; omega⟩) ?_
  rintro _ mq91 ⟨rfl, hq91⟩ ok91 le91
  clear ok91 le91
  rw [hs25.1] at hq91
  have hs26 := hs25.new 21 40 24 3271 rfl rfl rfl rfl
  generalize newO mm25 21 40 = mm26 at hs26 hq91
  have hs27 := (show St (setR mm26 22 0 (some 23)) _ _ _ _ _ from hs26.sR 22 0 (some 23))
  generalize setR mm26 22 0 (some 23) = mm27 at hs27 hq91
  have hs28 := hs27.sI 22 1 (-1)
  generalize setI mm27 22 1 (-1) = mm28 at hs28 hq91
  subst hq91
  refine V_aast (pc := 94) dX10_init_94 (hs28.t 17 rfl rfl) (Or.inl ⟨rfl, rfl⟩) (by decide) (fun o_ h_ => by cases h_; exact (hs28.t 22 rfl rfl)) ?_
  have hs29 := (show St (setR mm28 17 ((0 : Int).toNat) (some 22)) _ _ _ _ _ from hs28.sR 17 0 (some 22))
  generalize setR mm28 17 ((0 : Int).toNat) (some 22) = mm29 at hs29 ⊢
  refine V_iinc (pc := 95) dX10_init_95 (x := 0) (ls' := [(1, vi (0 + 1)), (0, vr 0)]) rfl (by unfold I32 at *; omega) (Nat.le_of_ble_eq_true rfl) rfl ?_
  show V μX10_init 4 m _ 98 [(1, vi 1), (0, vr 0)] [] mm29
  refine V_goto (pc := 98) dX10_init_98 (tgt := 73) rfl ?_
  refine V_ld (pc := 73) dX10_init_73 (v := vi 1) rfl rfl ?_
  refine V_ld (pc := 74) dX10_init_74 (v := vr 0) rfl rfl ?_
  refine V_getRv (pc := 75) dX10_init_75 (o' := 17) fw_RX10_39 rfl (hs29.t 0 rfl rfl) (hs29.r 0 4 rfl) ?_
  refine V_alen (pc := 78) dX10_init_78 (hs29.t 17 rfl rfl) (by decide) (by omega) ?_
  refine V_icmp_ge (pc := 79) dX10_init_79 (tgt := 101) rfl (fun h_ => absurd h_ (by decide)) (fun _ => ?_)
  refine V_ld (pc := 82) dX10_init_82 (v := vr 0) rfl rfl ?_
  refine V_getRv (pc := 83) dX10_init_83 (o' := 17) fw_RX10_39 rfl (hs29.t 0 rfl rfl) (hs29.r 0 4 rfl) ?_
  refine V_ld (pc := 86) dX10_init_86 (v := vi 1) rfl rfl ?_
  refine V_newv (pc := 87) 24 hs29.1 dX10_init_87 nw_RX10_37 (by unfold NN; omega) (by rw [hs29.2.1]; unfold ZZ; omega) ?_
  have hs30 := hs29.new 2 2 25 3273 rfl rfl rfl rfl
  generalize newO mm29 2 2 = mm30 at hs30 ⊢
  refine V_dup (pc := 90) dX10_init_90 rfl ?_
  refine V_callN (pc := 91) dX10_init_91 (F' := 1) (As := []) (st := [vr 24, vi 1, vr 17]) cn_RX10_50 rfl rfl (Nat.le_of_ble_eq_true rfl) (by omega) (c_Longs_init mm30 24 (hs30.t 24 rfl rfl) ⟨by rw [hs30.1]; omega, by rw [hs30.1]; unfold NN; omega, by rw [hs30.2.1]; unfold ZZ; omega⟩) ?_
  rintro _ mq91 ⟨rfl, hq91⟩ ok91 le91
  clear ok91 le91
  rw [hs30.1] at hq91
  have hs31 := hs30.new 21 40 26 3313 rfl rfl rfl rfl
  generalize newO mm30 21 40 = mm31 at hs31 hq91
  have hs32 := (show St (setR mm31 24 0 (some 25)) _ _ _ _ _ from hs31.sR 24 0 (some 25))
  generalize setR mm31 24 0 (some 25) = mm32 at hs32 hq91
  have hs33 := hs32.sI 24 1 (-1)
  generalize setI mm32 24 1 (-1) = mm33 at hs33 hq91
  subst hq91
  refine V_aast (pc := 94) dX10_init_94 (hs33.t 17 rfl rfl) (Or.inl ⟨rfl, rfl⟩) (by decide) (fun o_ h_ => by cases h_; exact (hs33.t 24 rfl rfl)) ?_
  have hs34 := (show St (setR mm33 17 ((1 : Int).toNat) (some 24)) _ _ _ _ _ from hs33.sR 17 1 (some 24))
  generalize setR mm33 17 ((1 : Int).toNat) (some 24) = mm34 at hs34 ⊢
  refine V_iinc (pc := 95) dX10_init_95 (x := 1) (ls' := [(1, vi (1 + 1)), (0, vr 0)]) rfl (by unfold I32 at *; omega) (Nat.le_of_ble_eq_true rfl) rfl ?_
  show V μX10_init 4 m _ 98 [(1, vi 2), (0, vr 0)] [] mm34
  refine V_goto (pc := 98) dX10_init_98 (tgt := 73) rfl ?_
  refine V_ld (pc := 73) dX10_init_73 (v := vi 2) rfl rfl ?_
  refine V_ld (pc := 74) dX10_init_74 (v := vr 0) rfl rfl ?_
  refine V_getRv (pc := 75) dX10_init_75 (o' := 17) fw_RX10_39 rfl (hs34.t 0 rfl rfl) (hs34.r 0 4 rfl) ?_
  refine V_alen (pc := 78) dX10_init_78 (hs34.t 17 rfl rfl) (by decide) (by omega) ?_
  refine V_icmp_ge (pc := 79) dX10_init_79 (tgt := 101) rfl (fun h_ => absurd h_ (by decide)) (fun _ => ?_)
  refine V_ld (pc := 82) dX10_init_82 (v := vr 0) rfl rfl ?_
  refine V_getRv (pc := 83) dX10_init_83 (o' := 17) fw_RX10_39 rfl (hs34.t 0 rfl rfl) (hs34.r 0 4 rfl) ?_
  refine V_ld (pc := 86) dX10_init_86 (v := vi 2) rfl rfl ?_
  refine V_newv (pc := 87) 26 hs34.1 dX10_init_87 nw_RX10_37 (by unfold NN; omega) (by rw [hs34.2.1]; unfold ZZ; omega) ?_
  have hs35 := hs34.new 2 2 27 3315 rfl rfl rfl rfl
  generalize newO mm34 2 2 = mm35 at hs35 ⊢
  refine V_dup (pc := 90) dX10_init_90 rfl ?_
  refine V_callN (pc := 91) dX10_init_91 (F' := 1) (As := []) (st := [vr 26, vi 2, vr 17]) cn_RX10_50 rfl rfl (Nat.le_of_ble_eq_true rfl) (by omega) (c_Longs_init mm35 26 (hs35.t 26 rfl rfl) ⟨by rw [hs35.1]; omega, by rw [hs35.1]; unfold NN; omega, by rw [hs35.2.1]; unfold ZZ; omega⟩) ?_
  rintro _ mq91 ⟨rfl, hq91⟩ ok91 le91
  clear ok91 le91
  rw [hs35.1] at hq91
  have hs36 := hs35.new 21 40 28 3355 rfl rfl rfl rfl
  generalize newO mm35 21 40 = mm36 at hs36 hq91
  have hs37 := (show St (setR mm36 26 0 (some 27)) _ _ _ _ _ from hs36.sR 26 0 (some 27))
  generalize setR mm36 26 0 (some 27) = mm37 at hs37 hq91
  have hs38 := hs37.sI 26 1 (-1)
  generalize setI mm37 26 1 (-1) = mm38 at hs38 hq91
  subst hq91
  refine V_aast (pc := 94) dX10_init_94 (hs38.t 17 rfl rfl) (Or.inl ⟨rfl, rfl⟩) (by decide) (fun o_ h_ => by cases h_; exact (hs38.t 26 rfl rfl)) ?_
  have hs39 := (show St (setR mm38 17 ((2 : Int).toNat) (some 26)) _ _ _ _ _ from hs38.sR 17 2 (some 26))
  generalize setR mm38 17 ((2 : Int).toNat) (some 26) = mm39 at hs39 ⊢
  refine V_iinc (pc := 95) dX10_init_95 (x := 2) (ls' := [(1, vi (2 + 1)), (0, vr 0)]) rfl (by unfold I32 at *; omega) (Nat.le_of_ble_eq_true rfl) rfl ?_
  show V μX10_init 4 m _ 98 [(1, vi 3), (0, vr 0)] [] mm39
  refine V_goto (pc := 98) dX10_init_98 (tgt := 73) rfl ?_
  refine V_ld (pc := 73) dX10_init_73 (v := vi 3) rfl rfl ?_
  refine V_ld (pc := 74) dX10_init_74 (v := vr 0) rfl rfl ?_
  refine V_getRv (pc := 75) dX10_init_75 (o' := 17) fw_RX10_39 rfl (hs39.t 0 rfl rfl) (hs39.r 0 4 rfl) ?_
  refine V_alen (pc := 78) dX10_init_78 (hs39.t 17 rfl rfl) (by decide) (by omega) ?_
  refine V_icmp_ge (pc := 79) dX10_init_79 (tgt := 101) rfl (fun h_ => absurd h_ (by decide)) (fun _ => ?_)
  refine V_ld (pc := 82) dX10_init_82 (v := vr 0) rfl rfl ?_
  refine V_getRv (pc := 83) dX10_init_83 (o' := 17) fw_RX10_39 rfl (hs39.t 0 rfl rfl) (hs39.r 0 4 rfl) ?_
  refine V_ld (pc := 86) dX10_init_86 (v := vi 3) rfl rfl ?_
  refine V_newv (pc := 87) 28 hs39.1 dX10_init_87 nw_RX10_37 (by unfold NN; omega) (by rw [hs39.2.1]; unfold ZZ; omega) ?_
  have hs40 := hs39.new 2 2 29 3357 rfl rfl rfl rfl
  generalize newO mm39 2 2 = mm40 at hs40 ⊢
  refine V_dup (pc := 90) dX10_init_90 rfl ?_
  refine V_callN (pc := 91) dX10_init_91 (F' := 1) (As := []) (st := [vr 28, vi 3, vr 17]) cn_RX10_50 rfl rfl (Nat.le_of_ble_eq_true rfl) (by omega) (c_Longs_init mm40 28 (hs40.t 28 rfl rfl) ⟨by rw [hs40.1]; omega, by rw [hs40.1]; unfold NN; omega, by rw [hs40.2.1]; unfold ZZ; omega⟩) ?_
  rintro _ mq91 ⟨rfl, hq91⟩ ok91 le91
  clear ok91 le91
  rw [hs40.1] at hq91
  have hs41 := hs40.new 21 40 30 3397 rfl rfl rfl rfl
  generalize newO mm40 21 40 = mm41 at hs41 hq91
  have hs42 := (show St (setR mm41 28 0 (some 29)) _ _ _ _ _ from hs41.sR 28 0 (some 29))
  generalize setR mm41 28 0 (some 29) = mm42 at hs42 hq91
  have hs43 := hs42.sI 28 1 (-1)
  generalize setI mm42 28 1 (-1) = mm43 at hs43 hq91
  subst hq91
  refine V_aast (pc := 94) dX10_init_94 (hs43.t 17 rfl rfl) (Or.inl ⟨rfl, rfl⟩) (by decide) (fun o_ h_ => by cases h_; exact (hs43.t 28 rfl rfl)) ?_
  have hs44 := (show St (setR mm43 17 ((3 : Int).toNat) (some 28)) _ _ _ _ _ from hs43.sR 17 3 (some 28))
  generalize setR mm43 17 ((3 : Int).toNat) (some 28) = mm44 at hs44 ⊢
  refine V_iinc (pc := 95) dX10_init_95 (x := 3) (ls' := [(1, vi (3 + 1)), (0, vr 0)]) rfl (by unfold I32 at *; omega) (Nat.le_of_ble_eq_true rfl) rfl ?_
  show V μX10_init 4 m _ 98 [(1, vi 4), (0, vr 0)] [] mm44
  refine V_goto (pc := 98) dX10_init_98 (tgt := 73) rfl ?_
  refine V_ld (pc := 73) dX10_init_73 (v := vi 4) rfl rfl ?_
  refine V_ld (pc := 74) dX10_init_74 (v := vr 0) rfl rfl ?_
  refine V_getRv (pc := 75) dX10_init_75 (o' := 17) fw_RX10_39 rfl (hs44.t 0 rfl rfl) (hs44.r 0 4 rfl) ?_
  refine V_alen (pc := 78) dX10_init_78 (hs44.t 17 rfl rfl) (by decide) (by omega) ?_
  refine V_icmp_ge (pc := 79) dX10_init_79 (tgt := 101) rfl (fun _ => ?_) (fun h_ => absurd h_ (by decide))
  refine V_retv (pc := 101) dX10_init_101 trivial ?_
  exact hs44

