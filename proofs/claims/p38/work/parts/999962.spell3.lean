/-! THE LAW'S spelled(), 2: times, the end, the beginning -/
set_option maxHeartbeats 4000000 in
theorem L_spE {F : Nat} {m0 : Mem} {PP : Option Nat → Mem → Prop} {M : Mem} {tt q p T : Nat} {V : Nat → Nat → Int} {w : List Int} (hF : 6 < F) (hW : SpW M q (mN M) T (V p) w) (hq : q < mN M) (hw : w.length ≤ 1000) (hr : mN M + 6 ≤ NN ∧ mZ M + (30 + 5 * w.length) ≤ ZZ)
    (kx : ∀ (m' : Mem) (o : Nat), Kp (mN M) M m' → mN M ≤ mN m' ∧ mN m' ≤ mN M + 6 → mZ m' ≤ mZ M + (30 + 5 * w.length) → StrO m' (mN m') o (w ++ if V p 0 = 6 then [41] else []) → PP (some o) m') : _root_.Jvm.Pilot.@@N@@.V μL_spelled F m0 (rq PP) 482 [(3, vr T), (2, vr q), (0, vr tt), (1, vi ((p : Nat) : Int))] [] M := by
  have kM0 : Kp (mN M) M M := Kp.rf
  have e0_ : ([] : List Int).length = 0 := rfl
  refine V_ld (pc := 482) dL_spelled_482 (v := vr q) rfl rfl ?_
  refine V_iconst (pc := 483) dL_spelled_483 (by unfold I32; omega) ?_
  refine V_ialdv (pc := 484) dL_spelled_484 (v := V p 0) hW.1 (by omega) (hW.2.1 0 (by decide)) (fun g484 => ?_)
  refine V_bipush (pc := 485) dL_spelled_485 (by unfold I32; omega) (by decide) ?_
  refine V_icmp_ne (pc := 487) dL_spelled_487 (tgt := 512) rfl (fun h487 => ?_) (fun h487 => ?_)
  · skip
    refine V_ld (pc := 512) dL_spelled_512 (v := vr T) rfl rfl ?_
    refine V_retq (pc := 513) dL_spelled_513 trivial ?_
    have e_ : w = w ++ (if V p 0 = 6 then [41] else []) := by
      rw [if_neg (by omega)]; simp
    exact kx _ _ kM0 ⟨by omega, by omega⟩ (by omega) (by rw [← e_]; exact hW.2.2)
  · skip
    refine V_newv (pc := 490) (mN M) rfl dL_spelled_490 nw_RL_78 (by omega) (by show mZ M + 4 ≤ ZZ; omega) ?_
    refine V_dup (pc := 493) dL_spelled_493 rfl ?_
    refine V_callI (pc := 494) dL_spelled_494 (F' := 2) (As := []) (st := [vr (mN M)]) cw_RL_80 rfl rfl (Nat.le_of_ble_eq_true rfl) (by omega) (w_new  (newO M 12 4) (mN M)   (mT_news (M := M) rfl) ⟨by show mN M + 1 + 1 ≤ NN; omega, by show mZ M + 4 + 16 ≤ ZZ; omega, Nat.lt_succ_self _⟩) ?_
    rintro _ _ ⟨rfl, rfl⟩ ok494 le494
    refine V_mem (m' := _root_.Jvm.Pilot.@@N@@.setI (_root_.Jvm.Pilot.@@N@@.setR (newO (newO M 12 4) 24 16) (mN M) 0 (some (mN M + 1))) (mN M) 1 0) rfl ?_
    have S497 := SbO.mk (m := M) (Nat.le_refl (mN M))
    have K497 := Kp.mk (m := M) (Nat.le_refl (mN M)) (by omega)
    have a497 : mN (_root_.Jvm.Pilot.@@N@@.setI (_root_.Jvm.Pilot.@@N@@.setR (newO (newO M 12 4) 24 16) (mN M) 0 (some (mN M + 1))) (mN M) 1 0) = mN M + 2 := rfl
    have b497 : mZ (_root_.Jvm.Pilot.@@N@@.setI (_root_.Jvm.Pilot.@@N@@.setR (newO (newO M 12 4) 24 16) (mN M) 0 (some (mN M + 1))) (mN M) 1 0) = mZ M + 20 := rfl
    generalize _root_.Jvm.Pilot.@@N@@.setI (_root_.Jvm.Pilot.@@N@@.setR (newO (newO M 12 4) 24 16) (mN M) 0 (some (mN M + 1))) (mN M) 1 0 = m497 at S497 K497 a497 b497 ⊢
    have c497 := hW.kp K497 (by omega) (by omega)
    have kM497 := kM0.tr (K497.le (by omega))
    refine V_ld (pc := 497) dL_spelled_497 (v := vr T) rfl rfl ?_
    refine V_callV (pc := 498) dL_spelled_498 (F' := 5) (As := [vr T]) (st := []) cw_RL_81 rfl rfl S497.2.2.1 (by decide) (Nat.le_of_ble_eq_true rfl) (by omega) (w_app (mN M) (mN M) ([] : List Int) w m497 (mN M) T   S497 c497.2.2 (by omega) (by omega) ⟨by omega, by omega⟩) ?_
    rintro _ m498 ⟨x498, rfl, hx498, hm498⟩ ok498 le498
    subst hx498
    have z498 := hm498.2.2
    (try simp only [List.length_append, List.length_cons, List.length_nil] at z498)
    have e498 : (([] : List Int) ++ w).length = 0 + w.length := by simp only [List.length_append, List.length_cons, List.length_nil] <;> omega
    have c498 := c497.kp hm498.2.1 (by omega) (by omega)
    have kM498 := kM497.tr (hm498.2.1.le (by omega))
    refine V_ldcS (pc := 501) dL_spelled_501 (i := 17) rfl (by decide) (by decide +kernel) ?_
    refine V_okM fun ok_ => ?_
    have el503 : ([41] : List Int).length = 1 := rfl
    refine V_callV (pc := 503) dL_spelled_503 (F' := 5) (As := [vr (kS 17)]) (st := []) cw_RL_81 rfl rfl hm498.1.2.2.1 (by decide) (Nat.le_of_ble_eq_true rfl) (by omega) (w_app (mN M) 0 (([] : List Int) ++ w) ([41]) m498 (mN M) (kS 17)   hm498.1 (litB_17 ▸ StrO.lit (B := 0) (i := 17) ok_ (by decide)) (by omega) (by omega) ⟨by omega, by omega⟩) ?_
    rintro _ m503 ⟨x503, rfl, hx503, hm503⟩ ok503 le503
    subst hx503
    have z503 := hm503.2.2
    (try simp only [List.length_append, List.length_cons, List.length_nil] at z503)
    have e503 : ((([] : List Int) ++ w) ++ [41]).length = 0 + w.length + 1 := by simp only [List.length_append, List.length_cons, List.length_nil] <;> omega
    have c503 := c498.kp hm503.2.1 (by omega) (by omega)
    have kM503 := kM498.tr (hm503.2.1.le (by omega))
    refine V_callV (pc := 506) dL_spelled_506 (F' := 6) (As := []) (st := []) cw_RL_96 rfl rfl hm503.1.2.2.1 (by decide) (Nat.le_of_ble_eq_true rfl) (by omega) (w_str (mN M) ((([] : List Int) ++ w) ++ [41]) m503 (mN M)   hm503.1 (by omega) ⟨by omega, by omega⟩) ?_
    rintro _ m506 ⟨x506, rfl, hx506, hm506⟩ ok506 le506
    subst hx506
    have z506 := hm506.2.2
    have c506 := c503.kp hm506.2.1 (by omega) (by omega)
    have kM506 := kM503.tr (hm506.2.1.le (by omega))
    refine V_goto (pc := 509) dL_spelled_509 (tgt := 513) rfl ?_
    refine V_retq (pc := 513) dL_spelled_513 trivial ?_
    have e_ : ((([] : List Int) ++ w) ++ [41]) = w ++ (if V p 0 = 6 then [41] else []) := by
      rw [if_pos (by omega)]; simp
    exact kx _ _ kM506 ⟨by omega, by omega⟩ (by omega) (by rw [← e_]; exact hm506.1)
set_option maxHeartbeats 4000000 in
theorem L_spF0 {F : Nat} {m0 : Mem} {post : Option AV → Mem → Prop} {M : Mem} {tt q p T : Nat} {V : Nat → Nat → Int} {w : List Int} (hF : 6 < F) (hW : SpW M q (mN M) T (V p) w) (hq : q < mN M) (hw : w.length ≤ 1000) (hr : mN M + 6 ≤ NN ∧ mZ M + (30 + 5 * w.length) ≤ ZZ)
    (kx : ∀ (m' : Mem) (T' : Nat), Kp (mN M) M m' → mN M ≤ mN m' ∧ mN m' ≤ mN M + 6 → mZ m' ≤ mZ M + (30 + 5 * w.length) → StrO m' (mN m') T' (w ++ if V p 4 = 0 then [63] else []) → _root_.Jvm.Pilot.@@N@@.V μL_spelled F m0 post 482 [(3, vr T'), (2, vr q), (0, vr tt), (1, vi ((p : Nat) : Int))] [] m') : _root_.Jvm.Pilot.@@N@@.V μL_spelled F m0 post 451 [(3, vr T), (2, vr q), (0, vr tt), (1, vi ((p : Nat) : Int))] [] M := by
  have kM0 : Kp (mN M) M M := Kp.rf
  have e0_ : ([] : List Int).length = 0 := rfl
  refine V_newv (pc := 451) (mN M) rfl dL_spelled_451 nw_RL_78 (by omega) (by show mZ M + 4 ≤ ZZ; omega) ?_
  refine V_dup (pc := 454) dL_spelled_454 rfl ?_
  refine V_callI (pc := 455) dL_spelled_455 (F' := 2) (As := []) (st := [vr (mN M)]) cw_RL_80 rfl rfl (Nat.le_of_ble_eq_true rfl) (by omega) (w_new  (newO M 12 4) (mN M)   (mT_news (M := M) rfl) ⟨by show mN M + 1 + 1 ≤ NN; omega, by show mZ M + 4 + 16 ≤ ZZ; omega, Nat.lt_succ_self _⟩) ?_
  rintro _ _ ⟨rfl, rfl⟩ ok455 le455
  refine V_mem (m' := _root_.Jvm.Pilot.@@N@@.setI (_root_.Jvm.Pilot.@@N@@.setR (newO (newO M 12 4) 24 16) (mN M) 0 (some (mN M + 1))) (mN M) 1 0) rfl ?_
  have S458 := SbO.mk (m := M) (Nat.le_refl (mN M))
  have K458 := Kp.mk (m := M) (Nat.le_refl (mN M)) (by omega)
  have a458 : mN (_root_.Jvm.Pilot.@@N@@.setI (_root_.Jvm.Pilot.@@N@@.setR (newO (newO M 12 4) 24 16) (mN M) 0 (some (mN M + 1))) (mN M) 1 0) = mN M + 2 := rfl
  have b458 : mZ (_root_.Jvm.Pilot.@@N@@.setI (_root_.Jvm.Pilot.@@N@@.setR (newO (newO M 12 4) 24 16) (mN M) 0 (some (mN M + 1))) (mN M) 1 0) = mZ M + 20 := rfl
  generalize _root_.Jvm.Pilot.@@N@@.setI (_root_.Jvm.Pilot.@@N@@.setR (newO (newO M 12 4) 24 16) (mN M) 0 (some (mN M + 1))) (mN M) 1 0 = m458 at S458 K458 a458 b458 ⊢
  have c458 := hW.kp K458 (by omega) (by omega)
  have kM458 := kM0.tr (K458.le (by omega))
  refine V_ld (pc := 458) dL_spelled_458 (v := vr T) rfl rfl ?_
  refine V_callV (pc := 459) dL_spelled_459 (F' := 5) (As := [vr T]) (st := []) cw_RL_81 rfl rfl S458.2.2.1 (by decide) (Nat.le_of_ble_eq_true rfl) (by omega) (w_app (mN M) (mN M) ([] : List Int) w m458 (mN M) T   S458 c458.2.2 (by omega) (by omega) ⟨by omega, by omega⟩) ?_
  rintro _ m459 ⟨x459, rfl, hx459, hm459⟩ ok459 le459
  subst hx459
  have z459 := hm459.2.2
  (try simp only [List.length_append, List.length_cons, List.length_nil] at z459)
  have e459 : (([] : List Int) ++ w).length = 0 + w.length := by simp only [List.length_append, List.length_cons, List.length_nil] <;> omega
  have c459 := c458.kp hm459.2.1 (by omega) (by omega)
  have kM459 := kM458.tr (hm459.2.1.le (by omega))
  refine V_ld (pc := 462) dL_spelled_462 (v := vr q) rfl rfl ?_
  refine V_iconst (pc := 463) dL_spelled_463 (by unfold I32; omega) ?_
  refine V_ialdv (pc := 464) dL_spelled_464 (v := V p 4) c459.1 (by omega) (c459.2.1 4 (by decide)) (fun g464 => ?_)
  refine V_if_ne (pc := 465) dL_spelled_465 (tgt := 473) rfl (fun h465 => ?_) (fun h465 => ?_)
  · skip
    refine V_ldcS (pc := 473) dL_spelled_473 (i := 8) rfl (by decide) (by decide +kernel) ?_
    refine V_okM fun ok_ => ?_
    have el475 : ([] : List Int).length = 0 := rfl
    refine V_callV (pc := 475) dL_spelled_475 (F' := 5) (As := [vr (kS 8)]) (st := []) cw_RL_81 rfl rfl hm459.1.2.2.1 (by decide) (Nat.le_of_ble_eq_true rfl) (by omega) (w_app (mN M) 0 (([] : List Int) ++ w) ([]) m459 (mN M) (kS 8)   hm459.1 (litB_8 ▸ StrO.lit (B := 0) (i := 8) ok_ (by decide)) (by omega) (by omega) ⟨by omega, by omega⟩) ?_
    rintro _ m475 ⟨x475, rfl, hx475, hm475⟩ ok475 le475
    subst hx475
    have z475 := hm475.2.2
    (try simp only [List.length_append, List.length_cons, List.length_nil] at z475)
    have e475 : ((([] : List Int) ++ w) ++ []).length = 0 + w.length + 0 := by simp only [List.length_append, List.length_cons, List.length_nil] <;> omega
    have c475 := c459.kp hm475.2.1 (by omega) (by omega)
    have kM475 := kM459.tr (hm475.2.1.le (by omega))
    refine V_callV (pc := 478) dL_spelled_478 (F' := 6) (As := []) (st := []) cw_RL_96 rfl rfl hm475.1.2.2.1 (by decide) (Nat.le_of_ble_eq_true rfl) (by omega) (w_str (mN M) ((([] : List Int) ++ w) ++ []) m475 (mN M)   hm475.1 (by omega) ⟨by omega, by omega⟩) ?_
    rintro _ m478 ⟨x478, rfl, hx478, hm478⟩ ok478 le478
    subst hx478
    have z478 := hm478.2.2
    have c478 := c475.kp hm478.2.1 (by omega) (by omega)
    have kM478 := kM475.tr (hm478.2.1.le (by omega))
    refine V_st (pc := 481) dL_spelled_481 (ls' := [(3, vr (mN m475)), (2, vr q), (0, vr tt), (1, vi ((p : Nat) : Int))]) rfl (Nat.le_of_ble_eq_true rfl) rfl ?_
    skip
    have e_ : ((([] : List Int) ++ w) ++ []) = w ++ (if V p 4 = 0 then [63] else []) := by
      first
      | (rw [if_pos (by omega)]; simp; done)
      | (rw [if_neg (by omega)]; simp; done)
    exact kx _ _ kM478 ⟨by omega, by omega⟩ (by omega) (by rw [← e_]; exact hm478.1)
  · skip
    refine V_ldcS (pc := 468) dL_spelled_468 (i := 20) rfl (by decide) (by decide +kernel) ?_
    refine V_goto (pc := 470) dL_spelled_470 (tgt := 475) rfl ?_
    refine V_okM fun ok_ => ?_
    have el475 : ([63] : List Int).length = 1 := rfl
    refine V_callV (pc := 475) dL_spelled_475 (F' := 5) (As := [vr (kS 20)]) (st := []) cw_RL_81 rfl rfl hm459.1.2.2.1 (by decide) (Nat.le_of_ble_eq_true rfl) (by omega) (w_app (mN M) 0 (([] : List Int) ++ w) ([63]) m459 (mN M) (kS 20)   hm459.1 (litB_20 ▸ StrO.lit (B := 0) (i := 20) ok_ (by decide)) (by omega) (by omega) ⟨by omega, by omega⟩) ?_
    rintro _ m475 ⟨x475, rfl, hx475, hm475⟩ ok475 le475
    subst hx475
    have z475 := hm475.2.2
    (try simp only [List.length_append, List.length_cons, List.length_nil] at z475)
    have e475 : ((([] : List Int) ++ w) ++ [63]).length = 0 + w.length + 1 := by simp only [List.length_append, List.length_cons, List.length_nil] <;> omega
    have c475 := c459.kp hm475.2.1 (by omega) (by omega)
    have kM475 := kM459.tr (hm475.2.1.le (by omega))
    refine V_callV (pc := 478) dL_spelled_478 (F' := 6) (As := []) (st := []) cw_RL_96 rfl rfl hm475.1.2.2.1 (by decide) (Nat.le_of_ble_eq_true rfl) (by omega) (w_str (mN M) ((([] : List Int) ++ w) ++ [63]) m475 (mN M)   hm475.1 (by omega) ⟨by omega, by omega⟩) ?_
    rintro _ m478 ⟨x478, rfl, hx478, hm478⟩ ok478 le478
    subst hx478
    have z478 := hm478.2.2
    have c478 := c475.kp hm478.2.1 (by omega) (by omega)
    have kM478 := kM475.tr (hm478.2.1.le (by omega))
    refine V_st (pc := 481) dL_spelled_481 (ls' := [(3, vr (mN m475)), (2, vr q), (0, vr tt), (1, vi ((p : Nat) : Int))]) rfl (Nat.le_of_ble_eq_true rfl) rfl ?_
    skip
    have e_ : ((([] : List Int) ++ w) ++ [63]) = w ++ (if V p 4 = 0 then [63] else []) := by
      first
      | (rw [if_pos (by omega)]; simp; done)
      | (rw [if_neg (by omega)]; simp; done)
    exact kx _ _ kM478 ⟨by omega, by omega⟩ (by omega) (by rw [← e_]; exact hm478.1)
set_option maxHeartbeats 8000000 in
theorem L_spQ {F : Nat} {m0 : Mem} {post : Option AV → Mem → Prop} {M : Mem} {tt q p T : Nat} {V : Nat → Nat → Int} {w : List Int} (hF : 6 < F) (hW : SpW M q (mN M) T (V p) w) (hq : q < mN M) {s : Nat} (hQ_ : QB (V p 2) (V p 3) (V p 4)) (hn : ¬ (V p 2 = 0 ∧ V p 3 = 100) ∧ ¬ (V p 2 = 1 ∧ V p 3 = 100) ∧ ¬ (V p 2 = 0 ∧ V p 3 = 1)) (hr : mN M + 14 ≤ NN ∧ mZ M + 90 ≤ ZZ)
    (kx : ∀ (m' : Mem) (T' : Nat), Kp (mN M) M m' → mN M ≤ mN m' ∧ mN m' ≤ mN M + 14 → mZ m' ≤ mZ M + 90 → StrO m' (mN m') T' (q1T (V p 2) (V p 3)) → _root_.Jvm.Pilot.@@N@@.V μL_spelled F m0 post 444 [(5, vi (V p 3)), (4, vi (V p 2)), (3, vr T), (2, vr q), (0, vr tt), (1, vi ((p : Nat) : Int))] [vr T', vr s] m') : _root_.Jvm.Pilot.@@N@@.V μL_spelled F m0 post 372 [(5, vi (V p 3)), (4, vi (V p 2)), (3, vr T), (2, vr q), (0, vr tt), (1, vi ((p : Nat) : Int))] [vr s] M := by
  unfold QB at hQ_
  have kM0 : Kp (mN M) M M := Kp.rf
  have e0_ : ([] : List Int).length = 0 := rfl
  refine V_newv (pc := 372) (mN M) rfl dL_spelled_372 nw_RL_78 (by omega) (by show mZ M + 4 ≤ ZZ; omega) ?_
  refine V_dup (pc := 375) dL_spelled_375 rfl ?_
  refine V_callI (pc := 376) dL_spelled_376 (F' := 2) (As := []) (st := [vr (mN M), vr s]) cw_RL_80 rfl rfl (Nat.le_of_ble_eq_true rfl) (by omega) (w_new  (newO M 12 4) (mN M)   (mT_news (M := M) rfl) ⟨by show mN M + 1 + 1 ≤ NN; omega, by show mZ M + 4 + 16 ≤ ZZ; omega, Nat.lt_succ_self _⟩) ?_
  rintro _ _ ⟨rfl, rfl⟩ ok376 le376
  refine V_mem (m' := _root_.Jvm.Pilot.@@N@@.setI (_root_.Jvm.Pilot.@@N@@.setR (newO (newO M 12 4) 24 16) (mN M) 0 (some (mN M + 1))) (mN M) 1 0) rfl ?_
  have S379 := SbO.mk (m := M) (Nat.le_refl (mN M))
  have K379 := Kp.mk (m := M) (Nat.le_refl (mN M)) (by omega)
  have a379 : mN (_root_.Jvm.Pilot.@@N@@.setI (_root_.Jvm.Pilot.@@N@@.setR (newO (newO M 12 4) 24 16) (mN M) 0 (some (mN M + 1))) (mN M) 1 0) = mN M + 2 := rfl
  have b379 : mZ (_root_.Jvm.Pilot.@@N@@.setI (_root_.Jvm.Pilot.@@N@@.setR (newO (newO M 12 4) 24 16) (mN M) 0 (some (mN M + 1))) (mN M) 1 0) = mZ M + 20 := rfl
  generalize _root_.Jvm.Pilot.@@N@@.setI (_root_.Jvm.Pilot.@@N@@.setR (newO (newO M 12 4) 24 16) (mN M) 0 (some (mN M + 1))) (mN M) 1 0 = m379 at S379 K379 a379 b379 ⊢
  have c379 := hW.kp K379 (by omega) (by omega)
  have kM379 := kM0.tr (K379.le (by omega))
  refine V_ldcS (pc := 379) dL_spelled_379 (i := 21) rfl (by decide) (by decide +kernel) ?_
  refine V_okM fun ok_ => ?_
  have el381 : ([123] : List Int).length = 1 := rfl
  refine V_callV (pc := 381) dL_spelled_381 (F' := 5) (As := [vr (kS 21)]) (st := [vr s]) cw_RL_81 rfl rfl S379.2.2.1 (by decide) (Nat.le_of_ble_eq_true rfl) (by omega) (w_app (mN M) 0 ([] : List Int) ([123]) m379 (mN M) (kS 21)   S379 (litB_21 ▸ StrO.lit (B := 0) (i := 21) ok_ (by decide)) (by omega) (by omega) ⟨by omega, by omega⟩) ?_
  rintro _ m381 ⟨x381, rfl, hx381, hm381⟩ ok381 le381
  subst hx381
  have z381 := hm381.2.2
  (try simp only [List.length_append, List.length_cons, List.length_nil] at z381)
  have e381 : (([] : List Int) ++ [123]).length = 0 + 1 := by simp only [List.length_append, List.length_cons, List.length_nil] <;> omega
  have c381 := c379.kp hm381.2.1 (by omega) (by omega)
  have kM381 := kM379.tr (hm381.2.1.le (by omega))
  refine V_ld (pc := 384) dL_spelled_384 (v := vi (V p 2)) rfl rfl ?_
  refine V_callV (pc := 386) dL_spelled_386 (F' := 5) (As := [vi (V p 2)]) (st := [vr s]) cw_RL_136 rfl rfl hm381.1.2.2.1 (by decide) (Nat.le_of_ble_eq_true rfl) (by omega) (w_fig (mN M) (([] : List Int) ++ [123]) m381 (mN M) (V p 2)   hm381.1 (by omega) (by omega) ⟨by omega, by omega⟩) ?_
  rintro _ m386 ⟨x386, rfl, hx386, hm386⟩ ok386 le386
  subst hx386
  have z386 := hm386.2.2
  (try simp only [List.length_append, List.length_cons, List.length_nil] at z386)
  have e386 : ((([] : List Int) ++ [123]) ++ [48 + V p 2]).length = 0 + 1 + 1 := by simp only [List.length_append, List.length_cons, List.length_nil] <;> omega
  have c386 := c381.kp hm386.2.1 (by omega) (by omega)
  have kM386 := kM381.tr (hm386.2.1.le (by omega))
  refine V_ld (pc := 389) dL_spelled_389 (v := vi (V p 3)) rfl rfl ?_
  refine V_ld (pc := 391) dL_spelled_391 (v := vi (V p 2)) rfl rfl ?_
  refine V_icmp_ne (pc := 393) dL_spelled_393 (tgt := 401) rfl (fun h393 => ?_) (fun h393 => ?_)
  · skip
    refine V_ld (pc := 401) dL_spelled_401 (v := vi (V p 3)) rfl rfl ?_
    refine V_bipush (pc := 403) dL_spelled_403 (by unfold I32; omega) (by decide) ?_
    refine V_icmp_ne (pc := 405) dL_spelled_405 (tgt := 413) rfl (fun h405 => ?_) (fun h405 => ?_)
    · skip
      refine V_newv (pc := 413) (mN m386) rfl dL_spelled_413 nw_RL_78 (by omega) (by show mZ m386 + 4 ≤ ZZ; omega) ?_
      refine V_dup (pc := 416) dL_spelled_416 rfl ?_
      refine V_callI (pc := 417) dL_spelled_417 (F' := 2) (As := []) (st := [vr (mN m386), vr (mN M), vr s]) cw_RL_80 rfl rfl (Nat.le_of_ble_eq_true rfl) (by omega) (w_new  (newO m386 12 4) (mN m386)   (mT_news (M := m386) rfl) ⟨by show mN m386 + 1 + 1 ≤ NN; omega, by show mZ m386 + 4 + 16 ≤ ZZ; omega, Nat.lt_succ_self _⟩) ?_
      rintro _ _ ⟨rfl, rfl⟩ ok417 le417
      refine V_mem (m' := _root_.Jvm.Pilot.@@N@@.setI (_root_.Jvm.Pilot.@@N@@.setR (newO (newO m386 12 4) 24 16) (mN m386) 0 (some (mN m386 + 1))) (mN m386) 1 0) rfl ?_
      have S420 := SbO.mk (m := m386) (Nat.le_refl (mN m386))
      have K420 := Kp.mk (m := m386) (Nat.le_refl (mN m386)) (by omega)
      have a420 : mN (_root_.Jvm.Pilot.@@N@@.setI (_root_.Jvm.Pilot.@@N@@.setR (newO (newO m386 12 4) 24 16) (mN m386) 0 (some (mN m386 + 1))) (mN m386) 1 0) = mN m386 + 2 := rfl
      have b420 : mZ (_root_.Jvm.Pilot.@@N@@.setI (_root_.Jvm.Pilot.@@N@@.setR (newO (newO m386 12 4) 24 16) (mN m386) 0 (some (mN m386 + 1))) (mN m386) 1 0) = mZ m386 + 20 := rfl
      generalize _root_.Jvm.Pilot.@@N@@.setI (_root_.Jvm.Pilot.@@N@@.setR (newO (newO m386 12 4) 24 16) (mN m386) 0 (some (mN m386 + 1))) (mN m386) 1 0 = m420 at S420 K420 a420 b420 ⊢
      have c420 := c386.kp K420 (by omega) (by omega)
      have kM420 := kM386.tr (K420.le (by omega))
      refine V_ldcS (pc := 420) dL_spelled_420 (i := 15) rfl (by decide) (by decide +kernel) ?_
      refine V_okM fun ok_ => ?_
      have el422 : ([44] : List Int).length = 1 := rfl
      refine V_callV (pc := 422) dL_spelled_422 (F' := 5) (As := [vr (kS 15)]) (st := [vr (mN M), vr s]) cw_RL_81 rfl rfl S420.2.2.1 (by decide) (Nat.le_of_ble_eq_true rfl) (by omega) (w_app (mN m386) 0 ([] : List Int) ([44]) m420 (mN m386) (kS 15)   S420 (litB_15 ▸ StrO.lit (B := 0) (i := 15) ok_ (by decide)) (by omega) (by omega) ⟨by omega, by omega⟩) ?_
      rintro _ m422 ⟨x422, rfl, hx422, hm422⟩ ok422 le422
      subst hx422
      have z422 := hm422.2.2
      (try simp only [List.length_append, List.length_cons, List.length_nil] at z422)
      have e422 : (([] : List Int) ++ [44]).length = 0 + 1 := by simp only [List.length_append, List.length_cons, List.length_nil] <;> omega
      have c422 := c420.kp hm422.2.1 (by omega) (by omega)
      have kM422 := kM420.tr (hm422.2.1.le (by omega))
      have kk422_0 := K420.tr (hm422.2.1.le (by omega))
      refine V_ld (pc := 425) dL_spelled_425 (v := vi (V p 3)) rfl rfl ?_
      refine V_callV (pc := 427) dL_spelled_427 (F' := 5) (As := [vi (V p 3)]) (st := [vr (mN M), vr s]) cw_RL_136 rfl rfl hm422.1.2.2.1 (by decide) (Nat.le_of_ble_eq_true rfl) (by omega) (w_fig (mN m386) (([] : List Int) ++ [44]) m422 (mN m386) (V p 3)   hm422.1 (by omega) (by omega) ⟨by omega, by omega⟩) ?_
      rintro _ m427 ⟨x427, rfl, hx427, hm427⟩ ok427 le427
      subst hx427
      have z427 := hm427.2.2
      (try simp only [List.length_append, List.length_cons, List.length_nil] at z427)
      have e427 : ((([] : List Int) ++ [44]) ++ [48 + V p 3]).length = 0 + 1 + 1 := by simp only [List.length_append, List.length_cons, List.length_nil] <;> omega
      have c427 := c422.kp hm427.2.1 (by omega) (by omega)
      have kM427 := kM422.tr (hm427.2.1.le (by omega))
      have kk427_0 := kk422_0.tr (hm427.2.1.le (by omega))
      refine V_callV (pc := 430) dL_spelled_430 (F' := 6) (As := []) (st := [vr (mN M), vr s]) cw_RL_96 rfl rfl hm427.1.2.2.1 (by decide) (Nat.le_of_ble_eq_true rfl) (by omega) (w_str (mN m386) ((([] : List Int) ++ [44]) ++ [48 + V p 3]) m427 (mN m386)   hm427.1 (by omega) ⟨by omega, by omega⟩) ?_
      rintro _ m430 ⟨x430, rfl, hx430, hm430⟩ ok430 le430
      subst hx430
      have z430 := hm430.2.2
      have c430 := c427.kp hm430.2.1 (by omega) (by omega)
      have kM430 := kM427.tr (hm430.2.1.le (by omega))
      have kk430_0 := kk427_0.tr (hm430.2.1.le (by omega))
      have S430 := hm386.1.kp kk430_0 (Nat.le_refl _) (by omega)
      skip
      refine V_callV (pc := 433) dL_spelled_433 (F' := 5) (As := [vr (mN m427)]) (st := [vr s]) cw_RL_81 rfl rfl S430.2.2.1 (by decide) (Nat.le_of_ble_eq_true rfl) (by omega) (w_app (mN M) (mN m430) ((([] : List Int) ++ [123]) ++ [48 + V p 2]) ((([] : List Int) ++ [44]) ++ [48 + V p 3]) m430 (mN M) (mN m427)   S430 hm430.1 (by omega) (by omega) ⟨by omega, by omega⟩) ?_
      rintro _ m433 ⟨x433, rfl, hx433, hm433⟩ ok433 le433
      subst hx433
      have z433 := hm433.2.2
      (try simp only [List.length_append, List.length_cons, List.length_nil] at z433)
      have e433 : (((([] : List Int) ++ [123]) ++ [48 + V p 2]) ++ ((([] : List Int) ++ [44]) ++ [48 + V p 3])).length = 0 + 1 + 1 + (0 + 1 + 1) := by simp only [List.length_append, List.length_cons, List.length_nil] <;> omega
      have c433 := c430.kp hm433.2.1 (by omega) (by omega)
      have kM433 := kM430.tr (hm433.2.1.le (by omega))
      refine V_ldcS (pc := 436) dL_spelled_436 (i := 22) rfl (by decide) (by decide +kernel) ?_
      refine V_okM fun ok_ => ?_
      have el438 : ([125] : List Int).length = 1 := rfl
      refine V_callV (pc := 438) dL_spelled_438 (F' := 5) (As := [vr (kS 22)]) (st := [vr s]) cw_RL_81 rfl rfl hm433.1.2.2.1 (by decide) (Nat.le_of_ble_eq_true rfl) (by omega) (w_app (mN M) 0 (((([] : List Int) ++ [123]) ++ [48 + V p 2]) ++ ((([] : List Int) ++ [44]) ++ [48 + V p 3])) ([125]) m433 (mN M) (kS 22)   hm433.1 (litB_22 ▸ StrO.lit (B := 0) (i := 22) ok_ (by decide)) (by omega) (by omega) ⟨by omega, by omega⟩) ?_
      rintro _ m438 ⟨x438, rfl, hx438, hm438⟩ ok438 le438
      subst hx438
      have z438 := hm438.2.2
      (try simp only [List.length_append, List.length_cons, List.length_nil] at z438)
      have e438 : ((((([] : List Int) ++ [123]) ++ [48 + V p 2]) ++ ((([] : List Int) ++ [44]) ++ [48 + V p 3])) ++ [125]).length = 0 + 1 + 1 + (0 + 1 + 1) + 1 := by simp only [List.length_append, List.length_cons, List.length_nil] <;> omega
      have c438 := c433.kp hm438.2.1 (by omega) (by omega)
      have kM438 := kM433.tr (hm438.2.1.le (by omega))
      refine V_callV (pc := 441) dL_spelled_441 (F' := 6) (As := []) (st := [vr s]) cw_RL_96 rfl rfl hm438.1.2.2.1 (by decide) (Nat.le_of_ble_eq_true rfl) (by omega) (w_str (mN M) ((((([] : List Int) ++ [123]) ++ [48 + V p 2]) ++ ((([] : List Int) ++ [44]) ++ [48 + V p 3])) ++ [125]) m438 (mN M)   hm438.1 (by omega) ⟨by omega, by omega⟩) ?_
      rintro _ m441 ⟨x441, rfl, hx441, hm441⟩ ok441 le441
      subst hx441
      have z441 := hm441.2.2
      have c441 := c438.kp hm441.2.1 (by omega) (by omega)
      have kM441 := kM438.tr (hm441.2.1.le (by omega))
      skip
      have e_ : ((((([] : List Int) ++ [123]) ++ [48 + V p 2]) ++ ((([] : List Int) ++ [44]) ++ [48 + V p 3])) ++ [125]) = q1T (V p 2) (V p 3) := by
        unfold q1T
        rw [if_neg hn.1, if_neg hn.2.1, if_neg hn.2.2]
        first
        | (rw [if_pos (by omega)]; simp; done)
        | (rw [if_neg (by omega), if_pos (by omega)]; simp; done)
        | (rw [if_neg (by omega), if_neg (by omega)]; simp; done)
      exact kx _ _ kM441 ⟨by omega, by omega⟩ (by omega) (by rw [← e_]; exact hm441.1)
    · skip
      refine V_ldcS (pc := 408) dL_spelled_408 (i := 15) rfl (by decide) (by decide +kernel) ?_
      refine V_goto (pc := 410) dL_spelled_410 (tgt := 433) rfl ?_
      refine V_okM fun ok_ => ?_
      have el433 : ([44] : List Int).length = 1 := rfl
      refine V_callV (pc := 433) dL_spelled_433 (F' := 5) (As := [vr (kS 15)]) (st := [vr s]) cw_RL_81 rfl rfl hm386.1.2.2.1 (by decide) (Nat.le_of_ble_eq_true rfl) (by omega) (w_app (mN M) 0 ((([] : List Int) ++ [123]) ++ [48 + V p 2]) ([44]) m386 (mN M) (kS 15)   hm386.1 (litB_15 ▸ StrO.lit (B := 0) (i := 15) ok_ (by decide)) (by omega) (by omega) ⟨by omega, by omega⟩) ?_
      rintro _ m433 ⟨x433, rfl, hx433, hm433⟩ ok433 le433
      subst hx433
      have z433 := hm433.2.2
      (try simp only [List.length_append, List.length_cons, List.length_nil] at z433)
      have e433 : (((([] : List Int) ++ [123]) ++ [48 + V p 2]) ++ [44]).length = 0 + 1 + 1 + 1 := by simp only [List.length_append, List.length_cons, List.length_nil] <;> omega
      have c433 := c386.kp hm433.2.1 (by omega) (by omega)
      have kM433 := kM386.tr (hm433.2.1.le (by omega))
      refine V_ldcS (pc := 436) dL_spelled_436 (i := 22) rfl (by decide) (by decide +kernel) ?_
      refine V_okM fun ok_ => ?_
      have el438 : ([125] : List Int).length = 1 := rfl
      refine V_callV (pc := 438) dL_spelled_438 (F' := 5) (As := [vr (kS 22)]) (st := [vr s]) cw_RL_81 rfl rfl hm433.1.2.2.1 (by decide) (Nat.le_of_ble_eq_true rfl) (by omega) (w_app (mN M) 0 (((([] : List Int) ++ [123]) ++ [48 + V p 2]) ++ [44]) ([125]) m433 (mN M) (kS 22)   hm433.1 (litB_22 ▸ StrO.lit (B := 0) (i := 22) ok_ (by decide)) (by omega) (by omega) ⟨by omega, by omega⟩) ?_
      rintro _ m438 ⟨x438, rfl, hx438, hm438⟩ ok438 le438
      subst hx438
      have z438 := hm438.2.2
      (try simp only [List.length_append, List.length_cons, List.length_nil] at z438)
      have e438 : ((((([] : List Int) ++ [123]) ++ [48 + V p 2]) ++ [44]) ++ [125]).length = 0 + 1 + 1 + 1 + 1 := by simp only [List.length_append, List.length_cons, List.length_nil] <;> omega
      have c438 := c433.kp hm438.2.1 (by omega) (by omega)
      have kM438 := kM433.tr (hm438.2.1.le (by omega))
      refine V_callV (pc := 441) dL_spelled_441 (F' := 6) (As := []) (st := [vr s]) cw_RL_96 rfl rfl hm438.1.2.2.1 (by decide) (Nat.le_of_ble_eq_true rfl) (by omega) (w_str (mN M) ((((([] : List Int) ++ [123]) ++ [48 + V p 2]) ++ [44]) ++ [125]) m438 (mN M)   hm438.1 (by omega) ⟨by omega, by omega⟩) ?_
      rintro _ m441 ⟨x441, rfl, hx441, hm441⟩ ok441 le441
      subst hx441
      have z441 := hm441.2.2
      have c441 := c438.kp hm441.2.1 (by omega) (by omega)
      have kM441 := kM438.tr (hm441.2.1.le (by omega))
      skip
      have e_ : ((((([] : List Int) ++ [123]) ++ [48 + V p 2]) ++ [44]) ++ [125]) = q1T (V p 2) (V p 3) := by
        unfold q1T
        rw [if_neg hn.1, if_neg hn.2.1, if_neg hn.2.2]
        first
        | (rw [if_pos (by omega)]; simp; done)
        | (rw [if_neg (by omega), if_pos (by omega)]; simp; done)
        | (rw [if_neg (by omega), if_neg (by omega)]; simp; done)
      exact kx _ _ kM441 ⟨by omega, by omega⟩ (by omega) (by rw [← e_]; exact hm441.1)
  · skip
    refine V_ldcS (pc := 396) dL_spelled_396 (i := 8) rfl (by decide) (by decide +kernel) ?_
    refine V_goto (pc := 398) dL_spelled_398 (tgt := 433) rfl ?_
    refine V_okM fun ok_ => ?_
    have el433 : ([] : List Int).length = 0 := rfl
    refine V_callV (pc := 433) dL_spelled_433 (F' := 5) (As := [vr (kS 8)]) (st := [vr s]) cw_RL_81 rfl rfl hm386.1.2.2.1 (by decide) (Nat.le_of_ble_eq_true rfl) (by omega) (w_app (mN M) 0 ((([] : List Int) ++ [123]) ++ [48 + V p 2]) ([]) m386 (mN M) (kS 8)   hm386.1 (litB_8 ▸ StrO.lit (B := 0) (i := 8) ok_ (by decide)) (by omega) (by omega) ⟨by omega, by omega⟩) ?_
    rintro _ m433 ⟨x433, rfl, hx433, hm433⟩ ok433 le433
    subst hx433
    have z433 := hm433.2.2
    (try simp only [List.length_append, List.length_cons, List.length_nil] at z433)
    have e433 : (((([] : List Int) ++ [123]) ++ [48 + V p 2]) ++ []).length = 0 + 1 + 1 + 0 := by simp only [List.length_append, List.length_cons, List.length_nil] <;> omega
    have c433 := c386.kp hm433.2.1 (by omega) (by omega)
    have kM433 := kM386.tr (hm433.2.1.le (by omega))
    refine V_ldcS (pc := 436) dL_spelled_436 (i := 22) rfl (by decide) (by decide +kernel) ?_
    refine V_okM fun ok_ => ?_
    have el438 : ([125] : List Int).length = 1 := rfl
    refine V_callV (pc := 438) dL_spelled_438 (F' := 5) (As := [vr (kS 22)]) (st := [vr s]) cw_RL_81 rfl rfl hm433.1.2.2.1 (by decide) (Nat.le_of_ble_eq_true rfl) (by omega) (w_app (mN M) 0 (((([] : List Int) ++ [123]) ++ [48 + V p 2]) ++ []) ([125]) m433 (mN M) (kS 22)   hm433.1 (litB_22 ▸ StrO.lit (B := 0) (i := 22) ok_ (by decide)) (by omega) (by omega) ⟨by omega, by omega⟩) ?_
    rintro _ m438 ⟨x438, rfl, hx438, hm438⟩ ok438 le438
    subst hx438
    have z438 := hm438.2.2
    (try simp only [List.length_append, List.length_cons, List.length_nil] at z438)
    have e438 : ((((([] : List Int) ++ [123]) ++ [48 + V p 2]) ++ []) ++ [125]).length = 0 + 1 + 1 + 0 + 1 := by simp only [List.length_append, List.length_cons, List.length_nil] <;> omega
    have c438 := c433.kp hm438.2.1 (by omega) (by omega)
    have kM438 := kM433.tr (hm438.2.1.le (by omega))
    refine V_callV (pc := 441) dL_spelled_441 (F' := 6) (As := []) (st := [vr s]) cw_RL_96 rfl rfl hm438.1.2.2.1 (by decide) (Nat.le_of_ble_eq_true rfl) (by omega) (w_str (mN M) ((((([] : List Int) ++ [123]) ++ [48 + V p 2]) ++ []) ++ [125]) m438 (mN M)   hm438.1 (by omega) ⟨by omega, by omega⟩) ?_
    rintro _ m441 ⟨x441, rfl, hx441, hm441⟩ ok441 le441
    subst hx441
    have z441 := hm441.2.2
    have c441 := c438.kp hm441.2.1 (by omega) (by omega)
    have kM441 := kM438.tr (hm441.2.1.le (by omega))
    skip
    have e_ : ((((([] : List Int) ++ [123]) ++ [48 + V p 2]) ++ []) ++ [125]) = q1T (V p 2) (V p 3) := by
      unfold q1T
      rw [if_neg hn.1, if_neg hn.2.1, if_neg hn.2.2]
      first
      | (rw [if_pos (by omega)]; simp; done)
      | (rw [if_neg (by omega), if_pos (by omega)]; simp; done)
      | (rw [if_neg (by omega), if_neg (by omega)]; simp; done)
    exact kx _ _ kM441 ⟨by omega, by omega⟩ (by omega) (by rw [← e_]; exact hm441.1)
set_option maxHeartbeats 8000000 in
theorem L_spF1 {F : Nat} {m0 : Mem} {post : Option AV → Mem → Prop} {M : Mem} {tt q p T : Nat} {V : Nat → Nat → Int} {w : List Int} (hF : 6 < F) (hW : SpW M q (mN M) T (V p) w) (hq : q < mN M) (hQ : V p 0 = 5 → QB (V p 2) (V p 3) (V p 4)) (hw : w.length ≤ 990) (hr : mN M + 26 ≤ NN ∧ mZ M + (190 + 10 * w.length) ≤ ZZ)
    (kx : ∀ (m' : Mem) (T' : Nat), Kp (mN M) M m' → mN M ≤ mN m' ∧ mN m' ≤ mN M + 26 → mZ m' ≤ mZ M + (190 + 10 * w.length) → StrO m' (mN m') T' (w ++ if V p 0 = 5 then qT (V p 2) (V p 3) (V p 4) else []) → _root_.Jvm.Pilot.@@N@@.V μL_spelled F m0 post 482 [(3, vr T'), (2, vr q), (0, vr tt), (1, vi ((p : Nat) : Int))] [] m') : _root_.Jvm.Pilot.@@N@@.V μL_spelled F m0 post 293 [(3, vr T), (2, vr q), (0, vr tt), (1, vi ((p : Nat) : Int))] [] M := by
  have kM0 : Kp (mN M) M M := Kp.rf
  have e0_ : ([] : List Int).length = 0 := rfl
  refine V_ld (pc := 293) dL_spelled_293 (v := vr q) rfl rfl ?_
  refine V_iconst (pc := 294) dL_spelled_294 (by unfold I32; omega) ?_
  refine V_ialdv (pc := 295) dL_spelled_295 (v := V p 0) hW.1 (by omega) (hW.2.1 0 (by decide)) (fun g295 => ?_)
  refine V_iconst (pc := 296) dL_spelled_296 (by unfold I32; omega) ?_
  refine V_icmp_ne (pc := 297) dL_spelled_297 (tgt := 482) rfl (fun h297 => ?_) (fun h297 => ?_)
  · skip
    skip
    exact kx _ _ kM0 ⟨by omega, by omega⟩ (by omega) (by rw [if_neg (by omega), List.append_nil]; exact hW.2.2)
  · skip
    have h5_ : V p 0 = 5 := by omega
    have hQ5_ := hQ h5_
    have hQ_ := hQ5_
    unfold QB at hQ_
    have gq_ := (q1_sh hQ5_).1
    refine V_ld (pc := 300) dL_spelled_300 (v := vr q) rfl rfl ?_
    refine V_iconst (pc := 301) dL_spelled_301 (by unfold I32; omega) ?_
    refine V_ialdv (pc := 302) dL_spelled_302 (v := V p 2) hW.1 (by omega) (hW.2.1 2 (by decide)) (fun g302 => ?_)
    refine V_st (pc := 303) dL_spelled_303 (ls' := [(4, vi (V p 2)), (3, vr T), (2, vr q), (0, vr tt), (1, vi ((p : Nat) : Int))]) rfl (Nat.le_of_ble_eq_true rfl) rfl ?_
    refine V_ld (pc := 305) dL_spelled_305 (v := vr q) rfl rfl ?_
    refine V_iconst (pc := 306) dL_spelled_306 (by unfold I32; omega) ?_
    refine V_ialdv (pc := 307) dL_spelled_307 (v := V p 3) hW.1 (by omega) (hW.2.1 3 (by decide)) (fun g307 => ?_)
    refine V_st (pc := 308) dL_spelled_308 (ls' := [(5, vi (V p 3)), (4, vi (V p 2)), (3, vr T), (2, vr q), (0, vr tt), (1, vi ((p : Nat) : Int))]) rfl (Nat.le_of_ble_eq_true rfl) rfl ?_
    refine V_newv (pc := 310) (mN M) rfl dL_spelled_310 nw_RL_78 (by omega) (by show mZ M + 4 ≤ ZZ; omega) ?_
    refine V_dup (pc := 313) dL_spelled_313 rfl ?_
    refine V_callI (pc := 314) dL_spelled_314 (F' := 2) (As := []) (st := [vr (mN M)]) cw_RL_80 rfl rfl (Nat.le_of_ble_eq_true rfl) (by omega) (w_new  (newO M 12 4) (mN M)   (mT_news (M := M) rfl) ⟨by show mN M + 1 + 1 ≤ NN; omega, by show mZ M + 4 + 16 ≤ ZZ; omega, Nat.lt_succ_self _⟩) ?_
    rintro _ _ ⟨rfl, rfl⟩ ok314 le314
    refine V_mem (m' := _root_.Jvm.Pilot.@@N@@.setI (_root_.Jvm.Pilot.@@N@@.setR (newO (newO M 12 4) 24 16) (mN M) 0 (some (mN M + 1))) (mN M) 1 0) rfl ?_
    have S317 := SbO.mk (m := M) (Nat.le_refl (mN M))
    have K317 := Kp.mk (m := M) (Nat.le_refl (mN M)) (by omega)
    have a317 : mN (_root_.Jvm.Pilot.@@N@@.setI (_root_.Jvm.Pilot.@@N@@.setR (newO (newO M 12 4) 24 16) (mN M) 0 (some (mN M + 1))) (mN M) 1 0) = mN M + 2 := rfl
    have b317 : mZ (_root_.Jvm.Pilot.@@N@@.setI (_root_.Jvm.Pilot.@@N@@.setR (newO (newO M 12 4) 24 16) (mN M) 0 (some (mN M + 1))) (mN M) 1 0) = mZ M + 20 := rfl
    generalize _root_.Jvm.Pilot.@@N@@.setI (_root_.Jvm.Pilot.@@N@@.setR (newO (newO M 12 4) 24 16) (mN M) 0 (some (mN M + 1))) (mN M) 1 0 = m317 at S317 K317 a317 b317 ⊢
    have c317 := hW.kp K317 (by omega) (by omega)
    have kM317 := kM0.tr (K317.le (by omega))
    refine V_ld (pc := 317) dL_spelled_317 (v := vr T) rfl rfl ?_
    refine V_callV (pc := 318) dL_spelled_318 (F' := 5) (As := [vr T]) (st := []) cw_RL_81 rfl rfl S317.2.2.1 (by decide) (Nat.le_of_ble_eq_true rfl) (by omega) (w_app (mN M) (mN M) ([] : List Int) w m317 (mN M) T   S317 c317.2.2 (by omega) (by omega) ⟨by omega, by omega⟩) ?_
    rintro _ m318 ⟨x318, rfl, hx318, hm318⟩ ok318 le318
    subst hx318
    have z318 := hm318.2.2
    (try simp only [List.length_append, List.length_cons, List.length_nil] at z318)
    have e318 : (([] : List Int) ++ w).length = 0 + w.length := by simp only [List.length_append, List.length_cons, List.length_nil] <;> omega
    have c318 := c317.kp hm318.2.1 (by omega) (by omega)
    have kM318 := kM317.tr (hm318.2.1.le (by omega))
    refine V_ld (pc := 321) dL_spelled_321 (v := vi (V p 2)) rfl rfl ?_
    refine V_if_ne (pc := 323) dL_spelled_323 (tgt := 338) rfl (fun h323 => ?_) (fun h323 => ?_)
    · skip
      refine V_ld (pc := 338) dL_spelled_338 (v := vi (V p 2)) rfl rfl ?_
      refine V_iconst (pc := 340) dL_spelled_340 (by unfold I32; omega) ?_
      refine V_icmp_ne (pc := 341) dL_spelled_341 (tgt := 356) rfl (fun h341 => ?_) (fun h341 => ?_)
      · skip
        refine V_ld (pc := 356) dL_spelled_356 (v := vi (V p 2)) rfl rfl ?_
        refine V_if_ne (pc := 358) dL_spelled_358 (tgt := 372) rfl (fun h358 => ?_) (fun h358 => ?_)
        · skip
          skip
          refine L_spQ (s := mN M) hF ⟨c318.1, c318.2.1, c318.2.2.up (by omega)⟩ (by omega) hQ5_ ⟨fun h_ => by omega, fun h_ => by omega, fun h_ => by omega⟩ ⟨by omega, by omega⟩ fun m3 T3 j1_ j2_ j3_ j4_ => ?_
          have S372 := hm318.1.kp j1_ (Nat.le_refl _) (by omega)
          have c372 := c318.kp j1_ (by omega) (by omega)
          have kM372 := kM318.tr (j1_.le (by omega))
          skip
          refine V_callV (pc := 444) dL_spelled_444 (F' := 5) (As := [vr T3]) (st := []) cw_RL_81 rfl rfl S372.2.2.1 (by decide) (Nat.le_of_ble_eq_true rfl) (by omega) (w_app (mN M) (mN m3) (([] : List Int) ++ w) (q1T (V p 2) (V p 3)) m3 (mN M) T3   S372 j4_ (by omega) (by omega) ⟨by omega, by omega⟩) ?_
          rintro _ m444 ⟨x444, rfl, hx444, hm444⟩ ok444 le444
          subst hx444
          have z444 := hm444.2.2
          (try simp only [List.length_append, List.length_cons, List.length_nil] at z444)
          have e444 : ((([] : List Int) ++ w) ++ q1T (V p 2) (V p 3)).length = 0 + w.length + ((q1T (V p 2) (V p 3)).length) := by simp only [List.length_append, List.length_cons, List.length_nil] <;> omega
          have c444 := c372.kp hm444.2.1 (by omega) (by omega)
          have kM444 := kM372.tr (hm444.2.1.le (by omega))
          refine V_callV (pc := 447) dL_spelled_447 (F' := 6) (As := []) (st := []) cw_RL_96 rfl rfl hm444.1.2.2.1 (by decide) (Nat.le_of_ble_eq_true rfl) (by omega) (w_str (mN M) ((([] : List Int) ++ w) ++ q1T (V p 2) (V p 3)) m444 (mN M)   hm444.1 (by omega) ⟨by omega, by omega⟩) ?_
          rintro _ m447 ⟨x447, rfl, hx447, hm447⟩ ok447 le447
          subst hx447
          have z447 := hm447.2.2
          have c447 := c444.kp hm447.2.1 (by omega) (by omega)
          have kM447 := kM444.tr (hm447.2.1.le (by omega))
          refine V_st (pc := 450) dL_spelled_450 (ls' := [(3, vr (mN m444)), (5, vi (V p 3)), (4, vi (V p 2)), (2, vr q), (0, vr tt), (1, vi ((p : Nat) : Int))]) rfl (Nat.le_of_ble_eq_true rfl) rfl ?_
          refine V_ls (ls' := [(3, vr (mN m444)), (2, vr q), (0, vr tt), (1, vi ((p : Nat) : Int))]) (by intro q_ h_; simp only [List.mem_cons, List.not_mem_nil, or_false] at h_ ⊢; rcases h_ with rfl | rfl | rfl | rfl <;> simp) ?_
          have e_ : ((([] : List Int) ++ w) ++ q1T (V p 2) (V p 3)) = w ++ q1T (V p 2) (V p 3) := by
            first
            | (simp; done)
            | (unfold q1T; rw [if_pos (by omega)]; simp; done)
            | (unfold q1T; rw [if_neg (by omega), if_pos (by omega)]; simp; done)
            | (unfold q1T; rw [if_neg (by omega), if_neg (by omega), if_pos (by omega)]; simp; done)
          have g_ := congrArg List.length e_
          have g5_ := (q1_sh hQ5_).1
          rw [List.length_append] at g_
          refine L_spF0 (w := ((([] : List Int) ++ w) ++ q1T (V p 2) (V p 3))) hF ⟨c447.1, c447.2.1, hm447.1⟩ (by omega) (by omega) ⟨by omega, by omega⟩ fun m' T' k1 k2 k3 k4 => ?_
          rw [e_] at k4
          exact kx m' T' (kM447.tr (k1.le (by omega))) ⟨by omega, by omega⟩ (by omega) (by rw [if_pos h5_]; unfold qT; rw [← List.append_assoc]; exact k4)
        · skip
          refine V_ld (pc := 361) dL_spelled_361 (v := vi (V p 3)) rfl rfl ?_
          refine V_iconst (pc := 363) dL_spelled_363 (by unfold I32; omega) ?_
          refine V_icmp_ne (pc := 364) dL_spelled_364 (tgt := 372) rfl (fun h364 => ?_) (fun h364 => ?_)
          · skip
            skip
            refine L_spQ (s := mN M) hF ⟨c318.1, c318.2.1, c318.2.2.up (by omega)⟩ (by omega) hQ5_ ⟨fun h_ => by omega, fun h_ => by omega, fun h_ => by omega⟩ ⟨by omega, by omega⟩ fun m3 T3 j1_ j2_ j3_ j4_ => ?_
            have S372 := hm318.1.kp j1_ (Nat.le_refl _) (by omega)
            have c372 := c318.kp j1_ (by omega) (by omega)
            have kM372 := kM318.tr (j1_.le (by omega))
            skip
            refine V_callV (pc := 444) dL_spelled_444 (F' := 5) (As := [vr T3]) (st := []) cw_RL_81 rfl rfl S372.2.2.1 (by decide) (Nat.le_of_ble_eq_true rfl) (by omega) (w_app (mN M) (mN m3) (([] : List Int) ++ w) (q1T (V p 2) (V p 3)) m3 (mN M) T3   S372 j4_ (by omega) (by omega) ⟨by omega, by omega⟩) ?_
            rintro _ m444 ⟨x444, rfl, hx444, hm444⟩ ok444 le444
            subst hx444
            have z444 := hm444.2.2
            (try simp only [List.length_append, List.length_cons, List.length_nil] at z444)
            have e444 : ((([] : List Int) ++ w) ++ q1T (V p 2) (V p 3)).length = 0 + w.length + ((q1T (V p 2) (V p 3)).length) := by simp only [List.length_append, List.length_cons, List.length_nil] <;> omega
            have c444 := c372.kp hm444.2.1 (by omega) (by omega)
            have kM444 := kM372.tr (hm444.2.1.le (by omega))
            refine V_callV (pc := 447) dL_spelled_447 (F' := 6) (As := []) (st := []) cw_RL_96 rfl rfl hm444.1.2.2.1 (by decide) (Nat.le_of_ble_eq_true rfl) (by omega) (w_str (mN M) ((([] : List Int) ++ w) ++ q1T (V p 2) (V p 3)) m444 (mN M)   hm444.1 (by omega) ⟨by omega, by omega⟩) ?_
            rintro _ m447 ⟨x447, rfl, hx447, hm447⟩ ok447 le447
            subst hx447
            have z447 := hm447.2.2
            have c447 := c444.kp hm447.2.1 (by omega) (by omega)
            have kM447 := kM444.tr (hm447.2.1.le (by omega))
            refine V_st (pc := 450) dL_spelled_450 (ls' := [(3, vr (mN m444)), (5, vi (V p 3)), (4, vi (V p 2)), (2, vr q), (0, vr tt), (1, vi ((p : Nat) : Int))]) rfl (Nat.le_of_ble_eq_true rfl) rfl ?_
            refine V_ls (ls' := [(3, vr (mN m444)), (2, vr q), (0, vr tt), (1, vi ((p : Nat) : Int))]) (by intro q_ h_; simp only [List.mem_cons, List.not_mem_nil, or_false] at h_ ⊢; rcases h_ with rfl | rfl | rfl | rfl <;> simp) ?_
            have e_ : ((([] : List Int) ++ w) ++ q1T (V p 2) (V p 3)) = w ++ q1T (V p 2) (V p 3) := by
              first
              | (simp; done)
              | (unfold q1T; rw [if_pos (by omega)]; simp; done)
              | (unfold q1T; rw [if_neg (by omega), if_pos (by omega)]; simp; done)
              | (unfold q1T; rw [if_neg (by omega), if_neg (by omega), if_pos (by omega)]; simp; done)
            have g_ := congrArg List.length e_
            have g5_ := (q1_sh hQ5_).1
            rw [List.length_append] at g_
            refine L_spF0 (w := ((([] : List Int) ++ w) ++ q1T (V p 2) (V p 3))) hF ⟨c447.1, c447.2.1, hm447.1⟩ (by omega) (by omega) ⟨by omega, by omega⟩ fun m' T' k1 k2 k3 k4 => ?_
            rw [e_] at k4
            exact kx m' T' (kM447.tr (k1.le (by omega))) ⟨by omega, by omega⟩ (by omega) (by rw [if_pos h5_]; unfold qT; rw [← List.append_assoc]; exact k4)
          · skip
            refine V_ldcS (pc := 367) dL_spelled_367 (i := 20) rfl (by decide) (by decide +kernel) ?_
            refine V_goto (pc := 369) dL_spelled_369 (tgt := 444) rfl ?_
            refine V_okM fun ok_ => ?_
            have el444 : ([63] : List Int).length = 1 := rfl
            refine V_callV (pc := 444) dL_spelled_444 (F' := 5) (As := [vr (kS 20)]) (st := []) cw_RL_81 rfl rfl hm318.1.2.2.1 (by decide) (Nat.le_of_ble_eq_true rfl) (by omega) (w_app (mN M) 0 (([] : List Int) ++ w) ([63]) m318 (mN M) (kS 20)   hm318.1 (litB_20 ▸ StrO.lit (B := 0) (i := 20) ok_ (by decide)) (by omega) (by omega) ⟨by omega, by omega⟩) ?_
            rintro _ m444 ⟨x444, rfl, hx444, hm444⟩ ok444 le444
            subst hx444
            have z444 := hm444.2.2
            (try simp only [List.length_append, List.length_cons, List.length_nil] at z444)
            have e444 : ((([] : List Int) ++ w) ++ [63]).length = 0 + w.length + 1 := by simp only [List.length_append, List.length_cons, List.length_nil] <;> omega
            have c444 := c318.kp hm444.2.1 (by omega) (by omega)
            have kM444 := kM318.tr (hm444.2.1.le (by omega))
            refine V_callV (pc := 447) dL_spelled_447 (F' := 6) (As := []) (st := []) cw_RL_96 rfl rfl hm444.1.2.2.1 (by decide) (Nat.le_of_ble_eq_true rfl) (by omega) (w_str (mN M) ((([] : List Int) ++ w) ++ [63]) m444 (mN M)   hm444.1 (by omega) ⟨by omega, by omega⟩) ?_
            rintro _ m447 ⟨x447, rfl, hx447, hm447⟩ ok447 le447
            subst hx447
            have z447 := hm447.2.2
            have c447 := c444.kp hm447.2.1 (by omega) (by omega)
            have kM447 := kM444.tr (hm447.2.1.le (by omega))
            refine V_st (pc := 450) dL_spelled_450 (ls' := [(3, vr (mN m444)), (5, vi (V p 3)), (4, vi (V p 2)), (2, vr q), (0, vr tt), (1, vi ((p : Nat) : Int))]) rfl (Nat.le_of_ble_eq_true rfl) rfl ?_
            refine V_ls (ls' := [(3, vr (mN m444)), (2, vr q), (0, vr tt), (1, vi ((p : Nat) : Int))]) (by intro q_ h_; simp only [List.mem_cons, List.not_mem_nil, or_false] at h_ ⊢; rcases h_ with rfl | rfl | rfl | rfl <;> simp) ?_
            have e_ : ((([] : List Int) ++ w) ++ [63]) = w ++ q1T (V p 2) (V p 3) := by
              first
              | (simp; done)
              | (unfold q1T; rw [if_pos (by omega)]; simp; done)
              | (unfold q1T; rw [if_neg (by omega), if_pos (by omega)]; simp; done)
              | (unfold q1T; rw [if_neg (by omega), if_neg (by omega), if_pos (by omega)]; simp; done)
            have g_ := congrArg List.length e_
            have g5_ := (q1_sh hQ5_).1
            rw [List.length_append] at g_
            refine L_spF0 (w := ((([] : List Int) ++ w) ++ [63])) hF ⟨c447.1, c447.2.1, hm447.1⟩ (by omega) (by omega) ⟨by omega, by omega⟩ fun m' T' k1 k2 k3 k4 => ?_
            rw [e_] at k4
            exact kx m' T' (kM447.tr (k1.le (by omega))) ⟨by omega, by omega⟩ (by omega) (by rw [if_pos h5_]; unfold qT; rw [← List.append_assoc]; exact k4)
      · skip
        refine V_ld (pc := 344) dL_spelled_344 (v := vi (V p 3)) rfl rfl ?_
        refine V_bipush (pc := 346) dL_spelled_346 (by unfold I32; omega) (by decide) ?_
        refine V_icmp_ne (pc := 348) dL_spelled_348 (tgt := 356) rfl (fun h348 => ?_) (fun h348 => ?_)
        · skip
          refine V_ld (pc := 356) dL_spelled_356 (v := vi (V p 2)) rfl rfl ?_
          refine V_if_ne (pc := 358) dL_spelled_358 (tgt := 372) rfl (fun h358 => ?_) (fun h358 => ?_)
          · skip
            skip
            refine L_spQ (s := mN M) hF ⟨c318.1, c318.2.1, c318.2.2.up (by omega)⟩ (by omega) hQ5_ ⟨fun h_ => by omega, fun h_ => by omega, fun h_ => by omega⟩ ⟨by omega, by omega⟩ fun m3 T3 j1_ j2_ j3_ j4_ => ?_
            have S372 := hm318.1.kp j1_ (Nat.le_refl _) (by omega)
            have c372 := c318.kp j1_ (by omega) (by omega)
            have kM372 := kM318.tr (j1_.le (by omega))
            skip
            refine V_callV (pc := 444) dL_spelled_444 (F' := 5) (As := [vr T3]) (st := []) cw_RL_81 rfl rfl S372.2.2.1 (by decide) (Nat.le_of_ble_eq_true rfl) (by omega) (w_app (mN M) (mN m3) (([] : List Int) ++ w) (q1T (V p 2) (V p 3)) m3 (mN M) T3   S372 j4_ (by omega) (by omega) ⟨by omega, by omega⟩) ?_
            rintro _ m444 ⟨x444, rfl, hx444, hm444⟩ ok444 le444
            subst hx444
            have z444 := hm444.2.2
            (try simp only [List.length_append, List.length_cons, List.length_nil] at z444)
            have e444 : ((([] : List Int) ++ w) ++ q1T (V p 2) (V p 3)).length = 0 + w.length + ((q1T (V p 2) (V p 3)).length) := by simp only [List.length_append, List.length_cons, List.length_nil] <;> omega
            have c444 := c372.kp hm444.2.1 (by omega) (by omega)
            have kM444 := kM372.tr (hm444.2.1.le (by omega))
            refine V_callV (pc := 447) dL_spelled_447 (F' := 6) (As := []) (st := []) cw_RL_96 rfl rfl hm444.1.2.2.1 (by decide) (Nat.le_of_ble_eq_true rfl) (by omega) (w_str (mN M) ((([] : List Int) ++ w) ++ q1T (V p 2) (V p 3)) m444 (mN M)   hm444.1 (by omega) ⟨by omega, by omega⟩) ?_
            rintro _ m447 ⟨x447, rfl, hx447, hm447⟩ ok447 le447
            subst hx447
            have z447 := hm447.2.2
            have c447 := c444.kp hm447.2.1 (by omega) (by omega)
            have kM447 := kM444.tr (hm447.2.1.le (by omega))
            refine V_st (pc := 450) dL_spelled_450 (ls' := [(3, vr (mN m444)), (5, vi (V p 3)), (4, vi (V p 2)), (2, vr q), (0, vr tt), (1, vi ((p : Nat) : Int))]) rfl (Nat.le_of_ble_eq_true rfl) rfl ?_
            refine V_ls (ls' := [(3, vr (mN m444)), (2, vr q), (0, vr tt), (1, vi ((p : Nat) : Int))]) (by intro q_ h_; simp only [List.mem_cons, List.not_mem_nil, or_false] at h_ ⊢; rcases h_ with rfl | rfl | rfl | rfl <;> simp) ?_
            have e_ : ((([] : List Int) ++ w) ++ q1T (V p 2) (V p 3)) = w ++ q1T (V p 2) (V p 3) := by
              first
              | (simp; done)
              | (unfold q1T; rw [if_pos (by omega)]; simp; done)
              | (unfold q1T; rw [if_neg (by omega), if_pos (by omega)]; simp; done)
              | (unfold q1T; rw [if_neg (by omega), if_neg (by omega), if_pos (by omega)]; simp; done)
            have g_ := congrArg List.length e_
            have g5_ := (q1_sh hQ5_).1
            rw [List.length_append] at g_
            refine L_spF0 (w := ((([] : List Int) ++ w) ++ q1T (V p 2) (V p 3))) hF ⟨c447.1, c447.2.1, hm447.1⟩ (by omega) (by omega) ⟨by omega, by omega⟩ fun m' T' k1 k2 k3 k4 => ?_
            rw [e_] at k4
            exact kx m' T' (kM447.tr (k1.le (by omega))) ⟨by omega, by omega⟩ (by omega) (by rw [if_pos h5_]; unfold qT; rw [← List.append_assoc]; exact k4)
          · skip
            refine V_ld (pc := 361) dL_spelled_361 (v := vi (V p 3)) rfl rfl ?_
            refine V_iconst (pc := 363) dL_spelled_363 (by unfold I32; omega) ?_
            refine V_icmp_ne (pc := 364) dL_spelled_364 (tgt := 372) rfl (fun h364 => ?_) (fun h364 => ?_)
            · skip
              skip
              refine L_spQ (s := mN M) hF ⟨c318.1, c318.2.1, c318.2.2.up (by omega)⟩ (by omega) hQ5_ ⟨fun h_ => by omega, fun h_ => by omega, fun h_ => by omega⟩ ⟨by omega, by omega⟩ fun m3 T3 j1_ j2_ j3_ j4_ => ?_
              have S372 := hm318.1.kp j1_ (Nat.le_refl _) (by omega)
              have c372 := c318.kp j1_ (by omega) (by omega)
              have kM372 := kM318.tr (j1_.le (by omega))
              skip
              refine V_callV (pc := 444) dL_spelled_444 (F' := 5) (As := [vr T3]) (st := []) cw_RL_81 rfl rfl S372.2.2.1 (by decide) (Nat.le_of_ble_eq_true rfl) (by omega) (w_app (mN M) (mN m3) (([] : List Int) ++ w) (q1T (V p 2) (V p 3)) m3 (mN M) T3   S372 j4_ (by omega) (by omega) ⟨by omega, by omega⟩) ?_
              rintro _ m444 ⟨x444, rfl, hx444, hm444⟩ ok444 le444
              subst hx444
              have z444 := hm444.2.2
              (try simp only [List.length_append, List.length_cons, List.length_nil] at z444)
              have e444 : ((([] : List Int) ++ w) ++ q1T (V p 2) (V p 3)).length = 0 + w.length + ((q1T (V p 2) (V p 3)).length) := by simp only [List.length_append, List.length_cons, List.length_nil] <;> omega
              have c444 := c372.kp hm444.2.1 (by omega) (by omega)
              have kM444 := kM372.tr (hm444.2.1.le (by omega))
              refine V_callV (pc := 447) dL_spelled_447 (F' := 6) (As := []) (st := []) cw_RL_96 rfl rfl hm444.1.2.2.1 (by decide) (Nat.le_of_ble_eq_true rfl) (by omega) (w_str (mN M) ((([] : List Int) ++ w) ++ q1T (V p 2) (V p 3)) m444 (mN M)   hm444.1 (by omega) ⟨by omega, by omega⟩) ?_
              rintro _ m447 ⟨x447, rfl, hx447, hm447⟩ ok447 le447
              subst hx447
              have z447 := hm447.2.2
              have c447 := c444.kp hm447.2.1 (by omega) (by omega)
              have kM447 := kM444.tr (hm447.2.1.le (by omega))
              refine V_st (pc := 450) dL_spelled_450 (ls' := [(3, vr (mN m444)), (5, vi (V p 3)), (4, vi (V p 2)), (2, vr q), (0, vr tt), (1, vi ((p : Nat) : Int))]) rfl (Nat.le_of_ble_eq_true rfl) rfl ?_
              refine V_ls (ls' := [(3, vr (mN m444)), (2, vr q), (0, vr tt), (1, vi ((p : Nat) : Int))]) (by intro q_ h_; simp only [List.mem_cons, List.not_mem_nil, or_false] at h_ ⊢; rcases h_ with rfl | rfl | rfl | rfl <;> simp) ?_
              have e_ : ((([] : List Int) ++ w) ++ q1T (V p 2) (V p 3)) = w ++ q1T (V p 2) (V p 3) := by
                first
                | (simp; done)
                | (unfold q1T; rw [if_pos (by omega)]; simp; done)
                | (unfold q1T; rw [if_neg (by omega), if_pos (by omega)]; simp; done)
                | (unfold q1T; rw [if_neg (by omega), if_neg (by omega), if_pos (by omega)]; simp; done)
              have g_ := congrArg List.length e_
              have g5_ := (q1_sh hQ5_).1
              rw [List.length_append] at g_
              refine L_spF0 (w := ((([] : List Int) ++ w) ++ q1T (V p 2) (V p 3))) hF ⟨c447.1, c447.2.1, hm447.1⟩ (by omega) (by omega) ⟨by omega, by omega⟩ fun m' T' k1 k2 k3 k4 => ?_
              rw [e_] at k4
              exact kx m' T' (kM447.tr (k1.le (by omega))) ⟨by omega, by omega⟩ (by omega) (by rw [if_pos h5_]; unfold qT; rw [← List.append_assoc]; exact k4)
            · skip
              refine V_ldcS (pc := 367) dL_spelled_367 (i := 20) rfl (by decide) (by decide +kernel) ?_
              refine V_goto (pc := 369) dL_spelled_369 (tgt := 444) rfl ?_
              refine V_okM fun ok_ => ?_
              have el444 : ([63] : List Int).length = 1 := rfl
              refine V_callV (pc := 444) dL_spelled_444 (F' := 5) (As := [vr (kS 20)]) (st := []) cw_RL_81 rfl rfl hm318.1.2.2.1 (by decide) (Nat.le_of_ble_eq_true rfl) (by omega) (w_app (mN M) 0 (([] : List Int) ++ w) ([63]) m318 (mN M) (kS 20)   hm318.1 (litB_20 ▸ StrO.lit (B := 0) (i := 20) ok_ (by decide)) (by omega) (by omega) ⟨by omega, by omega⟩) ?_
              rintro _ m444 ⟨x444, rfl, hx444, hm444⟩ ok444 le444
              subst hx444
              have z444 := hm444.2.2
              (try simp only [List.length_append, List.length_cons, List.length_nil] at z444)
              have e444 : ((([] : List Int) ++ w) ++ [63]).length = 0 + w.length + 1 := by simp only [List.length_append, List.length_cons, List.length_nil] <;> omega
              have c444 := c318.kp hm444.2.1 (by omega) (by omega)
              have kM444 := kM318.tr (hm444.2.1.le (by omega))
              refine V_callV (pc := 447) dL_spelled_447 (F' := 6) (As := []) (st := []) cw_RL_96 rfl rfl hm444.1.2.2.1 (by decide) (Nat.le_of_ble_eq_true rfl) (by omega) (w_str (mN M) ((([] : List Int) ++ w) ++ [63]) m444 (mN M)   hm444.1 (by omega) ⟨by omega, by omega⟩) ?_
              rintro _ m447 ⟨x447, rfl, hx447, hm447⟩ ok447 le447
              subst hx447
              have z447 := hm447.2.2
              have c447 := c444.kp hm447.2.1 (by omega) (by omega)
              have kM447 := kM444.tr (hm447.2.1.le (by omega))
              refine V_st (pc := 450) dL_spelled_450 (ls' := [(3, vr (mN m444)), (5, vi (V p 3)), (4, vi (V p 2)), (2, vr q), (0, vr tt), (1, vi ((p : Nat) : Int))]) rfl (Nat.le_of_ble_eq_true rfl) rfl ?_
              refine V_ls (ls' := [(3, vr (mN m444)), (2, vr q), (0, vr tt), (1, vi ((p : Nat) : Int))]) (by intro q_ h_; simp only [List.mem_cons, List.not_mem_nil, or_false] at h_ ⊢; rcases h_ with rfl | rfl | rfl | rfl <;> simp) ?_
              have e_ : ((([] : List Int) ++ w) ++ [63]) = w ++ q1T (V p 2) (V p 3) := by
                first
                | (simp; done)
                | (unfold q1T; rw [if_pos (by omega)]; simp; done)
                | (unfold q1T; rw [if_neg (by omega), if_pos (by omega)]; simp; done)
                | (unfold q1T; rw [if_neg (by omega), if_neg (by omega), if_pos (by omega)]; simp; done)
              have g_ := congrArg List.length e_
              have g5_ := (q1_sh hQ5_).1
              rw [List.length_append] at g_
              refine L_spF0 (w := ((([] : List Int) ++ w) ++ [63])) hF ⟨c447.1, c447.2.1, hm447.1⟩ (by omega) (by omega) ⟨by omega, by omega⟩ fun m' T' k1 k2 k3 k4 => ?_
              rw [e_] at k4
              exact kx m' T' (kM447.tr (k1.le (by omega))) ⟨by omega, by omega⟩ (by omega) (by rw [if_pos h5_]; unfold qT; rw [← List.append_assoc]; exact k4)
        · skip
          refine V_ldcS (pc := 351) dL_spelled_351 (i := 19) rfl (by decide) (by decide +kernel) ?_
          refine V_goto (pc := 353) dL_spelled_353 (tgt := 444) rfl ?_
          refine V_okM fun ok_ => ?_
          have el444 : ([43] : List Int).length = 1 := rfl
          refine V_callV (pc := 444) dL_spelled_444 (F' := 5) (As := [vr (kS 19)]) (st := []) cw_RL_81 rfl rfl hm318.1.2.2.1 (by decide) (Nat.le_of_ble_eq_true rfl) (by omega) (w_app (mN M) 0 (([] : List Int) ++ w) ([43]) m318 (mN M) (kS 19)   hm318.1 (litB_19 ▸ StrO.lit (B := 0) (i := 19) ok_ (by decide)) (by omega) (by omega) ⟨by omega, by omega⟩) ?_
          rintro _ m444 ⟨x444, rfl, hx444, hm444⟩ ok444 le444
          subst hx444
          have z444 := hm444.2.2
          (try simp only [List.length_append, List.length_cons, List.length_nil] at z444)
          have e444 : ((([] : List Int) ++ w) ++ [43]).length = 0 + w.length + 1 := by simp only [List.length_append, List.length_cons, List.length_nil] <;> omega
          have c444 := c318.kp hm444.2.1 (by omega) (by omega)
          have kM444 := kM318.tr (hm444.2.1.le (by omega))
          refine V_callV (pc := 447) dL_spelled_447 (F' := 6) (As := []) (st := []) cw_RL_96 rfl rfl hm444.1.2.2.1 (by decide) (Nat.le_of_ble_eq_true rfl) (by omega) (w_str (mN M) ((([] : List Int) ++ w) ++ [43]) m444 (mN M)   hm444.1 (by omega) ⟨by omega, by omega⟩) ?_
          rintro _ m447 ⟨x447, rfl, hx447, hm447⟩ ok447 le447
          subst hx447
          have z447 := hm447.2.2
          have c447 := c444.kp hm447.2.1 (by omega) (by omega)
          have kM447 := kM444.tr (hm447.2.1.le (by omega))
          refine V_st (pc := 450) dL_spelled_450 (ls' := [(3, vr (mN m444)), (5, vi (V p 3)), (4, vi (V p 2)), (2, vr q), (0, vr tt), (1, vi ((p : Nat) : Int))]) rfl (Nat.le_of_ble_eq_true rfl) rfl ?_
          refine V_ls (ls' := [(3, vr (mN m444)), (2, vr q), (0, vr tt), (1, vi ((p : Nat) : Int))]) (by intro q_ h_; simp only [List.mem_cons, List.not_mem_nil, or_false] at h_ ⊢; rcases h_ with rfl | rfl | rfl | rfl <;> simp) ?_
          have e_ : ((([] : List Int) ++ w) ++ [43]) = w ++ q1T (V p 2) (V p 3) := by
            first
            | (simp; done)
            | (unfold q1T; rw [if_pos (by omega)]; simp; done)
            | (unfold q1T; rw [if_neg (by omega), if_pos (by omega)]; simp; done)
            | (unfold q1T; rw [if_neg (by omega), if_neg (by omega), if_pos (by omega)]; simp; done)
          have g_ := congrArg List.length e_
          have g5_ := (q1_sh hQ5_).1
          rw [List.length_append] at g_
          refine L_spF0 (w := ((([] : List Int) ++ w) ++ [43])) hF ⟨c447.1, c447.2.1, hm447.1⟩ (by omega) (by omega) ⟨by omega, by omega⟩ fun m' T' k1 k2 k3 k4 => ?_
          rw [e_] at k4
          exact kx m' T' (kM447.tr (k1.le (by omega))) ⟨by omega, by omega⟩ (by omega) (by rw [if_pos h5_]; unfold qT; rw [← List.append_assoc]; exact k4)
    · skip
      refine V_ld (pc := 326) dL_spelled_326 (v := vi (V p 3)) rfl rfl ?_
      refine V_bipush (pc := 328) dL_spelled_328 (by unfold I32; omega) (by decide) ?_
      refine V_icmp_ne (pc := 330) dL_spelled_330 (tgt := 338) rfl (fun h330 => ?_) (fun h330 => ?_)
      · skip
        refine V_ld (pc := 338) dL_spelled_338 (v := vi (V p 2)) rfl rfl ?_
        refine V_iconst (pc := 340) dL_spelled_340 (by unfold I32; omega) ?_
        refine V_icmp_ne (pc := 341) dL_spelled_341 (tgt := 356) rfl (fun h341 => ?_) (fun h341 => ?_)
        · skip
          refine V_ld (pc := 356) dL_spelled_356 (v := vi (V p 2)) rfl rfl ?_
          refine V_if_ne (pc := 358) dL_spelled_358 (tgt := 372) rfl (fun h358 => ?_) (fun h358 => ?_)
          · skip
            skip
            refine L_spQ (s := mN M) hF ⟨c318.1, c318.2.1, c318.2.2.up (by omega)⟩ (by omega) hQ5_ ⟨fun h_ => by omega, fun h_ => by omega, fun h_ => by omega⟩ ⟨by omega, by omega⟩ fun m3 T3 j1_ j2_ j3_ j4_ => ?_
            have S372 := hm318.1.kp j1_ (Nat.le_refl _) (by omega)
            have c372 := c318.kp j1_ (by omega) (by omega)
            have kM372 := kM318.tr (j1_.le (by omega))
            skip
            refine V_callV (pc := 444) dL_spelled_444 (F' := 5) (As := [vr T3]) (st := []) cw_RL_81 rfl rfl S372.2.2.1 (by decide) (Nat.le_of_ble_eq_true rfl) (by omega) (w_app (mN M) (mN m3) (([] : List Int) ++ w) (q1T (V p 2) (V p 3)) m3 (mN M) T3   S372 j4_ (by omega) (by omega) ⟨by omega, by omega⟩) ?_
            rintro _ m444 ⟨x444, rfl, hx444, hm444⟩ ok444 le444
            subst hx444
            have z444 := hm444.2.2
            (try simp only [List.length_append, List.length_cons, List.length_nil] at z444)
            have e444 : ((([] : List Int) ++ w) ++ q1T (V p 2) (V p 3)).length = 0 + w.length + ((q1T (V p 2) (V p 3)).length) := by simp only [List.length_append, List.length_cons, List.length_nil] <;> omega
            have c444 := c372.kp hm444.2.1 (by omega) (by omega)
            have kM444 := kM372.tr (hm444.2.1.le (by omega))
            refine V_callV (pc := 447) dL_spelled_447 (F' := 6) (As := []) (st := []) cw_RL_96 rfl rfl hm444.1.2.2.1 (by decide) (Nat.le_of_ble_eq_true rfl) (by omega) (w_str (mN M) ((([] : List Int) ++ w) ++ q1T (V p 2) (V p 3)) m444 (mN M)   hm444.1 (by omega) ⟨by omega, by omega⟩) ?_
            rintro _ m447 ⟨x447, rfl, hx447, hm447⟩ ok447 le447
            subst hx447
            have z447 := hm447.2.2
            have c447 := c444.kp hm447.2.1 (by omega) (by omega)
            have kM447 := kM444.tr (hm447.2.1.le (by omega))
            refine V_st (pc := 450) dL_spelled_450 (ls' := [(3, vr (mN m444)), (5, vi (V p 3)), (4, vi (V p 2)), (2, vr q), (0, vr tt), (1, vi ((p : Nat) : Int))]) rfl (Nat.le_of_ble_eq_true rfl) rfl ?_
            refine V_ls (ls' := [(3, vr (mN m444)), (2, vr q), (0, vr tt), (1, vi ((p : Nat) : Int))]) (by intro q_ h_; simp only [List.mem_cons, List.not_mem_nil, or_false] at h_ ⊢; rcases h_ with rfl | rfl | rfl | rfl <;> simp) ?_
            have e_ : ((([] : List Int) ++ w) ++ q1T (V p 2) (V p 3)) = w ++ q1T (V p 2) (V p 3) := by
              first
              | (simp; done)
              | (unfold q1T; rw [if_pos (by omega)]; simp; done)
              | (unfold q1T; rw [if_neg (by omega), if_pos (by omega)]; simp; done)
              | (unfold q1T; rw [if_neg (by omega), if_neg (by omega), if_pos (by omega)]; simp; done)
            have g_ := congrArg List.length e_
            have g5_ := (q1_sh hQ5_).1
            rw [List.length_append] at g_
            refine L_spF0 (w := ((([] : List Int) ++ w) ++ q1T (V p 2) (V p 3))) hF ⟨c447.1, c447.2.1, hm447.1⟩ (by omega) (by omega) ⟨by omega, by omega⟩ fun m' T' k1 k2 k3 k4 => ?_
            rw [e_] at k4
            exact kx m' T' (kM447.tr (k1.le (by omega))) ⟨by omega, by omega⟩ (by omega) (by rw [if_pos h5_]; unfold qT; rw [← List.append_assoc]; exact k4)
          · skip
            refine V_ld (pc := 361) dL_spelled_361 (v := vi (V p 3)) rfl rfl ?_
            refine V_iconst (pc := 363) dL_spelled_363 (by unfold I32; omega) ?_
            refine V_icmp_ne (pc := 364) dL_spelled_364 (tgt := 372) rfl (fun h364 => ?_) (fun h364 => ?_)
            · skip
              skip
              refine L_spQ (s := mN M) hF ⟨c318.1, c318.2.1, c318.2.2.up (by omega)⟩ (by omega) hQ5_ ⟨fun h_ => by omega, fun h_ => by omega, fun h_ => by omega⟩ ⟨by omega, by omega⟩ fun m3 T3 j1_ j2_ j3_ j4_ => ?_
              have S372 := hm318.1.kp j1_ (Nat.le_refl _) (by omega)
              have c372 := c318.kp j1_ (by omega) (by omega)
              have kM372 := kM318.tr (j1_.le (by omega))
              skip
              refine V_callV (pc := 444) dL_spelled_444 (F' := 5) (As := [vr T3]) (st := []) cw_RL_81 rfl rfl S372.2.2.1 (by decide) (Nat.le_of_ble_eq_true rfl) (by omega) (w_app (mN M) (mN m3) (([] : List Int) ++ w) (q1T (V p 2) (V p 3)) m3 (mN M) T3   S372 j4_ (by omega) (by omega) ⟨by omega, by omega⟩) ?_
              rintro _ m444 ⟨x444, rfl, hx444, hm444⟩ ok444 le444
              subst hx444
              have z444 := hm444.2.2
              (try simp only [List.length_append, List.length_cons, List.length_nil] at z444)
              have e444 : ((([] : List Int) ++ w) ++ q1T (V p 2) (V p 3)).length = 0 + w.length + ((q1T (V p 2) (V p 3)).length) := by simp only [List.length_append, List.length_cons, List.length_nil] <;> omega
              have c444 := c372.kp hm444.2.1 (by omega) (by omega)
              have kM444 := kM372.tr (hm444.2.1.le (by omega))
              refine V_callV (pc := 447) dL_spelled_447 (F' := 6) (As := []) (st := []) cw_RL_96 rfl rfl hm444.1.2.2.1 (by decide) (Nat.le_of_ble_eq_true rfl) (by omega) (w_str (mN M) ((([] : List Int) ++ w) ++ q1T (V p 2) (V p 3)) m444 (mN M)   hm444.1 (by omega) ⟨by omega, by omega⟩) ?_
              rintro _ m447 ⟨x447, rfl, hx447, hm447⟩ ok447 le447
              subst hx447
              have z447 := hm447.2.2
              have c447 := c444.kp hm447.2.1 (by omega) (by omega)
              have kM447 := kM444.tr (hm447.2.1.le (by omega))
              refine V_st (pc := 450) dL_spelled_450 (ls' := [(3, vr (mN m444)), (5, vi (V p 3)), (4, vi (V p 2)), (2, vr q), (0, vr tt), (1, vi ((p : Nat) : Int))]) rfl (Nat.le_of_ble_eq_true rfl) rfl ?_
              refine V_ls (ls' := [(3, vr (mN m444)), (2, vr q), (0, vr tt), (1, vi ((p : Nat) : Int))]) (by intro q_ h_; simp only [List.mem_cons, List.not_mem_nil, or_false] at h_ ⊢; rcases h_ with rfl | rfl | rfl | rfl <;> simp) ?_
              have e_ : ((([] : List Int) ++ w) ++ q1T (V p 2) (V p 3)) = w ++ q1T (V p 2) (V p 3) := by
                first
                | (simp; done)
                | (unfold q1T; rw [if_pos (by omega)]; simp; done)
                | (unfold q1T; rw [if_neg (by omega), if_pos (by omega)]; simp; done)
                | (unfold q1T; rw [if_neg (by omega), if_neg (by omega), if_pos (by omega)]; simp; done)
              have g_ := congrArg List.length e_
              have g5_ := (q1_sh hQ5_).1
              rw [List.length_append] at g_
              refine L_spF0 (w := ((([] : List Int) ++ w) ++ q1T (V p 2) (V p 3))) hF ⟨c447.1, c447.2.1, hm447.1⟩ (by omega) (by omega) ⟨by omega, by omega⟩ fun m' T' k1 k2 k3 k4 => ?_
              rw [e_] at k4
              exact kx m' T' (kM447.tr (k1.le (by omega))) ⟨by omega, by omega⟩ (by omega) (by rw [if_pos h5_]; unfold qT; rw [← List.append_assoc]; exact k4)
            · skip
              refine V_ldcS (pc := 367) dL_spelled_367 (i := 20) rfl (by decide) (by decide +kernel) ?_
              refine V_goto (pc := 369) dL_spelled_369 (tgt := 444) rfl ?_
              refine V_okM fun ok_ => ?_
              have el444 : ([63] : List Int).length = 1 := rfl
              refine V_callV (pc := 444) dL_spelled_444 (F' := 5) (As := [vr (kS 20)]) (st := []) cw_RL_81 rfl rfl hm318.1.2.2.1 (by decide) (Nat.le_of_ble_eq_true rfl) (by omega) (w_app (mN M) 0 (([] : List Int) ++ w) ([63]) m318 (mN M) (kS 20)   hm318.1 (litB_20 ▸ StrO.lit (B := 0) (i := 20) ok_ (by decide)) (by omega) (by omega) ⟨by omega, by omega⟩) ?_
              rintro _ m444 ⟨x444, rfl, hx444, hm444⟩ ok444 le444
              subst hx444
              have z444 := hm444.2.2
              (try simp only [List.length_append, List.length_cons, List.length_nil] at z444)
              have e444 : ((([] : List Int) ++ w) ++ [63]).length = 0 + w.length + 1 := by simp only [List.length_append, List.length_cons, List.length_nil] <;> omega
              have c444 := c318.kp hm444.2.1 (by omega) (by omega)
              have kM444 := kM318.tr (hm444.2.1.le (by omega))
              refine V_callV (pc := 447) dL_spelled_447 (F' := 6) (As := []) (st := []) cw_RL_96 rfl rfl hm444.1.2.2.1 (by decide) (Nat.le_of_ble_eq_true rfl) (by omega) (w_str (mN M) ((([] : List Int) ++ w) ++ [63]) m444 (mN M)   hm444.1 (by omega) ⟨by omega, by omega⟩) ?_
              rintro _ m447 ⟨x447, rfl, hx447, hm447⟩ ok447 le447
              subst hx447
              have z447 := hm447.2.2
              have c447 := c444.kp hm447.2.1 (by omega) (by omega)
              have kM447 := kM444.tr (hm447.2.1.le (by omega))
              refine V_st (pc := 450) dL_spelled_450 (ls' := [(3, vr (mN m444)), (5, vi (V p 3)), (4, vi (V p 2)), (2, vr q), (0, vr tt), (1, vi ((p : Nat) : Int))]) rfl (Nat.le_of_ble_eq_true rfl) rfl ?_
              refine V_ls (ls' := [(3, vr (mN m444)), (2, vr q), (0, vr tt), (1, vi ((p : Nat) : Int))]) (by intro q_ h_; simp only [List.mem_cons, List.not_mem_nil, or_false] at h_ ⊢; rcases h_ with rfl | rfl | rfl | rfl <;> simp) ?_
              have e_ : ((([] : List Int) ++ w) ++ [63]) = w ++ q1T (V p 2) (V p 3) := by
                first
                | (simp; done)
                | (unfold q1T; rw [if_pos (by omega)]; simp; done)
                | (unfold q1T; rw [if_neg (by omega), if_pos (by omega)]; simp; done)
                | (unfold q1T; rw [if_neg (by omega), if_neg (by omega), if_pos (by omega)]; simp; done)
              have g_ := congrArg List.length e_
              have g5_ := (q1_sh hQ5_).1
              rw [List.length_append] at g_
              refine L_spF0 (w := ((([] : List Int) ++ w) ++ [63])) hF ⟨c447.1, c447.2.1, hm447.1⟩ (by omega) (by omega) ⟨by omega, by omega⟩ fun m' T' k1 k2 k3 k4 => ?_
              rw [e_] at k4
              exact kx m' T' (kM447.tr (k1.le (by omega))) ⟨by omega, by omega⟩ (by omega) (by rw [if_pos h5_]; unfold qT; rw [← List.append_assoc]; exact k4)
        · skip
          refine V_ld (pc := 344) dL_spelled_344 (v := vi (V p 3)) rfl rfl ?_
          refine V_bipush (pc := 346) dL_spelled_346 (by unfold I32; omega) (by decide) ?_
          refine V_icmp_ne (pc := 348) dL_spelled_348 (tgt := 356) rfl (fun h348 => ?_) (fun h348 => ?_)
          · skip
            refine V_ld (pc := 356) dL_spelled_356 (v := vi (V p 2)) rfl rfl ?_
            refine V_if_ne (pc := 358) dL_spelled_358 (tgt := 372) rfl (fun h358 => ?_) (fun h358 => ?_)
            · skip
              skip
              refine L_spQ (s := mN M) hF ⟨c318.1, c318.2.1, c318.2.2.up (by omega)⟩ (by omega) hQ5_ ⟨fun h_ => by omega, fun h_ => by omega, fun h_ => by omega⟩ ⟨by omega, by omega⟩ fun m3 T3 j1_ j2_ j3_ j4_ => ?_
              have S372 := hm318.1.kp j1_ (Nat.le_refl _) (by omega)
              have c372 := c318.kp j1_ (by omega) (by omega)
              have kM372 := kM318.tr (j1_.le (by omega))
              skip
              refine V_callV (pc := 444) dL_spelled_444 (F' := 5) (As := [vr T3]) (st := []) cw_RL_81 rfl rfl S372.2.2.1 (by decide) (Nat.le_of_ble_eq_true rfl) (by omega) (w_app (mN M) (mN m3) (([] : List Int) ++ w) (q1T (V p 2) (V p 3)) m3 (mN M) T3   S372 j4_ (by omega) (by omega) ⟨by omega, by omega⟩) ?_
              rintro _ m444 ⟨x444, rfl, hx444, hm444⟩ ok444 le444
              subst hx444
              have z444 := hm444.2.2
              (try simp only [List.length_append, List.length_cons, List.length_nil] at z444)
              have e444 : ((([] : List Int) ++ w) ++ q1T (V p 2) (V p 3)).length = 0 + w.length + ((q1T (V p 2) (V p 3)).length) := by simp only [List.length_append, List.length_cons, List.length_nil] <;> omega
              have c444 := c372.kp hm444.2.1 (by omega) (by omega)
              have kM444 := kM372.tr (hm444.2.1.le (by omega))
              refine V_callV (pc := 447) dL_spelled_447 (F' := 6) (As := []) (st := []) cw_RL_96 rfl rfl hm444.1.2.2.1 (by decide) (Nat.le_of_ble_eq_true rfl) (by omega) (w_str (mN M) ((([] : List Int) ++ w) ++ q1T (V p 2) (V p 3)) m444 (mN M)   hm444.1 (by omega) ⟨by omega, by omega⟩) ?_
              rintro _ m447 ⟨x447, rfl, hx447, hm447⟩ ok447 le447
              subst hx447
              have z447 := hm447.2.2
              have c447 := c444.kp hm447.2.1 (by omega) (by omega)
              have kM447 := kM444.tr (hm447.2.1.le (by omega))
              refine V_st (pc := 450) dL_spelled_450 (ls' := [(3, vr (mN m444)), (5, vi (V p 3)), (4, vi (V p 2)), (2, vr q), (0, vr tt), (1, vi ((p : Nat) : Int))]) rfl (Nat.le_of_ble_eq_true rfl) rfl ?_
              refine V_ls (ls' := [(3, vr (mN m444)), (2, vr q), (0, vr tt), (1, vi ((p : Nat) : Int))]) (by intro q_ h_; simp only [List.mem_cons, List.not_mem_nil, or_false] at h_ ⊢; rcases h_ with rfl | rfl | rfl | rfl <;> simp) ?_
              have e_ : ((([] : List Int) ++ w) ++ q1T (V p 2) (V p 3)) = w ++ q1T (V p 2) (V p 3) := by
                first
                | (simp; done)
                | (unfold q1T; rw [if_pos (by omega)]; simp; done)
                | (unfold q1T; rw [if_neg (by omega), if_pos (by omega)]; simp; done)
                | (unfold q1T; rw [if_neg (by omega), if_neg (by omega), if_pos (by omega)]; simp; done)
              have g_ := congrArg List.length e_
              have g5_ := (q1_sh hQ5_).1
              rw [List.length_append] at g_
              refine L_spF0 (w := ((([] : List Int) ++ w) ++ q1T (V p 2) (V p 3))) hF ⟨c447.1, c447.2.1, hm447.1⟩ (by omega) (by omega) ⟨by omega, by omega⟩ fun m' T' k1 k2 k3 k4 => ?_
              rw [e_] at k4
              exact kx m' T' (kM447.tr (k1.le (by omega))) ⟨by omega, by omega⟩ (by omega) (by rw [if_pos h5_]; unfold qT; rw [← List.append_assoc]; exact k4)
            · skip
              refine V_ld (pc := 361) dL_spelled_361 (v := vi (V p 3)) rfl rfl ?_
              refine V_iconst (pc := 363) dL_spelled_363 (by unfold I32; omega) ?_
              refine V_icmp_ne (pc := 364) dL_spelled_364 (tgt := 372) rfl (fun h364 => ?_) (fun h364 => ?_)
              · skip
                skip
                refine L_spQ (s := mN M) hF ⟨c318.1, c318.2.1, c318.2.2.up (by omega)⟩ (by omega) hQ5_ ⟨fun h_ => by omega, fun h_ => by omega, fun h_ => by omega⟩ ⟨by omega, by omega⟩ fun m3 T3 j1_ j2_ j3_ j4_ => ?_
                have S372 := hm318.1.kp j1_ (Nat.le_refl _) (by omega)
                have c372 := c318.kp j1_ (by omega) (by omega)
                have kM372 := kM318.tr (j1_.le (by omega))
                skip
                refine V_callV (pc := 444) dL_spelled_444 (F' := 5) (As := [vr T3]) (st := []) cw_RL_81 rfl rfl S372.2.2.1 (by decide) (Nat.le_of_ble_eq_true rfl) (by omega) (w_app (mN M) (mN m3) (([] : List Int) ++ w) (q1T (V p 2) (V p 3)) m3 (mN M) T3   S372 j4_ (by omega) (by omega) ⟨by omega, by omega⟩) ?_
                rintro _ m444 ⟨x444, rfl, hx444, hm444⟩ ok444 le444
                subst hx444
                have z444 := hm444.2.2
                (try simp only [List.length_append, List.length_cons, List.length_nil] at z444)
                have e444 : ((([] : List Int) ++ w) ++ q1T (V p 2) (V p 3)).length = 0 + w.length + ((q1T (V p 2) (V p 3)).length) := by simp only [List.length_append, List.length_cons, List.length_nil] <;> omega
                have c444 := c372.kp hm444.2.1 (by omega) (by omega)
                have kM444 := kM372.tr (hm444.2.1.le (by omega))
                refine V_callV (pc := 447) dL_spelled_447 (F' := 6) (As := []) (st := []) cw_RL_96 rfl rfl hm444.1.2.2.1 (by decide) (Nat.le_of_ble_eq_true rfl) (by omega) (w_str (mN M) ((([] : List Int) ++ w) ++ q1T (V p 2) (V p 3)) m444 (mN M)   hm444.1 (by omega) ⟨by omega, by omega⟩) ?_
                rintro _ m447 ⟨x447, rfl, hx447, hm447⟩ ok447 le447
                subst hx447
                have z447 := hm447.2.2
                have c447 := c444.kp hm447.2.1 (by omega) (by omega)
                have kM447 := kM444.tr (hm447.2.1.le (by omega))
                refine V_st (pc := 450) dL_spelled_450 (ls' := [(3, vr (mN m444)), (5, vi (V p 3)), (4, vi (V p 2)), (2, vr q), (0, vr tt), (1, vi ((p : Nat) : Int))]) rfl (Nat.le_of_ble_eq_true rfl) rfl ?_
                refine V_ls (ls' := [(3, vr (mN m444)), (2, vr q), (0, vr tt), (1, vi ((p : Nat) : Int))]) (by intro q_ h_; simp only [List.mem_cons, List.not_mem_nil, or_false] at h_ ⊢; rcases h_ with rfl | rfl | rfl | rfl <;> simp) ?_
                have e_ : ((([] : List Int) ++ w) ++ q1T (V p 2) (V p 3)) = w ++ q1T (V p 2) (V p 3) := by
                  first
                  | (simp; done)
                  | (unfold q1T; rw [if_pos (by omega)]; simp; done)
                  | (unfold q1T; rw [if_neg (by omega), if_pos (by omega)]; simp; done)
                  | (unfold q1T; rw [if_neg (by omega), if_neg (by omega), if_pos (by omega)]; simp; done)
                have g_ := congrArg List.length e_
                have g5_ := (q1_sh hQ5_).1
                rw [List.length_append] at g_
                refine L_spF0 (w := ((([] : List Int) ++ w) ++ q1T (V p 2) (V p 3))) hF ⟨c447.1, c447.2.1, hm447.1⟩ (by omega) (by omega) ⟨by omega, by omega⟩ fun m' T' k1 k2 k3 k4 => ?_
                rw [e_] at k4
                exact kx m' T' (kM447.tr (k1.le (by omega))) ⟨by omega, by omega⟩ (by omega) (by rw [if_pos h5_]; unfold qT; rw [← List.append_assoc]; exact k4)
              · skip
                refine V_ldcS (pc := 367) dL_spelled_367 (i := 20) rfl (by decide) (by decide +kernel) ?_
                refine V_goto (pc := 369) dL_spelled_369 (tgt := 444) rfl ?_
                refine V_okM fun ok_ => ?_
                have el444 : ([63] : List Int).length = 1 := rfl
                refine V_callV (pc := 444) dL_spelled_444 (F' := 5) (As := [vr (kS 20)]) (st := []) cw_RL_81 rfl rfl hm318.1.2.2.1 (by decide) (Nat.le_of_ble_eq_true rfl) (by omega) (w_app (mN M) 0 (([] : List Int) ++ w) ([63]) m318 (mN M) (kS 20)   hm318.1 (litB_20 ▸ StrO.lit (B := 0) (i := 20) ok_ (by decide)) (by omega) (by omega) ⟨by omega, by omega⟩) ?_
                rintro _ m444 ⟨x444, rfl, hx444, hm444⟩ ok444 le444
                subst hx444
                have z444 := hm444.2.2
                (try simp only [List.length_append, List.length_cons, List.length_nil] at z444)
                have e444 : ((([] : List Int) ++ w) ++ [63]).length = 0 + w.length + 1 := by simp only [List.length_append, List.length_cons, List.length_nil] <;> omega
                have c444 := c318.kp hm444.2.1 (by omega) (by omega)
                have kM444 := kM318.tr (hm444.2.1.le (by omega))
                refine V_callV (pc := 447) dL_spelled_447 (F' := 6) (As := []) (st := []) cw_RL_96 rfl rfl hm444.1.2.2.1 (by decide) (Nat.le_of_ble_eq_true rfl) (by omega) (w_str (mN M) ((([] : List Int) ++ w) ++ [63]) m444 (mN M)   hm444.1 (by omega) ⟨by omega, by omega⟩) ?_
                rintro _ m447 ⟨x447, rfl, hx447, hm447⟩ ok447 le447
                subst hx447
                have z447 := hm447.2.2
                have c447 := c444.kp hm447.2.1 (by omega) (by omega)
                have kM447 := kM444.tr (hm447.2.1.le (by omega))
                refine V_st (pc := 450) dL_spelled_450 (ls' := [(3, vr (mN m444)), (5, vi (V p 3)), (4, vi (V p 2)), (2, vr q), (0, vr tt), (1, vi ((p : Nat) : Int))]) rfl (Nat.le_of_ble_eq_true rfl) rfl ?_
                refine V_ls (ls' := [(3, vr (mN m444)), (2, vr q), (0, vr tt), (1, vi ((p : Nat) : Int))]) (by intro q_ h_; simp only [List.mem_cons, List.not_mem_nil, or_false] at h_ ⊢; rcases h_ with rfl | rfl | rfl | rfl <;> simp) ?_
                have e_ : ((([] : List Int) ++ w) ++ [63]) = w ++ q1T (V p 2) (V p 3) := by
                  first
                  | (simp; done)
                  | (unfold q1T; rw [if_pos (by omega)]; simp; done)
                  | (unfold q1T; rw [if_neg (by omega), if_pos (by omega)]; simp; done)
                  | (unfold q1T; rw [if_neg (by omega), if_neg (by omega), if_pos (by omega)]; simp; done)
                have g_ := congrArg List.length e_
                have g5_ := (q1_sh hQ5_).1
                rw [List.length_append] at g_
                refine L_spF0 (w := ((([] : List Int) ++ w) ++ [63])) hF ⟨c447.1, c447.2.1, hm447.1⟩ (by omega) (by omega) ⟨by omega, by omega⟩ fun m' T' k1 k2 k3 k4 => ?_
                rw [e_] at k4
                exact kx m' T' (kM447.tr (k1.le (by omega))) ⟨by omega, by omega⟩ (by omega) (by rw [if_pos h5_]; unfold qT; rw [← List.append_assoc]; exact k4)
          · skip
            refine V_ldcS (pc := 351) dL_spelled_351 (i := 19) rfl (by decide) (by decide +kernel) ?_
            refine V_goto (pc := 353) dL_spelled_353 (tgt := 444) rfl ?_
            refine V_okM fun ok_ => ?_
            have el444 : ([43] : List Int).length = 1 := rfl
            refine V_callV (pc := 444) dL_spelled_444 (F' := 5) (As := [vr (kS 19)]) (st := []) cw_RL_81 rfl rfl hm318.1.2.2.1 (by decide) (Nat.le_of_ble_eq_true rfl) (by omega) (w_app (mN M) 0 (([] : List Int) ++ w) ([43]) m318 (mN M) (kS 19)   hm318.1 (litB_19 ▸ StrO.lit (B := 0) (i := 19) ok_ (by decide)) (by omega) (by omega) ⟨by omega, by omega⟩) ?_
            rintro _ m444 ⟨x444, rfl, hx444, hm444⟩ ok444 le444
            subst hx444
            have z444 := hm444.2.2
            (try simp only [List.length_append, List.length_cons, List.length_nil] at z444)
            have e444 : ((([] : List Int) ++ w) ++ [43]).length = 0 + w.length + 1 := by simp only [List.length_append, List.length_cons, List.length_nil] <;> omega
            have c444 := c318.kp hm444.2.1 (by omega) (by omega)
            have kM444 := kM318.tr (hm444.2.1.le (by omega))
            refine V_callV (pc := 447) dL_spelled_447 (F' := 6) (As := []) (st := []) cw_RL_96 rfl rfl hm444.1.2.2.1 (by decide) (Nat.le_of_ble_eq_true rfl) (by omega) (w_str (mN M) ((([] : List Int) ++ w) ++ [43]) m444 (mN M)   hm444.1 (by omega) ⟨by omega, by omega⟩) ?_
            rintro _ m447 ⟨x447, rfl, hx447, hm447⟩ ok447 le447
            subst hx447
            have z447 := hm447.2.2
            have c447 := c444.kp hm447.2.1 (by omega) (by omega)
            have kM447 := kM444.tr (hm447.2.1.le (by omega))
            refine V_st (pc := 450) dL_spelled_450 (ls' := [(3, vr (mN m444)), (5, vi (V p 3)), (4, vi (V p 2)), (2, vr q), (0, vr tt), (1, vi ((p : Nat) : Int))]) rfl (Nat.le_of_ble_eq_true rfl) rfl ?_
            refine V_ls (ls' := [(3, vr (mN m444)), (2, vr q), (0, vr tt), (1, vi ((p : Nat) : Int))]) (by intro q_ h_; simp only [List.mem_cons, List.not_mem_nil, or_false] at h_ ⊢; rcases h_ with rfl | rfl | rfl | rfl <;> simp) ?_
            have e_ : ((([] : List Int) ++ w) ++ [43]) = w ++ q1T (V p 2) (V p 3) := by
              first
              | (simp; done)
              | (unfold q1T; rw [if_pos (by omega)]; simp; done)
              | (unfold q1T; rw [if_neg (by omega), if_pos (by omega)]; simp; done)
              | (unfold q1T; rw [if_neg (by omega), if_neg (by omega), if_pos (by omega)]; simp; done)
            have g_ := congrArg List.length e_
            have g5_ := (q1_sh hQ5_).1
            rw [List.length_append] at g_
            refine L_spF0 (w := ((([] : List Int) ++ w) ++ [43])) hF ⟨c447.1, c447.2.1, hm447.1⟩ (by omega) (by omega) ⟨by omega, by omega⟩ fun m' T' k1 k2 k3 k4 => ?_
            rw [e_] at k4
            exact kx m' T' (kM447.tr (k1.le (by omega))) ⟨by omega, by omega⟩ (by omega) (by rw [if_pos h5_]; unfold qT; rw [← List.append_assoc]; exact k4)
      · skip
        refine V_ldcS (pc := 333) dL_spelled_333 (i := 18) rfl (by decide) (by decide +kernel) ?_
        refine V_goto (pc := 335) dL_spelled_335 (tgt := 444) rfl ?_
        refine V_okM fun ok_ => ?_
        have el444 : ([42] : List Int).length = 1 := rfl
        refine V_callV (pc := 444) dL_spelled_444 (F' := 5) (As := [vr (kS 18)]) (st := []) cw_RL_81 rfl rfl hm318.1.2.2.1 (by decide) (Nat.le_of_ble_eq_true rfl) (by omega) (w_app (mN M) 0 (([] : List Int) ++ w) ([42]) m318 (mN M) (kS 18)   hm318.1 (litB_18 ▸ StrO.lit (B := 0) (i := 18) ok_ (by decide)) (by omega) (by omega) ⟨by omega, by omega⟩) ?_
        rintro _ m444 ⟨x444, rfl, hx444, hm444⟩ ok444 le444
        subst hx444
        have z444 := hm444.2.2
        (try simp only [List.length_append, List.length_cons, List.length_nil] at z444)
        have e444 : ((([] : List Int) ++ w) ++ [42]).length = 0 + w.length + 1 := by simp only [List.length_append, List.length_cons, List.length_nil] <;> omega
        have c444 := c318.kp hm444.2.1 (by omega) (by omega)
        have kM444 := kM318.tr (hm444.2.1.le (by omega))
        refine V_callV (pc := 447) dL_spelled_447 (F' := 6) (As := []) (st := []) cw_RL_96 rfl rfl hm444.1.2.2.1 (by decide) (Nat.le_of_ble_eq_true rfl) (by omega) (w_str (mN M) ((([] : List Int) ++ w) ++ [42]) m444 (mN M)   hm444.1 (by omega) ⟨by omega, by omega⟩) ?_
        rintro _ m447 ⟨x447, rfl, hx447, hm447⟩ ok447 le447
        subst hx447
        have z447 := hm447.2.2
        have c447 := c444.kp hm447.2.1 (by omega) (by omega)
        have kM447 := kM444.tr (hm447.2.1.le (by omega))
        refine V_st (pc := 450) dL_spelled_450 (ls' := [(3, vr (mN m444)), (5, vi (V p 3)), (4, vi (V p 2)), (2, vr q), (0, vr tt), (1, vi ((p : Nat) : Int))]) rfl (Nat.le_of_ble_eq_true rfl) rfl ?_
        refine V_ls (ls' := [(3, vr (mN m444)), (2, vr q), (0, vr tt), (1, vi ((p : Nat) : Int))]) (by intro q_ h_; simp only [List.mem_cons, List.not_mem_nil, or_false] at h_ ⊢; rcases h_ with rfl | rfl | rfl | rfl <;> simp) ?_
        have e_ : ((([] : List Int) ++ w) ++ [42]) = w ++ q1T (V p 2) (V p 3) := by
          first
          | (simp; done)
          | (unfold q1T; rw [if_pos (by omega)]; simp; done)
          | (unfold q1T; rw [if_neg (by omega), if_pos (by omega)]; simp; done)
          | (unfold q1T; rw [if_neg (by omega), if_neg (by omega), if_pos (by omega)]; simp; done)
        have g_ := congrArg List.length e_
        have g5_ := (q1_sh hQ5_).1
        rw [List.length_append] at g_
        refine L_spF0 (w := ((([] : List Int) ++ w) ++ [42])) hF ⟨c447.1, c447.2.1, hm447.1⟩ (by omega) (by omega) ⟨by omega, by omega⟩ fun m' T' k1 k2 k3 k4 => ?_
        rw [e_] at k4
        exact kx m' T' (kM447.tr (k1.le (by omega))) ⟨by omega, by omega⟩ (by omega) (by rw [if_pos h5_]; unfold qT; rw [← List.append_assoc]; exact k4)
theorem L_spF {F : Nat} {m0 : Mem} {PP : Option Nat → Mem → Prop} {M : Mem} {tt q p T : Nat} {V : Nat → Nat → Int} {w : List Int} (hF : 6 < F) (hW : SpW M q (mN M) T (V p) w) (hq : q < mN M) (hQ : V p 0 = 5 → QB (V p 2) (V p 3) (V p 4)) (hw : w.length ≤ 980) (hr : mN M + 32 ≤ NN ∧ mZ M + (260 + 15 * w.length) ≤ ZZ)
    (kx : ∀ (m' : Mem) (o : Nat), Kp (mN M) M m' → mN M ≤ mN m' ∧ mN m' ≤ mN M + 32 → mZ m' ≤ mZ M + (260 + 15 * w.length) → StrO m' (mN m') o (w ++ footT V p) → PP (some o) m') : _root_.Jvm.Pilot.@@N@@.V μL_spelled F m0 (rq PP) 293 [(3, vr T), (2, vr q), (0, vr tt), (1, vi ((p : Nat) : Int))] [] M := by
  refine L_spF1 hF hW hq hQ (by omega) ⟨by omega, by omega⟩ fun m1 T1 k1 k2 k3 k4 => ?_
  have lq : (if V p 0 = 5 then qT (V p 2) (V p 3) (V p 4) else []).length ≤ 6 := by
    by_cases a : V p 0 = 5
    · rw [if_pos a]; exact (q_sh (hQ a)).1
    · rw [if_neg a]; exact Nat.zero_le _
  have hl := List.length_append (as := w) (bs := if V p 0 = 5 then qT (V p 2) (V p 3) (V p 4) else [])
  refine L_spE hF ⟨(k1 q (Or.inl hq)).1.trans hW.1, fun c hc => ((k1 q (Or.inl hq)).2.1 c).trans (hW.2.1 c hc), k4⟩ (by omega) (by omega) ⟨by omega, by omega⟩ fun m2 o j1 j2 j3 j4 => ?_
  exact kx m2 o (k1.tr (j1.le (by omega))) ⟨by omega, by omega⟩ (by omega) (by unfold footT; rw [← List.append_assoc]; exact j4)
set_option maxHeartbeats 4000000 in
theorem L_spH {F : Nat} {m0 : Mem} {post : Option AV → Mem → Prop} {M : Mem} {tt p : Nat} {V : Nat → Nat → Int} {qc cnt : Nat} (hF : 6 < F) (hT : TbM M tt qc cnt V) (hp : p < cnt ∧ cnt ≤ 70) (h1 : V p 0 = 0 → 0 ≤ V p 1 ∧ V p 1 ≤ 2) (hr : mN M + 6 ≤ NN ∧ mZ M + 40 ≤ ZZ)
    (kx : ∀ (m' : Mem) (T' q : Nat), Kp (mN M) M m' → mN M ≤ mN m' ∧ mN m' ≤ mN M + 6 → mZ m' ≤ mZ M + 40 → SpW m' q (mN m') T' (V p) (hdT (V p 0) (V p 1)) → q < mN M → _root_.Jvm.Pilot.@@N@@.V μL_spelled F m0 post 81 [(4, vi ((0 : Nat) : Int)), (3, vr T'), (2, vr q), (0, vr tt), (1, vi ((p : Nat) : Int))] [] m') : _root_.Jvm.Pilot.@@N@@.V μL_spelled F m0 post 0 [(0, vr tt), (1, vi ((p : Nat) : Int))] [] M := by
  obtain ⟨q, ra, ta, hq, va⟩ := hT.2.2 p hp.1
  refine V_okM fun ok0_ => ?_
  have hW : SpW M q (mN M) (kS 8) (V p) [] := ⟨ta, va, litB_8 ▸ StrO.lit (B := mN M) (i := 8) ok0_ (by decide)⟩
  have kM0 : Kp (mN M) M M := Kp.rf
  have e0_ : ([] : List Int).length = 0 := rfl
  refine V_ld (pc := 0) dL_spelled_0 (v := vr tt) rfl rfl ?_
  refine V_ld (pc := 1) dL_spelled_1 (v := vi ((p : Nat) : Int)) rfl rfl ?_
  refine V_aaldQ (pc := 2) dL_spelled_2 (q := some q) hT.1.1 (by decide) (by omega) (by rw [Int.toNat_natCast]; exact ra) ?_
  refine V_st (pc := 3) dL_spelled_3 (ls' := [(2, vr q), (0, vr tt), (1, vi ((p : Nat) : Int))]) rfl (Nat.le_of_ble_eq_true rfl) rfl ?_
  refine V_ld (pc := 4) dL_spelled_4 (v := vr q) rfl rfl ?_
  refine V_iconst (pc := 5) dL_spelled_5 (by unfold I32; omega) ?_
  refine V_ialdv (pc := 6) dL_spelled_6 (v := V p 0) hW.1 (by omega) (hW.2.1 0 (by decide)) (fun g6 => ?_)
  refine V_if_ne (pc := 7) dL_spelled_7 (tgt := 38) rfl (fun h7 => ?_) (fun h7 => ?_)
  · skip
    refine V_ld (pc := 38) dL_spelled_38 (v := vr q) rfl rfl ?_
    refine V_iconst (pc := 39) dL_spelled_39 (by unfold I32; omega) ?_
    refine V_ialdv (pc := 40) dL_spelled_40 (v := V p 0) hW.1 (by omega) (hW.2.1 0 (by decide)) (fun g40 => ?_)
    refine V_iconst (pc := 41) dL_spelled_41 (by unfold I32; omega) ?_
    refine V_icmp_ne (pc := 42) dL_spelled_42 (tgt := 50) rfl (fun h42 => ?_) (fun h42 => ?_)
    · skip
      refine V_ld (pc := 50) dL_spelled_50 (v := vr q) rfl rfl ?_
      refine V_iconst (pc := 51) dL_spelled_51 (by unfold I32; omega) ?_
      refine V_ialdv (pc := 52) dL_spelled_52 (v := V p 0) hW.1 (by omega) (hW.2.1 0 (by decide)) (fun g52 => ?_)
      refine V_iconst (pc := 53) dL_spelled_53 (by unfold I32; omega) ?_
      refine V_icmp_ne (pc := 54) dL_spelled_54 (tgt := 62) rfl (fun h54 => ?_) (fun h54 => ?_)
      · skip
        refine V_ld (pc := 62) dL_spelled_62 (v := vr q) rfl rfl ?_
        refine V_iconst (pc := 63) dL_spelled_63 (by unfold I32; omega) ?_
        refine V_ialdv (pc := 64) dL_spelled_64 (v := V p 0) hW.1 (by omega) (hW.2.1 0 (by decide)) (fun g64 => ?_)
        refine V_bipush (pc := 65) dL_spelled_65 (by unfold I32; omega) (by decide) ?_
        refine V_icmp_ne (pc := 67) dL_spelled_67 (tgt := 75) rfl (fun h67 => ?_) (fun h67 => ?_)
        · skip
          refine V_ldcS (pc := 75) dL_spelled_75 (i := 8) rfl (by decide) (by decide +kernel) ?_
          refine V_st (pc := 77) dL_spelled_77 (ls' := [(3, vr (kS 8)), (2, vr q), (0, vr tt), (1, vi ((p : Nat) : Int))]) rfl (Nat.le_of_ble_eq_true rfl) rfl ?_
          refine V_iconst (pc := 78) dL_spelled_78 (by unfold I32; omega) ?_
          refine V_st (pc := 79) dL_spelled_79 (ls' := [(4, vi 0), (3, vr (kS 8)), (2, vr q), (0, vr tt), (1, vi ((p : Nat) : Int))]) rfl (Nat.le_of_ble_eq_true rfl) rfl ?_
          skip
          have e_ : [] = hdT (V p 0) (V p 1) := by
            unfold hdT
            first
            | (rw [if_pos (by omega)]; simp; done)
            | (rw [if_neg (by omega), if_pos (by omega)]; done)
            | (rw [if_neg (by omega), if_neg (by omega), if_pos (by omega)]; done)
            | (rw [if_neg (by omega), if_neg (by omega), if_neg (by omega), if_pos (by omega)]; done)
            | (rw [if_neg (by omega), if_neg (by omega), if_neg (by omega), if_neg (by omega)]; done)
          exact kx _ _ q kM0 ⟨by omega, by omega⟩ (by omega) ⟨hW.1, hW.2.1, (by rw [← e_]; exact (litB_8 ▸ StrO.lit (B := mN M) (i := 8) ok0_ (by decide)))⟩ hq
        · skip
          refine V_ldcS (pc := 70) dL_spelled_70 (i := 13) rfl (by decide) (by decide +kernel) ?_
          refine V_goto (pc := 72) dL_spelled_72 (tgt := 77) rfl ?_
          refine V_st (pc := 77) dL_spelled_77 (ls' := [(3, vr (kS 13)), (2, vr q), (0, vr tt), (1, vi ((p : Nat) : Int))]) rfl (Nat.le_of_ble_eq_true rfl) rfl ?_
          refine V_iconst (pc := 78) dL_spelled_78 (by unfold I32; omega) ?_
          refine V_st (pc := 79) dL_spelled_79 (ls' := [(4, vi 0), (3, vr (kS 13)), (2, vr q), (0, vr tt), (1, vi ((p : Nat) : Int))]) rfl (Nat.le_of_ble_eq_true rfl) rfl ?_
          skip
          have e_ : [37, 40] = hdT (V p 0) (V p 1) := by
            unfold hdT
            first
            | (rw [if_pos (by omega)]; simp; done)
            | (rw [if_neg (by omega), if_pos (by omega)]; done)
            | (rw [if_neg (by omega), if_neg (by omega), if_pos (by omega)]; done)
            | (rw [if_neg (by omega), if_neg (by omega), if_neg (by omega), if_pos (by omega)]; done)
            | (rw [if_neg (by omega), if_neg (by omega), if_neg (by omega), if_neg (by omega)]; done)
          exact kx _ _ q kM0 ⟨by omega, by omega⟩ (by omega) ⟨hW.1, hW.2.1, (by rw [← e_]; exact (litB_13 ▸ StrO.lit (B := mN M) (i := 13) ok0_ (by decide)))⟩ hq
      · skip
        refine V_ldcS (pc := 57) dL_spelled_57 (i := 12) rfl (by decide) (by decide +kernel) ?_
        refine V_goto (pc := 59) dL_spelled_59 (tgt := 77) rfl ?_
        refine V_st (pc := 77) dL_spelled_77 (ls' := [(3, vr (kS 12)), (2, vr q), (0, vr tt), (1, vi ((p : Nat) : Int))]) rfl (Nat.le_of_ble_eq_true rfl) rfl ?_
        refine V_iconst (pc := 78) dL_spelled_78 (by unfold I32; omega) ?_
        refine V_st (pc := 79) dL_spelled_79 (ls' := [(4, vi 0), (3, vr (kS 12)), (2, vr q), (0, vr tt), (1, vi ((p : Nat) : Int))]) rfl (Nat.le_of_ble_eq_true rfl) rfl ?_
        skip
        have e_ : [36] = hdT (V p 0) (V p 1) := by
          unfold hdT
          first
          | (rw [if_pos (by omega)]; simp; done)
          | (rw [if_neg (by omega), if_pos (by omega)]; done)
          | (rw [if_neg (by omega), if_neg (by omega), if_pos (by omega)]; done)
          | (rw [if_neg (by omega), if_neg (by omega), if_neg (by omega), if_pos (by omega)]; done)
          | (rw [if_neg (by omega), if_neg (by omega), if_neg (by omega), if_neg (by omega)]; done)
        exact kx _ _ q kM0 ⟨by omega, by omega⟩ (by omega) ⟨hW.1, hW.2.1, (by rw [← e_]; exact (litB_12 ▸ StrO.lit (B := mN M) (i := 12) ok0_ (by decide)))⟩ hq
    · skip
      refine V_ldcS (pc := 45) dL_spelled_45 (i := 11) rfl (by decide) (by decide +kernel) ?_
      refine V_goto (pc := 47) dL_spelled_47 (tgt := 77) rfl ?_
      refine V_st (pc := 77) dL_spelled_77 (ls' := [(3, vr (kS 11)), (2, vr q), (0, vr tt), (1, vi ((p : Nat) : Int))]) rfl (Nat.le_of_ble_eq_true rfl) rfl ?_
      refine V_iconst (pc := 78) dL_spelled_78 (by unfold I32; omega) ?_
      refine V_st (pc := 79) dL_spelled_79 (ls' := [(4, vi 0), (3, vr (kS 11)), (2, vr q), (0, vr tt), (1, vi ((p : Nat) : Int))]) rfl (Nat.le_of_ble_eq_true rfl) rfl ?_
      skip
      have e_ : [94] = hdT (V p 0) (V p 1) := by
        unfold hdT
        first
        | (rw [if_pos (by omega)]; simp; done)
        | (rw [if_neg (by omega), if_pos (by omega)]; done)
        | (rw [if_neg (by omega), if_neg (by omega), if_pos (by omega)]; done)
        | (rw [if_neg (by omega), if_neg (by omega), if_neg (by omega), if_pos (by omega)]; done)
        | (rw [if_neg (by omega), if_neg (by omega), if_neg (by omega), if_neg (by omega)]; done)
      exact kx _ _ q kM0 ⟨by omega, by omega⟩ (by omega) ⟨hW.1, hW.2.1, (by rw [← e_]; exact (litB_11 ▸ StrO.lit (B := mN M) (i := 11) ok0_ (by decide)))⟩ hq
  · skip
    refine V_newv (pc := 10) (mN M) rfl dL_spelled_10 nw_RL_78 (by omega) (by show mZ M + 4 ≤ ZZ; omega) ?_
    refine V_dup (pc := 13) dL_spelled_13 rfl ?_
    refine V_callI (pc := 14) dL_spelled_14 (F' := 2) (As := []) (st := [vr (mN M)]) cw_RL_80 rfl rfl (Nat.le_of_ble_eq_true rfl) (by omega) (w_new  (newO M 12 4) (mN M)   (mT_news (M := M) rfl) ⟨by show mN M + 1 + 1 ≤ NN; omega, by show mZ M + 4 + 16 ≤ ZZ; omega, Nat.lt_succ_self _⟩) ?_
    rintro _ _ ⟨rfl, rfl⟩ ok14 le14
    refine V_mem (m' := _root_.Jvm.Pilot.@@N@@.setI (_root_.Jvm.Pilot.@@N@@.setR (newO (newO M 12 4) 24 16) (mN M) 0 (some (mN M + 1))) (mN M) 1 0) rfl ?_
    have S17 := SbO.mk (m := M) (Nat.le_refl (mN M))
    have K17 := Kp.mk (m := M) (Nat.le_refl (mN M)) (by omega)
    have a17 : mN (_root_.Jvm.Pilot.@@N@@.setI (_root_.Jvm.Pilot.@@N@@.setR (newO (newO M 12 4) 24 16) (mN M) 0 (some (mN M + 1))) (mN M) 1 0) = mN M + 2 := rfl
    have b17 : mZ (_root_.Jvm.Pilot.@@N@@.setI (_root_.Jvm.Pilot.@@N@@.setR (newO (newO M 12 4) 24 16) (mN M) 0 (some (mN M + 1))) (mN M) 1 0) = mZ M + 20 := rfl
    generalize _root_.Jvm.Pilot.@@N@@.setI (_root_.Jvm.Pilot.@@N@@.setR (newO (newO M 12 4) 24 16) (mN M) 0 (some (mN M + 1))) (mN M) 1 0 = m17 at S17 K17 a17 b17 ⊢
    have c17 := hW.kp K17 (by omega) (by omega)
    have kM17 := kM0.tr (K17.le (by omega))
    refine V_ldcS (pc := 17) dL_spelled_17 (i := 8) rfl (by decide) (by decide +kernel) ?_
    refine V_okM fun ok_ => ?_
    have el19 : ([] : List Int).length = 0 := rfl
    refine V_callV (pc := 19) dL_spelled_19 (F' := 5) (As := [vr (kS 8)]) (st := []) cw_RL_81 rfl rfl S17.2.2.1 (by decide) (Nat.le_of_ble_eq_true rfl) (by omega) (w_app (mN M) 0 ([] : List Int) ([]) m17 (mN M) (kS 8)   S17 (litB_8 ▸ StrO.lit (B := 0) (i := 8) ok_ (by decide)) (by omega) (by omega) ⟨by omega, by omega⟩) ?_
    rintro _ m19 ⟨x19, rfl, hx19, hm19⟩ ok19 le19
    subst hx19
    have z19 := hm19.2.2
    (try simp only [List.length_append, List.length_cons, List.length_nil] at z19)
    have e19 : (([] : List Int) ++ []).length = 0 + 0 := by simp only [List.length_append, List.length_cons, List.length_nil] <;> omega
    have c19 := c17.kp hm19.2.1 (by omega) (by omega)
    have kM19 := kM17.tr (hm19.2.1.le (by omega))
    refine V_bipush (pc := 22) dL_spelled_22 (by unfold I32; omega) (by decide) ?_
    refine V_ld (pc := 24) dL_spelled_24 (v := vr q) rfl rfl ?_
    refine V_iconst (pc := 25) dL_spelled_25 (by unfold I32; omega) ?_
    refine V_ialdv (pc := 26) dL_spelled_26 (v := V p 1) c19.1 (by omega) (c19.2.1 1 (by decide)) (fun g26 => ?_)
    refine V_iadd (pc := 27) dL_spelled_27 (by unfold I32 at *; omega) ?_
    refine V_i2c (pc := 28) dL_spelled_28 (by omega) ?_
    refine V_callV (pc := 29) dL_spelled_29 (F' := 5) (As := [vi (65 + (V p 1))]) (st := []) cw_RL_87 rfl rfl hm19.1.2.2.1 (by decide) (Nat.le_of_ble_eq_true rfl) (by omega) (w_chr (mN M) (([] : List Int) ++ []) m19 (mN M) (65 + (V p 1))   hm19.1 (by omega) (by omega) ⟨by omega, by omega⟩) ?_
    rintro _ m29 ⟨x29, rfl, hx29, hm29⟩ ok29 le29
    subst hx29
    have z29 := hm29.2.2
    (try simp only [List.length_append, List.length_cons, List.length_nil] at z29)
    have e29 : ((([] : List Int) ++ []) ++ [65 + V p 1]).length = 0 + 0 + 1 := by simp only [List.length_append, List.length_cons, List.length_nil] <;> omega
    have c29 := c19.kp hm29.2.1 (by omega) (by omega)
    have kM29 := kM19.tr (hm29.2.1.le (by omega))
    refine V_callV (pc := 32) dL_spelled_32 (F' := 6) (As := []) (st := []) cw_RL_96 rfl rfl hm29.1.2.2.1 (by decide) (Nat.le_of_ble_eq_true rfl) (by omega) (w_str (mN M) ((([] : List Int) ++ []) ++ [65 + V p 1]) m29 (mN M)   hm29.1 (by omega) ⟨by omega, by omega⟩) ?_
    rintro _ m32 ⟨x32, rfl, hx32, hm32⟩ ok32 le32
    subst hx32
    have z32 := hm32.2.2
    have c32 := c29.kp hm32.2.1 (by omega) (by omega)
    have kM32 := kM29.tr (hm32.2.1.le (by omega))
    refine V_goto (pc := 35) dL_spelled_35 (tgt := 77) rfl ?_
    refine V_st (pc := 77) dL_spelled_77 (ls' := [(3, vr (mN m29)), (2, vr q), (0, vr tt), (1, vi ((p : Nat) : Int))]) rfl (Nat.le_of_ble_eq_true rfl) rfl ?_
    refine V_iconst (pc := 78) dL_spelled_78 (by unfold I32; omega) ?_
    refine V_st (pc := 79) dL_spelled_79 (ls' := [(4, vi 0), (3, vr (mN m29)), (2, vr q), (0, vr tt), (1, vi ((p : Nat) : Int))]) rfl (Nat.le_of_ble_eq_true rfl) rfl ?_
    skip
    have e_ : ((([] : List Int) ++ []) ++ [65 + V p 1]) = hdT (V p 0) (V p 1) := by
      unfold hdT
      first
      | (rw [if_pos (by omega)]; simp; done)
      | (rw [if_neg (by omega), if_pos (by omega)]; done)
      | (rw [if_neg (by omega), if_neg (by omega), if_pos (by omega)]; done)
      | (rw [if_neg (by omega), if_neg (by omega), if_neg (by omega), if_pos (by omega)]; done)
      | (rw [if_neg (by omega), if_neg (by omega), if_neg (by omega), if_neg (by omega)]; done)
    exact kx _ _ q kM32 ⟨by omega, by omega⟩ (by omega) ⟨c32.1, c32.2.1, (by rw [← e_]; exact hm32.1)⟩ hq
