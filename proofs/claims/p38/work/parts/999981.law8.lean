/-! THE LAW: starts one by one, 2 -/
set_option maxHeartbeats 8000000 in
theorem L_fit {F : Nat} {m0 b : Mem} {post : Option AV → Mem → Prop} {P Q L rw W nn t5 : Nat} {cx : CX} {v : Nat → Nat → Int} {wv : Nat → Int} (hC : LawC b P Q L cx rw W nn v wv) (hF : 100 < F) {a s : Nat} {hgh low_ ways : Int} (ha : a ≤ nn) (hs : s ≤ 99) (hw : 0 ≤ ways) (hf : ∀ e, ((a : Nat) : Int) ≤ e → e ≤ ((nn : Nat) : Int) → (eV cx ((a : Nat) : Int) e = 1 ∧ low_ ≤ e - ((a : Nat) : Int) ∧ e - ((a : Nat) : Int) ≤ hgh ∧ 1 ≤ ways) ∨ (eV cx ((a : Nat) : Int) e = 0 ∧ (ways = 0 ∨ (e - ((a : Nat) : Int) ≠ low_ ∧ e - ((a : Nat) : Int) ≠ hgh))))
    (kx : ∀ m, LawM b m s → _root_.Jvm.Pilot.@@N@@.V μL_law F m0 post 468 [(6, vi ((a : Nat) : Int)), (5, vr t5), (4, vr W), (3, vr rw), (2, vi ((nn : Nat) : Int)), (1, vr 0), (0, vr SC)] [] m) : ∀ (dd e : Nat) (m : Mem), dd + e = nn + 1 → a ≤ e → LawM b m s → _root_.Jvm.Pilot.@@N@@.V μL_law F m0 post 365 [(12, vi ((e : Nat) : Int)), (10, vi hgh), (9, vi low_), (8, vi ways), (6, vi ((a : Nat) : Int)), (5, vr t5), (4, vr W), (3, vr rw), (2, vi ((nn : Nat) : Int)), (1, vr 0), (0, vr SC)] [] m := by
  have hB := hC.1
  have hnn := hC.2.2.2.1.1
  have hn7 := hC.2.2.2.1.2
  intro dd
  induction dd with
  | zero =>
    intro e m hd_ hae hm
    have ek : e = nn + 1 := by omega
    refine V_ld (pc := 365) dL_law_365 (v := vi ((e : Nat) : Int)) rfl rfl ?_
    refine V_ld (pc := 367) dL_law_367 (v := vi ((nn : Nat) : Int)) rfl rfl ?_
    refine V_icmp_gt (pc := 368) dL_law_368 (tgt := 468) rfl (fun h368 => ?_) (fun h368 => ?_)
    · skip
      refine V_ls (ls' := [(6, vi ((a : Nat) : Int)), (5, vr t5), (4, vr W), (3, vr rw), (2, vi ((nn : Nat) : Int)), (1, vr 0), (0, vr SC)]) (by intro q_ h_; simp only [List.mem_cons, List.not_mem_nil, or_false] at h_ ⊢; rcases h_ with rfl | rfl | rfl | rfl | rfl | rfl | rfl <;> simp) ?_
      exact kx m hm
    · skip
      exfalso; omega
  | succ dd ih =>
    intro e m hd_ hae hm
    have hfe := hf ((e : Nat) : Int) (by omega) (by omega)
    refine V_ld (pc := 365) dL_law_365 (v := vi ((e : Nat) : Int)) rfl rfl ?_
    refine V_ld (pc := 367) dL_law_367 (v := vi ((nn : Nat) : Int)) rfl rfl ?_
    refine V_icmp_gt (pc := 368) dL_law_368 (tgt := 468) rfl (fun h368 => ?_) (fun h368 => ?_)
    · skip
      exfalso; omega
    · skip
      refine V_ld (pc := 371) dL_law_371 (v := vr 0) rfl rfl ?_
      refine V_ld (pc := 372) dL_law_372 (v := vi ((a : Nat) : Int)) rfl rfl ?_
      refine V_ld (pc := 374) dL_law_374 (v := vi ((e : Nat) : Int)) rfl rfl ?_
      refine V_callV (pc := 376) dL_law_376 (F' := 8) (As := [vi ((a : Nat) : Int), vi ((e : Nat) : Int)]) (st := []) cw_RL_181 rfl rfl (hm.sb hB (by omega)).1.1.t0 (by decide) (Nat.le_of_ble_eq_true rfl) (by omega) (l_fits hB hm (by omega) (by omega) (by omega)) ?_
      rintro _ m376 ⟨x376, rfl, hx376, hm376⟩ ok376 le376
      subst hx376
      refine V_st (pc := 379) dL_law_379 (ls' := [(13, vi (eV cx ((a : Nat) : Int) ((e : Nat) : Int))), (12, vi ((e : Nat) : Int)), (10, vi hgh), (9, vi low_), (8, vi ways), (6, vi ((a : Nat) : Int)), (5, vr t5), (4, vr W), (3, vr rw), (2, vi ((nn : Nat) : Int)), (1, vr 0), (0, vr SC)]) rfl (Nat.le_of_ble_eq_true rfl) rfl ?_
      generalize eV cx ((a : Nat) : Int) ((e : Nat) : Int) = fi at hfe ⊢
      refine V_ld (pc := 381) dL_law_381 (v := vi ((e : Nat) : Int)) rfl rfl ?_
      refine V_ld (pc := 383) dL_law_383 (v := vi ((a : Nat) : Int)) rfl rfl ?_
      refine V_isub (pc := 385) dL_law_385 (by unfold I32 at *; omega) ?_
      refine V_ld (pc := 386) dL_law_386 (v := vi low_) rfl rfl ?_
      refine V_icmp_lt (pc := 388) dL_law_388 (tgt := 401) rfl (fun h388 => ?_) (fun h388 => ?_)
      · skip
        refine V_iconst (pc := 401) dL_law_401 (by unfold I32; omega) ?_
        refine V_goto (pc := 402) dL_law_402 (tgt := 406) rfl ?_
        refine V_st (pc := 406) dL_law_406 (ls' := [(14, vi 1), (13, vi fi), (12, vi ((e : Nat) : Int)), (10, vi hgh), (9, vi low_), (8, vi ways), (6, vi ((a : Nat) : Int)), (5, vr t5), (4, vr W), (3, vr rw), (2, vi ((nn : Nat) : Int)), (1, vr 0), (0, vr SC)]) rfl (Nat.le_of_ble_eq_true rfl) rfl ?_
        refine V_ld (pc := 408) dL_law_408 (v := vi fi) rfl rfl ?_
        refine V_if_lt (pc := 410) dL_law_410 (tgt := 460) rfl (fun h410 => ?_) (fun h410 => ?_)
        · skip
          exfalso; omega
        · skip
          refine V_ld (pc := 413) dL_law_413 (v := vi fi) rfl rfl ?_
          refine V_iconst (pc := 415) dL_law_415 (by unfold I32; omega) ?_
          refine V_icmp_ne (pc := 416) dL_law_416 (tgt := 429) rfl (fun h416 => ?_) (fun h416 => ?_)
          · skip
            refine V_ld (pc := 429) dL_law_429 (v := vi ways) rfl rfl ?_
            refine V_if_le (pc := 431) dL_law_431 (tgt := 462) rfl (fun h431 => ?_) (fun h431 => ?_)
            · skip
              refine V_iinc (pc := 462) dL_law_462 (x := ((e : Nat) : Int)) (ls' := [(12, vi (((e : Nat) : Int) + 1)), (14, vi 1), (13, vi fi), (10, vi hgh), (9, vi low_), (8, vi ways), (6, vi ((a : Nat) : Int)), (5, vr t5), (4, vr W), (3, vr rw), (2, vi ((nn : Nat) : Int)), (1, vr 0), (0, vr SC)]) rfl (by unfold I32 at *; omega) (Nat.le_of_ble_eq_true rfl) rfl ?_
              refine V_goto (pc := 465) dL_law_465 (tgt := 365) rfl ?_
              refine V_ls (ls' := [(12, vi (((e : Nat) : Int) + 1)), (10, vi hgh), (9, vi low_), (8, vi ways), (6, vi ((a : Nat) : Int)), (5, vr t5), (4, vr W), (3, vr rw), (2, vi ((nn : Nat) : Int)), (1, vr 0), (0, vr SC)]) (by intro q_ h_; simp only [List.mem_cons, List.not_mem_nil, or_false] at h_ ⊢; rcases h_ with rfl | rfl | rfl | rfl | rfl | rfl | rfl | rfl | rfl | rfl | rfl <;> simp) ?_
              have h_ := ih (e + 1) m376 (by omega) (by omega) hm376.1
              rw [show ((e + 1 : Nat) : Int) = (e : Int) + 1 by omega] at h_
              exact h_
            · skip
              refine V_ld (pc := 434) dL_law_434 (v := vi ((e : Nat) : Int)) rfl rfl ?_
              refine V_ld (pc := 436) dL_law_436 (v := vi ((a : Nat) : Int)) rfl rfl ?_
              refine V_isub (pc := 438) dL_law_438 (by unfold I32 at *; omega) ?_
              refine V_ld (pc := 439) dL_law_439 (v := vi low_) rfl rfl ?_
              refine V_icmp_eq (pc := 441) dL_law_441 (tgt := 454) rfl (fun h441 => ?_) (fun h441 => ?_)
              · skip
                refine V_ld (pc := 454) dL_law_454 (v := vi fi) rfl rfl ?_
                refine V_iconst (pc := 456) dL_law_456 (by unfold I32; omega) ?_
                refine V_icmp_eq (pc := 457) dL_law_457 (tgt := 462) rfl (fun h457 => ?_) (fun h457 => ?_)
                · skip
                  refine V_iinc (pc := 462) dL_law_462 (x := ((e : Nat) : Int)) (ls' := [(12, vi (((e : Nat) : Int) + 1)), (14, vi 1), (13, vi fi), (10, vi hgh), (9, vi low_), (8, vi ways), (6, vi ((a : Nat) : Int)), (5, vr t5), (4, vr W), (3, vr rw), (2, vi ((nn : Nat) : Int)), (1, vr 0), (0, vr SC)]) rfl (by unfold I32 at *; omega) (Nat.le_of_ble_eq_true rfl) rfl ?_
                  refine V_goto (pc := 465) dL_law_465 (tgt := 365) rfl ?_
                  refine V_ls (ls' := [(12, vi (((e : Nat) : Int) + 1)), (10, vi hgh), (9, vi low_), (8, vi ways), (6, vi ((a : Nat) : Int)), (5, vr t5), (4, vr W), (3, vr rw), (2, vi ((nn : Nat) : Int)), (1, vr 0), (0, vr SC)]) (by intro q_ h_; simp only [List.mem_cons, List.not_mem_nil, or_false] at h_ ⊢; rcases h_ with rfl | rfl | rfl | rfl | rfl | rfl | rfl | rfl | rfl | rfl | rfl <;> simp) ?_
                  have h_ := ih (e + 1) m376 (by omega) (by omega) hm376.1
                  rw [show ((e + 1 : Nat) : Int) = (e : Int) + 1 by omega] at h_
                  exact h_
                · skip
                  exfalso; omega
              · skip
                refine V_ld (pc := 444) dL_law_444 (v := vi ((e : Nat) : Int)) rfl rfl ?_
                refine V_ld (pc := 446) dL_law_446 (v := vi ((a : Nat) : Int)) rfl rfl ?_
                refine V_isub (pc := 448) dL_law_448 (by unfold I32 at *; omega) ?_
                refine V_ld (pc := 449) dL_law_449 (v := vi hgh) rfl rfl ?_
                refine V_icmp_ne (pc := 451) dL_law_451 (tgt := 462) rfl (fun h451 => ?_) (fun h451 => ?_)
                · skip
                  refine V_iinc (pc := 462) dL_law_462 (x := ((e : Nat) : Int)) (ls' := [(12, vi (((e : Nat) : Int) + 1)), (14, vi 1), (13, vi fi), (10, vi hgh), (9, vi low_), (8, vi ways), (6, vi ((a : Nat) : Int)), (5, vr t5), (4, vr W), (3, vr rw), (2, vi ((nn : Nat) : Int)), (1, vr 0), (0, vr SC)]) rfl (by unfold I32 at *; omega) (Nat.le_of_ble_eq_true rfl) rfl ?_
                  refine V_goto (pc := 465) dL_law_465 (tgt := 365) rfl ?_
                  refine V_ls (ls' := [(12, vi (((e : Nat) : Int) + 1)), (10, vi hgh), (9, vi low_), (8, vi ways), (6, vi ((a : Nat) : Int)), (5, vr t5), (4, vr W), (3, vr rw), (2, vi ((nn : Nat) : Int)), (1, vr 0), (0, vr SC)]) (by intro q_ h_; simp only [List.mem_cons, List.not_mem_nil, or_false] at h_ ⊢; rcases h_ with rfl | rfl | rfl | rfl | rfl | rfl | rfl | rfl | rfl | rfl | rfl <;> simp) ?_
                  have h_ := ih (e + 1) m376 (by omega) (by omega) hm376.1
                  rw [show ((e + 1 : Nat) : Int) = (e : Int) + 1 by omega] at h_
                  exact h_
                · skip
                  refine V_ld (pc := 454) dL_law_454 (v := vi fi) rfl rfl ?_
                  refine V_iconst (pc := 456) dL_law_456 (by unfold I32; omega) ?_
                  refine V_icmp_eq (pc := 457) dL_law_457 (tgt := 462) rfl (fun h457 => ?_) (fun h457 => ?_)
                  · skip
                    refine V_iinc (pc := 462) dL_law_462 (x := ((e : Nat) : Int)) (ls' := [(12, vi (((e : Nat) : Int) + 1)), (14, vi 1), (13, vi fi), (10, vi hgh), (9, vi low_), (8, vi ways), (6, vi ((a : Nat) : Int)), (5, vr t5), (4, vr W), (3, vr rw), (2, vi ((nn : Nat) : Int)), (1, vr 0), (0, vr SC)]) rfl (by unfold I32 at *; omega) (Nat.le_of_ble_eq_true rfl) rfl ?_
                    refine V_goto (pc := 465) dL_law_465 (tgt := 365) rfl ?_
                    refine V_ls (ls' := [(12, vi (((e : Nat) : Int) + 1)), (10, vi hgh), (9, vi low_), (8, vi ways), (6, vi ((a : Nat) : Int)), (5, vr t5), (4, vr W), (3, vr rw), (2, vi ((nn : Nat) : Int)), (1, vr 0), (0, vr SC)]) (by intro q_ h_; simp only [List.mem_cons, List.not_mem_nil, or_false] at h_ ⊢; rcases h_ with rfl | rfl | rfl | rfl | rfl | rfl | rfl | rfl | rfl | rfl | rfl <;> simp) ?_
                    have h_ := ih (e + 1) m376 (by omega) (by omega) hm376.1
                    rw [show ((e + 1 : Nat) : Int) = (e : Int) + 1 by omega] at h_
                    exact h_
                  · skip
                    exfalso; omega
          · skip
            refine V_ld (pc := 419) dL_law_419 (v := vi ways) rfl rfl ?_
            refine V_if_eq (pc := 421) dL_law_421 (tgt := 460) rfl (fun h421 => ?_) (fun h421 => ?_)
            · skip
              exfalso; omega
            · skip
              refine V_ld (pc := 424) dL_law_424 (v := vi 1) rfl rfl ?_
              refine V_if_ne (pc := 426) dL_law_426 (tgt := 460) rfl (fun _ => ?_) (fun h_ => absurd h_ (by decide))
              exfalso; omega
      · skip
        refine V_ld (pc := 391) dL_law_391 (v := vi ((e : Nat) : Int)) rfl rfl ?_
        refine V_ld (pc := 393) dL_law_393 (v := vi ((a : Nat) : Int)) rfl rfl ?_
        refine V_isub (pc := 395) dL_law_395 (by unfold I32 at *; omega) ?_
        refine V_ld (pc := 396) dL_law_396 (v := vi hgh) rfl rfl ?_
        refine V_icmp_le (pc := 398) dL_law_398 (tgt := 405) rfl (fun h398 => ?_) (fun h398 => ?_)
        · skip
          refine V_iconst (pc := 405) dL_law_405 (by unfold I32; omega) ?_
          refine V_st (pc := 406) dL_law_406 (ls' := [(14, vi 0), (13, vi fi), (12, vi ((e : Nat) : Int)), (10, vi hgh), (9, vi low_), (8, vi ways), (6, vi ((a : Nat) : Int)), (5, vr t5), (4, vr W), (3, vr rw), (2, vi ((nn : Nat) : Int)), (1, vr 0), (0, vr SC)]) rfl (Nat.le_of_ble_eq_true rfl) rfl ?_
          refine V_ld (pc := 408) dL_law_408 (v := vi fi) rfl rfl ?_
          refine V_if_lt (pc := 410) dL_law_410 (tgt := 460) rfl (fun h410 => ?_) (fun h410 => ?_)
          · skip
            exfalso; omega
          · skip
            refine V_ld (pc := 413) dL_law_413 (v := vi fi) rfl rfl ?_
            refine V_iconst (pc := 415) dL_law_415 (by unfold I32; omega) ?_
            refine V_icmp_ne (pc := 416) dL_law_416 (tgt := 429) rfl (fun h416 => ?_) (fun h416 => ?_)
            · skip
              refine V_ld (pc := 429) dL_law_429 (v := vi ways) rfl rfl ?_
              refine V_if_le (pc := 431) dL_law_431 (tgt := 462) rfl (fun h431 => ?_) (fun h431 => ?_)
              · skip
                refine V_iinc (pc := 462) dL_law_462 (x := ((e : Nat) : Int)) (ls' := [(12, vi (((e : Nat) : Int) + 1)), (14, vi 0), (13, vi fi), (10, vi hgh), (9, vi low_), (8, vi ways), (6, vi ((a : Nat) : Int)), (5, vr t5), (4, vr W), (3, vr rw), (2, vi ((nn : Nat) : Int)), (1, vr 0), (0, vr SC)]) rfl (by unfold I32 at *; omega) (Nat.le_of_ble_eq_true rfl) rfl ?_
                refine V_goto (pc := 465) dL_law_465 (tgt := 365) rfl ?_
                refine V_ls (ls' := [(12, vi (((e : Nat) : Int) + 1)), (10, vi hgh), (9, vi low_), (8, vi ways), (6, vi ((a : Nat) : Int)), (5, vr t5), (4, vr W), (3, vr rw), (2, vi ((nn : Nat) : Int)), (1, vr 0), (0, vr SC)]) (by intro q_ h_; simp only [List.mem_cons, List.not_mem_nil, or_false] at h_ ⊢; rcases h_ with rfl | rfl | rfl | rfl | rfl | rfl | rfl | rfl | rfl | rfl | rfl <;> simp) ?_
                have h_ := ih (e + 1) m376 (by omega) (by omega) hm376.1
                rw [show ((e + 1 : Nat) : Int) = (e : Int) + 1 by omega] at h_
                exact h_
              · skip
                refine V_ld (pc := 434) dL_law_434 (v := vi ((e : Nat) : Int)) rfl rfl ?_
                refine V_ld (pc := 436) dL_law_436 (v := vi ((a : Nat) : Int)) rfl rfl ?_
                refine V_isub (pc := 438) dL_law_438 (by unfold I32 at *; omega) ?_
                refine V_ld (pc := 439) dL_law_439 (v := vi low_) rfl rfl ?_
                refine V_icmp_eq (pc := 441) dL_law_441 (tgt := 454) rfl (fun h441 => ?_) (fun h441 => ?_)
                · skip
                  refine V_ld (pc := 454) dL_law_454 (v := vi fi) rfl rfl ?_
                  refine V_iconst (pc := 456) dL_law_456 (by unfold I32; omega) ?_
                  refine V_icmp_eq (pc := 457) dL_law_457 (tgt := 462) rfl (fun h457 => ?_) (fun h457 => ?_)
                  · skip
                    refine V_iinc (pc := 462) dL_law_462 (x := ((e : Nat) : Int)) (ls' := [(12, vi (((e : Nat) : Int) + 1)), (14, vi 0), (13, vi fi), (10, vi hgh), (9, vi low_), (8, vi ways), (6, vi ((a : Nat) : Int)), (5, vr t5), (4, vr W), (3, vr rw), (2, vi ((nn : Nat) : Int)), (1, vr 0), (0, vr SC)]) rfl (by unfold I32 at *; omega) (Nat.le_of_ble_eq_true rfl) rfl ?_
                    refine V_goto (pc := 465) dL_law_465 (tgt := 365) rfl ?_
                    refine V_ls (ls' := [(12, vi (((e : Nat) : Int) + 1)), (10, vi hgh), (9, vi low_), (8, vi ways), (6, vi ((a : Nat) : Int)), (5, vr t5), (4, vr W), (3, vr rw), (2, vi ((nn : Nat) : Int)), (1, vr 0), (0, vr SC)]) (by intro q_ h_; simp only [List.mem_cons, List.not_mem_nil, or_false] at h_ ⊢; rcases h_ with rfl | rfl | rfl | rfl | rfl | rfl | rfl | rfl | rfl | rfl | rfl <;> simp) ?_
                    have h_ := ih (e + 1) m376 (by omega) (by omega) hm376.1
                    rw [show ((e + 1 : Nat) : Int) = (e : Int) + 1 by omega] at h_
                    exact h_
                  · skip
                    exfalso; omega
                · skip
                  refine V_ld (pc := 444) dL_law_444 (v := vi ((e : Nat) : Int)) rfl rfl ?_
                  refine V_ld (pc := 446) dL_law_446 (v := vi ((a : Nat) : Int)) rfl rfl ?_
                  refine V_isub (pc := 448) dL_law_448 (by unfold I32 at *; omega) ?_
                  refine V_ld (pc := 449) dL_law_449 (v := vi hgh) rfl rfl ?_
                  refine V_icmp_ne (pc := 451) dL_law_451 (tgt := 462) rfl (fun h451 => ?_) (fun h451 => ?_)
                  · skip
                    refine V_iinc (pc := 462) dL_law_462 (x := ((e : Nat) : Int)) (ls' := [(12, vi (((e : Nat) : Int) + 1)), (14, vi 0), (13, vi fi), (10, vi hgh), (9, vi low_), (8, vi ways), (6, vi ((a : Nat) : Int)), (5, vr t5), (4, vr W), (3, vr rw), (2, vi ((nn : Nat) : Int)), (1, vr 0), (0, vr SC)]) rfl (by unfold I32 at *; omega) (Nat.le_of_ble_eq_true rfl) rfl ?_
                    refine V_goto (pc := 465) dL_law_465 (tgt := 365) rfl ?_
                    refine V_ls (ls' := [(12, vi (((e : Nat) : Int) + 1)), (10, vi hgh), (9, vi low_), (8, vi ways), (6, vi ((a : Nat) : Int)), (5, vr t5), (4, vr W), (3, vr rw), (2, vi ((nn : Nat) : Int)), (1, vr 0), (0, vr SC)]) (by intro q_ h_; simp only [List.mem_cons, List.not_mem_nil, or_false] at h_ ⊢; rcases h_ with rfl | rfl | rfl | rfl | rfl | rfl | rfl | rfl | rfl | rfl | rfl <;> simp) ?_
                    have h_ := ih (e + 1) m376 (by omega) (by omega) hm376.1
                    rw [show ((e + 1 : Nat) : Int) = (e : Int) + 1 by omega] at h_
                    exact h_
                  · skip
                    refine V_ld (pc := 454) dL_law_454 (v := vi fi) rfl rfl ?_
                    refine V_iconst (pc := 456) dL_law_456 (by unfold I32; omega) ?_
                    refine V_icmp_eq (pc := 457) dL_law_457 (tgt := 462) rfl (fun h457 => ?_) (fun h457 => ?_)
                    · skip
                      refine V_iinc (pc := 462) dL_law_462 (x := ((e : Nat) : Int)) (ls' := [(12, vi (((e : Nat) : Int) + 1)), (14, vi 0), (13, vi fi), (10, vi hgh), (9, vi low_), (8, vi ways), (6, vi ((a : Nat) : Int)), (5, vr t5), (4, vr W), (3, vr rw), (2, vi ((nn : Nat) : Int)), (1, vr 0), (0, vr SC)]) rfl (by unfold I32 at *; omega) (Nat.le_of_ble_eq_true rfl) rfl ?_
                      refine V_goto (pc := 465) dL_law_465 (tgt := 365) rfl ?_
                      refine V_ls (ls' := [(12, vi (((e : Nat) : Int) + 1)), (10, vi hgh), (9, vi low_), (8, vi ways), (6, vi ((a : Nat) : Int)), (5, vr t5), (4, vr W), (3, vr rw), (2, vi ((nn : Nat) : Int)), (1, vr 0), (0, vr SC)]) (by intro q_ h_; simp only [List.mem_cons, List.not_mem_nil, or_false] at h_ ⊢; rcases h_ with rfl | rfl | rfl | rfl | rfl | rfl | rfl | rfl | rfl | rfl | rfl <;> simp) ?_
                      have h_ := ih (e + 1) m376 (by omega) (by omega) hm376.1
                      rw [show ((e + 1 : Nat) : Int) = (e : Int) + 1 by omega] at h_
                      exact h_
                    · skip
                      exfalso; omega
            · skip
              refine V_ld (pc := 419) dL_law_419 (v := vi ways) rfl rfl ?_
              refine V_if_eq (pc := 421) dL_law_421 (tgt := 460) rfl (fun h421 => ?_) (fun h421 => ?_)
              · skip
                exfalso; omega
              · skip
                refine V_ld (pc := 424) dL_law_424 (v := vi 0) rfl rfl ?_
                refine V_if_ne (pc := 426) dL_law_426 (tgt := 460) rfl (fun h_ => absurd h_ (by decide)) (fun _ => ?_)
                refine V_ld (pc := 429) dL_law_429 (v := vi ways) rfl rfl ?_
                refine V_if_le (pc := 431) dL_law_431 (tgt := 462) rfl (fun h431 => ?_) (fun h431 => ?_)
                · skip
                  refine V_iinc (pc := 462) dL_law_462 (x := ((e : Nat) : Int)) (ls' := [(12, vi (((e : Nat) : Int) + 1)), (14, vi 0), (13, vi fi), (10, vi hgh), (9, vi low_), (8, vi ways), (6, vi ((a : Nat) : Int)), (5, vr t5), (4, vr W), (3, vr rw), (2, vi ((nn : Nat) : Int)), (1, vr 0), (0, vr SC)]) rfl (by unfold I32 at *; omega) (Nat.le_of_ble_eq_true rfl) rfl ?_
                  refine V_goto (pc := 465) dL_law_465 (tgt := 365) rfl ?_
                  refine V_ls (ls' := [(12, vi (((e : Nat) : Int) + 1)), (10, vi hgh), (9, vi low_), (8, vi ways), (6, vi ((a : Nat) : Int)), (5, vr t5), (4, vr W), (3, vr rw), (2, vi ((nn : Nat) : Int)), (1, vr 0), (0, vr SC)]) (by intro q_ h_; simp only [List.mem_cons, List.not_mem_nil, or_false] at h_ ⊢; rcases h_ with rfl | rfl | rfl | rfl | rfl | rfl | rfl | rfl | rfl | rfl | rfl <;> simp) ?_
                  have h_ := ih (e + 1) m376 (by omega) (by omega) hm376.1
                  rw [show ((e + 1 : Nat) : Int) = (e : Int) + 1 by omega] at h_
                  exact h_
                · skip
                  refine V_ld (pc := 434) dL_law_434 (v := vi ((e : Nat) : Int)) rfl rfl ?_
                  refine V_ld (pc := 436) dL_law_436 (v := vi ((a : Nat) : Int)) rfl rfl ?_
                  refine V_isub (pc := 438) dL_law_438 (by unfold I32 at *; omega) ?_
                  refine V_ld (pc := 439) dL_law_439 (v := vi low_) rfl rfl ?_
                  refine V_icmp_eq (pc := 441) dL_law_441 (tgt := 454) rfl (fun h441 => ?_) (fun h441 => ?_)
                  · skip
                    refine V_ld (pc := 454) dL_law_454 (v := vi fi) rfl rfl ?_
                    refine V_iconst (pc := 456) dL_law_456 (by unfold I32; omega) ?_
                    refine V_icmp_eq (pc := 457) dL_law_457 (tgt := 462) rfl (fun h457 => ?_) (fun h457 => ?_)
                    · skip
                      refine V_iinc (pc := 462) dL_law_462 (x := ((e : Nat) : Int)) (ls' := [(12, vi (((e : Nat) : Int) + 1)), (14, vi 0), (13, vi fi), (10, vi hgh), (9, vi low_), (8, vi ways), (6, vi ((a : Nat) : Int)), (5, vr t5), (4, vr W), (3, vr rw), (2, vi ((nn : Nat) : Int)), (1, vr 0), (0, vr SC)]) rfl (by unfold I32 at *; omega) (Nat.le_of_ble_eq_true rfl) rfl ?_
                      refine V_goto (pc := 465) dL_law_465 (tgt := 365) rfl ?_
                      refine V_ls (ls' := [(12, vi (((e : Nat) : Int) + 1)), (10, vi hgh), (9, vi low_), (8, vi ways), (6, vi ((a : Nat) : Int)), (5, vr t5), (4, vr W), (3, vr rw), (2, vi ((nn : Nat) : Int)), (1, vr 0), (0, vr SC)]) (by intro q_ h_; simp only [List.mem_cons, List.not_mem_nil, or_false] at h_ ⊢; rcases h_ with rfl | rfl | rfl | rfl | rfl | rfl | rfl | rfl | rfl | rfl | rfl <;> simp) ?_
                      have h_ := ih (e + 1) m376 (by omega) (by omega) hm376.1
                      rw [show ((e + 1 : Nat) : Int) = (e : Int) + 1 by omega] at h_
                      exact h_
                    · skip
                      exfalso; omega
                  · skip
                    refine V_ld (pc := 444) dL_law_444 (v := vi ((e : Nat) : Int)) rfl rfl ?_
                    refine V_ld (pc := 446) dL_law_446 (v := vi ((a : Nat) : Int)) rfl rfl ?_
                    refine V_isub (pc := 448) dL_law_448 (by unfold I32 at *; omega) ?_
                    refine V_ld (pc := 449) dL_law_449 (v := vi hgh) rfl rfl ?_
                    refine V_icmp_ne (pc := 451) dL_law_451 (tgt := 462) rfl (fun h451 => ?_) (fun h451 => ?_)
                    · skip
                      refine V_iinc (pc := 462) dL_law_462 (x := ((e : Nat) : Int)) (ls' := [(12, vi (((e : Nat) : Int) + 1)), (14, vi 0), (13, vi fi), (10, vi hgh), (9, vi low_), (8, vi ways), (6, vi ((a : Nat) : Int)), (5, vr t5), (4, vr W), (3, vr rw), (2, vi ((nn : Nat) : Int)), (1, vr 0), (0, vr SC)]) rfl (by unfold I32 at *; omega) (Nat.le_of_ble_eq_true rfl) rfl ?_
                      refine V_goto (pc := 465) dL_law_465 (tgt := 365) rfl ?_
                      refine V_ls (ls' := [(12, vi (((e : Nat) : Int) + 1)), (10, vi hgh), (9, vi low_), (8, vi ways), (6, vi ((a : Nat) : Int)), (5, vr t5), (4, vr W), (3, vr rw), (2, vi ((nn : Nat) : Int)), (1, vr 0), (0, vr SC)]) (by intro q_ h_; simp only [List.mem_cons, List.not_mem_nil, or_false] at h_ ⊢; rcases h_ with rfl | rfl | rfl | rfl | rfl | rfl | rfl | rfl | rfl | rfl | rfl <;> simp) ?_
                      have h_ := ih (e + 1) m376 (by omega) (by omega) hm376.1
                      rw [show ((e + 1 : Nat) : Int) = (e : Int) + 1 by omega] at h_
                      exact h_
                    · skip
                      refine V_ld (pc := 454) dL_law_454 (v := vi fi) rfl rfl ?_
                      refine V_iconst (pc := 456) dL_law_456 (by unfold I32; omega) ?_
                      refine V_icmp_eq (pc := 457) dL_law_457 (tgt := 462) rfl (fun h457 => ?_) (fun h457 => ?_)
                      · skip
                        refine V_iinc (pc := 462) dL_law_462 (x := ((e : Nat) : Int)) (ls' := [(12, vi (((e : Nat) : Int) + 1)), (14, vi 0), (13, vi fi), (10, vi hgh), (9, vi low_), (8, vi ways), (6, vi ((a : Nat) : Int)), (5, vr t5), (4, vr W), (3, vr rw), (2, vi ((nn : Nat) : Int)), (1, vr 0), (0, vr SC)]) rfl (by unfold I32 at *; omega) (Nat.le_of_ble_eq_true rfl) rfl ?_
                        refine V_goto (pc := 465) dL_law_465 (tgt := 365) rfl ?_
                        refine V_ls (ls' := [(12, vi (((e : Nat) : Int) + 1)), (10, vi hgh), (9, vi low_), (8, vi ways), (6, vi ((a : Nat) : Int)), (5, vr t5), (4, vr W), (3, vr rw), (2, vi ((nn : Nat) : Int)), (1, vr 0), (0, vr SC)]) (by intro q_ h_; simp only [List.mem_cons, List.not_mem_nil, or_false] at h_ ⊢; rcases h_ with rfl | rfl | rfl | rfl | rfl | rfl | rfl | rfl | rfl | rfl | rfl <;> simp) ?_
                        have h_ := ih (e + 1) m376 (by omega) (by omega) hm376.1
                        rw [show ((e + 1 : Nat) : Int) = (e : Int) + 1 by omega] at h_
                        exact h_
                      · skip
                        exfalso; omega
        · skip
          refine V_iconst (pc := 401) dL_law_401 (by unfold I32; omega) ?_
          refine V_goto (pc := 402) dL_law_402 (tgt := 406) rfl ?_
          refine V_st (pc := 406) dL_law_406 (ls' := [(14, vi 1), (13, vi fi), (12, vi ((e : Nat) : Int)), (10, vi hgh), (9, vi low_), (8, vi ways), (6, vi ((a : Nat) : Int)), (5, vr t5), (4, vr W), (3, vr rw), (2, vi ((nn : Nat) : Int)), (1, vr 0), (0, vr SC)]) rfl (Nat.le_of_ble_eq_true rfl) rfl ?_
          refine V_ld (pc := 408) dL_law_408 (v := vi fi) rfl rfl ?_
          refine V_if_lt (pc := 410) dL_law_410 (tgt := 460) rfl (fun h410 => ?_) (fun h410 => ?_)
          · skip
            exfalso; omega
          · skip
            refine V_ld (pc := 413) dL_law_413 (v := vi fi) rfl rfl ?_
            refine V_iconst (pc := 415) dL_law_415 (by unfold I32; omega) ?_
            refine V_icmp_ne (pc := 416) dL_law_416 (tgt := 429) rfl (fun h416 => ?_) (fun h416 => ?_)
            · skip
              refine V_ld (pc := 429) dL_law_429 (v := vi ways) rfl rfl ?_
              refine V_if_le (pc := 431) dL_law_431 (tgt := 462) rfl (fun h431 => ?_) (fun h431 => ?_)
              · skip
                refine V_iinc (pc := 462) dL_law_462 (x := ((e : Nat) : Int)) (ls' := [(12, vi (((e : Nat) : Int) + 1)), (14, vi 1), (13, vi fi), (10, vi hgh), (9, vi low_), (8, vi ways), (6, vi ((a : Nat) : Int)), (5, vr t5), (4, vr W), (3, vr rw), (2, vi ((nn : Nat) : Int)), (1, vr 0), (0, vr SC)]) rfl (by unfold I32 at *; omega) (Nat.le_of_ble_eq_true rfl) rfl ?_
                refine V_goto (pc := 465) dL_law_465 (tgt := 365) rfl ?_
                refine V_ls (ls' := [(12, vi (((e : Nat) : Int) + 1)), (10, vi hgh), (9, vi low_), (8, vi ways), (6, vi ((a : Nat) : Int)), (5, vr t5), (4, vr W), (3, vr rw), (2, vi ((nn : Nat) : Int)), (1, vr 0), (0, vr SC)]) (by intro q_ h_; simp only [List.mem_cons, List.not_mem_nil, or_false] at h_ ⊢; rcases h_ with rfl | rfl | rfl | rfl | rfl | rfl | rfl | rfl | rfl | rfl | rfl <;> simp) ?_
                have h_ := ih (e + 1) m376 (by omega) (by omega) hm376.1
                rw [show ((e + 1 : Nat) : Int) = (e : Int) + 1 by omega] at h_
                exact h_
              · skip
                refine V_ld (pc := 434) dL_law_434 (v := vi ((e : Nat) : Int)) rfl rfl ?_
                refine V_ld (pc := 436) dL_law_436 (v := vi ((a : Nat) : Int)) rfl rfl ?_
                refine V_isub (pc := 438) dL_law_438 (by unfold I32 at *; omega) ?_
                refine V_ld (pc := 439) dL_law_439 (v := vi low_) rfl rfl ?_
                refine V_icmp_eq (pc := 441) dL_law_441 (tgt := 454) rfl (fun h441 => ?_) (fun h441 => ?_)
                · skip
                  refine V_ld (pc := 454) dL_law_454 (v := vi fi) rfl rfl ?_
                  refine V_iconst (pc := 456) dL_law_456 (by unfold I32; omega) ?_
                  refine V_icmp_eq (pc := 457) dL_law_457 (tgt := 462) rfl (fun h457 => ?_) (fun h457 => ?_)
                  · skip
                    refine V_iinc (pc := 462) dL_law_462 (x := ((e : Nat) : Int)) (ls' := [(12, vi (((e : Nat) : Int) + 1)), (14, vi 1), (13, vi fi), (10, vi hgh), (9, vi low_), (8, vi ways), (6, vi ((a : Nat) : Int)), (5, vr t5), (4, vr W), (3, vr rw), (2, vi ((nn : Nat) : Int)), (1, vr 0), (0, vr SC)]) rfl (by unfold I32 at *; omega) (Nat.le_of_ble_eq_true rfl) rfl ?_
                    refine V_goto (pc := 465) dL_law_465 (tgt := 365) rfl ?_
                    refine V_ls (ls' := [(12, vi (((e : Nat) : Int) + 1)), (10, vi hgh), (9, vi low_), (8, vi ways), (6, vi ((a : Nat) : Int)), (5, vr t5), (4, vr W), (3, vr rw), (2, vi ((nn : Nat) : Int)), (1, vr 0), (0, vr SC)]) (by intro q_ h_; simp only [List.mem_cons, List.not_mem_nil, or_false] at h_ ⊢; rcases h_ with rfl | rfl | rfl | rfl | rfl | rfl | rfl | rfl | rfl | rfl | rfl <;> simp) ?_
                    have h_ := ih (e + 1) m376 (by omega) (by omega) hm376.1
                    rw [show ((e + 1 : Nat) : Int) = (e : Int) + 1 by omega] at h_
                    exact h_
                  · skip
                    exfalso; omega
                · skip
                  refine V_ld (pc := 444) dL_law_444 (v := vi ((e : Nat) : Int)) rfl rfl ?_
                  refine V_ld (pc := 446) dL_law_446 (v := vi ((a : Nat) : Int)) rfl rfl ?_
                  refine V_isub (pc := 448) dL_law_448 (by unfold I32 at *; omega) ?_
                  refine V_ld (pc := 449) dL_law_449 (v := vi hgh) rfl rfl ?_
                  refine V_icmp_ne (pc := 451) dL_law_451 (tgt := 462) rfl (fun h451 => ?_) (fun h451 => ?_)
                  · skip
                    refine V_iinc (pc := 462) dL_law_462 (x := ((e : Nat) : Int)) (ls' := [(12, vi (((e : Nat) : Int) + 1)), (14, vi 1), (13, vi fi), (10, vi hgh), (9, vi low_), (8, vi ways), (6, vi ((a : Nat) : Int)), (5, vr t5), (4, vr W), (3, vr rw), (2, vi ((nn : Nat) : Int)), (1, vr 0), (0, vr SC)]) rfl (by unfold I32 at *; omega) (Nat.le_of_ble_eq_true rfl) rfl ?_
                    refine V_goto (pc := 465) dL_law_465 (tgt := 365) rfl ?_
                    refine V_ls (ls' := [(12, vi (((e : Nat) : Int) + 1)), (10, vi hgh), (9, vi low_), (8, vi ways), (6, vi ((a : Nat) : Int)), (5, vr t5), (4, vr W), (3, vr rw), (2, vi ((nn : Nat) : Int)), (1, vr 0), (0, vr SC)]) (by intro q_ h_; simp only [List.mem_cons, List.not_mem_nil, or_false] at h_ ⊢; rcases h_ with rfl | rfl | rfl | rfl | rfl | rfl | rfl | rfl | rfl | rfl | rfl <;> simp) ?_
                    have h_ := ih (e + 1) m376 (by omega) (by omega) hm376.1
                    rw [show ((e + 1 : Nat) : Int) = (e : Int) + 1 by omega] at h_
                    exact h_
                  · skip
                    refine V_ld (pc := 454) dL_law_454 (v := vi fi) rfl rfl ?_
                    refine V_iconst (pc := 456) dL_law_456 (by unfold I32; omega) ?_
                    refine V_icmp_eq (pc := 457) dL_law_457 (tgt := 462) rfl (fun h457 => ?_) (fun h457 => ?_)
                    · skip
                      refine V_iinc (pc := 462) dL_law_462 (x := ((e : Nat) : Int)) (ls' := [(12, vi (((e : Nat) : Int) + 1)), (14, vi 1), (13, vi fi), (10, vi hgh), (9, vi low_), (8, vi ways), (6, vi ((a : Nat) : Int)), (5, vr t5), (4, vr W), (3, vr rw), (2, vi ((nn : Nat) : Int)), (1, vr 0), (0, vr SC)]) rfl (by unfold I32 at *; omega) (Nat.le_of_ble_eq_true rfl) rfl ?_
                      refine V_goto (pc := 465) dL_law_465 (tgt := 365) rfl ?_
                      refine V_ls (ls' := [(12, vi (((e : Nat) : Int) + 1)), (10, vi hgh), (9, vi low_), (8, vi ways), (6, vi ((a : Nat) : Int)), (5, vr t5), (4, vr W), (3, vr rw), (2, vi ((nn : Nat) : Int)), (1, vr 0), (0, vr SC)]) (by intro q_ h_; simp only [List.mem_cons, List.not_mem_nil, or_false] at h_ ⊢; rcases h_ with rfl | rfl | rfl | rfl | rfl | rfl | rfl | rfl | rfl | rfl | rfl <;> simp) ?_
                      have h_ := ih (e + 1) m376 (by omega) (by omega) hm376.1
                      rw [show ((e + 1 : Nat) : Int) = (e : Int) + 1 by omega] at h_
                      exact h_
                    · skip
                      exfalso; omega
            · skip
              refine V_ld (pc := 419) dL_law_419 (v := vi ways) rfl rfl ?_
              refine V_if_eq (pc := 421) dL_law_421 (tgt := 460) rfl (fun h421 => ?_) (fun h421 => ?_)
              · skip
                exfalso; omega
              · skip
                refine V_ld (pc := 424) dL_law_424 (v := vi 1) rfl rfl ?_
                refine V_if_ne (pc := 426) dL_law_426 (tgt := 460) rfl (fun _ => ?_) (fun h_ => absurd h_ (by decide))
                exfalso; omega
set_option maxHeartbeats 8000000 in
theorem L_case7 {F : Nat} {m0 b : Mem} {post : Option AV → Mem → Prop} {P Q L rw W nn t5 : Nat} {cx : CX} {v : Nat → Nat → Int} {wv : Nat → Int} (hC : LawC b P Q L cx rw W nn v wv) (hF : 100 < F) {a s q : Nat} {m : Mem} (ha : a ≤ nn) (hs : s ≤ 99) (hm : LawM b m s) (h7 : fV cx ((a : Nat) : Int) = -7 ∧ aV cx ((a : Nat) : Int) = -7 ∧ tV cx ((a : Nat) : Int) = -7)
    (kx : ∀ m, LawM b m s → _root_.Jvm.Pilot.@@N@@.V μL_law F m0 post 468 [(6, vi ((a : Nat) : Int)), (5, vr t5), (4, vr W), (3, vr rw), (2, vi ((nn : Nat) : Int)), (1, vr 0), (0, vr SC)] [] m) : _root_.Jvm.Pilot.@@N@@.V μL_law F m0 post 114 [(11, vr q), (10, vi (sV cx ((a : Nat) : Int) 1)), (9, vi (sV cx ((a : Nat) : Int) 0)), (8, vi (aV cx ((a : Nat) : Int))), (7, vi (fV cx ((a : Nat) : Int))), (6, vi ((a : Nat) : Int)), (5, vr t5), (4, vr W), (3, vr rw), (2, vi ((nn : Nat) : Int)), (1, vr 0), (0, vr SC)] [] m := by
  have hB := hC.1
  have hnn := hC.2.2.2.1.1
  have hn7 := hC.2.2.2.1.2
  refine V_ld (pc := 114) dL_law_114 (v := vi (fV cx ((a : Nat) : Int))) rfl rfl ?_
  refine V_if_lt (pc := 116) dL_law_116 (tgt := 243) rfl (fun h116 => ?_) (fun h116 => ?_)
  · skip
    refine V_ld (pc := 243) dL_law_243 (v := vi (fV cx ((a : Nat) : Int))) rfl rfl ?_
    refine V_bipush (pc := 245) dL_law_245 (by unfold I32; omega) (by decide) ?_
    refine V_icmp_ne (pc := 247) dL_law_247 (tgt := 269) rfl (fun h247 => ?_) (fun h247 => ?_)
    · skip
      refine V_ld (pc := 269) dL_law_269 (v := vi (fV cx ((a : Nat) : Int))) rfl rfl ?_
      refine V_bipush (pc := 271) dL_law_271 (by unfold I32; omega) (by decide) ?_
      refine V_icmp_ne (pc := 273) dL_law_273 (tgt := 296) rfl (fun h273 => ?_) (fun h273 => ?_)
      · skip
        refine V_ld (pc := 296) dL_law_296 (v := vi (aV cx ((a : Nat) : Int))) rfl rfl ?_
        refine V_if_lt (pc := 298) dL_law_298 (tgt := 468) rfl (fun h298 => ?_) (fun h298 => ?_)
        · skip
          refine V_ls (ls' := [(6, vi ((a : Nat) : Int)), (5, vr t5), (4, vr W), (3, vr rw), (2, vi ((nn : Nat) : Int)), (1, vr 0), (0, vr SC)]) (by intro q_ h_; simp only [List.mem_cons, List.not_mem_nil, or_false] at h_ ⊢; rcases h_ with rfl | rfl | rfl | rfl | rfl | rfl | rfl <;> simp) ?_
          exact kx _ hm
        · skip
          exfalso; omega
      · skip
        refine V_ld (pc := 276) dL_law_276 (v := vi (aV cx ((a : Nat) : Int))) rfl rfl ?_
        refine V_bipush (pc := 278) dL_law_278 (by unfold I32; omega) (by decide) ?_
        refine V_icmp_ne (pc := 280) dL_law_280 (tgt := 294) rfl (fun h280 => ?_) (fun h280 => ?_)
        · skip
          exfalso; omega
        · skip
          refine V_ld (pc := 283) dL_law_283 (v := vr 0) rfl rfl ?_
          refine V_ld (pc := 284) dL_law_284 (v := vi ((a : Nat) : Int)) rfl rfl ?_
          refine V_callV (pc := 286) dL_law_286 (F' := 8) (As := [vi ((a : Nat) : Int)]) (st := []) cw_RL_184 rfl rfl (hm.sb hB (by omega)).1.1.t0 (by decide) (Nat.le_of_ble_eq_true rfl) (by omega) (l_tries hB hm (by omega) (by omega)) ?_
          rintro _ m286 ⟨x286, rfl, hx286, hm286⟩ ok286 le286
          subst hx286
          refine V_bipush (pc := 289) dL_law_289 (by unfold I32; omega) (by decide) ?_
          refine V_icmp_eq (pc := 291) dL_law_291 (tgt := 296) rfl (fun h291 => ?_) (fun h291 => ?_)
          · skip
            refine V_ld (pc := 296) dL_law_296 (v := vi (aV cx ((a : Nat) : Int))) rfl rfl ?_
            refine V_if_lt (pc := 298) dL_law_298 (tgt := 468) rfl (fun h298 => ?_) (fun h298 => ?_)
            · skip
              refine V_ls (ls' := [(6, vi ((a : Nat) : Int)), (5, vr t5), (4, vr W), (3, vr rw), (2, vi ((nn : Nat) : Int)), (1, vr 0), (0, vr SC)]) (by intro q_ h_; simp only [List.mem_cons, List.not_mem_nil, or_false] at h_ ⊢; rcases h_ with rfl | rfl | rfl | rfl | rfl | rfl | rfl <;> simp) ?_
              exact kx _ hm286.1
            · skip
              exfalso; omega
          · skip
            exfalso; omega
    · skip
      exfalso; omega
  · skip
    exfalso; omega
set_option maxHeartbeats 8000000 in
theorem L_case5 {F : Nat} {m0 b : Mem} {post : Option AV → Mem → Prop} {P Q L rw W nn t5 : Nat} {cx : CX} {v : Nat → Nat → Int} {wv : Nat → Int} (hC : LawC b P Q L cx rw W nn v wv) (hF : 100 < F) {a s q : Nat} {m : Mem} (ha : a ≤ nn) (hs : s ≤ 99) (hm : LawM b m s) (h5 : fV cx ((a : Nat) : Int) = -5 ∧ aV cx ((a : Nat) : Int) = 0 ∧ sV cx ((a : Nat) : Int) 0 = -5 ∧ sV cx ((a : Nat) : Int) 1 = -5 ∧ ∀ e, ((a : Nat) : Int) ≤ e → e ≤ cx.2.2.1 → eV cx ((a : Nat) : Int) e = 0)
    (kx : ∀ m, LawM b m s → _root_.Jvm.Pilot.@@N@@.V μL_law F m0 post 468 [(6, vi ((a : Nat) : Int)), (5, vr t5), (4, vr W), (3, vr rw), (2, vi ((nn : Nat) : Int)), (1, vr 0), (0, vr SC)] [] m) : _root_.Jvm.Pilot.@@N@@.V μL_law F m0 post 114 [(11, vr q), (10, vi (sV cx ((a : Nat) : Int) 1)), (9, vi (sV cx ((a : Nat) : Int) 0)), (8, vi (aV cx ((a : Nat) : Int))), (7, vi (fV cx ((a : Nat) : Int))), (6, vi ((a : Nat) : Int)), (5, vr t5), (4, vr W), (3, vr rw), (2, vi ((nn : Nat) : Int)), (1, vr 0), (0, vr SC)] [] m := by
  have hB := hC.1
  have hnn := hC.2.2.2.1.1
  have hn7 := hC.2.2.2.1.2
  obtain ⟨g1, g2, g3, g4, g5⟩ := h5
  refine V_ld (pc := 114) dL_law_114 (v := vi (fV cx ((a : Nat) : Int))) rfl rfl ?_
  refine V_if_lt (pc := 116) dL_law_116 (tgt := 243) rfl (fun h116 => ?_) (fun h116 => ?_)
  · skip
    refine V_ld (pc := 243) dL_law_243 (v := vi (fV cx ((a : Nat) : Int))) rfl rfl ?_
    refine V_bipush (pc := 245) dL_law_245 (by unfold I32; omega) (by decide) ?_
    refine V_icmp_ne (pc := 247) dL_law_247 (tgt := 269) rfl (fun h247 => ?_) (fun h247 => ?_)
    · skip
      refine V_ld (pc := 269) dL_law_269 (v := vi (fV cx ((a : Nat) : Int))) rfl rfl ?_
      refine V_bipush (pc := 271) dL_law_271 (by unfold I32; omega) (by decide) ?_
      refine V_icmp_ne (pc := 273) dL_law_273 (tgt := 296) rfl (fun h273 => ?_) (fun h273 => ?_)
      · skip
        refine V_ld (pc := 296) dL_law_296 (v := vi (aV cx ((a : Nat) : Int))) rfl rfl ?_
        refine V_if_lt (pc := 298) dL_law_298 (tgt := 468) rfl (fun h298 => ?_) (fun h298 => ?_)
        · skip
          exfalso; omega
        · skip
          refine V_ld (pc := 301) dL_law_301 (v := vi (aV cx ((a : Nat) : Int))) rfl rfl ?_
          refine V_if_ne (pc := 303) dL_law_303 (tgt := 310) rfl (fun h303 => ?_) (fun h303 => ?_)
          · skip
            exfalso; omega
          · skip
            refine V_iconst (pc := 306) dL_law_306 (by unfold I32; omega) ?_
            refine V_goto (pc := 307) dL_law_307 (tgt := 311) rfl ?_
            refine V_ld (pc := 311) dL_law_311 (v := vi (fV cx ((a : Nat) : Int))) rfl rfl ?_
            refine V_bipush (pc := 313) dL_law_313 (by unfold I32; omega) (by decide) ?_
            refine V_icmp_ne (pc := 315) dL_law_315 (tgt := 322) rfl (fun h315 => ?_) (fun h315 => ?_)
            · skip
              exfalso; omega
            · skip
              refine V_iconst (pc := 318) dL_law_318 (by unfold I32; omega) ?_
              refine V_goto (pc := 319) dL_law_319 (tgt := 323) rfl ?_
              refine V_icmp_ne (pc := 323) dL_law_323 (tgt := 359) rfl (fun h_ => absurd h_ (by decide)) (fun _ => ?_)
              refine V_ld (pc := 326) dL_law_326 (v := vi (aV cx ((a : Nat) : Int))) rfl rfl ?_
              refine V_if_le (pc := 328) dL_law_328 (tgt := 361) rfl (fun h328 => ?_) (fun h328 => ?_)
              · skip
                refine V_ld (pc := 361) dL_law_361 (v := vi ((a : Nat) : Int)) rfl rfl ?_
                refine V_st (pc := 363) dL_law_363 (ls' := [(12, vi ((a : Nat) : Int)), (11, vr q), (10, vi (sV cx ((a : Nat) : Int) 1)), (9, vi (sV cx ((a : Nat) : Int) 0)), (8, vi (aV cx ((a : Nat) : Int))), (7, vi (fV cx ((a : Nat) : Int))), (6, vi ((a : Nat) : Int)), (5, vr t5), (4, vr W), (3, vr rw), (2, vi ((nn : Nat) : Int)), (1, vr 0), (0, vr SC)]) rfl (Nat.le_of_ble_eq_true rfl) rfl ?_
                refine V_ls (ls' := [(12, vi ((a : Nat) : Int)), (10, vi (sV cx ((a : Nat) : Int) 1)), (9, vi (sV cx ((a : Nat) : Int) 0)), (8, vi (aV cx ((a : Nat) : Int))), (6, vi ((a : Nat) : Int)), (5, vr t5), (4, vr W), (3, vr rw), (2, vi ((nn : Nat) : Int)), (1, vr 0), (0, vr SC)]) (by intro q_ h_; simp only [List.mem_cons, List.not_mem_nil, or_false] at h_ ⊢; rcases h_ with rfl | rfl | rfl | rfl | rfl | rfl | rfl | rfl | rfl | rfl | rfl <;> simp) ?_
                exact L_fit hC hF ha hs (by omega) (fun e h1 h2 => Or.inr ⟨g5 e h1 (by omega), Or.inl g2⟩) kx (nn + 1 - a) a _ (by omega) (Nat.le_refl _) hm
              · skip
                exfalso; omega
      · skip
        exfalso; omega
    · skip
      refine V_ld (pc := 250) dL_law_250 (v := vi (aV cx ((a : Nat) : Int))) rfl rfl ?_
      refine V_if_ne (pc := 252) dL_law_252 (tgt := 294) rfl (fun h252 => ?_) (fun h252 => ?_)
      · skip
        exfalso; omega
      · skip
        refine V_ld (pc := 255) dL_law_255 (v := vi (sV cx ((a : Nat) : Int) 0)) rfl rfl ?_
        refine V_bipush (pc := 257) dL_law_257 (by unfold I32; omega) (by decide) ?_
        refine V_icmp_ne (pc := 259) dL_law_259 (tgt := 294) rfl (fun h259 => ?_) (fun h259 => ?_)
        · skip
          exfalso; omega
        · skip
          refine V_ld (pc := 262) dL_law_262 (v := vi (sV cx ((a : Nat) : Int) 1)) rfl rfl ?_
          refine V_bipush (pc := 264) dL_law_264 (by unfold I32; omega) (by decide) ?_
          refine V_icmp_ne (pc := 266) dL_law_266 (tgt := 294) rfl (fun h266 => ?_) (fun h266 => ?_)
          · skip
            exfalso; omega
          · skip
            refine V_ld (pc := 269) dL_law_269 (v := vi (fV cx ((a : Nat) : Int))) rfl rfl ?_
            refine V_bipush (pc := 271) dL_law_271 (by unfold I32; omega) (by decide) ?_
            refine V_icmp_ne (pc := 273) dL_law_273 (tgt := 296) rfl (fun h273 => ?_) (fun h273 => ?_)
            · skip
              refine V_ld (pc := 296) dL_law_296 (v := vi (aV cx ((a : Nat) : Int))) rfl rfl ?_
              refine V_if_lt (pc := 298) dL_law_298 (tgt := 468) rfl (fun h298 => ?_) (fun h298 => ?_)
              · skip
                exfalso; omega
              · skip
                refine V_ld (pc := 301) dL_law_301 (v := vi (aV cx ((a : Nat) : Int))) rfl rfl ?_
                refine V_if_ne (pc := 303) dL_law_303 (tgt := 310) rfl (fun h303 => ?_) (fun h303 => ?_)
                · skip
                  exfalso; omega
                · skip
                  refine V_iconst (pc := 306) dL_law_306 (by unfold I32; omega) ?_
                  refine V_goto (pc := 307) dL_law_307 (tgt := 311) rfl ?_
                  refine V_ld (pc := 311) dL_law_311 (v := vi (fV cx ((a : Nat) : Int))) rfl rfl ?_
                  refine V_bipush (pc := 313) dL_law_313 (by unfold I32; omega) (by decide) ?_
                  refine V_icmp_ne (pc := 315) dL_law_315 (tgt := 322) rfl (fun h315 => ?_) (fun h315 => ?_)
                  · skip
                    exfalso; omega
                  · skip
                    refine V_iconst (pc := 318) dL_law_318 (by unfold I32; omega) ?_
                    refine V_goto (pc := 319) dL_law_319 (tgt := 323) rfl ?_
                    refine V_icmp_ne (pc := 323) dL_law_323 (tgt := 359) rfl (fun h_ => absurd h_ (by decide)) (fun _ => ?_)
                    refine V_ld (pc := 326) dL_law_326 (v := vi (aV cx ((a : Nat) : Int))) rfl rfl ?_
                    refine V_if_le (pc := 328) dL_law_328 (tgt := 361) rfl (fun h328 => ?_) (fun h328 => ?_)
                    · skip
                      refine V_ld (pc := 361) dL_law_361 (v := vi ((a : Nat) : Int)) rfl rfl ?_
                      refine V_st (pc := 363) dL_law_363 (ls' := [(12, vi ((a : Nat) : Int)), (11, vr q), (10, vi (sV cx ((a : Nat) : Int) 1)), (9, vi (sV cx ((a : Nat) : Int) 0)), (8, vi (aV cx ((a : Nat) : Int))), (7, vi (fV cx ((a : Nat) : Int))), (6, vi ((a : Nat) : Int)), (5, vr t5), (4, vr W), (3, vr rw), (2, vi ((nn : Nat) : Int)), (1, vr 0), (0, vr SC)]) rfl (Nat.le_of_ble_eq_true rfl) rfl ?_
                      refine V_ls (ls' := [(12, vi ((a : Nat) : Int)), (10, vi (sV cx ((a : Nat) : Int) 1)), (9, vi (sV cx ((a : Nat) : Int) 0)), (8, vi (aV cx ((a : Nat) : Int))), (6, vi ((a : Nat) : Int)), (5, vr t5), (4, vr W), (3, vr rw), (2, vi ((nn : Nat) : Int)), (1, vr 0), (0, vr SC)]) (by intro q_ h_; simp only [List.mem_cons, List.not_mem_nil, or_false] at h_ ⊢; rcases h_ with rfl | rfl | rfl | rfl | rfl | rfl | rfl | rfl | rfl | rfl | rfl <;> simp) ?_
                      exact L_fit hC hF ha hs (by omega) (fun e h1 h2 => Or.inr ⟨g5 e h1 (by omega), Or.inl g2⟩) kx (nn + 1 - a) a _ (by omega) (Nat.le_refl _) hm
                    · skip
                      exfalso; omega
            · skip
              exfalso; omega
  · skip
    exfalso; omega
set_option maxHeartbeats 8000000 in
theorem L_case0 {F : Nat} {m0 b : Mem} {post : Option AV → Mem → Prop} {P Q L rw W nn t5 : Nat} {cx : CX} {v : Nat → Nat → Int} {wv : Nat → Int} (hC : LawC b P Q L cx rw W nn v wv) (hF : 100 < F) {a s q : Nat} {m : Mem} (ha : a ≤ nn) (hs : s ≤ 99) (hm : LawM b m s) (hqb : mN b ≤ q) (hq_ : q < mN m) (tq : mT m q = (20, 40)) (h0 : 0 ≤ fV cx ((a : Nat) : Int) ∧ ((a : Nat) : Int) + fV cx ((a : Nat) : Int) ≤ cx.2.2.1) (h1 : wV cx ((a : Nat) : Int) (fV cx ((a : Nat) : Int)) = -5) (h2 : eV cx ((a : Nat) : Int) (((a : Nat) : Int) + fV cx ((a : Nat) : Int)) = 1) (h3 : 1 ≤ tV cx ((a : Nat) : Int) ∧ tV cx ((a : Nat) : Int) ≤ 800) (h4 : aV cx ((a : Nat) : Int) = -7 ∨ (1 ≤ aV cx ((a : Nat) : Int) ∧ (0 ≤ sV cx ((a : Nat) : Int) 0 ∧ sV cx ((a : Nat) : Int) 0 ≤ fV cx ((a : Nat) : Int) ∧ fV cx ((a : Nat) : Int) ≤ sV cx ((a : Nat) : Int) 1 ∧ ((a : Nat) : Int) + sV cx ((a : Nat) : Int) 1 ≤ cx.2.2.1) ∧ ∀ e, ((a : Nat) : Int) ≤ e → e ≤ cx.2.2.1 → (eV cx ((a : Nat) : Int) e = 1 ∧ sV cx ((a : Nat) : Int) 0 ≤ e - ((a : Nat) : Int) ∧ e - ((a : Nat) : Int) ≤ sV cx ((a : Nat) : Int) 1) ∨ (eV cx ((a : Nat) : Int) e = 0 ∧ e - ((a : Nat) : Int) ≠ sV cx ((a : Nat) : Int) 0 ∧ e - ((a : Nat) : Int) ≠ sV cx ((a : Nat) : Int) 1)))
    (kx : ∀ m, LawM b m s → _root_.Jvm.Pilot.@@N@@.V μL_law F m0 post 468 [(6, vi ((a : Nat) : Int)), (5, vr t5), (4, vr W), (3, vr rw), (2, vi ((nn : Nat) : Int)), (1, vr 0), (0, vr SC)] [] m) : _root_.Jvm.Pilot.@@N@@.V μL_law F m0 post 114 [(11, vr q), (10, vi (sV cx ((a : Nat) : Int) 1)), (9, vi (sV cx ((a : Nat) : Int) 0)), (8, vi (aV cx ((a : Nat) : Int))), (7, vi (fV cx ((a : Nat) : Int))), (6, vi ((a : Nat) : Int)), (5, vr t5), (4, vr W), (3, vr rw), (2, vi ((nn : Nat) : Int)), (1, vr 0), (0, vr SC)] [] m := by
  have hB := hC.1
  have hnn := hC.2.2.2.1.1
  have hn7 := hC.2.2.2.1.2
  refine V_ld (pc := 114) dL_law_114 (v := vi (fV cx ((a : Nat) : Int))) rfl rfl ?_
  refine V_if_lt (pc := 116) dL_law_116 (tgt := 243) rfl (fun h116 => ?_) (fun h116 => ?_)
  · skip
    refine V_ld (pc := 243) dL_law_243 (v := vi (fV cx ((a : Nat) : Int))) rfl rfl ?_
    refine V_bipush (pc := 245) dL_law_245 (by unfold I32; omega) (by decide) ?_
    refine V_icmp_ne (pc := 247) dL_law_247 (tgt := 269) rfl (fun h247 => ?_) (fun h247 => ?_)
    · skip
      refine V_ld (pc := 269) dL_law_269 (v := vi (fV cx ((a : Nat) : Int))) rfl rfl ?_
      refine V_bipush (pc := 271) dL_law_271 (by unfold I32; omega) (by decide) ?_
      refine V_icmp_ne (pc := 273) dL_law_273 (tgt := 296) rfl (fun h273 => ?_) (fun h273 => ?_)
      · skip
        refine V_ld (pc := 296) dL_law_296 (v := vi (aV cx ((a : Nat) : Int))) rfl rfl ?_
        refine V_if_lt (pc := 298) dL_law_298 (tgt := 468) rfl (fun h298 => ?_) (fun h298 => ?_)
        · skip
          refine V_ls (ls' := [(6, vi ((a : Nat) : Int)), (5, vr t5), (4, vr W), (3, vr rw), (2, vi ((nn : Nat) : Int)), (1, vr 0), (0, vr SC)]) (by intro q_ h_; simp only [List.mem_cons, List.not_mem_nil, or_false] at h_ ⊢; rcases h_ with rfl | rfl | rfl | rfl | rfl | rfl | rfl <;> simp) ?_
          exact kx _ hm
        · skip
          obtain ⟨b1, b2, b3⟩ := h4.resolve_left (by omega)
          refine V_ld (pc := 301) dL_law_301 (v := vi (aV cx ((a : Nat) : Int))) rfl rfl ?_
          refine V_if_ne (pc := 303) dL_law_303 (tgt := 310) rfl (fun h303 => ?_) (fun h303 => ?_)
          · skip
            refine V_iconst (pc := 310) dL_law_310 (by unfold I32; omega) ?_
            refine V_ld (pc := 311) dL_law_311 (v := vi (fV cx ((a : Nat) : Int))) rfl rfl ?_
            refine V_bipush (pc := 313) dL_law_313 (by unfold I32; omega) (by decide) ?_
            refine V_icmp_ne (pc := 315) dL_law_315 (tgt := 322) rfl (fun h315 => ?_) (fun h315 => ?_)
            · skip
              refine V_iconst (pc := 322) dL_law_322 (by unfold I32; omega) ?_
              refine V_icmp_ne (pc := 323) dL_law_323 (tgt := 359) rfl (fun h_ => absurd h_ (by decide)) (fun _ => ?_)
              refine V_ld (pc := 326) dL_law_326 (v := vi (aV cx ((a : Nat) : Int))) rfl rfl ?_
              refine V_if_le (pc := 328) dL_law_328 (tgt := 361) rfl (fun h328 => ?_) (fun h328 => ?_)
              · skip
                refine V_ld (pc := 361) dL_law_361 (v := vi ((a : Nat) : Int)) rfl rfl ?_
                refine V_st (pc := 363) dL_law_363 (ls' := [(12, vi ((a : Nat) : Int)), (11, vr q), (10, vi (sV cx ((a : Nat) : Int) 1)), (9, vi (sV cx ((a : Nat) : Int) 0)), (8, vi (aV cx ((a : Nat) : Int))), (7, vi (fV cx ((a : Nat) : Int))), (6, vi ((a : Nat) : Int)), (5, vr t5), (4, vr W), (3, vr rw), (2, vi ((nn : Nat) : Int)), (1, vr 0), (0, vr SC)]) rfl (Nat.le_of_ble_eq_true rfl) rfl ?_
                refine V_ls (ls' := [(12, vi ((a : Nat) : Int)), (10, vi (sV cx ((a : Nat) : Int) 1)), (9, vi (sV cx ((a : Nat) : Int) 0)), (8, vi (aV cx ((a : Nat) : Int))), (6, vi ((a : Nat) : Int)), (5, vr t5), (4, vr W), (3, vr rw), (2, vi ((nn : Nat) : Int)), (1, vr 0), (0, vr SC)]) (by intro q_ h_; simp only [List.mem_cons, List.not_mem_nil, or_false] at h_ ⊢; rcases h_ with rfl | rfl | rfl | rfl | rfl | rfl | rfl | rfl | rfl | rfl | rfl <;> simp) ?_
                exact L_fit hC hF ha hs (by omega) (fun e h1 h2 => (b3 e h1 (by omega)).imp (fun z => ⟨z.1, z.2.1, z.2.2, b1⟩) (fun z => ⟨z.1, Or.inr z.2⟩)) kx (nn + 1 - a) a _ (by omega) (Nat.le_refl _) hm
              · skip
                refine V_ld (pc := 331) dL_law_331 (v := vi (sV cx ((a : Nat) : Int) 0)) rfl rfl ?_
                refine V_ld (pc := 333) dL_law_333 (v := vi (fV cx ((a : Nat) : Int))) rfl rfl ?_
                refine V_icmp_gt (pc := 335) dL_law_335 (tgt := 359) rfl (fun h335 => ?_) (fun h335 => ?_)
                · skip
                  exfalso; omega
                · skip
                  refine V_ld (pc := 338) dL_law_338 (v := vi (fV cx ((a : Nat) : Int))) rfl rfl ?_
                  refine V_ld (pc := 340) dL_law_340 (v := vi (sV cx ((a : Nat) : Int) 1)) rfl rfl ?_
                  refine V_icmp_gt (pc := 342) dL_law_342 (tgt := 359) rfl (fun h342 => ?_) (fun h342 => ?_)
                  · skip
                    exfalso; omega
                  · skip
                    refine V_ld (pc := 345) dL_law_345 (v := vi (sV cx ((a : Nat) : Int) 0)) rfl rfl ?_
                    refine V_if_lt (pc := 347) dL_law_347 (tgt := 359) rfl (fun h347 => ?_) (fun h347 => ?_)
                    · skip
                      exfalso; omega
                    · skip
                      refine V_ld (pc := 350) dL_law_350 (v := vi ((a : Nat) : Int)) rfl rfl ?_
                      refine V_ld (pc := 352) dL_law_352 (v := vi (sV cx ((a : Nat) : Int) 1)) rfl rfl ?_
                      refine V_iadd (pc := 354) dL_law_354 (by unfold I32 at *; omega) ?_
                      refine V_ld (pc := 355) dL_law_355 (v := vi ((nn : Nat) : Int)) rfl rfl ?_
                      refine V_icmp_le (pc := 356) dL_law_356 (tgt := 361) rfl (fun h356 => ?_) (fun h356 => ?_)
                      · skip
                        refine V_ld (pc := 361) dL_law_361 (v := vi ((a : Nat) : Int)) rfl rfl ?_
                        refine V_st (pc := 363) dL_law_363 (ls' := [(12, vi ((a : Nat) : Int)), (11, vr q), (10, vi (sV cx ((a : Nat) : Int) 1)), (9, vi (sV cx ((a : Nat) : Int) 0)), (8, vi (aV cx ((a : Nat) : Int))), (7, vi (fV cx ((a : Nat) : Int))), (6, vi ((a : Nat) : Int)), (5, vr t5), (4, vr W), (3, vr rw), (2, vi ((nn : Nat) : Int)), (1, vr 0), (0, vr SC)]) rfl (Nat.le_of_ble_eq_true rfl) rfl ?_
                        refine V_ls (ls' := [(12, vi ((a : Nat) : Int)), (10, vi (sV cx ((a : Nat) : Int) 1)), (9, vi (sV cx ((a : Nat) : Int) 0)), (8, vi (aV cx ((a : Nat) : Int))), (6, vi ((a : Nat) : Int)), (5, vr t5), (4, vr W), (3, vr rw), (2, vi ((nn : Nat) : Int)), (1, vr 0), (0, vr SC)]) (by intro q_ h_; simp only [List.mem_cons, List.not_mem_nil, or_false] at h_ ⊢; rcases h_ with rfl | rfl | rfl | rfl | rfl | rfl | rfl | rfl | rfl | rfl | rfl <;> simp) ?_
                        exact L_fit hC hF ha hs (by omega) (fun e h1 h2 => (b3 e h1 (by omega)).imp (fun z => ⟨z.1, z.2.1, z.2.2, b1⟩) (fun z => ⟨z.1, Or.inr z.2⟩)) kx (nn + 1 - a) a _ (by omega) (Nat.le_refl _) hm
                      · skip
                        exfalso; omega
            · skip
              exfalso; omega
          · skip
            exfalso; omega
      · skip
        exfalso; omega
    · skip
      exfalso; omega
  · skip
    refine V_iconst (pc := 119) dL_law_119 (by unfold I32; omega) ?_
    refine V_st (pc := 120) dL_law_120 (ls' := [(12, vi 0), (11, vr q), (10, vi (sV cx ((a : Nat) : Int) 1)), (9, vi (sV cx ((a : Nat) : Int) 0)), (8, vi (aV cx ((a : Nat) : Int))), (7, vi (fV cx ((a : Nat) : Int))), (6, vi ((a : Nat) : Int)), (5, vr t5), (4, vr W), (3, vr rw), (2, vi ((nn : Nat) : Int)), (1, vr 0), (0, vr SC)]) rfl (Nat.le_of_ble_eq_true rfl) rfl ?_
    skip
    refine L_ltr hC hF ha hs h0.1 hqb (fun m2 hm2 => ?_) (fV cx ((a : Nat) : Int)).toNat 0 m (by omega) hm hq_ tq (fun j hj => absurd hj (Nat.not_lt_zero _))
    refine V_ld (pc := 191) dL_law_191 (v := vr 0) rfl rfl ?_
    refine V_ld (pc := 192) dL_law_192 (v := vi ((a : Nat) : Int)) rfl rfl ?_
    refine V_ld (pc := 194) dL_law_194 (v := vi (fV cx ((a : Nat) : Int))) rfl rfl ?_
    refine V_callV (pc := 196) dL_law_196 (F' := 8) (As := [vi ((a : Nat) : Int), vi (fV cx ((a : Nat) : Int))]) (st := []) cw_RL_174 rfl rfl (hm2.sb hB (by omega)).1.1.t0 (by decide) (Nat.le_of_ble_eq_true rfl) (by omega) (l_way hB hm2 (by omega) (by omega)) ?_
    rintro _ m196 ⟨x196, rfl, hx196, hm196⟩ ok196 le196
    subst hx196
    refine V_bipush (pc := 199) dL_law_199 (by unfold I32; omega) (by decide) ?_
    refine V_icmp_ne (pc := 201) dL_law_201 (tgt := 241) rfl (fun h201 => ?_) (fun h201 => ?_)
    · skip
      exfalso; omega
    · skip
      refine V_ld (pc := 204) dL_law_204 (v := vr 0) rfl rfl ?_
      refine V_ld (pc := 205) dL_law_205 (v := vi ((a : Nat) : Int)) rfl rfl ?_
      refine V_ld (pc := 207) dL_law_207 (v := vi ((a : Nat) : Int)) rfl rfl ?_
      refine V_ld (pc := 209) dL_law_209 (v := vi (fV cx ((a : Nat) : Int))) rfl rfl ?_
      refine V_iadd (pc := 211) dL_law_211 (by unfold I32 at *; omega) ?_
      refine V_callV (pc := 212) dL_law_212 (F' := 8) (As := [vi ((a : Nat) : Int), vi (((a : Nat) : Int) + (fV cx ((a : Nat) : Int)))]) (st := []) cw_RL_181 rfl rfl (hm196.1.sb hB (by omega)).1.1.t0 (by decide) (Nat.le_of_ble_eq_true rfl) (by omega) (l_fits hB hm196.1 (by omega) (by omega) (by omega)) ?_
      rintro _ m212 ⟨x212, rfl, hx212, hm212⟩ ok212 le212
      subst hx212
      refine V_iconst (pc := 215) dL_law_215 (by unfold I32; omega) ?_
      refine V_icmp_ne (pc := 216) dL_law_216 (tgt := 241) rfl (fun h216 => ?_) (fun h216 => ?_)
      · skip
        exfalso; omega
      · skip
        refine V_ld (pc := 219) dL_law_219 (v := vr 0) rfl rfl ?_
        refine V_ld (pc := 220) dL_law_220 (v := vi ((a : Nat) : Int)) rfl rfl ?_
        refine V_callV (pc := 222) dL_law_222 (F' := 8) (As := [vi ((a : Nat) : Int)]) (st := []) cw_RL_184 rfl rfl (hm212.1.sb hB (by omega)).1.1.t0 (by decide) (Nat.le_of_ble_eq_true rfl) (by omega) (l_tries hB hm212.1 (by omega) (by omega)) ?_
        rintro _ m222 ⟨x222, rfl, hx222, hm222⟩ ok222 le222
        subst hx222
        refine V_iconst (pc := 225) dL_law_225 (by unfold I32; omega) ?_
        refine V_icmp_lt (pc := 226) dL_law_226 (tgt := 241) rfl (fun h226 => ?_) (fun h226 => ?_)
        · skip
          exfalso; omega
        · skip
          refine V_ld (pc := 229) dL_law_229 (v := vr 0) rfl rfl ?_
          refine V_ld (pc := 230) dL_law_230 (v := vi ((a : Nat) : Int)) rfl rfl ?_
          refine V_callV (pc := 232) dL_law_232 (F' := 8) (As := [vi ((a : Nat) : Int)]) (st := []) cw_RL_184 rfl rfl (hm222.1.sb hB (by omega)).1.1.t0 (by decide) (Nat.le_of_ble_eq_true rfl) (by omega) (l_tries hB hm222.1 (by omega) (by omega)) ?_
          rintro _ m232 ⟨x232, rfl, hx232, hm232⟩ ok232 le232
          subst hx232
          refine V_sipush (pc := 235) dL_law_235 (by unfold I32; omega) (by decide) ?_
          refine V_icmp_le (pc := 238) dL_law_238 (tgt := 243) rfl (fun h238 => ?_) (fun h238 => ?_)
          · skip
            refine V_ld (pc := 243) dL_law_243 (v := vi (fV cx ((a : Nat) : Int))) rfl rfl ?_
            refine V_bipush (pc := 245) dL_law_245 (by unfold I32; omega) (by decide) ?_
            refine V_icmp_ne (pc := 247) dL_law_247 (tgt := 269) rfl (fun h247 => ?_) (fun h247 => ?_)
            · skip
              refine V_ld (pc := 269) dL_law_269 (v := vi (fV cx ((a : Nat) : Int))) rfl rfl ?_
              refine V_bipush (pc := 271) dL_law_271 (by unfold I32; omega) (by decide) ?_
              refine V_icmp_ne (pc := 273) dL_law_273 (tgt := 296) rfl (fun h273 => ?_) (fun h273 => ?_)
              · skip
                refine V_ld (pc := 296) dL_law_296 (v := vi (aV cx ((a : Nat) : Int))) rfl rfl ?_
                refine V_if_lt (pc := 298) dL_law_298 (tgt := 468) rfl (fun h298 => ?_) (fun h298 => ?_)
                · skip
                  refine V_ls (ls' := [(6, vi ((a : Nat) : Int)), (5, vr t5), (4, vr W), (3, vr rw), (2, vi ((nn : Nat) : Int)), (1, vr 0), (0, vr SC)]) (by intro q_ h_; simp only [List.mem_cons, List.not_mem_nil, or_false] at h_ ⊢; rcases h_ with rfl | rfl | rfl | rfl | rfl | rfl | rfl <;> simp) ?_
                  exact kx _ hm232.1
                · skip
                  obtain ⟨b1, b2, b3⟩ := h4.resolve_left (by omega)
                  refine V_ld (pc := 301) dL_law_301 (v := vi (aV cx ((a : Nat) : Int))) rfl rfl ?_
                  refine V_if_ne (pc := 303) dL_law_303 (tgt := 310) rfl (fun h303 => ?_) (fun h303 => ?_)
                  · skip
                    refine V_iconst (pc := 310) dL_law_310 (by unfold I32; omega) ?_
                    refine V_ld (pc := 311) dL_law_311 (v := vi (fV cx ((a : Nat) : Int))) rfl rfl ?_
                    refine V_bipush (pc := 313) dL_law_313 (by unfold I32; omega) (by decide) ?_
                    refine V_icmp_ne (pc := 315) dL_law_315 (tgt := 322) rfl (fun h315 => ?_) (fun h315 => ?_)
                    · skip
                      refine V_iconst (pc := 322) dL_law_322 (by unfold I32; omega) ?_
                      refine V_icmp_ne (pc := 323) dL_law_323 (tgt := 359) rfl (fun h_ => absurd h_ (by decide)) (fun _ => ?_)
                      refine V_ld (pc := 326) dL_law_326 (v := vi (aV cx ((a : Nat) : Int))) rfl rfl ?_
                      refine V_if_le (pc := 328) dL_law_328 (tgt := 361) rfl (fun h328 => ?_) (fun h328 => ?_)
                      · skip
                        refine V_ld (pc := 361) dL_law_361 (v := vi ((a : Nat) : Int)) rfl rfl ?_
                        refine V_st (pc := 363) dL_law_363 (ls' := [(12, vi ((a : Nat) : Int)), (11, vr q), (10, vi (sV cx ((a : Nat) : Int) 1)), (9, vi (sV cx ((a : Nat) : Int) 0)), (8, vi (aV cx ((a : Nat) : Int))), (7, vi (fV cx ((a : Nat) : Int))), (6, vi ((a : Nat) : Int)), (5, vr t5), (4, vr W), (3, vr rw), (2, vi ((nn : Nat) : Int)), (1, vr 0), (0, vr SC)]) rfl (Nat.le_of_ble_eq_true rfl) rfl ?_
                        refine V_ls (ls' := [(12, vi ((a : Nat) : Int)), (10, vi (sV cx ((a : Nat) : Int) 1)), (9, vi (sV cx ((a : Nat) : Int) 0)), (8, vi (aV cx ((a : Nat) : Int))), (6, vi ((a : Nat) : Int)), (5, vr t5), (4, vr W), (3, vr rw), (2, vi ((nn : Nat) : Int)), (1, vr 0), (0, vr SC)]) (by intro q_ h_; simp only [List.mem_cons, List.not_mem_nil, or_false] at h_ ⊢; rcases h_ with rfl | rfl | rfl | rfl | rfl | rfl | rfl | rfl | rfl | rfl | rfl <;> simp) ?_
                        exact L_fit hC hF ha hs (by omega) (fun e h1 h2 => (b3 e h1 (by omega)).imp (fun z => ⟨z.1, z.2.1, z.2.2, b1⟩) (fun z => ⟨z.1, Or.inr z.2⟩)) kx (nn + 1 - a) a _ (by omega) (Nat.le_refl _) hm232.1
                      · skip
                        refine V_ld (pc := 331) dL_law_331 (v := vi (sV cx ((a : Nat) : Int) 0)) rfl rfl ?_
                        refine V_ld (pc := 333) dL_law_333 (v := vi (fV cx ((a : Nat) : Int))) rfl rfl ?_
                        refine V_icmp_gt (pc := 335) dL_law_335 (tgt := 359) rfl (fun h335 => ?_) (fun h335 => ?_)
                        · skip
                          exfalso; omega
                        · skip
                          refine V_ld (pc := 338) dL_law_338 (v := vi (fV cx ((a : Nat) : Int))) rfl rfl ?_
                          refine V_ld (pc := 340) dL_law_340 (v := vi (sV cx ((a : Nat) : Int) 1)) rfl rfl ?_
                          refine V_icmp_gt (pc := 342) dL_law_342 (tgt := 359) rfl (fun h342 => ?_) (fun h342 => ?_)
                          · skip
                            exfalso; omega
                          · skip
                            refine V_ld (pc := 345) dL_law_345 (v := vi (sV cx ((a : Nat) : Int) 0)) rfl rfl ?_
                            refine V_if_lt (pc := 347) dL_law_347 (tgt := 359) rfl (fun h347 => ?_) (fun h347 => ?_)
                            · skip
                              exfalso; omega
                            · skip
                              refine V_ld (pc := 350) dL_law_350 (v := vi ((a : Nat) : Int)) rfl rfl ?_
                              refine V_ld (pc := 352) dL_law_352 (v := vi (sV cx ((a : Nat) : Int) 1)) rfl rfl ?_
                              refine V_iadd (pc := 354) dL_law_354 (by unfold I32 at *; omega) ?_
                              refine V_ld (pc := 355) dL_law_355 (v := vi ((nn : Nat) : Int)) rfl rfl ?_
                              refine V_icmp_le (pc := 356) dL_law_356 (tgt := 361) rfl (fun h356 => ?_) (fun h356 => ?_)
                              · skip
                                refine V_ld (pc := 361) dL_law_361 (v := vi ((a : Nat) : Int)) rfl rfl ?_
                                refine V_st (pc := 363) dL_law_363 (ls' := [(12, vi ((a : Nat) : Int)), (11, vr q), (10, vi (sV cx ((a : Nat) : Int) 1)), (9, vi (sV cx ((a : Nat) : Int) 0)), (8, vi (aV cx ((a : Nat) : Int))), (7, vi (fV cx ((a : Nat) : Int))), (6, vi ((a : Nat) : Int)), (5, vr t5), (4, vr W), (3, vr rw), (2, vi ((nn : Nat) : Int)), (1, vr 0), (0, vr SC)]) rfl (Nat.le_of_ble_eq_true rfl) rfl ?_
                                refine V_ls (ls' := [(12, vi ((a : Nat) : Int)), (10, vi (sV cx ((a : Nat) : Int) 1)), (9, vi (sV cx ((a : Nat) : Int) 0)), (8, vi (aV cx ((a : Nat) : Int))), (6, vi ((a : Nat) : Int)), (5, vr t5), (4, vr W), (3, vr rw), (2, vi ((nn : Nat) : Int)), (1, vr 0), (0, vr SC)]) (by intro q_ h_; simp only [List.mem_cons, List.not_mem_nil, or_false] at h_ ⊢; rcases h_ with rfl | rfl | rfl | rfl | rfl | rfl | rfl | rfl | rfl | rfl | rfl <;> simp) ?_
                                exact L_fit hC hF ha hs (by omega) (fun e h1 h2 => (b3 e h1 (by omega)).imp (fun z => ⟨z.1, z.2.1, z.2.2, b1⟩) (fun z => ⟨z.1, Or.inr z.2⟩)) kx (nn + 1 - a) a _ (by omega) (Nat.le_refl _) hm232.1
                              · skip
                                exfalso; omega
                    · skip
                      exfalso; omega
                  · skip
                    exfalso; omega
              · skip
                exfalso; omega
            · skip
              exfalso; omega
          · skip
            exfalso; omega
set_option maxHeartbeats 8000000 in
theorem L_sta {F : Nat} {m0 b : Mem} {post : Option AV → Mem → Prop} {P Q L rw W nn t5 : Nat} {cx : CX} {v : Nat → Nat → Int} {wv : Nat → Int} (hC : LawC b P Q L cx rw W nn v wv) (hF : 100 < F) {a s : Nat} {m : Mem} (ha : a ≤ nn) (hs : s ≤ 98) (hm : LawM b m s)
    (kx : ∀ m, LawM b m (s + 1) → _root_.Jvm.Pilot.@@N@@.V μL_law F m0 post 468 [(6, vi ((a : Nat) : Int)), (5, vr t5), (4, vr W), (3, vr rw), (2, vi ((nn : Nat) : Int)), (1, vr 0), (0, vr SC)] [] m) : _root_.Jvm.Pilot.@@N@@.V μL_law F m0 post 74 [(6, vi ((a : Nat) : Int)), (5, vr t5), (4, vr W), (3, vr rw), (2, vi ((nn : Nat) : Int)), (1, vr 0), (0, vr SC)] [] m := by
  have hB := hC.1
  have hnn := hC.2.2.2.1.1
  have hn7 := hC.2.2.2.1.2
  refine V_ld (pc := 74) dL_law_74 (v := vr 0) rfl rfl ?_
  refine V_ld (pc := 75) dL_law_75 (v := vi ((a : Nat) : Int)) rfl rfl ?_
  refine V_callV (pc := 77) dL_law_77 (F' := 8) (As := [vi ((a : Nat) : Int)]) (st := []) cw_RL_165 rfl rfl (hm.sb hB (by omega)).1.1.t0 (by decide) (Nat.le_of_ble_eq_true rfl) (by omega) (l_first hB hm (by omega) (by omega)) ?_
  rintro _ m77 ⟨x77, rfl, hx77, hm77⟩ ok77 le77
  subst hx77
  refine V_st (pc := 80) dL_law_80 (ls' := [(7, vi (fV cx ((a : Nat) : Int))), (6, vi ((a : Nat) : Int)), (5, vr t5), (4, vr W), (3, vr rw), (2, vi ((nn : Nat) : Int)), (1, vr 0), (0, vr SC)]) rfl (Nat.le_of_ble_eq_true rfl) rfl ?_
  refine V_ld (pc := 82) dL_law_82 (v := vr 0) rfl rfl ?_
  refine V_ld (pc := 83) dL_law_83 (v := vi ((a : Nat) : Int)) rfl rfl ?_
  refine V_callV (pc := 85) dL_law_85 (F' := 8) (As := [vi ((a : Nat) : Int)]) (st := []) cw_RL_168 rfl rfl (hm77.1.sb hB (by omega)).1.1.t0 (by decide) (Nat.le_of_ble_eq_true rfl) (by omega) (l_ways hB hm77.1 (by omega) (by omega)) ?_
  rintro _ m85 ⟨x85, rfl, hx85, hm85⟩ ok85 le85
  subst hx85
  refine V_st (pc := 88) dL_law_88 (ls' := [(8, vi (aV cx ((a : Nat) : Int))), (7, vi (fV cx ((a : Nat) : Int))), (6, vi ((a : Nat) : Int)), (5, vr t5), (4, vr W), (3, vr rw), (2, vi ((nn : Nat) : Int)), (1, vr 0), (0, vr SC)]) rfl (Nat.le_of_ble_eq_true rfl) rfl ?_
  refine V_ld (pc := 90) dL_law_90 (v := vr 0) rfl rfl ?_
  refine V_ld (pc := 91) dL_law_91 (v := vi ((a : Nat) : Int)) rfl rfl ?_
  refine V_iconst (pc := 93) dL_law_93 (by unfold I32; omega) ?_
  refine V_callV (pc := 94) dL_law_94 (F' := 8) (As := [vi ((a : Nat) : Int), vi 0]) (st := []) cw_RL_171 rfl rfl (hm85.1.sb hB (by omega)).1.1.t0 (by decide) (Nat.le_of_ble_eq_true rfl) (by omega) (l_spans hB hm85.1 (by omega) (by omega) (by omega)) ?_
  rintro _ m94 ⟨x94, rfl, hx94, hm94⟩ ok94 le94
  subst hx94
  refine V_st (pc := 97) dL_law_97 (ls' := [(9, vi (sV cx ((a : Nat) : Int) 0)), (8, vi (aV cx ((a : Nat) : Int))), (7, vi (fV cx ((a : Nat) : Int))), (6, vi ((a : Nat) : Int)), (5, vr t5), (4, vr W), (3, vr rw), (2, vi ((nn : Nat) : Int)), (1, vr 0), (0, vr SC)]) rfl (Nat.le_of_ble_eq_true rfl) rfl ?_
  refine V_ld (pc := 99) dL_law_99 (v := vr 0) rfl rfl ?_
  refine V_ld (pc := 100) dL_law_100 (v := vi ((a : Nat) : Int)) rfl rfl ?_
  refine V_iconst (pc := 102) dL_law_102 (by unfold I32; omega) ?_
  refine V_callV (pc := 103) dL_law_103 (F' := 8) (As := [vi ((a : Nat) : Int), vi 1]) (st := []) cw_RL_171 rfl rfl (hm94.1.sb hB (by omega)).1.1.t0 (by decide) (Nat.le_of_ble_eq_true rfl) (by omega) (l_spans hB hm94.1 (by omega) (by omega) (by omega)) ?_
  rintro _ m103 ⟨x103, rfl, hx103, hm103⟩ ok103 le103
  subst hx103
  refine V_st (pc := 106) dL_law_106 (ls' := [(10, vi (sV cx ((a : Nat) : Int) 1)), (9, vi (sV cx ((a : Nat) : Int) 0)), (8, vi (aV cx ((a : Nat) : Int))), (7, vi (fV cx ((a : Nat) : Int))), (6, vi ((a : Nat) : Int)), (5, vr t5), (4, vr W), (3, vr rw), (2, vi ((nn : Nat) : Int)), (1, vr 0), (0, vr SC)]) rfl (Nat.le_of_ble_eq_true rfl) rfl ?_
  refine V_bipush (pc := 108) dL_law_108 (by unfold I32; omega) (by decide) ?_
  refine V_newIv (pc := 110) (N := 40) (mN m103) rfl rfl dL_law_110 (by have := (hm103.1.sb hB (by omega)).1; have hl := hm103.1.room hB (by omega); omega) (by have hl := hm103.1.room hB (by omega); omega) (by omega) (by omega) wa_int ?_
  refine V_st (pc := 112) dL_law_112 (ls' := [(11, vr (mN m103)), (10, vi (sV cx ((a : Nat) : Int) 1)), (9, vi (sV cx ((a : Nat) : Int) 0)), (8, vi (aV cx ((a : Nat) : Int))), (7, vi (fV cx ((a : Nat) : Int))), (6, vi ((a : Nat) : Int)), (5, vr t5), (4, vr W), (3, vr rw), (2, vi ((nn : Nat) : Int)), (1, vr 0), (0, vr SC)]) rfl (Nat.le_of_ble_eq_true rfl) rfl ?_
  skip
  refine V_abs (fun m' => LawM b m' (s + 1) ∧ mN m103 < mN m' ∧ mT m' (mN m103) = (20, 40)) ⟨hm103.1.new, Nat.lt_succ_self _, if_pos rfl⟩ ?_
  rintro m4 ⟨hm4, hq4, tq4⟩
  have hb4 : mN b ≤ mN m103 := hm103.1.1.1
  rcases can_first hB.2.1 (st := ((a : Nat) : Int)) (by omega) with hf | hf | ⟨f1, -, f3, f4, f5, f6⟩
  · exact L_case7 hC hF ha (by omega) hm4 hf kx
  · exact L_case5 hC hF ha (by omega) hm4 hf kx
  · exact L_case0 hC hF ha (by omega) hm4 hb4 hq4 tq4 f1 f3 f4 f5 f6 kx
set_option maxHeartbeats 4000000 in
theorem L_sts {F : Nat} {m0 b : Mem} {post : Option AV → Mem → Prop} {P Q L rw W nn t5 : Nat} {cx : CX} {v : Nat → Nat → Int} {wv : Nat → Int} (hC : LawC b P Q L cx rw W nn v wv) (hF : 100 < F) (kx : ∀ m s, s ≤ 9 → LawM b m s → _root_.Jvm.Pilot.@@N@@.V μL_law F m0 post 474 [(5, vr t5), (4, vr W), (3, vr rw), (2, vi ((nn : Nat) : Int)), (1, vr 0), (0, vr SC)] [] m) : ∀ (dd a : Nat) (m : Mem), dd + a = nn + 1 → LawM b m a → _root_.Jvm.Pilot.@@N@@.V μL_law F m0 post 68 [(6, vi ((a : Nat) : Int)), (5, vr t5), (4, vr W), (3, vr rw), (2, vi ((nn : Nat) : Int)), (1, vr 0), (0, vr SC)] [] m := by
  have hB := hC.1
  have hnn := hC.2.2.2.1.1
  have hn7 := hC.2.2.2.1.2
  intro dd
  induction dd with
  | zero =>
    intro a m hd_ hm
    refine V_ld (pc := 68) dL_law_68 (v := vi ((a : Nat) : Int)) rfl rfl ?_
    refine V_ld (pc := 70) dL_law_70 (v := vi ((nn : Nat) : Int)) rfl rfl ?_
    refine V_icmp_gt (pc := 71) dL_law_71 (tgt := 474) rfl (fun h71 => ?_) (fun h71 => ?_)
    · skip
      refine V_ls (ls' := [(5, vr t5), (4, vr W), (3, vr rw), (2, vi ((nn : Nat) : Int)), (1, vr 0), (0, vr SC)]) (by intro q_ h_; simp only [List.mem_cons, List.not_mem_nil, or_false] at h_ ⊢; rcases h_ with rfl | rfl | rfl | rfl | rfl | rfl <;> simp) ?_
      exact kx m a (by omega) hm
    · skip
      exfalso; omega
  | succ dd ih =>
    intro a m hd_ hm
    refine V_ld (pc := 68) dL_law_68 (v := vi ((a : Nat) : Int)) rfl rfl ?_
    refine V_ld (pc := 70) dL_law_70 (v := vi ((nn : Nat) : Int)) rfl rfl ?_
    refine V_icmp_gt (pc := 71) dL_law_71 (tgt := 474) rfl (fun h71 => ?_) (fun h71 => ?_)
    · skip
      exfalso; omega
    · skip
      refine L_sta hC hF (by omega) (by omega) hm (fun m2 hm2 => ?_)
      refine V_iinc (pc := 468) dL_law_468 (x := ((a : Nat) : Int)) (ls' := [(6, vi (((a : Nat) : Int) + 1)), (5, vr t5), (4, vr W), (3, vr rw), (2, vi ((nn : Nat) : Int)), (1, vr 0), (0, vr SC)]) rfl (by unfold I32 at *; omega) (Nat.le_of_ble_eq_true rfl) rfl ?_
      refine V_goto (pc := 471) dL_law_471 (tgt := 68) rfl ?_
      skip
      have h_ := ih (a + 1) m2 (by omega) hm2
      rw [show ((a + 1 : Nat) : Int) = (a : Int) + 1 by omega] at h_
      exact h_
