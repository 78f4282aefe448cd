/-! behind the constructors the invariant holds -/
theorem init_lay {m : Mem} (h : St m 59 47076 [(58, 21, 40), (57, 21, 160), (56, 20, 4), (55, 20, 1122), (54, 20, 5010), (53, 20, 5010), (52, 20, 5010), (51, 20, 5010), (50, 20, 5030), (49, 20, 5030), (48, 20, 120), (47, 20, 120), (46, 20, 120), (45, 20, 32), (44, 20, 400), (43, 20, 250), (42, 20, 250), (41, 20, 250), (40, 20, 250), (39, 20, 250), (38, 20, 250), (37, 20, 250), (36, 20, 250), (35, 20, 250), (34, 20, 120), (33, 20, 120), (32, 20, 4459), (31, 20, 4459), (30, 11, 53), (29, 21, 40), (28, 2, 2), (27, 21, 40), (26, 2, 2), (25, 21, 40), (24, 2, 2), (23, 21, 40), (22, 2, 2), (21, 20, 1056), (20, 20, 33), (19, 20, 33), (18, 3, 4), (17, 22, 4), (16, 20, 120), (15, 9, 2), (14, 20, 120), (13, 9, 2), (12, 20, 320), (11, 20, 256), (10, 20, 32), (9, 6, 14), (8, 20, 1056), (7, 20, 33), (6, 20, 33), (5, 3, 4), (4, 23, 26), (3, 20, 64), (2, 8, 2), (1, 7, 8), (0, 10, 7)] [(30, 52, some 58), (30, 51, some 57), (30, 50, some 56), (30, 49, some 55), (30, 37, some 54), (30, 36, some 53), (30, 35, some 52), (30, 34, some 51), (30, 32, some 50), (30, 31, some 49), (30, 30, some 48), (30, 29, some 47), (30, 28, some 46), (30, 23, some 45), (30, 21, some 44), (30, 18, some 43), (30, 17, some 42), (30, 16, some 41), (30, 15, some 40), (30, 14, some 39), (30, 13, some 38), (30, 12, some 37), (30, 11, some 36), (30, 10, some 35), (30, 5, some 34), (30, 3, some 33), (30, 1, some 32), (30, 0, some 31), (17, 3, some 28), (28, 0, some 29), (17, 2, some 26), (26, 0, some 27), (17, 1, some 24), (24, 0, some 25), (17, 0, some 22), (22, 0, some 23), (0, 5, some 18), (18, 2, some 21), (18, 1, some 20), (18, 0, some 19), (0, 4, some 17), (0, 3, some 15), (15, 0, some 16), (0, 2, some 13), (13, 0, some 14), (0, 1, some 9), (9, 0, some 1), (9, 4, some 12), (9, 2, some 11), (9, 1, some 10), (0, 0, some 1), (1, 3, some 5), (5, 2, some 8), (5, 1, some 7), (5, 0, some 6), (1, 1, some 4), (1, 0, some 2), (2, 0, some 3)] [(31, 3335, 5000), (31, 3334, 1), (56, 3, (-1)), (56, 2, (-1)), (56, 1, (-1)), (56, 0, (-1)), (28, 1, (-1)), (26, 1, (-1)), (24, 1, (-1)), (22, 1, (-1)), (1, 7, 5000), (1, 6, 1), (1, 4, 0)]) : Lay (mT m) (mR m) := by
  refine ⟨fun p hp => ?_, fun p hp => ?_⟩
  · have q : ∀ p ∈ layT, Nat.blt p.1 59 = true ∧ lkT [(58, 21, 40), (57, 21, 160), (56, 20, 4), (55, 20, 1122), (54, 20, 5010), (53, 20, 5010), (52, 20, 5010), (51, 20, 5010), (50, 20, 5030), (49, 20, 5030), (48, 20, 120), (47, 20, 120), (46, 20, 120), (45, 20, 32), (44, 20, 400), (43, 20, 250), (42, 20, 250), (41, 20, 250), (40, 20, 250), (39, 20, 250), (38, 20, 250), (37, 20, 250), (36, 20, 250), (35, 20, 250), (34, 20, 120), (33, 20, 120), (32, 20, 4459), (31, 20, 4459), (30, 11, 53), (29, 21, 40), (28, 2, 2), (27, 21, 40), (26, 2, 2), (25, 21, 40), (24, 2, 2), (23, 21, 40), (22, 2, 2), (21, 20, 1056), (20, 20, 33), (19, 20, 33), (18, 3, 4), (17, 22, 4), (16, 20, 120), (15, 9, 2), (14, 20, 120), (13, 9, 2), (12, 20, 320), (11, 20, 256), (10, 20, 32), (9, 6, 14), (8, 20, 1056), (7, 20, 33), (6, 20, 33), (5, 3, 4), (4, 23, 26), (3, 20, 64), (2, 8, 2), (1, 7, 8), (0, 10, 7)] p.1 = p.2 := by decide +kernel
    exact h.t p.1 (q p hp).1 (q p hp).2
  · have q : ∀ p ∈ layR, lkR [(30, 52, some 58), (30, 51, some 57), (30, 50, some 56), (30, 49, some 55), (30, 37, some 54), (30, 36, some 53), (30, 35, some 52), (30, 34, some 51), (30, 32, some 50), (30, 31, some 49), (30, 30, some 48), (30, 29, some 47), (30, 28, some 46), (30, 23, some 45), (30, 21, some 44), (30, 18, some 43), (30, 17, some 42), (30, 16, some 41), (30, 15, some 40), (30, 14, some 39), (30, 13, some 38), (30, 12, some 37), (30, 11, some 36), (30, 10, some 35), (30, 5, some 34), (30, 3, some 33), (30, 1, some 32), (30, 0, some 31), (17, 3, some 28), (28, 0, some 29), (17, 2, some 26), (26, 0, some 27), (17, 1, some 24), (24, 0, some 25), (17, 0, some 22), (22, 0, some 23), (0, 5, some 18), (18, 2, some 21), (18, 1, some 20), (18, 0, some 19), (0, 4, some 17), (0, 3, some 15), (15, 0, some 16), (0, 2, some 13), (13, 0, some 14), (0, 1, some 9), (9, 0, some 1), (9, 4, some 12), (9, 2, some 11), (9, 1, some 10), (0, 0, some 1), (1, 3, some 5), (5, 2, some 8), (5, 1, some 7), (5, 0, some 6), (1, 1, some 4), (1, 0, some 2), (2, 0, some 3)] p.1.1 p.1.2 = some p.2 := by decide +kernel
    exact h.r p.1.1 p.1.2 (q p hp)
set_option maxHeartbeats 4000000 in
theorem init_inv {m : Mem} (h : St m 59 47076 [(58, 21, 40), (57, 21, 160), (56, 20, 4), (55, 20, 1122), (54, 20, 5010), (53, 20, 5010), (52, 20, 5010), (51, 20, 5010), (50, 20, 5030), (49, 20, 5030), (48, 20, 120), (47, 20, 120), (46, 20, 120), (45, 20, 32), (44, 20, 400), (43, 20, 250), (42, 20, 250), (41, 20, 250), (40, 20, 250), (39, 20, 250), (38, 20, 250), (37, 20, 250), (36, 20, 250), (35, 20, 250), (34, 20, 120), (33, 20, 120), (32, 20, 4459), (31, 20, 4459), (30, 11, 53), (29, 21, 40), (28, 2, 2), (27, 21, 40), (26, 2, 2), (25, 21, 40), (24, 2, 2), (23, 21, 40), (22, 2, 2), (21, 20, 1056), (20, 20, 33), (19, 20, 33), (18, 3, 4), (17, 22, 4), (16, 20, 120), (15, 9, 2), (14, 20, 120), (13, 9, 2), (12, 20, 320), (11, 20, 256), (10, 20, 32), (9, 6, 14), (8, 20, 1056), (7, 20, 33), (6, 20, 33), (5, 3, 4), (4, 23, 26), (3, 20, 64), (2, 8, 2), (1, 7, 8), (0, 10, 7)] [(30, 52, some 58), (30, 51, some 57), (30, 50, some 56), (30, 49, some 55), (30, 37, some 54), (30, 36, some 53), (30, 35, some 52), (30, 34, some 51), (30, 32, some 50), (30, 31, some 49), (30, 30, some 48), (30, 29, some 47), (30, 28, some 46), (30, 23, some 45), (30, 21, some 44), (30, 18, some 43), (30, 17, some 42), (30, 16, some 41), (30, 15, some 40), (30, 14, some 39), (30, 13, some 38), (30, 12, some 37), (30, 11, some 36), (30, 10, some 35), (30, 5, some 34), (30, 3, some 33), (30, 1, some 32), (30, 0, some 31), (17, 3, some 28), (28, 0, some 29), (17, 2, some 26), (26, 0, some 27), (17, 1, some 24), (24, 0, some 25), (17, 0, some 22), (22, 0, some 23), (0, 5, some 18), (18, 2, some 21), (18, 1, some 20), (18, 0, some 19), (0, 4, some 17), (0, 3, some 15), (15, 0, some 16), (0, 2, some 13), (13, 0, some 14), (0, 1, some 9), (9, 0, some 1), (9, 4, some 12), (9, 2, some 11), (9, 1, some 10), (0, 0, some 1), (1, 3, some 5), (5, 2, some 8), (5, 1, some 7), (5, 0, some 6), (1, 1, some 4), (1, 0, some 2), (2, 0, some 3)] [(31, 3335, 5000), (31, 3334, 1), (56, 3, (-1)), (56, 2, (-1)), (56, 1, (-1)), (56, 0, (-1)), (28, 1, (-1)), (26, 1, (-1)), (24, 1, (-1)), (22, 1, (-1)), (1, 7, 5000), (1, 6, 1), (1, 4, 0)]) : Inv 0 m := by
  have hN := h.1
  have hZ := h.2.1
  have i31 : ∀ k, k ≠ 3334 → k ≠ 3335 → mI m 31 k = 0 := fun k h1 h2 => by
    rw [h.2.2.2.2 31 k]
    show (if 31 = 31 ∧ k = 3335 then (5000 : Int) else if 31 = 31 ∧ k = 3334 then 1 else lkI [(56, 3, (-1)), (56, 2, (-1)), (56, 1, (-1)), (56, 0, (-1)), (28, 1, (-1)), (26, 1, (-1)), (24, 1, (-1)), (22, 1, (-1)), (1, 7, 5000), (1, 6, 1), (1, 4, 0)] 31 k) = 0
    rw [if_neg (by omega), if_neg (by omega)]
    rfl
  refine ⟨⟨⟨by omega, by omega, by omega⟩, init_lay h, 11, 12, 256, 320, (h.r 9 2 rfl), (h.t 11 rfl rfl), by omega, by omega, (h.r 9 4 rfl), (h.t 12 rfl rfl), by omega, by omega, by omega, by omega, by omega, by omega, by omega, Or.inl rfl, Or.inl rfl⟩, ⟨⟨?_, fun k hk => ?_⟩, ⟨[], by decide, ⟨(h.i 15 1 rfl), fun k x hk => (by cases hk)⟩, ⟨(h.i 30 22 rfl), fun k x hk => (by cases hk)⟩⟩, fun l hl => ?_, ⟨fun k _ => ?_, fun k => ?_, Or.inl (h.i 30 27 rfl)⟩⟩, Or.inl ⟨(h.r 0 6 rfl), (h.i 30 2 rfl)⟩, 5, 18, Or.inl ⟨rfl, rfl⟩, (h.r 1 3 rfl), (h.r 0 5 rfl), ⟨(h.t 1 rfl rfl), (h.r 1 0 rfl), (h.r 1 1 rfl), (h.r 1 3 rfl), (h.t 2 rfl rfl), (h.r 2 0 rfl), (h.t 3 rfl rfl), (h.t 4 rfl rfl), (h.t 5 rfl rfl), (h.r 5 0 rfl), (h.r 5 1 rfl), (h.r 5 2 rfl), (h.t 6 rfl rfl), (h.t 7 rfl rfl), (h.t 8 rfl rfl)⟩, ⟨?_, fun k hk => ?_⟩, ?_, ⟨fun _ => 0, 0, ⟨i31 65 (by omega) (by omega), by omega, fun k hk => (by omega)⟩, Or.inl ⟨rfl, (h.r 1 2 rfl)⟩⟩, fun w hw => ⟨fun _ => 0, 0, ⟨i31 _ (by omega) (by omega), by omega, fun k hk => (by omega)⟩, Or.inl ⟨rfl, (h.r 4 w rfl)⟩⟩, MatG.nil (h.i 5 3 rfl) (i31 _ (by omega) (by omega))⟩
  · have e1 : mI m 13 1 = 0 := (h.i 13 1 rfl)
    have e2 : mI m 30 4 = 0 := (h.i 30 4 rfl)
    omega
  · have e2 : mI m 30 4 = 0 := (h.i 30 4 rfl)
    omega
  · rcases (show l = 0 ∨ l = 1 ∨ l = 2 ∨ l = 3 by omega) with rfl | rfl | rfl | rfl
    · have e1 : mI m 22 1 = -1 := (h.i 22 1 rfl)
      have e2 : mI m 56 0 = -1 := (h.i 56 0 rfl)
      exact ⟨⟨e1.trans e2.symm, by omega, by omega⟩, fun k _ => (show mI m 23 k = 0 from h.i 23 k rfl).trans (h.i 57 _ rfl).symm⟩
    · have e1 : mI m 24 1 = -1 := (h.i 24 1 rfl)
      have e2 : mI m 56 1 = -1 := (h.i 56 1 rfl)
      exact ⟨⟨e1.trans e2.symm, by omega, by omega⟩, fun k _ => (show mI m 25 k = 0 from h.i 25 k rfl).trans (h.i 57 _ rfl).symm⟩
    · have e1 : mI m 26 1 = -1 := (h.i 26 1 rfl)
      have e2 : mI m 56 2 = -1 := (h.i 56 2 rfl)
      exact ⟨⟨e1.trans e2.symm, by omega, by omega⟩, fun k _ => (show mI m 27 k = 0 from h.i 27 k rfl).trans (h.i 57 _ rfl).symm⟩
    · have e1 : mI m 28 1 = -1 := (h.i 28 1 rfl)
      have e2 : mI m 56 3 = -1 := (h.i 56 3 rfl)
      exact ⟨⟨e1.trans e2.symm, by omega, by omega⟩, fun k _ => (show mI m 29 k = 0 from h.i 29 k rfl).trans (h.i 57 _ rfl).symm⟩
  · exact (show mI m 10 k = 0 from h.i 10 k rfl).trans (h.i 45 k rfl).symm
  · have e : mI m 45 k = 0 := h.i 45 k rfl
    omega
  · have e1 : mI m (1 + 1) 1 = 0 := (h.i 2 1 rfl)
    have e2 := i31 64 (by omega) (by omega)
    omega
  · have e1 : mI m (1 + 2) k = 0 := h.i 3 k rfl
    have e2 := i31 k (by omega) (by omega)
    omega
  · have e1 : mI m 1 4 = 0 := (h.i 1 4 rfl)
    have e2 : mI m 1 5 = 0 := (h.i 1 5 rfl)
    have e3 : mI m 1 6 = 1 := (h.i 1 6 rfl)
    have e4 : mI m 1 7 = 5000 := (h.i 1 7 rfl)
    have f1 := i31 3332 (by omega) (by omega)
    have f2 := i31 3333 (by omega) (by omega)
    have f3 : mI m 31 3334 = 1 := (h.i 31 3334 rfl)
    have f4 : mI m 31 3335 = 5000 := (h.i 31 3335 rfl)
    unfold ModG
    omega
