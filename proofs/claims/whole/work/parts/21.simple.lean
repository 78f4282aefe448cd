/-! the layout; the simple methods of class and reference -/
/-- the objects that the constructors make -/
def layT : List (Nat × Nat × Nat) := [(0, 10, 7), (1, 7, 8), (2, 8, 2), (3, 20, 64), (4, 23, 26), (5, 3, 4), (6, 20, 33), (7, 20, 33), (8, 20, 1056), (9, 6, 14), (10, 20, 32), (13, 9, 2), (14, 20, 120), (15, 9, 2), (16, 20, 120), (17, 22, 4), (18, 3, 4), (19, 20, 33), (20, 20, 33), (21, 20, 1056), (22, 2, 2), (23, 21, 40), (24, 2, 2), (25, 21, 40), (26, 2, 2), (27, 21, 40), (28, 2, 2), (29, 21, 40), (30, 11, 53), (31, 20, 4459), (32, 20, 4459), (33, 20, 120), (34, 20, 120), (35, 20, 250), (36, 20, 250), (37, 20, 250), (38, 20, 250), (39, 20, 250), (40, 20, 250), (41, 20, 250), (42, 20, 250), (43, 20, 250), (44, 20, 400), (45, 20, 32), (46, 20, 120), (47, 20, 120), (48, 20, 120), (49, 20, 5030), (50, 20, 5030), (51, 20, 5010), (52, 20, 5010), (53, 20, 5010), (54, 20, 5010), (55, 20, 1122), (56, 20, 4), (57, 21, 160), (58, 21, 40)]
def layR : List ((Nat × Nat) × Nat) := [((0, 0), 1), ((0, 1), 9), ((0, 2), 13), ((0, 3), 15), ((0, 4), 17), ((1, 0), 2), ((1, 1), 4), ((2, 0), 3), ((5, 0), 6), ((5, 1), 7), ((5, 2), 8), ((9, 0), 1), ((9, 1), 10), ((13, 0), 14), ((15, 0), 16), ((18, 0), 19), ((18, 1), 20), ((18, 2), 21), ((17, 0), 22), ((22, 0), 23), ((17, 1), 24), ((24, 0), 25), ((17, 2), 26), ((26, 0), 27), ((17, 3), 28), ((28, 0), 29), ((30, 0), 31), ((30, 1), 32), ((30, 3), 33), ((30, 5), 34), ((30, 10), 35), ((30, 11), 36), ((30, 12), 37), ((30, 13), 38), ((30, 14), 39), ((30, 15), 40), ((30, 16), 41), ((30, 17), 42), ((30, 18), 43), ((30, 21), 44), ((30, 23), 45), ((30, 28), 46), ((30, 29), 47), ((30, 30), 48), ((30, 31), 49), ((30, 32), 50), ((30, 34), 51), ((30, 35), 52), ((30, 36), 53), ((30, 37), 54), ((30, 49), 55), ((30, 50), 56), ((30, 51), 57), ((30, 52), 58)]
def Lay (T : Nat → Nat × Nat) (R : Nat → Nat → Option Nat) : Prop := (∀ p ∈ layT, T p.1 = p.2) ∧ ∀ p ∈ layR, R p.1.1 p.1.2 = some p.2
theorem Lay.t0 {T : Nat → Nat × Nat} {R : Nat → Nat → Option Nat} (h : Lay T R) : T 0 = (10, 7) := h.1 (0, 10, 7) (by decide)
theorem Lay.t1 {T : Nat → Nat × Nat} {R : Nat → Nat → Option Nat} (h : Lay T R) : T 1 = (7, 8) := h.1 (1, 7, 8) (by decide)
theorem Lay.t2 {T : Nat → Nat × Nat} {R : Nat → Nat → Option Nat} (h : Lay T R) : T 2 = (8, 2) := h.1 (2, 8, 2) (by decide)
theorem Lay.t3 {T : Nat → Nat × Nat} {R : Nat → Nat → Option Nat} (h : Lay T R) : T 3 = (20, 64) := h.1 (3, 20, 64) (by decide)
theorem Lay.t4 {T : Nat → Nat × Nat} {R : Nat → Nat → Option Nat} (h : Lay T R) : T 4 = (23, 26) := h.1 (4, 23, 26) (by decide)
theorem Lay.t5 {T : Nat → Nat × Nat} {R : Nat → Nat → Option Nat} (h : Lay T R) : T 5 = (3, 4) := h.1 (5, 3, 4) (by decide)
theorem Lay.t6 {T : Nat → Nat × Nat} {R : Nat → Nat → Option Nat} (h : Lay T R) : T 6 = (20, 33) := h.1 (6, 20, 33) (by decide)
theorem Lay.t7 {T : Nat → Nat × Nat} {R : Nat → Nat → Option Nat} (h : Lay T R) : T 7 = (20, 33) := h.1 (7, 20, 33) (by decide)
theorem Lay.t8 {T : Nat → Nat × Nat} {R : Nat → Nat → Option Nat} (h : Lay T R) : T 8 = (20, 1056) := h.1 (8, 20, 1056) (by decide)
theorem Lay.t9 {T : Nat → Nat × Nat} {R : Nat → Nat → Option Nat} (h : Lay T R) : T 9 = (6, 14) := h.1 (9, 6, 14) (by decide)
theorem Lay.t10 {T : Nat → Nat × Nat} {R : Nat → Nat → Option Nat} (h : Lay T R) : T 10 = (20, 32) := h.1 (10, 20, 32) (by decide)
theorem Lay.t13 {T : Nat → Nat × Nat} {R : Nat → Nat → Option Nat} (h : Lay T R) : T 13 = (9, 2) := h.1 (13, 9, 2) (by decide)
theorem Lay.t14 {T : Nat → Nat × Nat} {R : Nat → Nat → Option Nat} (h : Lay T R) : T 14 = (20, 120) := h.1 (14, 20, 120) (by decide)
theorem Lay.t15 {T : Nat → Nat × Nat} {R : Nat → Nat → Option Nat} (h : Lay T R) : T 15 = (9, 2) := h.1 (15, 9, 2) (by decide)
theorem Lay.t16 {T : Nat → Nat × Nat} {R : Nat → Nat → Option Nat} (h : Lay T R) : T 16 = (20, 120) := h.1 (16, 20, 120) (by decide)
theorem Lay.t17 {T : Nat → Nat × Nat} {R : Nat → Nat → Option Nat} (h : Lay T R) : T 17 = (22, 4) := h.1 (17, 22, 4) (by decide)
theorem Lay.t18 {T : Nat → Nat × Nat} {R : Nat → Nat → Option Nat} (h : Lay T R) : T 18 = (3, 4) := h.1 (18, 3, 4) (by decide)
theorem Lay.t19 {T : Nat → Nat × Nat} {R : Nat → Nat → Option Nat} (h : Lay T R) : T 19 = (20, 33) := h.1 (19, 20, 33) (by decide)
theorem Lay.t20 {T : Nat → Nat × Nat} {R : Nat → Nat → Option Nat} (h : Lay T R) : T 20 = (20, 33) := h.1 (20, 20, 33) (by decide)
theorem Lay.t21 {T : Nat → Nat × Nat} {R : Nat → Nat → Option Nat} (h : Lay T R) : T 21 = (20, 1056) := h.1 (21, 20, 1056) (by decide)
theorem Lay.t22 {T : Nat → Nat × Nat} {R : Nat → Nat → Option Nat} (h : Lay T R) : T 22 = (2, 2) := h.1 (22, 2, 2) (by decide)
theorem Lay.t23 {T : Nat → Nat × Nat} {R : Nat → Nat → Option Nat} (h : Lay T R) : T 23 = (21, 40) := h.1 (23, 21, 40) (by decide)
theorem Lay.t24 {T : Nat → Nat × Nat} {R : Nat → Nat → Option Nat} (h : Lay T R) : T 24 = (2, 2) := h.1 (24, 2, 2) (by decide)
theorem Lay.t25 {T : Nat → Nat × Nat} {R : Nat → Nat → Option Nat} (h : Lay T R) : T 25 = (21, 40) := h.1 (25, 21, 40) (by decide)
theorem Lay.t26 {T : Nat → Nat × Nat} {R : Nat → Nat → Option Nat} (h : Lay T R) : T 26 = (2, 2) := h.1 (26, 2, 2) (by decide)
theorem Lay.t27 {T : Nat → Nat × Nat} {R : Nat → Nat → Option Nat} (h : Lay T R) : T 27 = (21, 40) := h.1 (27, 21, 40) (by decide)
theorem Lay.t28 {T : Nat → Nat × Nat} {R : Nat → Nat → Option Nat} (h : Lay T R) : T 28 = (2, 2) := h.1 (28, 2, 2) (by decide)
theorem Lay.t29 {T : Nat → Nat × Nat} {R : Nat → Nat → Option Nat} (h : Lay T R) : T 29 = (21, 40) := h.1 (29, 21, 40) (by decide)
theorem Lay.t30 {T : Nat → Nat × Nat} {R : Nat → Nat → Option Nat} (h : Lay T R) : T 30 = (11, 53) := h.1 (30, 11, 53) (by decide)
theorem Lay.t31 {T : Nat → Nat × Nat} {R : Nat → Nat → Option Nat} (h : Lay T R) : T 31 = (20, 4459) := h.1 (31, 20, 4459) (by decide)
theorem Lay.t32 {T : Nat → Nat × Nat} {R : Nat → Nat → Option Nat} (h : Lay T R) : T 32 = (20, 4459) := h.1 (32, 20, 4459) (by decide)
theorem Lay.t33 {T : Nat → Nat × Nat} {R : Nat → Nat → Option Nat} (h : Lay T R) : T 33 = (20, 120) := h.1 (33, 20, 120) (by decide)
theorem Lay.t34 {T : Nat → Nat × Nat} {R : Nat → Nat → Option Nat} (h : Lay T R) : T 34 = (20, 120) := h.1 (34, 20, 120) (by decide)
theorem Lay.t35 {T : Nat → Nat × Nat} {R : Nat → Nat → Option Nat} (h : Lay T R) : T 35 = (20, 250) := h.1 (35, 20, 250) (by decide)
theorem Lay.t36 {T : Nat → Nat × Nat} {R : Nat → Nat → Option Nat} (h : Lay T R) : T 36 = (20, 250) := h.1 (36, 20, 250) (by decide)
theorem Lay.t37 {T : Nat → Nat × Nat} {R : Nat → Nat → Option Nat} (h : Lay T R) : T 37 = (20, 250) := h.1 (37, 20, 250) (by decide)
theorem Lay.t38 {T : Nat → Nat × Nat} {R : Nat → Nat → Option Nat} (h : Lay T R) : T 38 = (20, 250) := h.1 (38, 20, 250) (by decide)
theorem Lay.t39 {T : Nat → Nat × Nat} {R : Nat → Nat → Option Nat} (h : Lay T R) : T 39 = (20, 250) := h.1 (39, 20, 250) (by decide)
theorem Lay.t40 {T : Nat → Nat × Nat} {R : Nat → Nat → Option Nat} (h : Lay T R) : T 40 = (20, 250) := h.1 (40, 20, 250) (by decide)
theorem Lay.t41 {T : Nat → Nat × Nat} {R : Nat → Nat → Option Nat} (h : Lay T R) : T 41 = (20, 250) := h.1 (41, 20, 250) (by decide)
theorem Lay.t42 {T : Nat → Nat × Nat} {R : Nat → Nat → Option Nat} (h : Lay T R) : T 42 = (20, 250) := h.1 (42, 20, 250) (by decide)
theorem Lay.t43 {T : Nat → Nat × Nat} {R : Nat → Nat → Option Nat} (h : Lay T R) : T 43 = (20, 250) := h.1 (43, 20, 250) (by decide)
theorem Lay.t44 {T : Nat → Nat × Nat} {R : Nat → Nat → Option Nat} (h : Lay T R) : T 44 = (20, 400) := h.1 (44, 20, 400) (by decide)
theorem Lay.t45 {T : Nat → Nat × Nat} {R : Nat → Nat → Option Nat} (h : Lay T R) : T 45 = (20, 32) := h.1 (45, 20, 32) (by decide)
theorem Lay.t46 {T : Nat → Nat × Nat} {R : Nat → Nat → Option Nat} (h : Lay T R) : T 46 = (20, 120) := h.1 (46, 20, 120) (by decide)
theorem Lay.t47 {T : Nat → Nat × Nat} {R : Nat → Nat → Option Nat} (h : Lay T R) : T 47 = (20, 120) := h.1 (47, 20, 120) (by decide)
theorem Lay.t48 {T : Nat → Nat × Nat} {R : Nat → Nat → Option Nat} (h : Lay T R) : T 48 = (20, 120) := h.1 (48, 20, 120) (by decide)
theorem Lay.t49 {T : Nat → Nat × Nat} {R : Nat → Nat → Option Nat} (h : Lay T R) : T 49 = (20, 5030) := h.1 (49, 20, 5030) (by decide)
theorem Lay.t50 {T : Nat → Nat × Nat} {R : Nat → Nat → Option Nat} (h : Lay T R) : T 50 = (20, 5030) := h.1 (50, 20, 5030) (by decide)
theorem Lay.t51 {T : Nat → Nat × Nat} {R : Nat → Nat → Option Nat} (h : Lay T R) : T 51 = (20, 5010) := h.1 (51, 20, 5010) (by decide)
theorem Lay.t52 {T : Nat → Nat × Nat} {R : Nat → Nat → Option Nat} (h : Lay T R) : T 52 = (20, 5010) := h.1 (52, 20, 5010) (by decide)
theorem Lay.t53 {T : Nat → Nat × Nat} {R : Nat → Nat → Option Nat} (h : Lay T R) : T 53 = (20, 5010) := h.1 (53, 20, 5010) (by decide)
theorem Lay.t54 {T : Nat → Nat × Nat} {R : Nat → Nat → Option Nat} (h : Lay T R) : T 54 = (20, 5010) := h.1 (54, 20, 5010) (by decide)
theorem Lay.t55 {T : Nat → Nat × Nat} {R : Nat → Nat → Option Nat} (h : Lay T R) : T 55 = (20, 1122) := h.1 (55, 20, 1122) (by decide)
theorem Lay.t56 {T : Nat → Nat × Nat} {R : Nat → Nat → Option Nat} (h : Lay T R) : T 56 = (20, 4) := h.1 (56, 20, 4) (by decide)
theorem Lay.t57 {T : Nat → Nat × Nat} {R : Nat → Nat → Option Nat} (h : Lay T R) : T 57 = (21, 160) := h.1 (57, 21, 160) (by decide)
theorem Lay.t58 {T : Nat → Nat × Nat} {R : Nat → Nat → Option Nat} (h : Lay T R) : T 58 = (21, 40) := h.1 (58, 21, 40) (by decide)
theorem Lay.r0_0 {T : Nat → Nat × Nat} {R : Nat → Nat → Option Nat} (h : Lay T R) : R 0 0 = some 1 := h.2 ((0, 0), 1) (by decide)
theorem Lay.r0_1 {T : Nat → Nat × Nat} {R : Nat → Nat → Option Nat} (h : Lay T R) : R 0 1 = some 9 := h.2 ((0, 1), 9) (by decide)
theorem Lay.r0_2 {T : Nat → Nat × Nat} {R : Nat → Nat → Option Nat} (h : Lay T R) : R 0 2 = some 13 := h.2 ((0, 2), 13) (by decide)
theorem Lay.r0_3 {T : Nat → Nat × Nat} {R : Nat → Nat → Option Nat} (h : Lay T R) : R 0 3 = some 15 := h.2 ((0, 3), 15) (by decide)
theorem Lay.r0_4 {T : Nat → Nat × Nat} {R : Nat → Nat → Option Nat} (h : Lay T R) : R 0 4 = some 17 := h.2 ((0, 4), 17) (by decide)
theorem Lay.r1_0 {T : Nat → Nat × Nat} {R : Nat → Nat → Option Nat} (h : Lay T R) : R 1 0 = some 2 := h.2 ((1, 0), 2) (by decide)
theorem Lay.r1_1 {T : Nat → Nat × Nat} {R : Nat → Nat → Option Nat} (h : Lay T R) : R 1 1 = some 4 := h.2 ((1, 1), 4) (by decide)
theorem Lay.r2_0 {T : Nat → Nat × Nat} {R : Nat → Nat → Option Nat} (h : Lay T R) : R 2 0 = some 3 := h.2 ((2, 0), 3) (by decide)
theorem Lay.r5_0 {T : Nat → Nat × Nat} {R : Nat → Nat → Option Nat} (h : Lay T R) : R 5 0 = some 6 := h.2 ((5, 0), 6) (by decide)
theorem Lay.r5_1 {T : Nat → Nat × Nat} {R : Nat → Nat → Option Nat} (h : Lay T R) : R 5 1 = some 7 := h.2 ((5, 1), 7) (by decide)
theorem Lay.r5_2 {T : Nat → Nat × Nat} {R : Nat → Nat → Option Nat} (h : Lay T R) : R 5 2 = some 8 := h.2 ((5, 2), 8) (by decide)
theorem Lay.r9_0 {T : Nat → Nat × Nat} {R : Nat → Nat → Option Nat} (h : Lay T R) : R 9 0 = some 1 := h.2 ((9, 0), 1) (by decide)
theorem Lay.r9_1 {T : Nat → Nat × Nat} {R : Nat → Nat → Option Nat} (h : Lay T R) : R 9 1 = some 10 := h.2 ((9, 1), 10) (by decide)
theorem Lay.r13_0 {T : Nat → Nat × Nat} {R : Nat → Nat → Option Nat} (h : Lay T R) : R 13 0 = some 14 := h.2 ((13, 0), 14) (by decide)
theorem Lay.r15_0 {T : Nat → Nat × Nat} {R : Nat → Nat → Option Nat} (h : Lay T R) : R 15 0 = some 16 := h.2 ((15, 0), 16) (by decide)
theorem Lay.r18_0 {T : Nat → Nat × Nat} {R : Nat → Nat → Option Nat} (h : Lay T R) : R 18 0 = some 19 := h.2 ((18, 0), 19) (by decide)
theorem Lay.r18_1 {T : Nat → Nat × Nat} {R : Nat → Nat → Option Nat} (h : Lay T R) : R 18 1 = some 20 := h.2 ((18, 1), 20) (by decide)
theorem Lay.r18_2 {T : Nat → Nat × Nat} {R : Nat → Nat → Option Nat} (h : Lay T R) : R 18 2 = some 21 := h.2 ((18, 2), 21) (by decide)
theorem Lay.r17_0 {T : Nat → Nat × Nat} {R : Nat → Nat → Option Nat} (h : Lay T R) : R 17 0 = some 22 := h.2 ((17, 0), 22) (by decide)
theorem Lay.r22_0 {T : Nat → Nat × Nat} {R : Nat → Nat → Option Nat} (h : Lay T R) : R 22 0 = some 23 := h.2 ((22, 0), 23) (by decide)
theorem Lay.r17_1 {T : Nat → Nat × Nat} {R : Nat → Nat → Option Nat} (h : Lay T R) : R 17 1 = some 24 := h.2 ((17, 1), 24) (by decide)
theorem Lay.r24_0 {T : Nat → Nat × Nat} {R : Nat → Nat → Option Nat} (h : Lay T R) : R 24 0 = some 25 := h.2 ((24, 0), 25) (by decide)
theorem Lay.r17_2 {T : Nat → Nat × Nat} {R : Nat → Nat → Option Nat} (h : Lay T R) : R 17 2 = some 26 := h.2 ((17, 2), 26) (by decide)
theorem Lay.r26_0 {T : Nat → Nat × Nat} {R : Nat → Nat → Option Nat} (h : Lay T R) : R 26 0 = some 27 := h.2 ((26, 0), 27) (by decide)
theorem Lay.r17_3 {T : Nat → Nat × Nat} {R : Nat → Nat → Option Nat} (h : Lay T R) : R 17 3 = some 28 := h.2 ((17, 3), 28) (by decide)
theorem Lay.r28_0 {T : Nat → Nat × Nat} {R : Nat → Nat → Option Nat} (h : Lay T R) : R 28 0 = some 29 := h.2 ((28, 0), 29) (by decide)
theorem Lay.r30_0 {T : Nat → Nat × Nat} {R : Nat → Nat → Option Nat} (h : Lay T R) : R 30 0 = some 31 := h.2 ((30, 0), 31) (by decide)
theorem Lay.r30_1 {T : Nat → Nat × Nat} {R : Nat → Nat → Option Nat} (h : Lay T R) : R 30 1 = some 32 := h.2 ((30, 1), 32) (by decide)
theorem Lay.r30_3 {T : Nat → Nat × Nat} {R : Nat → Nat → Option Nat} (h : Lay T R) : R 30 3 = some 33 := h.2 ((30, 3), 33) (by decide)
theorem Lay.r30_5 {T : Nat → Nat × Nat} {R : Nat → Nat → Option Nat} (h : Lay T R) : R 30 5 = some 34 := h.2 ((30, 5), 34) (by decide)
theorem Lay.r30_10 {T : Nat → Nat × Nat} {R : Nat → Nat → Option Nat} (h : Lay T R) : R 30 10 = some 35 := h.2 ((30, 10), 35) (by decide)
theorem Lay.r30_11 {T : Nat → Nat × Nat} {R : Nat → Nat → Option Nat} (h : Lay T R) : R 30 11 = some 36 := h.2 ((30, 11), 36) (by decide)
theorem Lay.r30_12 {T : Nat → Nat × Nat} {R : Nat → Nat → Option Nat} (h : Lay T R) : R 30 12 = some 37 := h.2 ((30, 12), 37) (by decide)
theorem Lay.r30_13 {T : Nat → Nat × Nat} {R : Nat → Nat → Option Nat} (h : Lay T R) : R 30 13 = some 38 := h.2 ((30, 13), 38) (by decide)
theorem Lay.r30_14 {T : Nat → Nat × Nat} {R : Nat → Nat → Option Nat} (h : Lay T R) : R 30 14 = some 39 := h.2 ((30, 14), 39) (by decide)
theorem Lay.r30_15 {T : Nat → Nat × Nat} {R : Nat → Nat → Option Nat} (h : Lay T R) : R 30 15 = some 40 := h.2 ((30, 15), 40) (by decide)
theorem Lay.r30_16 {T : Nat → Nat × Nat} {R : Nat → Nat → Option Nat} (h : Lay T R) : R 30 16 = some 41 := h.2 ((30, 16), 41) (by decide)
theorem Lay.r30_17 {T : Nat → Nat × Nat} {R : Nat → Nat → Option Nat} (h : Lay T R) : R 30 17 = some 42 := h.2 ((30, 17), 42) (by decide)
theorem Lay.r30_18 {T : Nat → Nat × Nat} {R : Nat → Nat → Option Nat} (h : Lay T R) : R 30 18 = some 43 := h.2 ((30, 18), 43) (by decide)
theorem Lay.r30_21 {T : Nat → Nat × Nat} {R : Nat → Nat → Option Nat} (h : Lay T R) : R 30 21 = some 44 := h.2 ((30, 21), 44) (by decide)
theorem Lay.r30_23 {T : Nat → Nat × Nat} {R : Nat → Nat → Option Nat} (h : Lay T R) : R 30 23 = some 45 := h.2 ((30, 23), 45) (by decide)
theorem Lay.r30_28 {T : Nat → Nat × Nat} {R : Nat → Nat → Option Nat} (h : Lay T R) : R 30 28 = some 46 := h.2 ((30, 28), 46) (by decide)
theorem Lay.r30_29 {T : Nat → Nat × Nat} {R : Nat → Nat → Option Nat} (h : Lay T R) : R 30 29 = some 47 := h.2 ((30, 29), 47) (by decide)
theorem Lay.r30_30 {T : Nat → Nat × Nat} {R : Nat → Nat → Option Nat} (h : Lay T R) : R 30 30 = some 48 := h.2 ((30, 30), 48) (by decide)
theorem Lay.r30_31 {T : Nat → Nat × Nat} {R : Nat → Nat → Option Nat} (h : Lay T R) : R 30 31 = some 49 := h.2 ((30, 31), 49) (by decide)
theorem Lay.r30_32 {T : Nat → Nat × Nat} {R : Nat → Nat → Option Nat} (h : Lay T R) : R 30 32 = some 50 := h.2 ((30, 32), 50) (by decide)
theorem Lay.r30_34 {T : Nat → Nat × Nat} {R : Nat → Nat → Option Nat} (h : Lay T R) : R 30 34 = some 51 := h.2 ((30, 34), 51) (by decide)
theorem Lay.r30_35 {T : Nat → Nat × Nat} {R : Nat → Nat → Option Nat} (h : Lay T R) : R 30 35 = some 52 := h.2 ((30, 35), 52) (by decide)
theorem Lay.r30_36 {T : Nat → Nat × Nat} {R : Nat → Nat → Option Nat} (h : Lay T R) : R 30 36 = some 53 := h.2 ((30, 36), 53) (by decide)
theorem Lay.r30_37 {T : Nat → Nat × Nat} {R : Nat → Nat → Option Nat} (h : Lay T R) : R 30 37 = some 54 := h.2 ((30, 37), 54) (by decide)
theorem Lay.r30_49 {T : Nat → Nat × Nat} {R : Nat → Nat → Option Nat} (h : Lay T R) : R 30 49 = some 55 := h.2 ((30, 49), 55) (by decide)
theorem Lay.r30_50 {T : Nat → Nat × Nat} {R : Nat → Nat → Option Nat} (h : Lay T R) : R 30 50 = some 56 := h.2 ((30, 50), 56) (by decide)
theorem Lay.r30_51 {T : Nat → Nat × Nat} {R : Nat → Nat → Option Nat} (h : Lay T R) : R 30 51 = some 57 := h.2 ((30, 51), 57) (by decide)
theorem Lay.r30_52 {T : Nat → Nat × Nat} {R : Nat → Nat → Option Nat} (h : Lay T R) : R 30 52 = some 58 := h.2 ((30, 52), 58) (by decide)

set_option maxHeartbeats 4000000 in
theorem r_isIn  (m : Mem) (v : Int) (a : Int) (b : Int)    : Ct μX11_isIn 0 [vl v, vl a, vl b] m (ri fun x_ m' => (x_ = if a ≤ v ∧ v ≤ b then 1 else 0) ∧ m = m') := by
  refine Ct_of_V rfl (by decide) rfl (Nat.le_of_ble_eq_true rfl) ?_
  show V μX11_isIn 0 m _ 0 [(0, vl v), (2, vl a), (4, vl b)] [] m
  refine V_rgl (k := 0) (x := v) rfl fun r_v => ?_
  refine V_rgl (k := 2) (x := a) rfl fun r_a => ?_
  refine V_rgl (k := 4) (x := b) rfl fun r_b => ?_
  refine V_ld (pc := 0) dX11_isIn_0 (v := vl v) rfl rfl ?_
  refine V_ld (pc := 1) dX11_isIn_1 (v := vl a) rfl rfl ?_
  refine V_lcmp (pc := 2) dX11_isIn_2 ?_
  refine V_if_lt (pc := 3) dX11_isIn_3 (tgt := 17) rfl (fun h3 => ?_) (fun h3 => ?_)
  · skip
    refine V_iconst (pc := 17) dX11_isIn_17 (by unfold I32; omega) ?_
    refine V_reti (pc := 18) dX11_isIn_18 (show _ = (0 : Int) ∨ _ = (1 : Int) from by first | exact Or.inl rfl | exact Or.inr rfl | omega) ?_
    exact ⟨by unfold cmpI at *; omega, rfl⟩
  · skip
    refine V_ld (pc := 6) dX11_isIn_6 (v := vl v) rfl rfl ?_
    refine V_ld (pc := 7) dX11_isIn_7 (v := vl b) rfl rfl ?_
    refine V_lcmp (pc := 9) dX11_isIn_9 ?_
    refine V_if_gt (pc := 10) dX11_isIn_10 (tgt := 17) rfl (fun h10 => ?_) (fun h10 => ?_)
    · skip
      refine V_iconst (pc := 17) dX11_isIn_17 (by unfold I32; omega) ?_
      refine V_reti (pc := 18) dX11_isIn_18 (show _ = (0 : Int) ∨ _ = (1 : Int) from by first | exact Or.inl rfl | exact Or.inr rfl | omega) ?_
      exact ⟨by unfold cmpI at *; omega, rfl⟩
    · skip
      refine V_iconst (pc := 13) dX11_isIn_13 (by unfold I32; omega) ?_
      refine V_goto (pc := 14) dX11_isIn_14 (tgt := 18) rfl ?_
      refine V_reti (pc := 18) dX11_isIn_18 (show _ = (0 : Int) ∨ _ = (1 : Int) from by first | exact Or.inl rfl | exact Or.inr rfl | omega) ?_
      exact ⟨by unfold cmpI at *; omega, rfl⟩

set_option maxHeartbeats 4000000 in
theorem r_many  (m : Mem)    (hL : Lay (mT m) (mR m)) : Ct μX11_many 0 [vr 30] m (ri fun x_ m' => (x_ = mI m 31 64) ∧ m = m') := by
  refine Ct_of_V rfl (by decide) rfl (Nat.le_of_ble_eq_true rfl) ?_
  show V μX11_many 0 m _ 0 [(0, vr 30)] [] m
  refine V_ld (pc := 0) dX11_many_0 (v := vr 30) rfl rfl ?_
  refine V_getRv (pc := 1) dX11_many_1 (o' := 31) fw_RX11_9 rfl hL.t30 hL.r30_0 ?_
  refine V_bipush (pc := 4) dX11_many_4 (by unfold I32; omega) (by decide) ?_
  refine V_ialdv (pc := 6) dX11_many_6 (v := mI m 31 64) hL.t31 (by omega) rfl (fun g6 => ?_)
  refine V_reti (pc := 7) dX11_many_7 trivial ?_
  exact ⟨by omega, rfl⟩

set_option maxHeartbeats 4000000 in
theorem r_isRow  (m : Mem) (r : Int)   (hL : Lay (mT m) (mR m)) (hz : 0 ≤ mI m 31 64 ∧ mI m 31 64 ≤ 32) : Ct μX11_isRow 1 [vr 30, vi r] m (ri fun x_ m' => (x_ = if 0 ≤ r ∧ r < mI m 31 64 then 1 else 0) ∧ m = m') := by
  refine Ct_of_V rfl (by decide) rfl (Nat.le_of_ble_eq_true rfl) ?_
  show V μX11_isRow 1 m _ 0 [(0, vr 30), (1, vi r)] [] m
  refine V_rg (k := 1) (x := r) rfl fun r_r => ?_
  refine V_ld (pc := 0) dX11_isRow_0 (v := vi r) rfl rfl ?_
  refine V_i2l (pc := 1) dX11_isRow_1 ?_
  refine V_lconst (pc := 2) dX11_isRow_2 (x := 0) (by unfold I64; omega) (by decide) ?_
  refine V_ld (pc := 3) dX11_isRow_3 (v := vr 30) rfl rfl ?_
  refine V_callV (pc := 4) dX11_isRow_4 (F' := 0) (As := []) (st := [vl 0, vl r]) cw_RX11_97 rfl rfl hL.t30 (by decide) (Nat.le_of_ble_eq_true rfl) (by omega) (r_many  m    (by first | assumption | omega)) ?_
  rintro _ _ ⟨x4, rfl, hx4, rfl⟩ ok4 le4
  obtain rfl : x4 = mI m 31 64 := hx4.trans rfl
  refine V_iconst (pc := 7) dX11_isRow_7 (by unfold I32; omega) ?_
  refine V_isub (pc := 8) dX11_isRow_8 (by unfold I32 at *; omega) ?_
  refine V_i2l (pc := 9) dX11_isRow_9 ?_
  refine V_callS (pc := 10) dX11_isRow_10 (F' := 0) (As := [vl r, vl 0, vl ((mI m 31 64) - 1)]) (st := []) cw_RX11_101 rfl rfl (Nat.le_of_ble_eq_true rfl) (by omega) (r_isIn  m r 0 ((mI m 31 64) - 1)   ) ?_
  rintro _ _ ⟨x10, rfl, hx10, rfl⟩ ok10 le10
  refine V_reti (pc := 13) dX11_isRow_13 (show _ = (0 : Int) ∨ _ = (1 : Int) from by first | exact Or.inl rfl | exact Or.inr rfl | omega) ?_
  exact ⟨by omega, rfl⟩

set_option maxHeartbeats 4000000 in
theorem r_isWorth  (m : Mem) (v : Int)    : Ct μX11_isWorth 1 [vi v] m (ri fun x_ m' => (x_ = if -999 ≤ v ∧ v ≤ 1000 then 1 else 0) ∧ m = m') := by
  refine Ct_of_V rfl (by decide) rfl (Nat.le_of_ble_eq_true rfl) ?_
  show V μX11_isWorth 1 m _ 0 [(0, vi v)] [] m
  refine V_rg (k := 0) (x := v) rfl fun r_v => ?_
  refine V_ld (pc := 0) dX11_isWorth_0 (v := vi v) rfl rfl ?_
  refine V_i2l (pc := 1) dX11_isWorth_1 ?_
  refine V_ldc2 (pc := 2) dX11_isWorth_2 (x := (-999)) kl_RX11_105 (by unfold I64; omega) rfl ?_
  refine V_ldc2 (pc := 5) dX11_isWorth_5 (x := 999) kl_RX11_107 (by unfold I64; omega) rfl ?_
  refine V_callS (pc := 8) dX11_isWorth_8 (F' := 0) (As := [vl v, vl (-999), vl 999]) (st := []) cw_RX11_101 rfl rfl (Nat.le_of_ble_eq_true rfl) (by omega) (r_isIn  m v (-999) 999   ) ?_
  rintro _ _ ⟨x8, rfl, hx8, rfl⟩ ok8 le8
  refine V_if_ne (pc := 11) dX11_isWorth_11 (tgt := 21) rfl (fun h11 => ?_) (fun h11 => ?_)
  · skip
    refine V_iconst (pc := 21) dX11_isWorth_21 (by unfold I32; omega) ?_
    refine V_goto (pc := 22) dX11_isWorth_22 (tgt := 26) rfl ?_
    refine V_reti (pc := 26) dX11_isWorth_26 (show _ = (0 : Int) ∨ _ = (1 : Int) from by first | exact Or.inl rfl | exact Or.inr rfl | omega) ?_
    exact ⟨by omega, rfl⟩
  · skip
    refine V_ld (pc := 14) dX11_isWorth_14 (v := vi v) rfl rfl ?_
    refine V_sipush (pc := 15) dX11_isWorth_15 (by unfold I32; omega) (by decide) ?_
    refine V_icmp_ne (pc := 18) dX11_isWorth_18 (tgt := 25) rfl (fun h18 => ?_) (fun h18 => ?_)
    · skip
      refine V_iconst (pc := 25) dX11_isWorth_25 (by unfold I32; omega) ?_
      refine V_reti (pc := 26) dX11_isWorth_26 (show _ = (0 : Int) ∨ _ = (1 : Int) from by first | exact Or.inl rfl | exact Or.inr rfl | omega) ?_
      exact ⟨by omega, rfl⟩
    · skip
      refine V_iconst (pc := 21) dX11_isWorth_21 (by unfold I32; omega) ?_
      refine V_goto (pc := 22) dX11_isWorth_22 (tgt := 26) rfl ?_
      refine V_reti (pc := 26) dX11_isWorth_26 (show _ = (0 : Int) ∨ _ = (1 : Int) from by first | exact Or.inl rfl | exact Or.inr rfl | omega) ?_
      exact ⟨by omega, rfl⟩

set_option maxHeartbeats 4000000 in
theorem c_row  (m : Mem) (a : Int) (b : Int) (M : Nat)  (hL : Lay (mT m) (mR m)) (hz : 0 ≤ mI m 2 1 ∧ mI m 2 1 ≤ 32) (R_1_3 : mR m 1 3 = some M) (T_M : mT m M = (3, 4)) (hM : M = 5 ∨ M = 18) : Ct μX10_row 3 [vr 0, vi a, vi b] m (ri fun x_ m' => ((¬ (-999 ≤ a ∧ a ≤ 1000 ∧ -999 ≤ b ∧ b ≤ 1000)) ∧ (x_ = -2) ∧ m = m') ∨ (((-999 ≤ a ∧ a ≤ 1000 ∧ -999 ≤ b ∧ b ≤ 1000) ∧ 32 ≤ mI m 2 1) ∧ (x_ = -4) ∧ m = m') ∨ (((-999 ≤ a ∧ a ≤ 1000 ∧ -999 ≤ b ∧ b ≤ 1000) ∧ mI m 2 1 < 32) ∧ (x_ = mI m 2 1) ∧ setI (setI (setI (setI m 2 1 (mI m 2 1 + 1)) 3 (mI m 2 1 * 2).toNat a) 3 (mI m 2 1 * 2 + 1).toNat b) M 3 0 = m')) := by
  refine Ct_of_V rfl (by decide) rfl (Nat.le_of_ble_eq_true rfl) ?_
  show V μX10_row 3 m _ 0 [(0, vr 0), (1, vi a), (2, vi b)] [] m
  refine V_rg (k := 1) (x := a) rfl fun r_a => ?_
  refine V_rg (k := 2) (x := b) rfl fun r_b => ?_
  refine V_ld (pc := 0) dX10_row_0 (v := vi a) rfl rfl ?_
  refine V_callS (pc := 1) dX10_row_1 (F' := 0) (As := [vi a]) (st := []) cw_RX10_51 rfl rfl (Nat.le_of_ble_eq_true rfl) (by omega) (c_isCell  m a   ) ?_
  rintro _ _ ⟨x1, rfl, hx1, rfl⟩ ok1 le1
  refine V_if_eq (pc := 4) dX10_row_4 (tgt := 14) rfl (fun h4 => ?_) (fun h4 => ?_)
  · skip
    refine V_bipush (pc := 14) dX10_row_14 (by unfold I32; omega) (by decide) ?_
    refine V_reti (pc := 16) dX10_row_16 trivial ?_
    first | exact (Or.inl ⟨by omega, by omega, rfl⟩) | exact (Or.inr (Or.inl ⟨by omega, by omega, rfl⟩)) | exact (Or.inr (Or.inr ⟨by omega, by omega, rfl⟩))
  · skip
    refine V_ld (pc := 7) dX10_row_7 (v := vi b) rfl rfl ?_
    refine V_callS (pc := 8) dX10_row_8 (F' := 0) (As := [vi b]) (st := []) cw_RX10_51 rfl rfl (Nat.le_of_ble_eq_true rfl) (by omega) (c_isCell  m b   ) ?_
    rintro _ _ ⟨x8, rfl, hx8, rfl⟩ ok8 le8
    refine V_if_ne (pc := 11) dX10_row_11 (tgt := 17) rfl (fun h11 => ?_) (fun h11 => ?_)
    · skip
      refine V_ld (pc := 17) dX10_row_17 (v := vr 0) rfl rfl ?_
      refine V_getRv (pc := 18) dX10_row_18 (o' := 1) fw_RX10_12 rfl hL.t0 hL.r0_0 ?_
      refine V_getRv (pc := 21) dX10_row_21 (o' := 2) fw_RX10_55 rfl hL.t1 hL.r1_0 ?_
      refine V_getIv (pc := 24) dX10_row_24 (v := mI m 2 1) fw_RX10_59 rfl hL.t2 rfl (fun g24 => ?_)
      refine V_bipush (pc := 27) dX10_row_27 (by unfold I32; omega) (by decide) ?_
      refine V_icmp_lt (pc := 29) dX10_row_29 (tgt := 35) rfl (fun h29 => ?_) (fun h29 => ?_)
      · skip
        refine V_ld (pc := 35) dX10_row_35 (v := vr 0) rfl rfl ?_
        refine V_getRv (pc := 36) dX10_row_36 (o' := 1) fw_RX10_12 rfl hL.t0 hL.r0_0 ?_
        refine V_getRv (pc := 39) dX10_row_39 (o' := 2) fw_RX10_55 rfl hL.t1 hL.r1_0 ?_
        refine V_getIv (pc := 42) dX10_row_42 (v := mI m 2 1) fw_RX10_59 rfl hL.t2 rfl (fun g42 => ?_)
        refine V_st (pc := 45) dX10_row_45 (ls' := [(3, vi (mI m 2 1)), (0, vr 0), (1, vi a), (2, vi b)]) rfl (Nat.le_of_ble_eq_true rfl) rfl ?_
        refine V_ld (pc := 46) dX10_row_46 (v := vr 0) rfl rfl ?_
        refine V_getRv (pc := 47) dX10_row_47 (o' := 1) fw_RX10_12 rfl hL.t0 hL.r0_0 ?_
        refine V_getRv (pc := 50) dX10_row_50 (o' := 2) fw_RX10_55 rfl hL.t1 hL.r1_0 ?_
        refine V_dup (pc := 53) dX10_row_53 rfl ?_
        refine V_getIv (pc := 54) dX10_row_54 (v := mI m 2 1) fw_RX10_59 rfl hL.t2 rfl (fun g54 => ?_)
        refine V_iconst (pc := 57) dX10_row_57 (by unfold I32; omega) ?_
        refine V_iadd (pc := 58) dX10_row_58 (by unfold I32 at *; omega) ?_
        refine V_putI (pc := 59) dX10_row_59 fw_RX10_59 rfl hL.t2 (Or.inl rfl) (Or.inl rfl) ?_
        refine V_ld (pc := 62) dX10_row_62 (v := vr 0) rfl rfl ?_
        refine V_getRv (pc := 63) dX10_row_63 (o' := 1) fw_RX10_12 rfl hL.t0 hL.r0_0 ?_
        refine V_getRv (pc := 66) dX10_row_66 (o' := 2) fw_RX10_55 rfl hL.t1 hL.r1_0 ?_
        refine V_ld (pc := 69) dX10_row_69 (v := vi (mI m 2 1)) rfl rfl ?_
        refine V_ld (pc := 70) dX10_row_70 (v := vi a) rfl rfl ?_
        refine V_ld (pc := 71) dX10_row_71 (v := vi b) rfl rfl ?_
        refine V_callV (pc := 72) dX10_row_72 (F' := 1) (As := [vi (mI m 2 1), vi a, vi b]) (st := []) cw_RX10_65 rfl rfl hL.t2 (by decide) (Nat.le_of_ble_eq_true rfl) (by omega) (c_Table_write  (setI m 2 1 ((mI m 2 1) + 1)) 2 (mI m 2 1) a b 3  hL.t2 hL.r2_0 hL.t3 (by simp only [mI_setI, up2_s]; omega)) ?_
        rintro _ _ ⟨rfl, rfl⟩ ok72 le72
        refine V_ld (pc := 75) dX10_row_75 (v := vr 0) rfl rfl ?_
        refine V_getRv (pc := 76) dX10_row_76 (o' := 1) fw_RX10_12 rfl hL.t0 hL.r0_0 ?_
        refine V_getRv (pc := 79) dX10_row_79 (o' := M) fw_RX10_69 rfl hL.t1 R_1_3 ?_
        refine V_iconst (pc := 82) dX10_row_82 (by unfold I32; omega) ?_
        refine V_putI (pc := 83) dX10_row_83 fw_RX10_72 rfl T_M (Or.inl rfl) (Or.inl rfl) ?_
        refine V_ld (pc := 86) dX10_row_86 (v := vi (mI m 2 1)) rfl rfl ?_
        refine V_reti (pc := 87) dX10_row_87 trivial ?_
        first | exact (Or.inl ⟨by omega, by omega, rfl⟩) | exact (Or.inr (Or.inl ⟨by omega, by omega, rfl⟩)) | exact (Or.inr (Or.inr ⟨by omega, by omega, rfl⟩))
      · skip
        refine V_bipush (pc := 32) dX10_row_32 (by unfold I32; omega) (by decide) ?_
        refine V_reti (pc := 34) dX10_row_34 trivial ?_
        first | exact (Or.inl ⟨by omega, by omega, rfl⟩) | exact (Or.inr (Or.inl ⟨by omega, by omega, rfl⟩)) | exact (Or.inr (Or.inr ⟨by omega, by omega, rfl⟩))
    · skip
      refine V_bipush (pc := 14) dX10_row_14 (by unfold I32; omega) (by decide) ?_
      refine V_reti (pc := 16) dX10_row_16 trivial ?_
      first | exact (Or.inl ⟨by omega, by omega, rfl⟩) | exact (Or.inr (Or.inl ⟨by omega, by omega, rfl⟩)) | exact (Or.inr (Or.inr ⟨by omega, by omega, rfl⟩))

set_option maxHeartbeats 4000000 in
theorem r_row  (m : Mem) (a : Int) (b : Int)   (hL : Lay (mT m) (mR m)) (hz : 0 ≤ mI m 31 64 ∧ mI m 31 64 ≤ 32) : Ct μX11_row 3 [vr 30, vi a, vi b] m (ri fun x_ m' => ((¬ (-999 ≤ a ∧ a ≤ 1000 ∧ -999 ≤ b ∧ b ≤ 1000)) ∧ (x_ = -2) ∧ m = m') ∨ (((-999 ≤ a ∧ a ≤ 1000 ∧ -999 ≤ b ∧ b ≤ 1000) ∧ 32 ≤ mI m 31 64) ∧ (x_ = -4) ∧ m = m') ∨ (((-999 ≤ a ∧ a ≤ 1000 ∧ -999 ≤ b ∧ b ≤ 1000) ∧ mI m 31 64 < 32) ∧ (x_ = mI m 31 64) ∧ setI (setI (setI (setI m 31 3336 0) 31 (2 * mI m 31 64).toNat a) 31 (2 * mI m 31 64 + 1).toNat b) 31 64 (mI m 31 64 + 1) = m')) := by
  refine Ct_of_V rfl (by decide) rfl (Nat.le_of_ble_eq_true rfl) ?_
  show V μX11_row 3 m _ 0 [(0, vr 30), (1, vi a), (2, vi b)] [] m
  refine V_rg (k := 1) (x := a) rfl fun r_a => ?_
  refine V_rg (k := 2) (x := b) rfl fun r_b => ?_
  refine V_ld (pc := 0) dX11_row_0 (v := vi a) rfl rfl ?_
  refine V_callS (pc := 1) dX11_row_1 (F' := 1) (As := [vi a]) (st := []) cw_RX11_109 rfl rfl (Nat.le_of_ble_eq_true rfl) (by omega) (r_isWorth  m a   ) ?_
  rintro _ _ ⟨x1, rfl, hx1, rfl⟩ ok1 le1
  refine V_if_eq (pc := 4) dX11_row_4 (tgt := 14) rfl (fun h4 => ?_) (fun h4 => ?_)
  · skip
    refine V_bipush (pc := 14) dX11_row_14 (by unfold I32; omega) (by decide) ?_
    refine V_reti (pc := 16) dX11_row_16 trivial ?_
    first | exact (Or.inl ⟨by omega, by omega, rfl⟩) | exact (Or.inr (Or.inl ⟨by omega, by omega, rfl⟩)) | exact (Or.inr (Or.inr ⟨by omega, by omega, rfl⟩))
  · skip
    refine V_ld (pc := 7) dX11_row_7 (v := vi b) rfl rfl ?_
    refine V_callS (pc := 8) dX11_row_8 (F' := 1) (As := [vi b]) (st := []) cw_RX11_109 rfl rfl (Nat.le_of_ble_eq_true rfl) (by omega) (r_isWorth  m b   ) ?_
    rintro _ _ ⟨x8, rfl, hx8, rfl⟩ ok8 le8
    refine V_if_ne (pc := 11) dX11_row_11 (tgt := 17) rfl (fun h11 => ?_) (fun h11 => ?_)
    · skip
      refine V_ld (pc := 17) dX11_row_17 (v := vr 30) rfl rfl ?_
      refine V_callV (pc := 18) dX11_row_18 (F' := 0) (As := []) (st := []) cw_RX11_97 rfl rfl hL.t30 (by decide) (Nat.le_of_ble_eq_true rfl) (by omega) (r_many  m    (by first | assumption | omega)) ?_
      rintro _ _ ⟨x18, rfl, hx18, rfl⟩ ok18 le18
      obtain rfl : x18 = mI m 31 64 := hx18.trans rfl
      refine V_bipush (pc := 21) dX11_row_21 (by unfold I32; omega) (by decide) ?_
      refine V_icmp_ne (pc := 23) dX11_row_23 (tgt := 29) rfl (fun h23 => ?_) (fun h23 => ?_)
      · skip
        refine V_ld (pc := 29) dX11_row_29 (v := vr 30) rfl rfl ?_
        refine V_getRv (pc := 30) dX11_row_30 (o' := 31) fw_RX11_9 rfl hL.t30 hL.r30_0 ?_
        refine V_sipush (pc := 33) dX11_row_33 (by unfold I32; omega) (by decide) ?_
        refine V_iconst (pc := 36) dX11_row_36 (by unfold I32; omega) ?_
        refine V_iast (pc := 37) dX11_row_37 hL.t31 (by omega) ?_
        refine V_ld (pc := 38) dX11_row_38 (v := vr 30) rfl rfl ?_
        refine V_getRv (pc := 39) dX11_row_39 (o' := 31) fw_RX11_9 rfl hL.t30 hL.r30_0 ?_
        refine V_iconst (pc := 42) dX11_row_42 (by unfold I32; omega) ?_
        refine V_ld (pc := 43) dX11_row_43 (v := vr 30) rfl rfl ?_
        refine V_callV (pc := 44) dX11_row_44 (F' := 0) (As := []) (st := [vi 2, vr 31]) cw_RX11_97 rfl rfl hL.t30 (by decide) (Nat.le_of_ble_eq_true rfl) (by omega) (r_many  (setI m 31 3336 0)    (by first | assumption | omega)) ?_
        rintro _ _ ⟨x44, rfl, hx44, rfl⟩ ok44 le44
        obtain rfl : x44 = mI m 31 64 := hx44.trans (by first | rfl | (simp only [mI_setI, up2]; repeat (first | rfl | rw [if_neg (by omega)] | rw [if_pos (by omega)])))
        refine V_imul (pc := 47) dX11_row_47 (by unfold I32 at *; omega) ?_
        refine V_ld (pc := 48) dX11_row_48 (v := vi a) rfl rfl ?_
        refine V_iast (pc := 49) dX11_row_49 hL.t31 (by omega) ?_
        refine V_ld (pc := 50) dX11_row_50 (v := vr 30) rfl rfl ?_
        refine V_getRv (pc := 51) dX11_row_51 (o' := 31) fw_RX11_9 rfl hL.t30 hL.r30_0 ?_
        refine V_iconst (pc := 54) dX11_row_54 (by unfold I32; omega) ?_
        refine V_ld (pc := 55) dX11_row_55 (v := vr 30) rfl rfl ?_
        refine V_callV (pc := 56) dX11_row_56 (F' := 0) (As := []) (st := [vi 2, vr 31]) cw_RX11_97 rfl rfl hL.t30 (by decide) (Nat.le_of_ble_eq_true rfl) (by omega) (r_many  (setI (setI m 31 3336 0) 31 ((2 * (mI m 31 64)).toNat) a)    (by first | assumption | omega)) ?_
        rintro _ _ ⟨x56, rfl, hx56, rfl⟩ ok56 le56
        obtain rfl : x56 = mI m 31 64 := hx56.trans (by first | rfl | (simp only [mI_setI, up2]; repeat (first | rfl | rw [if_neg (by omega)] | rw [if_pos (by omega)])))
        refine V_imul (pc := 59) dX11_row_59 (by unfold I32 at *; omega) ?_
        refine V_iconst (pc := 60) dX11_row_60 (by unfold I32; omega) ?_
        refine V_iadd (pc := 61) dX11_row_61 (by unfold I32 at *; omega) ?_
        refine V_ld (pc := 62) dX11_row_62 (v := vi b) rfl rfl ?_
        refine V_iast (pc := 63) dX11_row_63 hL.t31 (by omega) ?_
        refine V_ld (pc := 64) dX11_row_64 (v := vr 30) rfl rfl ?_
        refine V_getRv (pc := 65) dX11_row_65 (o' := 31) fw_RX11_9 rfl hL.t30 hL.r30_0 ?_
        refine V_bipush (pc := 68) dX11_row_68 (by unfold I32; omega) (by decide) ?_
        refine V_dup2 (pc := 70) dX11_row_70 rfl rfl ?_
        refine V_ialdv (pc := 71) dX11_row_71 (v := mI m 31 64) hL.t31 (by omega) (by first | rfl | (simp only [mI_setI, up2]; repeat (first | rfl | rw [if_neg (by omega)] | rw [if_pos (by omega)]))) (fun g71 => ?_)
        refine V_iconst (pc := 72) dX11_row_72 (by unfold I32; omega) ?_
        refine V_iadd (pc := 73) dX11_row_73 (by unfold I32 at *; omega) ?_
        refine V_iast (pc := 74) dX11_row_74 hL.t31 (by omega) ?_
        refine V_ld (pc := 75) dX11_row_75 (v := vr 30) rfl rfl ?_
        refine V_callV (pc := 76) dX11_row_76 (F' := 0) (As := []) (st := []) cw_RX11_97 rfl rfl hL.t30 (by decide) (Nat.le_of_ble_eq_true rfl) (by omega) (r_many  (setI (setI (setI (setI m 31 3336 0) 31 ((2 * (mI m 31 64)).toNat) a) 31 (((2 * (mI m 31 64)) + 1).toNat) b) 31 64 ((mI m 31 64) + 1))    (by first | assumption | omega)) ?_
        rintro _ _ ⟨x76, rfl, hx76, rfl⟩ ok76 le76
        obtain rfl : x76 = (mI m 31 64) + 1 := hx76.trans (by first | rfl | (simp only [mI_setI, up2]; repeat (first | rfl | rw [if_neg (by omega)] | rw [if_pos (by omega)])))
        refine V_iconst (pc := 79) dX11_row_79 (by unfold I32; omega) ?_
        refine V_isub (pc := 80) dX11_row_80 (by unfold I32 at *; omega) ?_
        refine V_reti (pc := 81) dX11_row_81 trivial ?_
        first | exact (Or.inl ⟨by omega, by omega, rfl⟩) | exact (Or.inr (Or.inl ⟨by omega, by omega, rfl⟩)) | exact (Or.inr (Or.inr ⟨by omega, by omega, rfl⟩))
      · skip
        refine V_bipush (pc := 26) dX11_row_26 (by unfold I32; omega) (by decide) ?_
        refine V_reti (pc := 28) dX11_row_28 trivial ?_
        first | exact (Or.inl ⟨by omega, by omega, rfl⟩) | exact (Or.inr (Or.inl ⟨by omega, by omega, rfl⟩)) | exact (Or.inr (Or.inr ⟨by omega, by omega, rfl⟩))
    · skip
      refine V_bipush (pc := 14) dX11_row_14 (by unfold I32; omega) (by decide) ?_
      refine V_reti (pc := 16) dX11_row_16 trivial ?_
      first | exact (Or.inl ⟨by omega, by omega, rfl⟩) | exact (Or.inr (Or.inl ⟨by omega, by omega, rfl⟩)) | exact (Or.inr (Or.inr ⟨by omega, by omega, rfl⟩))

set_option maxHeartbeats 4000000 in
theorem c_set  (m : Mem) (r : Int) (a : Int) (b : Int) (M : Nat)  (hL : Lay (mT m) (mR m)) (hz : 0 ≤ mI m 2 1 ∧ mI m 2 1 ≤ 32) (R_1_3 : mR m 1 3 = some M) (T_M : mT m M = (3, 4)) (hM : M = 5 ∨ M = 18) : Ct μX10_set 3 [vr 0, vi r, vi a, vi b] m (ri fun x_ m' => ((¬ (0 ≤ r ∧ r < mI m 2 1)) ∧ (x_ = -1) ∧ m = m') ∨ (((0 ≤ r ∧ r < mI m 2 1) ∧ ¬ (-999 ≤ a ∧ a ≤ 1000 ∧ -999 ≤ b ∧ b ≤ 1000)) ∧ (x_ = -2) ∧ m = m') ∨ (((0 ≤ r ∧ r < mI m 2 1) ∧ (-999 ≤ a ∧ a ≤ 1000 ∧ -999 ≤ b ∧ b ≤ 1000)) ∧ (x_ = mI m 2 1) ∧ setI (setI (setI m 3 (r * 2).toNat a) 3 (r * 2 + 1).toNat b) M 3 0 = m')) := by
  refine Ct_of_V rfl (by decide) rfl (Nat.le_of_ble_eq_true rfl) ?_
  show V μX10_set 3 m _ 0 [(0, vr 0), (1, vi r), (2, vi a), (3, vi b)] [] m
  refine V_rg (k := 1) (x := r) rfl fun r_r => ?_
  refine V_rg (k := 2) (x := a) rfl fun r_a => ?_
  refine V_rg (k := 3) (x := b) rfl fun r_b => ?_
  refine V_ld (pc := 0) dX10_set_0 (v := vr 0) rfl rfl ?_
  refine V_getRv (pc := 1) dX10_set_1 (o' := 1) fw_RX10_12 rfl hL.t0 hL.r0_0 ?_
  refine V_getRv (pc := 4) dX10_set_4 (o' := 2) fw_RX10_55 rfl hL.t1 hL.r1_0 ?_
  refine V_ld (pc := 7) dX10_set_7 (v := vi r) rfl rfl ?_
  refine V_callV (pc := 8) dX10_set_8 (F' := 0) (As := [vi r]) (st := []) cw_RX10_73 rfl rfl hL.t2 (by decide) (Nat.le_of_ble_eq_true rfl) (by omega) (c_hasRow  m 2 r   hL.t2) ?_
  rintro _ _ ⟨x8, rfl, hx8, rfl⟩ ok8 le8
  refine V_if_ne (pc := 11) dX10_set_11 (tgt := 16) rfl (fun h11 => ?_) (fun h11 => ?_)
  · skip
    refine V_ld (pc := 16) dX10_set_16 (v := vi a) rfl rfl ?_
    refine V_callS (pc := 17) dX10_set_17 (F' := 0) (As := [vi a]) (st := []) cw_RX10_51 rfl rfl (Nat.le_of_ble_eq_true rfl) (by omega) (c_isCell  m a   ) ?_
    rintro _ _ ⟨x17, rfl, hx17, rfl⟩ ok17 le17
    refine V_if_eq (pc := 20) dX10_set_20 (tgt := 30) rfl (fun h20 => ?_) (fun h20 => ?_)
    · skip
      refine V_bipush (pc := 30) dX10_set_30 (by unfold I32; omega) (by decide) ?_
      refine V_reti (pc := 32) dX10_set_32 trivial ?_
      first | exact (Or.inl ⟨by omega, by omega, rfl⟩) | exact (Or.inr (Or.inl ⟨by omega, by omega, rfl⟩)) | exact (Or.inr (Or.inr ⟨by omega, by omega, rfl⟩))
    · skip
      refine V_ld (pc := 23) dX10_set_23 (v := vi b) rfl rfl ?_
      refine V_callS (pc := 24) dX10_set_24 (F' := 0) (As := [vi b]) (st := []) cw_RX10_51 rfl rfl (Nat.le_of_ble_eq_true rfl) (by omega) (c_isCell  m b   ) ?_
      rintro _ _ ⟨x24, rfl, hx24, rfl⟩ ok24 le24
      refine V_if_ne (pc := 27) dX10_set_27 (tgt := 33) rfl (fun h27 => ?_) (fun h27 => ?_)
      · skip
        refine V_ld (pc := 33) dX10_set_33 (v := vr 0) rfl rfl ?_
        refine V_getRv (pc := 34) dX10_set_34 (o' := 1) fw_RX10_12 rfl hL.t0 hL.r0_0 ?_
        refine V_getRv (pc := 37) dX10_set_37 (o' := 2) fw_RX10_55 rfl hL.t1 hL.r1_0 ?_
        refine V_ld (pc := 40) dX10_set_40 (v := vi r) rfl rfl ?_
        refine V_ld (pc := 41) dX10_set_41 (v := vi a) rfl rfl ?_
        refine V_ld (pc := 42) dX10_set_42 (v := vi b) rfl rfl ?_
        refine V_callV (pc := 43) dX10_set_43 (F' := 1) (As := [vi r, vi a, vi b]) (st := []) cw_RX10_65 rfl rfl hL.t2 (by decide) (Nat.le_of_ble_eq_true rfl) (by omega) (c_Table_write  m 2 r a b 3  hL.t2 hL.r2_0 hL.t3 (by first | assumption | omega)) ?_
        rintro _ _ ⟨rfl, rfl⟩ ok43 le43
        refine V_ld (pc := 46) dX10_set_46 (v := vr 0) rfl rfl ?_
        refine V_getRv (pc := 47) dX10_set_47 (o' := 1) fw_RX10_12 rfl hL.t0 hL.r0_0 ?_
        refine V_getRv (pc := 50) dX10_set_50 (o' := M) fw_RX10_69 rfl hL.t1 R_1_3 ?_
        refine V_iconst (pc := 53) dX10_set_53 (by unfold I32; omega) ?_
        refine V_putI (pc := 54) dX10_set_54 fw_RX10_72 rfl T_M (Or.inl rfl) (Or.inl rfl) ?_
        refine V_ld (pc := 57) dX10_set_57 (v := vr 0) rfl rfl ?_
        refine V_getRv (pc := 58) dX10_set_58 (o' := 1) fw_RX10_12 rfl hL.t0 hL.r0_0 ?_
        refine V_getRv (pc := 61) dX10_set_61 (o' := 2) fw_RX10_55 rfl hL.t1 hL.r1_0 ?_
        refine V_getIv (pc := 64) dX10_set_64 (v := mI m 2 1) fw_RX10_59 rfl hL.t2 (by first | rfl | (simp only [mI_setI, up2]; repeat (first | rfl | rw [if_neg (by omega)] | rw [if_pos (by omega)]))) (fun g64 => ?_)
        refine V_reti (pc := 67) dX10_set_67 trivial ?_
        first | exact (Or.inl ⟨by omega, by omega, rfl⟩) | exact (Or.inr (Or.inl ⟨by omega, by omega, rfl⟩)) | exact (Or.inr (Or.inr ⟨by omega, by omega, rfl⟩))
      · skip
        refine V_bipush (pc := 30) dX10_set_30 (by unfold I32; omega) (by decide) ?_
        refine V_reti (pc := 32) dX10_set_32 trivial ?_
        first | exact (Or.inl ⟨by omega, by omega, rfl⟩) | exact (Or.inr (Or.inl ⟨by omega, by omega, rfl⟩)) | exact (Or.inr (Or.inr ⟨by omega, by omega, rfl⟩))
  · skip
    refine V_iconst (pc := 14) dX10_set_14 (by unfold I32; omega) ?_
    refine V_reti (pc := 15) dX10_set_15 trivial ?_
    first | exact (Or.inl ⟨by omega, by omega, rfl⟩) | exact (Or.inr (Or.inl ⟨by omega, by omega, rfl⟩)) | exact (Or.inr (Or.inr ⟨by omega, by omega, rfl⟩))

set_option maxHeartbeats 4000000 in
theorem r_set  (m : Mem) (r : Int) (a : Int) (b : Int)   (hL : Lay (mT m) (mR m)) (hz : 0 ≤ mI m 31 64 ∧ mI m 31 64 ≤ 32) : Ct μX11_set 3 [vr 30, vi r, vi a, vi b] m (ri fun x_ m' => ((¬ (0 ≤ r ∧ r < mI m 31 64)) ∧ (x_ = -1) ∧ m = m') ∨ (((0 ≤ r ∧ r < mI m 31 64) ∧ ¬ (-999 ≤ a ∧ a ≤ 1000 ∧ -999 ≤ b ∧ b ≤ 1000)) ∧ (x_ = -2) ∧ m = m') ∨ (((0 ≤ r ∧ r < mI m 31 64) ∧ (-999 ≤ a ∧ a ≤ 1000 ∧ -999 ≤ b ∧ b ≤ 1000)) ∧ (x_ = mI m 31 64) ∧ setI (setI (setI m 31 3336 0) 31 (2 * r).toNat a) 31 (2 * r + 1).toNat b = m')) := by
  refine Ct_of_V rfl (by decide) rfl (Nat.le_of_ble_eq_true rfl) ?_
  show V μX11_set 3 m _ 0 [(0, vr 30), (1, vi r), (2, vi a), (3, vi b)] [] m
  refine V_rg (k := 1) (x := r) rfl fun r_r => ?_
  refine V_rg (k := 2) (x := a) rfl fun r_a => ?_
  refine V_rg (k := 3) (x := b) rfl fun r_b => ?_
  refine V_ld (pc := 0) dX11_set_0 (v := vr 30) rfl rfl ?_
  refine V_ld (pc := 1) dX11_set_1 (v := vi r) rfl rfl ?_
  refine V_callV (pc := 2) dX11_set_2 (F' := 1) (As := [vi r]) (st := []) cw_RX11_113 rfl rfl hL.t30 (by decide) (Nat.le_of_ble_eq_true rfl) (by omega) (r_isRow  m r   (by first | assumption | omega) (by first | assumption | omega)) ?_
  rintro _ _ ⟨x2, rfl, hx2, rfl⟩ ok2 le2
  refine V_if_ne (pc := 5) dX11_set_5 (tgt := 10) rfl (fun h5 => ?_) (fun h5 => ?_)
  · skip
    refine V_ld (pc := 10) dX11_set_10 (v := vi a) rfl rfl ?_
    refine V_callS (pc := 11) dX11_set_11 (F' := 1) (As := [vi a]) (st := []) cw_RX11_109 rfl rfl (Nat.le_of_ble_eq_true rfl) (by omega) (r_isWorth  m a   ) ?_
    rintro _ _ ⟨x11, rfl, hx11, rfl⟩ ok11 le11
    refine V_if_eq (pc := 14) dX11_set_14 (tgt := 24) rfl (fun h14 => ?_) (fun h14 => ?_)
    · skip
      refine V_bipush (pc := 24) dX11_set_24 (by unfold I32; omega) (by decide) ?_
      refine V_reti (pc := 26) dX11_set_26 trivial ?_
      first | exact (Or.inl ⟨by omega, by omega, rfl⟩) | exact (Or.inr (Or.inl ⟨by omega, by omega, rfl⟩)) | exact (Or.inr (Or.inr ⟨by omega, by omega, rfl⟩))
    · skip
      refine V_ld (pc := 17) dX11_set_17 (v := vi b) rfl rfl ?_
      refine V_callS (pc := 18) dX11_set_18 (F' := 1) (As := [vi b]) (st := []) cw_RX11_109 rfl rfl (Nat.le_of_ble_eq_true rfl) (by omega) (r_isWorth  m b   ) ?_
      rintro _ _ ⟨x18, rfl, hx18, rfl⟩ ok18 le18
      refine V_if_ne (pc := 21) dX11_set_21 (tgt := 27) rfl (fun h21 => ?_) (fun h21 => ?_)
      · skip
        refine V_ld (pc := 27) dX11_set_27 (v := vr 30) rfl rfl ?_
        refine V_getRv (pc := 28) dX11_set_28 (o' := 31) fw_RX11_9 rfl hL.t30 hL.r30_0 ?_
        refine V_sipush (pc := 31) dX11_set_31 (by unfold I32; omega) (by decide) ?_
        refine V_iconst (pc := 34) dX11_set_34 (by unfold I32; omega) ?_
        refine V_iast (pc := 35) dX11_set_35 hL.t31 (by omega) ?_
        refine V_ld (pc := 36) dX11_set_36 (v := vr 30) rfl rfl ?_
        refine V_getRv (pc := 37) dX11_set_37 (o' := 31) fw_RX11_9 rfl hL.t30 hL.r30_0 ?_
        refine V_iconst (pc := 40) dX11_set_40 (by unfold I32; omega) ?_
        refine V_ld (pc := 41) dX11_set_41 (v := vi r) rfl rfl ?_
        refine V_imul (pc := 42) dX11_set_42 (by unfold I32 at *; omega) ?_
        refine V_ld (pc := 43) dX11_set_43 (v := vi a) rfl rfl ?_
        refine V_iast (pc := 44) dX11_set_44 hL.t31 (by omega) ?_
        refine V_ld (pc := 45) dX11_set_45 (v := vr 30) rfl rfl ?_
        refine V_getRv (pc := 46) dX11_set_46 (o' := 31) fw_RX11_9 rfl hL.t30 hL.r30_0 ?_
        refine V_iconst (pc := 49) dX11_set_49 (by unfold I32; omega) ?_
        refine V_ld (pc := 50) dX11_set_50 (v := vi r) rfl rfl ?_
        refine V_imul (pc := 51) dX11_set_51 (by unfold I32 at *; omega) ?_
        refine V_iconst (pc := 52) dX11_set_52 (by unfold I32; omega) ?_
        refine V_iadd (pc := 53) dX11_set_53 (by unfold I32 at *; omega) ?_
        refine V_ld (pc := 54) dX11_set_54 (v := vi b) rfl rfl ?_
        refine V_iast (pc := 55) dX11_set_55 hL.t31 (by omega) ?_
        refine V_ld (pc := 56) dX11_set_56 (v := vr 30) rfl rfl ?_
        refine V_callV (pc := 57) dX11_set_57 (F' := 0) (As := []) (st := []) cw_RX11_97 rfl rfl hL.t30 (by decide) (Nat.le_of_ble_eq_true rfl) (by omega) (r_many  (setI (setI (setI m 31 3336 0) 31 ((2 * r).toNat) a) 31 (((2 * r) + 1).toNat) b)    (by first | assumption | omega)) ?_
        rintro _ _ ⟨x57, rfl, hx57, rfl⟩ ok57 le57
        obtain rfl : x57 = mI m 31 64 := hx57.trans (by first | rfl | (simp only [mI_setI, up2]; repeat (first | rfl | rw [if_neg (by omega)] | rw [if_pos (by omega)])))
        refine V_reti (pc := 60) dX11_set_60 trivial ?_
        first | exact (Or.inl ⟨by omega, by omega, rfl⟩) | exact (Or.inr (Or.inl ⟨by omega, by omega, rfl⟩)) | exact (Or.inr (Or.inr ⟨by omega, by omega, rfl⟩))
      · skip
        refine V_bipush (pc := 24) dX11_set_24 (by unfold I32; omega) (by decide) ?_
        refine V_reti (pc := 26) dX11_set_26 trivial ?_
        first | exact (Or.inl ⟨by omega, by omega, rfl⟩) | exact (Or.inr (Or.inl ⟨by omega, by omega, rfl⟩)) | exact (Or.inr (Or.inr ⟨by omega, by omega, rfl⟩))
  · skip
    refine V_iconst (pc := 8) dX11_set_8 (by unfold I32; omega) ?_
    refine V_reti (pc := 9) dX11_set_9 trivial ?_
    first | exact (Or.inl ⟨by omega, by omega, rfl⟩) | exact (Or.inr (Or.inl ⟨by omega, by omega, rfl⟩)) | exact (Or.inr (Or.inr ⟨by omega, by omega, rfl⟩))

set_option maxHeartbeats 4000000 in
theorem c_drop  (m : Mem)  (M : Nat)  (hL : Lay (mT m) (mR m)) (hz : 0 ≤ mI m 2 1 ∧ mI m 2 1 ≤ 32) (R_1_3 : mR m 1 3 = some M) (T_M : mT m M = (3, 4)) (hM : M = 5 ∨ M = 18) : Ct μX10_drop 1 [vr 0] m (ri fun x_ m' => ((mI m 2 1 = 0) ∧ (x_ = -3) ∧ m = m') ∨ ((0 < mI m 2 1) ∧ (x_ = mI m 2 1 - 1) ∧ setI (setI m 2 1 (mI m 2 1 - 1)) M 3 0 = m')) := by
  refine Ct_of_V rfl (by decide) rfl (Nat.le_of_ble_eq_true rfl) ?_
  show V μX10_drop 1 m _ 0 [(0, vr 0)] [] m
  refine V_ld (pc := 0) dX10_drop_0 (v := vr 0) rfl rfl ?_
  refine V_getRv (pc := 1) dX10_drop_1 (o' := 1) fw_RX10_12 rfl hL.t0 hL.r0_0 ?_
  refine V_getRv (pc := 4) dX10_drop_4 (o' := 2) fw_RX10_55 rfl hL.t1 hL.r1_0 ?_
  refine V_getIv (pc := 7) dX10_drop_7 (v := mI m 2 1) fw_RX10_59 rfl hL.t2 rfl (fun g7 => ?_)
  refine V_if_gt (pc := 10) dX10_drop_10 (tgt := 16) rfl (fun h10 => ?_) (fun h10 => ?_)
  · skip
    refine V_ld (pc := 16) dX10_drop_16 (v := vr 0) rfl rfl ?_
    refine V_getRv (pc := 17) dX10_drop_17 (o' := 1) fw_RX10_12 rfl hL.t0 hL.r0_0 ?_
    refine V_getRv (pc := 20) dX10_drop_20 (o' := 2) fw_RX10_55 rfl hL.t1 hL.r1_0 ?_
    refine V_dup (pc := 23) dX10_drop_23 rfl ?_
    refine V_getIv (pc := 24) dX10_drop_24 (v := mI m 2 1) fw_RX10_59 rfl hL.t2 rfl (fun g24 => ?_)
    refine V_iconst (pc := 27) dX10_drop_27 (by unfold I32; omega) ?_
    refine V_isub (pc := 28) dX10_drop_28 (by unfold I32 at *; omega) ?_
    refine V_putI (pc := 29) dX10_drop_29 fw_RX10_59 rfl hL.t2 (Or.inl rfl) (Or.inl rfl) ?_
    refine V_ld (pc := 32) dX10_drop_32 (v := vr 0) rfl rfl ?_
    refine V_getRv (pc := 33) dX10_drop_33 (o' := 1) fw_RX10_12 rfl hL.t0 hL.r0_0 ?_
    refine V_getRv (pc := 36) dX10_drop_36 (o' := M) fw_RX10_69 rfl hL.t1 R_1_3 ?_
    refine V_iconst (pc := 39) dX10_drop_39 (by unfold I32; omega) ?_
    refine V_putI (pc := 40) dX10_drop_40 fw_RX10_72 rfl T_M (Or.inl rfl) (Or.inl rfl) ?_
    refine V_ld (pc := 43) dX10_drop_43 (v := vr 0) rfl rfl ?_
    refine V_getRv (pc := 44) dX10_drop_44 (o' := 1) fw_RX10_12 rfl hL.t0 hL.r0_0 ?_
    refine V_getRv (pc := 47) dX10_drop_47 (o' := 2) fw_RX10_55 rfl hL.t1 hL.r1_0 ?_
    refine V_getIv (pc := 50) dX10_drop_50 (v := (mI m 2 1) - 1) fw_RX10_59 rfl hL.t2 (by first | rfl | (simp only [mI_setI, up2]; repeat (first | rfl | rw [if_neg (by omega)] | rw [if_pos (by omega)]))) (fun g50 => ?_)
    refine V_reti (pc := 53) dX10_drop_53 trivial ?_
    first | exact (Or.inl ⟨by omega, by omega, rfl⟩) | exact (Or.inr ⟨by omega, by omega, rfl⟩)
  · skip
    refine V_bipush (pc := 13) dX10_drop_13 (by unfold I32; omega) (by decide) ?_
    refine V_reti (pc := 15) dX10_drop_15 trivial ?_
    first | exact (Or.inl ⟨by omega, by omega, rfl⟩) | exact (Or.inr ⟨by omega, by omega, rfl⟩)

set_option maxHeartbeats 4000000 in
theorem r_drop  (m : Mem)    (hL : Lay (mT m) (mR m)) (hz : 0 ≤ mI m 31 64 ∧ mI m 31 64 ≤ 32) : Ct μX11_drop 2 [vr 30] m (ri fun x_ m' => ((mI m 31 64 = 0) ∧ (x_ = -3) ∧ m = m') ∨ ((0 < mI m 31 64) ∧ (x_ = mI m 31 64 - 1) ∧ setI (setI m 31 3336 0) 31 64 (mI m 31 64 - 1) = m')) := by
  refine Ct_of_V rfl (by decide) rfl (Nat.le_of_ble_eq_true rfl) ?_
  show V μX11_drop 2 m _ 0 [(0, vr 30)] [] m
  refine V_ld (pc := 0) dX11_drop_0 (v := vr 30) rfl rfl ?_
  refine V_callV (pc := 1) dX11_drop_1 (F' := 0) (As := []) (st := []) cw_RX11_97 rfl rfl hL.t30 (by decide) (Nat.le_of_ble_eq_true rfl) (by omega) (r_many  m    (by first | assumption | omega)) ?_
  rintro _ _ ⟨x1, rfl, hx1, rfl⟩ ok1 le1
  obtain rfl : x1 = mI m 31 64 := hx1.trans rfl
  refine V_if_ne (pc := 4) dX11_drop_4 (tgt := 10) rfl (fun h4 => ?_) (fun h4 => ?_)
  · skip
    refine V_ld (pc := 10) dX11_drop_10 (v := vr 30) rfl rfl ?_
    refine V_getRv (pc := 11) dX11_drop_11 (o' := 31) fw_RX11_9 rfl hL.t30 hL.r30_0 ?_
    refine V_sipush (pc := 14) dX11_drop_14 (by unfold I32; omega) (by decide) ?_
    refine V_iconst (pc := 17) dX11_drop_17 (by unfold I32; omega) ?_
    refine V_iast (pc := 18) dX11_drop_18 hL.t31 (by omega) ?_
    refine V_ld (pc := 19) dX11_drop_19 (v := vr 30) rfl rfl ?_
    refine V_getRv (pc := 20) dX11_drop_20 (o' := 31) fw_RX11_9 rfl hL.t30 hL.r30_0 ?_
    refine V_bipush (pc := 23) dX11_drop_23 (by unfold I32; omega) (by decide) ?_
    refine V_dup2 (pc := 25) dX11_drop_25 rfl rfl ?_
    refine V_ialdv (pc := 26) dX11_drop_26 (v := mI m 31 64) hL.t31 (by omega) (by first | rfl | (simp only [mI_setI, up2]; repeat (first | rfl | rw [if_neg (by omega)] | rw [if_pos (by omega)]))) (fun g26 => ?_)
    refine V_iconst (pc := 27) dX11_drop_27 (by unfold I32; omega) ?_
    refine V_isub (pc := 28) dX11_drop_28 (by unfold I32 at *; omega) ?_
    refine V_iast (pc := 29) dX11_drop_29 hL.t31 (by omega) ?_
    refine V_ld (pc := 30) dX11_drop_30 (v := vr 30) rfl rfl ?_
    refine V_callV (pc := 31) dX11_drop_31 (F' := 0) (As := []) (st := []) cw_RX11_97 rfl rfl hL.t30 (by decide) (Nat.le_of_ble_eq_true rfl) (by omega) (r_many  (setI (setI m 31 3336 0) 31 64 ((mI m 31 64) - 1))    (by first | assumption | omega)) ?_
    rintro _ _ ⟨x31, rfl, hx31, rfl⟩ ok31 le31
    obtain rfl : x31 = (mI m 31 64) - 1 := hx31.trans (by first | rfl | (simp only [mI_setI, up2]; repeat (first | rfl | rw [if_neg (by omega)] | rw [if_pos (by omega)])))
    refine V_reti (pc := 34) dX11_drop_34 trivial ?_
    first | exact (Or.inl ⟨by omega, by omega, rfl⟩) | exact (Or.inr ⟨by omega, by omega, rfl⟩)
  · skip
    refine V_bipush (pc := 7) dX11_drop_7 (by unfold I32; omega) (by decide) ?_
    refine V_reti (pc := 9) dX11_drop_9 trivial ?_
    first | exact (Or.inl ⟨by omega, by omega, rfl⟩) | exact (Or.inr ⟨by omega, by omega, rfl⟩)

set_option maxHeartbeats 4000000 in
theorem c_cell  (m : Mem) (r : Int) (c : Int)   (hL : Lay (mT m) (mR m)) (hz : 0 ≤ mI m 2 1 ∧ mI m 2 1 ≤ 32) : Ct μX10_cell 2 [vr 0, vi r, vi c] m (ri fun x_ m' => (x_ = if 0 ≤ r ∧ r < mI m 2 1 ∧ 0 ≤ c ∧ c < 2 then mI m 3 (r * 2 + c).toNat else -1) ∧ m = m') := by
  refine Ct_of_V rfl (by decide) rfl (Nat.le_of_ble_eq_true rfl) ?_
  show V μX10_cell 2 m _ 0 [(0, vr 0), (1, vi r), (2, vi c)] [] m
  refine V_rg (k := 1) (x := r) rfl fun r_r => ?_
  refine V_rg (k := 2) (x := c) rfl fun r_c => ?_
  refine V_ld (pc := 0) dX10_cell_0 (v := vr 0) rfl rfl ?_
  refine V_getRv (pc := 1) dX10_cell_1 (o' := 1) fw_RX10_12 rfl hL.t0 hL.r0_0 ?_
  refine V_getRv (pc := 4) dX10_cell_4 (o' := 2) fw_RX10_55 rfl hL.t1 hL.r1_0 ?_
  refine V_ld (pc := 7) dX10_cell_7 (v := vi r) rfl rfl ?_
  refine V_callV (pc := 8) dX10_cell_8 (F' := 0) (As := [vi r]) (st := []) cw_RX10_73 rfl rfl hL.t2 (by decide) (Nat.le_of_ble_eq_true rfl) (by omega) (c_hasRow  m 2 r   hL.t2) ?_
  rintro _ _ ⟨x8, rfl, hx8, rfl⟩ ok8 le8
  refine V_if_eq (pc := 11) dX10_cell_11 (tgt := 36) rfl (fun h11 => ?_) (fun h11 => ?_)
  · skip
    refine V_iconst (pc := 36) dX10_cell_36 (by unfold I32; omega) ?_
    refine V_reti (pc := 37) dX10_cell_37 trivial ?_
    exact ⟨by omega, rfl⟩
  · skip
    refine V_ld (pc := 14) dX10_cell_14 (v := vi c) rfl rfl ?_
    refine V_callS (pc := 15) dX10_cell_15 (F' := 0) (As := [vi c]) (st := []) cw_RX10_76 rfl rfl (Nat.le_of_ble_eq_true rfl) (by omega) (c_isColumn  m c   ) ?_
    rintro _ _ ⟨x15, rfl, hx15, rfl⟩ ok15 le15
    refine V_if_eq (pc := 18) dX10_cell_18 (tgt := 36) rfl (fun h18 => ?_) (fun h18 => ?_)
    · skip
      refine V_iconst (pc := 36) dX10_cell_36 (by unfold I32; omega) ?_
      refine V_reti (pc := 37) dX10_cell_37 trivial ?_
      exact ⟨by omega, rfl⟩
    · skip
      refine V_ld (pc := 21) dX10_cell_21 (v := vr 0) rfl rfl ?_
      refine V_getRv (pc := 22) dX10_cell_22 (o' := 1) fw_RX10_12 rfl hL.t0 hL.r0_0 ?_
      refine V_getRv (pc := 25) dX10_cell_25 (o' := 2) fw_RX10_55 rfl hL.t1 hL.r1_0 ?_
      refine V_ld (pc := 28) dX10_cell_28 (v := vi r) rfl rfl ?_
      refine V_ld (pc := 29) dX10_cell_29 (v := vi c) rfl rfl ?_
      refine V_callV (pc := 30) dX10_cell_30 (F' := 0) (As := [vi r, vi c]) (st := []) cw_RX10_79 rfl rfl hL.t2 (by decide) (Nat.le_of_ble_eq_true rfl) (by omega) (c_number  m 2 r c 3  hL.t2 hL.r2_0 hL.t3) ?_
      rintro _ _ ⟨x30, rfl, hx30, rfl⟩ ok30 le30
      refine V_goto (pc := 33) dX10_cell_33 (tgt := 37) rfl ?_
      refine V_reti (pc := 37) dX10_cell_37 trivial ?_
      exact ⟨by omega, rfl⟩

set_option maxHeartbeats 4000000 in
theorem r_cell  (m : Mem) (r : Int) (c : Int)   (hL : Lay (mT m) (mR m)) (hz : 0 ≤ mI m 31 64 ∧ mI m 31 64 ≤ 32) : Ct μX11_cell 3 [vr 30, vi r, vi c] m (ri fun x_ m' => (x_ = if 0 ≤ r ∧ r < mI m 31 64 ∧ 0 ≤ c ∧ c < 2 then mI m 31 (2 * r + c).toNat else -1) ∧ m = m') := by
  refine Ct_of_V rfl (by decide) rfl (Nat.le_of_ble_eq_true rfl) ?_
  show V μX11_cell 3 m _ 0 [(0, vr 30), (1, vi r), (2, vi c)] [] m
  refine V_rg (k := 1) (x := r) rfl fun r_r => ?_
  refine V_rg (k := 2) (x := c) rfl fun r_c => ?_
  refine V_ld (pc := 0) dX11_cell_0 (v := vr 30) rfl rfl ?_
  refine V_ld (pc := 1) dX11_cell_1 (v := vi r) rfl rfl ?_
  refine V_callV (pc := 2) dX11_cell_2 (F' := 1) (As := [vi r]) (st := []) cw_RX11_113 rfl rfl hL.t30 (by decide) (Nat.le_of_ble_eq_true rfl) (by omega) (r_isRow  m r   (by first | assumption | omega) (by first | assumption | omega)) ?_
  rintro _ _ ⟨x2, rfl, hx2, rfl⟩ ok2 le2
  refine V_if_eq (pc := 5) dX11_cell_5 (tgt := 31) rfl (fun h5 => ?_) (fun h5 => ?_)
  · skip
    refine V_iconst (pc := 31) dX11_cell_31 (by unfold I32; omega) ?_
    refine V_reti (pc := 32) dX11_cell_32 trivial ?_
    exact ⟨by omega, rfl⟩
  · skip
    refine V_ld (pc := 8) dX11_cell_8 (v := vi c) rfl rfl ?_
    refine V_i2l (pc := 9) dX11_cell_9 ?_
    refine V_lconst (pc := 10) dX11_cell_10 (x := 0) (by unfold I64; omega) (by decide) ?_
    refine V_lconst (pc := 11) dX11_cell_11 (x := 1) (by unfold I64; omega) (by decide) ?_
    refine V_callS (pc := 12) dX11_cell_12 (F' := 0) (As := [vl c, vl 0, vl 1]) (st := []) cw_RX11_101 rfl rfl (Nat.le_of_ble_eq_true rfl) (by omega) (r_isIn  m c 0 1   ) ?_
    rintro _ _ ⟨x12, rfl, hx12, rfl⟩ ok12 le12
    refine V_if_eq (pc := 15) dX11_cell_15 (tgt := 31) rfl (fun h15 => ?_) (fun h15 => ?_)
    · skip
      refine V_iconst (pc := 31) dX11_cell_31 (by unfold I32; omega) ?_
      refine V_reti (pc := 32) dX11_cell_32 trivial ?_
      exact ⟨by omega, rfl⟩
    · skip
      refine V_ld (pc := 18) dX11_cell_18 (v := vr 30) rfl rfl ?_
      refine V_getRv (pc := 19) dX11_cell_19 (o' := 31) fw_RX11_9 rfl hL.t30 hL.r30_0 ?_
      refine V_iconst (pc := 22) dX11_cell_22 (by unfold I32; omega) ?_
      refine V_ld (pc := 23) dX11_cell_23 (v := vi r) rfl rfl ?_
      refine V_imul (pc := 24) dX11_cell_24 (by unfold I32 at *; omega) ?_
      refine V_ld (pc := 25) dX11_cell_25 (v := vi c) rfl rfl ?_
      refine V_iadd (pc := 26) dX11_cell_26 (by unfold I32 at *; omega) ?_
      refine V_ialdv (pc := 27) dX11_cell_27 (v := mI m 31 (((2 * r) + c).toNat)) hL.t31 (by omega) rfl (fun g27 => ?_)
      refine V_goto (pc := 28) dX11_cell_28 (tgt := 32) rfl ?_
      refine V_reti (pc := 32) dX11_cell_32 trivial ?_
      exact ⟨by omega, rfl⟩

set_option maxHeartbeats 4000000 in
theorem c_feed  (m : Mem) (a : Int)   (hL : Lay (mT m) (mR m)) (ht : 0 ≤ mI m 13 1 ∧ mI m 13 1 ≤ 120) : Ct μX10_feed 1 [vr 0, vi a] m (ri fun x_ m' => ((¬ (1 ≤ a ∧ a ≤ 127)) ∧ (x_ = -2) ∧ m = m') ∨ (((1 ≤ a ∧ a ≤ 127) ∧ mI m 13 1 = 120) ∧ (x_ = -4) ∧ m = m') ∨ (((1 ≤ a ∧ a ≤ 127) ∧ mI m 13 1 < 120) ∧ (x_ = mI m 13 1 + 1) ∧ setI (setI m 14 (mI m 13 1).toNat a) 13 1 (mI m 13 1 + 1) = m')) := by
  refine Ct_of_V rfl (by decide) rfl (Nat.le_of_ble_eq_true rfl) ?_
  show V μX10_feed 1 m _ 0 [(0, vr 0), (1, vi a)] [] m
  refine V_rg (k := 1) (x := a) rfl fun r_a => ?_
  refine V_ld (pc := 0) dX10_feed_0 (v := vi a) rfl rfl ?_
  refine V_iconst (pc := 1) dX10_feed_1 (by unfold I32; omega) ?_
  refine V_icmp_lt (pc := 2) dX10_feed_2 (tgt := 11) rfl (fun h2 => ?_) (fun h2 => ?_)
  · skip
    refine V_bipush (pc := 11) dX10_feed_11 (by unfold I32; omega) (by decide) ?_
    refine V_reti (pc := 13) dX10_feed_13 trivial ?_
    first | exact (Or.inl ⟨by omega, by omega, rfl⟩) | exact (Or.inr (Or.inl ⟨by omega, by omega, rfl⟩)) | exact (Or.inr (Or.inr ⟨by omega, by omega, rfl⟩))
  · skip
    refine V_ld (pc := 5) dX10_feed_5 (v := vi a) rfl rfl ?_
    refine V_bipush (pc := 6) dX10_feed_6 (by unfold I32; omega) (by decide) ?_
    refine V_icmp_le (pc := 8) dX10_feed_8 (tgt := 14) rfl (fun h8 => ?_) (fun h8 => ?_)
    · skip
      refine V_ld (pc := 14) dX10_feed_14 (v := vr 0) rfl rfl ?_
      refine V_getRv (pc := 15) dX10_feed_15 (o' := 13) fw_RX10_30 rfl hL.t0 hL.r0_2 ?_
      refine V_ld (pc := 18) dX10_feed_18 (v := vi a) rfl rfl ?_
      refine V_callV (pc := 19) dX10_feed_19 (F' := 0) (As := [vi a]) (st := []) cw_RX10_83 rfl rfl hL.t13 (by decide) (Nat.le_of_ble_eq_true rfl) (by omega) (c_Text_add  m 13 a 14  hL.t13 hL.r13_0 hL.t14 ht.1 (by decide)) ?_
      rintro _ _ ⟨x19, rfl, (⟨hc19, hx19, rfl⟩ | ⟨hc19, hx19, rfl⟩)⟩ ok19 le19
      · skip
        refine V_if_eq (pc := 22) dX10_feed_22 (tgt := 35) rfl (fun h22 => ?_) (fun h22 => ?_)
        · skip
          refine V_bipush (pc := 35) dX10_feed_35 (by unfold I32; omega) (by decide) ?_
          refine V_reti (pc := 37) dX10_feed_37 trivial ?_
          first | exact (Or.inl ⟨by omega, by omega, rfl⟩) | exact (Or.inr (Or.inl ⟨by omega, by omega, rfl⟩)) | exact (Or.inr (Or.inr ⟨by omega, by omega, rfl⟩))
        · skip
          refine V_ld (pc := 25) dX10_feed_25 (v := vr 0) rfl rfl ?_
          refine V_getRv (pc := 26) dX10_feed_26 (o' := 13) fw_RX10_30 rfl hL.t0 hL.r0_2 ?_
          refine V_getIv (pc := 29) dX10_feed_29 (v := mI m 13 1 + 1) fw_RX10_86 rfl hL.t13 (by first | rfl | (simp only [mI_setI, up2]; repeat (first | rfl | rw [if_neg (by omega)] | rw [if_pos (by omega)]))) (fun g29 => ?_)
          refine V_goto (pc := 32) dX10_feed_32 (tgt := 37) rfl ?_
          refine V_reti (pc := 37) dX10_feed_37 trivial ?_
          first | exact (Or.inl ⟨by omega, by omega, rfl⟩) | exact (Or.inr (Or.inl ⟨by omega, by omega, rfl⟩)) | exact (Or.inr (Or.inr ⟨by omega, by omega, rfl⟩))
      · skip
        refine V_if_eq (pc := 22) dX10_feed_22 (tgt := 35) rfl (fun h22 => ?_) (fun h22 => ?_)
        · skip
          refine V_bipush (pc := 35) dX10_feed_35 (by unfold I32; omega) (by decide) ?_
          refine V_reti (pc := 37) dX10_feed_37 trivial ?_
          first | exact (Or.inl ⟨by omega, by omega, rfl⟩) | exact (Or.inr (Or.inl ⟨by omega, by omega, rfl⟩)) | exact (Or.inr (Or.inr ⟨by omega, by omega, rfl⟩))
        · skip
          refine V_ld (pc := 25) dX10_feed_25 (v := vr 0) rfl rfl ?_
          refine V_getRv (pc := 26) dX10_feed_26 (o' := 13) fw_RX10_30 rfl hL.t0 hL.r0_2 ?_
          refine V_getIv (pc := 29) dX10_feed_29 (v := mI m 13 1) fw_RX10_86 rfl hL.t13 rfl (fun g29 => ?_)
          refine V_goto (pc := 32) dX10_feed_32 (tgt := 37) rfl ?_
          refine V_reti (pc := 37) dX10_feed_37 trivial ?_
          first | exact (Or.inl ⟨by omega, by omega, rfl⟩) | exact (Or.inr (Or.inl ⟨by omega, by omega, rfl⟩)) | exact (Or.inr (Or.inr ⟨by omega, by omega, rfl⟩))
    · skip
      refine V_bipush (pc := 11) dX10_feed_11 (by unfold I32; omega) (by decide) ?_
      refine V_reti (pc := 13) dX10_feed_13 trivial ?_
      first | exact (Or.inl ⟨by omega, by omega, rfl⟩) | exact (Or.inr (Or.inl ⟨by omega, by omega, rfl⟩)) | exact (Or.inr (Or.inr ⟨by omega, by omega, rfl⟩))

set_option maxHeartbeats 4000000 in
theorem r_feed  (m : Mem) (a : Int)   (hL : Lay (mT m) (mR m)) (ht : 0 ≤ mI m 30 4 ∧ mI m 30 4 ≤ 120) : Ct μX11_feed 1 [vr 30, vi a] m (ri fun x_ m' => ((¬ (1 ≤ a ∧ a ≤ 127)) ∧ (x_ = -2) ∧ m = m') ∨ (((1 ≤ a ∧ a ≤ 127) ∧ mI m 30 4 = 120) ∧ (x_ = -4) ∧ m = m') ∨ (((1 ≤ a ∧ a ≤ 127) ∧ mI m 30 4 < 120) ∧ (x_ = mI m 30 4 + 1) ∧ setI (setI m 33 (mI m 30 4).toNat a) 30 4 (mI m 30 4 + 1) = m')) := by
  refine Ct_of_V rfl (by decide) rfl (Nat.le_of_ble_eq_true rfl) ?_
  show V μX11_feed 1 m _ 0 [(0, vr 30), (1, vi a)] [] m
  refine V_rg (k := 1) (x := a) rfl fun r_a => ?_
  refine V_ld (pc := 0) dX11_feed_0 (v := vi a) rfl rfl ?_
  refine V_i2l (pc := 1) dX11_feed_1 ?_
  refine V_lconst (pc := 2) dX11_feed_2 (x := 1) (by unfold I64; omega) (by decide) ?_
  refine V_ldc2 (pc := 3) dX11_feed_3 (x := 127) kl_RX11_116 (by unfold I64; omega) rfl ?_
  refine V_callS (pc := 6) dX11_feed_6 (F' := 0) (As := [vl a, vl 1, vl 127]) (st := []) cw_RX11_101 rfl rfl (Nat.le_of_ble_eq_true rfl) (by omega) (r_isIn  m a 1 127   ) ?_
  rintro _ _ ⟨x6, rfl, hx6, rfl⟩ ok6 le6
  refine V_if_ne (pc := 9) dX11_feed_9 (tgt := 15) rfl (fun h9 => ?_) (fun h9 => ?_)
  · skip
    refine V_ld (pc := 15) dX11_feed_15 (v := vr 30) rfl rfl ?_
    refine V_getIv (pc := 16) dX11_feed_16 (v := mI m 30 4) fw_RX11_118 rfl hL.t30 rfl (fun g16 => ?_)
    refine V_bipush (pc := 19) dX11_feed_19 (by unfold I32; omega) (by decide) ?_
    refine V_icmp_ne (pc := 21) dX11_feed_21 (tgt := 27) rfl (fun h21 => ?_) (fun h21 => ?_)
    · skip
      refine V_ld (pc := 27) dX11_feed_27 (v := vr 30) rfl rfl ?_
      refine V_getRv (pc := 28) dX11_feed_28 (o' := 33) fw_RX11_18 rfl hL.t30 hL.r30_3 ?_
      refine V_ld (pc := 31) dX11_feed_31 (v := vr 30) rfl rfl ?_
      refine V_getIv (pc := 32) dX11_feed_32 (v := mI m 30 4) fw_RX11_118 rfl hL.t30 rfl (fun g32 => ?_)
      refine V_ld (pc := 35) dX11_feed_35 (v := vi a) rfl rfl ?_
      refine V_iast (pc := 36) dX11_feed_36 hL.t33 (by omega) ?_
      refine V_ld (pc := 37) dX11_feed_37 (v := vr 30) rfl rfl ?_
      refine V_dup (pc := 38) dX11_feed_38 rfl ?_
      refine V_getIv (pc := 39) dX11_feed_39 (v := mI m 30 4) fw_RX11_118 rfl hL.t30 (by first | rfl | (simp only [mI_setI, up2]; repeat (first | rfl | rw [if_neg (by omega)] | rw [if_pos (by omega)]))) (fun g39 => ?_)
      refine V_iconst (pc := 42) dX11_feed_42 (by unfold I32; omega) ?_
      refine V_iadd (pc := 43) dX11_feed_43 (by unfold I32 at *; omega) ?_
      refine V_putI (pc := 44) dX11_feed_44 fw_RX11_118 rfl hL.t30 (Or.inl rfl) (Or.inl rfl) ?_
      refine V_ld (pc := 47) dX11_feed_47 (v := vr 30) rfl rfl ?_
      refine V_getIv (pc := 48) dX11_feed_48 (v := (mI m 30 4) + 1) fw_RX11_118 rfl hL.t30 (by first | rfl | (simp only [mI_setI, up2]; repeat (first | rfl | rw [if_neg (by omega)] | rw [if_pos (by omega)]))) (fun g48 => ?_)
      refine V_reti (pc := 51) dX11_feed_51 trivial ?_
      first | exact (Or.inl ⟨by omega, by omega, rfl⟩) | exact (Or.inr (Or.inl ⟨by omega, by omega, rfl⟩)) | exact (Or.inr (Or.inr ⟨by omega, by omega, rfl⟩))
    · skip
      refine V_bipush (pc := 24) dX11_feed_24 (by unfold I32; omega) (by decide) ?_
      refine V_reti (pc := 26) dX11_feed_26 trivial ?_
      first | exact (Or.inl ⟨by omega, by omega, rfl⟩) | exact (Or.inr (Or.inl ⟨by omega, by omega, rfl⟩)) | exact (Or.inr (Or.inr ⟨by omega, by omega, rfl⟩))
  · skip
    refine V_bipush (pc := 12) dX11_feed_12 (by unfold I32; omega) (by decide) ?_
    refine V_reti (pc := 14) dX11_feed_14 trivial ?_
    first | exact (Or.inl ⟨by omega, by omega, rfl⟩) | exact (Or.inr (Or.inl ⟨by omega, by omega, rfl⟩)) | exact (Or.inr (Or.inr ⟨by omega, by omega, rfl⟩))

set_option maxHeartbeats 4000000 in
theorem c_clear  (m : Mem)    (hL : Lay (mT m) (mR m)) : Ct μX10_clear 1 [vr 0] m (ri fun x_ m' => ((True) ∧ (x_ = mI m 13 1) ∧ setI m 13 1 0 = m')) := by
  refine Ct_of_V rfl (by decide) rfl (Nat.le_of_ble_eq_true rfl) ?_
  show V μX10_clear 1 m _ 0 [(0, vr 0)] [] m
  refine V_ld (pc := 0) dX10_clear_0 (v := vr 0) rfl rfl ?_
  refine V_getRv (pc := 1) dX10_clear_1 (o' := 13) fw_RX10_30 rfl hL.t0 hL.r0_2 ?_
  refine V_callV (pc := 4) dX10_clear_4 (F' := 0) (As := []) (st := []) cw_RX10_87 rfl rfl hL.t13 (by decide) (Nat.le_of_ble_eq_true rfl) (by omega) (c_Text_empty  m 13   hL.t13) ?_
  rintro _ _ ⟨x4, rfl, hx4, rfl⟩ ok4 le4
  refine V_reti (pc := 7) dX10_clear_7 trivial ?_
  exact ⟨trivial, by omega, rfl⟩

set_option maxHeartbeats 4000000 in
theorem r_clear  (m : Mem)    (hL : Lay (mT m) (mR m)) : Ct μX11_clear 1 [vr 30] m (ri fun x_ m' => ((True) ∧ (x_ = mI m 30 4) ∧ setI m 30 4 0 = m')) := by
  refine Ct_of_V rfl (by decide) rfl (Nat.le_of_ble_eq_true rfl) ?_
  show V μX11_clear 1 m _ 0 [(0, vr 30)] [] m
  refine V_ld (pc := 0) dX11_clear_0 (v := vr 30) rfl rfl ?_
  refine V_getIv (pc := 1) dX11_clear_1 (v := mI m 30 4) fw_RX11_118 rfl hL.t30 rfl (fun g1 => ?_)
  refine V_st (pc := 4) dX11_clear_4 (ls' := [(1, vi (mI m 30 4)), (0, vr 30)]) rfl (Nat.le_of_ble_eq_true rfl) rfl ?_
  refine V_ld (pc := 5) dX11_clear_5 (v := vr 30) rfl rfl ?_
  refine V_iconst (pc := 6) dX11_clear_6 (by unfold I32; omega) ?_
  refine V_putI (pc := 7) dX11_clear_7 fw_RX11_118 rfl hL.t30 (Or.inl rfl) (Or.inl rfl) ?_
  refine V_ld (pc := 10) dX11_clear_10 (v := vi (mI m 30 4)) rfl rfl ?_
  refine V_reti (pc := 11) dX11_clear_11 trivial ?_
  exact ⟨trivial, by omega, rfl⟩

set_option maxHeartbeats 4000000 in
theorem c_paper  (m : Mem) (i : Int)   (hL : Lay (mT m) (mR m)) : Ct μX10_paper 1 [vr 0, vi i] m (ri fun x_ m' => (x_ = if 0 ≤ i ∧ i < mI m 15 1 ∧ i < 120 then mI m 16 i.toNat else -1) ∧ m = m') := by
  refine Ct_of_V rfl (by decide) rfl (Nat.le_of_ble_eq_true rfl) ?_
  show V μX10_paper 1 m _ 0 [(0, vr 0), (1, vi i)] [] m
  refine V_rg (k := 1) (x := i) rfl fun r_i => ?_
  refine V_ld (pc := 0) dX10_paper_0 (v := vr 0) rfl rfl ?_
  refine V_getRv (pc := 1) dX10_paper_1 (o' := 15) fw_RX10_34 rfl hL.t0 hL.r0_3 ?_
  refine V_ld (pc := 4) dX10_paper_4 (v := vi i) rfl rfl ?_
  refine V_callV (pc := 5) dX10_paper_5 (F' := 0) (As := [vi i]) (st := []) cw_RX10_131 rfl rfl hL.t15 (by decide) (Nat.le_of_ble_eq_true rfl) (by omega) (c_Text_at  m 15 i 16  hL.t15 hL.r15_0 hL.t16) ?_
  rintro _ _ ⟨x5, rfl, hx5, rfl⟩ ok5 le5
  refine V_reti (pc := 8) dX10_paper_8 trivial ?_
  exact ⟨by omega, rfl⟩

set_option maxHeartbeats 4000000 in
theorem r_paper  (m : Mem) (i : Int)   (hL : Lay (mT m) (mR m)) (ht : 0 ≤ mI m 30 22 ∧ mI m 30 22 ≤ 400) : Ct μX11_paper 1 [vr 30, vi i] m (ri fun x_ m' => (x_ = if 0 ≤ i ∧ i < mI m 30 22 then mI m 44 i.toNat else -1) ∧ m = m') := by
  refine Ct_of_V rfl (by decide) rfl (Nat.le_of_ble_eq_true rfl) ?_
  show V μX11_paper 1 m _ 0 [(0, vr 30), (1, vi i)] [] m
  refine V_rg (k := 1) (x := i) rfl fun r_i => ?_
  refine V_ld (pc := 0) dX11_paper_0 (v := vi i) rfl rfl ?_
  refine V_i2l (pc := 1) dX11_paper_1 ?_
  refine V_lconst (pc := 2) dX11_paper_2 (x := 0) (by unfold I64; omega) (by decide) ?_
  refine V_ld (pc := 3) dX11_paper_3 (v := vr 30) rfl rfl ?_
  refine V_getIv (pc := 4) dX11_paper_4 (v := mI m 30 22) fw_RX11_200 rfl hL.t30 rfl (fun g4 => ?_)
  refine V_iconst (pc := 7) dX11_paper_7 (by unfold I32; omega) ?_
  refine V_isub (pc := 8) dX11_paper_8 (by unfold I32 at *; omega) ?_
  refine V_i2l (pc := 9) dX11_paper_9 ?_
  refine V_callS (pc := 10) dX11_paper_10 (F' := 0) (As := [vl i, vl 0, vl ((mI m 30 22) - 1)]) (st := []) cw_RX11_101 rfl rfl (Nat.le_of_ble_eq_true rfl) (by omega) (r_isIn  m i 0 ((mI m 30 22) - 1)   ) ?_
  rintro _ _ ⟨x10, rfl, hx10, rfl⟩ ok10 le10
  refine V_if_eq (pc := 13) dX11_paper_13 (tgt := 25) rfl (fun h13 => ?_) (fun h13 => ?_)
  · skip
    refine V_iconst (pc := 25) dX11_paper_25 (by unfold I32; omega) ?_
    refine V_reti (pc := 26) dX11_paper_26 trivial ?_
    exact ⟨by omega, rfl⟩
  · skip
    refine V_ld (pc := 16) dX11_paper_16 (v := vr 30) rfl rfl ?_
    refine V_getRv (pc := 17) dX11_paper_17 (o' := 44) fw_RX11_51 rfl hL.t30 hL.r30_21 ?_
    refine V_ld (pc := 20) dX11_paper_20 (v := vi i) rfl rfl ?_
    refine V_ialdv (pc := 21) dX11_paper_21 (v := mI m 44 i.toNat) hL.t44 (by omega) rfl (fun g21 => ?_)
    refine V_goto (pc := 22) dX11_paper_22 (tgt := 26) rfl ?_
    refine V_reti (pc := 26) dX11_paper_26 trivial ?_
    exact ⟨by omega, rfl⟩
