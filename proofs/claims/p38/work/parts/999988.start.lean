/-! THE START: what the Statement gives of it -/
theorem hts2 {s : State} {A : Array Value} (hts : ∀ w ∈ lw_tbl, w.before A s = true) : ∀ w ∈ lw_tb2, w.before A s = true := by
  intro w hw
  rcases List.mem_append.mp hw with h | h
  · obtain ⟨y, hy, rfl⟩ := List.mem_map.mp h
    have h0 : (Cond.selects RJ4 yJ5_isLatin1_aae02 yJ5_isLatin1_aae02).before A s = true := hts _ (by decide +kernel)
    have key : ∀ y ∈ asbM, (yJ5_isLatin1_aae02.cls = y.cls ∧ (y.cls ≠ "java/lang/invoke/MethodHandle" ∧ y.cls ≠ "java/lang/invoke/VarHandle")) ∧ Cond.privateMethod y ∈ lw_tbl ∧ Cond.instanceMethod y ∈ lw_tbl := by decide +kernel
    exact sel_priv h0 (key y hy).1.1 (key y hy).1.2 (hts _ (key y hy).2.1) (hts _ (key y hy).2.2)
  · exact hts w h
/-- the String constants' terms -/
def tmS (i : Nat) : Term := Term.string RL (litP.getD i 0)
def flG : List Cond := flatC (Jvm.Cond.and given_1 narrow_1)
theorem st_ex : ∀ i, i < 24 → Cond.exactly (tmS i) "java/lang/String" ∈ flG := by decide +kernel
theorem st_co : ∀ i, i < 24 → Cond.eq (.field (tmS i) "java/lang/String" "coder" "B") (.int 0) ∈ flG := by decide +kernel
theorem st_ar : ∀ i, i < 24 → Cond.arrayOf (.field (tmS i) "java/lang/String" "value" "[B") .byte ∈ flG := by decide +kernel
theorem st_le : ∀ i, i < 24 → Cond.eq (.length (.field (tmS i) "java/lang/String" "value" "[B")) (.int (Int32.ofNat (litL.getD i 0))) ∈ flG := by decide +kernel
theorem st_el0 : ∀ j, j < 3 → flG[260 + j]? = some (Cond.eq (.elem (.field (tmS 0) "java/lang/String" "value" "[B") (.int (Int32.ofNat j))) (.int ((litV.getD 0 []).getD j 0))) := by decide +kernel
theorem st_el1 : ∀ j, j < 7 → flG[270 + j]? = some (Cond.eq (.elem (.field (tmS 1) "java/lang/String" "value" "[B") (.int (Int32.ofNat j))) (.int ((litV.getD 1 []).getD j 0))) := by decide +kernel
theorem st_el2 : ∀ j, j < 4 → flG[285 + j]? = some (Cond.eq (.elem (.field (tmS 2) "java/lang/String" "value" "[B") (.int (Int32.ofNat j))) (.int ((litV.getD 2 []).getD j 0))) := by decide +kernel
theorem st_el3 : ∀ j, j < 9 → flG[298 + j]? = some (Cond.eq (.elem (.field (tmS 3) "java/lang/String" "value" "[B") (.int (Int32.ofNat j))) (.int ((litV.getD 3 []).getD j 0))) := by decide +kernel
theorem st_el4 : ∀ j, j < 11 → flG[317 + j]? = some (Cond.eq (.elem (.field (tmS 4) "java/lang/String" "value" "[B") (.int (Int32.ofNat j))) (.int ((litV.getD 4 []).getD j 0))) := by decide +kernel
theorem st_el5 : ∀ j, j < 5 → flG[339 + j]? = some (Cond.eq (.elem (.field (tmS 5) "java/lang/String" "value" "[B") (.int (Int32.ofNat j))) (.int ((litV.getD 5 []).getD j 0))) := by decide +kernel
theorem st_el6 : ∀ j, j < 10 → flG[356 + j]? = some (Cond.eq (.elem (.field (tmS 6) "java/lang/String" "value" "[B") (.int (Int32.ofNat j))) (.int ((litV.getD 6 []).getD j 0))) := by decide +kernel
theorem st_el7 : ∀ j, j < 17 → flG[379 + j]? = some (Cond.eq (.elem (.field (tmS 7) "java/lang/String" "value" "[B") (.int (Int32.ofNat j))) (.int ((litV.getD 7 []).getD j 0))) := by decide +kernel
theorem st_el9 : ∀ j, j < 1 → flG[247 + j]? = some (Cond.eq (.elem (.field (tmS 9) "java/lang/String" "value" "[B") (.int (Int32.ofNat j))) (.int ((litV.getD 9 []).getD j 0))) := by decide +kernel
theorem st_el10 : ∀ j, j < 1 → flG[253 + j]? = some (Cond.eq (.elem (.field (tmS 10) "java/lang/String" "value" "[B") (.int (Int32.ofNat j))) (.int ((litV.getD 10 []).getD j 0))) := by decide +kernel
theorem st_el11 : ∀ j, j < 1 → flG[410 + j]? = some (Cond.eq (.elem (.field (tmS 11) "java/lang/String" "value" "[B") (.int (Int32.ofNat j))) (.int ((litV.getD 11 []).getD j 0))) := by decide +kernel
theorem st_el12 : ∀ j, j < 1 → flG[426 + j]? = some (Cond.eq (.elem (.field (tmS 12) "java/lang/String" "value" "[B") (.int (Int32.ofNat j))) (.int ((litV.getD 12 []).getD j 0))) := by decide +kernel
theorem st_el13 : ∀ j, j < 2 → flG[443 + j]? = some (Cond.eq (.elem (.field (tmS 13) "java/lang/String" "value" "[B") (.int (Int32.ofNat j))) (.int ((litV.getD 13 []).getD j 0))) := by decide +kernel
theorem st_el14 : ∀ j, j < 1 → flG[462 + j]? = some (Cond.eq (.elem (.field (tmS 14) "java/lang/String" "value" "[B") (.int (Int32.ofNat j))) (.int ((litV.getD 14 []).getD j 0))) := by decide +kernel
theorem st_el15 : ∀ j, j < 1 → flG[481 + j]? = some (Cond.eq (.elem (.field (tmS 15) "java/lang/String" "value" "[B") (.int (Int32.ofNat j))) (.int ((litV.getD 15 []).getD j 0))) := by decide +kernel
theorem st_el16 : ∀ j, j < 1 → flG[501 + j]? = some (Cond.eq (.elem (.field (tmS 16) "java/lang/String" "value" "[B") (.int (Int32.ofNat j))) (.int ((litV.getD 16 []).getD j 0))) := by decide +kernel
theorem st_el17 : ∀ j, j < 1 → flG[522 + j]? = some (Cond.eq (.elem (.field (tmS 17) "java/lang/String" "value" "[B") (.int (Int32.ofNat j))) (.int ((litV.getD 17 []).getD j 0))) := by decide +kernel
theorem st_el18 : ∀ j, j < 1 → flG[544 + j]? = some (Cond.eq (.elem (.field (tmS 18) "java/lang/String" "value" "[B") (.int (Int32.ofNat j))) (.int ((litV.getD 18 []).getD j 0))) := by decide +kernel
theorem st_el19 : ∀ j, j < 1 → flG[567 + j]? = some (Cond.eq (.elem (.field (tmS 19) "java/lang/String" "value" "[B") (.int (Int32.ofNat j))) (.int ((litV.getD 19 []).getD j 0))) := by decide +kernel
theorem st_el20 : ∀ j, j < 1 → flG[591 + j]? = some (Cond.eq (.elem (.field (tmS 20) "java/lang/String" "value" "[B") (.int (Int32.ofNat j))) (.int ((litV.getD 20 []).getD j 0))) := by decide +kernel
theorem st_el21 : ∀ j, j < 1 → flG[616 + j]? = some (Cond.eq (.elem (.field (tmS 21) "java/lang/String" "value" "[B") (.int (Int32.ofNat j))) (.int ((litV.getD 21 []).getD j 0))) := by decide +kernel
theorem st_el22 : ∀ j, j < 1 → flG[642 + j]? = some (Cond.eq (.elem (.field (tmS 22) "java/lang/String" "value" "[B") (.int (Int32.ofNat j))) (.int ((litV.getD 22 []).getD j 0))) := by decide +kernel
theorem st_el23 : ∀ j, j < 1 → flG[669 + j]? = some (Cond.eq (.elem (.field (tmS 23) "java/lang/String" "value" "[B") (.int (Int32.ofNat j))) (.int ((litV.getD 23 []).getD j 0))) := by decide +kernel
theorem st_el : ∀ i, i < 24 → ∀ j, j < litL.getD i 0 → Cond.eq (.elem (.field (tmS i) "java/lang/String" "value" "[B") (.int (Int32.ofNat j))) (.int ((litV.getD i []).getD j 0)) ∈ flG := fun i hi j hj => by
  rcases (show i = 0 ∨ i = 1 ∨ i = 2 ∨ i = 3 ∨ i = 4 ∨ i = 5 ∨ i = 6 ∨ i = 7 ∨ i = 8 ∨ i = 9 ∨ i = 10 ∨ i = 11 ∨ i = 12 ∨ i = 13 ∨ i = 14 ∨ i = 15 ∨ i = 16 ∨ i = 17 ∨ i = 18 ∨ i = 19 ∨ i = 20 ∨ i = 21 ∨ i = 22 ∨ i = 23 by omega) with rfl | rfl | rfl | rfl | rfl | rfl | rfl | rfl | rfl | rfl | rfl | rfl | rfl | rfl | rfl | rfl | rfl | rfl | rfl | rfl | rfl | rfl | rfl | rfl
  · exact List.mem_of_getElem? (st_el0 j hj)
  · exact List.mem_of_getElem? (st_el1 j hj)
  · exact List.mem_of_getElem? (st_el2 j hj)
  · exact List.mem_of_getElem? (st_el3 j hj)
  · exact List.mem_of_getElem? (st_el4 j hj)
  · exact List.mem_of_getElem? (st_el5 j hj)
  · exact List.mem_of_getElem? (st_el6 j hj)
  · exact List.mem_of_getElem? (st_el7 j hj)
  · exact absurd hj (Nat.not_lt_zero _)
  · exact List.mem_of_getElem? (st_el9 j hj)
  · exact List.mem_of_getElem? (st_el10 j hj)
  · exact List.mem_of_getElem? (st_el11 j hj)
  · exact List.mem_of_getElem? (st_el12 j hj)
  · exact List.mem_of_getElem? (st_el13 j hj)
  · exact List.mem_of_getElem? (st_el14 j hj)
  · exact List.mem_of_getElem? (st_el15 j hj)
  · exact List.mem_of_getElem? (st_el16 j hj)
  · exact List.mem_of_getElem? (st_el17 j hj)
  · exact List.mem_of_getElem? (st_el18 j hj)
  · exact List.mem_of_getElem? (st_el19 j hj)
  · exact List.mem_of_getElem? (st_el20 j hj)
  · exact List.mem_of_getElem? (st_el21 j hj)
  · exact List.mem_of_getElem? (st_el22 j hj)
  · exact List.mem_of_getElem? (st_el23 j hj)
theorem st_n0_1 : Cond.not (Cond.eq (tmS 0) (tmS 1)) ∈ flG := List.mem_of_getElem? (i := 280) (by decide +kernel)
theorem st_n0_2 : Cond.not (Cond.eq (tmS 0) (tmS 2)) ∈ flG := List.mem_of_getElem? (i := 292) (by decide +kernel)
theorem st_n0_3 : Cond.not (Cond.eq (tmS 0) (tmS 3)) ∈ flG := List.mem_of_getElem? (i := 310) (by decide +kernel)
theorem st_n0_4 : Cond.not (Cond.eq (tmS 0) (tmS 4)) ∈ flG := List.mem_of_getElem? (i := 331) (by decide +kernel)
theorem st_n0_5 : Cond.not (Cond.eq (tmS 0) (tmS 5)) ∈ flG := List.mem_of_getElem? (i := 347) (by decide +kernel)
theorem st_n0_6 : Cond.not (Cond.eq (tmS 0) (tmS 6)) ∈ flG := List.mem_of_getElem? (i := 369) (by decide +kernel)
theorem st_n0_7 : Cond.not (Cond.eq (tmS 0) (tmS 7)) ∈ flG := List.mem_of_getElem? (i := 399) (by decide +kernel)
theorem st_n0_11 : Cond.not (Cond.eq (tmS 0) (tmS 11)) ∈ flG := List.mem_of_getElem? (i := 414) (by decide +kernel)
theorem st_n0_12 : Cond.not (Cond.eq (tmS 0) (tmS 12)) ∈ flG := List.mem_of_getElem? (i := 430) (by decide +kernel)
theorem st_n0_13 : Cond.not (Cond.eq (tmS 0) (tmS 13)) ∈ flG := List.mem_of_getElem? (i := 448) (by decide +kernel)
theorem st_n0_14 : Cond.not (Cond.eq (tmS 0) (tmS 14)) ∈ flG := List.mem_of_getElem? (i := 466) (by decide +kernel)
theorem st_n0_15 : Cond.not (Cond.eq (tmS 0) (tmS 15)) ∈ flG := List.mem_of_getElem? (i := 485) (by decide +kernel)
theorem st_n0_16 : Cond.not (Cond.eq (tmS 0) (tmS 16)) ∈ flG := List.mem_of_getElem? (i := 505) (by decide +kernel)
theorem st_n0_17 : Cond.not (Cond.eq (tmS 0) (tmS 17)) ∈ flG := List.mem_of_getElem? (i := 526) (by decide +kernel)
theorem st_n0_18 : Cond.not (Cond.eq (tmS 0) (tmS 18)) ∈ flG := List.mem_of_getElem? (i := 548) (by decide +kernel)
theorem st_n0_19 : Cond.not (Cond.eq (tmS 0) (tmS 19)) ∈ flG := List.mem_of_getElem? (i := 571) (by decide +kernel)
theorem st_n0_20 : Cond.not (Cond.eq (tmS 0) (tmS 20)) ∈ flG := List.mem_of_getElem? (i := 595) (by decide +kernel)
theorem st_n0_21 : Cond.not (Cond.eq (tmS 0) (tmS 21)) ∈ flG := List.mem_of_getElem? (i := 620) (by decide +kernel)
theorem st_n0_22 : Cond.not (Cond.eq (tmS 0) (tmS 22)) ∈ flG := List.mem_of_getElem? (i := 646) (by decide +kernel)
theorem st_n0_23 : Cond.not (Cond.eq (tmS 0) (tmS 23)) ∈ flG := List.mem_of_getElem? (i := 673) (by decide +kernel)
theorem st_n1_2 : Cond.not (Cond.eq (tmS 1) (tmS 2)) ∈ flG := List.mem_of_getElem? (i := 293) (by decide +kernel)
theorem st_n1_3 : Cond.not (Cond.eq (tmS 1) (tmS 3)) ∈ flG := List.mem_of_getElem? (i := 311) (by decide +kernel)
theorem st_n1_4 : Cond.not (Cond.eq (tmS 1) (tmS 4)) ∈ flG := List.mem_of_getElem? (i := 332) (by decide +kernel)
theorem st_n1_5 : Cond.not (Cond.eq (tmS 1) (tmS 5)) ∈ flG := List.mem_of_getElem? (i := 348) (by decide +kernel)
theorem st_n1_6 : Cond.not (Cond.eq (tmS 1) (tmS 6)) ∈ flG := List.mem_of_getElem? (i := 370) (by decide +kernel)
theorem st_n1_7 : Cond.not (Cond.eq (tmS 1) (tmS 7)) ∈ flG := List.mem_of_getElem? (i := 400) (by decide +kernel)
theorem st_n1_11 : Cond.not (Cond.eq (tmS 1) (tmS 11)) ∈ flG := List.mem_of_getElem? (i := 415) (by decide +kernel)
theorem st_n1_12 : Cond.not (Cond.eq (tmS 1) (tmS 12)) ∈ flG := List.mem_of_getElem? (i := 431) (by decide +kernel)
theorem st_n1_13 : Cond.not (Cond.eq (tmS 1) (tmS 13)) ∈ flG := List.mem_of_getElem? (i := 449) (by decide +kernel)
theorem st_n1_14 : Cond.not (Cond.eq (tmS 1) (tmS 14)) ∈ flG := List.mem_of_getElem? (i := 467) (by decide +kernel)
theorem st_n1_15 : Cond.not (Cond.eq (tmS 1) (tmS 15)) ∈ flG := List.mem_of_getElem? (i := 486) (by decide +kernel)
theorem st_n1_16 : Cond.not (Cond.eq (tmS 1) (tmS 16)) ∈ flG := List.mem_of_getElem? (i := 506) (by decide +kernel)
theorem st_n1_17 : Cond.not (Cond.eq (tmS 1) (tmS 17)) ∈ flG := List.mem_of_getElem? (i := 527) (by decide +kernel)
theorem st_n1_18 : Cond.not (Cond.eq (tmS 1) (tmS 18)) ∈ flG := List.mem_of_getElem? (i := 549) (by decide +kernel)
theorem st_n1_19 : Cond.not (Cond.eq (tmS 1) (tmS 19)) ∈ flG := List.mem_of_getElem? (i := 572) (by decide +kernel)
theorem st_n1_20 : Cond.not (Cond.eq (tmS 1) (tmS 20)) ∈ flG := List.mem_of_getElem? (i := 596) (by decide +kernel)
theorem st_n1_21 : Cond.not (Cond.eq (tmS 1) (tmS 21)) ∈ flG := List.mem_of_getElem? (i := 621) (by decide +kernel)
theorem st_n1_22 : Cond.not (Cond.eq (tmS 1) (tmS 22)) ∈ flG := List.mem_of_getElem? (i := 647) (by decide +kernel)
theorem st_n1_23 : Cond.not (Cond.eq (tmS 1) (tmS 23)) ∈ flG := List.mem_of_getElem? (i := 674) (by decide +kernel)
theorem st_n2_3 : Cond.not (Cond.eq (tmS 2) (tmS 3)) ∈ flG := List.mem_of_getElem? (i := 312) (by decide +kernel)
theorem st_n2_4 : Cond.not (Cond.eq (tmS 2) (tmS 4)) ∈ flG := List.mem_of_getElem? (i := 333) (by decide +kernel)
theorem st_n2_5 : Cond.not (Cond.eq (tmS 2) (tmS 5)) ∈ flG := List.mem_of_getElem? (i := 349) (by decide +kernel)
theorem st_n2_6 : Cond.not (Cond.eq (tmS 2) (tmS 6)) ∈ flG := List.mem_of_getElem? (i := 371) (by decide +kernel)
theorem st_n2_7 : Cond.not (Cond.eq (tmS 2) (tmS 7)) ∈ flG := List.mem_of_getElem? (i := 401) (by decide +kernel)
theorem st_n2_11 : Cond.not (Cond.eq (tmS 2) (tmS 11)) ∈ flG := List.mem_of_getElem? (i := 416) (by decide +kernel)
theorem st_n2_12 : Cond.not (Cond.eq (tmS 2) (tmS 12)) ∈ flG := List.mem_of_getElem? (i := 432) (by decide +kernel)
theorem st_n2_13 : Cond.not (Cond.eq (tmS 2) (tmS 13)) ∈ flG := List.mem_of_getElem? (i := 450) (by decide +kernel)
theorem st_n2_14 : Cond.not (Cond.eq (tmS 2) (tmS 14)) ∈ flG := List.mem_of_getElem? (i := 468) (by decide +kernel)
theorem st_n2_15 : Cond.not (Cond.eq (tmS 2) (tmS 15)) ∈ flG := List.mem_of_getElem? (i := 487) (by decide +kernel)
theorem st_n2_16 : Cond.not (Cond.eq (tmS 2) (tmS 16)) ∈ flG := List.mem_of_getElem? (i := 507) (by decide +kernel)
theorem st_n2_17 : Cond.not (Cond.eq (tmS 2) (tmS 17)) ∈ flG := List.mem_of_getElem? (i := 528) (by decide +kernel)
theorem st_n2_18 : Cond.not (Cond.eq (tmS 2) (tmS 18)) ∈ flG := List.mem_of_getElem? (i := 550) (by decide +kernel)
theorem st_n2_19 : Cond.not (Cond.eq (tmS 2) (tmS 19)) ∈ flG := List.mem_of_getElem? (i := 573) (by decide +kernel)
theorem st_n2_20 : Cond.not (Cond.eq (tmS 2) (tmS 20)) ∈ flG := List.mem_of_getElem? (i := 597) (by decide +kernel)
theorem st_n2_21 : Cond.not (Cond.eq (tmS 2) (tmS 21)) ∈ flG := List.mem_of_getElem? (i := 622) (by decide +kernel)
theorem st_n2_22 : Cond.not (Cond.eq (tmS 2) (tmS 22)) ∈ flG := List.mem_of_getElem? (i := 648) (by decide +kernel)
theorem st_n2_23 : Cond.not (Cond.eq (tmS 2) (tmS 23)) ∈ flG := List.mem_of_getElem? (i := 675) (by decide +kernel)
theorem st_n3_4 : Cond.not (Cond.eq (tmS 3) (tmS 4)) ∈ flG := List.mem_of_getElem? (i := 334) (by decide +kernel)
theorem st_n3_5 : Cond.not (Cond.eq (tmS 3) (tmS 5)) ∈ flG := List.mem_of_getElem? (i := 350) (by decide +kernel)
theorem st_n3_6 : Cond.not (Cond.eq (tmS 3) (tmS 6)) ∈ flG := List.mem_of_getElem? (i := 372) (by decide +kernel)
theorem st_n3_7 : Cond.not (Cond.eq (tmS 3) (tmS 7)) ∈ flG := List.mem_of_getElem? (i := 402) (by decide +kernel)
theorem st_n3_11 : Cond.not (Cond.eq (tmS 3) (tmS 11)) ∈ flG := List.mem_of_getElem? (i := 417) (by decide +kernel)
theorem st_n3_12 : Cond.not (Cond.eq (tmS 3) (tmS 12)) ∈ flG := List.mem_of_getElem? (i := 433) (by decide +kernel)
theorem st_n3_13 : Cond.not (Cond.eq (tmS 3) (tmS 13)) ∈ flG := List.mem_of_getElem? (i := 451) (by decide +kernel)
theorem st_n3_14 : Cond.not (Cond.eq (tmS 3) (tmS 14)) ∈ flG := List.mem_of_getElem? (i := 469) (by decide +kernel)
theorem st_n3_15 : Cond.not (Cond.eq (tmS 3) (tmS 15)) ∈ flG := List.mem_of_getElem? (i := 488) (by decide +kernel)
theorem st_n3_16 : Cond.not (Cond.eq (tmS 3) (tmS 16)) ∈ flG := List.mem_of_getElem? (i := 508) (by decide +kernel)
theorem st_n3_17 : Cond.not (Cond.eq (tmS 3) (tmS 17)) ∈ flG := List.mem_of_getElem? (i := 529) (by decide +kernel)
theorem st_n3_18 : Cond.not (Cond.eq (tmS 3) (tmS 18)) ∈ flG := List.mem_of_getElem? (i := 551) (by decide +kernel)
theorem st_n3_19 : Cond.not (Cond.eq (tmS 3) (tmS 19)) ∈ flG := List.mem_of_getElem? (i := 574) (by decide +kernel)
theorem st_n3_20 : Cond.not (Cond.eq (tmS 3) (tmS 20)) ∈ flG := List.mem_of_getElem? (i := 598) (by decide +kernel)
theorem st_n3_21 : Cond.not (Cond.eq (tmS 3) (tmS 21)) ∈ flG := List.mem_of_getElem? (i := 623) (by decide +kernel)
theorem st_n3_22 : Cond.not (Cond.eq (tmS 3) (tmS 22)) ∈ flG := List.mem_of_getElem? (i := 649) (by decide +kernel)
theorem st_n3_23 : Cond.not (Cond.eq (tmS 3) (tmS 23)) ∈ flG := List.mem_of_getElem? (i := 676) (by decide +kernel)
theorem st_n4_5 : Cond.not (Cond.eq (tmS 4) (tmS 5)) ∈ flG := List.mem_of_getElem? (i := 351) (by decide +kernel)
theorem st_n4_6 : Cond.not (Cond.eq (tmS 4) (tmS 6)) ∈ flG := List.mem_of_getElem? (i := 373) (by decide +kernel)
theorem st_n4_7 : Cond.not (Cond.eq (tmS 4) (tmS 7)) ∈ flG := List.mem_of_getElem? (i := 403) (by decide +kernel)
theorem st_n4_11 : Cond.not (Cond.eq (tmS 4) (tmS 11)) ∈ flG := List.mem_of_getElem? (i := 418) (by decide +kernel)
theorem st_n4_12 : Cond.not (Cond.eq (tmS 4) (tmS 12)) ∈ flG := List.mem_of_getElem? (i := 434) (by decide +kernel)
theorem st_n4_13 : Cond.not (Cond.eq (tmS 4) (tmS 13)) ∈ flG := List.mem_of_getElem? (i := 452) (by decide +kernel)
theorem st_n4_14 : Cond.not (Cond.eq (tmS 4) (tmS 14)) ∈ flG := List.mem_of_getElem? (i := 470) (by decide +kernel)
theorem st_n4_15 : Cond.not (Cond.eq (tmS 4) (tmS 15)) ∈ flG := List.mem_of_getElem? (i := 489) (by decide +kernel)
theorem st_n4_16 : Cond.not (Cond.eq (tmS 4) (tmS 16)) ∈ flG := List.mem_of_getElem? (i := 509) (by decide +kernel)
theorem st_n4_17 : Cond.not (Cond.eq (tmS 4) (tmS 17)) ∈ flG := List.mem_of_getElem? (i := 530) (by decide +kernel)
theorem st_n4_18 : Cond.not (Cond.eq (tmS 4) (tmS 18)) ∈ flG := List.mem_of_getElem? (i := 552) (by decide +kernel)
theorem st_n4_19 : Cond.not (Cond.eq (tmS 4) (tmS 19)) ∈ flG := List.mem_of_getElem? (i := 575) (by decide +kernel)
theorem st_n4_20 : Cond.not (Cond.eq (tmS 4) (tmS 20)) ∈ flG := List.mem_of_getElem? (i := 599) (by decide +kernel)
theorem st_n4_21 : Cond.not (Cond.eq (tmS 4) (tmS 21)) ∈ flG := List.mem_of_getElem? (i := 624) (by decide +kernel)
theorem st_n4_22 : Cond.not (Cond.eq (tmS 4) (tmS 22)) ∈ flG := List.mem_of_getElem? (i := 650) (by decide +kernel)
theorem st_n4_23 : Cond.not (Cond.eq (tmS 4) (tmS 23)) ∈ flG := List.mem_of_getElem? (i := 677) (by decide +kernel)
theorem st_n5_6 : Cond.not (Cond.eq (tmS 5) (tmS 6)) ∈ flG := List.mem_of_getElem? (i := 374) (by decide +kernel)
theorem st_n5_7 : Cond.not (Cond.eq (tmS 5) (tmS 7)) ∈ flG := List.mem_of_getElem? (i := 404) (by decide +kernel)
theorem st_n5_11 : Cond.not (Cond.eq (tmS 5) (tmS 11)) ∈ flG := List.mem_of_getElem? (i := 419) (by decide +kernel)
theorem st_n5_12 : Cond.not (Cond.eq (tmS 5) (tmS 12)) ∈ flG := List.mem_of_getElem? (i := 435) (by decide +kernel)
theorem st_n5_13 : Cond.not (Cond.eq (tmS 5) (tmS 13)) ∈ flG := List.mem_of_getElem? (i := 453) (by decide +kernel)
theorem st_n5_14 : Cond.not (Cond.eq (tmS 5) (tmS 14)) ∈ flG := List.mem_of_getElem? (i := 471) (by decide +kernel)
theorem st_n5_15 : Cond.not (Cond.eq (tmS 5) (tmS 15)) ∈ flG := List.mem_of_getElem? (i := 490) (by decide +kernel)
theorem st_n5_16 : Cond.not (Cond.eq (tmS 5) (tmS 16)) ∈ flG := List.mem_of_getElem? (i := 510) (by decide +kernel)
theorem st_n5_17 : Cond.not (Cond.eq (tmS 5) (tmS 17)) ∈ flG := List.mem_of_getElem? (i := 531) (by decide +kernel)
theorem st_n5_18 : Cond.not (Cond.eq (tmS 5) (tmS 18)) ∈ flG := List.mem_of_getElem? (i := 553) (by decide +kernel)
theorem st_n5_19 : Cond.not (Cond.eq (tmS 5) (tmS 19)) ∈ flG := List.mem_of_getElem? (i := 576) (by decide +kernel)
theorem st_n5_20 : Cond.not (Cond.eq (tmS 5) (tmS 20)) ∈ flG := List.mem_of_getElem? (i := 600) (by decide +kernel)
theorem st_n5_21 : Cond.not (Cond.eq (tmS 5) (tmS 21)) ∈ flG := List.mem_of_getElem? (i := 625) (by decide +kernel)
theorem st_n5_22 : Cond.not (Cond.eq (tmS 5) (tmS 22)) ∈ flG := List.mem_of_getElem? (i := 651) (by decide +kernel)
theorem st_n5_23 : Cond.not (Cond.eq (tmS 5) (tmS 23)) ∈ flG := List.mem_of_getElem? (i := 678) (by decide +kernel)
theorem st_n6_7 : Cond.not (Cond.eq (tmS 6) (tmS 7)) ∈ flG := List.mem_of_getElem? (i := 405) (by decide +kernel)
theorem st_n6_11 : Cond.not (Cond.eq (tmS 6) (tmS 11)) ∈ flG := List.mem_of_getElem? (i := 420) (by decide +kernel)
theorem st_n6_12 : Cond.not (Cond.eq (tmS 6) (tmS 12)) ∈ flG := List.mem_of_getElem? (i := 436) (by decide +kernel)
theorem st_n6_13 : Cond.not (Cond.eq (tmS 6) (tmS 13)) ∈ flG := List.mem_of_getElem? (i := 454) (by decide +kernel)
theorem st_n6_14 : Cond.not (Cond.eq (tmS 6) (tmS 14)) ∈ flG := List.mem_of_getElem? (i := 472) (by decide +kernel)
theorem st_n6_15 : Cond.not (Cond.eq (tmS 6) (tmS 15)) ∈ flG := List.mem_of_getElem? (i := 491) (by decide +kernel)
theorem st_n6_16 : Cond.not (Cond.eq (tmS 6) (tmS 16)) ∈ flG := List.mem_of_getElem? (i := 511) (by decide +kernel)
theorem st_n6_17 : Cond.not (Cond.eq (tmS 6) (tmS 17)) ∈ flG := List.mem_of_getElem? (i := 532) (by decide +kernel)
theorem st_n6_18 : Cond.not (Cond.eq (tmS 6) (tmS 18)) ∈ flG := List.mem_of_getElem? (i := 554) (by decide +kernel)
theorem st_n6_19 : Cond.not (Cond.eq (tmS 6) (tmS 19)) ∈ flG := List.mem_of_getElem? (i := 577) (by decide +kernel)
theorem st_n6_20 : Cond.not (Cond.eq (tmS 6) (tmS 20)) ∈ flG := List.mem_of_getElem? (i := 601) (by decide +kernel)
theorem st_n6_21 : Cond.not (Cond.eq (tmS 6) (tmS 21)) ∈ flG := List.mem_of_getElem? (i := 626) (by decide +kernel)
theorem st_n6_22 : Cond.not (Cond.eq (tmS 6) (tmS 22)) ∈ flG := List.mem_of_getElem? (i := 652) (by decide +kernel)
theorem st_n6_23 : Cond.not (Cond.eq (tmS 6) (tmS 23)) ∈ flG := List.mem_of_getElem? (i := 679) (by decide +kernel)
theorem st_n7_11 : Cond.not (Cond.eq (tmS 7) (tmS 11)) ∈ flG := List.mem_of_getElem? (i := 421) (by decide +kernel)
theorem st_n7_12 : Cond.not (Cond.eq (tmS 7) (tmS 12)) ∈ flG := List.mem_of_getElem? (i := 437) (by decide +kernel)
theorem st_n7_13 : Cond.not (Cond.eq (tmS 7) (tmS 13)) ∈ flG := List.mem_of_getElem? (i := 455) (by decide +kernel)
theorem st_n7_14 : Cond.not (Cond.eq (tmS 7) (tmS 14)) ∈ flG := List.mem_of_getElem? (i := 473) (by decide +kernel)
theorem st_n7_15 : Cond.not (Cond.eq (tmS 7) (tmS 15)) ∈ flG := List.mem_of_getElem? (i := 492) (by decide +kernel)
theorem st_n7_16 : Cond.not (Cond.eq (tmS 7) (tmS 16)) ∈ flG := List.mem_of_getElem? (i := 512) (by decide +kernel)
theorem st_n7_17 : Cond.not (Cond.eq (tmS 7) (tmS 17)) ∈ flG := List.mem_of_getElem? (i := 533) (by decide +kernel)
theorem st_n7_18 : Cond.not (Cond.eq (tmS 7) (tmS 18)) ∈ flG := List.mem_of_getElem? (i := 555) (by decide +kernel)
theorem st_n7_19 : Cond.not (Cond.eq (tmS 7) (tmS 19)) ∈ flG := List.mem_of_getElem? (i := 578) (by decide +kernel)
theorem st_n7_20 : Cond.not (Cond.eq (tmS 7) (tmS 20)) ∈ flG := List.mem_of_getElem? (i := 602) (by decide +kernel)
theorem st_n7_21 : Cond.not (Cond.eq (tmS 7) (tmS 21)) ∈ flG := List.mem_of_getElem? (i := 627) (by decide +kernel)
theorem st_n7_22 : Cond.not (Cond.eq (tmS 7) (tmS 22)) ∈ flG := List.mem_of_getElem? (i := 653) (by decide +kernel)
theorem st_n7_23 : Cond.not (Cond.eq (tmS 7) (tmS 23)) ∈ flG := List.mem_of_getElem? (i := 680) (by decide +kernel)
theorem st_n8_0 : Cond.not (Cond.eq (tmS 8) (tmS 0)) ∈ flG := List.mem_of_getElem? (i := 263) (by decide +kernel)
theorem st_n8_1 : Cond.not (Cond.eq (tmS 8) (tmS 1)) ∈ flG := List.mem_of_getElem? (i := 277) (by decide +kernel)
theorem st_n8_2 : Cond.not (Cond.eq (tmS 8) (tmS 2)) ∈ flG := List.mem_of_getElem? (i := 289) (by decide +kernel)
theorem st_n8_3 : Cond.not (Cond.eq (tmS 8) (tmS 3)) ∈ flG := List.mem_of_getElem? (i := 307) (by decide +kernel)
theorem st_n8_4 : Cond.not (Cond.eq (tmS 8) (tmS 4)) ∈ flG := List.mem_of_getElem? (i := 328) (by decide +kernel)
theorem st_n8_5 : Cond.not (Cond.eq (tmS 8) (tmS 5)) ∈ flG := List.mem_of_getElem? (i := 344) (by decide +kernel)
theorem st_n8_6 : Cond.not (Cond.eq (tmS 8) (tmS 6)) ∈ flG := List.mem_of_getElem? (i := 366) (by decide +kernel)
theorem st_n8_7 : Cond.not (Cond.eq (tmS 8) (tmS 7)) ∈ flG := List.mem_of_getElem? (i := 396) (by decide +kernel)
theorem st_n8_9 : Cond.not (Cond.eq (tmS 8) (tmS 9)) ∈ flG := List.mem_of_getElem? (i := 248) (by decide +kernel)
theorem st_n8_10 : Cond.not (Cond.eq (tmS 8) (tmS 10)) ∈ flG := List.mem_of_getElem? (i := 254) (by decide +kernel)
theorem st_n8_11 : Cond.not (Cond.eq (tmS 8) (tmS 11)) ∈ flG := List.mem_of_getElem? (i := 411) (by decide +kernel)
theorem st_n8_12 : Cond.not (Cond.eq (tmS 8) (tmS 12)) ∈ flG := List.mem_of_getElem? (i := 427) (by decide +kernel)
theorem st_n8_13 : Cond.not (Cond.eq (tmS 8) (tmS 13)) ∈ flG := List.mem_of_getElem? (i := 445) (by decide +kernel)
theorem st_n8_14 : Cond.not (Cond.eq (tmS 8) (tmS 14)) ∈ flG := List.mem_of_getElem? (i := 463) (by decide +kernel)
theorem st_n8_15 : Cond.not (Cond.eq (tmS 8) (tmS 15)) ∈ flG := List.mem_of_getElem? (i := 482) (by decide +kernel)
theorem st_n8_16 : Cond.not (Cond.eq (tmS 8) (tmS 16)) ∈ flG := List.mem_of_getElem? (i := 502) (by decide +kernel)
theorem st_n8_17 : Cond.not (Cond.eq (tmS 8) (tmS 17)) ∈ flG := List.mem_of_getElem? (i := 523) (by decide +kernel)
theorem st_n8_18 : Cond.not (Cond.eq (tmS 8) (tmS 18)) ∈ flG := List.mem_of_getElem? (i := 545) (by decide +kernel)
theorem st_n8_19 : Cond.not (Cond.eq (tmS 8) (tmS 19)) ∈ flG := List.mem_of_getElem? (i := 568) (by decide +kernel)
theorem st_n8_20 : Cond.not (Cond.eq (tmS 8) (tmS 20)) ∈ flG := List.mem_of_getElem? (i := 592) (by decide +kernel)
theorem st_n8_21 : Cond.not (Cond.eq (tmS 8) (tmS 21)) ∈ flG := List.mem_of_getElem? (i := 617) (by decide +kernel)
theorem st_n8_22 : Cond.not (Cond.eq (tmS 8) (tmS 22)) ∈ flG := List.mem_of_getElem? (i := 643) (by decide +kernel)
theorem st_n8_23 : Cond.not (Cond.eq (tmS 8) (tmS 23)) ∈ flG := List.mem_of_getElem? (i := 670) (by decide +kernel)
theorem st_n9_0 : Cond.not (Cond.eq (tmS 9) (tmS 0)) ∈ flG := List.mem_of_getElem? (i := 264) (by decide +kernel)
theorem st_n9_1 : Cond.not (Cond.eq (tmS 9) (tmS 1)) ∈ flG := List.mem_of_getElem? (i := 278) (by decide +kernel)
theorem st_n9_2 : Cond.not (Cond.eq (tmS 9) (tmS 2)) ∈ flG := List.mem_of_getElem? (i := 290) (by decide +kernel)
theorem st_n9_3 : Cond.not (Cond.eq (tmS 9) (tmS 3)) ∈ flG := List.mem_of_getElem? (i := 308) (by decide +kernel)
theorem st_n9_4 : Cond.not (Cond.eq (tmS 9) (tmS 4)) ∈ flG := List.mem_of_getElem? (i := 329) (by decide +kernel)
theorem st_n9_5 : Cond.not (Cond.eq (tmS 9) (tmS 5)) ∈ flG := List.mem_of_getElem? (i := 345) (by decide +kernel)
theorem st_n9_6 : Cond.not (Cond.eq (tmS 9) (tmS 6)) ∈ flG := List.mem_of_getElem? (i := 367) (by decide +kernel)
theorem st_n9_7 : Cond.not (Cond.eq (tmS 9) (tmS 7)) ∈ flG := List.mem_of_getElem? (i := 397) (by decide +kernel)
theorem st_n9_10 : Cond.not (Cond.eq (tmS 9) (tmS 10)) ∈ flG := List.mem_of_getElem? (i := 255) (by decide +kernel)
theorem st_n9_11 : Cond.not (Cond.eq (tmS 9) (tmS 11)) ∈ flG := List.mem_of_getElem? (i := 412) (by decide +kernel)
theorem st_n9_12 : Cond.not (Cond.eq (tmS 9) (tmS 12)) ∈ flG := List.mem_of_getElem? (i := 428) (by decide +kernel)
theorem st_n9_13 : Cond.not (Cond.eq (tmS 9) (tmS 13)) ∈ flG := List.mem_of_getElem? (i := 446) (by decide +kernel)
theorem st_n9_14 : Cond.not (Cond.eq (tmS 9) (tmS 14)) ∈ flG := List.mem_of_getElem? (i := 464) (by decide +kernel)
theorem st_n9_15 : Cond.not (Cond.eq (tmS 9) (tmS 15)) ∈ flG := List.mem_of_getElem? (i := 483) (by decide +kernel)
theorem st_n9_16 : Cond.not (Cond.eq (tmS 9) (tmS 16)) ∈ flG := List.mem_of_getElem? (i := 503) (by decide +kernel)
theorem st_n9_17 : Cond.not (Cond.eq (tmS 9) (tmS 17)) ∈ flG := List.mem_of_getElem? (i := 524) (by decide +kernel)
theorem st_n9_18 : Cond.not (Cond.eq (tmS 9) (tmS 18)) ∈ flG := List.mem_of_getElem? (i := 546) (by decide +kernel)
theorem st_n9_19 : Cond.not (Cond.eq (tmS 9) (tmS 19)) ∈ flG := List.mem_of_getElem? (i := 569) (by decide +kernel)
theorem st_n9_20 : Cond.not (Cond.eq (tmS 9) (tmS 20)) ∈ flG := List.mem_of_getElem? (i := 593) (by decide +kernel)
theorem st_n9_21 : Cond.not (Cond.eq (tmS 9) (tmS 21)) ∈ flG := List.mem_of_getElem? (i := 618) (by decide +kernel)
theorem st_n9_22 : Cond.not (Cond.eq (tmS 9) (tmS 22)) ∈ flG := List.mem_of_getElem? (i := 644) (by decide +kernel)
theorem st_n9_23 : Cond.not (Cond.eq (tmS 9) (tmS 23)) ∈ flG := List.mem_of_getElem? (i := 671) (by decide +kernel)
theorem st_n10_0 : Cond.not (Cond.eq (tmS 10) (tmS 0)) ∈ flG := List.mem_of_getElem? (i := 265) (by decide +kernel)
theorem st_n10_1 : Cond.not (Cond.eq (tmS 10) (tmS 1)) ∈ flG := List.mem_of_getElem? (i := 279) (by decide +kernel)
theorem st_n10_2 : Cond.not (Cond.eq (tmS 10) (tmS 2)) ∈ flG := List.mem_of_getElem? (i := 291) (by decide +kernel)
theorem st_n10_3 : Cond.not (Cond.eq (tmS 10) (tmS 3)) ∈ flG := List.mem_of_getElem? (i := 309) (by decide +kernel)
theorem st_n10_4 : Cond.not (Cond.eq (tmS 10) (tmS 4)) ∈ flG := List.mem_of_getElem? (i := 330) (by decide +kernel)
theorem st_n10_5 : Cond.not (Cond.eq (tmS 10) (tmS 5)) ∈ flG := List.mem_of_getElem? (i := 346) (by decide +kernel)
theorem st_n10_6 : Cond.not (Cond.eq (tmS 10) (tmS 6)) ∈ flG := List.mem_of_getElem? (i := 368) (by decide +kernel)
theorem st_n10_7 : Cond.not (Cond.eq (tmS 10) (tmS 7)) ∈ flG := List.mem_of_getElem? (i := 398) (by decide +kernel)
theorem st_n10_11 : Cond.not (Cond.eq (tmS 10) (tmS 11)) ∈ flG := List.mem_of_getElem? (i := 413) (by decide +kernel)
theorem st_n10_12 : Cond.not (Cond.eq (tmS 10) (tmS 12)) ∈ flG := List.mem_of_getElem? (i := 429) (by decide +kernel)
theorem st_n10_13 : Cond.not (Cond.eq (tmS 10) (tmS 13)) ∈ flG := List.mem_of_getElem? (i := 447) (by decide +kernel)
theorem st_n10_14 : Cond.not (Cond.eq (tmS 10) (tmS 14)) ∈ flG := List.mem_of_getElem? (i := 465) (by decide +kernel)
theorem st_n10_15 : Cond.not (Cond.eq (tmS 10) (tmS 15)) ∈ flG := List.mem_of_getElem? (i := 484) (by decide +kernel)
theorem st_n10_16 : Cond.not (Cond.eq (tmS 10) (tmS 16)) ∈ flG := List.mem_of_getElem? (i := 504) (by decide +kernel)
theorem st_n10_17 : Cond.not (Cond.eq (tmS 10) (tmS 17)) ∈ flG := List.mem_of_getElem? (i := 525) (by decide +kernel)
theorem st_n10_18 : Cond.not (Cond.eq (tmS 10) (tmS 18)) ∈ flG := List.mem_of_getElem? (i := 547) (by decide +kernel)
theorem st_n10_19 : Cond.not (Cond.eq (tmS 10) (tmS 19)) ∈ flG := List.mem_of_getElem? (i := 570) (by decide +kernel)
theorem st_n10_20 : Cond.not (Cond.eq (tmS 10) (tmS 20)) ∈ flG := List.mem_of_getElem? (i := 594) (by decide +kernel)
theorem st_n10_21 : Cond.not (Cond.eq (tmS 10) (tmS 21)) ∈ flG := List.mem_of_getElem? (i := 619) (by decide +kernel)
theorem st_n10_22 : Cond.not (Cond.eq (tmS 10) (tmS 22)) ∈ flG := List.mem_of_getElem? (i := 645) (by decide +kernel)
theorem st_n10_23 : Cond.not (Cond.eq (tmS 10) (tmS 23)) ∈ flG := List.mem_of_getElem? (i := 672) (by decide +kernel)
theorem st_n11_12 : Cond.not (Cond.eq (tmS 11) (tmS 12)) ∈ flG := List.mem_of_getElem? (i := 438) (by decide +kernel)
theorem st_n11_13 : Cond.not (Cond.eq (tmS 11) (tmS 13)) ∈ flG := List.mem_of_getElem? (i := 456) (by decide +kernel)
theorem st_n11_14 : Cond.not (Cond.eq (tmS 11) (tmS 14)) ∈ flG := List.mem_of_getElem? (i := 474) (by decide +kernel)
theorem st_n11_15 : Cond.not (Cond.eq (tmS 11) (tmS 15)) ∈ flG := List.mem_of_getElem? (i := 493) (by decide +kernel)
theorem st_n11_16 : Cond.not (Cond.eq (tmS 11) (tmS 16)) ∈ flG := List.mem_of_getElem? (i := 513) (by decide +kernel)
theorem st_n11_17 : Cond.not (Cond.eq (tmS 11) (tmS 17)) ∈ flG := List.mem_of_getElem? (i := 534) (by decide +kernel)
theorem st_n11_18 : Cond.not (Cond.eq (tmS 11) (tmS 18)) ∈ flG := List.mem_of_getElem? (i := 556) (by decide +kernel)
theorem st_n11_19 : Cond.not (Cond.eq (tmS 11) (tmS 19)) ∈ flG := List.mem_of_getElem? (i := 579) (by decide +kernel)
theorem st_n11_20 : Cond.not (Cond.eq (tmS 11) (tmS 20)) ∈ flG := List.mem_of_getElem? (i := 603) (by decide +kernel)
theorem st_n11_21 : Cond.not (Cond.eq (tmS 11) (tmS 21)) ∈ flG := List.mem_of_getElem? (i := 628) (by decide +kernel)
theorem st_n11_22 : Cond.not (Cond.eq (tmS 11) (tmS 22)) ∈ flG := List.mem_of_getElem? (i := 654) (by decide +kernel)
theorem st_n11_23 : Cond.not (Cond.eq (tmS 11) (tmS 23)) ∈ flG := List.mem_of_getElem? (i := 681) (by decide +kernel)
theorem st_n12_13 : Cond.not (Cond.eq (tmS 12) (tmS 13)) ∈ flG := List.mem_of_getElem? (i := 457) (by decide +kernel)
theorem st_n12_14 : Cond.not (Cond.eq (tmS 12) (tmS 14)) ∈ flG := List.mem_of_getElem? (i := 475) (by decide +kernel)
theorem st_n12_15 : Cond.not (Cond.eq (tmS 12) (tmS 15)) ∈ flG := List.mem_of_getElem? (i := 494) (by decide +kernel)
theorem st_n12_16 : Cond.not (Cond.eq (tmS 12) (tmS 16)) ∈ flG := List.mem_of_getElem? (i := 514) (by decide +kernel)
theorem st_n12_17 : Cond.not (Cond.eq (tmS 12) (tmS 17)) ∈ flG := List.mem_of_getElem? (i := 535) (by decide +kernel)
theorem st_n12_18 : Cond.not (Cond.eq (tmS 12) (tmS 18)) ∈ flG := List.mem_of_getElem? (i := 557) (by decide +kernel)
theorem st_n12_19 : Cond.not (Cond.eq (tmS 12) (tmS 19)) ∈ flG := List.mem_of_getElem? (i := 580) (by decide +kernel)
theorem st_n12_20 : Cond.not (Cond.eq (tmS 12) (tmS 20)) ∈ flG := List.mem_of_getElem? (i := 604) (by decide +kernel)
theorem st_n12_21 : Cond.not (Cond.eq (tmS 12) (tmS 21)) ∈ flG := List.mem_of_getElem? (i := 629) (by decide +kernel)
theorem st_n12_22 : Cond.not (Cond.eq (tmS 12) (tmS 22)) ∈ flG := List.mem_of_getElem? (i := 655) (by decide +kernel)
theorem st_n12_23 : Cond.not (Cond.eq (tmS 12) (tmS 23)) ∈ flG := List.mem_of_getElem? (i := 682) (by decide +kernel)
theorem st_n13_14 : Cond.not (Cond.eq (tmS 13) (tmS 14)) ∈ flG := List.mem_of_getElem? (i := 476) (by decide +kernel)
theorem st_n13_15 : Cond.not (Cond.eq (tmS 13) (tmS 15)) ∈ flG := List.mem_of_getElem? (i := 495) (by decide +kernel)
theorem st_n13_16 : Cond.not (Cond.eq (tmS 13) (tmS 16)) ∈ flG := List.mem_of_getElem? (i := 515) (by decide +kernel)
theorem st_n13_17 : Cond.not (Cond.eq (tmS 13) (tmS 17)) ∈ flG := List.mem_of_getElem? (i := 536) (by decide +kernel)
theorem st_n13_18 : Cond.not (Cond.eq (tmS 13) (tmS 18)) ∈ flG := List.mem_of_getElem? (i := 558) (by decide +kernel)
theorem st_n13_19 : Cond.not (Cond.eq (tmS 13) (tmS 19)) ∈ flG := List.mem_of_getElem? (i := 581) (by decide +kernel)
theorem st_n13_20 : Cond.not (Cond.eq (tmS 13) (tmS 20)) ∈ flG := List.mem_of_getElem? (i := 605) (by decide +kernel)
theorem st_n13_21 : Cond.not (Cond.eq (tmS 13) (tmS 21)) ∈ flG := List.mem_of_getElem? (i := 630) (by decide +kernel)
theorem st_n13_22 : Cond.not (Cond.eq (tmS 13) (tmS 22)) ∈ flG := List.mem_of_getElem? (i := 656) (by decide +kernel)
theorem st_n13_23 : Cond.not (Cond.eq (tmS 13) (tmS 23)) ∈ flG := List.mem_of_getElem? (i := 683) (by decide +kernel)
theorem st_n14_15 : Cond.not (Cond.eq (tmS 14) (tmS 15)) ∈ flG := List.mem_of_getElem? (i := 496) (by decide +kernel)
theorem st_n14_16 : Cond.not (Cond.eq (tmS 14) (tmS 16)) ∈ flG := List.mem_of_getElem? (i := 516) (by decide +kernel)
theorem st_n14_17 : Cond.not (Cond.eq (tmS 14) (tmS 17)) ∈ flG := List.mem_of_getElem? (i := 537) (by decide +kernel)
theorem st_n14_18 : Cond.not (Cond.eq (tmS 14) (tmS 18)) ∈ flG := List.mem_of_getElem? (i := 559) (by decide +kernel)
theorem st_n14_19 : Cond.not (Cond.eq (tmS 14) (tmS 19)) ∈ flG := List.mem_of_getElem? (i := 582) (by decide +kernel)
theorem st_n14_20 : Cond.not (Cond.eq (tmS 14) (tmS 20)) ∈ flG := List.mem_of_getElem? (i := 606) (by decide +kernel)
theorem st_n14_21 : Cond.not (Cond.eq (tmS 14) (tmS 21)) ∈ flG := List.mem_of_getElem? (i := 631) (by decide +kernel)
theorem st_n14_22 : Cond.not (Cond.eq (tmS 14) (tmS 22)) ∈ flG := List.mem_of_getElem? (i := 657) (by decide +kernel)
theorem st_n14_23 : Cond.not (Cond.eq (tmS 14) (tmS 23)) ∈ flG := List.mem_of_getElem? (i := 684) (by decide +kernel)
theorem st_n15_16 : Cond.not (Cond.eq (tmS 15) (tmS 16)) ∈ flG := List.mem_of_getElem? (i := 517) (by decide +kernel)
theorem st_n15_17 : Cond.not (Cond.eq (tmS 15) (tmS 17)) ∈ flG := List.mem_of_getElem? (i := 538) (by decide +kernel)
theorem st_n15_18 : Cond.not (Cond.eq (tmS 15) (tmS 18)) ∈ flG := List.mem_of_getElem? (i := 560) (by decide +kernel)
theorem st_n15_19 : Cond.not (Cond.eq (tmS 15) (tmS 19)) ∈ flG := List.mem_of_getElem? (i := 583) (by decide +kernel)
theorem st_n15_20 : Cond.not (Cond.eq (tmS 15) (tmS 20)) ∈ flG := List.mem_of_getElem? (i := 607) (by decide +kernel)
theorem st_n15_21 : Cond.not (Cond.eq (tmS 15) (tmS 21)) ∈ flG := List.mem_of_getElem? (i := 632) (by decide +kernel)
theorem st_n15_22 : Cond.not (Cond.eq (tmS 15) (tmS 22)) ∈ flG := List.mem_of_getElem? (i := 658) (by decide +kernel)
theorem st_n15_23 : Cond.not (Cond.eq (tmS 15) (tmS 23)) ∈ flG := List.mem_of_getElem? (i := 685) (by decide +kernel)
theorem st_n16_17 : Cond.not (Cond.eq (tmS 16) (tmS 17)) ∈ flG := List.mem_of_getElem? (i := 539) (by decide +kernel)
theorem st_n16_18 : Cond.not (Cond.eq (tmS 16) (tmS 18)) ∈ flG := List.mem_of_getElem? (i := 561) (by decide +kernel)
theorem st_n16_19 : Cond.not (Cond.eq (tmS 16) (tmS 19)) ∈ flG := List.mem_of_getElem? (i := 584) (by decide +kernel)
theorem st_n16_20 : Cond.not (Cond.eq (tmS 16) (tmS 20)) ∈ flG := List.mem_of_getElem? (i := 608) (by decide +kernel)
theorem st_n16_21 : Cond.not (Cond.eq (tmS 16) (tmS 21)) ∈ flG := List.mem_of_getElem? (i := 633) (by decide +kernel)
theorem st_n16_22 : Cond.not (Cond.eq (tmS 16) (tmS 22)) ∈ flG := List.mem_of_getElem? (i := 659) (by decide +kernel)
theorem st_n16_23 : Cond.not (Cond.eq (tmS 16) (tmS 23)) ∈ flG := List.mem_of_getElem? (i := 686) (by decide +kernel)
theorem st_n17_18 : Cond.not (Cond.eq (tmS 17) (tmS 18)) ∈ flG := List.mem_of_getElem? (i := 562) (by decide +kernel)
theorem st_n17_19 : Cond.not (Cond.eq (tmS 17) (tmS 19)) ∈ flG := List.mem_of_getElem? (i := 585) (by decide +kernel)
theorem st_n17_20 : Cond.not (Cond.eq (tmS 17) (tmS 20)) ∈ flG := List.mem_of_getElem? (i := 609) (by decide +kernel)
theorem st_n17_21 : Cond.not (Cond.eq (tmS 17) (tmS 21)) ∈ flG := List.mem_of_getElem? (i := 634) (by decide +kernel)
theorem st_n17_22 : Cond.not (Cond.eq (tmS 17) (tmS 22)) ∈ flG := List.mem_of_getElem? (i := 660) (by decide +kernel)
theorem st_n17_23 : Cond.not (Cond.eq (tmS 17) (tmS 23)) ∈ flG := List.mem_of_getElem? (i := 687) (by decide +kernel)
theorem st_n18_19 : Cond.not (Cond.eq (tmS 18) (tmS 19)) ∈ flG := List.mem_of_getElem? (i := 586) (by decide +kernel)
theorem st_n18_20 : Cond.not (Cond.eq (tmS 18) (tmS 20)) ∈ flG := List.mem_of_getElem? (i := 610) (by decide +kernel)
theorem st_n18_21 : Cond.not (Cond.eq (tmS 18) (tmS 21)) ∈ flG := List.mem_of_getElem? (i := 635) (by decide +kernel)
theorem st_n18_22 : Cond.not (Cond.eq (tmS 18) (tmS 22)) ∈ flG := List.mem_of_getElem? (i := 661) (by decide +kernel)
theorem st_n18_23 : Cond.not (Cond.eq (tmS 18) (tmS 23)) ∈ flG := List.mem_of_getElem? (i := 688) (by decide +kernel)
theorem st_n19_20 : Cond.not (Cond.eq (tmS 19) (tmS 20)) ∈ flG := List.mem_of_getElem? (i := 611) (by decide +kernel)
theorem st_n19_21 : Cond.not (Cond.eq (tmS 19) (tmS 21)) ∈ flG := List.mem_of_getElem? (i := 636) (by decide +kernel)
theorem st_n19_22 : Cond.not (Cond.eq (tmS 19) (tmS 22)) ∈ flG := List.mem_of_getElem? (i := 662) (by decide +kernel)
theorem st_n19_23 : Cond.not (Cond.eq (tmS 19) (tmS 23)) ∈ flG := List.mem_of_getElem? (i := 689) (by decide +kernel)
theorem st_n20_21 : Cond.not (Cond.eq (tmS 20) (tmS 21)) ∈ flG := List.mem_of_getElem? (i := 637) (by decide +kernel)
theorem st_n20_22 : Cond.not (Cond.eq (tmS 20) (tmS 22)) ∈ flG := List.mem_of_getElem? (i := 663) (by decide +kernel)
theorem st_n20_23 : Cond.not (Cond.eq (tmS 20) (tmS 23)) ∈ flG := List.mem_of_getElem? (i := 690) (by decide +kernel)
theorem st_n21_22 : Cond.not (Cond.eq (tmS 21) (tmS 22)) ∈ flG := List.mem_of_getElem? (i := 664) (by decide +kernel)
theorem st_n21_23 : Cond.not (Cond.eq (tmS 21) (tmS 23)) ∈ flG := List.mem_of_getElem? (i := 691) (by decide +kernel)
theorem st_n22_23 : Cond.not (Cond.eq (tmS 22) (tmS 23)) ∈ flG := List.mem_of_getElem? (i := 692) (by decide +kernel)
theorem st_ne0 : ∀ j, j < 24 → 0 ≠ j → Cond.not (Cond.eq (tmS 0) (tmS j)) ∈ flG ∨ Cond.not (Cond.eq (tmS j) (tmS 0)) ∈ flG := fun j hj hn => by
  rcases (show j = 0 ∨ j = 1 ∨ j = 2 ∨ j = 3 ∨ j = 4 ∨ j = 5 ∨ j = 6 ∨ j = 7 ∨ j = 8 ∨ j = 9 ∨ j = 10 ∨ j = 11 ∨ j = 12 ∨ j = 13 ∨ j = 14 ∨ j = 15 ∨ j = 16 ∨ j = 17 ∨ j = 18 ∨ j = 19 ∨ j = 20 ∨ j = 21 ∨ j = 22 ∨ j = 23 by omega) with rfl | rfl | rfl | rfl | rfl | rfl | rfl | rfl | rfl | rfl | rfl | rfl | rfl | rfl | rfl | rfl | rfl | rfl | rfl | rfl | rfl | rfl | rfl | rfl
  · exact absurd rfl hn
  · exact Or.inl st_n0_1
  · exact Or.inl st_n0_2
  · exact Or.inl st_n0_3
  · exact Or.inl st_n0_4
  · exact Or.inl st_n0_5
  · exact Or.inl st_n0_6
  · exact Or.inl st_n0_7
  · exact Or.inr st_n8_0
  · exact Or.inr st_n9_0
  · exact Or.inr st_n10_0
  · exact Or.inl st_n0_11
  · exact Or.inl st_n0_12
  · exact Or.inl st_n0_13
  · exact Or.inl st_n0_14
  · exact Or.inl st_n0_15
  · exact Or.inl st_n0_16
  · exact Or.inl st_n0_17
  · exact Or.inl st_n0_18
  · exact Or.inl st_n0_19
  · exact Or.inl st_n0_20
  · exact Or.inl st_n0_21
  · exact Or.inl st_n0_22
  · exact Or.inl st_n0_23
theorem st_ne1 : ∀ j, j < 24 → 1 ≠ j → Cond.not (Cond.eq (tmS 1) (tmS j)) ∈ flG ∨ Cond.not (Cond.eq (tmS j) (tmS 1)) ∈ flG := fun j hj hn => by
  rcases (show j = 0 ∨ j = 1 ∨ j = 2 ∨ j = 3 ∨ j = 4 ∨ j = 5 ∨ j = 6 ∨ j = 7 ∨ j = 8 ∨ j = 9 ∨ j = 10 ∨ j = 11 ∨ j = 12 ∨ j = 13 ∨ j = 14 ∨ j = 15 ∨ j = 16 ∨ j = 17 ∨ j = 18 ∨ j = 19 ∨ j = 20 ∨ j = 21 ∨ j = 22 ∨ j = 23 by omega) with rfl | rfl | rfl | rfl | rfl | rfl | rfl | rfl | rfl | rfl | rfl | rfl | rfl | rfl | rfl | rfl | rfl | rfl | rfl | rfl | rfl | rfl | rfl | rfl
  · exact Or.inr st_n0_1
  · exact absurd rfl hn
  · exact Or.inl st_n1_2
  · exact Or.inl st_n1_3
  · exact Or.inl st_n1_4
  · exact Or.inl st_n1_5
  · exact Or.inl st_n1_6
  · exact Or.inl st_n1_7
  · exact Or.inr st_n8_1
  · exact Or.inr st_n9_1
  · exact Or.inr st_n10_1
  · exact Or.inl st_n1_11
  · exact Or.inl st_n1_12
  · exact Or.inl st_n1_13
  · exact Or.inl st_n1_14
  · exact Or.inl st_n1_15
  · exact Or.inl st_n1_16
  · exact Or.inl st_n1_17
  · exact Or.inl st_n1_18
  · exact Or.inl st_n1_19
  · exact Or.inl st_n1_20
  · exact Or.inl st_n1_21
  · exact Or.inl st_n1_22
  · exact Or.inl st_n1_23
theorem st_ne2 : ∀ j, j < 24 → 2 ≠ j → Cond.not (Cond.eq (tmS 2) (tmS j)) ∈ flG ∨ Cond.not (Cond.eq (tmS j) (tmS 2)) ∈ flG := fun j hj hn => by
  rcases (show j = 0 ∨ j = 1 ∨ j = 2 ∨ j = 3 ∨ j = 4 ∨ j = 5 ∨ j = 6 ∨ j = 7 ∨ j = 8 ∨ j = 9 ∨ j = 10 ∨ j = 11 ∨ j = 12 ∨ j = 13 ∨ j = 14 ∨ j = 15 ∨ j = 16 ∨ j = 17 ∨ j = 18 ∨ j = 19 ∨ j = 20 ∨ j = 21 ∨ j = 22 ∨ j = 23 by omega) with rfl | rfl | rfl | rfl | rfl | rfl | rfl | rfl | rfl | rfl | rfl | rfl | rfl | rfl | rfl | rfl | rfl | rfl | rfl | rfl | rfl | rfl | rfl | rfl
  · exact Or.inr st_n0_2
  · exact Or.inr st_n1_2
  · exact absurd rfl hn
  · exact Or.inl st_n2_3
  · exact Or.inl st_n2_4
  · exact Or.inl st_n2_5
  · exact Or.inl st_n2_6
  · exact Or.inl st_n2_7
  · exact Or.inr st_n8_2
  · exact Or.inr st_n9_2
  · exact Or.inr st_n10_2
  · exact Or.inl st_n2_11
  · exact Or.inl st_n2_12
  · exact Or.inl st_n2_13
  · exact Or.inl st_n2_14
  · exact Or.inl st_n2_15
  · exact Or.inl st_n2_16
  · exact Or.inl st_n2_17
  · exact Or.inl st_n2_18
  · exact Or.inl st_n2_19
  · exact Or.inl st_n2_20
  · exact Or.inl st_n2_21
  · exact Or.inl st_n2_22
  · exact Or.inl st_n2_23
theorem st_ne3 : ∀ j, j < 24 → 3 ≠ j → Cond.not (Cond.eq (tmS 3) (tmS j)) ∈ flG ∨ Cond.not (Cond.eq (tmS j) (tmS 3)) ∈ flG := fun j hj hn => by
  rcases (show j = 0 ∨ j = 1 ∨ j = 2 ∨ j = 3 ∨ j = 4 ∨ j = 5 ∨ j = 6 ∨ j = 7 ∨ j = 8 ∨ j = 9 ∨ j = 10 ∨ j = 11 ∨ j = 12 ∨ j = 13 ∨ j = 14 ∨ j = 15 ∨ j = 16 ∨ j = 17 ∨ j = 18 ∨ j = 19 ∨ j = 20 ∨ j = 21 ∨ j = 22 ∨ j = 23 by omega) with rfl | rfl | rfl | rfl | rfl | rfl | rfl | rfl | rfl | rfl | rfl | rfl | rfl | rfl | rfl | rfl | rfl | rfl | rfl | rfl | rfl | rfl | rfl | rfl
  · exact Or.inr st_n0_3
  · exact Or.inr st_n1_3
  · exact Or.inr st_n2_3
  · exact absurd rfl hn
  · exact Or.inl st_n3_4
  · exact Or.inl st_n3_5
  · exact Or.inl st_n3_6
  · exact Or.inl st_n3_7
  · exact Or.inr st_n8_3
  · exact Or.inr st_n9_3
  · exact Or.inr st_n10_3
  · exact Or.inl st_n3_11
  · exact Or.inl st_n3_12
  · exact Or.inl st_n3_13
  · exact Or.inl st_n3_14
  · exact Or.inl st_n3_15
  · exact Or.inl st_n3_16
  · exact Or.inl st_n3_17
  · exact Or.inl st_n3_18
  · exact Or.inl st_n3_19
  · exact Or.inl st_n3_20
  · exact Or.inl st_n3_21
  · exact Or.inl st_n3_22
  · exact Or.inl st_n3_23
theorem st_ne4 : ∀ j, j < 24 → 4 ≠ j → Cond.not (Cond.eq (tmS 4) (tmS j)) ∈ flG ∨ Cond.not (Cond.eq (tmS j) (tmS 4)) ∈ flG := fun j hj hn => by
  rcases (show j = 0 ∨ j = 1 ∨ j = 2 ∨ j = 3 ∨ j = 4 ∨ j = 5 ∨ j = 6 ∨ j = 7 ∨ j = 8 ∨ j = 9 ∨ j = 10 ∨ j = 11 ∨ j = 12 ∨ j = 13 ∨ j = 14 ∨ j = 15 ∨ j = 16 ∨ j = 17 ∨ j = 18 ∨ j = 19 ∨ j = 20 ∨ j = 21 ∨ j = 22 ∨ j = 23 by omega) with rfl | rfl | rfl | rfl | rfl | rfl | rfl | rfl | rfl | rfl | rfl | rfl | rfl | rfl | rfl | rfl | rfl | rfl | rfl | rfl | rfl | rfl | rfl | rfl
  · exact Or.inr st_n0_4
  · exact Or.inr st_n1_4
  · exact Or.inr st_n2_4
  · exact Or.inr st_n3_4
  · exact absurd rfl hn
  · exact Or.inl st_n4_5
  · exact Or.inl st_n4_6
  · exact Or.inl st_n4_7
  · exact Or.inr st_n8_4
  · exact Or.inr st_n9_4
  · exact Or.inr st_n10_4
  · exact Or.inl st_n4_11
  · exact Or.inl st_n4_12
  · exact Or.inl st_n4_13
  · exact Or.inl st_n4_14
  · exact Or.inl st_n4_15
  · exact Or.inl st_n4_16
  · exact Or.inl st_n4_17
  · exact Or.inl st_n4_18
  · exact Or.inl st_n4_19
  · exact Or.inl st_n4_20
  · exact Or.inl st_n4_21
  · exact Or.inl st_n4_22
  · exact Or.inl st_n4_23
theorem st_ne5 : ∀ j, j < 24 → 5 ≠ j → Cond.not (Cond.eq (tmS 5) (tmS j)) ∈ flG ∨ Cond.not (Cond.eq (tmS j) (tmS 5)) ∈ flG := fun j hj hn => by
  rcases (show j = 0 ∨ j = 1 ∨ j = 2 ∨ j = 3 ∨ j = 4 ∨ j = 5 ∨ j = 6 ∨ j = 7 ∨ j = 8 ∨ j = 9 ∨ j = 10 ∨ j = 11 ∨ j = 12 ∨ j = 13 ∨ j = 14 ∨ j = 15 ∨ j = 16 ∨ j = 17 ∨ j = 18 ∨ j = 19 ∨ j = 20 ∨ j = 21 ∨ j = 22 ∨ j = 23 by omega) with rfl | rfl | rfl | rfl | rfl | rfl | rfl | rfl | rfl | rfl | rfl | rfl | rfl | rfl | rfl | rfl | rfl | rfl | rfl | rfl | rfl | rfl | rfl | rfl
  · exact Or.inr st_n0_5
  · exact Or.inr st_n1_5
  · exact Or.inr st_n2_5
  · exact Or.inr st_n3_5
  · exact Or.inr st_n4_5
  · exact absurd rfl hn
  · exact Or.inl st_n5_6
  · exact Or.inl st_n5_7
  · exact Or.inr st_n8_5
  · exact Or.inr st_n9_5
  · exact Or.inr st_n10_5
  · exact Or.inl st_n5_11
  · exact Or.inl st_n5_12
  · exact Or.inl st_n5_13
  · exact Or.inl st_n5_14
  · exact Or.inl st_n5_15
  · exact Or.inl st_n5_16
  · exact Or.inl st_n5_17
  · exact Or.inl st_n5_18
  · exact Or.inl st_n5_19
  · exact Or.inl st_n5_20
  · exact Or.inl st_n5_21
  · exact Or.inl st_n5_22
  · exact Or.inl st_n5_23
theorem st_ne6 : ∀ j, j < 24 → 6 ≠ j → Cond.not (Cond.eq (tmS 6) (tmS j)) ∈ flG ∨ Cond.not (Cond.eq (tmS j) (tmS 6)) ∈ flG := fun j hj hn => by
  rcases (show j = 0 ∨ j = 1 ∨ j = 2 ∨ j = 3 ∨ j = 4 ∨ j = 5 ∨ j = 6 ∨ j = 7 ∨ j = 8 ∨ j = 9 ∨ j = 10 ∨ j = 11 ∨ j = 12 ∨ j = 13 ∨ j = 14 ∨ j = 15 ∨ j = 16 ∨ j = 17 ∨ j = 18 ∨ j = 19 ∨ j = 20 ∨ j = 21 ∨ j = 22 ∨ j = 23 by omega) with rfl | rfl | rfl | rfl | rfl | rfl | rfl | rfl | rfl | rfl | rfl | rfl | rfl | rfl | rfl | rfl | rfl | rfl | rfl | rfl | rfl | rfl | rfl | rfl
  · exact Or.inr st_n0_6
  · exact Or.inr st_n1_6
  · exact Or.inr st_n2_6
  · exact Or.inr st_n3_6
  · exact Or.inr st_n4_6
  · exact Or.inr st_n5_6
  · exact absurd rfl hn
  · exact Or.inl st_n6_7
  · exact Or.inr st_n8_6
  · exact Or.inr st_n9_6
  · exact Or.inr st_n10_6
  · exact Or.inl st_n6_11
  · exact Or.inl st_n6_12
  · exact Or.inl st_n6_13
  · exact Or.inl st_n6_14
  · exact Or.inl st_n6_15
  · exact Or.inl st_n6_16
  · exact Or.inl st_n6_17
  · exact Or.inl st_n6_18
  · exact Or.inl st_n6_19
  · exact Or.inl st_n6_20
  · exact Or.inl st_n6_21
  · exact Or.inl st_n6_22
  · exact Or.inl st_n6_23
theorem st_ne7 : ∀ j, j < 24 → 7 ≠ j → Cond.not (Cond.eq (tmS 7) (tmS j)) ∈ flG ∨ Cond.not (Cond.eq (tmS j) (tmS 7)) ∈ flG := fun j hj hn => by
  rcases (show j = 0 ∨ j = 1 ∨ j = 2 ∨ j = 3 ∨ j = 4 ∨ j = 5 ∨ j = 6 ∨ j = 7 ∨ j = 8 ∨ j = 9 ∨ j = 10 ∨ j = 11 ∨ j = 12 ∨ j = 13 ∨ j = 14 ∨ j = 15 ∨ j = 16 ∨ j = 17 ∨ j = 18 ∨ j = 19 ∨ j = 20 ∨ j = 21 ∨ j = 22 ∨ j = 23 by omega) with rfl | rfl | rfl | rfl | rfl | rfl | rfl | rfl | rfl | rfl | rfl | rfl | rfl | rfl | rfl | rfl | rfl | rfl | rfl | rfl | rfl | rfl | rfl | rfl
  · exact Or.inr st_n0_7
  · exact Or.inr st_n1_7
  · exact Or.inr st_n2_7
  · exact Or.inr st_n3_7
  · exact Or.inr st_n4_7
  · exact Or.inr st_n5_7
  · exact Or.inr st_n6_7
  · exact absurd rfl hn
  · exact Or.inr st_n8_7
  · exact Or.inr st_n9_7
  · exact Or.inr st_n10_7
  · exact Or.inl st_n7_11
  · exact Or.inl st_n7_12
  · exact Or.inl st_n7_13
  · exact Or.inl st_n7_14
  · exact Or.inl st_n7_15
  · exact Or.inl st_n7_16
  · exact Or.inl st_n7_17
  · exact Or.inl st_n7_18
  · exact Or.inl st_n7_19
  · exact Or.inl st_n7_20
  · exact Or.inl st_n7_21
  · exact Or.inl st_n7_22
  · exact Or.inl st_n7_23
theorem st_ne8 : ∀ j, j < 24 → 8 ≠ j → Cond.not (Cond.eq (tmS 8) (tmS j)) ∈ flG ∨ Cond.not (Cond.eq (tmS j) (tmS 8)) ∈ flG := fun j hj hn => by
  rcases (show j = 0 ∨ j = 1 ∨ j = 2 ∨ j = 3 ∨ j = 4 ∨ j = 5 ∨ j = 6 ∨ j = 7 ∨ j = 8 ∨ j = 9 ∨ j = 10 ∨ j = 11 ∨ j = 12 ∨ j = 13 ∨ j = 14 ∨ j = 15 ∨ j = 16 ∨ j = 17 ∨ j = 18 ∨ j = 19 ∨ j = 20 ∨ j = 21 ∨ j = 22 ∨ j = 23 by omega) with rfl | rfl | rfl | rfl | rfl | rfl | rfl | rfl | rfl | rfl | rfl | rfl | rfl | rfl | rfl | rfl | rfl | rfl | rfl | rfl | rfl | rfl | rfl | rfl
  · exact Or.inl st_n8_0
  · exact Or.inl st_n8_1
  · exact Or.inl st_n8_2
  · exact Or.inl st_n8_3
  · exact Or.inl st_n8_4
  · exact Or.inl st_n8_5
  · exact Or.inl st_n8_6
  · exact Or.inl st_n8_7
  · exact absurd rfl hn
  · exact Or.inl st_n8_9
  · exact Or.inl st_n8_10
  · exact Or.inl st_n8_11
  · exact Or.inl st_n8_12
  · exact Or.inl st_n8_13
  · exact Or.inl st_n8_14
  · exact Or.inl st_n8_15
  · exact Or.inl st_n8_16
  · exact Or.inl st_n8_17
  · exact Or.inl st_n8_18
  · exact Or.inl st_n8_19
  · exact Or.inl st_n8_20
  · exact Or.inl st_n8_21
  · exact Or.inl st_n8_22
  · exact Or.inl st_n8_23
theorem st_ne9 : ∀ j, j < 24 → 9 ≠ j → Cond.not (Cond.eq (tmS 9) (tmS j)) ∈ flG ∨ Cond.not (Cond.eq (tmS j) (tmS 9)) ∈ flG := fun j hj hn => by
  rcases (show j = 0 ∨ j = 1 ∨ j = 2 ∨ j = 3 ∨ j = 4 ∨ j = 5 ∨ j = 6 ∨ j = 7 ∨ j = 8 ∨ j = 9 ∨ j = 10 ∨ j = 11 ∨ j = 12 ∨ j = 13 ∨ j = 14 ∨ j = 15 ∨ j = 16 ∨ j = 17 ∨ j = 18 ∨ j = 19 ∨ j = 20 ∨ j = 21 ∨ j = 22 ∨ j = 23 by omega) with rfl | rfl | rfl | rfl | rfl | rfl | rfl | rfl | rfl | rfl | rfl | rfl | rfl | rfl | rfl | rfl | rfl | rfl | rfl | rfl | rfl | rfl | rfl | rfl
  · exact Or.inl st_n9_0
  · exact Or.inl st_n9_1
  · exact Or.inl st_n9_2
  · exact Or.inl st_n9_3
  · exact Or.inl st_n9_4
  · exact Or.inl st_n9_5
  · exact Or.inl st_n9_6
  · exact Or.inl st_n9_7
  · exact Or.inr st_n8_9
  · exact absurd rfl hn
  · exact Or.inl st_n9_10
  · exact Or.inl st_n9_11
  · exact Or.inl st_n9_12
  · exact Or.inl st_n9_13
  · exact Or.inl st_n9_14
  · exact Or.inl st_n9_15
  · exact Or.inl st_n9_16
  · exact Or.inl st_n9_17
  · exact Or.inl st_n9_18
  · exact Or.inl st_n9_19
  · exact Or.inl st_n9_20
  · exact Or.inl st_n9_21
  · exact Or.inl st_n9_22
  · exact Or.inl st_n9_23
theorem st_ne10 : ∀ j, j < 24 → 10 ≠ j → Cond.not (Cond.eq (tmS 10) (tmS j)) ∈ flG ∨ Cond.not (Cond.eq (tmS j) (tmS 10)) ∈ flG := fun j hj hn => by
  rcases (show j = 0 ∨ j = 1 ∨ j = 2 ∨ j = 3 ∨ j = 4 ∨ j = 5 ∨ j = 6 ∨ j = 7 ∨ j = 8 ∨ j = 9 ∨ j = 10 ∨ j = 11 ∨ j = 12 ∨ j = 13 ∨ j = 14 ∨ j = 15 ∨ j = 16 ∨ j = 17 ∨ j = 18 ∨ j = 19 ∨ j = 20 ∨ j = 21 ∨ j = 22 ∨ j = 23 by omega) with rfl | rfl | rfl | rfl | rfl | rfl | rfl | rfl | rfl | rfl | rfl | rfl | rfl | rfl | rfl | rfl | rfl | rfl | rfl | rfl | rfl | rfl | rfl | rfl
  · exact Or.inl st_n10_0
  · exact Or.inl st_n10_1
  · exact Or.inl st_n10_2
  · exact Or.inl st_n10_3
  · exact Or.inl st_n10_4
  · exact Or.inl st_n10_5
  · exact Or.inl st_n10_6
  · exact Or.inl st_n10_7
  · exact Or.inr st_n8_10
  · exact Or.inr st_n9_10
  · exact absurd rfl hn
  · exact Or.inl st_n10_11
  · exact Or.inl st_n10_12
  · exact Or.inl st_n10_13
  · exact Or.inl st_n10_14
  · exact Or.inl st_n10_15
  · exact Or.inl st_n10_16
  · exact Or.inl st_n10_17
  · exact Or.inl st_n10_18
  · exact Or.inl st_n10_19
  · exact Or.inl st_n10_20
  · exact Or.inl st_n10_21
  · exact Or.inl st_n10_22
  · exact Or.inl st_n10_23
theorem st_ne11 : ∀ j, j < 24 → 11 ≠ j → Cond.not (Cond.eq (tmS 11) (tmS j)) ∈ flG ∨ Cond.not (Cond.eq (tmS j) (tmS 11)) ∈ flG := fun j hj hn => by
  rcases (show j = 0 ∨ j = 1 ∨ j = 2 ∨ j = 3 ∨ j = 4 ∨ j = 5 ∨ j = 6 ∨ j = 7 ∨ j = 8 ∨ j = 9 ∨ j = 10 ∨ j = 11 ∨ j = 12 ∨ j = 13 ∨ j = 14 ∨ j = 15 ∨ j = 16 ∨ j = 17 ∨ j = 18 ∨ j = 19 ∨ j = 20 ∨ j = 21 ∨ j = 22 ∨ j = 23 by omega) with rfl | rfl | rfl | rfl | rfl | rfl | rfl | rfl | rfl | rfl | rfl | rfl | rfl | rfl | rfl | rfl | rfl | rfl | rfl | rfl | rfl | rfl | rfl | rfl
  · exact Or.inr st_n0_11
  · exact Or.inr st_n1_11
  · exact Or.inr st_n2_11
  · exact Or.inr st_n3_11
  · exact Or.inr st_n4_11
  · exact Or.inr st_n5_11
  · exact Or.inr st_n6_11
  · exact Or.inr st_n7_11
  · exact Or.inr st_n8_11
  · exact Or.inr st_n9_11
  · exact Or.inr st_n10_11
  · exact absurd rfl hn
  · exact Or.inl st_n11_12
  · exact Or.inl st_n11_13
  · exact Or.inl st_n11_14
  · exact Or.inl st_n11_15
  · exact Or.inl st_n11_16
  · exact Or.inl st_n11_17
  · exact Or.inl st_n11_18
  · exact Or.inl st_n11_19
  · exact Or.inl st_n11_20
  · exact Or.inl st_n11_21
  · exact Or.inl st_n11_22
  · exact Or.inl st_n11_23
theorem st_ne12 : ∀ j, j < 24 → 12 ≠ j → Cond.not (Cond.eq (tmS 12) (tmS j)) ∈ flG ∨ Cond.not (Cond.eq (tmS j) (tmS 12)) ∈ flG := fun j hj hn => by
  rcases (show j = 0 ∨ j = 1 ∨ j = 2 ∨ j = 3 ∨ j = 4 ∨ j = 5 ∨ j = 6 ∨ j = 7 ∨ j = 8 ∨ j = 9 ∨ j = 10 ∨ j = 11 ∨ j = 12 ∨ j = 13 ∨ j = 14 ∨ j = 15 ∨ j = 16 ∨ j = 17 ∨ j = 18 ∨ j = 19 ∨ j = 20 ∨ j = 21 ∨ j = 22 ∨ j = 23 by omega) with rfl | rfl | rfl | rfl | rfl | rfl | rfl | rfl | rfl | rfl | rfl | rfl | rfl | rfl | rfl | rfl | rfl | rfl | rfl | rfl | rfl | rfl | rfl | rfl
  · exact Or.inr st_n0_12
  · exact Or.inr st_n1_12
  · exact Or.inr st_n2_12
  · exact Or.inr st_n3_12
  · exact Or.inr st_n4_12
  · exact Or.inr st_n5_12
  · exact Or.inr st_n6_12
  · exact Or.inr st_n7_12
  · exact Or.inr st_n8_12
  · exact Or.inr st_n9_12
  · exact Or.inr st_n10_12
  · exact Or.inr st_n11_12
  · exact absurd rfl hn
  · exact Or.inl st_n12_13
  · exact Or.inl st_n12_14
  · exact Or.inl st_n12_15
  · exact Or.inl st_n12_16
  · exact Or.inl st_n12_17
  · exact Or.inl st_n12_18
  · exact Or.inl st_n12_19
  · exact Or.inl st_n12_20
  · exact Or.inl st_n12_21
  · exact Or.inl st_n12_22
  · exact Or.inl st_n12_23
theorem st_ne13 : ∀ j, j < 24 → 13 ≠ j → Cond.not (Cond.eq (tmS 13) (tmS j)) ∈ flG ∨ Cond.not (Cond.eq (tmS j) (tmS 13)) ∈ flG := fun j hj hn => by
  rcases (show j = 0 ∨ j = 1 ∨ j = 2 ∨ j = 3 ∨ j = 4 ∨ j = 5 ∨ j = 6 ∨ j = 7 ∨ j = 8 ∨ j = 9 ∨ j = 10 ∨ j = 11 ∨ j = 12 ∨ j = 13 ∨ j = 14 ∨ j = 15 ∨ j = 16 ∨ j = 17 ∨ j = 18 ∨ j = 19 ∨ j = 20 ∨ j = 21 ∨ j = 22 ∨ j = 23 by omega) with rfl | rfl | rfl | rfl | rfl | rfl | rfl | rfl | rfl | rfl | rfl | rfl | rfl | rfl | rfl | rfl | rfl | rfl | rfl | rfl | rfl | rfl | rfl | rfl
  · exact Or.inr st_n0_13
  · exact Or.inr st_n1_13
  · exact Or.inr st_n2_13
  · exact Or.inr st_n3_13
  · exact Or.inr st_n4_13
  · exact Or.inr st_n5_13
  · exact Or.inr st_n6_13
  · exact Or.inr st_n7_13
  · exact Or.inr st_n8_13
  · exact Or.inr st_n9_13
  · exact Or.inr st_n10_13
  · exact Or.inr st_n11_13
  · exact Or.inr st_n12_13
  · exact absurd rfl hn
  · exact Or.inl st_n13_14
  · exact Or.inl st_n13_15
  · exact Or.inl st_n13_16
  · exact Or.inl st_n13_17
  · exact Or.inl st_n13_18
  · exact Or.inl st_n13_19
  · exact Or.inl st_n13_20
  · exact Or.inl st_n13_21
  · exact Or.inl st_n13_22
  · exact Or.inl st_n13_23
theorem st_ne14 : ∀ j, j < 24 → 14 ≠ j → Cond.not (Cond.eq (tmS 14) (tmS j)) ∈ flG ∨ Cond.not (Cond.eq (tmS j) (tmS 14)) ∈ flG := fun j hj hn => by
  rcases (show j = 0 ∨ j = 1 ∨ j = 2 ∨ j = 3 ∨ j = 4 ∨ j = 5 ∨ j = 6 ∨ j = 7 ∨ j = 8 ∨ j = 9 ∨ j = 10 ∨ j = 11 ∨ j = 12 ∨ j = 13 ∨ j = 14 ∨ j = 15 ∨ j = 16 ∨ j = 17 ∨ j = 18 ∨ j = 19 ∨ j = 20 ∨ j = 21 ∨ j = 22 ∨ j = 23 by omega) with rfl | rfl | rfl | rfl | rfl | rfl | rfl | rfl | rfl | rfl | rfl | rfl | rfl | rfl | rfl | rfl | rfl | rfl | rfl | rfl | rfl | rfl | rfl | rfl
  · exact Or.inr st_n0_14
  · exact Or.inr st_n1_14
  · exact Or.inr st_n2_14
  · exact Or.inr st_n3_14
  · exact Or.inr st_n4_14
  · exact Or.inr st_n5_14
  · exact Or.inr st_n6_14
  · exact Or.inr st_n7_14
  · exact Or.inr st_n8_14
  · exact Or.inr st_n9_14
  · exact Or.inr st_n10_14
  · exact Or.inr st_n11_14
  · exact Or.inr st_n12_14
  · exact Or.inr st_n13_14
  · exact absurd rfl hn
  · exact Or.inl st_n14_15
  · exact Or.inl st_n14_16
  · exact Or.inl st_n14_17
  · exact Or.inl st_n14_18
  · exact Or.inl st_n14_19
  · exact Or.inl st_n14_20
  · exact Or.inl st_n14_21
  · exact Or.inl st_n14_22
  · exact Or.inl st_n14_23
theorem st_ne15 : ∀ j, j < 24 → 15 ≠ j → Cond.not (Cond.eq (tmS 15) (tmS j)) ∈ flG ∨ Cond.not (Cond.eq (tmS j) (tmS 15)) ∈ flG := fun j hj hn => by
  rcases (show j = 0 ∨ j = 1 ∨ j = 2 ∨ j = 3 ∨ j = 4 ∨ j = 5 ∨ j = 6 ∨ j = 7 ∨ j = 8 ∨ j = 9 ∨ j = 10 ∨ j = 11 ∨ j = 12 ∨ j = 13 ∨ j = 14 ∨ j = 15 ∨ j = 16 ∨ j = 17 ∨ j = 18 ∨ j = 19 ∨ j = 20 ∨ j = 21 ∨ j = 22 ∨ j = 23 by omega) with rfl | rfl | rfl | rfl | rfl | rfl | rfl | rfl | rfl | rfl | rfl | rfl | rfl | rfl | rfl | rfl | rfl | rfl | rfl | rfl | rfl | rfl | rfl | rfl
  · exact Or.inr st_n0_15
  · exact Or.inr st_n1_15
  · exact Or.inr st_n2_15
  · exact Or.inr st_n3_15
  · exact Or.inr st_n4_15
  · exact Or.inr st_n5_15
  · exact Or.inr st_n6_15
  · exact Or.inr st_n7_15
  · exact Or.inr st_n8_15
  · exact Or.inr st_n9_15
  · exact Or.inr st_n10_15
  · exact Or.inr st_n11_15
  · exact Or.inr st_n12_15
  · exact Or.inr st_n13_15
  · exact Or.inr st_n14_15
  · exact absurd rfl hn
  · exact Or.inl st_n15_16
  · exact Or.inl st_n15_17
  · exact Or.inl st_n15_18
  · exact Or.inl st_n15_19
  · exact Or.inl st_n15_20
  · exact Or.inl st_n15_21
  · exact Or.inl st_n15_22
  · exact Or.inl st_n15_23
theorem st_ne16 : ∀ j, j < 24 → 16 ≠ j → Cond.not (Cond.eq (tmS 16) (tmS j)) ∈ flG ∨ Cond.not (Cond.eq (tmS j) (tmS 16)) ∈ flG := fun j hj hn => by
  rcases (show j = 0 ∨ j = 1 ∨ j = 2 ∨ j = 3 ∨ j = 4 ∨ j = 5 ∨ j = 6 ∨ j = 7 ∨ j = 8 ∨ j = 9 ∨ j = 10 ∨ j = 11 ∨ j = 12 ∨ j = 13 ∨ j = 14 ∨ j = 15 ∨ j = 16 ∨ j = 17 ∨ j = 18 ∨ j = 19 ∨ j = 20 ∨ j = 21 ∨ j = 22 ∨ j = 23 by omega) with rfl | rfl | rfl | rfl | rfl | rfl | rfl | rfl | rfl | rfl | rfl | rfl | rfl | rfl | rfl | rfl | rfl | rfl | rfl | rfl | rfl | rfl | rfl | rfl
  · exact Or.inr st_n0_16
  · exact Or.inr st_n1_16
  · exact Or.inr st_n2_16
  · exact Or.inr st_n3_16
  · exact Or.inr st_n4_16
  · exact Or.inr st_n5_16
  · exact Or.inr st_n6_16
  · exact Or.inr st_n7_16
  · exact Or.inr st_n8_16
  · exact Or.inr st_n9_16
  · exact Or.inr st_n10_16
  · exact Or.inr st_n11_16
  · exact Or.inr st_n12_16
  · exact Or.inr st_n13_16
  · exact Or.inr st_n14_16
  · exact Or.inr st_n15_16
  · exact absurd rfl hn
  · exact Or.inl st_n16_17
  · exact Or.inl st_n16_18
  · exact Or.inl st_n16_19
  · exact Or.inl st_n16_20
  · exact Or.inl st_n16_21
  · exact Or.inl st_n16_22
  · exact Or.inl st_n16_23
theorem st_ne17 : ∀ j, j < 24 → 17 ≠ j → Cond.not (Cond.eq (tmS 17) (tmS j)) ∈ flG ∨ Cond.not (Cond.eq (tmS j) (tmS 17)) ∈ flG := fun j hj hn => by
  rcases (show j = 0 ∨ j = 1 ∨ j = 2 ∨ j = 3 ∨ j = 4 ∨ j = 5 ∨ j = 6 ∨ j = 7 ∨ j = 8 ∨ j = 9 ∨ j = 10 ∨ j = 11 ∨ j = 12 ∨ j = 13 ∨ j = 14 ∨ j = 15 ∨ j = 16 ∨ j = 17 ∨ j = 18 ∨ j = 19 ∨ j = 20 ∨ j = 21 ∨ j = 22 ∨ j = 23 by omega) with rfl | rfl | rfl | rfl | rfl | rfl | rfl | rfl | rfl | rfl | rfl | rfl | rfl | rfl | rfl | rfl | rfl | rfl | rfl | rfl | rfl | rfl | rfl | rfl
  · exact Or.inr st_n0_17
  · exact Or.inr st_n1_17
  · exact Or.inr st_n2_17
  · exact Or.inr st_n3_17
  · exact Or.inr st_n4_17
  · exact Or.inr st_n5_17
  · exact Or.inr st_n6_17
  · exact Or.inr st_n7_17
  · exact Or.inr st_n8_17
  · exact Or.inr st_n9_17
  · exact Or.inr st_n10_17
  · exact Or.inr st_n11_17
  · exact Or.inr st_n12_17
  · exact Or.inr st_n13_17
  · exact Or.inr st_n14_17
  · exact Or.inr st_n15_17
  · exact Or.inr st_n16_17
  · exact absurd rfl hn
  · exact Or.inl st_n17_18
  · exact Or.inl st_n17_19
  · exact Or.inl st_n17_20
  · exact Or.inl st_n17_21
  · exact Or.inl st_n17_22
  · exact Or.inl st_n17_23
theorem st_ne18 : ∀ j, j < 24 → 18 ≠ j → Cond.not (Cond.eq (tmS 18) (tmS j)) ∈ flG ∨ Cond.not (Cond.eq (tmS j) (tmS 18)) ∈ flG := fun j hj hn => by
  rcases (show j = 0 ∨ j = 1 ∨ j = 2 ∨ j = 3 ∨ j = 4 ∨ j = 5 ∨ j = 6 ∨ j = 7 ∨ j = 8 ∨ j = 9 ∨ j = 10 ∨ j = 11 ∨ j = 12 ∨ j = 13 ∨ j = 14 ∨ j = 15 ∨ j = 16 ∨ j = 17 ∨ j = 18 ∨ j = 19 ∨ j = 20 ∨ j = 21 ∨ j = 22 ∨ j = 23 by omega) with rfl | rfl | rfl | rfl | rfl | rfl | rfl | rfl | rfl | rfl | rfl | rfl | rfl | rfl | rfl | rfl | rfl | rfl | rfl | rfl | rfl | rfl | rfl | rfl
  · exact Or.inr st_n0_18
  · exact Or.inr st_n1_18
  · exact Or.inr st_n2_18
  · exact Or.inr st_n3_18
  · exact Or.inr st_n4_18
  · exact Or.inr st_n5_18
  · exact Or.inr st_n6_18
  · exact Or.inr st_n7_18
  · exact Or.inr st_n8_18
  · exact Or.inr st_n9_18
  · exact Or.inr st_n10_18
  · exact Or.inr st_n11_18
  · exact Or.inr st_n12_18
  · exact Or.inr st_n13_18
  · exact Or.inr st_n14_18
  · exact Or.inr st_n15_18
  · exact Or.inr st_n16_18
  · exact Or.inr st_n17_18
  · exact absurd rfl hn
  · exact Or.inl st_n18_19
  · exact Or.inl st_n18_20
  · exact Or.inl st_n18_21
  · exact Or.inl st_n18_22
  · exact Or.inl st_n18_23
theorem st_ne19 : ∀ j, j < 24 → 19 ≠ j → Cond.not (Cond.eq (tmS 19) (tmS j)) ∈ flG ∨ Cond.not (Cond.eq (tmS j) (tmS 19)) ∈ flG := fun j hj hn => by
  rcases (show j = 0 ∨ j = 1 ∨ j = 2 ∨ j = 3 ∨ j = 4 ∨ j = 5 ∨ j = 6 ∨ j = 7 ∨ j = 8 ∨ j = 9 ∨ j = 10 ∨ j = 11 ∨ j = 12 ∨ j = 13 ∨ j = 14 ∨ j = 15 ∨ j = 16 ∨ j = 17 ∨ j = 18 ∨ j = 19 ∨ j = 20 ∨ j = 21 ∨ j = 22 ∨ j = 23 by omega) with rfl | rfl | rfl | rfl | rfl | rfl | rfl | rfl | rfl | rfl | rfl | rfl | rfl | rfl | rfl | rfl | rfl | rfl | rfl | rfl | rfl | rfl | rfl | rfl
  · exact Or.inr st_n0_19
  · exact Or.inr st_n1_19
  · exact Or.inr st_n2_19
  · exact Or.inr st_n3_19
  · exact Or.inr st_n4_19
  · exact Or.inr st_n5_19
  · exact Or.inr st_n6_19
  · exact Or.inr st_n7_19
  · exact Or.inr st_n8_19
  · exact Or.inr st_n9_19
  · exact Or.inr st_n10_19
  · exact Or.inr st_n11_19
  · exact Or.inr st_n12_19
  · exact Or.inr st_n13_19
  · exact Or.inr st_n14_19
  · exact Or.inr st_n15_19
  · exact Or.inr st_n16_19
  · exact Or.inr st_n17_19
  · exact Or.inr st_n18_19
  · exact absurd rfl hn
  · exact Or.inl st_n19_20
  · exact Or.inl st_n19_21
  · exact Or.inl st_n19_22
  · exact Or.inl st_n19_23
theorem st_ne20 : ∀ j, j < 24 → 20 ≠ j → Cond.not (Cond.eq (tmS 20) (tmS j)) ∈ flG ∨ Cond.not (Cond.eq (tmS j) (tmS 20)) ∈ flG := fun j hj hn => by
  rcases (show j = 0 ∨ j = 1 ∨ j = 2 ∨ j = 3 ∨ j = 4 ∨ j = 5 ∨ j = 6 ∨ j = 7 ∨ j = 8 ∨ j = 9 ∨ j = 10 ∨ j = 11 ∨ j = 12 ∨ j = 13 ∨ j = 14 ∨ j = 15 ∨ j = 16 ∨ j = 17 ∨ j = 18 ∨ j = 19 ∨ j = 20 ∨ j = 21 ∨ j = 22 ∨ j = 23 by omega) with rfl | rfl | rfl | rfl | rfl | rfl | rfl | rfl | rfl | rfl | rfl | rfl | rfl | rfl | rfl | rfl | rfl | rfl | rfl | rfl | rfl | rfl | rfl | rfl
  · exact Or.inr st_n0_20
  · exact Or.inr st_n1_20
  · exact Or.inr st_n2_20
  · exact Or.inr st_n3_20
  · exact Or.inr st_n4_20
  · exact Or.inr st_n5_20
  · exact Or.inr st_n6_20
  · exact Or.inr st_n7_20
  · exact Or.inr st_n8_20
  · exact Or.inr st_n9_20
  · exact Or.inr st_n10_20
  · exact Or.inr st_n11_20
  · exact Or.inr st_n12_20
  · exact Or.inr st_n13_20
  · exact Or.inr st_n14_20
  · exact Or.inr st_n15_20
  · exact Or.inr st_n16_20
  · exact Or.inr st_n17_20
  · exact Or.inr st_n18_20
  · exact Or.inr st_n19_20
  · exact absurd rfl hn
  · exact Or.inl st_n20_21
  · exact Or.inl st_n20_22
  · exact Or.inl st_n20_23
theorem st_ne21 : ∀ j, j < 24 → 21 ≠ j → Cond.not (Cond.eq (tmS 21) (tmS j)) ∈ flG ∨ Cond.not (Cond.eq (tmS j) (tmS 21)) ∈ flG := fun j hj hn => by
  rcases (show j = 0 ∨ j = 1 ∨ j = 2 ∨ j = 3 ∨ j = 4 ∨ j = 5 ∨ j = 6 ∨ j = 7 ∨ j = 8 ∨ j = 9 ∨ j = 10 ∨ j = 11 ∨ j = 12 ∨ j = 13 ∨ j = 14 ∨ j = 15 ∨ j = 16 ∨ j = 17 ∨ j = 18 ∨ j = 19 ∨ j = 20 ∨ j = 21 ∨ j = 22 ∨ j = 23 by omega) with rfl | rfl | rfl | rfl | rfl | rfl | rfl | rfl | rfl | rfl | rfl | rfl | rfl | rfl | rfl | rfl | rfl | rfl | rfl | rfl | rfl | rfl | rfl | rfl
  · exact Or.inr st_n0_21
  · exact Or.inr st_n1_21
  · exact Or.inr st_n2_21
  · exact Or.inr st_n3_21
  · exact Or.inr st_n4_21
  · exact Or.inr st_n5_21
  · exact Or.inr st_n6_21
  · exact Or.inr st_n7_21
  · exact Or.inr st_n8_21
  · exact Or.inr st_n9_21
  · exact Or.inr st_n10_21
  · exact Or.inr st_n11_21
  · exact Or.inr st_n12_21
  · exact Or.inr st_n13_21
  · exact Or.inr st_n14_21
  · exact Or.inr st_n15_21
  · exact Or.inr st_n16_21
  · exact Or.inr st_n17_21
  · exact Or.inr st_n18_21
  · exact Or.inr st_n19_21
  · exact Or.inr st_n20_21
  · exact absurd rfl hn
  · exact Or.inl st_n21_22
  · exact Or.inl st_n21_23
theorem st_ne22 : ∀ j, j < 24 → 22 ≠ j → Cond.not (Cond.eq (tmS 22) (tmS j)) ∈ flG ∨ Cond.not (Cond.eq (tmS j) (tmS 22)) ∈ flG := fun j hj hn => by
  rcases (show j = 0 ∨ j = 1 ∨ j = 2 ∨ j = 3 ∨ j = 4 ∨ j = 5 ∨ j = 6 ∨ j = 7 ∨ j = 8 ∨ j = 9 ∨ j = 10 ∨ j = 11 ∨ j = 12 ∨ j = 13 ∨ j = 14 ∨ j = 15 ∨ j = 16 ∨ j = 17 ∨ j = 18 ∨ j = 19 ∨ j = 20 ∨ j = 21 ∨ j = 22 ∨ j = 23 by omega) with rfl | rfl | rfl | rfl | rfl | rfl | rfl | rfl | rfl | rfl | rfl | rfl | rfl | rfl | rfl | rfl | rfl | rfl | rfl | rfl | rfl | rfl | rfl | rfl
  · exact Or.inr st_n0_22
  · exact Or.inr st_n1_22
  · exact Or.inr st_n2_22
  · exact Or.inr st_n3_22
  · exact Or.inr st_n4_22
  · exact Or.inr st_n5_22
  · exact Or.inr st_n6_22
  · exact Or.inr st_n7_22
  · exact Or.inr st_n8_22
  · exact Or.inr st_n9_22
  · exact Or.inr st_n10_22
  · exact Or.inr st_n11_22
  · exact Or.inr st_n12_22
  · exact Or.inr st_n13_22
  · exact Or.inr st_n14_22
  · exact Or.inr st_n15_22
  · exact Or.inr st_n16_22
  · exact Or.inr st_n17_22
  · exact Or.inr st_n18_22
  · exact Or.inr st_n19_22
  · exact Or.inr st_n20_22
  · exact Or.inr st_n21_22
  · exact absurd rfl hn
  · exact Or.inl st_n22_23
theorem st_ne23 : ∀ j, j < 24 → 23 ≠ j → Cond.not (Cond.eq (tmS 23) (tmS j)) ∈ flG ∨ Cond.not (Cond.eq (tmS j) (tmS 23)) ∈ flG := fun j hj hn => by
  rcases (show j = 0 ∨ j = 1 ∨ j = 2 ∨ j = 3 ∨ j = 4 ∨ j = 5 ∨ j = 6 ∨ j = 7 ∨ j = 8 ∨ j = 9 ∨ j = 10 ∨ j = 11 ∨ j = 12 ∨ j = 13 ∨ j = 14 ∨ j = 15 ∨ j = 16 ∨ j = 17 ∨ j = 18 ∨ j = 19 ∨ j = 20 ∨ j = 21 ∨ j = 22 ∨ j = 23 by omega) with rfl | rfl | rfl | rfl | rfl | rfl | rfl | rfl | rfl | rfl | rfl | rfl | rfl | rfl | rfl | rfl | rfl | rfl | rfl | rfl | rfl | rfl | rfl | rfl
  · exact Or.inr st_n0_23
  · exact Or.inr st_n1_23
  · exact Or.inr st_n2_23
  · exact Or.inr st_n3_23
  · exact Or.inr st_n4_23
  · exact Or.inr st_n5_23
  · exact Or.inr st_n6_23
  · exact Or.inr st_n7_23
  · exact Or.inr st_n8_23
  · exact Or.inr st_n9_23
  · exact Or.inr st_n10_23
  · exact Or.inr st_n11_23
  · exact Or.inr st_n12_23
  · exact Or.inr st_n13_23
  · exact Or.inr st_n14_23
  · exact Or.inr st_n15_23
  · exact Or.inr st_n16_23
  · exact Or.inr st_n17_23
  · exact Or.inr st_n18_23
  · exact Or.inr st_n19_23
  · exact Or.inr st_n20_23
  · exact Or.inr st_n21_23
  · exact Or.inr st_n22_23
  · exact absurd rfl hn
theorem st_ne : ∀ i, i < 24 → ∀ j, j < 24 → i ≠ j → Cond.not (Cond.eq (tmS i) (tmS j)) ∈ flG ∨ Cond.not (Cond.eq (tmS j) (tmS i)) ∈ flG := fun i hi => by
  rcases (show i = 0 ∨ i = 1 ∨ i = 2 ∨ i = 3 ∨ i = 4 ∨ i = 5 ∨ i = 6 ∨ i = 7 ∨ i = 8 ∨ i = 9 ∨ i = 10 ∨ i = 11 ∨ i = 12 ∨ i = 13 ∨ i = 14 ∨ i = 15 ∨ i = 16 ∨ i = 17 ∨ i = 18 ∨ i = 19 ∨ i = 20 ∨ i = 21 ∨ i = 22 ∨ i = 23 by omega) with rfl | rfl | rfl | rfl | rfl | rfl | rfl | rfl | rfl | rfl | rfl | rfl | rfl | rfl | rfl | rfl | rfl | rfl | rfl | rfl | rfl | rfl | rfl | rfl
  · exact st_ne0
  · exact st_ne1
  · exact st_ne2
  · exact st_ne3
  · exact st_ne4
  · exact st_ne5
  · exact st_ne6
  · exact st_ne7
  · exact st_ne8
  · exact st_ne9
  · exact st_ne10
  · exact st_ne11
  · exact st_ne12
  · exact st_ne13
  · exact st_ne14
  · exact st_ne15
  · exact st_ne16
  · exact st_ne17
  · exact st_ne18
  · exact st_ne19
  · exact st_ne20
  · exact st_ne21
  · exact st_ne22
  · exact st_ne23
theorem st_R : ∀ i, i < 24 → Cond.stringRef RL (litP.getD i 0) (litT.getD i "") ∈ lw_tbl := by decide +kernel
theorem st_n : ∀ i, i < 24 → litL.getD i 0 < 2 ^ 31 := by decide +kernel
theorem st_d1i : ∀ j, j < 100 → flG[12 + j]? = some (Cond.eq (.elem (.static RJ6 "DigitOnes" "[B") (.int (Int32.ofNat j))) (.int (Int32.ofInt (outI (SC + 49) j)))) := by decide +kernel
theorem st_d1 : ∀ j, j < 100 → Cond.eq (.elem (.static RJ6 "DigitOnes" "[B") (.int (Int32.ofNat j))) (.int (Int32.ofInt (outI (SC + 49) j))) ∈ flG := fun j hj => List.mem_of_getElem? (st_d1i j hj)
theorem st_d2i : ∀ j, j < 100 → flG[115 + j]? = some (Cond.eq (.elem (.static RJ6 "DigitTens" "[B") (.int (Int32.ofNat j))) (.int (Int32.ofInt (outI (SC + 50) j)))) := by decide +kernel
theorem st_d2 : ∀ j, j < 100 → Cond.eq (.elem (.static RJ6 "DigitTens" "[B") (.int (Int32.ofNat j))) (.int (Int32.ofInt (outI (SC + 50) j))) ∈ flG := fun j hj => List.mem_of_getElem? (st_d2i j hj)
theorem st_1 : Cond.arrayOf (.static RJ6 "DigitOnes" "[B") .byte ∈ flG ∧ Cond.eq (.length (.static RJ6 "DigitOnes" "[B")) (.int (Int32.ofNat 100)) ∈ flG ∧ Cond.arrayOf (.static RJ6 "DigitTens" "[B") .byte ∈ flG ∧ Cond.eq (.length (.static RJ6 "DigitTens" "[B")) (.int (Int32.ofNat 100)) ∈ flG ∧ Cond.eq (.static RJ0 "COMPACT_STRINGS" "Z") (.int 1) ∈ flG ∧ Cond.isRef (.static "jdk/internal/util/Preconditions" "SIOOBE_FORMATTER" "Ljava/util/function/BiFunction;") ∈ flG := by decide +kernel
theorem st_2 : (Cond.laysStatic RJ6 "DigitOnes" "[B" ∈ lw_tbl ∧ Cond.laysStatic RJ6 "DigitTens" "[B" ∈ lw_tbl ∧ Cond.laysStatic RJ0 "COMPACT_STRINGS" "Z" ∈ lw_tbl ∧ Cond.laysStatic "jdk/internal/util/Preconditions" "SIOOBE_FORMATTER" "Ljava/util/function/BiFunction;" ∈ lw_tbl) ∧ Cond.initialized RJ6 ∈ lw_tbl ∧ Cond.initialized RJ0 ∈ lw_tbl ∧ Cond.initialized "jdk/internal/util/Preconditions" ∈ lw_tbl := by decide +kernel
