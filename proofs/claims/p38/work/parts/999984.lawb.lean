/-! THE LAW: all matches; rows; the end -/
section LEN
variable {b m : Mem} {P Q L s M nn : Nat} {x : CX} {Ms : ML}
theorem l_told2 (hB : LawB b P Q L x) (hm : LawM b m s) (hs : s ≤ 100) (hM : MtB b M x.2.2.1 Ms) : Ct μX10_told 4 [vr 0, vi 2] m (ri fun y m' => y = ((Ms.length : Nat) : Int) ∧ m = m') := l_told hB hm hs hM (Or.inl rfl)
theorem l_told8 (hB : LawB b P Q L x) (hm : LawM b m s) (hs : s ≤ 100) (hM : MtB b M x.2.2.1 Ms) (hnn : x.2.2.1 = (nn : Int) ∧ nn ≤ 7) : Ct μX10_told 4 [vr 0, vi 8] m (ri fun y m' => y = cn0 (fun i => covF (fun j => lbV Ms j i) Ms.length) nn ∧ m = m') := by
  refine Ct_mono (l_told hB hm hs hM (Or.inr rfl)) fun r m' hp => ?_
  obtain ⟨y, hy, h1, h2⟩ := hp
  refine ⟨y, hy, ?_, h2⟩
  rw [h1, if_neg (by decide), hnn.1, Int.toNat_natCast]
theorem l_runB {mo by_ em : Int} {M2 : Nat} {J : SJ} (hB : LawB b P Q L x) (hm : LawM b m s) (hs : s ≤ 100) (hmd : mI b 1 4 = mo ∧ mI b 1 5 = by_ ∧ mI b 1 6 = em ∧ 0 ≤ mo ∧ mo ≤ 3) (hmr : mR b 0 5 = some M2 ∧ (M2 = 5 ∨ M2 = 18)) (hM : MtB b M x.2.2.1 Ms) (h0 : (rnX x mo by_ em 33 0 [] J).1 = 0) (h2 : (rnX x mo by_ em 33 0 [] J).2.1 = Ms) :
    Ct μX10_run 9 [vr 0] m (ri fun y _ => y = ((Ms.length : Nat) : Int) ∧ True) := by
  refine Ct_mono (l_run2 hB hm hs hmd hmr hM h0 h2) fun r m' hp => ?_
  obtain ⟨y, hy, h1⟩ := hp
  exact ⟨y, hy, h1, trivial⟩
theorem l_mode {a c : Int} (hL : Lay (mT m) (mR m)) (hz : 0 ≤ mI m 1 4 ∧ mI m 1 4 ≤ 3 ∧ 0 ≤ mI m 1 5 ∧ mI m 1 5 ≤ 25) (hab : 0 ≤ a ∧ a ≤ 3 ∧ 0 ≤ c ∧ c ≤ 25) : Ct μX10_mode 1 [vr 0, vi a, vi c] m (ri fun _ m' => True ∧ setI (setI m 1 4 a) 1 5 c = m') := by
  refine Ct_mono (c_mode m a c hL hz) fun r m' hp => ?_
  obtain ⟨y, hy, h⟩ := hp
  rcases h with ⟨h, -⟩ | ⟨-, -, h⟩
  · exact absurd hab h
  · exact ⟨y, hy, trivial, h⟩
theorem l_emp {a : Int} (hL : Lay (mT m) (mR m)) (hab : 0 ≤ a ∧ a ≤ 1) : Ct μX10_empties 0 [vr 0, vi a] m (ri fun _ m' => True ∧ setI m 1 6 a = m') := by
  refine Ct_mono (c_empties m a hL) fun r m' hp => ?_
  obtain ⟨y, hy, h⟩ := hp
  rcases h with ⟨h, -⟩ | ⟨-, -, h⟩
  · exact absurd hab h
  · exact ⟨y, hy, trivial, h⟩
theorem l_may {a : Int} (hL : Lay (mT m) (mR m)) (hab : 1 ≤ a ∧ a ≤ 5000) : Ct μX10_may 0 [vr 0, vi a] m (ri fun _ m' => True ∧ setI m 1 7 a = m') := by
  refine Ct_mono (c_may m a hL) fun r m' hp => ?_
  obtain ⟨y, hy, h⟩ := hp
  rcases h with ⟨h, -⟩ | ⟨-, -, h⟩
  · exact absurd hab h
  · exact ⟨y, hy, trivial, h⟩
theorem l_runA {mo by_ em : Int} {M2 : Nat} (hB : LawB b P Q L x) (hm : LawM b m s) (hs : s ≤ 100) (hrm : mN b + 151000 ≤ NN + lnA b + lnB b ∧ mZ b + 320000 ≤ ZZ + 2 * lnA b + 2 * lnB b) (hmd : mI b 1 4 = mo ∧ mI b 1 5 = by_ ∧ mI b 1 6 = em ∧ 0 ≤ mo ∧ mo ≤ 3) (hmr : mR b 0 5 = some M2 ∧ (M2 = 5 ∨ M2 = 18) ∧ M ≠ M2) (hM : MtB b M x.2.2.1 []) :
    Ct μX10_run 9 [vr 0] m (ri fun y m' => True ∧ ((y = -7 ∧ LawB m' P Q L x ∧ MtB m' M x.2.2.1 []) ∨ ∃ J Ms, y = (Ms.length : Int) ∧ LawB m' P Q L x ∧ MtB m' M2 x.2.2.1 Ms ∧ ChN x mo by_ em 0 Ms ∧ (mI m' 1 4 = mo ∧ mI m' 1 5 = by_ ∧ mI m' 1 6 = em) ∧ mR m' 0 5 = some M ∧ (rnX x mo by_ em 33 0 [] J).1 = 0 ∧ (rnX x mo by_ em 33 0 [] J).2.1 = Ms)) := by
  refine Ct_mono (l_run hB hm hs hrm hmd hmr hM) fun r m' hp => ?_
  obtain ⟨y, hy, h1⟩ := hp
  exact ⟨y, hy, trivial, h1⟩
end LEN

set_option maxHeartbeats 8000000 in
theorem L_mat {F : Nat} {m0 b : Mem} {post : Option AV → Mem → Prop} {P Q L nn M : Nat} {cx : CX} {Ms : ML} {mo by_ on : Int} (hB : LawB b P Q L cx) (hnn : cx.2.2.1 = (nn : Int) ∧ nn ≤ 7) (hM : MtB b M cx.2.2.1 Ms) (hF : 100 < F) (hmo : 0 ≤ mo ∧ mo ≤ 3)
    (kx : ∀ m, LawM b m 0 → _root_.Jvm.Pilot.@@N@@.V μL_law F m0 post 891 [(9, vi ((Ms.length : Nat) : Int)), (8, vi on), (7, vi by_), (6, vi mo), (2, vi ((nn : Nat) : Int)), (1, vr 0), (0, vr SC)] [] m) : ∀ (dd j : Nat) (nx fr : Int) (m : Mem), dd + j = Ms.length → 0 ≤ nx → ChN cx mo by_ on nx (Ms.drop j) → LawM b m 0 → _root_.Jvm.Pilot.@@N@@.V μL_law F m0 post 532 [(12, vi ((j : Nat) : Int)), (11, vi fr), (10, vi nx), (9, vi ((Ms.length : Nat) : Int)), (8, vi on), (7, vi by_), (6, vi mo), (2, vi ((nn : Nat) : Int)), (1, vr 0), (0, vr SC)] [] m := by
  intro dd
  induction dd with
  | zero =>
    intro j nx fr m hd_ hnx hch hm
    refine V_ld (pc := 532) dL_law_532 (v := vi ((j : Nat) : Int)) rfl rfl ?_
    refine V_ld (pc := 534) dL_law_534 (v := vi ((Ms.length : Nat) : Int)) rfl rfl ?_
    refine V_icmp_ge (pc := 536) dL_law_536 (tgt := 891) rfl (fun h536 => ?_) (fun h536 => ?_)
    · skip
      refine V_ls (ls' := [(9, vi ((Ms.length : Nat) : Int)), (8, vi on), (7, vi by_), (6, vi mo), (2, vi ((nn : Nat) : Int)), (1, vr 0), (0, vr SC)]) (by intro q_ h_; simp only [List.mem_cons, List.not_mem_nil, or_false] at h_ ⊢; rcases h_ with rfl | rfl | rfl | rfl | rfl | rfl | rfl <;> simp) ?_
      exact kx m hm
    · skip
      exfalso; omega
  | succ dd ih =>
    intro j nx fr m hd_ hnx hch hm
    have hjl : j < Ms.length := by omega
    have hj : Ms[j]? = some Ms[j] := List.getElem?_eq_getElem hjl
    rw [List.drop_eq_getElem_cons hjl] at hch
    have hme := hM.2.2.2.2 _ (List.getElem_mem hjl)
    generalize Ms[j] = q at hj hch hme
    obtain ⟨s0, e0, le⟩ := q
    obtain ⟨⟨c1, c2, c3, c4⟩, c5, c6, c7, c8⟩ := hch
    have h0 : 0 ≤ s0 ∧ s0 ≤ e0 ∧ e0 ≤ ((nn : Nat) : Int) := ⟨hme.1.1, hme.1.2.1, by have h_ : e0 ≤ cx.2.2.1 := hme.1.2.2; omega⟩
    refine V_ld (pc := 532) dL_law_532 (v := vi ((j : Nat) : Int)) rfl rfl ?_
    refine V_ld (pc := 534) dL_law_534 (v := vi ((Ms.length : Nat) : Int)) rfl rfl ?_
    refine V_icmp_ge (pc := 536) dL_law_536 (tgt := 891) rfl (fun h536 => ?_) (fun h536 => ?_)
    · skip
      exfalso; omega
    · skip
      refine V_ld (pc := 539) dL_law_539 (v := vr 0) rfl rfl ?_
      refine V_ld (pc := 540) dL_law_540 (v := vi ((j : Nat) : Int)) rfl rfl ?_
      refine V_iconst (pc := 542) dL_law_542 (by unfold I32; omega) ?_
      refine V_callV (pc := 543) dL_law_543 (F' := 4) (As := [vi ((j : Nat) : Int), vi 0]) (st := []) cw_RL_196 rfl rfl (hm.sb hB (by omega)).1.1.t0 (by decide) (Nat.le_of_ble_eq_true rfl) (by omega) (l_match0 hB hm (by omega) hM hj) ?_
      rintro _ _ ⟨x543, rfl, hx543, rfl⟩ ok543 le543
      rw [hx543]
      refine V_st (pc := 546) dL_law_546 (ls' := [(13, vi s0), (12, vi ((j : Nat) : Int)), (11, vi fr), (10, vi nx), (9, vi ((Ms.length : Nat) : Int)), (8, vi on), (7, vi by_), (6, vi mo), (2, vi ((nn : Nat) : Int)), (1, vr 0), (0, vr SC)]) rfl (Nat.le_of_ble_eq_true rfl) rfl ?_
      refine V_ld (pc := 548) dL_law_548 (v := vr 0) rfl rfl ?_
      refine V_ld (pc := 549) dL_law_549 (v := vi ((j : Nat) : Int)) rfl rfl ?_
      refine V_iconst (pc := 551) dL_law_551 (by unfold I32; omega) ?_
      refine V_callV (pc := 552) dL_law_552 (F' := 4) (As := [vi ((j : Nat) : Int), vi 1]) (st := []) cw_RL_196 rfl rfl (hm.sb hB (by omega)).1.1.t0 (by decide) (Nat.le_of_ble_eq_true rfl) (by omega) (l_match1 hB hm (by omega) hM hj) ?_
      rintro _ _ ⟨x552, rfl, hx552, rfl⟩ ok552 le552
      subst hx552
      refine V_st (pc := 555) dL_law_555 (ls' := [(14, vi (e0 - s0)), (13, vi s0), (12, vi ((j : Nat) : Int)), (11, vi fr), (10, vi nx), (9, vi ((Ms.length : Nat) : Int)), (8, vi on), (7, vi by_), (6, vi mo), (2, vi ((nn : Nat) : Int)), (1, vr 0), (0, vr SC)]) rfl (Nat.le_of_ble_eq_true rfl) rfl ?_
      refine V_ld (pc := 557) dL_law_557 (v := vi s0) rfl rfl ?_
      refine V_ld (pc := 559) dL_law_559 (v := vi nx) rfl rfl ?_
      refine V_icmp_lt (pc := 561) dL_law_561 (tgt := 585) rfl (fun h561 => ?_) (fun h561 => ?_)
      · skip
        exfalso; omega
      · skip
        refine V_ld (pc := 564) dL_law_564 (v := vi (e0 - s0)) rfl rfl ?_
        refine V_ld (pc := 566) dL_law_566 (v := vr 0) rfl rfl ?_
        refine V_ld (pc := 567) dL_law_567 (v := vi s0) rfl rfl ?_
        refine V_callV (pc := 569) dL_law_569 (F' := 8) (As := [vi s0]) (st := [vi (e0 - s0)]) cw_RL_165 rfl rfl (hm.sb hB (by omega)).1.1.t0 (by decide) (Nat.le_of_ble_eq_true rfl) (by omega) (l_first hB hm (by omega) (by omega)) ?_
        rintro _ m569 ⟨x569, rfl, hx569, hm569⟩ ok569 le569
        subst hx569
        refine V_icmp_ne (pc := 572) dL_law_572 (tgt := 585) rfl (fun h572 => ?_) (fun h572 => ?_)
        · skip
          exfalso; omega
        · skip
          refine V_ld (pc := 575) dL_law_575 (v := vi on) rfl rfl ?_
          refine V_if_ne (pc := 577) dL_law_577 (tgt := 587) rfl (fun h577 => ?_) (fun h577 => ?_)
          · skip
            refine V_ld (pc := 587) dL_law_587 (v := vi nx) rfl rfl ?_
            refine V_st (pc := 589) dL_law_589 (ls' := [(15, vi nx), (14, vi (e0 - s0)), (13, vi s0), (12, vi ((j : Nat) : Int)), (11, vi fr), (10, vi nx), (9, vi ((Ms.length : Nat) : Int)), (8, vi on), (7, vi by_), (6, vi mo), (2, vi ((nn : Nat) : Int)), (1, vr 0), (0, vr SC)]) rfl (Nat.le_of_ble_eq_true rfl) rfl ?_
            skip
            refine L_skp hB hnn hM hF hnx (by omega) c6 (fun m2 hm2 => ?_) (s0 - nx).toNat nx _ (by omega) (Int.le_refl _) hm569.1
            refine V_ld (pc := 637) dL_law_637 (v := vi s0) rfl rfl ?_
            refine V_iconst (pc := 639) dL_law_639 (by unfold I32; omega) ?_
            refine V_iadd (pc := 640) dL_law_640 (by unfold I32 at *; omega) ?_
            refine V_st (pc := 641) dL_law_641 (ls' := [(15, vi (s0 + 1)), (14, vi (e0 - s0)), (13, vi s0), (12, vi ((j : Nat) : Int)), (11, vi fr), (10, vi nx), (9, vi ((Ms.length : Nat) : Int)), (8, vi on), (7, vi by_), (6, vi mo), (2, vi ((nn : Nat) : Int)), (1, vr 0), (0, vr SC)]) rfl (Nat.le_of_ble_eq_true rfl) rfl ?_
            refine V_iconst (pc := 643) dL_law_643 (by unfold I32; omega) ?_
            refine V_st (pc := 644) dL_law_644 (ls' := [(16, vi 0), (15, vi (s0 + 1)), (14, vi (e0 - s0)), (13, vi s0), (12, vi ((j : Nat) : Int)), (11, vi fr), (10, vi nx), (9, vi ((Ms.length : Nat) : Int)), (8, vi on), (7, vi by_), (6, vi mo), (2, vi ((nn : Nat) : Int)), (1, vr 0), (0, vr SC)]) rfl (Nat.le_of_ble_eq_true rfl) rfl ?_
            refine V_ls (ls' := [(16, vi 0), (15, vi (s0 + 1)), (14, vi (e0 - s0)), (13, vi s0), (12, vi ((j : Nat) : Int)), (11, vi fr), (9, vi ((Ms.length : Nat) : Int)), (8, vi on), (7, vi by_), (6, vi mo), (2, vi ((nn : Nat) : Int)), (1, vr 0), (0, vr SC)]) (by intro q_ h_; simp only [List.mem_cons, List.not_mem_nil, or_false] at h_ ⊢; rcases h_ with rfl | rfl | rfl | rfl | rfl | rfl | rfl | rfl | rfl | rfl | rfl | rfl | rfl <;> simp) ?_
            refine L_lbl hB hnn hM hF hj h0 c7 (fun m3 g hg hm3 => ?_) (e0 - s0).toNat 0 (s0 + 1) fr m2 (by omega) (fun _ => (if_neg (show ¬ s0 < -1 by omega)).symm) hm2
            refine L_nxt hB hnn hM hF hmo hj h0 c7 hg hm3 (fun m4 hm4 => ?_)
            have hb_ := (nextA_b (mo := mo) (by_ := by_) (st := s0) (pl := e0) (le := le) ⟨h0.1, h0.2.1⟩).1
            have h_ := ih (j + 1) (nextA mo by_ s0 e0 le) 0 m4 (by omega) (by omega) c8 hm4
            rw [show ((j + 1 : Nat) : Int) = (j : Int) + 1 by omega] at h_
            exact h_
          · skip
            refine V_ld (pc := 580) dL_law_580 (v := vi (e0 - s0)) rfl rfl ?_
            refine V_if_ne (pc := 582) dL_law_582 (tgt := 587) rfl (fun h582 => ?_) (fun h582 => ?_)
            · skip
              refine V_ld (pc := 587) dL_law_587 (v := vi nx) rfl rfl ?_
              refine V_st (pc := 589) dL_law_589 (ls' := [(15, vi nx), (14, vi (e0 - s0)), (13, vi s0), (12, vi ((j : Nat) : Int)), (11, vi fr), (10, vi nx), (9, vi ((Ms.length : Nat) : Int)), (8, vi on), (7, vi by_), (6, vi mo), (2, vi ((nn : Nat) : Int)), (1, vr 0), (0, vr SC)]) rfl (Nat.le_of_ble_eq_true rfl) rfl ?_
              skip
              refine L_skp hB hnn hM hF hnx (by omega) c6 (fun m2 hm2 => ?_) (s0 - nx).toNat nx _ (by omega) (Int.le_refl _) hm569.1
              refine V_ld (pc := 637) dL_law_637 (v := vi s0) rfl rfl ?_
              refine V_iconst (pc := 639) dL_law_639 (by unfold I32; omega) ?_
              refine V_iadd (pc := 640) dL_law_640 (by unfold I32 at *; omega) ?_
              refine V_st (pc := 641) dL_law_641 (ls' := [(15, vi (s0 + 1)), (14, vi (e0 - s0)), (13, vi s0), (12, vi ((j : Nat) : Int)), (11, vi fr), (10, vi nx), (9, vi ((Ms.length : Nat) : Int)), (8, vi on), (7, vi by_), (6, vi mo), (2, vi ((nn : Nat) : Int)), (1, vr 0), (0, vr SC)]) rfl (Nat.le_of_ble_eq_true rfl) rfl ?_
              refine V_iconst (pc := 643) dL_law_643 (by unfold I32; omega) ?_
              refine V_st (pc := 644) dL_law_644 (ls' := [(16, vi 0), (15, vi (s0 + 1)), (14, vi (e0 - s0)), (13, vi s0), (12, vi ((j : Nat) : Int)), (11, vi fr), (10, vi nx), (9, vi ((Ms.length : Nat) : Int)), (8, vi on), (7, vi by_), (6, vi mo), (2, vi ((nn : Nat) : Int)), (1, vr 0), (0, vr SC)]) rfl (Nat.le_of_ble_eq_true rfl) rfl ?_
              refine V_ls (ls' := [(16, vi 0), (15, vi (s0 + 1)), (14, vi (e0 - s0)), (13, vi s0), (12, vi ((j : Nat) : Int)), (11, vi fr), (9, vi ((Ms.length : Nat) : Int)), (8, vi on), (7, vi by_), (6, vi mo), (2, vi ((nn : Nat) : Int)), (1, vr 0), (0, vr SC)]) (by intro q_ h_; simp only [List.mem_cons, List.not_mem_nil, or_false] at h_ ⊢; rcases h_ with rfl | rfl | rfl | rfl | rfl | rfl | rfl | rfl | rfl | rfl | rfl | rfl | rfl <;> simp) ?_
              refine L_lbl hB hnn hM hF hj h0 c7 (fun m3 g hg hm3 => ?_) (e0 - s0).toNat 0 (s0 + 1) fr m2 (by omega) (fun _ => (if_neg (show ¬ s0 < -1 by omega)).symm) hm2
              refine L_nxt hB hnn hM hF hmo hj h0 c7 hg hm3 (fun m4 hm4 => ?_)
              have hb_ := (nextA_b (mo := mo) (by_ := by_) (st := s0) (pl := e0) (le := le) ⟨h0.1, h0.2.1⟩).1
              have h_ := ih (j + 1) (nextA mo by_ s0 e0 le) 0 m4 (by omega) (by omega) c8 hm4
              rw [show ((j + 1 : Nat) : Int) = (j : Int) + 1 by omega] at h_
              exact h_
            · skip
              exfalso; omega
set_option maxHeartbeats 4000000 in
theorem L_inn {F : Nat} {m0 b : Mem} {post : Option AV → Mem → Prop} {P Q L nn M : Nat} {cx : CX} {Ms : ML} {mo by_ on : Int} (hB : LawB b P Q L cx) (hnn : cx.2.2.1 = (nn : Int) ∧ nn ≤ 7) (hM : MtB b M cx.2.2.1 Ms) (hF : 100 < F) {r : Nat} {ri : Int} {m : Mem} (hr : r < nn) (hm : LawM b m 0)
    (kx : _root_.Jvm.Pilot.@@N@@.V μL_law F m0 post 948 [(14, vi (covF (fun j => lbV Ms j r) Ms.length)), (13, vi ((r : Nat) : Int)), (12, vi ri), (9, vi ((Ms.length : Nat) : Int)), (8, vi on), (7, vi by_), (6, vi mo), (2, vi ((nn : Nat) : Int)), (1, vr 0), (0, vr SC)] [] m) : ∀ (dd i : Nat), dd + i = Ms.length → _root_.Jvm.Pilot.@@N@@.V μL_law F m0 post 914 [(15, vi ((i : Nat) : Int)), (14, vi (covF (fun j => lbV Ms j r) i)), (13, vi ((r : Nat) : Int)), (12, vi ri), (9, vi ((Ms.length : Nat) : Int)), (8, vi on), (7, vi by_), (6, vi mo), (2, vi ((nn : Nat) : Int)), (1, vr 0), (0, vr SC)] [] m := by
  have h33 := hM.2.2.2.1.1
  intro dd
  induction dd with
  | zero =>
    intro i hd_
    have ek : i = Ms.length := by omega
    rw [ek]
    refine V_ld (pc := 914) dL_law_914 (v := vi ((Ms.length : Nat) : Int)) rfl rfl ?_
    refine V_ld (pc := 916) dL_law_916 (v := vi ((Ms.length : Nat) : Int)) rfl rfl ?_
    refine V_icmp_ge (pc := 918) dL_law_918 (tgt := 948) rfl (fun h918 => ?_) (fun h918 => ?_)
    · skip
      refine V_ls (ls' := [(14, vi (covF (fun j => lbV Ms j r) Ms.length)), (13, vi ((r : Nat) : Int)), (12, vi ri), (9, vi ((Ms.length : Nat) : Int)), (8, vi on), (7, vi by_), (6, vi mo), (2, vi ((nn : Nat) : Int)), (1, vr 0), (0, vr SC)]) (by intro q_ h_; simp only [List.mem_cons, List.not_mem_nil, or_false] at h_ ⊢; rcases h_ with rfl | rfl | rfl | rfl | rfl | rfl | rfl | rfl | rfl | rfl <;> simp) ?_
      exact kx
    · skip
      exfalso; omega
  | succ dd ih =>
    intro i hd_
    have hbd := covF_bd (fun j => lbV Ms j r) i
    have hcs : covF (fun j => lbV Ms j r) (i + 1) = if 0 ≤ lbV Ms i r then covF (fun j => lbV Ms j r) i + 1 else covF (fun j => lbV Ms j r) i := rfl
    refine V_ld (pc := 914) dL_law_914 (v := vi ((i : Nat) : Int)) rfl rfl ?_
    refine V_ld (pc := 916) dL_law_916 (v := vi ((Ms.length : Nat) : Int)) rfl rfl ?_
    refine V_icmp_ge (pc := 918) dL_law_918 (tgt := 948) rfl (fun h918 => ?_) (fun h918 => ?_)
    · skip
      exfalso; omega
    · skip
      refine V_ld (pc := 921) dL_law_921 (v := vi (covF (fun j => lbV Ms j r) i)) rfl rfl ?_
      refine V_ld (pc := 923) dL_law_923 (v := vr 0) rfl rfl ?_
      refine V_ld (pc := 924) dL_law_924 (v := vi ((i : Nat) : Int)) rfl rfl ?_
      refine V_ld (pc := 926) dL_law_926 (v := vi ((r : Nat) : Int)) rfl rfl ?_
      refine V_callV (pc := 928) dL_law_928 (F' := 4) (As := [vi ((i : Nat) : Int), vi ((r : Nat) : Int)]) (st := [vi (covF (fun j => lbV Ms j r) i)]) cw_RL_199 rfl rfl (hm.sb hB (by omega)).1.1.t0 (by decide) (Nat.le_of_ble_eq_true rfl) (by omega) (l_label hB hm (by omega) hM (by omega) (by omega)) ?_
      rintro _ _ ⟨x928, rfl, hx928, rfl⟩ ok928 le928
      subst hx928
      rw [Int.toNat_natCast]
      refine V_if_lt (pc := 931) dL_law_931 (tgt := 938) rfl (fun h931 => ?_) (fun h931 => ?_)
      · skip
        refine V_iconst (pc := 938) dL_law_938 (by unfold I32; omega) ?_
        refine V_iadd (pc := 939) dL_law_939 (by unfold I32 at *; omega) ?_
        refine V_st (pc := 940) dL_law_940 (ls' := [(14, vi ((covF (fun j => lbV Ms j r) i) + 0)), (15, vi ((i : Nat) : Int)), (13, vi ((r : Nat) : Int)), (12, vi ri), (9, vi ((Ms.length : Nat) : Int)), (8, vi on), (7, vi by_), (6, vi mo), (2, vi ((nn : Nat) : Int)), (1, vr 0), (0, vr SC)]) rfl (Nat.le_of_ble_eq_true rfl) rfl ?_
        refine V_iinc (pc := 942) dL_law_942 (x := ((i : Nat) : Int)) (ls' := [(15, vi (((i : Nat) : Int) + 1)), (14, vi ((covF (fun j => lbV Ms j r) i) + 0)), (13, vi ((r : Nat) : Int)), (12, vi ri), (9, vi ((Ms.length : Nat) : Int)), (8, vi on), (7, vi by_), (6, vi mo), (2, vi ((nn : Nat) : Int)), (1, vr 0), (0, vr SC)]) rfl (by unfold I32 at *; omega) (Nat.le_of_ble_eq_true rfl) rfl ?_
        refine V_goto (pc := 945) dL_law_945 (tgt := 914) rfl ?_
        skip
        have h_ := ih (i + 1) (by omega)
        rw [show ((i + 1 : Nat) : Int) = (i : Int) + 1 by omega, hcs] at h_
        first
        | (rw [if_pos (by omega)] at h_; exact h_)
        | (rw [if_neg (by omega)] at h_; rw [Int.add_zero]; exact h_)
      · skip
        refine V_iconst (pc := 934) dL_law_934 (by unfold I32; omega) ?_
        refine V_goto (pc := 935) dL_law_935 (tgt := 939) rfl ?_
        refine V_iadd (pc := 939) dL_law_939 (by unfold I32 at *; omega) ?_
        refine V_st (pc := 940) dL_law_940 (ls' := [(14, vi ((covF (fun j => lbV Ms j r) i) + 1)), (15, vi ((i : Nat) : Int)), (13, vi ((r : Nat) : Int)), (12, vi ri), (9, vi ((Ms.length : Nat) : Int)), (8, vi on), (7, vi by_), (6, vi mo), (2, vi ((nn : Nat) : Int)), (1, vr 0), (0, vr SC)]) rfl (Nat.le_of_ble_eq_true rfl) rfl ?_
        refine V_iinc (pc := 942) dL_law_942 (x := ((i : Nat) : Int)) (ls' := [(15, vi (((i : Nat) : Int) + 1)), (14, vi ((covF (fun j => lbV Ms j r) i) + 1)), (13, vi ((r : Nat) : Int)), (12, vi ri), (9, vi ((Ms.length : Nat) : Int)), (8, vi on), (7, vi by_), (6, vi mo), (2, vi ((nn : Nat) : Int)), (1, vr 0), (0, vr SC)]) rfl (by unfold I32 at *; omega) (Nat.le_of_ble_eq_true rfl) rfl ?_
        refine V_goto (pc := 945) dL_law_945 (tgt := 914) rfl ?_
        skip
        have h_ := ih (i + 1) (by omega)
        rw [show ((i + 1 : Nat) : Int) = (i : Int) + 1 by omega, hcs] at h_
        first
        | (rw [if_pos (by omega)] at h_; exact h_)
        | (rw [if_neg (by omega)] at h_; rw [Int.add_zero]; exact h_)
set_option maxHeartbeats 4000000 in
theorem L_rws {F : Nat} {m0 b : Mem} {post : Option AV → Mem → Prop} {P Q L nn M : Nat} {cx : CX} {Ms : ML} {mo by_ on : Int} (hB : LawB b P Q L cx) (hnn : cx.2.2.1 = (nn : Int) ∧ nn ≤ 7) (hM : MtB b M cx.2.2.1 Ms) (hF : 100 < F) {m : Mem} (hm : LawM b m 0)
    (kx : _root_.Jvm.Pilot.@@N@@.V μL_law F m0 post 982 [(12, vi (cn0 (fun i => covF (fun j => lbV Ms j i) Ms.length) nn)), (9, vi ((Ms.length : Nat) : Int)), (8, vi on), (7, vi by_), (6, vi mo), (2, vi ((nn : Nat) : Int)), (1, vr 0), (0, vr SC)] [] m) : ∀ (dd r : Nat), dd + r = nn → _root_.Jvm.Pilot.@@N@@.V μL_law F m0 post 897 [(13, vi ((r : Nat) : Int)), (12, vi (cn0 (fun i => covF (fun j => lbV Ms j i) Ms.length) r)), (9, vi ((Ms.length : Nat) : Int)), (8, vi on), (7, vi by_), (6, vi mo), (2, vi ((nn : Nat) : Int)), (1, vr 0), (0, vr SC)] [] m := by
  intro dd
  induction dd with
  | zero =>
    intro r hd_
    have ek : r = nn := by omega
    rw [ek]
    refine V_ld (pc := 897) dL_law_897 (v := vi ((nn : Nat) : Int)) rfl rfl ?_
    refine V_ld (pc := 899) dL_law_899 (v := vi ((nn : Nat) : Int)) rfl rfl ?_
    refine V_icmp_ge (pc := 900) dL_law_900 (tgt := 982) rfl (fun h900 => ?_) (fun h900 => ?_)
    · skip
      refine V_ls (ls' := [(12, vi (cn0 (fun i => covF (fun j => lbV Ms j i) Ms.length) nn)), (9, vi ((Ms.length : Nat) : Int)), (8, vi on), (7, vi by_), (6, vi mo), (2, vi ((nn : Nat) : Int)), (1, vr 0), (0, vr SC)]) (by intro q_ h_; simp only [List.mem_cons, List.not_mem_nil, or_false] at h_ ⊢; rcases h_ with rfl | rfl | rfl | rfl | rfl | rfl | rfl | rfl <;> simp) ?_
      exact kx
    · skip
      exfalso; omega
  | succ dd ih =>
    intro r hd_
    have hbd := cn0_bd (g := (fun i => covF (fun j => lbV Ms j i) Ms.length)) r
    have hcs : cn0 (fun i => covF (fun j => lbV Ms j i) Ms.length) (r + 1) = if covF (fun j => lbV Ms j r) Ms.length = 0 then cn0 (fun i => covF (fun j => lbV Ms j i) Ms.length) r + 1 else cn0 (fun i => covF (fun j => lbV Ms j i) Ms.length) r := rfl
    refine V_ld (pc := 897) dL_law_897 (v := vi ((r : Nat) : Int)) rfl rfl ?_
    refine V_ld (pc := 899) dL_law_899 (v := vi ((nn : Nat) : Int)) rfl rfl ?_
    refine V_icmp_ge (pc := 900) dL_law_900 (tgt := 982) rfl (fun h900 => ?_) (fun h900 => ?_)
    · skip
      exfalso; omega
    · skip
      refine V_ld (pc := 903) dL_law_903 (v := vi ((Ms.length : Nat) : Int)) rfl rfl ?_
      refine V_if_lt (pc := 905) dL_law_905 (tgt := 982) rfl (fun h905 => ?_) (fun h905 => ?_)
      · skip
        exfalso; omega
      · skip
        refine V_iconst (pc := 908) dL_law_908 (by unfold I32; omega) ?_
        refine V_st (pc := 909) dL_law_909 (ls' := [(14, vi 0), (13, vi ((r : Nat) : Int)), (12, vi (cn0 (fun i => covF (fun j => lbV Ms j i) Ms.length) r)), (9, vi ((Ms.length : Nat) : Int)), (8, vi on), (7, vi by_), (6, vi mo), (2, vi ((nn : Nat) : Int)), (1, vr 0), (0, vr SC)]) rfl (Nat.le_of_ble_eq_true rfl) rfl ?_
        refine V_iconst (pc := 911) dL_law_911 (by unfold I32; omega) ?_
        refine V_st (pc := 912) dL_law_912 (ls' := [(15, vi 0), (14, vi 0), (13, vi ((r : Nat) : Int)), (12, vi (cn0 (fun i => covF (fun j => lbV Ms j i) Ms.length) r)), (9, vi ((Ms.length : Nat) : Int)), (8, vi on), (7, vi by_), (6, vi mo), (2, vi ((nn : Nat) : Int)), (1, vr 0), (0, vr SC)]) rfl (Nat.le_of_ble_eq_true rfl) rfl ?_
        skip
        refine L_inn hB hnn hM hF (by omega) hm ?_ Ms.length 0 (by omega)
        refine V_ld (pc := 948) dL_law_948 (v := vi (cn0 (fun i => covF (fun j => lbV Ms j i) Ms.length) r)) rfl rfl ?_
        refine V_ld (pc := 950) dL_law_950 (v := vi (covF (fun j => lbV Ms j r) Ms.length)) rfl rfl ?_
        refine V_if_ne (pc := 952) dL_law_952 (tgt := 959) rfl (fun h952 => ?_) (fun h952 => ?_)
        · skip
          refine V_iconst (pc := 959) dL_law_959 (by unfold I32; omega) ?_
          refine V_iadd (pc := 960) dL_law_960 (by unfold I32 at *; omega) ?_
          refine V_st (pc := 961) dL_law_961 (ls' := [(12, vi ((cn0 (fun i => covF (fun j => lbV Ms j i) Ms.length) r) + 0)), (14, vi (covF (fun j => lbV Ms j r) Ms.length)), (13, vi ((r : Nat) : Int)), (9, vi ((Ms.length : Nat) : Int)), (8, vi on), (7, vi by_), (6, vi mo), (2, vi ((nn : Nat) : Int)), (1, vr 0), (0, vr SC)]) rfl (Nat.le_of_ble_eq_true rfl) rfl ?_
          refine V_ld (pc := 963) dL_law_963 (v := vr 0) rfl rfl ?_
          refine V_ld (pc := 964) dL_law_964 (v := vi ((r : Nat) : Int)) rfl rfl ?_
          refine V_callV (pc := 966) dL_law_966 (F' := 4) (As := [vi ((r : Nat) : Int)]) (st := []) cw_RL_202 rfl rfl (hm.sb hB (by omega)).1.1.t0 (by decide) (Nat.le_of_ble_eq_true rfl) (by omega) (l_covered hB hm (by omega) hM (by omega)) ?_
          rintro _ _ ⟨x966, rfl, hx966, rfl⟩ ok966 le966
          subst hx966
          rw [Int.toNat_natCast]
          refine V_ld (pc := 969) dL_law_969 (v := vi (covF (fun j => lbV Ms j r) Ms.length)) rfl rfl ?_
          refine V_icmp_eq (pc := 971) dL_law_971 (tgt := 976) rfl (fun h971 => ?_) (fun h971 => ?_)
          · skip
            refine V_iinc (pc := 976) dL_law_976 (x := ((r : Nat) : Int)) (ls' := [(13, vi (((r : Nat) : Int) + 1)), (12, vi ((cn0 (fun i => covF (fun j => lbV Ms j i) Ms.length) r) + 0)), (14, vi (covF (fun j => lbV Ms j r) Ms.length)), (9, vi ((Ms.length : Nat) : Int)), (8, vi on), (7, vi by_), (6, vi mo), (2, vi ((nn : Nat) : Int)), (1, vr 0), (0, vr SC)]) rfl (by unfold I32 at *; omega) (Nat.le_of_ble_eq_true rfl) rfl ?_
            refine V_goto (pc := 979) dL_law_979 (tgt := 897) rfl ?_
            refine V_ls (ls' := [(13, vi (((r : Nat) : Int) + 1)), (12, vi ((cn0 (fun i => covF (fun j => lbV Ms j i) Ms.length) r) + 0)), (9, vi ((Ms.length : Nat) : Int)), (8, vi on), (7, vi by_), (6, vi mo), (2, vi ((nn : Nat) : Int)), (1, vr 0), (0, vr SC)]) (by intro q_ h_; simp only [List.mem_cons, List.not_mem_nil, or_false] at h_ ⊢; rcases h_ with rfl | rfl | rfl | rfl | rfl | rfl | rfl | rfl | rfl <;> simp) ?_
            have h_ := ih (r + 1) (by omega)
            rw [show ((r + 1 : Nat) : Int) = (r : Int) + 1 by omega, hcs] at h_
            first
            | (rw [if_pos (by omega)] at h_; exact h_)
            | (rw [if_neg (by omega)] at h_; rw [Int.add_zero]; exact h_)
          · skip
            exfalso; omega
        · skip
          refine V_iconst (pc := 955) dL_law_955 (by unfold I32; omega) ?_
          refine V_goto (pc := 956) dL_law_956 (tgt := 960) rfl ?_
          refine V_iadd (pc := 960) dL_law_960 (by unfold I32 at *; omega) ?_
          refine V_st (pc := 961) dL_law_961 (ls' := [(12, vi ((cn0 (fun i => covF (fun j => lbV Ms j i) Ms.length) r) + 1)), (14, vi (covF (fun j => lbV Ms j r) Ms.length)), (13, vi ((r : Nat) : Int)), (9, vi ((Ms.length : Nat) : Int)), (8, vi on), (7, vi by_), (6, vi mo), (2, vi ((nn : Nat) : Int)), (1, vr 0), (0, vr SC)]) rfl (Nat.le_of_ble_eq_true rfl) rfl ?_
          refine V_ld (pc := 963) dL_law_963 (v := vr 0) rfl rfl ?_
          refine V_ld (pc := 964) dL_law_964 (v := vi ((r : Nat) : Int)) rfl rfl ?_
          refine V_callV (pc := 966) dL_law_966 (F' := 4) (As := [vi ((r : Nat) : Int)]) (st := []) cw_RL_202 rfl rfl (hm.sb hB (by omega)).1.1.t0 (by decide) (Nat.le_of_ble_eq_true rfl) (by omega) (l_covered hB hm (by omega) hM (by omega)) ?_
          rintro _ _ ⟨x966, rfl, hx966, rfl⟩ ok966 le966
          subst hx966
          rw [Int.toNat_natCast]
          refine V_ld (pc := 969) dL_law_969 (v := vi (covF (fun j => lbV Ms j r) Ms.length)) rfl rfl ?_
          refine V_icmp_eq (pc := 971) dL_law_971 (tgt := 976) rfl (fun h971 => ?_) (fun h971 => ?_)
          · skip
            refine V_iinc (pc := 976) dL_law_976 (x := ((r : Nat) : Int)) (ls' := [(13, vi (((r : Nat) : Int) + 1)), (12, vi ((cn0 (fun i => covF (fun j => lbV Ms j i) Ms.length) r) + 1)), (14, vi (covF (fun j => lbV Ms j r) Ms.length)), (9, vi ((Ms.length : Nat) : Int)), (8, vi on), (7, vi by_), (6, vi mo), (2, vi ((nn : Nat) : Int)), (1, vr 0), (0, vr SC)]) rfl (by unfold I32 at *; omega) (Nat.le_of_ble_eq_true rfl) rfl ?_
            refine V_goto (pc := 979) dL_law_979 (tgt := 897) rfl ?_
            refine V_ls (ls' := [(13, vi (((r : Nat) : Int) + 1)), (12, vi ((cn0 (fun i => covF (fun j => lbV Ms j i) Ms.length) r) + 1)), (9, vi ((Ms.length : Nat) : Int)), (8, vi on), (7, vi by_), (6, vi mo), (2, vi ((nn : Nat) : Int)), (1, vr 0), (0, vr SC)]) (by intro q_ h_; simp only [List.mem_cons, List.not_mem_nil, or_false] at h_ ⊢; rcases h_ with rfl | rfl | rfl | rfl | rfl | rfl | rfl | rfl | rfl <;> simp) ?_
            have h_ := ih (r + 1) (by omega)
            rw [show ((r + 1 : Nat) : Int) = (r : Int) + 1 by omega, hcs] at h_
            first
            | (rw [if_pos (by omega)] at h_; exact h_)
            | (rw [if_neg (by omega)] at h_; rw [Int.add_zero]; exact h_)
          · skip
            exfalso; omega
set_option maxHeartbeats 4000000 in
theorem L_fin {F : Nat} {m0 b : Mem} {post : Option AV → Mem → Prop} {P Q L nn M : Nat} {cx : CX} {Ms : ML} {mo by_ on : Int} (hB : LawB b P Q L cx) (hnn : cx.2.2.1 = (nn : Int) ∧ nn ≤ 7) (hM : MtB b M cx.2.2.1 Ms) (hF : 100 < F) {m : Mem} {M2 : Nat} {Jx : SJ} (hm : LawM b m 0) (hmd : mI b 1 4 = mo ∧ mI b 1 5 = by_ ∧ mI b 1 6 = on ∧ 0 ≤ mo ∧ mo ≤ 3) (hmr : mR b 0 5 = some M2 ∧ (M2 = 5 ∨ M2 = 18)) (hr0 : (rnX cx mo by_ on 33 0 [] Jx).1 = 0) (hr2 : (rnX cx mo by_ on 33 0 [] Jx).2.1 = Ms) (hp : ∀ m, post (some (vi 1)) m) : _root_.Jvm.Pilot.@@N@@.V μL_law F m0 post 982 [(12, vi (cn0 (fun i => covF (fun j => lbV Ms j i) Ms.length) nn)), (9, vi ((Ms.length : Nat) : Int)), (8, vi on), (7, vi by_), (6, vi mo), (2, vi ((nn : Nat) : Int)), (1, vr 0), (0, vr SC)] [] m := by
  refine V_ld (pc := 982) dL_law_982 (v := vi ((Ms.length : Nat) : Int)) rfl rfl ?_
  refine V_if_ge (pc := 984) dL_law_984 (tgt := 1010) rfl (fun h984 => ?_) (fun h984 => ?_)
  · skip
    refine V_ld (pc := 1010) dL_law_1010 (v := vr 0) rfl rfl ?_
    refine V_bipush (pc := 1011) dL_law_1011 (by unfold I32; omega) (by decide) ?_
    refine V_callV (pc := 1013) dL_law_1013 (F' := 4) (As := [vi 8]) (st := []) cw_RL_205 rfl rfl (hm.sb hB (by omega)).1.1.t0 (by decide) (Nat.le_of_ble_eq_true rfl) (by omega) (l_told8 hB hm (by omega) hM hnn) ?_
    rintro _ _ ⟨x1013, rfl, hx1013, rfl⟩ ok1013 le1013
    subst hx1013
    refine V_ld (pc := 1016) dL_law_1016 (v := vi (cn0 (fun i => covF (fun j => lbV Ms j i) Ms.length) nn)) rfl rfl ?_
    refine V_icmp_ne (pc := 1018) dL_law_1018 (tgt := 1044) rfl (fun h1018 => ?_) (fun h1018 => ?_)
    · skip
      exfalso; omega
    · skip
      refine V_ld (pc := 1021) dL_law_1021 (v := vr 0) rfl rfl ?_
      refine V_iconst (pc := 1022) dL_law_1022 (by unfold I32; omega) ?_
      refine V_callV (pc := 1023) dL_law_1023 (F' := 4) (As := [vi 2]) (st := []) cw_RL_205 rfl rfl (hm.sb hB (by omega)).1.1.t0 (by decide) (Nat.le_of_ble_eq_true rfl) (by omega) (l_told2 hB hm (by omega) hM) ?_
      rintro _ _ ⟨x1023, rfl, hx1023, rfl⟩ ok1023 le1023
      subst hx1023
      refine V_ld (pc := 1026) dL_law_1026 (v := vi ((Ms.length : Nat) : Int)) rfl rfl ?_
      refine V_icmp_ne (pc := 1028) dL_law_1028 (tgt := 1044) rfl (fun h1028 => ?_) (fun h1028 => ?_)
      · skip
        exfalso; omega
      · skip
        refine V_ld (pc := 1031) dL_law_1031 (v := vr 0) rfl rfl ?_
        refine V_callV (pc := 1032) dL_law_1032 (F' := 9) (As := []) (st := []) cw_RL_193 rfl rfl (hm.sb hB (by omega)).1.1.t0 (by decide) (Nat.le_of_ble_eq_true rfl) (by omega) (l_runB hB hm (by omega) hmd hmr hM hr0 hr2) ?_
        rintro _ m1032 ⟨x1032, rfl, hx1032, -⟩ ok1032 le1032
        subst hx1032
        refine V_ld (pc := 1035) dL_law_1035 (v := vi ((Ms.length : Nat) : Int)) rfl rfl ?_
        refine V_icmp_ne (pc := 1037) dL_law_1037 (tgt := 1044) rfl (fun h1037 => ?_) (fun h1037 => ?_)
        · skip
          exfalso; omega
        · skip
          refine V_iconst (pc := 1040) dL_law_1040 (by unfold I32; omega) ?_
          refine V_goto (pc := 1041) dL_law_1041 (tgt := 1045) rfl ?_
          exact V_ret (r := some (vi 1)) dL_law_1045 (show (1 : Int) = 0 ∨ (1 : Int) = 1 from Or.inr rfl) (hp _)
  · skip
    exfalso; omega
