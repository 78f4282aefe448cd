/-! THE LAW: matches one by one -/
section LMT
variable {b m : Mem} {P Q L s M j : Nat} {x : CX} {Ms : ML} {n s0 e0 : Int} {le : Nat → Int}
theorem l_match0 (hB : LawB b P Q L x) (hm : LawM b m s) (hs : s ≤ 100) (hM : MtB b M n Ms) (hj : Ms[j]? = some (s0, e0, le)) : Ct μX10_match 4 [vr 0, vi ((j : Nat) : Int), vi 0] m (ri fun y m' => y = s0 ∧ m = m') := l_match hB hm hs hM hj (Or.inl rfl)
theorem l_match1 (hB : LawB b P Q L x) (hm : LawM b m s) (hs : s ≤ 100) (hM : MtB b M n Ms) (hj : Ms[j]? = some (s0, e0, le)) : Ct μX10_match 4 [vr 0, vi ((j : Nat) : Int), vi 1] m (ri fun y m' => y = e0 - s0 ∧ m = m') := l_match hB hm hs hM hj (Or.inr rfl)
end LMT

set_option maxHeartbeats 4000000 in
theorem L_skp {F : Nat} {m0 b : Mem} {post : Option AV → Mem → Prop} {P Q L nn M : Nat} {cx : CX} {Ms : ML} {mo by_ on : Int} (hB : LawB b P Q L cx) (hnn : cx.2.2.1 = (nn : Int) ∧ nn ≤ 7) (hM : MtB b M cx.2.2.1 Ms) (hF : 100 < F) {j : Nat} {s0 e0 fr nx : Int} (h0 : 0 ≤ nx) (hsn : s0 ≤ ((nn : Nat) : Int)) (hf : ∀ k, nx ≤ k → k < s0 → FaI cx on k)
    (kx : ∀ m, LawM b m 0 → _root_.Jvm.Pilot.@@N@@.V μL_law F m0 post 637 [(14, vi (e0 - s0)), (13, vi s0), (12, vi ((j : Nat) : Int)), (11, vi fr), (10, vi nx), (9, vi ((Ms.length : Nat) : Int)), (8, vi on), (7, vi by_), (6, vi mo), (2, vi ((nn : Nat) : Int)), (1, vr 0), (0, vr SC)] [] m) : ∀ (dd : Nat) (k : Int) (m : Mem), (dd : Int) + k = s0 → nx ≤ k → LawM b m 0 → _root_.Jvm.Pilot.@@N@@.V μL_law F m0 post 591 [(15, vi k), (14, vi (e0 - s0)), (13, vi s0), (12, vi ((j : Nat) : Int)), (11, vi fr), (10, vi nx), (9, vi ((Ms.length : Nat) : Int)), (8, vi on), (7, vi by_), (6, vi mo), (2, vi ((nn : Nat) : Int)), (1, vr 0), (0, vr SC)] [] m := by
  intro dd
  induction dd with
  | zero =>
    intro k m hd_ hk hm
    refine V_ld (pc := 591) dL_law_591 (v := vi k) rfl rfl ?_
    refine V_ld (pc := 593) dL_law_593 (v := vi s0) rfl rfl ?_
    refine V_icmp_ge (pc := 595) dL_law_595 (tgt := 637) rfl (fun h595 => ?_) (fun h595 => ?_)
    · skip
      refine V_ls (ls' := [(14, vi (e0 - s0)), (13, vi s0), (12, vi ((j : Nat) : Int)), (11, vi fr), (10, vi nx), (9, vi ((Ms.length : Nat) : Int)), (8, vi on), (7, vi by_), (6, vi mo), (2, vi ((nn : Nat) : Int)), (1, vr 0), (0, vr SC)]) (by intro q_ h_; simp only [List.mem_cons, List.not_mem_nil, or_false] at h_ ⊢; rcases h_ with rfl | rfl | rfl | rfl | rfl | rfl | rfl | rfl | rfl | rfl | rfl | rfl <;> simp) ?_
      exact kx m hm
    · skip
      exfalso; omega
  | succ dd ih =>
    intro k m hd_ hk hm
    have hfk := hf k hk (by omega)
    unfold FaI at hfk
    generalize hfv : fV cx k = fv at hfk
    refine V_ld (pc := 591) dL_law_591 (v := vi k) rfl rfl ?_
    refine V_ld (pc := 593) dL_law_593 (v := vi s0) rfl rfl ?_
    refine V_icmp_ge (pc := 595) dL_law_595 (tgt := 637) rfl (fun h595 => ?_) (fun h595 => ?_)
    · skip
      exfalso; omega
    · skip
      refine V_ld (pc := 598) dL_law_598 (v := vr 0) rfl rfl ?_
      refine V_ld (pc := 599) dL_law_599 (v := vi k) rfl rfl ?_
      refine V_callV (pc := 601) dL_law_601 (F' := 8) (As := [vi k]) (st := []) cw_RL_165 rfl rfl (hm.sb hB (by omega)).1.1.t0 (by decide) (Nat.le_of_ble_eq_true rfl) (by omega) (l_first hB hm (by omega) (by omega)) ?_
      rintro _ m601 ⟨x601, rfl, hx601, hm601⟩ ok601 le601
      subst hx601
      rw [hfv]
      refine V_st (pc := 604) dL_law_604 (ls' := [(16, vi fv), (15, vi k), (14, vi (e0 - s0)), (13, vi s0), (12, vi ((j : Nat) : Int)), (11, vi fr), (10, vi nx), (9, vi ((Ms.length : Nat) : Int)), (8, vi on), (7, vi by_), (6, vi mo), (2, vi ((nn : Nat) : Int)), (1, vr 0), (0, vr SC)]) rfl (Nat.le_of_ble_eq_true rfl) rfl ?_
      refine V_ld (pc := 606) dL_law_606 (v := vi fv) rfl rfl ?_
      refine V_if_gt (pc := 608) dL_law_608 (tgt := 629) rfl (fun h608 => ?_) (fun h608 => ?_)
      · skip
        exfalso; omega
      · skip
        refine V_ld (pc := 611) dL_law_611 (v := vi fv) rfl rfl ?_
        refine V_if_ne (pc := 613) dL_law_613 (tgt := 622) rfl (fun h613 => ?_) (fun h613 => ?_)
        · skip
          refine V_ld (pc := 622) dL_law_622 (v := vi fv) rfl rfl ?_
          refine V_bipush (pc := 624) dL_law_624 (by unfold I32; omega) (by decide) ?_
          refine V_icmp_ne (pc := 626) dL_law_626 (tgt := 631) rfl (fun h626 => ?_) (fun h626 => ?_)
          · skip
            refine V_iinc (pc := 631) dL_law_631 (x := k) (ls' := [(15, vi (k + 1)), (16, vi fv), (14, vi (e0 - s0)), (13, vi s0), (12, vi ((j : Nat) : Int)), (11, vi fr), (10, vi nx), (9, vi ((Ms.length : Nat) : Int)), (8, vi on), (7, vi by_), (6, vi mo), (2, vi ((nn : Nat) : Int)), (1, vr 0), (0, vr SC)]) rfl (by unfold I32 at *; omega) (Nat.le_of_ble_eq_true rfl) rfl ?_
            refine V_goto (pc := 634) dL_law_634 (tgt := 591) rfl ?_
            refine V_ls (ls' := [(15, vi (k + 1)), (14, vi (e0 - s0)), (13, vi s0), (12, vi ((j : Nat) : Int)), (11, vi fr), (10, vi nx), (9, vi ((Ms.length : Nat) : Int)), (8, vi on), (7, vi by_), (6, vi mo), (2, vi ((nn : Nat) : Int)), (1, vr 0), (0, vr SC)]) (by intro q_ h_; simp only [List.mem_cons, List.not_mem_nil, or_false] at h_ ⊢; rcases h_ with rfl | rfl | rfl | rfl | rfl | rfl | rfl | rfl | rfl | rfl | rfl | rfl | rfl <;> simp) ?_
            exact ih (k + 1) m601 (by omega) (by omega) hm601.1
          · skip
            exfalso; omega
        · skip
          refine V_ld (pc := 616) dL_law_616 (v := vi on) rfl rfl ?_
          refine V_iconst (pc := 618) dL_law_618 (by unfold I32; omega) ?_
          refine V_icmp_eq (pc := 619) dL_law_619 (tgt := 629) rfl (fun h619 => ?_) (fun h619 => ?_)
          · skip
            exfalso; omega
          · skip
            refine V_ld (pc := 622) dL_law_622 (v := vi fv) rfl rfl ?_
            refine V_bipush (pc := 624) dL_law_624 (by unfold I32; omega) (by decide) ?_
            refine V_icmp_ne (pc := 626) dL_law_626 (tgt := 631) rfl (fun h626 => ?_) (fun h626 => ?_)
            · skip
              refine V_iinc (pc := 631) dL_law_631 (x := k) (ls' := [(15, vi (k + 1)), (16, vi fv), (14, vi (e0 - s0)), (13, vi s0), (12, vi ((j : Nat) : Int)), (11, vi fr), (10, vi nx), (9, vi ((Ms.length : Nat) : Int)), (8, vi on), (7, vi by_), (6, vi mo), (2, vi ((nn : Nat) : Int)), (1, vr 0), (0, vr SC)]) rfl (by unfold I32 at *; omega) (Nat.le_of_ble_eq_true rfl) rfl ?_
              refine V_goto (pc := 634) dL_law_634 (tgt := 591) rfl ?_
              refine V_ls (ls' := [(15, vi (k + 1)), (14, vi (e0 - s0)), (13, vi s0), (12, vi ((j : Nat) : Int)), (11, vi fr), (10, vi nx), (9, vi ((Ms.length : Nat) : Int)), (8, vi on), (7, vi by_), (6, vi mo), (2, vi ((nn : Nat) : Int)), (1, vr 0), (0, vr SC)]) (by intro q_ h_; simp only [List.mem_cons, List.not_mem_nil, or_false] at h_ ⊢; rcases h_ with rfl | rfl | rfl | rfl | rfl | rfl | rfl | rfl | rfl | rfl | rfl | rfl | rfl <;> simp) ?_
              exact ih (k + 1) m601 (by omega) (by omega) hm601.1
            · skip
              exfalso; omega
set_option maxHeartbeats 8000000 in
theorem L_lbl {F : Nat} {m0 b : Mem} {post : Option AV → Mem → Prop} {P Q L nn M : Nat} {cx : CX} {Ms : ML} {mo by_ on : Int} (hB : LawB b P Q L cx) (hnn : cx.2.2.1 = (nn : Int) ∧ nn ≤ 7) (hM : MtB b M cx.2.2.1 Ms) (hF : 100 < F) {j : Nat} {s0 e0 : Int} {le : Nat → Int} (hj : Ms[j]? = some (s0, e0, le)) (h0 : 0 ≤ s0 ∧ s0 ≤ e0 ∧ e0 ≤ ((nn : Nat) : Int)) (hle : ∀ k : Nat, s0 ≤ (k : Int) → (k : Int) < e0 → le k = wV cx s0 ((k : Int) - s0))
    (kx : ∀ m g, (mo = 3 → g = G3 by_ s0 le (e0 - s0).toNat) → LawM b m 0 → _root_.Jvm.Pilot.@@N@@.V μL_law F m0 post 768 [(15, vi g), (14, vi (e0 - s0)), (13, vi s0), (12, vi ((j : Nat) : Int)), (9, vi ((Ms.length : Nat) : Int)), (8, vi on), (7, vi by_), (6, vi mo), (2, vi ((nn : Nat) : Int)), (1, vr 0), (0, vr SC)] [] m) : ∀ (dd k : Nat) (g fr : Int) (m : Mem), dd + k = (e0 - s0).toNat → (mo = 3 → g = G3 by_ s0 le k) → LawM b m 0 → _root_.Jvm.Pilot.@@N@@.V μL_law F m0 post 646 [(16, vi ((k : Nat) : Int)), (15, vi g), (14, vi (e0 - s0)), (13, vi s0), (12, vi ((j : Nat) : Int)), (11, vi fr), (9, vi ((Ms.length : Nat) : Int)), (8, vi on), (7, vi by_), (6, vi mo), (2, vi ((nn : Nat) : Int)), (1, vr 0), (0, vr SC)] [] m := by
  have hjl : j < Ms.length := (List.getElem?_eq_some_iff.mp hj).1
  intro dd
  induction dd with
  | zero =>
    intro k g fr m hd_ hg hm
    have ek : k = (e0 - s0).toNat := by omega
    refine V_ld (pc := 646) dL_law_646 (v := vi ((k : Nat) : Int)) rfl rfl ?_
    refine V_ld (pc := 648) dL_law_648 (v := vi (e0 - s0)) rfl rfl ?_
    refine V_icmp_ge (pc := 650) dL_law_650 (tgt := 768) rfl (fun h650 => ?_) (fun h650 => ?_)
    · skip
      refine V_ls (ls' := [(15, vi g), (14, vi (e0 - s0)), (13, vi s0), (12, vi ((j : Nat) : Int)), (9, vi ((Ms.length : Nat) : Int)), (8, vi on), (7, vi by_), (6, vi mo), (2, vi ((nn : Nat) : Int)), (1, vr 0), (0, vr SC)]) (by intro q_ h_; simp only [List.mem_cons, List.not_mem_nil, or_false] at h_ ⊢; rcases h_ with rfl | rfl | rfl | rfl | rfl | rfl | rfl | rfl | rfl | rfl | rfl <;> simp) ?_
      exact kx m g (fun h => by rw [hg h, ek]) hm
    · skip
      exfalso; omega
  | succ dd ih =>
    intro k g fr m hd_ hg hm
    have hlk : le (s0 + ((k : Nat) : Int)).toNat = wV cx s0 ((k : Nat) : Int) := by
      have h_ := hle (s0 + ((k : Nat) : Int)).toNat (by omega) (by omega)
      rw [show (((s0 + ((k : Nat) : Int)).toNat : Nat) : Int) - s0 = ((k : Nat) : Int) by omega] at h_
      exact h_
    have hlb : lbV Ms j (s0 + ((k : Nat) : Int)).toNat = wV cx s0 ((k : Nat) : Int) := by
      rw [lbV_s hj, if_pos (by omega)]; exact hlk
    have hG := G3_s (by_ := by_) (le := le) h0.1 k
    rw [hlk] at hG
    refine V_ld (pc := 646) dL_law_646 (v := vi ((k : Nat) : Int)) rfl rfl ?_
    refine V_ld (pc := 648) dL_law_648 (v := vi (e0 - s0)) rfl rfl ?_
    refine V_icmp_ge (pc := 650) dL_law_650 (tgt := 768) rfl (fun h650 => ?_) (fun h650 => ?_)
    · skip
      exfalso; omega
    · skip
      refine V_ld (pc := 653) dL_law_653 (v := vr 0) rfl rfl ?_
      refine V_ld (pc := 654) dL_law_654 (v := vi ((j : Nat) : Int)) rfl rfl ?_
      refine V_ld (pc := 656) dL_law_656 (v := vi s0) rfl rfl ?_
      refine V_ld (pc := 658) dL_law_658 (v := vi ((k : Nat) : Int)) rfl rfl ?_
      refine V_iadd (pc := 660) dL_law_660 (by unfold I32 at *; omega) ?_
      refine V_callV (pc := 661) dL_law_661 (F' := 4) (As := [vi ((j : Nat) : Int), vi (s0 + ((k : Nat) : Int))]) (st := []) cw_RL_199 rfl rfl (hm.sb hB (by omega)).1.1.t0 (by decide) (Nat.le_of_ble_eq_true rfl) (by omega) (l_label hB hm (by omega) hM hjl (by omega)) ?_
      rintro _ _ ⟨x661, rfl, hx661, rfl⟩ ok661 le661
      subst hx661
      rw [hlb]
      refine V_ld (pc := 664) dL_law_664 (v := vr 0) rfl rfl ?_
      refine V_ld (pc := 665) dL_law_665 (v := vi s0) rfl rfl ?_
      refine V_ld (pc := 667) dL_law_667 (v := vi ((k : Nat) : Int)) rfl rfl ?_
      refine V_callV (pc := 669) dL_law_669 (F' := 8) (As := [vi s0, vi ((k : Nat) : Int)]) (st := [vi (wV cx s0 ((k : Nat) : Int))]) cw_RL_174 rfl rfl (hm.sb hB (by omega)).1.1.t0 (by decide) (Nat.le_of_ble_eq_true rfl) (by omega) (l_way hB hm (by omega) (by omega)) ?_
      rintro _ m669 ⟨x669, rfl, hx669, hm669⟩ ok669 le669
      subst hx669
      refine V_icmp_eq (pc := 672) dL_law_672 (tgt := 677) rfl (fun h672 => ?_) (fun h672 => ?_)
      · skip
        refine V_ld (pc := 677) dL_law_677 (v := vr 0) rfl rfl ?_
        refine V_ld (pc := 678) dL_law_678 (v := vi s0) rfl rfl ?_
        refine V_ld (pc := 680) dL_law_680 (v := vi ((k : Nat) : Int)) rfl rfl ?_
        refine V_callV (pc := 682) dL_law_682 (F' := 8) (As := [vi s0, vi ((k : Nat) : Int)]) (st := []) cw_RL_174 rfl rfl (hm669.1.sb hB (by omega)).1.1.t0 (by decide) (Nat.le_of_ble_eq_true rfl) (by omega) (l_way hB hm669.1 (by omega) (by omega)) ?_
        rintro _ m682 ⟨x682, rfl, hx682, hm682⟩ ok682 le682
        subst hx682
        refine V_ld (pc := 685) dL_law_685 (v := vi by_) rfl rfl ?_
        refine V_icmp_ne (pc := 687) dL_law_687 (tgt := 713) rfl (fun h687 => ?_) (fun h687 => ?_)
        · skip
          refine V_iconst (pc := 713) dL_law_713 (by unfold I32; omega) ?_
          refine V_st (pc := 714) dL_law_714 (ls' := [(17, vi 0), (16, vi ((k : Nat) : Int)), (15, vi g), (14, vi (e0 - s0)), (13, vi s0), (12, vi ((j : Nat) : Int)), (11, vi fr), (9, vi ((Ms.length : Nat) : Int)), (8, vi on), (7, vi by_), (6, vi mo), (2, vi ((nn : Nat) : Int)), (1, vr 0), (0, vr SC)]) rfl (Nat.le_of_ble_eq_true rfl) rfl ?_
          refine V_ld (pc := 716) dL_law_716 (v := vi 0) rfl rfl ?_
          refine V_if_eq (pc := 718) dL_law_718 (tgt := 731) rfl (fun _ => ?_) (fun h_ => absurd h_ (by decide))
          refine V_ld (pc := 731) dL_law_731 (v := vi fr) rfl rfl ?_
          refine V_st (pc := 733) dL_law_733 (ls' := [(11, vi fr), (17, vi 0), (16, vi ((k : Nat) : Int)), (15, vi g), (14, vi (e0 - s0)), (13, vi s0), (12, vi ((j : Nat) : Int)), (9, vi ((Ms.length : Nat) : Int)), (8, vi on), (7, vi by_), (6, vi mo), (2, vi ((nn : Nat) : Int)), (1, vr 0), (0, vr SC)]) rfl (Nat.le_of_ble_eq_true rfl) rfl ?_
          refine V_ld (pc := 735) dL_law_735 (v := vi 0) rfl rfl ?_
          refine V_if_eq (pc := 737) dL_law_737 (tgt := 758) rfl (fun _ => ?_) (fun h_ => absurd h_ (by decide))
          refine V_ld (pc := 758) dL_law_758 (v := vi g) rfl rfl ?_
          refine V_st (pc := 760) dL_law_760 (ls' := [(15, vi g), (11, vi fr), (17, vi 0), (16, vi ((k : Nat) : Int)), (14, vi (e0 - s0)), (13, vi s0), (12, vi ((j : Nat) : Int)), (9, vi ((Ms.length : Nat) : Int)), (8, vi on), (7, vi by_), (6, vi mo), (2, vi ((nn : Nat) : Int)), (1, vr 0), (0, vr SC)]) rfl (Nat.le_of_ble_eq_true rfl) rfl ?_
          refine V_iinc (pc := 762) dL_law_762 (x := ((k : Nat) : Int)) (ls' := [(16, vi (((k : Nat) : Int) + 1)), (15, vi g), (11, vi fr), (17, vi 0), (14, vi (e0 - s0)), (13, vi s0), (12, vi ((j : Nat) : Int)), (9, vi ((Ms.length : Nat) : Int)), (8, vi on), (7, vi by_), (6, vi mo), (2, vi ((nn : Nat) : Int)), (1, vr 0), (0, vr SC)]) rfl (by unfold I32 at *; omega) (Nat.le_of_ble_eq_true rfl) rfl ?_
          refine V_goto (pc := 765) dL_law_765 (tgt := 646) rfl ?_
          refine V_ls (ls' := [(16, vi (((k : Nat) : Int) + 1)), (15, vi g), (14, vi (e0 - s0)), (13, vi s0), (12, vi ((j : Nat) : Int)), (11, vi fr), (9, vi ((Ms.length : Nat) : Int)), (8, vi on), (7, vi by_), (6, vi mo), (2, vi ((nn : Nat) : Int)), (1, vr 0), (0, vr SC)]) (by intro q_ h_; simp only [List.mem_cons, List.not_mem_nil, or_false] at h_ ⊢; rcases h_ with rfl | rfl | rfl | rfl | rfl | rfl | rfl | rfl | rfl | rfl | rfl | rfl | rfl <;> simp) ?_
          have h_ := ih (k + 1) g fr _ (by omega) (fun h3 => by
            have hg3 := hg h3
            first
            | (exfalso; omega)
            | (rw [hG, if_pos (by omega)]; done)
            | (rw [hG, if_neg (by omega)]; exact hg3)) hm682.1
          rw [show ((k + 1 : Nat) : Int) = (k : Int) + 1 by omega] at h_
          exact h_
        · skip
          refine V_ld (pc := 690) dL_law_690 (v := vi mo) rfl rfl ?_
          refine V_iconst (pc := 692) dL_law_692 (by unfold I32; omega) ?_
          refine V_icmp_eq (pc := 693) dL_law_693 (tgt := 709) rfl (fun h693 => ?_) (fun h693 => ?_)
          · skip
            refine V_iconst (pc := 709) dL_law_709 (by unfold I32; omega) ?_
            refine V_goto (pc := 710) dL_law_710 (tgt := 714) rfl ?_
            refine V_st (pc := 714) dL_law_714 (ls' := [(17, vi 1), (16, vi ((k : Nat) : Int)), (15, vi g), (14, vi (e0 - s0)), (13, vi s0), (12, vi ((j : Nat) : Int)), (11, vi fr), (9, vi ((Ms.length : Nat) : Int)), (8, vi on), (7, vi by_), (6, vi mo), (2, vi ((nn : Nat) : Int)), (1, vr 0), (0, vr SC)]) rfl (Nat.le_of_ble_eq_true rfl) rfl ?_
            refine V_ld (pc := 716) dL_law_716 (v := vi 1) rfl rfl ?_
            refine V_if_eq (pc := 718) dL_law_718 (tgt := 731) rfl (fun h_ => absurd h_ (by decide)) (fun _ => ?_)
            refine V_ld (pc := 721) dL_law_721 (v := vi s0) rfl rfl ?_
            refine V_ld (pc := 723) dL_law_723 (v := vi ((k : Nat) : Int)) rfl rfl ?_
            refine V_iadd (pc := 725) dL_law_725 (by unfold I32 at *; omega) ?_
            refine V_iconst (pc := 726) dL_law_726 (by unfold I32; omega) ?_
            refine V_iadd (pc := 727) dL_law_727 (by unfold I32 at *; omega) ?_
            refine V_goto (pc := 728) dL_law_728 (tgt := 733) rfl ?_
            refine V_st (pc := 733) dL_law_733 (ls' := [(11, vi ((s0 + ((k : Nat) : Int)) + 1)), (17, vi 1), (16, vi ((k : Nat) : Int)), (15, vi g), (14, vi (e0 - s0)), (13, vi s0), (12, vi ((j : Nat) : Int)), (9, vi ((Ms.length : Nat) : Int)), (8, vi on), (7, vi by_), (6, vi mo), (2, vi ((nn : Nat) : Int)), (1, vr 0), (0, vr SC)]) rfl (Nat.le_of_ble_eq_true rfl) rfl ?_
            refine V_ld (pc := 735) dL_law_735 (v := vi 1) rfl rfl ?_
            refine V_if_eq (pc := 737) dL_law_737 (tgt := 758) rfl (fun h_ => absurd h_ (by decide)) (fun _ => ?_)
            refine V_ld (pc := 740) dL_law_740 (v := vi s0) rfl rfl ?_
            refine V_ld (pc := 742) dL_law_742 (v := vi ((k : Nat) : Int)) rfl rfl ?_
            refine V_iadd (pc := 744) dL_law_744 (by unfold I32 at *; omega) ?_
            refine V_ld (pc := 745) dL_law_745 (v := vi g) rfl rfl ?_
            refine V_icmp_le (pc := 747) dL_law_747 (tgt := 758) rfl (fun h747 => ?_) (fun h747 => ?_)
            · skip
              refine V_ld (pc := 758) dL_law_758 (v := vi g) rfl rfl ?_
              refine V_st (pc := 760) dL_law_760 (ls' := [(15, vi g), (11, vi ((s0 + ((k : Nat) : Int)) + 1)), (17, vi 1), (16, vi ((k : Nat) : Int)), (14, vi (e0 - s0)), (13, vi s0), (12, vi ((j : Nat) : Int)), (9, vi ((Ms.length : Nat) : Int)), (8, vi on), (7, vi by_), (6, vi mo), (2, vi ((nn : Nat) : Int)), (1, vr 0), (0, vr SC)]) rfl (Nat.le_of_ble_eq_true rfl) rfl ?_
              refine V_iinc (pc := 762) dL_law_762 (x := ((k : Nat) : Int)) (ls' := [(16, vi (((k : Nat) : Int) + 1)), (15, vi g), (11, vi ((s0 + ((k : Nat) : Int)) + 1)), (17, vi 1), (14, vi (e0 - s0)), (13, vi s0), (12, vi ((j : Nat) : Int)), (9, vi ((Ms.length : Nat) : Int)), (8, vi on), (7, vi by_), (6, vi mo), (2, vi ((nn : Nat) : Int)), (1, vr 0), (0, vr SC)]) rfl (by unfold I32 at *; omega) (Nat.le_of_ble_eq_true rfl) rfl ?_
              refine V_goto (pc := 765) dL_law_765 (tgt := 646) rfl ?_
              refine V_ls (ls' := [(16, vi (((k : Nat) : Int) + 1)), (15, vi g), (14, vi (e0 - s0)), (13, vi s0), (12, vi ((j : Nat) : Int)), (11, vi ((s0 + ((k : Nat) : Int)) + 1)), (9, vi ((Ms.length : Nat) : Int)), (8, vi on), (7, vi by_), (6, vi mo), (2, vi ((nn : Nat) : Int)), (1, vr 0), (0, vr SC)]) (by intro q_ h_; simp only [List.mem_cons, List.not_mem_nil, or_false] at h_ ⊢; rcases h_ with rfl | rfl | rfl | rfl | rfl | rfl | rfl | rfl | rfl | rfl | rfl | rfl | rfl <;> simp) ?_
              have h_ := ih (k + 1) g ((s0 + ((k : Nat) : Int)) + 1) _ (by omega) (fun h3 => by
                have hg3 := hg h3
                first
                | (exfalso; omega)
                | (rw [hG, if_pos (by omega)]; done)
                | (rw [hG, if_neg (by omega)]; exact hg3)) hm682.1
              rw [show ((k + 1 : Nat) : Int) = (k : Int) + 1 by omega] at h_
              exact h_
            · skip
              refine V_ld (pc := 750) dL_law_750 (v := vi s0) rfl rfl ?_
              refine V_ld (pc := 752) dL_law_752 (v := vi ((k : Nat) : Int)) rfl rfl ?_
              refine V_iadd (pc := 754) dL_law_754 (by unfold I32 at *; omega) ?_
              refine V_goto (pc := 755) dL_law_755 (tgt := 760) rfl ?_
              refine V_st (pc := 760) dL_law_760 (ls' := [(15, vi (s0 + ((k : Nat) : Int))), (11, vi ((s0 + ((k : Nat) : Int)) + 1)), (17, vi 1), (16, vi ((k : Nat) : Int)), (14, vi (e0 - s0)), (13, vi s0), (12, vi ((j : Nat) : Int)), (9, vi ((Ms.length : Nat) : Int)), (8, vi on), (7, vi by_), (6, vi mo), (2, vi ((nn : Nat) : Int)), (1, vr 0), (0, vr SC)]) rfl (Nat.le_of_ble_eq_true rfl) rfl ?_
              refine V_iinc (pc := 762) dL_law_762 (x := ((k : Nat) : Int)) (ls' := [(16, vi (((k : Nat) : Int) + 1)), (15, vi (s0 + ((k : Nat) : Int))), (11, vi ((s0 + ((k : Nat) : Int)) + 1)), (17, vi 1), (14, vi (e0 - s0)), (13, vi s0), (12, vi ((j : Nat) : Int)), (9, vi ((Ms.length : Nat) : Int)), (8, vi on), (7, vi by_), (6, vi mo), (2, vi ((nn : Nat) : Int)), (1, vr 0), (0, vr SC)]) rfl (by unfold I32 at *; omega) (Nat.le_of_ble_eq_true rfl) rfl ?_
              refine V_goto (pc := 765) dL_law_765 (tgt := 646) rfl ?_
              refine V_ls (ls' := [(16, vi (((k : Nat) : Int) + 1)), (15, vi (s0 + ((k : Nat) : Int))), (14, vi (e0 - s0)), (13, vi s0), (12, vi ((j : Nat) : Int)), (11, vi ((s0 + ((k : Nat) : Int)) + 1)), (9, vi ((Ms.length : Nat) : Int)), (8, vi on), (7, vi by_), (6, vi mo), (2, vi ((nn : Nat) : Int)), (1, vr 0), (0, vr SC)]) (by intro q_ h_; simp only [List.mem_cons, List.not_mem_nil, or_false] at h_ ⊢; rcases h_ with rfl | rfl | rfl | rfl | rfl | rfl | rfl | rfl | rfl | rfl | rfl | rfl | rfl <;> simp) ?_
              have h_ := ih (k + 1) (s0 + ((k : Nat) : Int)) ((s0 + ((k : Nat) : Int)) + 1) _ (by omega) (fun h3 => by
                have hg3 := hg h3
                first
                | (exfalso; omega)
                | (rw [hG, if_pos (by omega)]; done)
                | (rw [hG, if_neg (by omega)]; exact hg3)) hm682.1
              rw [show ((k + 1 : Nat) : Int) = (k : Int) + 1 by omega] at h_
              exact h_
          · skip
            refine V_ld (pc := 696) dL_law_696 (v := vi mo) rfl rfl ?_
            refine V_iconst (pc := 698) dL_law_698 (by unfold I32; omega) ?_
            refine V_icmp_ne (pc := 699) dL_law_699 (tgt := 713) rfl (fun h699 => ?_) (fun h699 => ?_)
            · skip
              refine V_iconst (pc := 713) dL_law_713 (by unfold I32; omega) ?_
              refine V_st (pc := 714) dL_law_714 (ls' := [(17, vi 0), (16, vi ((k : Nat) : Int)), (15, vi g), (14, vi (e0 - s0)), (13, vi s0), (12, vi ((j : Nat) : Int)), (11, vi fr), (9, vi ((Ms.length : Nat) : Int)), (8, vi on), (7, vi by_), (6, vi mo), (2, vi ((nn : Nat) : Int)), (1, vr 0), (0, vr SC)]) rfl (Nat.le_of_ble_eq_true rfl) rfl ?_
              refine V_ld (pc := 716) dL_law_716 (v := vi 0) rfl rfl ?_
              refine V_if_eq (pc := 718) dL_law_718 (tgt := 731) rfl (fun _ => ?_) (fun h_ => absurd h_ (by decide))
              refine V_ld (pc := 731) dL_law_731 (v := vi fr) rfl rfl ?_
              refine V_st (pc := 733) dL_law_733 (ls' := [(11, vi fr), (17, vi 0), (16, vi ((k : Nat) : Int)), (15, vi g), (14, vi (e0 - s0)), (13, vi s0), (12, vi ((j : Nat) : Int)), (9, vi ((Ms.length : Nat) : Int)), (8, vi on), (7, vi by_), (6, vi mo), (2, vi ((nn : Nat) : Int)), (1, vr 0), (0, vr SC)]) rfl (Nat.le_of_ble_eq_true rfl) rfl ?_
              refine V_ld (pc := 735) dL_law_735 (v := vi 0) rfl rfl ?_
              refine V_if_eq (pc := 737) dL_law_737 (tgt := 758) rfl (fun _ => ?_) (fun h_ => absurd h_ (by decide))
              refine V_ld (pc := 758) dL_law_758 (v := vi g) rfl rfl ?_
              refine V_st (pc := 760) dL_law_760 (ls' := [(15, vi g), (11, vi fr), (17, vi 0), (16, vi ((k : Nat) : Int)), (14, vi (e0 - s0)), (13, vi s0), (12, vi ((j : Nat) : Int)), (9, vi ((Ms.length : Nat) : Int)), (8, vi on), (7, vi by_), (6, vi mo), (2, vi ((nn : Nat) : Int)), (1, vr 0), (0, vr SC)]) rfl (Nat.le_of_ble_eq_true rfl) rfl ?_
              refine V_iinc (pc := 762) dL_law_762 (x := ((k : Nat) : Int)) (ls' := [(16, vi (((k : Nat) : Int) + 1)), (15, vi g), (11, vi fr), (17, vi 0), (14, vi (e0 - s0)), (13, vi s0), (12, vi ((j : Nat) : Int)), (9, vi ((Ms.length : Nat) : Int)), (8, vi on), (7, vi by_), (6, vi mo), (2, vi ((nn : Nat) : Int)), (1, vr 0), (0, vr SC)]) rfl (by unfold I32 at *; omega) (Nat.le_of_ble_eq_true rfl) rfl ?_
              refine V_goto (pc := 765) dL_law_765 (tgt := 646) rfl ?_
              refine V_ls (ls' := [(16, vi (((k : Nat) : Int) + 1)), (15, vi g), (14, vi (e0 - s0)), (13, vi s0), (12, vi ((j : Nat) : Int)), (11, vi fr), (9, vi ((Ms.length : Nat) : Int)), (8, vi on), (7, vi by_), (6, vi mo), (2, vi ((nn : Nat) : Int)), (1, vr 0), (0, vr SC)]) (by intro q_ h_; simp only [List.mem_cons, List.not_mem_nil, or_false] at h_ ⊢; rcases h_ with rfl | rfl | rfl | rfl | rfl | rfl | rfl | rfl | rfl | rfl | rfl | rfl | rfl <;> simp) ?_
              have h_ := ih (k + 1) g fr _ (by omega) (fun h3 => by
                have hg3 := hg h3
                first
                | (exfalso; omega)
                | (rw [hG, if_pos (by omega)]; done)
                | (rw [hG, if_neg (by omega)]; exact hg3)) hm682.1
              rw [show ((k + 1 : Nat) : Int) = (k : Int) + 1 by omega] at h_
              exact h_
            · skip
              refine V_ld (pc := 702) dL_law_702 (v := vi fr) rfl rfl ?_
              refine V_ld (pc := 704) dL_law_704 (v := vi s0) rfl rfl ?_
              refine V_icmp_gt (pc := 706) dL_law_706 (tgt := 713) rfl (fun h706 => ?_) (fun h706 => ?_)
              · skip
                refine V_iconst (pc := 713) dL_law_713 (by unfold I32; omega) ?_
                refine V_st (pc := 714) dL_law_714 (ls' := [(17, vi 0), (16, vi ((k : Nat) : Int)), (15, vi g), (14, vi (e0 - s0)), (13, vi s0), (12, vi ((j : Nat) : Int)), (11, vi fr), (9, vi ((Ms.length : Nat) : Int)), (8, vi on), (7, vi by_), (6, vi mo), (2, vi ((nn : Nat) : Int)), (1, vr 0), (0, vr SC)]) rfl (Nat.le_of_ble_eq_true rfl) rfl ?_
                refine V_ld (pc := 716) dL_law_716 (v := vi 0) rfl rfl ?_
                refine V_if_eq (pc := 718) dL_law_718 (tgt := 731) rfl (fun _ => ?_) (fun h_ => absurd h_ (by decide))
                refine V_ld (pc := 731) dL_law_731 (v := vi fr) rfl rfl ?_
                refine V_st (pc := 733) dL_law_733 (ls' := [(11, vi fr), (17, vi 0), (16, vi ((k : Nat) : Int)), (15, vi g), (14, vi (e0 - s0)), (13, vi s0), (12, vi ((j : Nat) : Int)), (9, vi ((Ms.length : Nat) : Int)), (8, vi on), (7, vi by_), (6, vi mo), (2, vi ((nn : Nat) : Int)), (1, vr 0), (0, vr SC)]) rfl (Nat.le_of_ble_eq_true rfl) rfl ?_
                refine V_ld (pc := 735) dL_law_735 (v := vi 0) rfl rfl ?_
                refine V_if_eq (pc := 737) dL_law_737 (tgt := 758) rfl (fun _ => ?_) (fun h_ => absurd h_ (by decide))
                refine V_ld (pc := 758) dL_law_758 (v := vi g) rfl rfl ?_
                refine V_st (pc := 760) dL_law_760 (ls' := [(15, vi g), (11, vi fr), (17, vi 0), (16, vi ((k : Nat) : Int)), (14, vi (e0 - s0)), (13, vi s0), (12, vi ((j : Nat) : Int)), (9, vi ((Ms.length : Nat) : Int)), (8, vi on), (7, vi by_), (6, vi mo), (2, vi ((nn : Nat) : Int)), (1, vr 0), (0, vr SC)]) rfl (Nat.le_of_ble_eq_true rfl) rfl ?_
                refine V_iinc (pc := 762) dL_law_762 (x := ((k : Nat) : Int)) (ls' := [(16, vi (((k : Nat) : Int) + 1)), (15, vi g), (11, vi fr), (17, vi 0), (14, vi (e0 - s0)), (13, vi s0), (12, vi ((j : Nat) : Int)), (9, vi ((Ms.length : Nat) : Int)), (8, vi on), (7, vi by_), (6, vi mo), (2, vi ((nn : Nat) : Int)), (1, vr 0), (0, vr SC)]) rfl (by unfold I32 at *; omega) (Nat.le_of_ble_eq_true rfl) rfl ?_
                refine V_goto (pc := 765) dL_law_765 (tgt := 646) rfl ?_
                refine V_ls (ls' := [(16, vi (((k : Nat) : Int) + 1)), (15, vi g), (14, vi (e0 - s0)), (13, vi s0), (12, vi ((j : Nat) : Int)), (11, vi fr), (9, vi ((Ms.length : Nat) : Int)), (8, vi on), (7, vi by_), (6, vi mo), (2, vi ((nn : Nat) : Int)), (1, vr 0), (0, vr SC)]) (by intro q_ h_; simp only [List.mem_cons, List.not_mem_nil, or_false] at h_ ⊢; rcases h_ with rfl | rfl | rfl | rfl | rfl | rfl | rfl | rfl | rfl | rfl | rfl | rfl | rfl <;> simp) ?_
                have h_ := ih (k + 1) g fr _ (by omega) (fun h3 => by
                  have hg3 := hg h3
                  first
                  | (exfalso; omega)
                  | (rw [hG, if_pos (by omega)]; done)
                  | (rw [hG, if_neg (by omega)]; exact hg3)) hm682.1
                rw [show ((k + 1 : Nat) : Int) = (k : Int) + 1 by omega] at h_
                exact h_
              · skip
                refine V_iconst (pc := 709) dL_law_709 (by unfold I32; omega) ?_
                refine V_goto (pc := 710) dL_law_710 (tgt := 714) rfl ?_
                refine V_st (pc := 714) dL_law_714 (ls' := [(17, vi 1), (16, vi ((k : Nat) : Int)), (15, vi g), (14, vi (e0 - s0)), (13, vi s0), (12, vi ((j : Nat) : Int)), (11, vi fr), (9, vi ((Ms.length : Nat) : Int)), (8, vi on), (7, vi by_), (6, vi mo), (2, vi ((nn : Nat) : Int)), (1, vr 0), (0, vr SC)]) rfl (Nat.le_of_ble_eq_true rfl) rfl ?_
                refine V_ld (pc := 716) dL_law_716 (v := vi 1) rfl rfl ?_
                refine V_if_eq (pc := 718) dL_law_718 (tgt := 731) rfl (fun h_ => absurd h_ (by decide)) (fun _ => ?_)
                refine V_ld (pc := 721) dL_law_721 (v := vi s0) rfl rfl ?_
                refine V_ld (pc := 723) dL_law_723 (v := vi ((k : Nat) : Int)) rfl rfl ?_
                refine V_iadd (pc := 725) dL_law_725 (by unfold I32 at *; omega) ?_
                refine V_iconst (pc := 726) dL_law_726 (by unfold I32; omega) ?_
                refine V_iadd (pc := 727) dL_law_727 (by unfold I32 at *; omega) ?_
                refine V_goto (pc := 728) dL_law_728 (tgt := 733) rfl ?_
                refine V_st (pc := 733) dL_law_733 (ls' := [(11, vi ((s0 + ((k : Nat) : Int)) + 1)), (17, vi 1), (16, vi ((k : Nat) : Int)), (15, vi g), (14, vi (e0 - s0)), (13, vi s0), (12, vi ((j : Nat) : Int)), (9, vi ((Ms.length : Nat) : Int)), (8, vi on), (7, vi by_), (6, vi mo), (2, vi ((nn : Nat) : Int)), (1, vr 0), (0, vr SC)]) rfl (Nat.le_of_ble_eq_true rfl) rfl ?_
                refine V_ld (pc := 735) dL_law_735 (v := vi 1) rfl rfl ?_
                refine V_if_eq (pc := 737) dL_law_737 (tgt := 758) rfl (fun h_ => absurd h_ (by decide)) (fun _ => ?_)
                refine V_ld (pc := 740) dL_law_740 (v := vi s0) rfl rfl ?_
                refine V_ld (pc := 742) dL_law_742 (v := vi ((k : Nat) : Int)) rfl rfl ?_
                refine V_iadd (pc := 744) dL_law_744 (by unfold I32 at *; omega) ?_
                refine V_ld (pc := 745) dL_law_745 (v := vi g) rfl rfl ?_
                refine V_icmp_le (pc := 747) dL_law_747 (tgt := 758) rfl (fun h747 => ?_) (fun h747 => ?_)
                · skip
                  refine V_ld (pc := 758) dL_law_758 (v := vi g) rfl rfl ?_
                  refine V_st (pc := 760) dL_law_760 (ls' := [(15, vi g), (11, vi ((s0 + ((k : Nat) : Int)) + 1)), (17, vi 1), (16, vi ((k : Nat) : Int)), (14, vi (e0 - s0)), (13, vi s0), (12, vi ((j : Nat) : Int)), (9, vi ((Ms.length : Nat) : Int)), (8, vi on), (7, vi by_), (6, vi mo), (2, vi ((nn : Nat) : Int)), (1, vr 0), (0, vr SC)]) rfl (Nat.le_of_ble_eq_true rfl) rfl ?_
                  refine V_iinc (pc := 762) dL_law_762 (x := ((k : Nat) : Int)) (ls' := [(16, vi (((k : Nat) : Int) + 1)), (15, vi g), (11, vi ((s0 + ((k : Nat) : Int)) + 1)), (17, vi 1), (14, vi (e0 - s0)), (13, vi s0), (12, vi ((j : Nat) : Int)), (9, vi ((Ms.length : Nat) : Int)), (8, vi on), (7, vi by_), (6, vi mo), (2, vi ((nn : Nat) : Int)), (1, vr 0), (0, vr SC)]) rfl (by unfold I32 at *; omega) (Nat.le_of_ble_eq_true rfl) rfl ?_
                  refine V_goto (pc := 765) dL_law_765 (tgt := 646) rfl ?_
                  refine V_ls (ls' := [(16, vi (((k : Nat) : Int) + 1)), (15, vi g), (14, vi (e0 - s0)), (13, vi s0), (12, vi ((j : Nat) : Int)), (11, vi ((s0 + ((k : Nat) : Int)) + 1)), (9, vi ((Ms.length : Nat) : Int)), (8, vi on), (7, vi by_), (6, vi mo), (2, vi ((nn : Nat) : Int)), (1, vr 0), (0, vr SC)]) (by intro q_ h_; simp only [List.mem_cons, List.not_mem_nil, or_false] at h_ ⊢; rcases h_ with rfl | rfl | rfl | rfl | rfl | rfl | rfl | rfl | rfl | rfl | rfl | rfl | rfl <;> simp) ?_
                  have h_ := ih (k + 1) g ((s0 + ((k : Nat) : Int)) + 1) _ (by omega) (fun h3 => by
                    have hg3 := hg h3
                    first
                    | (exfalso; omega)
                    | (rw [hG, if_pos (by omega)]; done)
                    | (rw [hG, if_neg (by omega)]; exact hg3)) hm682.1
                  rw [show ((k + 1 : Nat) : Int) = (k : Int) + 1 by omega] at h_
                  exact h_
                · skip
                  refine V_ld (pc := 750) dL_law_750 (v := vi s0) rfl rfl ?_
                  refine V_ld (pc := 752) dL_law_752 (v := vi ((k : Nat) : Int)) rfl rfl ?_
                  refine V_iadd (pc := 754) dL_law_754 (by unfold I32 at *; omega) ?_
                  refine V_goto (pc := 755) dL_law_755 (tgt := 760) rfl ?_
                  refine V_st (pc := 760) dL_law_760 (ls' := [(15, vi (s0 + ((k : Nat) : Int))), (11, vi ((s0 + ((k : Nat) : Int)) + 1)), (17, vi 1), (16, vi ((k : Nat) : Int)), (14, vi (e0 - s0)), (13, vi s0), (12, vi ((j : Nat) : Int)), (9, vi ((Ms.length : Nat) : Int)), (8, vi on), (7, vi by_), (6, vi mo), (2, vi ((nn : Nat) : Int)), (1, vr 0), (0, vr SC)]) rfl (Nat.le_of_ble_eq_true rfl) rfl ?_
                  refine V_iinc (pc := 762) dL_law_762 (x := ((k : Nat) : Int)) (ls' := [(16, vi (((k : Nat) : Int) + 1)), (15, vi (s0 + ((k : Nat) : Int))), (11, vi ((s0 + ((k : Nat) : Int)) + 1)), (17, vi 1), (14, vi (e0 - s0)), (13, vi s0), (12, vi ((j : Nat) : Int)), (9, vi ((Ms.length : Nat) : Int)), (8, vi on), (7, vi by_), (6, vi mo), (2, vi ((nn : Nat) : Int)), (1, vr 0), (0, vr SC)]) rfl (by unfold I32 at *; omega) (Nat.le_of_ble_eq_true rfl) rfl ?_
                  refine V_goto (pc := 765) dL_law_765 (tgt := 646) rfl ?_
                  refine V_ls (ls' := [(16, vi (((k : Nat) : Int) + 1)), (15, vi (s0 + ((k : Nat) : Int))), (14, vi (e0 - s0)), (13, vi s0), (12, vi ((j : Nat) : Int)), (11, vi ((s0 + ((k : Nat) : Int)) + 1)), (9, vi ((Ms.length : Nat) : Int)), (8, vi on), (7, vi by_), (6, vi mo), (2, vi ((nn : Nat) : Int)), (1, vr 0), (0, vr SC)]) (by intro q_ h_; simp only [List.mem_cons, List.not_mem_nil, or_false] at h_ ⊢; rcases h_ with rfl | rfl | rfl | rfl | rfl | rfl | rfl | rfl | rfl | rfl | rfl | rfl | rfl <;> simp) ?_
                  have h_ := ih (k + 1) (s0 + ((k : Nat) : Int)) ((s0 + ((k : Nat) : Int)) + 1) _ (by omega) (fun h3 => by
                    have hg3 := hg h3
                    first
                    | (exfalso; omega)
                    | (rw [hG, if_pos (by omega)]; done)
                    | (rw [hG, if_neg (by omega)]; exact hg3)) hm682.1
                  rw [show ((k + 1 : Nat) : Int) = (k : Int) + 1 by omega] at h_
                  exact h_
      · skip
        exfalso; omega
