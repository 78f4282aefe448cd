/-! THE LAW: the next start -/
set_option maxHeartbeats 4000000 in
theorem L_bak {F : Nat} {m0 b : Mem} {post : Option AV → Mem → Prop} {P Q L nn M : Nat} {cx : CX} {Ms : ML} {mo by_ on : Int} (hB : LawB b P Q L cx) (hnn : cx.2.2.1 = (nn : Int) ∧ nn ≤ 7) (hM : MtB b M cx.2.2.1 Ms) (hF : 100 < F) {j : Nat} {s0 e0 : Int} {le : Nat → Int} (hj : Ms[j]? = some (s0, e0, le)) (h0 : 0 ≤ s0 ∧ s0 ≤ e0 ∧ e0 ≤ ((nn : Nat) : Int)) (hle : ∀ k : Nat, s0 ≤ (k : Int) → (k : Int) < e0 → le k = wV cx s0 ((k : Int) - s0))
    (kx : ∀ m, LawM b m 0 → _root_.Jvm.Pilot.@@N@@.V μL_law F m0 post 825 [(15, vi (G2 by_ s0 le (e0 - s0).toNat s0)), (14, vi (e0 - s0)), (13, vi s0), (12, vi ((j : Nat) : Int)), (11, vi 0), (9, vi ((Ms.length : Nat) : Int)), (8, vi on), (7, vi by_), (6, vi mo), (2, vi ((nn : Nat) : Int)), (1, vr 0), (0, vr SC)] [] m) : ∀ (i d : Nat) (m : Mem), d + i = (e0 - s0).toNat → LawM b m 0 → _root_.Jvm.Pilot.@@N@@.V μL_law F m0 post 789 [(16, vi (((i : Nat) : Int) - 1)), (15, vi (G2 by_ s0 le d (s0 + ((i : Nat) : Int)))), (14, vi (e0 - s0)), (13, vi s0), (12, vi ((j : Nat) : Int)), (11, vi 0), (9, vi ((Ms.length : Nat) : Int)), (8, vi on), (7, vi by_), (6, vi mo), (2, vi ((nn : Nat) : Int)), (1, vr 0), (0, vr SC)] [] m := by
  intro i
  induction i with
  | zero =>
    intro d m hd_ hm
    have ed : d = (e0 - s0).toNat := by omega
    rw [show s0 + ((0 : Nat) : Int) = s0 by omega, ed]
    refine V_ld (pc := 789) dL_law_789 (v := vi (((0 : Nat) : Int) - 1)) rfl rfl ?_
    refine V_if_lt (pc := 791) dL_law_791 (tgt := 825) rfl (fun h791 => ?_) (fun h791 => ?_)
    · skip
      refine V_ls (ls' := [(15, vi (G2 by_ s0 le (e0 - s0).toNat s0)), (14, vi (e0 - s0)), (13, vi s0), (12, vi ((j : Nat) : Int)), (11, vi 0), (9, vi ((Ms.length : Nat) : Int)), (8, vi on), (7, vi by_), (6, vi mo), (2, vi ((nn : Nat) : Int)), (1, vr 0), (0, vr SC)]) (by intro q_ h_; simp only [List.mem_cons, List.not_mem_nil, or_false] at h_ ⊢; rcases h_ with rfl | rfl | rfl | rfl | rfl | rfl | rfl | rfl | rfl | rfl | rfl | rfl <;> simp) ?_
      exact kx m hm
    · skip
      exfalso; omega
  | succ i ih =>
    intro d m hd_ hm
    have hlk : le (s0 + ((i : Nat) : Int)).toNat = wV cx s0 (((i + 1 : Nat) : Int) - 1) := by
      have h_ := hle (s0 + ((i : Nat) : Int)).toNat (by omega) (by omega)
      rw [show (((s0 + ((i : Nat) : Int)).toNat : Nat) : Int) - s0 = (((i + 1 : Nat) : Int) - 1) by omega] at h_
      exact h_
    have hG := G2_s (by_ := by_) (s := s0) (r := s0 + ((i : Nat) : Int)) (le := le) (by omega) d
    rw [hlk, show s0 + ((i : Nat) : Int) + 1 = s0 + ((i + 1 : Nat) : Int) by omega] at hG
    refine V_ld (pc := 789) dL_law_789 (v := vi (((i + 1 : Nat) : Int) - 1)) rfl rfl ?_
    refine V_if_lt (pc := 791) dL_law_791 (tgt := 825) rfl (fun h791 => ?_) (fun h791 => ?_)
    · skip
      exfalso; omega
    · skip
      refine V_ld (pc := 794) dL_law_794 (v := vr 0) rfl rfl ?_
      refine V_ld (pc := 795) dL_law_795 (v := vi s0) rfl rfl ?_
      refine V_ld (pc := 797) dL_law_797 (v := vi (((i + 1 : Nat) : Int) - 1)) rfl rfl ?_
      refine V_callV (pc := 799) dL_law_799 (F' := 8) (As := [vi s0, vi (((i + 1 : Nat) : Int) - 1)]) (st := []) cw_RL_174 rfl rfl (hm.sb hB (by omega)).1.1.t0 (by decide) (Nat.le_of_ble_eq_true rfl) (by omega) (l_way hB hm (by omega) (by omega)) ?_
      rintro _ m799 ⟨x799, rfl, hx799, hm799⟩ ok799 le799
      subst hx799
      refine V_ld (pc := 802) dL_law_802 (v := vi by_) rfl rfl ?_
      refine V_icmp_ne (pc := 804) dL_law_804 (tgt := 815) rfl (fun h804 => ?_) (fun h804 => ?_)
      · skip
        refine V_ld (pc := 815) dL_law_815 (v := vi (G2 by_ s0 le d (s0 + ((i + 1 : Nat) : Int)))) rfl rfl ?_
        refine V_st (pc := 817) dL_law_817 (ls' := [(15, vi (G2 by_ s0 le d (s0 + ((i + 1 : Nat) : Int)))), (16, vi (((i + 1 : Nat) : Int) - 1)), (14, vi (e0 - s0)), (13, vi s0), (12, vi ((j : Nat) : Int)), (11, vi 0), (9, vi ((Ms.length : Nat) : Int)), (8, vi on), (7, vi by_), (6, vi mo), (2, vi ((nn : Nat) : Int)), (1, vr 0), (0, vr SC)]) rfl (Nat.le_of_ble_eq_true rfl) rfl ?_
        refine V_iinc (pc := 819) dL_law_819 (x := (((i + 1 : Nat) : Int) - 1)) (ls' := [(16, vi ((((i + 1 : Nat) : Int) - 1) + (-1))), (15, vi (G2 by_ s0 le d (s0 + ((i + 1 : Nat) : Int)))), (14, vi (e0 - s0)), (13, vi s0), (12, vi ((j : Nat) : Int)), (11, vi 0), (9, vi ((Ms.length : Nat) : Int)), (8, vi on), (7, vi by_), (6, vi mo), (2, vi ((nn : Nat) : Int)), (1, vr 0), (0, vr SC)]) rfl (by unfold I32 at *; omega) (Nat.le_of_ble_eq_true rfl) rfl ?_
        refine V_goto (pc := 822) dL_law_822 (tgt := 789) rfl ?_
        skip
        have h_ := ih (d + 1) m799 (by omega) hm799.1
        rw [hG] at h_
        first
        | (rw [if_pos (by omega)] at h_
           rw [show ((i + 1 : Nat) : Int) - 1 + -1 = ((i : Nat) : Int) - 1 by omega, show s0 + (((i + 1 : Nat) : Int) - 1) = s0 + ((i : Nat) : Int) by omega]
           exact h_)
        | (rw [if_neg (by omega)] at h_
           rw [show ((i + 1 : Nat) : Int) - 1 + -1 = ((i : Nat) : Int) - 1 by omega]
           exact h_)
      · skip
        refine V_ld (pc := 807) dL_law_807 (v := vi s0) rfl rfl ?_
        refine V_ld (pc := 809) dL_law_809 (v := vi (((i + 1 : Nat) : Int) - 1)) rfl rfl ?_
        refine V_iadd (pc := 811) dL_law_811 (by unfold I32 at *; omega) ?_
        refine V_goto (pc := 812) dL_law_812 (tgt := 817) rfl ?_
        refine V_st (pc := 817) dL_law_817 (ls' := [(15, vi (s0 + (((i + 1 : Nat) : Int) - 1))), (16, vi (((i + 1 : Nat) : Int) - 1)), (14, vi (e0 - s0)), (13, vi s0), (12, vi ((j : Nat) : Int)), (11, vi 0), (9, vi ((Ms.length : Nat) : Int)), (8, vi on), (7, vi by_), (6, vi mo), (2, vi ((nn : Nat) : Int)), (1, vr 0), (0, vr SC)]) rfl (Nat.le_of_ble_eq_true rfl) rfl ?_
        refine V_iinc (pc := 819) dL_law_819 (x := (((i + 1 : Nat) : Int) - 1)) (ls' := [(16, vi ((((i + 1 : Nat) : Int) - 1) + (-1))), (15, vi (s0 + (((i + 1 : Nat) : Int) - 1))), (14, vi (e0 - s0)), (13, vi s0), (12, vi ((j : Nat) : Int)), (11, vi 0), (9, vi ((Ms.length : Nat) : Int)), (8, vi on), (7, vi by_), (6, vi mo), (2, vi ((nn : Nat) : Int)), (1, vr 0), (0, vr SC)]) rfl (by unfold I32 at *; omega) (Nat.le_of_ble_eq_true rfl) rfl ?_
        refine V_goto (pc := 822) dL_law_822 (tgt := 789) rfl ?_
        skip
        have h_ := ih (d + 1) m799 (by omega) hm799.1
        rw [hG] at h_
        first
        | (rw [if_pos (by omega)] at h_
           rw [show ((i + 1 : Nat) : Int) - 1 + -1 = ((i : Nat) : Int) - 1 by omega, show s0 + (((i + 1 : Nat) : Int) - 1) = s0 + ((i : Nat) : Int) by omega]
           exact h_)
        | (rw [if_neg (by omega)] at h_
           rw [show ((i + 1 : Nat) : Int) - 1 + -1 = ((i : Nat) : Int) - 1 by omega]
           exact h_)
set_option maxHeartbeats 8000000 in
theorem L_nxt {F : Nat} {m0 b : Mem} {post : Option AV → Mem → Prop} {P Q L nn M : Nat} {cx : CX} {Ms : ML} {mo by_ on : Int} (hB : LawB b P Q L cx) (hnn : cx.2.2.1 = (nn : Int) ∧ nn ≤ 7) (hM : MtB b M cx.2.2.1 Ms) (hF : 100 < F) {j : Nat} {s0 e0 g : Int} {le : Nat → Int} {m : Mem} (hmo : 0 ≤ mo ∧ mo ≤ 3) (hj : Ms[j]? = some (s0, e0, le)) (h0 : 0 ≤ s0 ∧ s0 ≤ e0 ∧ e0 ≤ ((nn : Nat) : Int)) (hle : ∀ k : Nat, s0 ≤ (k : Int) → (k : Int) < e0 → le k = wV cx s0 ((k : Int) - s0)) (hg : mo = 3 → g = G3 by_ s0 le (e0 - s0).toNat) (hm : LawM b m 0)
    (kx : ∀ m, LawM b m 0 → _root_.Jvm.Pilot.@@N@@.V μL_law F m0 post 532 [(12, vi (((j : Nat) : Int) + 1)), (11, vi 0), (10, vi (nextA mo by_ s0 e0 le)), (9, vi ((Ms.length : Nat) : Int)), (8, vi on), (7, vi by_), (6, vi mo), (2, vi ((nn : Nat) : Int)), (1, vr 0), (0, vr SC)] [] m) : _root_.Jvm.Pilot.@@N@@.V μL_law F m0 post 768 [(15, vi g), (14, vi (e0 - s0)), (13, vi s0), (12, vi ((j : Nat) : Int)), (9, vi ((Ms.length : Nat) : Int)), (8, vi on), (7, vi by_), (6, vi mo), (2, vi ((nn : Nat) : Int)), (1, vr 0), (0, vr SC)] [] m := by
  have hj33 := hM.2.2.2.1.1
  have hjl : j < Ms.length := (List.getElem?_eq_some_iff.mp hj).1
  refine V_iconst (pc := 768) dL_law_768 (by unfold I32; omega) ?_
  refine V_st (pc := 769) dL_law_769 (ls' := [(11, vi 0), (15, vi g), (14, vi (e0 - s0)), (13, vi s0), (12, vi ((j : Nat) : Int)), (9, vi ((Ms.length : Nat) : Int)), (8, vi on), (7, vi by_), (6, vi mo), (2, vi ((nn : Nat) : Int)), (1, vr 0), (0, vr SC)]) rfl (Nat.le_of_ble_eq_true rfl) rfl ?_
  refine V_ld (pc := 771) dL_law_771 (v := vi mo) rfl rfl ?_
  refine V_iconst (pc := 773) dL_law_773 (by unfold I32; omega) ?_
  refine V_icmp_ne (pc := 774) dL_law_774 (tgt := 843) rfl (fun h774 => ?_) (fun h774 => ?_)
  · skip
    refine V_ld (pc := 843) dL_law_843 (v := vi mo) rfl rfl ?_
    refine V_if_ne (pc := 845) dL_law_845 (tgt := 868) rfl (fun h845 => ?_) (fun h845 => ?_)
    · skip
      refine V_ld (pc := 868) dL_law_868 (v := vi mo) rfl rfl ?_
      refine V_iconst (pc := 870) dL_law_870 (by unfold I32; omega) ?_
      refine V_icmp_ne (pc := 871) dL_law_871 (tgt := 881) rfl (fun h871 => ?_) (fun h871 => ?_)
      · skip
        refine V_ld (pc := 881) dL_law_881 (v := vi g) rfl rfl ?_
        refine V_st (pc := 883) dL_law_883 (ls' := [(10, vi g), (11, vi 0), (15, vi g), (14, vi (e0 - s0)), (13, vi s0), (12, vi ((j : Nat) : Int)), (9, vi ((Ms.length : Nat) : Int)), (8, vi on), (7, vi by_), (6, vi mo), (2, vi ((nn : Nat) : Int)), (1, vr 0), (0, vr SC)]) rfl (Nat.le_of_ble_eq_true rfl) rfl ?_
        refine V_iinc (pc := 885) dL_law_885 (x := ((j : Nat) : Int)) (ls' := [(12, vi (((j : Nat) : Int) + 1)), (10, vi g), (11, vi 0), (15, vi g), (14, vi (e0 - s0)), (13, vi s0), (9, vi ((Ms.length : Nat) : Int)), (8, vi on), (7, vi by_), (6, vi mo), (2, vi ((nn : Nat) : Int)), (1, vr 0), (0, vr SC)]) rfl (by unfold I32 at *; omega) (Nat.le_of_ble_eq_true rfl) rfl ?_
        refine V_goto (pc := 888) dL_law_888 (tgt := 532) rfl ?_
        refine V_ls (ls' := [(12, vi (((j : Nat) : Int) + 1)), (11, vi 0), (10, vi g), (9, vi ((Ms.length : Nat) : Int)), (8, vi on), (7, vi by_), (6, vi mo), (2, vi ((nn : Nat) : Int)), (1, vr 0), (0, vr SC)]) (by intro q_ h_; simp only [List.mem_cons, List.not_mem_nil, or_false] at h_ ⊢; rcases h_ with rfl | rfl | rfl | rfl | rfl | rfl | rfl | rfl | rfl | rfl <;> simp) ?_
        have en : g = nextA mo by_ s0 e0 le := by
          first
          | (rw [show mo = 0 by omega, next_0, if_pos (by omega)]; omega)
          | (rw [show mo = 0 by omega, next_0, if_neg (by omega)]; done)
          | (rw [show mo = 1 by omega, next_1]; done)
          | (rw [show mo = 2 by omega, next_2 h0.1, if_pos (by omega)]; done)
          | (rw [show mo = 2 by omega, next_2 h0.1, if_neg (by omega)]; done)
          | (rw [show mo = 3 by omega, next_3]; exact hg (by omega))
        rw [en]
        exact kx _ hm
      · skip
        refine V_ld (pc := 874) dL_law_874 (v := vi s0) rfl rfl ?_
        refine V_iconst (pc := 876) dL_law_876 (by unfold I32; omega) ?_
        refine V_iadd (pc := 877) dL_law_877 (by unfold I32 at *; omega) ?_
        refine V_goto (pc := 878) dL_law_878 (tgt := 883) rfl ?_
        refine V_st (pc := 883) dL_law_883 (ls' := [(10, vi (s0 + 1)), (11, vi 0), (15, vi g), (14, vi (e0 - s0)), (13, vi s0), (12, vi ((j : Nat) : Int)), (9, vi ((Ms.length : Nat) : Int)), (8, vi on), (7, vi by_), (6, vi mo), (2, vi ((nn : Nat) : Int)), (1, vr 0), (0, vr SC)]) rfl (Nat.le_of_ble_eq_true rfl) rfl ?_
        refine V_iinc (pc := 885) dL_law_885 (x := ((j : Nat) : Int)) (ls' := [(12, vi (((j : Nat) : Int) + 1)), (10, vi (s0 + 1)), (11, vi 0), (15, vi g), (14, vi (e0 - s0)), (13, vi s0), (9, vi ((Ms.length : Nat) : Int)), (8, vi on), (7, vi by_), (6, vi mo), (2, vi ((nn : Nat) : Int)), (1, vr 0), (0, vr SC)]) rfl (by unfold I32 at *; omega) (Nat.le_of_ble_eq_true rfl) rfl ?_
        refine V_goto (pc := 888) dL_law_888 (tgt := 532) rfl ?_
        refine V_ls (ls' := [(12, vi (((j : Nat) : Int) + 1)), (11, vi 0), (10, vi (s0 + 1)), (9, vi ((Ms.length : Nat) : Int)), (8, vi on), (7, vi by_), (6, vi mo), (2, vi ((nn : Nat) : Int)), (1, vr 0), (0, vr SC)]) (by intro q_ h_; simp only [List.mem_cons, List.not_mem_nil, or_false] at h_ ⊢; rcases h_ with rfl | rfl | rfl | rfl | rfl | rfl | rfl | rfl | rfl | rfl <;> simp) ?_
        have en : s0 + 1 = nextA mo by_ s0 e0 le := by
          first
          | (rw [show mo = 0 by omega, next_0, if_pos (by omega)]; omega)
          | (rw [show mo = 0 by omega, next_0, if_neg (by omega)]; done)
          | (rw [show mo = 1 by omega, next_1]; done)
          | (rw [show mo = 2 by omega, next_2 h0.1, if_pos (by omega)]; done)
          | (rw [show mo = 2 by omega, next_2 h0.1, if_neg (by omega)]; done)
          | (rw [show mo = 3 by omega, next_3]; exact hg (by omega))
        rw [en]
        exact kx _ hm
    · skip
      refine V_ld (pc := 848) dL_law_848 (v := vi (e0 - s0)) rfl rfl ?_
      refine V_if_ne (pc := 850) dL_law_850 (tgt := 860) rfl (fun h850 => ?_) (fun h850 => ?_)
      · skip
        refine V_ld (pc := 860) dL_law_860 (v := vi s0) rfl rfl ?_
        refine V_ld (pc := 862) dL_law_862 (v := vi (e0 - s0)) rfl rfl ?_
        refine V_iadd (pc := 864) dL_law_864 (by unfold I32 at *; omega) ?_
        refine V_goto (pc := 865) dL_law_865 (tgt := 883) rfl ?_
        refine V_st (pc := 883) dL_law_883 (ls' := [(10, vi (s0 + (e0 - s0))), (11, vi 0), (15, vi g), (14, vi (e0 - s0)), (13, vi s0), (12, vi ((j : Nat) : Int)), (9, vi ((Ms.length : Nat) : Int)), (8, vi on), (7, vi by_), (6, vi mo), (2, vi ((nn : Nat) : Int)), (1, vr 0), (0, vr SC)]) rfl (Nat.le_of_ble_eq_true rfl) rfl ?_
        refine V_iinc (pc := 885) dL_law_885 (x := ((j : Nat) : Int)) (ls' := [(12, vi (((j : Nat) : Int) + 1)), (10, vi (s0 + (e0 - s0))), (11, vi 0), (15, vi g), (14, vi (e0 - s0)), (13, vi s0), (9, vi ((Ms.length : Nat) : Int)), (8, vi on), (7, vi by_), (6, vi mo), (2, vi ((nn : Nat) : Int)), (1, vr 0), (0, vr SC)]) rfl (by unfold I32 at *; omega) (Nat.le_of_ble_eq_true rfl) rfl ?_
        refine V_goto (pc := 888) dL_law_888 (tgt := 532) rfl ?_
        refine V_ls (ls' := [(12, vi (((j : Nat) : Int) + 1)), (11, vi 0), (10, vi (s0 + (e0 - s0))), (9, vi ((Ms.length : Nat) : Int)), (8, vi on), (7, vi by_), (6, vi mo), (2, vi ((nn : Nat) : Int)), (1, vr 0), (0, vr SC)]) (by intro q_ h_; simp only [List.mem_cons, List.not_mem_nil, or_false] at h_ ⊢; rcases h_ with rfl | rfl | rfl | rfl | rfl | rfl | rfl | rfl | rfl | rfl <;> simp) ?_
        have en : s0 + (e0 - s0) = nextA mo by_ s0 e0 le := by
          first
          | (rw [show mo = 0 by omega, next_0, if_pos (by omega)]; omega)
          | (rw [show mo = 0 by omega, next_0, if_neg (by omega)]; done)
          | (rw [show mo = 1 by omega, next_1]; done)
          | (rw [show mo = 2 by omega, next_2 h0.1, if_pos (by omega)]; done)
          | (rw [show mo = 2 by omega, next_2 h0.1, if_neg (by omega)]; done)
          | (rw [show mo = 3 by omega, next_3]; exact hg (by omega))
        rw [en]
        exact kx _ hm
      · skip
        refine V_ld (pc := 853) dL_law_853 (v := vi s0) rfl rfl ?_
        refine V_iconst (pc := 855) dL_law_855 (by unfold I32; omega) ?_
        refine V_iadd (pc := 856) dL_law_856 (by unfold I32 at *; omega) ?_
        refine V_goto (pc := 857) dL_law_857 (tgt := 883) rfl ?_
        refine V_st (pc := 883) dL_law_883 (ls' := [(10, vi (s0 + 1)), (11, vi 0), (15, vi g), (14, vi (e0 - s0)), (13, vi s0), (12, vi ((j : Nat) : Int)), (9, vi ((Ms.length : Nat) : Int)), (8, vi on), (7, vi by_), (6, vi mo), (2, vi ((nn : Nat) : Int)), (1, vr 0), (0, vr SC)]) rfl (Nat.le_of_ble_eq_true rfl) rfl ?_
        refine V_iinc (pc := 885) dL_law_885 (x := ((j : Nat) : Int)) (ls' := [(12, vi (((j : Nat) : Int) + 1)), (10, vi (s0 + 1)), (11, vi 0), (15, vi g), (14, vi (e0 - s0)), (13, vi s0), (9, vi ((Ms.length : Nat) : Int)), (8, vi on), (7, vi by_), (6, vi mo), (2, vi ((nn : Nat) : Int)), (1, vr 0), (0, vr SC)]) rfl (by unfold I32 at *; omega) (Nat.le_of_ble_eq_true rfl) rfl ?_
        refine V_goto (pc := 888) dL_law_888 (tgt := 532) rfl ?_
        refine V_ls (ls' := [(12, vi (((j : Nat) : Int) + 1)), (11, vi 0), (10, vi (s0 + 1)), (9, vi ((Ms.length : Nat) : Int)), (8, vi on), (7, vi by_), (6, vi mo), (2, vi ((nn : Nat) : Int)), (1, vr 0), (0, vr SC)]) (by intro q_ h_; simp only [List.mem_cons, List.not_mem_nil, or_false] at h_ ⊢; rcases h_ with rfl | rfl | rfl | rfl | rfl | rfl | rfl | rfl | rfl | rfl <;> simp) ?_
        have en : s0 + 1 = nextA mo by_ s0 e0 le := by
          first
          | (rw [show mo = 0 by omega, next_0, if_pos (by omega)]; omega)
          | (rw [show mo = 0 by omega, next_0, if_neg (by omega)]; done)
          | (rw [show mo = 1 by omega, next_1]; done)
          | (rw [show mo = 2 by omega, next_2 h0.1, if_pos (by omega)]; done)
          | (rw [show mo = 2 by omega, next_2 h0.1, if_neg (by omega)]; done)
          | (rw [show mo = 3 by omega, next_3]; exact hg (by omega))
        rw [en]
        exact kx _ hm
  · skip
    refine V_ld (pc := 777) dL_law_777 (v := vi s0) rfl rfl ?_
    refine V_iconst (pc := 779) dL_law_779 (by unfold I32; omega) ?_
    refine V_iadd (pc := 780) dL_law_780 (by unfold I32 at *; omega) ?_
    refine V_st (pc := 781) dL_law_781 (ls' := [(15, vi (s0 + 1)), (11, vi 0), (14, vi (e0 - s0)), (13, vi s0), (12, vi ((j : Nat) : Int)), (9, vi ((Ms.length : Nat) : Int)), (8, vi on), (7, vi by_), (6, vi mo), (2, vi ((nn : Nat) : Int)), (1, vr 0), (0, vr SC)]) rfl (Nat.le_of_ble_eq_true rfl) rfl ?_
    refine V_ld (pc := 783) dL_law_783 (v := vi (e0 - s0)) rfl rfl ?_
    refine V_iconst (pc := 785) dL_law_785 (by unfold I32; omega) ?_
    refine V_isub (pc := 786) dL_law_786 (by unfold I32 at *; omega) ?_
    refine V_st (pc := 787) dL_law_787 (ls' := [(16, vi ((e0 - s0) - 1)), (15, vi (s0 + 1)), (11, vi 0), (14, vi (e0 - s0)), (13, vi s0), (12, vi ((j : Nat) : Int)), (9, vi ((Ms.length : Nat) : Int)), (8, vi on), (7, vi by_), (6, vi mo), (2, vi ((nn : Nat) : Int)), (1, vr 0), (0, vr SC)]) rfl (Nat.le_of_ble_eq_true rfl) rfl ?_
    refine V_ls (ls' := [(16, vi ((e0 - s0) - 1)), (15, vi (s0 + 1)), (14, vi (e0 - s0)), (13, vi s0), (12, vi ((j : Nat) : Int)), (11, vi 0), (9, vi ((Ms.length : Nat) : Int)), (8, vi on), (7, vi by_), (6, vi mo), (2, vi ((nn : Nat) : Int)), (1, vr 0), (0, vr SC)]) (by intro q_ h_; simp only [List.mem_cons, List.not_mem_nil, or_false] at h_ ⊢; rcases h_ with rfl | rfl | rfl | rfl | rfl | rfl | rfl | rfl | rfl | rfl | rfl | rfl | rfl <;> simp) ?_
    refine V_ls (ls' := [(16, vi ((((e0 - s0).toNat : Nat) : Int) - 1)), (15, vi (G2 by_ s0 le 0 (s0 + (((e0 - s0).toNat : Nat) : Int)))), (14, vi (e0 - s0)), (13, vi s0), (12, vi ((j : Nat) : Int)), (11, vi 0), (9, vi ((Ms.length : Nat) : Int)), (8, vi on), (7, vi by_), (6, vi mo), (2, vi ((nn : Nat) : Int)), (1, vr 0), (0, vr SC)]) (by rw [show (((e0 - s0).toNat : Nat) : Int) = e0 - s0 by omega]; intro q_ h_; exact h_) ?_
    refine L_bak hB hnn hM hF hj h0 hle (fun m2 hm2 => ?_) (e0 - s0).toNat 0 m (by omega) hm
    refine V_ld (pc := 825) dL_law_825 (v := vi (G2 by_ s0 le (e0 - s0).toNat s0)) rfl rfl ?_
    refine V_ld (pc := 827) dL_law_827 (v := vi s0) rfl rfl ?_
    refine V_icmp_le (pc := 829) dL_law_829 (tgt := 837) rfl (fun h829 => ?_) (fun h829 => ?_)
    · skip
      refine V_ld (pc := 837) dL_law_837 (v := vi s0) rfl rfl ?_
      refine V_iconst (pc := 839) dL_law_839 (by unfold I32; omega) ?_
      refine V_iadd (pc := 840) dL_law_840 (by unfold I32 at *; omega) ?_
      refine V_st (pc := 841) dL_law_841 (ls' := [(15, vi (s0 + 1)), (14, vi (e0 - s0)), (13, vi s0), (12, vi ((j : Nat) : Int)), (11, vi 0), (9, vi ((Ms.length : Nat) : Int)), (8, vi on), (7, vi by_), (6, vi mo), (2, vi ((nn : Nat) : Int)), (1, vr 0), (0, vr SC)]) rfl (Nat.le_of_ble_eq_true rfl) rfl ?_
      refine V_ld (pc := 843) dL_law_843 (v := vi mo) rfl rfl ?_
      refine V_if_ne (pc := 845) dL_law_845 (tgt := 868) rfl (fun h845 => ?_) (fun h845 => ?_)
      · skip
        refine V_ld (pc := 868) dL_law_868 (v := vi mo) rfl rfl ?_
        refine V_iconst (pc := 870) dL_law_870 (by unfold I32; omega) ?_
        refine V_icmp_ne (pc := 871) dL_law_871 (tgt := 881) rfl (fun h871 => ?_) (fun h871 => ?_)
        · skip
          refine V_ld (pc := 881) dL_law_881 (v := vi (s0 + 1)) rfl rfl ?_
          refine V_st (pc := 883) dL_law_883 (ls' := [(10, vi (s0 + 1)), (15, vi (s0 + 1)), (14, vi (e0 - s0)), (13, vi s0), (12, vi ((j : Nat) : Int)), (11, vi 0), (9, vi ((Ms.length : Nat) : Int)), (8, vi on), (7, vi by_), (6, vi mo), (2, vi ((nn : Nat) : Int)), (1, vr 0), (0, vr SC)]) rfl (Nat.le_of_ble_eq_true rfl) rfl ?_
          refine V_iinc (pc := 885) dL_law_885 (x := ((j : Nat) : Int)) (ls' := [(12, vi (((j : Nat) : Int) + 1)), (10, vi (s0 + 1)), (15, vi (s0 + 1)), (14, vi (e0 - s0)), (13, vi s0), (11, vi 0), (9, vi ((Ms.length : Nat) : Int)), (8, vi on), (7, vi by_), (6, vi mo), (2, vi ((nn : Nat) : Int)), (1, vr 0), (0, vr SC)]) rfl (by unfold I32 at *; omega) (Nat.le_of_ble_eq_true rfl) rfl ?_
          refine V_goto (pc := 888) dL_law_888 (tgt := 532) rfl ?_
          refine V_ls (ls' := [(12, vi (((j : Nat) : Int) + 1)), (11, vi 0), (10, vi (s0 + 1)), (9, vi ((Ms.length : Nat) : Int)), (8, vi on), (7, vi by_), (6, vi mo), (2, vi ((nn : Nat) : Int)), (1, vr 0), (0, vr SC)]) (by intro q_ h_; simp only [List.mem_cons, List.not_mem_nil, or_false] at h_ ⊢; rcases h_ with rfl | rfl | rfl | rfl | rfl | rfl | rfl | rfl | rfl | rfl <;> simp) ?_
          have en : s0 + 1 = nextA mo by_ s0 e0 le := by
            first
            | (rw [show mo = 0 by omega, next_0, if_pos (by omega)]; omega)
            | (rw [show mo = 0 by omega, next_0, if_neg (by omega)]; done)
            | (rw [show mo = 1 by omega, next_1]; done)
            | (rw [show mo = 2 by omega, next_2 h0.1, if_pos (by omega)]; done)
            | (rw [show mo = 2 by omega, next_2 h0.1, if_neg (by omega)]; done)
            | (rw [show mo = 3 by omega, next_3]; exact hg (by omega))
          rw [en]
          exact kx _ hm2
        · skip
          refine V_ld (pc := 874) dL_law_874 (v := vi s0) rfl rfl ?_
          refine V_iconst (pc := 876) dL_law_876 (by unfold I32; omega) ?_
          refine V_iadd (pc := 877) dL_law_877 (by unfold I32 at *; omega) ?_
          refine V_goto (pc := 878) dL_law_878 (tgt := 883) rfl ?_
          refine V_st (pc := 883) dL_law_883 (ls' := [(10, vi (s0 + 1)), (15, vi (s0 + 1)), (14, vi (e0 - s0)), (13, vi s0), (12, vi ((j : Nat) : Int)), (11, vi 0), (9, vi ((Ms.length : Nat) : Int)), (8, vi on), (7, vi by_), (6, vi mo), (2, vi ((nn : Nat) : Int)), (1, vr 0), (0, vr SC)]) rfl (Nat.le_of_ble_eq_true rfl) rfl ?_
          refine V_iinc (pc := 885) dL_law_885 (x := ((j : Nat) : Int)) (ls' := [(12, vi (((j : Nat) : Int) + 1)), (10, vi (s0 + 1)), (15, vi (s0 + 1)), (14, vi (e0 - s0)), (13, vi s0), (11, vi 0), (9, vi ((Ms.length : Nat) : Int)), (8, vi on), (7, vi by_), (6, vi mo), (2, vi ((nn : Nat) : Int)), (1, vr 0), (0, vr SC)]) rfl (by unfold I32 at *; omega) (Nat.le_of_ble_eq_true rfl) rfl ?_
          refine V_goto (pc := 888) dL_law_888 (tgt := 532) rfl ?_
          refine V_ls (ls' := [(12, vi (((j : Nat) : Int) + 1)), (11, vi 0), (10, vi (s0 + 1)), (9, vi ((Ms.length : Nat) : Int)), (8, vi on), (7, vi by_), (6, vi mo), (2, vi ((nn : Nat) : Int)), (1, vr 0), (0, vr SC)]) (by intro q_ h_; simp only [List.mem_cons, List.not_mem_nil, or_false] at h_ ⊢; rcases h_ with rfl | rfl | rfl | rfl | rfl | rfl | rfl | rfl | rfl | rfl <;> simp) ?_
          have en : s0 + 1 = nextA mo by_ s0 e0 le := by
            first
            | (rw [show mo = 0 by omega, next_0, if_pos (by omega)]; omega)
            | (rw [show mo = 0 by omega, next_0, if_neg (by omega)]; done)
            | (rw [show mo = 1 by omega, next_1]; done)
            | (rw [show mo = 2 by omega, next_2 h0.1, if_pos (by omega)]; done)
            | (rw [show mo = 2 by omega, next_2 h0.1, if_neg (by omega)]; done)
            | (rw [show mo = 3 by omega, next_3]; exact hg (by omega))
          rw [en]
          exact kx _ hm2
      · skip
        refine V_ld (pc := 848) dL_law_848 (v := vi (e0 - s0)) rfl rfl ?_
        refine V_if_ne (pc := 850) dL_law_850 (tgt := 860) rfl (fun h850 => ?_) (fun h850 => ?_)
        · skip
          refine V_ld (pc := 860) dL_law_860 (v := vi s0) rfl rfl ?_
          refine V_ld (pc := 862) dL_law_862 (v := vi (e0 - s0)) rfl rfl ?_
          refine V_iadd (pc := 864) dL_law_864 (by unfold I32 at *; omega) ?_
          refine V_goto (pc := 865) dL_law_865 (tgt := 883) rfl ?_
          refine V_st (pc := 883) dL_law_883 (ls' := [(10, vi (s0 + (e0 - s0))), (15, vi (s0 + 1)), (14, vi (e0 - s0)), (13, vi s0), (12, vi ((j : Nat) : Int)), (11, vi 0), (9, vi ((Ms.length : Nat) : Int)), (8, vi on), (7, vi by_), (6, vi mo), (2, vi ((nn : Nat) : Int)), (1, vr 0), (0, vr SC)]) rfl (Nat.le_of_ble_eq_true rfl) rfl ?_
          refine V_iinc (pc := 885) dL_law_885 (x := ((j : Nat) : Int)) (ls' := [(12, vi (((j : Nat) : Int) + 1)), (10, vi (s0 + (e0 - s0))), (15, vi (s0 + 1)), (14, vi (e0 - s0)), (13, vi s0), (11, vi 0), (9, vi ((Ms.length : Nat) : Int)), (8, vi on), (7, vi by_), (6, vi mo), (2, vi ((nn : Nat) : Int)), (1, vr 0), (0, vr SC)]) rfl (by unfold I32 at *; omega) (Nat.le_of_ble_eq_true rfl) rfl ?_
          refine V_goto (pc := 888) dL_law_888 (tgt := 532) rfl ?_
          refine V_ls (ls' := [(12, vi (((j : Nat) : Int) + 1)), (11, vi 0), (10, vi (s0 + (e0 - s0))), (9, vi ((Ms.length : Nat) : Int)), (8, vi on), (7, vi by_), (6, vi mo), (2, vi ((nn : Nat) : Int)), (1, vr 0), (0, vr SC)]) (by intro q_ h_; simp only [List.mem_cons, List.not_mem_nil, or_false] at h_ ⊢; rcases h_ with rfl | rfl | rfl | rfl | rfl | rfl | rfl | rfl | rfl | rfl <;> simp) ?_
          have en : s0 + (e0 - s0) = nextA mo by_ s0 e0 le := by
            first
            | (rw [show mo = 0 by omega, next_0, if_pos (by omega)]; omega)
            | (rw [show mo = 0 by omega, next_0, if_neg (by omega)]; done)
            | (rw [show mo = 1 by omega, next_1]; done)
            | (rw [show mo = 2 by omega, next_2 h0.1, if_pos (by omega)]; done)
            | (rw [show mo = 2 by omega, next_2 h0.1, if_neg (by omega)]; done)
            | (rw [show mo = 3 by omega, next_3]; exact hg (by omega))
          rw [en]
          exact kx _ hm2
        · skip
          refine V_ld (pc := 853) dL_law_853 (v := vi s0) rfl rfl ?_
          refine V_iconst (pc := 855) dL_law_855 (by unfold I32; omega) ?_
          refine V_iadd (pc := 856) dL_law_856 (by unfold I32 at *; omega) ?_
          refine V_goto (pc := 857) dL_law_857 (tgt := 883) rfl ?_
          refine V_st (pc := 883) dL_law_883 (ls' := [(10, vi (s0 + 1)), (15, vi (s0 + 1)), (14, vi (e0 - s0)), (13, vi s0), (12, vi ((j : Nat) : Int)), (11, vi 0), (9, vi ((Ms.length : Nat) : Int)), (8, vi on), (7, vi by_), (6, vi mo), (2, vi ((nn : Nat) : Int)), (1, vr 0), (0, vr SC)]) rfl (Nat.le_of_ble_eq_true rfl) rfl ?_
          refine V_iinc (pc := 885) dL_law_885 (x := ((j : Nat) : Int)) (ls' := [(12, vi (((j : Nat) : Int) + 1)), (10, vi (s0 + 1)), (15, vi (s0 + 1)), (14, vi (e0 - s0)), (13, vi s0), (11, vi 0), (9, vi ((Ms.length : Nat) : Int)), (8, vi on), (7, vi by_), (6, vi mo), (2, vi ((nn : Nat) : Int)), (1, vr 0), (0, vr SC)]) rfl (by unfold I32 at *; omega) (Nat.le_of_ble_eq_true rfl) rfl ?_
          refine V_goto (pc := 888) dL_law_888 (tgt := 532) rfl ?_
          refine V_ls (ls' := [(12, vi (((j : Nat) : Int) + 1)), (11, vi 0), (10, vi (s0 + 1)), (9, vi ((Ms.length : Nat) : Int)), (8, vi on), (7, vi by_), (6, vi mo), (2, vi ((nn : Nat) : Int)), (1, vr 0), (0, vr SC)]) (by intro q_ h_; simp only [List.mem_cons, List.not_mem_nil, or_false] at h_ ⊢; rcases h_ with rfl | rfl | rfl | rfl | rfl | rfl | rfl | rfl | rfl | rfl <;> simp) ?_
          have en : s0 + 1 = nextA mo by_ s0 e0 le := by
            first
            | (rw [show mo = 0 by omega, next_0, if_pos (by omega)]; omega)
            | (rw [show mo = 0 by omega, next_0, if_neg (by omega)]; done)
            | (rw [show mo = 1 by omega, next_1]; done)
            | (rw [show mo = 2 by omega, next_2 h0.1, if_pos (by omega)]; done)
            | (rw [show mo = 2 by omega, next_2 h0.1, if_neg (by omega)]; done)
            | (rw [show mo = 3 by omega, next_3]; exact hg (by omega))
          rw [en]
          exact kx _ hm2
    · skip
      refine V_ld (pc := 832) dL_law_832 (v := vi (G2 by_ s0 le (e0 - s0).toNat s0)) rfl rfl ?_
      refine V_goto (pc := 834) dL_law_834 (tgt := 841) rfl ?_
      refine V_st (pc := 841) dL_law_841 (ls' := [(15, vi (G2 by_ s0 le (e0 - s0).toNat s0)), (14, vi (e0 - s0)), (13, vi s0), (12, vi ((j : Nat) : Int)), (11, vi 0), (9, vi ((Ms.length : Nat) : Int)), (8, vi on), (7, vi by_), (6, vi mo), (2, vi ((nn : Nat) : Int)), (1, vr 0), (0, vr SC)]) rfl (Nat.le_of_ble_eq_true rfl) rfl ?_
      refine V_ld (pc := 843) dL_law_843 (v := vi mo) rfl rfl ?_
      refine V_if_ne (pc := 845) dL_law_845 (tgt := 868) rfl (fun h845 => ?_) (fun h845 => ?_)
      · skip
        refine V_ld (pc := 868) dL_law_868 (v := vi mo) rfl rfl ?_
        refine V_iconst (pc := 870) dL_law_870 (by unfold I32; omega) ?_
        refine V_icmp_ne (pc := 871) dL_law_871 (tgt := 881) rfl (fun h871 => ?_) (fun h871 => ?_)
        · skip
          refine V_ld (pc := 881) dL_law_881 (v := vi (G2 by_ s0 le (e0 - s0).toNat s0)) rfl rfl ?_
          refine V_st (pc := 883) dL_law_883 (ls' := [(10, vi (G2 by_ s0 le (e0 - s0).toNat s0)), (15, vi (G2 by_ s0 le (e0 - s0).toNat s0)), (14, vi (e0 - s0)), (13, vi s0), (12, vi ((j : Nat) : Int)), (11, vi 0), (9, vi ((Ms.length : Nat) : Int)), (8, vi on), (7, vi by_), (6, vi mo), (2, vi ((nn : Nat) : Int)), (1, vr 0), (0, vr SC)]) rfl (Nat.le_of_ble_eq_true rfl) rfl ?_
          refine V_iinc (pc := 885) dL_law_885 (x := ((j : Nat) : Int)) (ls' := [(12, vi (((j : Nat) : Int) + 1)), (10, vi (G2 by_ s0 le (e0 - s0).toNat s0)), (15, vi (G2 by_ s0 le (e0 - s0).toNat s0)), (14, vi (e0 - s0)), (13, vi s0), (11, vi 0), (9, vi ((Ms.length : Nat) : Int)), (8, vi on), (7, vi by_), (6, vi mo), (2, vi ((nn : Nat) : Int)), (1, vr 0), (0, vr SC)]) rfl (by unfold I32 at *; omega) (Nat.le_of_ble_eq_true rfl) rfl ?_
          refine V_goto (pc := 888) dL_law_888 (tgt := 532) rfl ?_
          refine V_ls (ls' := [(12, vi (((j : Nat) : Int) + 1)), (11, vi 0), (10, vi (G2 by_ s0 le (e0 - s0).toNat s0)), (9, vi ((Ms.length : Nat) : Int)), (8, vi on), (7, vi by_), (6, vi mo), (2, vi ((nn : Nat) : Int)), (1, vr 0), (0, vr SC)]) (by intro q_ h_; simp only [List.mem_cons, List.not_mem_nil, or_false] at h_ ⊢; rcases h_ with rfl | rfl | rfl | rfl | rfl | rfl | rfl | rfl | rfl | rfl <;> simp) ?_
          have en : (G2 by_ s0 le (e0 - s0).toNat s0) = nextA mo by_ s0 e0 le := by
            first
            | (rw [show mo = 0 by omega, next_0, if_pos (by omega)]; omega)
            | (rw [show mo = 0 by omega, next_0, if_neg (by omega)]; done)
            | (rw [show mo = 1 by omega, next_1]; done)
            | (rw [show mo = 2 by omega, next_2 h0.1, if_pos (by omega)]; done)
            | (rw [show mo = 2 by omega, next_2 h0.1, if_neg (by omega)]; done)
            | (rw [show mo = 3 by omega, next_3]; exact hg (by omega))
          rw [en]
          exact kx _ hm2
        · skip
          refine V_ld (pc := 874) dL_law_874 (v := vi s0) rfl rfl ?_
          refine V_iconst (pc := 876) dL_law_876 (by unfold I32; omega) ?_
          refine V_iadd (pc := 877) dL_law_877 (by unfold I32 at *; omega) ?_
          refine V_goto (pc := 878) dL_law_878 (tgt := 883) rfl ?_
          refine V_st (pc := 883) dL_law_883 (ls' := [(10, vi (s0 + 1)), (15, vi (G2 by_ s0 le (e0 - s0).toNat s0)), (14, vi (e0 - s0)), (13, vi s0), (12, vi ((j : Nat) : Int)), (11, vi 0), (9, vi ((Ms.length : Nat) : Int)), (8, vi on), (7, vi by_), (6, vi mo), (2, vi ((nn : Nat) : Int)), (1, vr 0), (0, vr SC)]) rfl (Nat.le_of_ble_eq_true rfl) rfl ?_
          refine V_iinc (pc := 885) dL_law_885 (x := ((j : Nat) : Int)) (ls' := [(12, vi (((j : Nat) : Int) + 1)), (10, vi (s0 + 1)), (15, vi (G2 by_ s0 le (e0 - s0).toNat s0)), (14, vi (e0 - s0)), (13, vi s0), (11, vi 0), (9, vi ((Ms.length : Nat) : Int)), (8, vi on), (7, vi by_), (6, vi mo), (2, vi ((nn : Nat) : Int)), (1, vr 0), (0, vr SC)]) rfl (by unfold I32 at *; omega) (Nat.le_of_ble_eq_true rfl) rfl ?_
          refine V_goto (pc := 888) dL_law_888 (tgt := 532) rfl ?_
          refine V_ls (ls' := [(12, vi (((j : Nat) : Int) + 1)), (11, vi 0), (10, vi (s0 + 1)), (9, vi ((Ms.length : Nat) : Int)), (8, vi on), (7, vi by_), (6, vi mo), (2, vi ((nn : Nat) : Int)), (1, vr 0), (0, vr SC)]) (by intro q_ h_; simp only [List.mem_cons, List.not_mem_nil, or_false] at h_ ⊢; rcases h_ with rfl | rfl | rfl | rfl | rfl | rfl | rfl | rfl | rfl | rfl <;> simp) ?_
          have en : s0 + 1 = nextA mo by_ s0 e0 le := by
            first
            | (rw [show mo = 0 by omega, next_0, if_pos (by omega)]; omega)
            | (rw [show mo = 0 by omega, next_0, if_neg (by omega)]; done)
            | (rw [show mo = 1 by omega, next_1]; done)
            | (rw [show mo = 2 by omega, next_2 h0.1, if_pos (by omega)]; done)
            | (rw [show mo = 2 by omega, next_2 h0.1, if_neg (by omega)]; done)
            | (rw [show mo = 3 by omega, next_3]; exact hg (by omega))
          rw [en]
          exact kx _ hm2
      · skip
        refine V_ld (pc := 848) dL_law_848 (v := vi (e0 - s0)) rfl rfl ?_
        refine V_if_ne (pc := 850) dL_law_850 (tgt := 860) rfl (fun h850 => ?_) (fun h850 => ?_)
        · skip
          refine V_ld (pc := 860) dL_law_860 (v := vi s0) rfl rfl ?_
          refine V_ld (pc := 862) dL_law_862 (v := vi (e0 - s0)) rfl rfl ?_
          refine V_iadd (pc := 864) dL_law_864 (by unfold I32 at *; omega) ?_
          refine V_goto (pc := 865) dL_law_865 (tgt := 883) rfl ?_
          refine V_st (pc := 883) dL_law_883 (ls' := [(10, vi (s0 + (e0 - s0))), (15, vi (G2 by_ s0 le (e0 - s0).toNat s0)), (14, vi (e0 - s0)), (13, vi s0), (12, vi ((j : Nat) : Int)), (11, vi 0), (9, vi ((Ms.length : Nat) : Int)), (8, vi on), (7, vi by_), (6, vi mo), (2, vi ((nn : Nat) : Int)), (1, vr 0), (0, vr SC)]) rfl (Nat.le_of_ble_eq_true rfl) rfl ?_
          refine V_iinc (pc := 885) dL_law_885 (x := ((j : Nat) : Int)) (ls' := [(12, vi (((j : Nat) : Int) + 1)), (10, vi (s0 + (e0 - s0))), (15, vi (G2 by_ s0 le (e0 - s0).toNat s0)), (14, vi (e0 - s0)), (13, vi s0), (11, vi 0), (9, vi ((Ms.length : Nat) : Int)), (8, vi on), (7, vi by_), (6, vi mo), (2, vi ((nn : Nat) : Int)), (1, vr 0), (0, vr SC)]) rfl (by unfold I32 at *; omega) (Nat.le_of_ble_eq_true rfl) rfl ?_
          refine V_goto (pc := 888) dL_law_888 (tgt := 532) rfl ?_
          refine V_ls (ls' := [(12, vi (((j : Nat) : Int) + 1)), (11, vi 0), (10, vi (s0 + (e0 - s0))), (9, vi ((Ms.length : Nat) : Int)), (8, vi on), (7, vi by_), (6, vi mo), (2, vi ((nn : Nat) : Int)), (1, vr 0), (0, vr SC)]) (by intro q_ h_; simp only [List.mem_cons, List.not_mem_nil, or_false] at h_ ⊢; rcases h_ with rfl | rfl | rfl | rfl | rfl | rfl | rfl | rfl | rfl | rfl <;> simp) ?_
          have en : s0 + (e0 - s0) = nextA mo by_ s0 e0 le := by
            first
            | (rw [show mo = 0 by omega, next_0, if_pos (by omega)]; omega)
            | (rw [show mo = 0 by omega, next_0, if_neg (by omega)]; done)
            | (rw [show mo = 1 by omega, next_1]; done)
            | (rw [show mo = 2 by omega, next_2 h0.1, if_pos (by omega)]; done)
            | (rw [show mo = 2 by omega, next_2 h0.1, if_neg (by omega)]; done)
            | (rw [show mo = 3 by omega, next_3]; exact hg (by omega))
          rw [en]
          exact kx _ hm2
        · skip
          refine V_ld (pc := 853) dL_law_853 (v := vi s0) rfl rfl ?_
          refine V_iconst (pc := 855) dL_law_855 (by unfold I32; omega) ?_
          refine V_iadd (pc := 856) dL_law_856 (by unfold I32 at *; omega) ?_
          refine V_goto (pc := 857) dL_law_857 (tgt := 883) rfl ?_
          refine V_st (pc := 883) dL_law_883 (ls' := [(10, vi (s0 + 1)), (15, vi (G2 by_ s0 le (e0 - s0).toNat s0)), (14, vi (e0 - s0)), (13, vi s0), (12, vi ((j : Nat) : Int)), (11, vi 0), (9, vi ((Ms.length : Nat) : Int)), (8, vi on), (7, vi by_), (6, vi mo), (2, vi ((nn : Nat) : Int)), (1, vr 0), (0, vr SC)]) rfl (Nat.le_of_ble_eq_true rfl) rfl ?_
          refine V_iinc (pc := 885) dL_law_885 (x := ((j : Nat) : Int)) (ls' := [(12, vi (((j : Nat) : Int) + 1)), (10, vi (s0 + 1)), (15, vi (G2 by_ s0 le (e0 - s0).toNat s0)), (14, vi (e0 - s0)), (13, vi s0), (11, vi 0), (9, vi ((Ms.length : Nat) : Int)), (8, vi on), (7, vi by_), (6, vi mo), (2, vi ((nn : Nat) : Int)), (1, vr 0), (0, vr SC)]) rfl (by unfold I32 at *; omega) (Nat.le_of_ble_eq_true rfl) rfl ?_
          refine V_goto (pc := 888) dL_law_888 (tgt := 532) rfl ?_
          refine V_ls (ls' := [(12, vi (((j : Nat) : Int) + 1)), (11, vi 0), (10, vi (s0 + 1)), (9, vi ((Ms.length : Nat) : Int)), (8, vi on), (7, vi by_), (6, vi mo), (2, vi ((nn : Nat) : Int)), (1, vr 0), (0, vr SC)]) (by intro q_ h_; simp only [List.mem_cons, List.not_mem_nil, or_false] at h_ ⊢; rcases h_ with rfl | rfl | rfl | rfl | rfl | rfl | rfl | rfl | rfl | rfl <;> simp) ?_
          have en : s0 + 1 = nextA mo by_ s0 e0 le := by
            first
            | (rw [show mo = 0 by omega, next_0, if_pos (by omega)]; omega)
            | (rw [show mo = 0 by omega, next_0, if_neg (by omega)]; done)
            | (rw [show mo = 1 by omega, next_1]; done)
            | (rw [show mo = 2 by omega, next_2 h0.1, if_pos (by omega)]; done)
            | (rw [show mo = 2 by omega, next_2 h0.1, if_neg (by omega)]; done)
            | (rw [show mo = 3 by omega, next_3]; exact hg (by omega))
          rw [en]
          exact kx _ hm2
