/-! filling and copying; lists -/
def fillR (m : Mem) (a lo n : Nat) (v : Int) : Mem := wI m (fun o k => if o = a ∧ lo ≤ k ∧ k < lo + n then v else mI m o k)
theorem mI_fillR {m : Mem} {a lo n : Nat} {v : Int} {o k : Nat} : mI (fillR m a lo n v) o k = if o = a ∧ lo ≤ k ∧ k < lo + n then v else mI m o k := rfl
theorem mI_cpyI {m : Mem} {a sp b dp n : Nat} {o k : Nat} : mI (cpyI m a sp b dp n) o k = if o = b ∧ dp ≤ k ∧ k < dp + n then mI m a (sp + (k - dp)) else mI m o k := rfl
theorem fillR_0 {m : Mem} {a lo : Nat} {v : Int} : fillR m a lo 0 v = m := by
  have h : (fun o k => if o = a ∧ lo ≤ k ∧ k < lo + 0 then v else mI m o k) = mI m := by
    funext o k; exact if_neg (by omega)
  unfold fillR; rw [h]; rfl
theorem fillR_s {m : Mem} {a lo n q : Nat} {v : Int} (hq : q = lo + n) : setI (fillR m a lo n v) a q v = fillR m a lo (n + 1) v := by
  subst hq
  have h : up2 (mI (fillR m a lo n v)) a (lo + n) v = fun o k => if o = a ∧ lo ≤ k ∧ k < lo + (n + 1) then v else mI m o k := by
    funext o k
    unfold up2
    rw [mI_fillR]
    by_cases h1 : o = a ∧ k = lo + n
    · rw [if_pos h1, if_pos (by omega)]
    · rw [if_neg h1]
      by_cases h2 : o = a ∧ lo ≤ k ∧ k < lo + n
      · rw [if_pos h2, if_pos (by omega)]
      · rw [if_neg h2, if_neg (by omega)]
  unfold setI; rw [h]; rfl
theorem cpyI_0 {m : Mem} {a sp b dp : Nat} : cpyI m a sp b dp 0 = m := by
  have h : (fun o k => if o = b ∧ dp ≤ k ∧ k < dp + 0 then mI m a (sp + (k - dp)) else mI m o k) = mI m := by
    funext o k; exact if_neg (by omega)
  unfold cpyI; rw [h]; rfl
theorem cpyI_s {m : Mem} {a sp b dp n q : Nat} {v : Int} (hq : q = dp + n) (hv : v = mI m a (sp + n)) : setI (cpyI m a sp b dp n) b q v = cpyI m a sp b dp (n + 1) := by
  subst hq; subst hv
  have h : up2 (mI (cpyI m a sp b dp n)) b (dp + n) (mI m a (sp + n)) = fun o k => if o = b ∧ dp ≤ k ∧ k < dp + (n + 1) then mI m a (sp + (k - dp)) else mI m o k := by
    funext o k
    unfold up2
    rw [mI_cpyI]
    by_cases h1 : o = b ∧ k = dp + n
    · rw [if_pos h1, if_pos (by omega)]
      congr 1
      omega
    · rw [if_neg h1]
      by_cases h2 : o = b ∧ dp ≤ k ∧ k < dp + n
      · rw [if_pos h2, if_pos (by omega)]
      · rw [if_neg h2, if_neg (by omega)]
  unfold setI; rw [h]; rfl

theorem L_fill {F : Nat} {m0 m : Mem} {post : Option AV → Mem → Prop} {a n : Nat} {v : Int} (Ta : mT m a = (21, n)) (hn : n < 100000) (kx : V μJ7_fill_d0a16 F m0 post 22 [(3, vi (n : Int)), (4, vi (n : Int)), (0, vr a), (1, vl v)] [] (fillR m a 0 n v)) : ∀ (d i : Nat), d + i = n → V μJ7_fill_d0a16 F m0 post 6 [(3, vi (i : Int)), (4, vi ((n : Nat) : Int)), (0, vr a), (1, vl v)] [] (fillR m a 0 i v) := by
  intro d
  induction d with
  | zero =>
    intro i hi
    obtain rfl : i = n := by omega
    refine V_ld (pc := 6) dJ7_fill_d0a16_6 (v := vi (i : Int)) rfl rfl ?_
    refine V_ld (pc := 7) dJ7_fill_d0a16_7 (v := vi (i : Int)) rfl rfl ?_
    exact V_icmp_ge (pc := 9) dJ7_fill_d0a16_9 (tgt := 22) rfl (fun _ => kx) (fun h => by omega)
  | succ d ih =>
    intro i hi
    refine V_ld (pc := 6) dJ7_fill_d0a16_6 (v := vi (i : Int)) rfl rfl ?_
    refine V_ld (pc := 7) dJ7_fill_d0a16_7 (v := vi (n : Int)) rfl rfl ?_
    refine V_icmp_ge (pc := 9) dJ7_fill_d0a16_9 (tgt := 22) rfl (fun h => by omega) (fun h => ?_)
    refine V_ld (pc := 12) dJ7_fill_d0a16_12 (v := vr a) rfl rfl ?_
    refine V_ld (pc := 13) dJ7_fill_d0a16_13 (v := vi (i : Int)) rfl rfl ?_
    refine V_ld (pc := 14) dJ7_fill_d0a16_14 (v := vl v) rfl rfl ?_
    refine V_last (pc := 15) dJ7_fill_d0a16_15 Ta (by omega) ?_
    refine V_iinc (pc := 16) dJ7_fill_d0a16_16 (x := (i : Int)) (ls' := [(3, vi ((i : Int) + 1)), (4, vi ((n : Nat) : Int)), (0, vr a), (1, vl v)]) rfl (by unfold I32 at *; omega) (Nat.le_of_ble_eq_true rfl) rfl ?_
    refine V_goto (pc := 19) dJ7_fill_d0a16_19 (tgt := 6) rfl ?_
    refine V_mem (fillR_s (by omega)) ?_
    exact ih (i + 1) (by omega)

set_option maxHeartbeats 4000000 in
theorem j_fill (n : Nat) (m : Mem) (a : Nat) (v : Int)   (T_a : mT m a = (21, n)) (hn : n < 100000) : Ct μJ7_fill_d0a16 0 [vr a, vl v] m (rv fun m' => ((True) ∧ fillR m a 0 n v = m')) := by
  refine Ct_of_VF rfl (by decide +kernel) rfl (Nat.le_of_ble_eq_true rfl) ?_
  show V μJ7_fill_d0a16 0 m _ 0 [(0, vr a), (1, vl v)] [] m
  refine V_rgl (k := 1) (x := v) rfl fun r_v => ?_
  refine V_iconst (pc := 0) dJ7_fill_d0a16_0 (by unfold I32; omega) ?_
  refine V_st (pc := 1) dJ7_fill_d0a16_1 (ls' := [(3, vi 0), (0, vr a), (1, vl v)]) rfl (Nat.le_of_ble_eq_true rfl) rfl ?_
  refine V_ld (pc := 2) dJ7_fill_d0a16_2 (v := vr a) rfl rfl ?_
  refine V_alen (pc := 3) dJ7_fill_d0a16_3 T_a (by decide) (by omega) ?_
  refine V_st (pc := 4) dJ7_fill_d0a16_4 (ls' := [(4, vi ((n : Nat) : Int)), (3, vi 0), (0, vr a), (1, vl v)]) rfl (Nat.le_of_ble_eq_true rfl) rfl ?_
  refine V_ls (ls' := [(3, vi ((0 : Nat) : Int)), (4, vi (n : Int)), (0, vr a), (1, vl v)]) (by intro q_ h_; simp only [List.mem_cons, List.not_mem_nil, or_false] at h_ ⊢; rcases h_ with rfl | rfl | rfl | rfl <;> simp) ?_
  refine V_mem (fillR_0 (a := a) (lo := 0) (v := v)).symm ?_
  exact L_fill T_a hn (V_retv (pc := 22) dJ7_fill_d0a16_22 trivial ⟨trivial, rfl⟩) n 0 (by omega)

set_option maxHeartbeats 4000000 in
theorem c_Longs_become  (m : Mem) (t : Nat) (n : Int) (b : Nat)  (T_t : mT m t = (2, 2)) (R_t_0 : mR m t 0 = some b) (T_b : mT m b = (21, 40)) : Ct μX2_become 1 [vr t, vi n] m (rv fun m' => ((True) ∧ setI (fillR m b 0 40 0) t 1 n = m')) := by
  refine Ct_of_V rfl (by decide) rfl (Nat.le_of_ble_eq_true rfl) ?_
  show V μX2_become 1 m _ 0 [(0, vr t), (1, vi n)] [] m
  refine V_rg (k := 1) (x := n) rfl fun r_n => ?_
  refine V_ld (pc := 0) dX2_become_0 (v := vr t) rfl rfl ?_
  refine V_getRv (pc := 1) dX2_become_1 (o' := b) fw_RX2_9 rfl T_t R_t_0 ?_
  refine V_lconst (pc := 4) dX2_become_4 (x := 0) (by unfold I64; omega) (by decide) ?_
  refine V_callS (pc := 5) dX2_become_5 (F' := 0) (As := [vr b, vl 0]) (st := []) cw_RX2_19 rfl rfl (Nat.le_of_ble_eq_true rfl) (by omega) (j_fill 40 m b 0   T_b (by omega)) ?_
  rintro _ _ ⟨rfl, (⟨hc5, rfl⟩)⟩ ok5 le5
  · skip
    refine V_ld (pc := 8) dX2_become_8 (v := vr t) rfl rfl ?_
    refine V_ld (pc := 9) dX2_become_9 (v := vi n) rfl rfl ?_
    refine V_putI (pc := 10) dX2_become_10 fw_RX2_15 rfl T_t (Or.inl rfl) (Or.inl rfl) ?_
    refine V_retv (pc := 13) dX2_become_13 trivial ?_
    exact ⟨trivial, rfl⟩
