/-! spell(): the class writes a part -/
set_option maxHeartbeats 4000000 in
theorem c_writeInner (L : Nat) (T : Tb) (c : Nat) (f : Nat) (q : Nat) (m : Mem) (P : Nat) (p : Int) (sp : Int) (d : Int) (A : Nat)  (hL : Lay (mT m) (mR m)) (T_P : mT m P = (4, 2)) (R_P_0 : mR m P 0 = some A) (T_A : mT m A = (20, L)) (hc : mI m P 1 = (c : Int) ∧ c * 9 ≤ L ∧ L ≤ 2160) (hT : CTab (mI m) A T c) (hp : 0 ≤ p ∧ p < (c : Int)) (h59 : 59 ≤ P ∧ 59 ≤ A) (hW : WfT T 0 c ∧ CWr L T c f) (hd : 0 ≤ d ∧ d + 1 + (f : Int) ≤ 41) (hsp : (if sp = -1 then [] else [sp]) = sepS (T p.toNat 0)) (hk : T p.toNat 2 = (q : Int) ∧ q ≤ 1000 ∧ (∃ l, Pth T ((0 : Nat) : Int) (p.toNat : Nat) q (T p.toNat 7) l) ∧ mxC T 10 q (T p.toNat 7) < (f : Int)) (hr : 0 ≤ mI m 15 1 ∧ mI m 15 1 + (((kidS T (splF T f) (T p.toNat 0) true q (T p.toNat 7)).length : Nat) : Int) ≤ 120) : Ct μX4_writeInner (2 * f + 3) [vr P, vi p, vi sp, vr 15, vi d] m (rv fun m' => apM 15 1 16 m (kidS T (splF T f) (T p.toNat 0) true q (T p.toNat 7)) = m') := by
  refine Ct_of_V rfl (by decide) rfl (Nat.le_of_ble_eq_true rfl) ?_
  show V μX4_writeInner (2 * f + 3) m _ 0 [(0, vr P), (1, vi p), (2, vi sp), (3, vr 15), (4, vi d)] [] m
  refine V_rg (k := 1) (x := p) rfl fun r_p => ?_
  refine V_rg (k := 2) (x := sp) rfl fun r_sp => ?_
  refine V_rg (k := 4) (x := d) rfl fun r_d => ?_
  refine V_ld (pc := 0) dX4_writeInner_0 (v := vr P) rfl rfl ?_
  refine V_ld (pc := 1) dX4_writeInner_1 (v := vi p) rfl rfl ?_
  refine V_bipush (pc := 2) dX4_writeInner_2 (by unfold I32; omega) (by decide) ?_
  refine V_callV (pc := 4) dX4_writeInner_4 (F' := 0) (As := [vi p, vi 7]) (st := []) cw_RX4_23 rfl rfl T_P (by decide) (Nat.le_of_ble_eq_true rfl) (by omega) (c_factT L T c 7 m P p 7 A  T_P R_P_0 T_A (by (repeat rw [apM_ne (by omega) (by omega)]); exact hc) (fun p_ w_ h1_ h2_ => by (repeat rw [apM_ne (by omega) (by omega)]); exact hT p_ w_ h1_ h2_) hp ⟨by decide, by decide⟩) ?_
  rintro _ _ ⟨x4, rfl, rfl, rfl⟩ ok4 le4
  refine V_st (pc := 7) dX4_writeInner_7 (ls' := [(5, vi (T p.toNat 7)), (0, vr P), (1, vi p), (2, vi sp), (3, vr 15), (4, vi d)]) rfl (Nat.le_of_ble_eq_true rfl) rfl ?_
  refine V_ld (pc := 9) dX4_writeInner_9 (v := vr P) rfl rfl ?_
  refine V_ld (pc := 10) dX4_writeInner_10 (v := vi p) rfl rfl ?_
  refine V_iconst (pc := 11) dX4_writeInner_11 (by unfold I32; omega) ?_
  refine V_callV (pc := 12) dX4_writeInner_12 (F' := 0) (As := [vi p, vi 2]) (st := []) cw_RX4_23 rfl rfl T_P (by decide) (Nat.le_of_ble_eq_true rfl) (by omega) (c_factT L T c 2 m P p 2 A  T_P R_P_0 T_A (by (repeat rw [apM_ne (by omega) (by omega)]); exact hc) (fun p_ w_ h1_ h2_ => by (repeat rw [apM_ne (by omega) (by omega)]); exact hT p_ w_ h1_ h2_) hp ⟨by decide, by decide⟩) ?_
  rintro _ _ ⟨x12, rfl, rfl, rfl⟩ ok12 le12
  refine V_st (pc := 15) dX4_writeInner_15 (ls' := [(6, vi (T p.toNat 2)), (5, vi (T p.toNat 7)), (0, vr P), (1, vi p), (2, vi sp), (3, vr 15), (4, vi d)]) rfl (Nat.le_of_ble_eq_true rfl) rfl ?_
  refine V_iconst (pc := 17) dX4_writeInner_17 (by unfold I32; omega) ?_
  refine V_st (pc := 18) dX4_writeInner_18 (ls' := [(7, vi 0), (6, vi (T p.toNat 2)), (5, vi (T p.toNat 7)), (0, vr P), (1, vi p), (2, vi sp), (3, vr 15), (4, vi d)]) rfl (Nat.le_of_ble_eq_true rfl) rfl ?_
  rw [hk.1]
  skip
  refine L_wi (F := 2 * f + 3) (m := m) (P := P) (A := A) (L := L) (c := c) (f := f) (q := q) (T := T) (p := p) (sp := sp) (d := d) (by omega) hL T_P R_P_0 T_A hc hT hp h59 hW.1 hW.2 hd hsp hr.1 hk.2.1 q 0 (T p.toNat 7) [] (by omega) (Or.inr hk.2.2.1) hk.2.2.2 ?_ (fun ls => ?_)
  · show mI m 15 1 + ((0 : Nat) : Int) + _ ≤ 120
    have h_ := hr.2
    rw [show decide ((0 : Nat) = 0) = true from rfl]
    omega
  · refine V_retv (pc := 112) dX4_writeInner_112 trivial ?_
    rfl
