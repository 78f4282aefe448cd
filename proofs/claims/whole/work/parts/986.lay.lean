/-! lay(), judge(): class and reference -/
/-- a row of values laid into an array -/
def layM (m : Mem) (o lo : Nat) (V : Nat → Int) (k : Nat) : Mem := wI m (fun o' p => if o' = o ∧ lo ≤ p ∧ p < lo + k then V (p - lo) else mI m o' p)
theorem mI_layM {m : Mem} {o lo k o' p : Nat} {V : Nat → Int} : mI (layM m o lo V k) o' p = if o' = o ∧ lo ≤ p ∧ p < lo + k then V (p - lo) else mI m o' p := rfl
theorem layM_0 {m : Mem} {o lo : Nat} {V : Nat → Int} : layM m o lo V 0 = m := by
  have h : (fun o' p => if o' = o ∧ lo ≤ p ∧ p < lo + 0 then V (p - lo) else mI m o' p) = mI m := by
    funext o' p; exact if_neg (by omega)
  unfold layM; rw [h]; rfl
theorem layM_s {m : Mem} {o lo k q : Nat} {V : Nat → Int} {v : Int} (hq : q = lo + k) (hv : v = V k) : setI (layM m o lo V k) o q v = layM m o lo V (k + 1) := by
  subst hq; subst hv
  have h : up2 (mI (layM m o lo V k)) o (lo + k) (V k) = fun o' p => if o' = o ∧ lo ≤ p ∧ p < lo + (k + 1) then V (p - lo) else mI m o' p := by
    funext o' p
    unfold up2
    rw [mI_layM]
    by_cases h1 : o' = o ∧ p = lo + k
    · rw [if_pos h1, if_pos (show o' = o ∧ lo ≤ p ∧ p < lo + (k + 1) by omega), show p - lo = k from by omega]
    · rw [if_neg h1]
      by_cases h2 : o' = o ∧ lo ≤ p ∧ p < lo + k
      · rw [if_pos h2, if_pos (show o' = o ∧ lo ≤ p ∧ p < lo + (k + 1) by omega)]
      · rw [if_neg h2, if_neg (show ¬ (o' = o ∧ lo ≤ p ∧ p < lo + (k + 1)) by omega)]
  unfold setI; rw [h]; rfl
/-- how many are laid -/
def layK (N : Nat) (S i : Int) : Nat := if i < 0 then 0 else min N (S - i).toNat
def layX (N : Nat) (S i : Int) : Int := if (0 ≤ i ∧ i + (N : Int) ≤ S) ∨ N = 0 then (N : Int) else -13
/-- judged, from the k-th match on -/
def judF (S i : Int) (lst : Nat → Int) (V : Nat → Int) : Nat → Nat → Int
  | 0, _ => -5
  | d + 1, k => if 0 ≤ i + (k : Int) ∧ i + (k : Int) < S then (if lst (i + (k : Int)).toNat = V k then judF S i lst V d (k + 1) else (k : Int)) else 100 + (k : Int)
theorem Lay.lst {T : Nat → Nat × Nat} {R : Nat → Nat → Option Nat} (h : Lay T R) {l : Int} (hl : 0 ≤ l ∧ l ≤ 3) : T (22 + 2 * l.toNat) = (2, 2) ∧ R (22 + 2 * l.toNat) 0 = some (23 + 2 * l.toNat) ∧ T (23 + 2 * l.toNat) = (21, 40) := by
  have e : l = 0 ∨ l = 1 ∨ l = 2 ∨ l = 3 := by omega
  rcases e with rfl | rfl | rfl | rfl
  · exact ⟨h.t22, h.r22_0, h.t23⟩
  · exact ⟨h.t24, h.r24_0, h.t25⟩
  · exact ⟨h.t26, h.r26_0, h.t27⟩
  · exact ⟨h.t28, h.r28_0, h.t29⟩
/-- what a match measures: class, reference -/
def mesC (m : Mem) (c : Nat) (e col w : Int) (j : Nat) : Int := measM (foldM (labC m c (j : Int)) (numC m 2 3 col) e 32) w
def mesR (m : Mem) (e col w : Int) (j : Nat) : Int := measM (foldM (fun r_ : Nat => labR m (j : Int) (r_ : Int)) (numR2 m col) e (mI m 31 64).toNat) w
theorem mesC_lay {m : Mem} {o lo c k : Nat} {V : Nat → Int} {e col w : Int} (h : o ≠ c ∧ o ≠ 2 ∧ o ≠ 3) (j : Nat) : mesC (layM m o lo V k) c e col w j = mesC m c e col w j := by
  have e1 : labC (layM m o lo V k) c (j : Int) = labC m c (j : Int) := funext fun r => if_neg (by omega)
  have e2 : numC (layM m o lo V k) 2 3 col = numC m 2 3 col := funext fun r => by
    unfold numC
    have h2 : mI (layM m o lo V k) 2 1 = mI m 2 1 := if_neg (by omega)
    have h3 : ∀ p, mI (layM m o lo V k) 3 p = mI m 3 p := fun p => if_neg (by omega)
    rw [h2, h3]
  unfold mesC
  rw [e1, e2]
theorem mesR_lay {m : Mem} {o lo k : Nat} {V : Nat → Int} {e col w : Int} (h : o ≠ 31) (j : Nat) : mesR (layM m o lo V k) e col w j = mesR m e col w j := by
  have hr : ∀ p, mI (layM m o lo V k) 31 p = mI m 31 p := fun p => if_neg (by omega)
  have e1 : (fun r_ : Nat => labR (layM m o lo V k) (j : Int) (r_ : Int)) = fun r_ : Nat => labR m (j : Int) (r_ : Int) := funext fun r => by
    unfold labR
    rw [hr, hr, hr]
  have e2 : numR2 (layM m o lo V k) col = numR2 m col := funext fun r => by
    unfold numR2
    rw [hr]
  unfold mesR
  rw [e1, e2, hr]

set_option maxHeartbeats 4000000 in
theorem c_layB  (m : Mem) (l : Int) (i : Int) (e : Int) (col : Int) (w : Int)   (hL : Lay (mT m) (mR m)) (hb : ¬ (0 ≤ l ∧ l ≤ 3 ∧ 0 ≤ e ∧ e ≤ 26 ∧ 0 ≤ col ∧ col < 2 ∧ 0 ≤ w ∧ w < 7)) : Ct μX10_lay 5 [vr 0, vi l, vi i, vi e, vi col, vi w] m (ri fun x_ m' => (x_ = -1) ∧ m = m') := by
  refine Ct_of_V rfl (by decide) rfl (Nat.le_of_ble_eq_true rfl) ?_
  show V μX10_lay 5 m _ 0 [(0, vr 0), (1, vi l), (2, vi i), (3, vi e), (4, vi col), (5, vi w)] [] m
  refine V_rg (k := 1) (x := l) rfl fun r_l => ?_
  refine V_rg (k := 2) (x := i) rfl fun r_i => ?_
  refine V_rg (k := 3) (x := e) rfl fun r_e => ?_
  refine V_rg (k := 4) (x := col) rfl fun r_col => ?_
  refine V_rg (k := 5) (x := w) rfl fun r_w => ?_
  refine V_ld (pc := 0) dX10_lay_0 (v := vr 0) rfl rfl ?_
  refine V_ld (pc := 1) dX10_lay_1 (v := vi l) rfl rfl ?_
  refine V_callV (pc := 2) dX10_lay_2 (F' := 0) (As := [vi l]) (st := []) cw_RX10_220 rfl rfl hL.t0 (by decide) (Nat.le_of_ble_eq_true rfl) (by omega) (c_listAt  m l   (by first | assumption | omega)) ?_
  rintro _ _ ⟨x2, rfl, (⟨hc2, rfl, rfl⟩ | ⟨hc2, rfl, rfl⟩)⟩ ok2 le2
  · skip
    refine V_st (pc := 5) dX10_lay_5 (ls' := [(6, vq none), (0, vr 0), (1, vi l), (2, vi i), (3, vi e), (4, vi col), (5, vi w)]) rfl (Nat.le_of_ble_eq_true rfl) rfl ?_
    refine V_ld (pc := 7) dX10_lay_7 (v := vq none) rfl rfl ?_
    refine V_ifnull (pc := 9) dX10_lay_9 (tgt := 23) rfl (fun _ => ?_) (fun _ h_ => by cases h_)
    refine V_iconst (pc := 23) dX10_lay_23 (by unfold I32; omega) ?_
    refine V_reti (pc := 24) dX10_lay_24 trivial ?_
    exact ⟨rfl, rfl⟩
  · skip
    refine V_st (pc := 5) dX10_lay_5 (ls' := [(6, vr (22 + 2 * l.toNat)), (0, vr 0), (1, vi l), (2, vi i), (3, vi e), (4, vi col), (5, vi w)]) rfl (Nat.le_of_ble_eq_true rfl) rfl ?_
    refine V_ld (pc := 7) dX10_lay_7 (v := vr (22 + 2 * l.toNat)) rfl rfl ?_
    refine V_ifnull (pc := 9) dX10_lay_9 (tgt := 23) rfl (fun h_ => by cases h_) (fun _ _ => ?_)
    refine V_ld (pc := 12) dX10_lay_12 (v := vi e) rfl rfl ?_
    refine V_ld (pc := 13) dX10_lay_13 (v := vi col) rfl rfl ?_
    refine V_ld (pc := 15) dX10_lay_15 (v := vi w) rfl rfl ?_
    refine V_callS (pc := 17) dX10_lay_17 (F' := 1) (As := [vi e, vi col, vi w]) (st := []) cw_RX10_201 rfl rfl (Nat.le_of_ble_eq_true rfl) (by omega) (c_isMeasure  m e col w   ) ?_
    rintro _ _ ⟨x17, rfl, hx17, rfl⟩ ok17 le17
    refine V_if_ne (pc := 20) dX10_lay_20 (tgt := 25) rfl (fun h20 => ?_) (fun h20 => ?_)
    · skip
      exfalso; omega
    · skip
      refine V_iconst (pc := 23) dX10_lay_23 (by unfold I32; omega) ?_
      refine V_reti (pc := 24) dX10_lay_24 trivial ?_
      exact ⟨rfl, rfl⟩

set_option maxHeartbeats 4000000 in
theorem c_layN  (m : Mem) (l : Int) (i : Int) (e : Int) (col : Int) (w : Int)   (hL : Lay (mT m) (mR m)) (hb : 0 ≤ l ∧ l ≤ 3 ∧ 0 ≤ e ∧ e ≤ 26 ∧ 0 ≤ col ∧ col < 2 ∧ 0 ≤ w ∧ w < 7) (hz : mI m (22 + 2 * l.toNat) 1 < 0) : Ct μX10_lay 5 [vr 0, vi l, vi i, vi e, vi col, vi w] m (ri fun x_ m' => (x_ = -11) ∧ m = m') := by
  refine Ct_of_V rfl (by decide) rfl (Nat.le_of_ble_eq_true rfl) ?_
  show V μX10_lay 5 m _ 0 [(0, vr 0), (1, vi l), (2, vi i), (3, vi e), (4, vi col), (5, vi w)] [] m
  refine V_rg (k := 1) (x := l) rfl fun r_l => ?_
  refine V_rg (k := 2) (x := i) rfl fun r_i => ?_
  refine V_rg (k := 3) (x := e) rfl fun r_e => ?_
  refine V_rg (k := 4) (x := col) rfl fun r_col => ?_
  refine V_rg (k := 5) (x := w) rfl fun r_w => ?_
  have hlst := hL.lst ⟨hb.1, hb.2.1⟩
  refine V_ld (pc := 0) dX10_lay_0 (v := vr 0) rfl rfl ?_
  refine V_ld (pc := 1) dX10_lay_1 (v := vi l) rfl rfl ?_
  refine V_callV (pc := 2) dX10_lay_2 (F' := 0) (As := [vi l]) (st := []) cw_RX10_220 rfl rfl hL.t0 (by decide) (Nat.le_of_ble_eq_true rfl) (by omega) (c_listAt  m l   (by first | assumption | omega)) ?_
  rintro _ _ ⟨x2, rfl, (⟨hc2, rfl, rfl⟩ | ⟨hc2, rfl, rfl⟩)⟩ ok2 le2
  · skip
    refine V_st (pc := 5) dX10_lay_5 (ls' := [(6, vq none), (0, vr 0), (1, vi l), (2, vi i), (3, vi e), (4, vi col), (5, vi w)]) rfl (Nat.le_of_ble_eq_true rfl) rfl ?_
    refine V_ld (pc := 7) dX10_lay_7 (v := vq none) rfl rfl ?_
    refine V_ifnull (pc := 9) dX10_lay_9 (tgt := 23) rfl (fun _ => ?_) (fun _ h_ => by cases h_)
    refine V_iconst (pc := 23) dX10_lay_23 (by unfold I32; omega) ?_
    refine V_reti (pc := 24) dX10_lay_24 trivial ?_
    first | (exfalso; omega) | exact ⟨rfl, rfl⟩
  · skip
    refine V_st (pc := 5) dX10_lay_5 (ls' := [(6, vr (22 + 2 * l.toNat)), (0, vr 0), (1, vi l), (2, vi i), (3, vi e), (4, vi col), (5, vi w)]) rfl (Nat.le_of_ble_eq_true rfl) rfl ?_
    refine V_ld (pc := 7) dX10_lay_7 (v := vr (22 + 2 * l.toNat)) rfl rfl ?_
    refine V_ifnull (pc := 9) dX10_lay_9 (tgt := 23) rfl (fun h_ => by cases h_) (fun _ _ => ?_)
    refine V_ld (pc := 12) dX10_lay_12 (v := vi e) rfl rfl ?_
    refine V_ld (pc := 13) dX10_lay_13 (v := vi col) rfl rfl ?_
    refine V_ld (pc := 15) dX10_lay_15 (v := vi w) rfl rfl ?_
    refine V_callS (pc := 17) dX10_lay_17 (F' := 1) (As := [vi e, vi col, vi w]) (st := []) cw_RX10_201 rfl rfl (Nat.le_of_ble_eq_true rfl) (by omega) (c_isMeasure  m e col w   ) ?_
    rintro _ _ ⟨x17, rfl, hx17, rfl⟩ ok17 le17
    refine V_if_ne (pc := 20) dX10_lay_20 (tgt := 25) rfl (fun h20 => ?_) (fun h20 => ?_)
    · skip
      refine V_ld (pc := 25) dX10_lay_25 (v := vr (22 + 2 * l.toNat)) rfl rfl ?_
      refine V_getIv (pc := 27) dX10_lay_27 (v := mI m (22 + 2 * l.toNat) 1) fw_RX10_228 rfl hlst.1 rfl (fun g27 => ?_)
      refine V_if_ge (pc := 30) dX10_lay_30 (tgt := 36) rfl (fun h30 => ?_) (fun h30 => ?_)
      · skip
        exfalso; omega
      · skip
        refine V_bipush (pc := 33) dX10_lay_33 (by unfold I32; omega) (by decide) ?_
        refine V_reti (pc := 35) dX10_lay_35 trivial ?_
        first | (exfalso; omega) | exact ⟨rfl, rfl⟩
    · skip
      refine V_iconst (pc := 23) dX10_lay_23 (by unfold I32; omega) ?_
      refine V_reti (pc := 24) dX10_lay_24 trivial ?_
      first | (exfalso; omega) | exact ⟨rfl, rfl⟩

set_option maxHeartbeats 4000000 in
theorem r_layB  (m : Mem) (l : Int) (i : Int) (e : Int) (col : Int) (w : Int)   (hL : Lay (mT m) (mR m)) (hb : ¬ (0 ≤ l ∧ l ≤ 3 ∧ 0 ≤ e ∧ e ≤ 26 ∧ 0 ≤ col ∧ col < 2 ∧ 0 ≤ w ∧ w < 7)) : Ct μX11_lay 5 [vr 30, vi l, vi i, vi e, vi col, vi w] m (ri fun x_ m' => (x_ = -1) ∧ m = m') := by
  refine Ct_of_V rfl (by decide) rfl (Nat.le_of_ble_eq_true rfl) ?_
  show V μX11_lay 5 m _ 0 [(0, vr 30), (1, vi l), (2, vi i), (3, vi e), (4, vi col), (5, vi w)] [] m
  refine V_rg (k := 1) (x := l) rfl fun r_l => ?_
  refine V_rg (k := 2) (x := i) rfl fun r_i => ?_
  refine V_rg (k := 3) (x := e) rfl fun r_e => ?_
  refine V_rg (k := 4) (x := col) rfl fun r_col => ?_
  refine V_rg (k := 5) (x := w) rfl fun r_w => ?_
  refine V_ld (pc := 0) dX11_lay_0 (v := vi l) rfl rfl ?_
  refine V_callS (pc := 1) dX11_lay_1 (F' := 1) (As := [vi l]) (st := []) cw_RX11_394 rfl rfl (Nat.le_of_ble_eq_true rfl) (by omega) (r_isList  m l   ) ?_
  rintro _ _ ⟨x1, rfl, hx1, rfl⟩ ok1 le1
  refine V_if_eq (pc := 4) dX11_lay_4 (tgt := 18) rfl (fun h4 => ?_) (fun h4 => ?_)
  · skip
    refine V_iconst (pc := 18) dX11_lay_18 (by unfold I32; omega) ?_
    refine V_reti (pc := 19) dX11_lay_19 trivial ?_
    exact ⟨rfl, rfl⟩
  · skip
    refine V_ld (pc := 7) dX11_lay_7 (v := vi e) rfl rfl ?_
    refine V_ld (pc := 8) dX11_lay_8 (v := vi col) rfl rfl ?_
    refine V_ld (pc := 10) dX11_lay_10 (v := vi w) rfl rfl ?_
    refine V_callS (pc := 12) dX11_lay_12 (F' := 1) (As := [vi e, vi col, vi w]) (st := []) cw_RX11_379 rfl rfl (Nat.le_of_ble_eq_true rfl) (by omega) (r_isMeasure  m e col w   ) ?_
    rintro _ _ ⟨x12, rfl, hx12, rfl⟩ ok12 le12
    refine V_if_ne (pc := 15) dX11_lay_15 (tgt := 20) rfl (fun h15 => ?_) (fun h15 => ?_)
    · skip
      exfalso; omega
    · skip
      refine V_iconst (pc := 18) dX11_lay_18 (by unfold I32; omega) ?_
      refine V_reti (pc := 19) dX11_lay_19 trivial ?_
      exact ⟨rfl, rfl⟩

set_option maxHeartbeats 4000000 in
theorem r_layN  (m : Mem) (l : Int) (i : Int) (e : Int) (col : Int) (w : Int)   (hL : Lay (mT m) (mR m)) (hb : 0 ≤ l ∧ l ≤ 3 ∧ 0 ≤ e ∧ e ≤ 26 ∧ 0 ≤ col ∧ col < 2 ∧ 0 ≤ w ∧ w < 7) (hz : mI m 56 l.toNat < 0) : Ct μX11_lay 5 [vr 30, vi l, vi i, vi e, vi col, vi w] m (ri fun x_ m' => (x_ = -11) ∧ m = m') := by
  refine Ct_of_V rfl (by decide) rfl (Nat.le_of_ble_eq_true rfl) ?_
  show V μX11_lay 5 m _ 0 [(0, vr 30), (1, vi l), (2, vi i), (3, vi e), (4, vi col), (5, vi w)] [] m
  refine V_rg (k := 1) (x := l) rfl fun r_l => ?_
  refine V_rg (k := 2) (x := i) rfl fun r_i => ?_
  refine V_rg (k := 3) (x := e) rfl fun r_e => ?_
  refine V_rg (k := 4) (x := col) rfl fun r_col => ?_
  refine V_rg (k := 5) (x := w) rfl fun r_w => ?_
  refine V_ld (pc := 0) dX11_lay_0 (v := vi l) rfl rfl ?_
  refine V_callS (pc := 1) dX11_lay_1 (F' := 1) (As := [vi l]) (st := []) cw_RX11_394 rfl rfl (Nat.le_of_ble_eq_true rfl) (by omega) (r_isList  m l   ) ?_
  rintro _ _ ⟨x1, rfl, hx1, rfl⟩ ok1 le1
  refine V_if_eq (pc := 4) dX11_lay_4 (tgt := 18) rfl (fun h4 => ?_) (fun h4 => ?_)
  · skip
    refine V_iconst (pc := 18) dX11_lay_18 (by unfold I32; omega) ?_
    refine V_reti (pc := 19) dX11_lay_19 trivial ?_
    first | (exfalso; omega) | exact ⟨rfl, rfl⟩
  · skip
    refine V_ld (pc := 7) dX11_lay_7 (v := vi e) rfl rfl ?_
    refine V_ld (pc := 8) dX11_lay_8 (v := vi col) rfl rfl ?_
    refine V_ld (pc := 10) dX11_lay_10 (v := vi w) rfl rfl ?_
    refine V_callS (pc := 12) dX11_lay_12 (F' := 1) (As := [vi e, vi col, vi w]) (st := []) cw_RX11_379 rfl rfl (Nat.le_of_ble_eq_true rfl) (by omega) (r_isMeasure  m e col w   ) ?_
    rintro _ _ ⟨x12, rfl, hx12, rfl⟩ ok12 le12
    refine V_if_ne (pc := 15) dX11_lay_15 (tgt := 20) rfl (fun h15 => ?_) (fun h15 => ?_)
    · skip
      refine V_ld (pc := 20) dX11_lay_20 (v := vr 30) rfl rfl ?_
      refine V_getRv (pc := 21) dX11_lay_21 (o' := 56) fw_RX11_87 rfl hL.t30 hL.r30_50 ?_
      refine V_ld (pc := 24) dX11_lay_24 (v := vi l) rfl rfl ?_
      refine V_ialdv (pc := 25) dX11_lay_25 (v := mI m 56 l.toNat) hL.t56 (by omega) rfl (fun g25 => ?_)
      refine V_if_ge (pc := 26) dX11_lay_26 (tgt := 32) rfl (fun h26 => ?_) (fun h26 => ?_)
      · skip
        exfalso; omega
      · skip
        refine V_bipush (pc := 29) dX11_lay_29 (by unfold I32; omega) (by decide) ?_
        refine V_reti (pc := 31) dX11_lay_31 trivial ?_
        first | (exfalso; omega) | exact ⟨rfl, rfl⟩
    · skip
      refine V_iconst (pc := 18) dX11_lay_18 (by unfold I32; omega) ?_
      refine V_reti (pc := 19) dX11_lay_19 trivial ?_
      first | (exfalso; omega) | exact ⟨rfl, rfl⟩

set_option maxHeartbeats 4000000 in
theorem c_judgeB  (m : Mem) (l : Int) (i : Int) (e : Int) (col : Int) (w : Int)   (hL : Lay (mT m) (mR m)) (hb : ¬ (0 ≤ l ∧ l ≤ 3 ∧ 0 ≤ e ∧ e ≤ 26 ∧ 0 ≤ col ∧ col < 2 ∧ 0 ≤ w ∧ w < 7)) : Ct μX10_judge 5 [vr 0, vi l, vi i, vi e, vi col, vi w] m (ri fun x_ m' => (x_ = -1) ∧ m = m') := by
  refine Ct_of_V rfl (by decide) rfl (Nat.le_of_ble_eq_true rfl) ?_
  show V μX10_judge 5 m _ 0 [(0, vr 0), (1, vi l), (2, vi i), (3, vi e), (4, vi col), (5, vi w)] [] m
  refine V_rg (k := 1) (x := l) rfl fun r_l => ?_
  refine V_rg (k := 2) (x := i) rfl fun r_i => ?_
  refine V_rg (k := 3) (x := e) rfl fun r_e => ?_
  refine V_rg (k := 4) (x := col) rfl fun r_col => ?_
  refine V_rg (k := 5) (x := w) rfl fun r_w => ?_
  refine V_ld (pc := 0) dX10_judge_0 (v := vr 0) rfl rfl ?_
  refine V_ld (pc := 1) dX10_judge_1 (v := vi l) rfl rfl ?_
  refine V_callV (pc := 2) dX10_judge_2 (F' := 0) (As := [vi l]) (st := []) cw_RX10_220 rfl rfl hL.t0 (by decide) (Nat.le_of_ble_eq_true rfl) (by omega) (c_listAt  m l   (by first | assumption | omega)) ?_
  rintro _ _ ⟨x2, rfl, (⟨hc2, rfl, rfl⟩ | ⟨hc2, rfl, rfl⟩)⟩ ok2 le2
  · skip
    refine V_st (pc := 5) dX10_judge_5 (ls' := [(6, vq none), (0, vr 0), (1, vi l), (2, vi i), (3, vi e), (4, vi col), (5, vi w)]) rfl (Nat.le_of_ble_eq_true rfl) rfl ?_
    refine V_ld (pc := 7) dX10_judge_7 (v := vq none) rfl rfl ?_
    refine V_ifnull (pc := 9) dX10_judge_9 (tgt := 23) rfl (fun _ => ?_) (fun _ h_ => by cases h_)
    refine V_iconst (pc := 23) dX10_judge_23 (by unfold I32; omega) ?_
    refine V_reti (pc := 24) dX10_judge_24 trivial ?_
    exact ⟨rfl, rfl⟩
  · skip
    refine V_st (pc := 5) dX10_judge_5 (ls' := [(6, vr (22 + 2 * l.toNat)), (0, vr 0), (1, vi l), (2, vi i), (3, vi e), (4, vi col), (5, vi w)]) rfl (Nat.le_of_ble_eq_true rfl) rfl ?_
    refine V_ld (pc := 7) dX10_judge_7 (v := vr (22 + 2 * l.toNat)) rfl rfl ?_
    refine V_ifnull (pc := 9) dX10_judge_9 (tgt := 23) rfl (fun h_ => by cases h_) (fun _ _ => ?_)
    refine V_ld (pc := 12) dX10_judge_12 (v := vi e) rfl rfl ?_
    refine V_ld (pc := 13) dX10_judge_13 (v := vi col) rfl rfl ?_
    refine V_ld (pc := 15) dX10_judge_15 (v := vi w) rfl rfl ?_
    refine V_callS (pc := 17) dX10_judge_17 (F' := 1) (As := [vi e, vi col, vi w]) (st := []) cw_RX10_201 rfl rfl (Nat.le_of_ble_eq_true rfl) (by omega) (c_isMeasure  m e col w   ) ?_
    rintro _ _ ⟨x17, rfl, hx17, rfl⟩ ok17 le17
    refine V_if_ne (pc := 20) dX10_judge_20 (tgt := 25) rfl (fun h20 => ?_) (fun h20 => ?_)
    · skip
      exfalso; omega
    · skip
      refine V_iconst (pc := 23) dX10_judge_23 (by unfold I32; omega) ?_
      refine V_reti (pc := 24) dX10_judge_24 trivial ?_
      exact ⟨rfl, rfl⟩

set_option maxHeartbeats 4000000 in
theorem c_judgeN  (m : Mem) (l : Int) (i : Int) (e : Int) (col : Int) (w : Int)   (hL : Lay (mT m) (mR m)) (hb : 0 ≤ l ∧ l ≤ 3 ∧ 0 ≤ e ∧ e ≤ 26 ∧ 0 ≤ col ∧ col < 2 ∧ 0 ≤ w ∧ w < 7) (hz : mI m (22 + 2 * l.toNat) 1 < 0) : Ct μX10_judge 5 [vr 0, vi l, vi i, vi e, vi col, vi w] m (ri fun x_ m' => (x_ = -11) ∧ m = m') := by
  refine Ct_of_V rfl (by decide) rfl (Nat.le_of_ble_eq_true rfl) ?_
  show V μX10_judge 5 m _ 0 [(0, vr 0), (1, vi l), (2, vi i), (3, vi e), (4, vi col), (5, vi w)] [] m
  refine V_rg (k := 1) (x := l) rfl fun r_l => ?_
  refine V_rg (k := 2) (x := i) rfl fun r_i => ?_
  refine V_rg (k := 3) (x := e) rfl fun r_e => ?_
  refine V_rg (k := 4) (x := col) rfl fun r_col => ?_
  refine V_rg (k := 5) (x := w) rfl fun r_w => ?_
  have hlst := hL.lst ⟨hb.1, hb.2.1⟩
  refine V_ld (pc := 0) dX10_judge_0 (v := vr 0) rfl rfl ?_
  refine V_ld (pc := 1) dX10_judge_1 (v := vi l) rfl rfl ?_
  refine V_callV (pc := 2) dX10_judge_2 (F' := 0) (As := [vi l]) (st := []) cw_RX10_220 rfl rfl hL.t0 (by decide) (Nat.le_of_ble_eq_true rfl) (by omega) (c_listAt  m l   (by first | assumption | omega)) ?_
  rintro _ _ ⟨x2, rfl, (⟨hc2, rfl, rfl⟩ | ⟨hc2, rfl, rfl⟩)⟩ ok2 le2
  · skip
    refine V_st (pc := 5) dX10_judge_5 (ls' := [(6, vq none), (0, vr 0), (1, vi l), (2, vi i), (3, vi e), (4, vi col), (5, vi w)]) rfl (Nat.le_of_ble_eq_true rfl) rfl ?_
    refine V_ld (pc := 7) dX10_judge_7 (v := vq none) rfl rfl ?_
    refine V_ifnull (pc := 9) dX10_judge_9 (tgt := 23) rfl (fun _ => ?_) (fun _ h_ => by cases h_)
    refine V_iconst (pc := 23) dX10_judge_23 (by unfold I32; omega) ?_
    refine V_reti (pc := 24) dX10_judge_24 trivial ?_
    first | (exfalso; omega) | exact ⟨rfl, rfl⟩
  · skip
    refine V_st (pc := 5) dX10_judge_5 (ls' := [(6, vr (22 + 2 * l.toNat)), (0, vr 0), (1, vi l), (2, vi i), (3, vi e), (4, vi col), (5, vi w)]) rfl (Nat.le_of_ble_eq_true rfl) rfl ?_
    refine V_ld (pc := 7) dX10_judge_7 (v := vr (22 + 2 * l.toNat)) rfl rfl ?_
    refine V_ifnull (pc := 9) dX10_judge_9 (tgt := 23) rfl (fun h_ => by cases h_) (fun _ _ => ?_)
    refine V_ld (pc := 12) dX10_judge_12 (v := vi e) rfl rfl ?_
    refine V_ld (pc := 13) dX10_judge_13 (v := vi col) rfl rfl ?_
    refine V_ld (pc := 15) dX10_judge_15 (v := vi w) rfl rfl ?_
    refine V_callS (pc := 17) dX10_judge_17 (F' := 1) (As := [vi e, vi col, vi w]) (st := []) cw_RX10_201 rfl rfl (Nat.le_of_ble_eq_true rfl) (by omega) (c_isMeasure  m e col w   ) ?_
    rintro _ _ ⟨x17, rfl, hx17, rfl⟩ ok17 le17
    refine V_if_ne (pc := 20) dX10_judge_20 (tgt := 25) rfl (fun h20 => ?_) (fun h20 => ?_)
    · skip
      refine V_ld (pc := 25) dX10_judge_25 (v := vr (22 + 2 * l.toNat)) rfl rfl ?_
      refine V_getIv (pc := 27) dX10_judge_27 (v := mI m (22 + 2 * l.toNat) 1) fw_RX10_228 rfl hlst.1 rfl (fun g27 => ?_)
      refine V_if_ge (pc := 30) dX10_judge_30 (tgt := 36) rfl (fun h30 => ?_) (fun h30 => ?_)
      · skip
        exfalso; omega
      · skip
        refine V_bipush (pc := 33) dX10_judge_33 (by unfold I32; omega) (by decide) ?_
        refine V_reti (pc := 35) dX10_judge_35 trivial ?_
        first | (exfalso; omega) | exact ⟨rfl, rfl⟩
    · skip
      refine V_iconst (pc := 23) dX10_judge_23 (by unfold I32; omega) ?_
      refine V_reti (pc := 24) dX10_judge_24 trivial ?_
      first | (exfalso; omega) | exact ⟨rfl, rfl⟩

set_option maxHeartbeats 4000000 in
theorem r_judgeB  (m : Mem) (l : Int) (i : Int) (e : Int) (col : Int) (w : Int)   (hL : Lay (mT m) (mR m)) (hb : ¬ (0 ≤ l ∧ l ≤ 3 ∧ 0 ≤ e ∧ e ≤ 26 ∧ 0 ≤ col ∧ col < 2 ∧ 0 ≤ w ∧ w < 7)) : Ct μX11_judge 5 [vr 30, vi l, vi i, vi e, vi col, vi w] m (ri fun x_ m' => (x_ = -1) ∧ m = m') := by
  refine Ct_of_V rfl (by decide) rfl (Nat.le_of_ble_eq_true rfl) ?_
  show V μX11_judge 5 m _ 0 [(0, vr 30), (1, vi l), (2, vi i), (3, vi e), (4, vi col), (5, vi w)] [] m
  refine V_rg (k := 1) (x := l) rfl fun r_l => ?_
  refine V_rg (k := 2) (x := i) rfl fun r_i => ?_
  refine V_rg (k := 3) (x := e) rfl fun r_e => ?_
  refine V_rg (k := 4) (x := col) rfl fun r_col => ?_
  refine V_rg (k := 5) (x := w) rfl fun r_w => ?_
  refine V_ld (pc := 0) dX11_judge_0 (v := vi l) rfl rfl ?_
  refine V_callS (pc := 1) dX11_judge_1 (F' := 1) (As := [vi l]) (st := []) cw_RX11_394 rfl rfl (Nat.le_of_ble_eq_true rfl) (by omega) (r_isList  m l   ) ?_
  rintro _ _ ⟨x1, rfl, hx1, rfl⟩ ok1 le1
  refine V_if_eq (pc := 4) dX11_judge_4 (tgt := 18) rfl (fun h4 => ?_) (fun h4 => ?_)
  · skip
    refine V_iconst (pc := 18) dX11_judge_18 (by unfold I32; omega) ?_
    refine V_reti (pc := 19) dX11_judge_19 trivial ?_
    exact ⟨rfl, rfl⟩
  · skip
    refine V_ld (pc := 7) dX11_judge_7 (v := vi e) rfl rfl ?_
    refine V_ld (pc := 8) dX11_judge_8 (v := vi col) rfl rfl ?_
    refine V_ld (pc := 10) dX11_judge_10 (v := vi w) rfl rfl ?_
    refine V_callS (pc := 12) dX11_judge_12 (F' := 1) (As := [vi e, vi col, vi w]) (st := []) cw_RX11_379 rfl rfl (Nat.le_of_ble_eq_true rfl) (by omega) (r_isMeasure  m e col w   ) ?_
    rintro _ _ ⟨x12, rfl, hx12, rfl⟩ ok12 le12
    refine V_if_ne (pc := 15) dX11_judge_15 (tgt := 20) rfl (fun h15 => ?_) (fun h15 => ?_)
    · skip
      exfalso; omega
    · skip
      refine V_iconst (pc := 18) dX11_judge_18 (by unfold I32; omega) ?_
      refine V_reti (pc := 19) dX11_judge_19 trivial ?_
      exact ⟨rfl, rfl⟩

set_option maxHeartbeats 4000000 in
theorem r_judgeN  (m : Mem) (l : Int) (i : Int) (e : Int) (col : Int) (w : Int)   (hL : Lay (mT m) (mR m)) (hb : 0 ≤ l ∧ l ≤ 3 ∧ 0 ≤ e ∧ e ≤ 26 ∧ 0 ≤ col ∧ col < 2 ∧ 0 ≤ w ∧ w < 7) (hz : mI m 56 l.toNat < 0) : Ct μX11_judge 5 [vr 30, vi l, vi i, vi e, vi col, vi w] m (ri fun x_ m' => (x_ = -11) ∧ m = m') := by
  refine Ct_of_V rfl (by decide) rfl (Nat.le_of_ble_eq_true rfl) ?_
  show V μX11_judge 5 m _ 0 [(0, vr 30), (1, vi l), (2, vi i), (3, vi e), (4, vi col), (5, vi w)] [] m
  refine V_rg (k := 1) (x := l) rfl fun r_l => ?_
  refine V_rg (k := 2) (x := i) rfl fun r_i => ?_
  refine V_rg (k := 3) (x := e) rfl fun r_e => ?_
  refine V_rg (k := 4) (x := col) rfl fun r_col => ?_
  refine V_rg (k := 5) (x := w) rfl fun r_w => ?_
  refine V_ld (pc := 0) dX11_judge_0 (v := vi l) rfl rfl ?_
  refine V_callS (pc := 1) dX11_judge_1 (F' := 1) (As := [vi l]) (st := []) cw_RX11_394 rfl rfl (Nat.le_of_ble_eq_true rfl) (by omega) (r_isList  m l   ) ?_
  rintro _ _ ⟨x1, rfl, hx1, rfl⟩ ok1 le1
  refine V_if_eq (pc := 4) dX11_judge_4 (tgt := 18) rfl (fun h4 => ?_) (fun h4 => ?_)
  · skip
    refine V_iconst (pc := 18) dX11_judge_18 (by unfold I32; omega) ?_
    refine V_reti (pc := 19) dX11_judge_19 trivial ?_
    first | (exfalso; omega) | exact ⟨rfl, rfl⟩
  · skip
    refine V_ld (pc := 7) dX11_judge_7 (v := vi e) rfl rfl ?_
    refine V_ld (pc := 8) dX11_judge_8 (v := vi col) rfl rfl ?_
    refine V_ld (pc := 10) dX11_judge_10 (v := vi w) rfl rfl ?_
    refine V_callS (pc := 12) dX11_judge_12 (F' := 1) (As := [vi e, vi col, vi w]) (st := []) cw_RX11_379 rfl rfl (Nat.le_of_ble_eq_true rfl) (by omega) (r_isMeasure  m e col w   ) ?_
    rintro _ _ ⟨x12, rfl, hx12, rfl⟩ ok12 le12
    refine V_if_ne (pc := 15) dX11_judge_15 (tgt := 20) rfl (fun h15 => ?_) (fun h15 => ?_)
    · skip
      refine V_ld (pc := 20) dX11_judge_20 (v := vr 30) rfl rfl ?_
      refine V_getRv (pc := 21) dX11_judge_21 (o' := 56) fw_RX11_87 rfl hL.t30 hL.r30_50 ?_
      refine V_ld (pc := 24) dX11_judge_24 (v := vi l) rfl rfl ?_
      refine V_ialdv (pc := 25) dX11_judge_25 (v := mI m 56 l.toNat) hL.t56 (by omega) rfl (fun g25 => ?_)
      refine V_if_ge (pc := 26) dX11_judge_26 (tgt := 32) rfl (fun h26 => ?_) (fun h26 => ?_)
      · skip
        exfalso; omega
      · skip
        refine V_bipush (pc := 29) dX11_judge_29 (by unfold I32; omega) (by decide) ?_
        refine V_reti (pc := 31) dX11_judge_31 trivial ?_
        first | (exfalso; omega) | exact ⟨rfl, rfl⟩
    · skip
      refine V_iconst (pc := 18) dX11_judge_18 (by unfold I32; omega) ?_
      refine V_reti (pc := 19) dX11_judge_19 trivial ?_
      first | (exfalso; omega) | exact ⟨rfl, rfl⟩
