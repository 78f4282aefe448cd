/-! THE LAW: starts one by one -/
def μL_law : MI := (RL, cL_law, 18, some .boolean, yL_law, none)
def lpost : Option AV → Mem → Prop := fun r _ => r = some (vi 1)
/-- what the law has made -/
def LawC (b : Mem) (P Q L : Nat) (x : CX) (rw W nn : Nat) (v : Nat → Nat → Int) (wv : Nat → Int) : Prop := LawB b P Q L x ∧ (RwO b rw nn v ∧ rw < mN b ∧ (∀ r q, r < nn → mR b rw r = some q → q < mN b) ∧ ∀ r c, -10 ≤ v r c ∧ v r c ≤ 1000) ∧ (mT b W = (20, 26) ∧ W < mN b ∧ ∀ j, j < 26 → mI b W j = wv j ∧ -1 ≤ wv j ∧ wv j ≤ 7) ∧ (x.2.2.1 = (nn : Int) ∧ nn ≤ 7) ∧ (∀ w e, x.2.2.2.1 w e = cdV e (cdO (wv w))) ∧ ∀ r c, r < nn → c < 2 → x.2.2.2.2 (2 * r + c) = v r c
theorem l_held {b m : Mem} {P Q L s rw W nn q a k : Nat} {x : CX} {v : Nat → Nat → Int} {wv : Nat → Int} (hC : LawC b P Q L x rw W nn v wv) (hm : LawM b m s) (hq : mT m q = (20, 40)) (ha : a ≤ nn) (hk : (k : Int) < fV x (a : Int)) (hl : ∀ j, j ≤ k → mI m q (a + j) = wV x (a : Int) (j : Int)) : Ct μL_isHeld 1 [vi (wv (wV x (a : Int) (k : Int)).toNat), vr rw, vr q, vi ((a : Nat) : Int), vi (((a : Nat) : Int) + ((k : Nat) : Int))] m (ri fun y m' => y = 1 ∧ m = m') := by
  obtain ⟨hB, ⟨hR, hr1, hr2, hv⟩, ⟨hW1, hW2, hW3⟩, ⟨hn, hn7⟩, hc, hcl⟩ := hC
  have hst : 0 ≤ (a : Int) ∧ (a : Int) ≤ x.2.2.1 := by omega
  have hf := can_first hB.2.1 hst
  have h3 : 0 ≤ fV x (a : Int) := by omega
  rcases hf with hf | hf | hf
  · omega
  · omega
  · obtain ⟨⟨f1, f2⟩, f3, -⟩ := hf
    obtain ⟨g1, g2, g3⟩ := f3 (k : Int) (by omega) hk
    have hw := (hW3 (wV x (a : Int) (k : Int)).toNat (by omega)).2
    refine Ct_mono (w_held (n := nn) (v := v) (a := a) (N := k + 1) (w := wv (wV x (a : Int) (k : Int)).toNat) (r := (a : Int) + (k : Int)) hw (hm.rwo hB hR hr1 hr2) hq (by omega) (by omega) (fun j => hv _ _)) fun r m' hp => ?_
    obtain ⟨y, hy, h1, h2⟩ := hp
    refine ⟨y, hy, ?_, h2⟩
    rw [h1, held_cdV (cl := x.2.2.2.2) hw (by omega) (by omega) (fun r c _ _ => hv r c) hcl, ← hc, ← hn]
    refine Eq.trans ?_ g3
    refine hB.2.1.2.2.2 _ _ _ _ _ _ _ hst.1 fun j h1 h2 => ?_
    show mI m q j = wV x (a : Int) ((j : Int) - (a : Int))
    have e := hl (j - a) (by omega)
    rw [show a + (j - a) = j by omega, show ((j - a : Nat) : Int) = (j : Int) - (a : Int) by omega] at e
    exact e

set_option maxHeartbeats 4000000 in
theorem L_ltr {F : Nat} {m0 b : Mem} {post : Option AV → Mem → Prop} {P Q L rw W nn t5 : Nat} {cx : CX} {v : Nat → Nat → Int} {wv : Nat → Int} (hC : LawC b P Q L cx rw W nn v wv) (hF : 100 < F) {a s q : Nat} {hgh low_ ways : Int} (ha : a ≤ nn) (hs : s ≤ 99) (h0 : 0 ≤ fV cx ((a : Nat) : Int)) (hqb : mN b ≤ q)
    (kx : ∀ m, LawM b m s → _root_.Jvm.Pilot.@@N@@.V μL_law F m0 post 191 [(12, vi (fV cx ((a : Nat) : Int))), (11, vr q), (10, vi hgh), (9, vi low_), (8, vi ways), (7, vi (fV cx ((a : Nat) : Int))), (6, vi ((a : Nat) : Int)), (5, vr t5), (4, vr W), (3, vr rw), (2, vi ((nn : Nat) : Int)), (1, vr 0), (0, vr SC)] [] m) : ∀ (dd k : Nat) (m : Mem), dd + k = (fV cx ((a : Nat) : Int)).toNat → LawM b m s → q < mN m → mT m q = (20, 40) → (∀ j, j < k → mI m q (a + j) = wV cx ((a : Nat) : Int) ((j : Nat) : Int)) → _root_.Jvm.Pilot.@@N@@.V μL_law F m0 post 122 [(12, vi ((k : Nat) : Int)), (11, vr q), (10, vi hgh), (9, vi low_), (8, vi ways), (7, vi (fV cx ((a : Nat) : Int))), (6, vi ((a : Nat) : Int)), (5, vr t5), (4, vr W), (3, vr rw), (2, vi ((nn : Nat) : Int)), (1, vr 0), (0, vr SC)] [] m := by
  have hB := hC.1
  have hnn := hC.2.2.2.1.1
  have hn7 := hC.2.2.2.1.2
  have hf := can_first hB.2.1 (st := ((a : Nat) : Int)) (by omega)
  obtain ⟨⟨f1, f2⟩, f3, -⟩ : (0 ≤ fV cx ((a : Nat) : Int) ∧ ((a : Nat) : Int) + fV cx ((a : Nat) : Int) ≤ cx.2.2.1) ∧ (∀ k, 0 ≤ k → k < fV cx ((a : Nat) : Int) → 0 ≤ wV cx ((a : Nat) : Int) k ∧ wV cx ((a : Nat) : Int) k ≤ 25 ∧ _) ∧ _ := (hf.resolve_left (by omega)).resolve_left (by omega)
  intro dd
  induction dd with
  | zero =>
    intro k m hd_ hm hq_ tq hl
    have ek : ((k : Nat) : Int) = fV cx ((a : Nat) : Int) := by omega
    rw [ek]
    refine V_ld (pc := 122) dL_law_122 (v := vi (fV cx ((a : Nat) : Int))) rfl rfl ?_
    refine V_ld (pc := 124) dL_law_124 (v := vi (fV cx ((a : Nat) : Int))) rfl rfl ?_
    refine V_icmp_ge (pc := 126) dL_law_126 (tgt := 191) rfl (fun h126 => ?_) (fun h126 => ?_)
    · skip
      exact kx m hm
    · skip
      exfalso; omega
  | succ dd ih =>
    intro k m hd_ hm hq_ tq hl
    obtain ⟨g1, g2, -⟩ := f3 ((k : Nat) : Int) (by omega) (by omega)
    refine V_ld (pc := 122) dL_law_122 (v := vi ((k : Nat) : Int)) rfl rfl ?_
    refine V_ld (pc := 124) dL_law_124 (v := vi (fV cx ((a : Nat) : Int))) rfl rfl ?_
    refine V_icmp_ge (pc := 126) dL_law_126 (tgt := 191) rfl (fun h126 => ?_) (fun h126 => ?_)
    · skip
      exfalso; omega
    · skip
      refine V_ld (pc := 129) dL_law_129 (v := vr q) rfl rfl ?_
      refine V_ld (pc := 131) dL_law_131 (v := vi ((a : Nat) : Int)) rfl rfl ?_
      refine V_ld (pc := 133) dL_law_133 (v := vi ((k : Nat) : Int)) rfl rfl ?_
      refine V_iadd (pc := 135) dL_law_135 (by unfold I32 at *; omega) ?_
      refine V_ld (pc := 136) dL_law_136 (v := vr 0) rfl rfl ?_
      refine V_ld (pc := 137) dL_law_137 (v := vi ((a : Nat) : Int)) rfl rfl ?_
      refine V_ld (pc := 139) dL_law_139 (v := vi ((k : Nat) : Int)) rfl rfl ?_
      refine V_callV (pc := 141) dL_law_141 (F' := 8) (As := [vi ((a : Nat) : Int), vi ((k : Nat) : Int)]) (st := [vi (((a : Nat) : Int) + ((k : Nat) : Int)), vr q]) cw_RL_174 rfl rfl (hm.sb hB (by omega)).1.1.t0 (by decide) (Nat.le_of_ble_eq_true rfl) (by omega) (l_way hB hm (by omega) (by omega)) ?_
      rintro _ m141 ⟨x141, rfl, hx141, hm141⟩ ok141 le141
      subst hx141
      have q141 := hm141.2.2 q hq_ tq
      have hq_ := Nat.lt_of_lt_of_le hq_ hm141.2.1
      refine V_iast (pc := 144) dL_law_144 q141.1 (by omega) ?_
      refine V_mem (m' := setI m141 q (a + k) (wV cx ((a : Nat) : Int) ((k : Nat) : Int))) (by rw [show (((a : Nat) : Int) + ((k : Nat) : Int)).toNat = a + k by omega]) ?_
      refine V_abs (fun m' => LawM b m' s ∧ mN m' = mN m141 ∧ (mT m' q = (20, 40)) ∧ ∀ j, j < k + 1 → mI m' q (a + j) = wV cx ((a : Nat) : Int) ((j : Nat) : Int)) ⟨hm141.1.w hqb, rfl, q141.1, fun j hj => ?_⟩ ?_
      · by_cases c : j = k
        · rw [c]; exact if_pos ⟨rfl, rfl⟩
        · exact (if_neg (fun e => c (by have := e.2; omega))).trans ((q141.2 _).trans (hl j (by omega)))
      rintro mw ⟨hmw, nw_, tqw, hlw⟩
      have hq_ : q < mN mw := by omega
      refine V_ld (pc := 145) dL_law_145 (v := vr q) rfl rfl ?_
      refine V_ld (pc := 147) dL_law_147 (v := vi ((a : Nat) : Int)) rfl rfl ?_
      refine V_ld (pc := 149) dL_law_149 (v := vi ((k : Nat) : Int)) rfl rfl ?_
      refine V_iadd (pc := 151) dL_law_151 (by unfold I32 at *; omega) ?_
      refine V_ialdv (pc := 152) dL_law_152 (v := wV cx ((a : Nat) : Int) ((k : Nat) : Int)) tqw (by omega) (by rw [show (((a : Nat) : Int) + ((k : Nat) : Int)).toNat = a + k by omega]; exact hlw k (Nat.lt_succ_self k)) (fun g152 => ?_)
      refine V_if_lt (pc := 153) dL_law_153 (tgt := 183) rfl (fun h153 => ?_) (fun h153 => ?_)
      · skip
        exfalso; omega
      · skip
        refine V_ld (pc := 156) dL_law_156 (v := vr W) rfl rfl ?_
        refine V_ld (pc := 158) dL_law_158 (v := vr q) rfl rfl ?_
        refine V_ld (pc := 160) dL_law_160 (v := vi ((a : Nat) : Int)) rfl rfl ?_
        refine V_ld (pc := 162) dL_law_162 (v := vi ((k : Nat) : Int)) rfl rfl ?_
        refine V_iadd (pc := 164) dL_law_164 (by unfold I32 at *; omega) ?_
        refine V_ialdv (pc := 165) dL_law_165 (v := wV cx ((a : Nat) : Int) ((k : Nat) : Int)) tqw (by omega) (by rw [show (((a : Nat) : Int) + ((k : Nat) : Int)).toNat = a + k by omega]; exact hlw k (Nat.lt_succ_self k)) (fun g165 => ?_)
        refine V_ialdv (pc := 166) dL_law_166 (v := wv (wV cx ((a : Nat) : Int) ((k : Nat) : Int)).toNat) ((hmw.typ hC.2.2.1.2.1).trans hC.2.2.1.1) (by omega) ((hmw.row hB hC.2.2.1.2.1 hC.2.2.1.1 (by decide) _).trans (hC.2.2.1.2.2 _ (by omega)).1) (fun g166 => ?_)
        refine V_ld (pc := 167) dL_law_167 (v := vr rw) rfl rfl ?_
        refine V_ld (pc := 168) dL_law_168 (v := vr q) rfl rfl ?_
        refine V_ld (pc := 170) dL_law_170 (v := vi ((a : Nat) : Int)) rfl rfl ?_
        refine V_ld (pc := 172) dL_law_172 (v := vi ((a : Nat) : Int)) rfl rfl ?_
        refine V_ld (pc := 174) dL_law_174 (v := vi ((k : Nat) : Int)) rfl rfl ?_
        refine V_iadd (pc := 176) dL_law_176 (by unfold I32 at *; omega) ?_
        refine V_callS (pc := 177) dL_law_177 (F' := 1) (As := [vi (wv (wV cx ((a : Nat) : Int) ((k : Nat) : Int)).toNat), vr rw, vr q, vi ((a : Nat) : Int), vi (((a : Nat) : Int) + ((k : Nat) : Int))]) (st := []) cw_RL_177 rfl rfl (Nat.le_of_ble_eq_true rfl) (by omega) (l_held hC hmw tqw ha (by omega) (fun j hj => hlw j (by omega))) ?_
        rintro _ _ ⟨x177, rfl, hx177, rfl⟩ ok177 le177
        subst hx177
        refine V_if_ne (pc := 180) dL_law_180 (tgt := 185) rfl (fun _ => ?_) (fun h_ => absurd h_ (by decide))
        refine V_iinc (pc := 185) dL_law_185 (x := ((k : Nat) : Int)) (ls' := [(12, vi (((k : Nat) : Int) + 1)), (11, vr q), (10, vi hgh), (9, vi low_), (8, vi ways), (7, vi (fV cx ((a : Nat) : Int))), (6, vi ((a : Nat) : Int)), (5, vr t5), (4, vr W), (3, vr rw), (2, vi ((nn : Nat) : Int)), (1, vr 0), (0, vr SC)]) rfl (by unfold I32 at *; omega) (Nat.le_of_ble_eq_true rfl) rfl ?_
        refine V_goto (pc := 188) dL_law_188 (tgt := 122) rfl ?_
        skip
        have h_ := ih (k + 1) mw (by omega) hmw hq_ tqw hlw
        rw [show ((k + 1 : Nat) : Int) = (k : Int) + 1 by omega] at h_
        exact h_
