/-! run(): the reference -/
def RFw (I I' : Nat → Nat → Int) : Prop := ∀ o k, ¬ (34 ≤ o ∧ o ≤ 43) → o ≠ 45 → ¬ (49 ≤ o ∧ o ≤ 55) → ¬ (o = 30 ∧ (k = 6 ∨ k = 7 ∨ k = 8 ∨ k = 9 ∨ k = 19 ∨ k = 20 ∨ k = 24 ∨ k = 25 ∨ k = 26 ∨ k = 27 ∨ k = 33 ∨ (38 ≤ k ∧ k ≤ 48))) → I' o k = I o k
theorem RFw.rf {I : Nat → Nat → Int} : RFw I I := fun _ _ _ _ _ _ => rfl
theorem RFw.x {I J K : Nat → Nat → Int} (h : RFw I J) (h2 : RFx J K) : RFw I K := fun o k a b d e => (h2 o k a b (by omega) e).trans (h o k a b d e)
theorem RFw.f {I J K : Nat → Nat → Int} (h : RFw I J) (h2 : ∀ o k, o ≠ 55 → K o k = J o k) : RFw I K := fun o k a b d e => (h2 o k (by omega)).trans (h o k a b d e)
/-- what run() leaves -/
def RunR (I0 I' : Nat → Nat → Int) (rn : Int × ML × SJ) (x : Int) : Prop := (∀ k, I' 45 k = rn.2.2.2.1 k) ∧ (I' 30 27 = 0 ∨ I' 30 27 = 1) ∧ ((rn.1 = -7 ∧ x = -7 ∧ RFw I0 I') ∨ (rn.1 = 0 ∧ x = (rn.2.1.length : Int) ∧ I' 31 3336 = (rn.2.1.length : Int) ∧ MaR I' 31 3337 rn.2.1 ∧ ∃ I1, RFw I0 I1 ∧ (∀ o k, ¬ (o = 31 ∧ 3336 ≤ k) → I' o k = I1 o k)))
theorem MaR.fr {I I' : Nat → Nat → Int} {o off : Nat} {Ms : ML} (h : MaR I o off Ms) (hI : ∀ k, I' o k = I o k) : MaR I' o off Ms := fun j s e le hj => by
  obtain ⟨g1, g2, g3⟩ := h j s e le hj
  exact ⟨(hI _).trans g1, (hI _).trans g2, fun r hr => (hI _).trans (g3 r hr)⟩
/-- one match more -/
theorem MaR.ap {I I' : Nat → Nat → Int} {Ms : ML} {s e : Int} {le : Nat → Int} (h : MaR I 55 0 Ms) (hse : s ≤ e ∧ e ≤ s + 32) (hlow : ∀ k, k < 34 * Ms.length → I' 55 k = I 55 k) (h0 : I' 55 (34 * Ms.length) = s) (h1 : I' 55 (34 * Ms.length + 1) = e - s) (h2 : ∀ r : Nat, s + (r : Int) < e → I' 55 (34 * Ms.length + 2 + r) = le (s + (r : Int)).toNat) (hb : ∀ x ∈ Ms, x.2.1 ≤ x.1 + 32) : MaR I' 55 0 (Ms ++ [(s, e, le)]) := by
  intro j s' e' l' hj
  rw [Nat.zero_add]
  by_cases ej : j < Ms.length
  · rw [List.getElem?_append_left ej] at hj
    obtain ⟨g1, g2, g3⟩ := h j s' e' l' hj
    rw [Nat.zero_add] at g1 g2 g3
    have hm := hb (s', e', l') (List.mem_of_getElem? hj)
    have hm : e' ≤ s' + 32 := hm
    exact ⟨(hlow _ (by omega)).trans g1, (hlow _ (by omega)).trans g2, fun r hr => (hlow _ (by omega)).trans (g3 r hr)⟩
  · rw [List.getElem?_append_right (by omega)] at hj
    have e0 : j = Ms.length := by
      by_cases e1 : j - Ms.length = 0
      · omega
      · rw [List.getElem?_eq_none (by simp only [List.length_cons, List.length_nil]; omega)] at hj; cases hj
    subst e0
    rw [Nat.sub_self] at hj
    cases hj
    exact ⟨h0, h1, h2⟩
/-- what a search asks of the memory stays -/
theorem txR.w {I I' : Nat → Nat → Int} {tx : Nat → Int} {nt : Nat} (h : txR I 31 66 tx nt) (hI : ∀ k, I' 31 k = I 31 k) : txR I' 31 66 tx nt := fun k hk => by rw [hI]; exact h k hk
theorem RB1.w {I I' : Nat → Nat → Int} {n may : Int} {hcn : Nat → CEnv → Int} {cl : Nat → Int} (h : RB1 I n may hcn cl) (hI : ∀ k, I' 31 k = I 31 k) : RB1 I' n may hcn cl := by
  refine ⟨by rw [hI, hI]; exact h.1, ⟨fun k => (hI k).trans (h.2.1.1 k), h.2.1.2⟩, fun w hw => ?_⟩
  obtain ⟨tx, n', h1, h2, h3⟩ := h.2.2 w hw
  refine ⟨tx, n', ⟨(hI _).trans h1.1, h1.2.1, fun k hk => ?_⟩, h2, h3⟩
  rw [hI]; exact h1.2.2 k hk

set_option maxHeartbeats 4000000 in
theorem L_yrf {F : Nat} {m0 m : Mem} {post : Option AV → Mem → Prop} {q rw_ : Nat} {st fo : Int} (hL : Lay (mT m) (mR m)) (hq : q < 33) (hs : 0 ≤ st ∧ st + (rw_ : Int) ≤ 32) (kx : V μX11_run F m0 post 133 [(5, vi ((rw_ : Nat) : Int)), (4, vi (rw_ : Int)), (3, vi fo), (2, vi st), (1, vi (q : Int)), (0, vr 30)] [] (cpyI m 45 st.toNat 55 (34 * q + 2) rw_)) : ∀ (dd i : Nat), dd + i = rw_ → V μX11_run F m0 post 97 [(5, vi ((i : Nat) : Int)), (4, vi (rw_ : Int)), (3, vi fo), (2, vi st), (1, vi (q : Int)), (0, vr 30)] [] (cpyI m 45 st.toNat 55 (34 * q + 2) i) := by
  intro dd
  induction dd with
  | zero =>
    intro i hi
    obtain rfl : rw_ = i := by omega
    refine V_ld (pc := 97) dX11_run_97 (v := vi ((rw_ : Nat) : Int)) rfl rfl ?_
    refine V_ld (pc := 99) dX11_run_99 (v := vi (rw_ : Int)) rfl rfl ?_
    refine V_icmp_ge (pc := 101) dX11_run_101 (tgt := 133) rfl (fun h101 => ?_) (fun h101 => ?_)
    · skip
      first | exact kx | (skip; exact kx) | (exfalso; omega)
    · skip
      refine V_ld (pc := 104) dX11_run_104 (v := vr 30) rfl rfl ?_
      refine V_getRv (pc := 105) dX11_run_105 (o' := 55) fw_RX11_84 rfl hL.t30 hL.r30_49 ?_
      refine V_bipush (pc := 108) dX11_run_108 (by unfold I32; omega) (by decide) ?_
      refine V_ld (pc := 110) dX11_run_110 (v := vi (q : Int)) rfl rfl ?_
      refine V_imul (pc := 111) dX11_run_111 (by unfold I32 at *; omega) ?_
      refine V_iconst (pc := 112) dX11_run_112 (by unfold I32; omega) ?_
      refine V_iadd (pc := 113) dX11_run_113 (by unfold I32 at *; omega) ?_
      refine V_ld (pc := 114) dX11_run_114 (v := vi ((rw_ : Nat) : Int)) rfl rfl ?_
      refine V_iadd (pc := 116) dX11_run_116 (by unfold I32 at *; omega) ?_
      refine V_ld (pc := 117) dX11_run_117 (v := vr 30) rfl rfl ?_
      refine V_getRv (pc := 118) dX11_run_118 (o' := 45) fw_RX11_54 rfl hL.t30 hL.r30_23 ?_
      refine V_ld (pc := 121) dX11_run_121 (v := vi st) rfl rfl ?_
      refine V_ld (pc := 122) dX11_run_122 (v := vi ((rw_ : Nat) : Int)) rfl rfl ?_
      refine V_iadd (pc := 124) dX11_run_124 (by unfold I32 at *; omega) ?_
      refine V_ialdv (pc := 125) dX11_run_125 (v := mI (cpyI m 45 st.toNat 55 (34 * q + 2) rw_) 45 ((st + ((rw_ : Nat) : Int)).toNat)) hL.t45 (by omega) rfl (fun g125 => ?_)
      refine V_iast (pc := 126) dX11_run_126 hL.t55 (by omega) ?_
      refine V_iinc (pc := 127) dX11_run_127 (x := ((rw_ : Nat) : Int)) (ls' := [(5, vi (((rw_ : Nat) : Int) + 1)), (4, vi (rw_ : Int)), (3, vi fo), (2, vi st), (1, vi (q : Int)), (0, vr 30)]) rfl (by unfold I32 at *; omega) (Nat.le_of_ble_eq_true rfl) rfl ?_
      refine V_goto (pc := 130) dX11_run_130 (tgt := 97) rfl ?_
      exfalso; omega
  | succ dd ih =>
    intro i hi
    refine V_ld (pc := 97) dX11_run_97 (v := vi ((i : Nat) : Int)) rfl rfl ?_
    refine V_ld (pc := 99) dX11_run_99 (v := vi (rw_ : Int)) rfl rfl ?_
    refine V_icmp_ge (pc := 101) dX11_run_101 (tgt := 133) rfl (fun h101 => ?_) (fun h101 => ?_)
    · skip
      exfalso; omega
    · skip
      refine V_ld (pc := 104) dX11_run_104 (v := vr 30) rfl rfl ?_
      refine V_getRv (pc := 105) dX11_run_105 (o' := 55) fw_RX11_84 rfl hL.t30 hL.r30_49 ?_
      refine V_bipush (pc := 108) dX11_run_108 (by unfold I32; omega) (by decide) ?_
      refine V_ld (pc := 110) dX11_run_110 (v := vi (q : Int)) rfl rfl ?_
      refine V_imul (pc := 111) dX11_run_111 (by unfold I32 at *; omega) ?_
      refine V_iconst (pc := 112) dX11_run_112 (by unfold I32; omega) ?_
      refine V_iadd (pc := 113) dX11_run_113 (by unfold I32 at *; omega) ?_
      refine V_ld (pc := 114) dX11_run_114 (v := vi ((i : Nat) : Int)) rfl rfl ?_
      refine V_iadd (pc := 116) dX11_run_116 (by unfold I32 at *; omega) ?_
      refine V_ld (pc := 117) dX11_run_117 (v := vr 30) rfl rfl ?_
      refine V_getRv (pc := 118) dX11_run_118 (o' := 45) fw_RX11_54 rfl hL.t30 hL.r30_23 ?_
      refine V_ld (pc := 121) dX11_run_121 (v := vi st) rfl rfl ?_
      refine V_ld (pc := 122) dX11_run_122 (v := vi ((i : Nat) : Int)) rfl rfl ?_
      refine V_iadd (pc := 124) dX11_run_124 (by unfold I32 at *; omega) ?_
      refine V_ialdv (pc := 125) dX11_run_125 (v := mI (cpyI m 45 st.toNat 55 (34 * q + 2) i) 45 ((st + ((i : Nat) : Int)).toNat)) hL.t45 (by omega) rfl (fun g125 => ?_)
      refine V_iast (pc := 126) dX11_run_126 hL.t55 (by omega) ?_
      refine V_iinc (pc := 127) dX11_run_127 (x := ((i : Nat) : Int)) (ls' := [(5, vi (((i : Nat) : Int) + 1)), (4, vi (rw_ : Int)), (3, vi fo), (2, vi st), (1, vi (q : Int)), (0, vr 30)]) rfl (by unfold I32 at *; omega) (Nat.le_of_ble_eq_true rfl) rfl ?_
      refine V_goto (pc := 130) dX11_run_130 (tgt := 97) rfl ?_
      skip
      refine V_mem (cpyI_s (by omega) (by (rw [mI_cpyI, if_neg (by omega)]) <;> (first | rfl | (congr 1; omega)))) ?_
      exact ih (i + 1) (by omega)

set_option maxHeartbeats 4000000 in
theorem L_yrc {F : Nat} {m0 m : Mem} {post : Option AV → Mem → Prop} {q : Nat} {st : Int} (hL : Lay (mT m) (mR m)) (hq : q ≤ 33) (kx : V μX11_run F m0 post 194 [(3, vi ((34 * q : Nat) : Int)), (2, vi st), (1, vi (q : Int)), (0, vr 30)] [] (cpyI m 55 0 31 3337 (34 * q))) : ∀ (dd i : Nat), dd + i = 34 * q → V μX11_run F m0 post 164 [(3, vi ((i : Nat) : Int)), (2, vi st), (1, vi (q : Int)), (0, vr 30)] [] (cpyI m 55 0 31 3337 i) := by
  intro dd
  induction dd with
  | zero =>
    intro i hi
    obtain rfl : i = 34 * q := by omega
    refine V_ld (pc := 164) dX11_run_164 (v := vi ((34 * q : Nat) : Int)) rfl rfl ?_
    refine V_bipush (pc := 165) dX11_run_165 (by unfold I32; omega) (by decide) ?_
    refine V_ld (pc := 167) dX11_run_167 (v := vi (q : Int)) rfl rfl ?_
    refine V_imul (pc := 168) dX11_run_168 (by unfold I32 at *; omega) ?_
    refine V_icmp_ge (pc := 169) dX11_run_169 (tgt := 194) rfl (fun h169 => ?_) (fun h169 => ?_)
    · skip
      first | exact kx | (skip; exact kx) | (exfalso; omega)
    · skip
      refine V_ld (pc := 172) dX11_run_172 (v := vr 30) rfl rfl ?_
      refine V_getRv (pc := 173) dX11_run_173 (o' := 31) fw_RX11_9 rfl hL.t30 hL.r30_0 ?_
      refine V_sipush (pc := 176) dX11_run_176 (by unfold I32; omega) (by decide) ?_
      refine V_ld (pc := 179) dX11_run_179 (v := vi ((34 * q : Nat) : Int)) rfl rfl ?_
      refine V_iadd (pc := 180) dX11_run_180 (by unfold I32 at *; omega) ?_
      refine V_ld (pc := 181) dX11_run_181 (v := vr 30) rfl rfl ?_
      refine V_getRv (pc := 182) dX11_run_182 (o' := 55) fw_RX11_84 rfl hL.t30 hL.r30_49 ?_
      refine V_ld (pc := 185) dX11_run_185 (v := vi ((34 * q : Nat) : Int)) rfl rfl ?_
      refine V_ialdv (pc := 186) dX11_run_186 (v := mI (cpyI m 55 0 31 3337 (34 * q)) 55 (((34 * q : Nat) : Int).toNat)) hL.t55 (by omega) rfl (fun g186 => ?_)
      refine V_iast (pc := 187) dX11_run_187 hL.t31 (by omega) ?_
      refine V_iinc (pc := 188) dX11_run_188 (x := ((34 * q : Nat) : Int)) (ls' := [(3, vi (((34 * q : Nat) : Int) + 1)), (2, vi st), (1, vi (q : Int)), (0, vr 30)]) rfl (by unfold I32 at *; omega) (Nat.le_of_ble_eq_true rfl) rfl ?_
      refine V_goto (pc := 191) dX11_run_191 (tgt := 164) rfl ?_
      exfalso; omega
  | succ dd ih =>
    intro i hi
    refine V_ld (pc := 164) dX11_run_164 (v := vi ((i : Nat) : Int)) rfl rfl ?_
    refine V_bipush (pc := 165) dX11_run_165 (by unfold I32; omega) (by decide) ?_
    refine V_ld (pc := 167) dX11_run_167 (v := vi (q : Int)) rfl rfl ?_
    refine V_imul (pc := 168) dX11_run_168 (by unfold I32 at *; omega) ?_
    refine V_icmp_ge (pc := 169) dX11_run_169 (tgt := 194) rfl (fun h169 => ?_) (fun h169 => ?_)
    · skip
      exfalso; omega
    · skip
      refine V_ld (pc := 172) dX11_run_172 (v := vr 30) rfl rfl ?_
      refine V_getRv (pc := 173) dX11_run_173 (o' := 31) fw_RX11_9 rfl hL.t30 hL.r30_0 ?_
      refine V_sipush (pc := 176) dX11_run_176 (by unfold I32; omega) (by decide) ?_
      refine V_ld (pc := 179) dX11_run_179 (v := vi ((i : Nat) : Int)) rfl rfl ?_
      refine V_iadd (pc := 180) dX11_run_180 (by unfold I32 at *; omega) ?_
      refine V_ld (pc := 181) dX11_run_181 (v := vr 30) rfl rfl ?_
      refine V_getRv (pc := 182) dX11_run_182 (o' := 55) fw_RX11_84 rfl hL.t30 hL.r30_49 ?_
      refine V_ld (pc := 185) dX11_run_185 (v := vi ((i : Nat) : Int)) rfl rfl ?_
      refine V_ialdv (pc := 186) dX11_run_186 (v := mI (cpyI m 55 0 31 3337 i) 55 (((i : Nat) : Int).toNat)) hL.t55 (by omega) rfl (fun g186 => ?_)
      refine V_iast (pc := 187) dX11_run_187 hL.t31 (by omega) ?_
      refine V_iinc (pc := 188) dX11_run_188 (x := ((i : Nat) : Int)) (ls' := [(3, vi (((i : Nat) : Int) + 1)), (2, vi st), (1, vi (q : Int)), (0, vr 30)]) rfl (by unfold I32 at *; omega) (Nat.le_of_ble_eq_true rfl) rfl ?_
      refine V_goto (pc := 191) dX11_run_191 (tgt := 164) rfl ?_
      skip
      refine V_mem (cpyI_s (by omega) (by (rw [mI_cpyI, if_neg (by omega)]) <;> (first | rfl | (congr 1; omega)))) ?_
      exact ih (i + 1) (by omega)

set_option maxHeartbeats 4000000 in
theorem y_runN  (m : Mem)    (hL : Lay (mT m) (mR m)) (hz : mI m 31 65 = 0) : Ct μX11_run 35 [vr 30] m (ri fun x_ m' => (x_ = -3) ∧ m = m') := by
  refine Ct_of_V rfl (by decide) rfl (Nat.le_of_ble_eq_true rfl) ?_
  show V μX11_run 35 m _ 0 [(0, vr 30)] [] m
  refine V_ld (pc := 0) dX11_run_0 (v := vr 30) rfl rfl ?_
  refine V_getRv (pc := 1) dX11_run_1 (o' := 31) fw_RX11_9 rfl hL.t30 hL.r30_0 ?_
  refine V_bipush (pc := 4) dX11_run_4 (by unfold I32; omega) (by decide) ?_
  refine V_ialdv (pc := 6) dX11_run_6 (v := 0) hL.t31 (by omega) hz (fun g6 => ?_)
  refine V_if_ne (pc := 7) dX11_run_7 (tgt := 13) rfl (fun h_ => absurd h_ (by decide)) (fun _ => ?_)
  refine V_bipush (pc := 10) dX11_run_10 (by unfold I32; omega) (by decide) ?_
  refine V_reti (pc := 12) dX11_run_12 trivial ?_
  exact ⟨rfl, rfl⟩

set_option maxHeartbeats 16000000 in
theorem L_yrun {F0 : Nat} {m0 m : Mem} {PP : Int → Mem → Prop} {tx : Nat → Int} {nt : Nat} {F : Tb} {c : Nat} {n may : Int} {hcn : Nat → CEnv → Int} {cl : Nat → Int} {mo by_ em : Int} (hL : Lay (mT m) (mR m)) (ht : mI m 31 65 = (nt : Int) ∧ 0 < nt ∧ nt ≤ 120) (htx : txR (mI m) 31 66 tx nt ∧ PatW tx nt) (hFc : F = (altL tx nt 5 S0).2.2.2.2 ∧ c = (altL tx nt 5 S0).2.2.2.1) (hB : RB1 (mI m) n may hcn cl) (hmd : mI m 31 3332 = mo ∧ mI m 31 3333 = by_ ∧ mI m 31 3334 = em ∧ 0 ≤ mo ∧ mo ≤ 3) (hF : 33 < F0) : ∀ (f : Nat) (st : Int) (Ms : ML) (J : SJ) (I : Nat → Nat → Int), RFw (mI m) I → (∀ k, I 45 k = J.2.1 k) → (I 30 27 = 0 ∨ I 30 27 = 1) → MaR I 55 0 Ms → (Ms.length : Int) ≤ st → MsOK n Ms → LtrOK J → n + 1 ≤ (f : Int) + st → 0 ≤ st → st ≤ n + 1 → (∀ x I', RunR (mI m) I' (rnA F c n may hcn cl mo by_ em f st Ms J) x → PP x (wI m I')) → V μX11_run F0 m0 (ri PP) 17 [(2, vi st), (1, vi (Ms.length : Int)), (0, vr 30)] [] (wI m I) := by
  have hpw := pat_wf htx.2 F c (c - 1) hFc.1 hFc.2 rfl
  intro f
  induction f with
  | zero =>
    intro st Ms J I hW hl h27 hMa hlen hMs hLt hf h0 hst1 kx
    have h31 : ∀ k, I 31 k = mI m 31 k := fun k => hW 31 k (by omega) (by omega) (by omega) (by omega)
    have hN : I 31 64 = n := (h31 64).trans hB.1.1
    have hem : I 31 3334 = em := (h31 3334).trans hmd.2.2.1
    have hBn := hB.1
    refine V_ld (pc := 17) dX11_run_17 (v := vi st) rfl rfl ?_
    refine V_ld (pc := 18) dX11_run_18 (v := vr 30) rfl rfl ?_
    refine V_callV (pc := 19) dX11_run_19 (F' := 0) (As := []) (st := [vi st]) cw_RX11_97 rfl rfl hL.t30 (by decide) (Nat.le_of_ble_eq_true rfl) (by omega) (r_many  (wI m I)    (by first | assumption | omega)) ?_
    rintro _ _ ⟨x19, rfl, hx19, rfl⟩ ok19 le19
    obtain rfl : x19 = (I 31 64) := hx19.trans rfl
    refine V_icmp_gt (pc := 22) dX11_run_22 (tgt := 153) rfl (fun h22 => ?_) (fun h22 => ?_)
    · skip
      refine V_ld (pc := 153) dX11_run_153 (v := vr 30) rfl rfl ?_
      refine V_getRv (pc := 154) dX11_run_154 (o' := 31) fw_RX11_9 rfl hL.t30 hL.r30_0 ?_
      refine V_sipush (pc := 157) dX11_run_157 (by unfold I32; omega) (by decide) ?_
      refine V_ld (pc := 160) dX11_run_160 (v := vi (Ms.length : Int)) rfl rfl ?_
      refine V_iast (pc := 161) dX11_run_161 hL.t31 (by omega) ?_
      refine V_iconst (pc := 162) dX11_run_162 (by unfold I32; omega) ?_
      refine V_st (pc := 163) dX11_run_163 (ls' := [(3, vi 0), (2, vi st), (1, vi (Ms.length : Int)), (0, vr 30)]) rfl (Nat.le_of_ble_eq_true rfl) rfl ?_
      refine V_ls (ls' := [(3, vi ((0 : Nat) : Int)), (2, vi st), (1, vi (Ms.length : Int)), (0, vr 30)]) (by intro q_ h_; simp only [List.mem_cons, List.not_mem_nil, or_false] at h_ ⊢; rcases h_ with rfl | rfl | rfl | rfl <;> simp) ?_
      refine V_mem (cpyI_0 (a := 55) (sp := 0) (b := 31) (dp := 3337)).symm ?_
      refine L_yrc (m := setI (wI m I) 31 3336 (Ms.length : Int)) (q := Ms.length) (st := st) hL (by omega) ?_ (34 * Ms.length) 0 (by omega)
      refine V_ld (pc := 194) dX11_run_194 (v := vi (Ms.length : Int)) rfl rfl ?_
      refine V_reti (pc := 195) dX11_run_195 trivial ?_
      have hr : ∀ o k, mI (cpyI (setI (wI m I) 31 3336 (Ms.length : Int)) 55 0 31 3337 (34 * Ms.length)) o k = if o = 31 ∧ 3337 ≤ k ∧ k < 3337 + 34 * Ms.length then mI (setI (wI m I) 31 3336 (Ms.length : Int)) 55 (0 + (k - 3337)) else mI (setI (wI m I) 31 3336 (Ms.length : Int)) o k := fun _ _ => mI_cpyI
      have h5 : ∀ o k, mI (setI (wI m I) 31 3336 (Ms.length : Int)) o k = up2 I 31 3336 (Ms.length : Int) o k := fun _ _ => rfl
      refine kx _ (mI (cpyI (setI (wI m I) 31 3336 (Ms.length : Int)) 55 0 31 3337 (34 * Ms.length))) ⟨?_, ?_, Or.inr ⟨by rw [rnA_end (by omega)], by rw [rnA_end (by omega)], ?_, ?_, I, hW, fun o k ho => ?_⟩⟩
      · rw [rnA_end (by omega)]; intro k; rw [hr, if_neg (by omega), h5, up2_nx (by omega)]; exact hl k
      · rw [hr, if_neg (by omega), h5, up2_nx (by omega)]; exact h27
      · rw [rnA_end (by omega), hr, if_neg (by omega), h5, up2_s]
      · rw [rnA_end (by omega)]
        intro j s' e' l' hj
        have hj : Ms[j]? = some (s', e', l') := hj
        have hjl : j < Ms.length := by
          by_cases ej : j < Ms.length
          · exact ej
          · rw [List.getElem?_eq_none (by omega)] at hj; cases hj
        obtain ⟨g1, g2, g3⟩ := hMa j s' e' l' hj
        rw [Nat.zero_add] at g1 g2 g3
        have hm := hMs (s', e', l') (List.mem_of_getElem? hj)
        have hm : 0 ≤ s' ∧ s' ≤ e' ∧ e' ≤ n ∧ _ := hm
        have h55 : ∀ k, mI (setI (wI m I) 31 3336 (Ms.length : Int)) 55 k = I 55 k := fun k => by rw [h5, up2_nx (by omega)]
        refine ⟨?_, ?_, fun r hr2 => ?_⟩
        · rw [hr, if_pos (by omega), h55, show 0 + (3337 + 34 * j - 3337) = 34 * j from by omega]; exact g1
        · rw [hr, if_pos (by omega), h55, show 0 + (3337 + 34 * j + 1 - 3337) = 34 * j + 1 from by omega]; exact g2
        · rw [hr, if_pos (by omega), h55, show 0 + (3337 + 34 * j + 2 + r - 3337) = 34 * j + 2 + r from by omega]; exact g3 r hr2
      · rw [hr, if_neg (by omega), h5, up2_nx (by omega)]
    · skip
      exfalso; omega
  | succ f ih =>
    intro st Ms J I hW hl h27 hMa hlen hMs hLt hf h0 hst1 kx
    have h31 : ∀ k, I 31 k = mI m 31 k := fun k => hW 31 k (by omega) (by omega) (by omega) (by omega)
    have hN : I 31 64 = n := (h31 64).trans hB.1.1
    have hem : I 31 3334 = em := (h31 3334).trans hmd.2.2.1
    have hBn := hB.1
    obtain ⟨R, hR⟩ : ∃ R, seekA F c n may hcn cl (-1) st J = R := ⟨_, rfl⟩
    have hrt : 1 ≤ c ∧ F (c - 1) 9 ≤ 6 ∧ F (c - 1) 10 ≤ 23 := ⟨hpw.1, hpw.2.2.2.2.2.2.1, hpw.2.2.2.2.2.2.2⟩
    have hinv := fun (h_ : st ≤ n) => seekA_inv (hc := hcn) (cl := cl) (e := -1) (J := J) hpw.2.2.1 hrt (st := st) ⟨h0, h_, hBn.2.2.1⟩ ⟨hBn.2.2.2.2.1, hBn.2.2.2.2.2⟩
    have hltr := fun (h_ : st ≤ n) => seekA_lt (hc := hcn) (cl := cl) (e := -1) (J := J) hpw.2.2.1 hrt (st := st) ⟨h0, h_, hBn.2.2.1⟩ ⟨hBn.2.2.2.2.1, hBn.2.2.2.2.2⟩ hLt
    rw [hR] at hinv hltr
    refine V_ld (pc := 17) dX11_run_17 (v := vi st) rfl rfl ?_
    refine V_ld (pc := 18) dX11_run_18 (v := vr 30) rfl rfl ?_
    refine V_callV (pc := 19) dX11_run_19 (F' := 0) (As := []) (st := [vi st]) cw_RX11_97 rfl rfl hL.t30 (by decide) (Nat.le_of_ble_eq_true rfl) (by omega) (r_many  (wI m I)    (by first | assumption | omega)) ?_
    rintro _ _ ⟨x19, rfl, hx19, rfl⟩ ok19 le19
    obtain rfl : x19 = (I 31 64) := hx19.trans rfl
    refine V_icmp_gt (pc := 22) dX11_run_22 (tgt := 153) rfl (fun h22 => ?_) (fun h22 => ?_)
    · skip
      refine V_ld (pc := 153) dX11_run_153 (v := vr 30) rfl rfl ?_
      refine V_getRv (pc := 154) dX11_run_154 (o' := 31) fw_RX11_9 rfl hL.t30 hL.r30_0 ?_
      refine V_sipush (pc := 157) dX11_run_157 (by unfold I32; omega) (by decide) ?_
      refine V_ld (pc := 160) dX11_run_160 (v := vi (Ms.length : Int)) rfl rfl ?_
      refine V_iast (pc := 161) dX11_run_161 hL.t31 (by omega) ?_
      refine V_iconst (pc := 162) dX11_run_162 (by unfold I32; omega) ?_
      refine V_st (pc := 163) dX11_run_163 (ls' := [(3, vi 0), (2, vi st), (1, vi (Ms.length : Int)), (0, vr 30)]) rfl (Nat.le_of_ble_eq_true rfl) rfl ?_
      refine V_ls (ls' := [(3, vi ((0 : Nat) : Int)), (2, vi st), (1, vi (Ms.length : Int)), (0, vr 30)]) (by intro q_ h_; simp only [List.mem_cons, List.not_mem_nil, or_false] at h_ ⊢; rcases h_ with rfl | rfl | rfl | rfl <;> simp) ?_
      refine V_mem (cpyI_0 (a := 55) (sp := 0) (b := 31) (dp := 3337)).symm ?_
      refine L_yrc (m := setI (wI m I) 31 3336 (Ms.length : Int)) (q := Ms.length) (st := st) hL (by omega) ?_ (34 * Ms.length) 0 (by omega)
      refine V_ld (pc := 194) dX11_run_194 (v := vi (Ms.length : Int)) rfl rfl ?_
      refine V_reti (pc := 195) dX11_run_195 trivial ?_
      have hr : ∀ o k, mI (cpyI (setI (wI m I) 31 3336 (Ms.length : Int)) 55 0 31 3337 (34 * Ms.length)) o k = if o = 31 ∧ 3337 ≤ k ∧ k < 3337 + 34 * Ms.length then mI (setI (wI m I) 31 3336 (Ms.length : Int)) 55 (0 + (k - 3337)) else mI (setI (wI m I) 31 3336 (Ms.length : Int)) o k := fun _ _ => mI_cpyI
      have h5 : ∀ o k, mI (setI (wI m I) 31 3336 (Ms.length : Int)) o k = up2 I 31 3336 (Ms.length : Int) o k := fun _ _ => rfl
      refine kx _ (mI (cpyI (setI (wI m I) 31 3336 (Ms.length : Int)) 55 0 31 3337 (34 * Ms.length))) ⟨?_, ?_, Or.inr ⟨by rw [rnA_end (by omega)], by rw [rnA_end (by omega)], ?_, ?_, I, hW, fun o k ho => ?_⟩⟩
      · rw [rnA_end (by omega)]; intro k; rw [hr, if_neg (by omega), h5, up2_nx (by omega)]; exact hl k
      · rw [hr, if_neg (by omega), h5, up2_nx (by omega)]; exact h27
      · rw [rnA_end (by omega), hr, if_neg (by omega), h5, up2_s]
      · rw [rnA_end (by omega)]
        intro j s' e' l' hj
        have hj : Ms[j]? = some (s', e', l') := hj
        have hjl : j < Ms.length := by
          by_cases ej : j < Ms.length
          · exact ej
          · rw [List.getElem?_eq_none (by omega)] at hj; cases hj
        obtain ⟨g1, g2, g3⟩ := hMa j s' e' l' hj
        rw [Nat.zero_add] at g1 g2 g3
        have hm := hMs (s', e', l') (List.mem_of_getElem? hj)
        have hm : 0 ≤ s' ∧ s' ≤ e' ∧ e' ≤ n ∧ _ := hm
        have h55 : ∀ k, mI (setI (wI m I) 31 3336 (Ms.length : Int)) 55 k = I 55 k := fun k => by rw [h5, up2_nx (by omega)]
        refine ⟨?_, ?_, fun r hr2 => ?_⟩
        · rw [hr, if_pos (by omega), h55, show 0 + (3337 + 34 * j - 3337) = 34 * j from by omega]; exact g1
        · rw [hr, if_pos (by omega), h55, show 0 + (3337 + 34 * j + 1 - 3337) = 34 * j + 1 from by omega]; exact g2
        · rw [hr, if_pos (by omega), h55, show 0 + (3337 + 34 * j + 2 + r - 3337) = 34 * j + 2 + r from by omega]; exact g3 r hr2
      · rw [hr, if_neg (by omega), h5, up2_nx (by omega)]
    · skip
      refine V_ld (pc := 25) dX11_run_25 (v := vr 30) rfl rfl ?_
      refine V_ld (pc := 26) dX11_run_26 (v := vi st) rfl rfl ?_
      refine V_iconst (pc := 27) dX11_run_27 (by unfold I32; omega) ?_
      refine V_callV (pc := 28) dX11_run_28 (F' := 33) (As := [vi st, vi (-1)]) (st := []) cw_RX11_358 rfl rfl hL.t30 (by decide) (Nat.le_of_ble_eq_true rfl) (by omega) (y_search tx nt F c n may hcn cl J (wI m I) st (-1)   hL (show I 31 65 = (nt : Int) ∧ 0 < nt ∧ nt ≤ 120 from ⟨(h31 65).trans ht.1, ht.2⟩) ⟨txR.w htx.1 h31, htx.2⟩ hFc (RB1.w hB h31) ⟨hl, h27⟩ ⟨h0, by omega⟩) ?_
      rintro _ _ ⟨x28, rfl, Ix28, rfl, hx28, hm28⟩ ok28 le28
      rw [hR] at hm28
      have hinv2 := hinv (by omega)
      have hltr2 := hltr (by omega)
      obtain ⟨hx28b, hl2, h272, hcase⟩ := hm28
      have hW2 : RFw (mI m) Ix28 := hW.x hx28b
      have h312 : ∀ k, Ix28 31 k = mI m 31 k := fun k => hW2 31 k (by omega) (by omega) (by omega) (by omega)
      have hN2 : Ix28 31 64 = n := (h312 64).trans hB.1.1
      have hem2 : Ix28 31 3334 = em := (h312 3334).trans hmd.2.2.1
      have hMa2 : MaR Ix28 55 0 Ms := hMa.fr (fun k => hx28b 55 k (by omega) (by omega) (by omega) (by omega))
      have hc4 : (R.1 = -7 ∧ Ix28 30 44 = 1) ∨ (R.1 ≠ -7 ∧ Ix28 30 44 = 0 ∧ Ix28 30 40 = R.2.1 9 ∧ ((R.1 = 1 ∧ x28 = 1) ∨ (R.1 ≠ 1 ∧ x28 = 0))) := by
        rcases hcase with hc_ | hc_
        · exact Or.inl ⟨hc_.1, hc_.2.1⟩
        · refine Or.inr ⟨hc_.1, hc_.2.1, hc_.2.2.1.2.2.2.1, ?_⟩
          have h_ := hc_.2.2.2
          split at h_ <;> omega
      clear hcase
      refine V_st (pc := 31) dX11_run_31 (ls' := [(3, vi x28), (2, vi st), (1, vi (Ms.length : Int)), (0, vr 30)]) rfl (Nat.le_of_ble_eq_true rfl) rfl ?_
      refine V_ld (pc := 32) dX11_run_32 (v := vr 30) rfl rfl ?_
      refine V_getIv (pc := 33) dX11_run_33 (v := (Ix28 30 44)) fw_RX11_273 rfl hL.t30 rfl (fun g33 => ?_)
      refine V_if_eq (pc := 36) dX11_run_36 (tgt := 42) rfl (fun h36 => ?_) (fun h36 => ?_)
      · skip
        refine V_ld (pc := 42) dX11_run_42 (v := vr 30) rfl rfl ?_
        refine V_getIv (pc := 43) dX11_run_43 (v := (Ix28 30 40)) fw_RX11_279 rfl hL.t30 rfl (fun g43 => ?_)
        refine V_ld (pc := 46) dX11_run_46 (v := vi st) rfl rfl ?_
        refine V_isub (pc := 47) dX11_run_47 (by unfold I32 at *; omega) ?_
        refine V_st (pc := 48) dX11_run_48 (ls' := [(4, vi ((Ix28 30 40) - st)), (3, vi x28), (2, vi st), (1, vi (Ms.length : Int)), (0, vr 30)]) rfl (Nat.le_of_ble_eq_true rfl) rfl ?_
        refine V_ld (pc := 50) dX11_run_50 (v := vi x28) rfl rfl ?_
        refine V_if_eq (pc := 51) dX11_run_51 (tgt := 147) rfl (fun h51 => ?_) (fun h51 => ?_)
        · skip
          refine V_iinc (pc := 147) dX11_run_147 (x := st) (ls' := [(2, vi (st + 1)), (4, vi ((Ix28 30 40) - st)), (3, vi x28), (1, vi (Ms.length : Int)), (0, vr 30)]) rfl (by unfold I32 at *; omega) (Nat.le_of_ble_eq_true rfl) rfl ?_
          refine V_goto (pc := 150) dX11_run_150 (tgt := 17) rfl ?_
          refine V_ls (ls' := [(2, vi (st + 1)), (1, vi (Ms.length : Int)), (0, vr 30)]) (by intro q_ h_; simp only [List.mem_cons, List.not_mem_nil, or_false] at h_ ⊢; rcases h_ with rfl | rfl | rfl <;> simp) ?_
          exact ih (st + 1) Ms R.2 Ix28 hW2 hl2 h272 hMa2 (by omega) hMs hltr2 (by omega) (by omega) (by omega) (fun x I' h_ => kx x I' (by rw [rnA_n (by omega) hR (by omega) (by omega)]; exact h_))
        · skip
          refine V_ld (pc := 54) dX11_run_54 (v := vi ((Ix28 30 40) - st)) rfl rfl ?_
          refine V_if_gt (pc := 56) dX11_run_56 (tgt := 71) rfl (fun h56 => ?_) (fun h56 => ?_)
          · skip
            refine V_ld (pc := 71) dX11_run_71 (v := vr 30) rfl rfl ?_
            refine V_getRv (pc := 72) dX11_run_72 (o' := 55) fw_RX11_84 rfl hL.t30 hL.r30_49 ?_
            refine V_bipush (pc := 75) dX11_run_75 (by unfold I32; omega) (by decide) ?_
            refine V_ld (pc := 77) dX11_run_77 (v := vi (Ms.length : Int)) rfl rfl ?_
            refine V_imul (pc := 78) dX11_run_78 (by unfold I32 at *; omega) ?_
            refine V_ld (pc := 79) dX11_run_79 (v := vi st) rfl rfl ?_
            refine V_iast (pc := 80) dX11_run_80 hL.t55 (by omega) ?_
            refine V_ld (pc := 81) dX11_run_81 (v := vr 30) rfl rfl ?_
            refine V_getRv (pc := 82) dX11_run_82 (o' := 55) fw_RX11_84 rfl hL.t30 hL.r30_49 ?_
            refine V_bipush (pc := 85) dX11_run_85 (by unfold I32; omega) (by decide) ?_
            refine V_ld (pc := 87) dX11_run_87 (v := vi (Ms.length : Int)) rfl rfl ?_
            refine V_imul (pc := 88) dX11_run_88 (by unfold I32 at *; omega) ?_
            refine V_iconst (pc := 89) dX11_run_89 (by unfold I32; omega) ?_
            refine V_iadd (pc := 90) dX11_run_90 (by unfold I32 at *; omega) ?_
            refine V_ld (pc := 91) dX11_run_91 (v := vi ((Ix28 30 40) - st)) rfl rfl ?_
            refine V_iast (pc := 93) dX11_run_93 hL.t55 (by omega) ?_
            refine V_iconst (pc := 94) dX11_run_94 (by unfold I32; omega) ?_
            refine V_st (pc := 95) dX11_run_95 (ls' := [(5, vi 0), (4, vi ((Ix28 30 40) - st)), (3, vi x28), (2, vi st), (1, vi (Ms.length : Int)), (0, vr 30)]) rfl (Nat.le_of_ble_eq_true rfl) rfl ?_
            have erw : Ix28 30 40 - st = (((R.2.1 9 - st).toNat : Nat) : Int) := by omega
            rw [erw]
            refine V_ls (ls' := [(5, vi ((0 : Nat) : Int)), (4, vi (((R.2.1 9 - st).toNat : Nat) : Int)), (3, vi x28), (2, vi st), (1, vi (Ms.length : Int)), (0, vr 30)]) (by intro q_ h_; simp only [List.mem_cons, List.not_mem_nil, or_false] at h_ ⊢; rcases h_ with rfl | rfl | rfl | rfl | rfl | rfl <;> simp) ?_
            refine V_mem (cpyI_0 (a := 45) (sp := st.toNat) (b := 55) (dp := 34 * Ms.length + 2)).symm ?_
            refine L_yrf (m := setI (setI (wI (wI m I) Ix28) 55 ((34 * (Ms.length : Int)).toNat) st) 55 (((34 * (Ms.length : Int)) + 1).toNat) ((((R.2.1 9 - st).toNat : Nat) : Int))) (q := Ms.length) (rw_ := (R.2.1 9 - st).toNat) (st := st) (fo := x28) hL (by omega) ⟨h0, by omega⟩ ?_ (R.2.1 9 - st).toNat 0 (by omega)
            refine V_iinc (pc := 133) dX11_run_133 (x := (Ms.length : Int)) (ls' := [(1, vi ((Ms.length : Int) + 1)), (5, vi (((R.2.1 9 - st).toNat : Nat) : Int)), (4, vi (((R.2.1 9 - st).toNat : Nat) : Int)), (3, vi x28), (2, vi st), (0, vr 30)]) rfl (by unfold I32 at *; omega) (Nat.le_of_ble_eq_true rfl) rfl ?_
            obtain ⟨I9, hI9⟩ : ∃ I9, I9 = mI (cpyI (setI (setI (wI (wI m I) Ix28) 55 ((34 * (Ms.length : Int)).toNat) st) 55 (((34 * (Ms.length : Int)) + 1).toNat) ((((R.2.1 9 - st).toNat : Nat) : Int))) 45 st.toNat 55 (34 * Ms.length + 2) (R.2.1 9 - st).toNat) := ⟨_, rfl⟩
            have e1 : (34 * (Ms.length : Int)).toNat = 34 * Ms.length := by omega
            have e2 : (34 * (Ms.length : Int) + 1).toNat = 34 * Ms.length + 1 := by omega
            have h6 : ∀ o k, mI (setI (setI (wI (wI m I) Ix28) 55 ((34 * (Ms.length : Int)).toNat) st) 55 (((34 * (Ms.length : Int)) + 1).toNat) ((((R.2.1 9 - st).toNat : Nat) : Int))) o k = up2 (up2 Ix28 55 (34 * Ms.length) st) 55 (34 * Ms.length + 1) ((((R.2.1 9 - st).toNat : Nat) : Int)) o k := fun o k => by
              show up2 (up2 Ix28 55 (34 * (Ms.length : Int)).toNat st) 55 (34 * (Ms.length : Int) + 1).toNat ((((R.2.1 9 - st).toNat : Nat) : Int)) o k = _
              rw [e1, e2]
            have h9 : ∀ o k, I9 o k = if o = 55 ∧ 34 * Ms.length + 2 ≤ k ∧ k < 34 * Ms.length + 2 + (R.2.1 9 - st).toNat then mI (setI (setI (wI (wI m I) Ix28) 55 ((34 * (Ms.length : Int)).toNat) st) 55 (((34 * (Ms.length : Int)) + 1).toNat) ((((R.2.1 9 - st).toNat : Nat) : Int))) 45 (st.toNat + (k - (34 * Ms.length + 2))) else mI (setI (setI (wI (wI m I) Ix28) 55 ((34 * (Ms.length : Int)).toNat) st) 55 (((34 * (Ms.length : Int)) + 1).toNat) ((((R.2.1 9 - st).toNat : Nat) : Int))) o k := fun o k => by rw [hI9]; exact mI_cpyI
            have hI55 : ∀ o k, o ≠ 55 → I9 o k = Ix28 o k := fun o k ho => by rw [h9, if_neg (by omega), h6, up2_no ho, up2_no ho]
            have hI45 : ∀ k, I9 45 k = R.2.2.1 k := fun k => (hI55 45 k (by decide)).trans (hl2 k)
            have hI31 : ∀ k, I9 31 k = mI m 31 k := fun k => (hI55 31 k (by decide)).trans (h312 k)
            have hW3 : RFw (mI m) I9 := hW2.f hI55
            have hMa3 : MaR I9 55 0 (Ms ++ [(st, R.2.1 9, R.2.2.1)]) := by
              refine MaR.ap hMa2 ⟨by omega, by omega⟩ (fun k hk => ?_) ?_ ?_ (fun r hr2 => ?_) (fun x hx => by have h_ := hMs x hx; omega)
              · rw [h9, if_neg (by omega), h6, up2_nk (by omega), up2_nk (by omega)]
              · rw [h9, if_neg (by omega), h6, up2_nk (by omega), up2_s]
              · rw [h9, if_neg (by omega), h6, up2_s]; omega
              · rw [h9, if_pos (by omega), h6, up2_no (by decide), up2_no (by decide), hl2, show st.toNat + (34 * Ms.length + 2 + r - (34 * Ms.length + 2)) = (st + (r : Int)).toNat from by omega]
            refine V_mem (m' := wI m I9) (by rw [hI9]; rfl) ?_
            refine V_ld (pc := 136) dX11_run_136 (v := vr 30) rfl rfl ?_
            refine V_ld (pc := 137) dX11_run_137 (v := vi st) rfl rfl ?_
            refine V_ld (pc := 138) dX11_run_138 (v := vi (((R.2.1 9 - st).toNat : Nat) : Int)) rfl rfl ?_
            refine V_callV (pc := 140) dX11_run_140 (F' := 1) (As := [vi st, vi (((R.2.1 9 - st).toNat : Nat) : Int)]) (st := []) cw_RX11_365 rfl rfl hL.t30 (by decide) (Nat.le_of_ble_eq_true rfl) (by omega) (y_behind mo by_ (R.2.1 9) R.2.2.1 (wI m I9) st (((R.2.1 9 - st).toNat : Nat) : Int)   hL ⟨(hI31 3332).trans hmd.1, (hI31 3333).trans hmd.2.1, by omega⟩ (fun k hk => hI45 k) (by omega)) ?_
            rintro _ _ ⟨x140, rfl, hx140, rfl⟩ ok140 le140
            subst hx140
            refine V_st (pc := 143) dX11_run_143 (ls' := [(2, vi (nextA mo by_ st (R.2.1 9) R.2.2.1)), (1, vi ((Ms.length : Int) + 1)), (5, vi (((R.2.1 9 - st).toNat : Nat) : Int)), (4, vi (((R.2.1 9 - st).toNat : Nat) : Int)), (3, vi x28), (0, vr 30)]) rfl (Nat.le_of_ble_eq_true rfl) rfl ?_
            refine V_goto (pc := 144) dX11_run_144 (tgt := 150) rfl ?_
            refine V_goto (pc := 150) dX11_run_150 (tgt := 17) rfl ?_
            have hnb := nextA_b (mo := mo) (by_ := by_) (st := st) (pl := R.2.1 9) (le := R.2.2.1) ⟨h0, by omega⟩
            have elen : (Ms.length : Int) + 1 = (((Ms ++ [(st, R.2.1 9, R.2.2.1)]).length : Nat) : Int) := by rw [List.length_append]; rfl
            refine V_ls (ls' := [(2, vi (nextA mo by_ st (R.2.1 9) R.2.2.1)), (1, vi ((Ms.length : Int) + 1)), (0, vr 30)]) (by intro q_ h_; simp only [List.mem_cons, List.not_mem_nil, or_false] at h_ ⊢; rcases h_ with rfl | rfl | rfl <;> simp) ?_
            rw [elen]
            exact ih (nextA mo by_ st (R.2.1 9) R.2.2.1) (Ms ++ [(st, R.2.1 9, R.2.2.1)]) R.2 I9 hW3 hI45 (by rw [hI55 30 27 (by decide)]; exact h272) hMa3 (by rw [← elen]; omega) (hMs.app ⟨h0, by omega, by omega⟩ hltr2) hltr2 (by omega) (by omega) (by omega) (fun x I' h_ => kx x I' (by rw [rnA_m (by omega) hR (by omega) (by omega)]; exact h_))
          · skip
            refine V_ld (pc := 59) dX11_run_59 (v := vr 30) rfl rfl ?_
            refine V_getRv (pc := 60) dX11_run_60 (o' := 31) fw_RX11_9 rfl hL.t30 hL.r30_0 ?_
            refine V_sipush (pc := 63) dX11_run_63 (by unfold I32; omega) (by decide) ?_
            refine V_ialdv (pc := 66) dX11_run_66 (v := em) hL.t31 (by omega) hem2 (fun g66 => ?_)
            refine V_iconst (pc := 67) dX11_run_67 (by unfold I32; omega) ?_
            refine V_icmp_ne (pc := 68) dX11_run_68 (tgt := 147) rfl (fun h68 => ?_) (fun h68 => ?_)
            · skip
              refine V_iinc (pc := 147) dX11_run_147 (x := st) (ls' := [(2, vi (st + 1)), (4, vi ((Ix28 30 40) - st)), (3, vi x28), (1, vi (Ms.length : Int)), (0, vr 30)]) rfl (by unfold I32 at *; omega) (Nat.le_of_ble_eq_true rfl) rfl ?_
              refine V_goto (pc := 150) dX11_run_150 (tgt := 17) rfl ?_
              refine V_ls (ls' := [(2, vi (st + 1)), (1, vi (Ms.length : Int)), (0, vr 30)]) (by intro q_ h_; simp only [List.mem_cons, List.not_mem_nil, or_false] at h_ ⊢; rcases h_ with rfl | rfl | rfl <;> simp) ?_
              exact ih (st + 1) Ms R.2 Ix28 hW2 hl2 h272 hMa2 (by omega) hMs hltr2 (by omega) (by omega) (by omega) (fun x I' h_ => kx x I' (by rw [rnA_n (by omega) hR (by omega) (by omega)]; exact h_))
            · skip
              refine V_ld (pc := 71) dX11_run_71 (v := vr 30) rfl rfl ?_
              refine V_getRv (pc := 72) dX11_run_72 (o' := 55) fw_RX11_84 rfl hL.t30 hL.r30_49 ?_
              refine V_bipush (pc := 75) dX11_run_75 (by unfold I32; omega) (by decide) ?_
              refine V_ld (pc := 77) dX11_run_77 (v := vi (Ms.length : Int)) rfl rfl ?_
              refine V_imul (pc := 78) dX11_run_78 (by unfold I32 at *; omega) ?_
              refine V_ld (pc := 79) dX11_run_79 (v := vi st) rfl rfl ?_
              refine V_iast (pc := 80) dX11_run_80 hL.t55 (by omega) ?_
              refine V_ld (pc := 81) dX11_run_81 (v := vr 30) rfl rfl ?_
              refine V_getRv (pc := 82) dX11_run_82 (o' := 55) fw_RX11_84 rfl hL.t30 hL.r30_49 ?_
              refine V_bipush (pc := 85) dX11_run_85 (by unfold I32; omega) (by decide) ?_
              refine V_ld (pc := 87) dX11_run_87 (v := vi (Ms.length : Int)) rfl rfl ?_
              refine V_imul (pc := 88) dX11_run_88 (by unfold I32 at *; omega) ?_
              refine V_iconst (pc := 89) dX11_run_89 (by unfold I32; omega) ?_
              refine V_iadd (pc := 90) dX11_run_90 (by unfold I32 at *; omega) ?_
              refine V_ld (pc := 91) dX11_run_91 (v := vi ((Ix28 30 40) - st)) rfl rfl ?_
              refine V_iast (pc := 93) dX11_run_93 hL.t55 (by omega) ?_
              refine V_iconst (pc := 94) dX11_run_94 (by unfold I32; omega) ?_
              refine V_st (pc := 95) dX11_run_95 (ls' := [(5, vi 0), (4, vi ((Ix28 30 40) - st)), (3, vi x28), (2, vi st), (1, vi (Ms.length : Int)), (0, vr 30)]) rfl (Nat.le_of_ble_eq_true rfl) rfl ?_
              have erw : Ix28 30 40 - st = (((R.2.1 9 - st).toNat : Nat) : Int) := by omega
              rw [erw]
              refine V_ls (ls' := [(5, vi ((0 : Nat) : Int)), (4, vi (((R.2.1 9 - st).toNat : Nat) : Int)), (3, vi x28), (2, vi st), (1, vi (Ms.length : Int)), (0, vr 30)]) (by intro q_ h_; simp only [List.mem_cons, List.not_mem_nil, or_false] at h_ ⊢; rcases h_ with rfl | rfl | rfl | rfl | rfl | rfl <;> simp) ?_
              refine V_mem (cpyI_0 (a := 45) (sp := st.toNat) (b := 55) (dp := 34 * Ms.length + 2)).symm ?_
              refine L_yrf (m := setI (setI (wI (wI m I) Ix28) 55 ((34 * (Ms.length : Int)).toNat) st) 55 (((34 * (Ms.length : Int)) + 1).toNat) ((((R.2.1 9 - st).toNat : Nat) : Int))) (q := Ms.length) (rw_ := (R.2.1 9 - st).toNat) (st := st) (fo := x28) hL (by omega) ⟨h0, by omega⟩ ?_ (R.2.1 9 - st).toNat 0 (by omega)
              refine V_iinc (pc := 133) dX11_run_133 (x := (Ms.length : Int)) (ls' := [(1, vi ((Ms.length : Int) + 1)), (5, vi (((R.2.1 9 - st).toNat : Nat) : Int)), (4, vi (((R.2.1 9 - st).toNat : Nat) : Int)), (3, vi x28), (2, vi st), (0, vr 30)]) rfl (by unfold I32 at *; omega) (Nat.le_of_ble_eq_true rfl) rfl ?_
              obtain ⟨I9, hI9⟩ : ∃ I9, I9 = mI (cpyI (setI (setI (wI (wI m I) Ix28) 55 ((34 * (Ms.length : Int)).toNat) st) 55 (((34 * (Ms.length : Int)) + 1).toNat) ((((R.2.1 9 - st).toNat : Nat) : Int))) 45 st.toNat 55 (34 * Ms.length + 2) (R.2.1 9 - st).toNat) := ⟨_, rfl⟩
              have e1 : (34 * (Ms.length : Int)).toNat = 34 * Ms.length := by omega
              have e2 : (34 * (Ms.length : Int) + 1).toNat = 34 * Ms.length + 1 := by omega
              have h6 : ∀ o k, mI (setI (setI (wI (wI m I) Ix28) 55 ((34 * (Ms.length : Int)).toNat) st) 55 (((34 * (Ms.length : Int)) + 1).toNat) ((((R.2.1 9 - st).toNat : Nat) : Int))) o k = up2 (up2 Ix28 55 (34 * Ms.length) st) 55 (34 * Ms.length + 1) ((((R.2.1 9 - st).toNat : Nat) : Int)) o k := fun o k => by
                show up2 (up2 Ix28 55 (34 * (Ms.length : Int)).toNat st) 55 (34 * (Ms.length : Int) + 1).toNat ((((R.2.1 9 - st).toNat : Nat) : Int)) o k = _
                rw [e1, e2]
              have h9 : ∀ o k, I9 o k = if o = 55 ∧ 34 * Ms.length + 2 ≤ k ∧ k < 34 * Ms.length + 2 + (R.2.1 9 - st).toNat then mI (setI (setI (wI (wI m I) Ix28) 55 ((34 * (Ms.length : Int)).toNat) st) 55 (((34 * (Ms.length : Int)) + 1).toNat) ((((R.2.1 9 - st).toNat : Nat) : Int))) 45 (st.toNat + (k - (34 * Ms.length + 2))) else mI (setI (setI (wI (wI m I) Ix28) 55 ((34 * (Ms.length : Int)).toNat) st) 55 (((34 * (Ms.length : Int)) + 1).toNat) ((((R.2.1 9 - st).toNat : Nat) : Int))) o k := fun o k => by rw [hI9]; exact mI_cpyI
              have hI55 : ∀ o k, o ≠ 55 → I9 o k = Ix28 o k := fun o k ho => by rw [h9, if_neg (by omega), h6, up2_no ho, up2_no ho]
              have hI45 : ∀ k, I9 45 k = R.2.2.1 k := fun k => (hI55 45 k (by decide)).trans (hl2 k)
              have hI31 : ∀ k, I9 31 k = mI m 31 k := fun k => (hI55 31 k (by decide)).trans (h312 k)
              have hW3 : RFw (mI m) I9 := hW2.f hI55
              have hMa3 : MaR I9 55 0 (Ms ++ [(st, R.2.1 9, R.2.2.1)]) := by
                refine MaR.ap hMa2 ⟨by omega, by omega⟩ (fun k hk => ?_) ?_ ?_ (fun r hr2 => ?_) (fun x hx => by have h_ := hMs x hx; omega)
                · rw [h9, if_neg (by omega), h6, up2_nk (by omega), up2_nk (by omega)]
                · rw [h9, if_neg (by omega), h6, up2_nk (by omega), up2_s]
                · rw [h9, if_neg (by omega), h6, up2_s]; omega
                · rw [h9, if_pos (by omega), h6, up2_no (by decide), up2_no (by decide), hl2, show st.toNat + (34 * Ms.length + 2 + r - (34 * Ms.length + 2)) = (st + (r : Int)).toNat from by omega]
              refine V_mem (m' := wI m I9) (by rw [hI9]; rfl) ?_
              refine V_ld (pc := 136) dX11_run_136 (v := vr 30) rfl rfl ?_
              refine V_ld (pc := 137) dX11_run_137 (v := vi st) rfl rfl ?_
              refine V_ld (pc := 138) dX11_run_138 (v := vi (((R.2.1 9 - st).toNat : Nat) : Int)) rfl rfl ?_
              refine V_callV (pc := 140) dX11_run_140 (F' := 1) (As := [vi st, vi (((R.2.1 9 - st).toNat : Nat) : Int)]) (st := []) cw_RX11_365 rfl rfl hL.t30 (by decide) (Nat.le_of_ble_eq_true rfl) (by omega) (y_behind mo by_ (R.2.1 9) R.2.2.1 (wI m I9) st (((R.2.1 9 - st).toNat : Nat) : Int)   hL ⟨(hI31 3332).trans hmd.1, (hI31 3333).trans hmd.2.1, by omega⟩ (fun k hk => hI45 k) (by omega)) ?_
              rintro _ _ ⟨x140, rfl, hx140, rfl⟩ ok140 le140
              subst hx140
              refine V_st (pc := 143) dX11_run_143 (ls' := [(2, vi (nextA mo by_ st (R.2.1 9) R.2.2.1)), (1, vi ((Ms.length : Int) + 1)), (5, vi (((R.2.1 9 - st).toNat : Nat) : Int)), (4, vi (((R.2.1 9 - st).toNat : Nat) : Int)), (3, vi x28), (0, vr 30)]) rfl (Nat.le_of_ble_eq_true rfl) rfl ?_
              refine V_goto (pc := 144) dX11_run_144 (tgt := 150) rfl ?_
              refine V_goto (pc := 150) dX11_run_150 (tgt := 17) rfl ?_
              have hnb := nextA_b (mo := mo) (by_ := by_) (st := st) (pl := R.2.1 9) (le := R.2.2.1) ⟨h0, by omega⟩
              have elen : (Ms.length : Int) + 1 = (((Ms ++ [(st, R.2.1 9, R.2.2.1)]).length : Nat) : Int) := by rw [List.length_append]; rfl
              refine V_ls (ls' := [(2, vi (nextA mo by_ st (R.2.1 9) R.2.2.1)), (1, vi ((Ms.length : Int) + 1)), (0, vr 30)]) (by intro q_ h_; simp only [List.mem_cons, List.not_mem_nil, or_false] at h_ ⊢; rcases h_ with rfl | rfl | rfl <;> simp) ?_
              rw [elen]
              exact ih (nextA mo by_ st (R.2.1 9) R.2.2.1) (Ms ++ [(st, R.2.1 9, R.2.2.1)]) R.2 I9 hW3 hI45 (by rw [hI55 30 27 (by decide)]; exact h272) hMa3 (by rw [← elen]; omega) (hMs.app ⟨h0, by omega, by omega⟩ hltr2) hltr2 (by omega) (by omega) (by omega) (fun x I' h_ => kx x I' (by rw [rnA_m (by omega) hR (by omega) (by omega)]; exact h_))
      · skip
        refine V_bipush (pc := 39) dX11_run_39 (by unfold I32; omega) (by decide) ?_
        refine V_reti (pc := 41) dX11_run_41 trivial ?_
        first
          | (exfalso; omega)
          | exact kx _ _ ⟨by rw [rnA_7 (by omega) hR (by omega)]; exact hl2, h272, Or.inl ⟨by rw [rnA_7 (by omega) hR (by omega)], rfl, hW2⟩⟩
