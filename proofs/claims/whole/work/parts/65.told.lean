/-! told(): the reference -/
set_option maxHeartbeats 4000000 in
theorem L_rlwc {F : Nat} {m0 m : Mem} {post : Option AV → Mem → Prop} {k : Int} (hL : Lay (mT m) (mR m)) (kx : V μX11_told F m0 post 164 [(3, vi ((26 : Nat) : Int)), (2, vi (mskF (fun j_ : Nat => decide (0 < mI m 31 (186 + 121 * j_))) 26)), (1, vi k), (0, vr 30)] [] m) : ∀ (dd i : Nat), dd + i = 26 → V μX11_told F m0 post 126 [(3, vi ((i : Nat) : Int)), (2, vi (mskF (fun j_ : Nat => decide (0 < mI m 31 (186 + 121 * j_))) i)), (1, vi k), (0, vr 30)] [] m := by
  intro dd
  induction dd with
  | zero =>
    intro i hi
    obtain rfl : 26 = i := by omega
    have hb_ := mskF_bd (f := (fun j_ : Nat => decide (0 < mI m 31 (186 + 121 * j_)))) 26 (by omega)
    refine V_ld (pc := 126) dX11_told_126 (v := vi ((26 : Nat) : Int)) rfl rfl ?_
    refine V_bipush (pc := 127) dX11_told_127 (by unfold I32; omega) (by decide) ?_
    refine V_icmp_ge (pc := 129) dX11_told_129 (tgt := 164) rfl (fun h129 => ?_) (fun h129 => ?_)
    · skip
      first | exact kx | (skip; exact kx) | (exfalso; omega)
    · skip
      refine V_ld (pc := 132) dX11_told_132 (v := vi (mskF (fun j_ : Nat => decide (0 < mI m 31 (186 + 121 * j_))) 26)) rfl rfl ?_
      refine V_ld (pc := 133) dX11_told_133 (v := vr 30) rfl rfl ?_
      refine V_getRv (pc := 134) dX11_told_134 (o' := 31) fw_RX11_9 rfl hL.t30 hL.r30_0 ?_
      refine V_sipush (pc := 137) dX11_told_137 (by unfold I32; omega) (by decide) ?_
      refine V_bipush (pc := 140) dX11_told_140 (by unfold I32; omega) (by decide) ?_
      refine V_ld (pc := 142) dX11_told_142 (v := vi ((26 : Nat) : Int)) rfl rfl ?_
      refine V_imul (pc := 143) dX11_told_143 (by unfold I32 at *; omega) ?_
      refine V_iadd (pc := 144) dX11_told_144 (by unfold I32 at *; omega) ?_
      refine V_ialdv (pc := 145) dX11_told_145 (v := mI m 31 ((186 + (121 * ((26 : Nat) : Int))).toNat)) hL.t31 (by omega) rfl (fun g145 => ?_)
      refine V_if_le (pc := 146) dX11_told_146 (tgt := 155) rfl (fun h146 => ?_) (fun h146 => ?_)
      · skip
        refine V_iconst (pc := 155) dX11_told_155 (by unfold I32; omega) ?_
        exfalso; omega
      · skip
        refine V_iconst (pc := 149) dX11_told_149 (by unfold I32; omega) ?_
        refine V_ld (pc := 150) dX11_told_150 (v := vi ((26 : Nat) : Int)) rfl rfl ?_
        refine V_ishl (pc := 151) dX11_told_151 ?_
        refine V_goto (pc := 152) dX11_told_152 (tgt := 156) rfl ?_
        exfalso; omega
  | succ dd ih =>
    intro i hi
    have hb_ := mskF_bd (f := (fun j_ : Nat => decide (0 < mI m 31 (186 + 121 * j_)))) i (by omega)
    refine V_ld (pc := 126) dX11_told_126 (v := vi ((i : Nat) : Int)) rfl rfl ?_
    refine V_bipush (pc := 127) dX11_told_127 (by unfold I32; omega) (by decide) ?_
    refine V_icmp_ge (pc := 129) dX11_told_129 (tgt := 164) rfl (fun h129 => ?_) (fun h129 => ?_)
    · skip
      exfalso; omega
    · skip
      refine V_ld (pc := 132) dX11_told_132 (v := vi (mskF (fun j_ : Nat => decide (0 < mI m 31 (186 + 121 * j_))) i)) rfl rfl ?_
      refine V_ld (pc := 133) dX11_told_133 (v := vr 30) rfl rfl ?_
      refine V_getRv (pc := 134) dX11_told_134 (o' := 31) fw_RX11_9 rfl hL.t30 hL.r30_0 ?_
      refine V_sipush (pc := 137) dX11_told_137 (by unfold I32; omega) (by decide) ?_
      refine V_bipush (pc := 140) dX11_told_140 (by unfold I32; omega) (by decide) ?_
      refine V_ld (pc := 142) dX11_told_142 (v := vi ((i : Nat) : Int)) rfl rfl ?_
      refine V_imul (pc := 143) dX11_told_143 (by unfold I32 at *; omega) ?_
      refine V_iadd (pc := 144) dX11_told_144 (by unfold I32 at *; omega) ?_
      refine V_ialdv (pc := 145) dX11_told_145 (v := mI m 31 ((186 + (121 * ((i : Nat) : Int))).toNat)) hL.t31 (by omega) rfl (fun g145 => ?_)
      refine V_if_le (pc := 146) dX11_told_146 (tgt := 155) rfl (fun h146 => ?_) (fun h146 => ?_)
      · skip
        refine V_iconst (pc := 155) dX11_told_155 (by unfold I32; omega) ?_
        refine V_ior (pc := 156) dX11_told_156 ?_
        refine V_st (pc := 157) dX11_told_157 (ls' := [(2, vi (or32 (mskF (fun j_ : Nat => decide (0 < mI m 31 (186 + 121 * j_))) i) 0)), (3, vi ((i : Nat) : Int)), (1, vi k), (0, vr 30)]) rfl (Nat.le_of_ble_eq_true rfl) rfl ?_
        refine V_iinc (pc := 158) dX11_told_158 (x := ((i : Nat) : Int)) (ls' := [(3, vi (((i : Nat) : Int) + 1)), (2, vi (or32 (mskF (fun j_ : Nat => decide (0 < mI m 31 (186 + 121 * j_))) i) 0)), (1, vi k), (0, vr 30)]) rfl (by unfold I32 at *; omega) (Nat.le_of_ble_eq_true rfl) rfl ?_
        refine V_goto (pc := 161) dX11_told_161 (tgt := 126) rfl ?_
        have hf_ : (fun j_ : Nat => decide (0 < mI m 31 (186 + 121 * j_))) i = false := by
          have e_ : mI m 31 (186 + 121 * (i : Int)).toNat = mI m 31 (186 + 121 * i) := by rw [show (186 + 121 * (i : Int)).toNat = 186 + 121 * i from by omega]
          exact decide_eq_false (by omega)
        rw [or32_0 hb_]
        skip
        have h_ := ih (i + 1) (by omega)
        rw [← mskF_n (f := (fun j_ : Nat => decide (0 < mI m 31 (186 + 121 * j_)))) (i := i) hf_] at h_
        exact h_
      · skip
        refine V_iconst (pc := 149) dX11_told_149 (by unfold I32; omega) ?_
        refine V_ld (pc := 150) dX11_told_150 (v := vi ((i : Nat) : Int)) rfl rfl ?_
        refine V_ishl (pc := 151) dX11_told_151 ?_
        refine V_goto (pc := 152) dX11_told_152 (tgt := 156) rfl ?_
        refine V_ior (pc := 156) dX11_told_156 ?_
        refine V_st (pc := 157) dX11_told_157 (ls' := [(2, vi (or32 (mskF (fun j_ : Nat => decide (0 < mI m 31 (186 + 121 * j_))) i) (shl32 1 ((i : Nat) : Int)))), (3, vi ((i : Nat) : Int)), (1, vi k), (0, vr 30)]) rfl (Nat.le_of_ble_eq_true rfl) rfl ?_
        refine V_iinc (pc := 158) dX11_told_158 (x := ((i : Nat) : Int)) (ls' := [(3, vi (((i : Nat) : Int) + 1)), (2, vi (or32 (mskF (fun j_ : Nat => decide (0 < mI m 31 (186 + 121 * j_))) i) (shl32 1 ((i : Nat) : Int)))), (1, vi k), (0, vr 30)]) rfl (by unfold I32 at *; omega) (Nat.le_of_ble_eq_true rfl) rfl ?_
        refine V_goto (pc := 161) dX11_told_161 (tgt := 126) rfl ?_
        have hf_ : (fun j_ : Nat => decide (0 < mI m 31 (186 + 121 * j_))) i = true := by
          have e_ : mI m 31 (186 + 121 * (i : Int)).toNat = mI m 31 (186 + 121 * i) := by rw [show (186 + 121 * (i : Int)).toNat = 186 + 121 * i from by omega]
          exact decide_eq_true (by omega)
        skip
        have h_ := ih (i + 1) (by omega)
        rw [← mskF_y (f := (fun j_ : Nat => decide (0 < mI m 31 (186 + 121 * j_)))) (i := i) hf_] at h_
        exact h_

set_option maxHeartbeats 4000000 in
theorem L_rinr {F : Nat} {m0 m : Mem} {post : Option AV → Mem → Prop} {k : Int} {n : Nat} (hL : Lay (mT m) (mR m)) (hM : MatR m) (hn : (n : Int) = mI m 31 64) (hn3 : n ≤ 32) (kx : V μX11_told (F + 32) m0 post 203 [(4, vi ((n : Nat) : Int)), (3, vi (cn0 (fun i_ : Nat => covF (fun j_ : Nat => labR m (j_ : Int) (i_ : Int)) (mI m 31 3336).toNat) n)), (1, vi k), (0, vr 30)] [] m) : ∀ (dd i : Nat), dd + i = n → V μX11_told (F + 32) m0 post 171 [(4, vi ((i : Nat) : Int)), (3, vi (cn0 (fun i_ : Nat => covF (fun j_ : Nat => labR m (j_ : Int) (i_ : Int)) (mI m 31 3336).toNat) i)), (1, vi k), (0, vr 30)] [] m := by
  intro dd
  induction dd with
  | zero =>
    intro i hi
    obtain rfl : n = i := by omega
    have hb_ := cn0_bd (g := (fun i_ : Nat => covF (fun j_ : Nat => labR m (j_ : Int) (i_ : Int)) (mI m 31 3336).toNat)) n
    refine V_ld (pc := 171) dX11_told_171 (v := vi ((n : Nat) : Int)) rfl rfl ?_
    refine V_ld (pc := 173) dX11_told_173 (v := vr 30) rfl rfl ?_
    refine V_callV (pc := 174) dX11_told_174 (F' := 0) (As := []) (st := [vi ((n : Nat) : Int)]) cw_RX11_97 rfl rfl hL.t30 (by decide) (Nat.le_of_ble_eq_true rfl) (by omega) (r_many  m    (by first | assumption | omega)) ?_
    rintro _ _ ⟨x174, rfl, hx174, rfl⟩ ok174 le174
    obtain rfl : x174 = mI m 31 64 := hx174.trans rfl
    refine V_icmp_ge (pc := 177) dX11_told_177 (tgt := 203) rfl (fun h177 => ?_) (fun h177 => ?_)
    · skip
      first | exact kx | (skip; exact kx) | (exfalso; omega)
    · skip
      refine V_ld (pc := 180) dX11_told_180 (v := vi (cn0 (fun i_ : Nat => covF (fun j_ : Nat => labR m (j_ : Int) (i_ : Int)) (mI m 31 3336).toNat) n)) rfl rfl ?_
      refine V_ld (pc := 181) dX11_told_181 (v := vr 30) rfl rfl ?_
      refine V_ld (pc := 182) dX11_told_182 (v := vi ((n : Nat) : Int)) rfl rfl ?_
      refine V_callV (pc := 184) dX11_told_184 (F' := 2) (As := [vi ((n : Nat) : Int)]) (st := [vi (cn0 (fun i_ : Nat => covF (fun j_ : Nat => labR m (j_ : Int) (i_ : Int)) (mI m 31 3336).toNat) n)]) cw_RX11_391 rfl rfl hL.t30 (by decide) (Nat.le_of_ble_eq_true rfl) (by omega) (r_in  m ((n : Nat) : Int)   (by first | assumption | omega) hM (by omega)) ?_
      rintro _ _ ⟨x184, rfl, hx184, rfl⟩ ok184 le184
      refine V_if_ne (pc := 187) dX11_told_187 (tgt := 194) rfl (fun h187 => ?_) (fun h187 => ?_)
      · skip
        refine V_iconst (pc := 194) dX11_told_194 (by unfold I32; omega) ?_
        exfalso; omega
      · skip
        refine V_iconst (pc := 190) dX11_told_190 (by unfold I32; omega) ?_
        refine V_goto (pc := 191) dX11_told_191 (tgt := 195) rfl ?_
        exfalso; omega
  | succ dd ih =>
    intro i hi
    have hb_ := cn0_bd (g := (fun i_ : Nat => covF (fun j_ : Nat => labR m (j_ : Int) (i_ : Int)) (mI m 31 3336).toNat)) i
    refine V_ld (pc := 171) dX11_told_171 (v := vi ((i : Nat) : Int)) rfl rfl ?_
    refine V_ld (pc := 173) dX11_told_173 (v := vr 30) rfl rfl ?_
    refine V_callV (pc := 174) dX11_told_174 (F' := 0) (As := []) (st := [vi ((i : Nat) : Int)]) cw_RX11_97 rfl rfl hL.t30 (by decide) (Nat.le_of_ble_eq_true rfl) (by omega) (r_many  m    (by first | assumption | omega)) ?_
    rintro _ _ ⟨x174, rfl, hx174, rfl⟩ ok174 le174
    obtain rfl : x174 = mI m 31 64 := hx174.trans rfl
    refine V_icmp_ge (pc := 177) dX11_told_177 (tgt := 203) rfl (fun h177 => ?_) (fun h177 => ?_)
    · skip
      exfalso; omega
    · skip
      refine V_ld (pc := 180) dX11_told_180 (v := vi (cn0 (fun i_ : Nat => covF (fun j_ : Nat => labR m (j_ : Int) (i_ : Int)) (mI m 31 3336).toNat) i)) rfl rfl ?_
      refine V_ld (pc := 181) dX11_told_181 (v := vr 30) rfl rfl ?_
      refine V_ld (pc := 182) dX11_told_182 (v := vi ((i : Nat) : Int)) rfl rfl ?_
      refine V_callV (pc := 184) dX11_told_184 (F' := 2) (As := [vi ((i : Nat) : Int)]) (st := [vi (cn0 (fun i_ : Nat => covF (fun j_ : Nat => labR m (j_ : Int) (i_ : Int)) (mI m 31 3336).toNat) i)]) cw_RX11_391 rfl rfl hL.t30 (by decide) (Nat.le_of_ble_eq_true rfl) (by omega) (r_in  m ((i : Nat) : Int)   (by first | assumption | omega) hM (by omega)) ?_
      rintro _ _ ⟨x184, rfl, hx184, rfl⟩ ok184 le184
      refine V_if_ne (pc := 187) dX11_told_187 (tgt := 194) rfl (fun h187 => ?_) (fun h187 => ?_)
      · skip
        refine V_iconst (pc := 194) dX11_told_194 (by unfold I32; omega) ?_
        refine V_iadd (pc := 195) dX11_told_195 (by unfold I32 at *; omega) ?_
        refine V_st (pc := 196) dX11_told_196 (ls' := [(3, vi ((cn0 (fun i_ : Nat => covF (fun j_ : Nat => labR m (j_ : Int) (i_ : Int)) (mI m 31 3336).toNat) i) + 0)), (4, vi ((i : Nat) : Int)), (1, vi k), (0, vr 30)]) rfl (Nat.le_of_ble_eq_true rfl) rfl ?_
        refine V_iinc (pc := 197) dX11_told_197 (x := ((i : Nat) : Int)) (ls' := [(4, vi (((i : Nat) : Int) + 1)), (3, vi ((cn0 (fun i_ : Nat => covF (fun j_ : Nat => labR m (j_ : Int) (i_ : Int)) (mI m 31 3336).toNat) i) + 0)), (1, vi k), (0, vr 30)]) rfl (by unfold I32 at *; omega) (Nat.le_of_ble_eq_true rfl) rfl ?_
        refine V_goto (pc := 200) dX11_told_200 (tgt := 171) rfl ?_
        rw [Int.add_zero]
        have hg_ : ¬ (fun i_ : Nat => covF (fun j_ : Nat => labR m (j_ : Int) (i_ : Int)) (mI m 31 3336).toNat) i = 0 := by
          show ¬ covF (fun j_ : Nat => labR m (j_ : Int) (i : Int)) (mI m 31 3336).toNat = 0
          omega
        skip
        have h_ := ih (i + 1) (by omega)
        rw [← cn0_n (g := (fun i_ : Nat => covF (fun j_ : Nat => labR m (j_ : Int) (i_ : Int)) (mI m 31 3336).toNat)) (i := i) hg_] at h_
        exact h_
      · skip
        refine V_iconst (pc := 190) dX11_told_190 (by unfold I32; omega) ?_
        refine V_goto (pc := 191) dX11_told_191 (tgt := 195) rfl ?_
        refine V_iadd (pc := 195) dX11_told_195 (by unfold I32 at *; omega) ?_
        refine V_st (pc := 196) dX11_told_196 (ls' := [(3, vi ((cn0 (fun i_ : Nat => covF (fun j_ : Nat => labR m (j_ : Int) (i_ : Int)) (mI m 31 3336).toNat) i) + 1)), (4, vi ((i : Nat) : Int)), (1, vi k), (0, vr 30)]) rfl (Nat.le_of_ble_eq_true rfl) rfl ?_
        refine V_iinc (pc := 197) dX11_told_197 (x := ((i : Nat) : Int)) (ls' := [(4, vi (((i : Nat) : Int) + 1)), (3, vi ((cn0 (fun i_ : Nat => covF (fun j_ : Nat => labR m (j_ : Int) (i_ : Int)) (mI m 31 3336).toNat) i) + 1)), (1, vi k), (0, vr 30)]) rfl (by unfold I32 at *; omega) (Nat.le_of_ble_eq_true rfl) rfl ?_
        refine V_goto (pc := 200) dX11_told_200 (tgt := 171) rfl ?_
        have hg_ : (fun i_ : Nat => covF (fun j_ : Nat => labR m (j_ : Int) (i_ : Int)) (mI m 31 3336).toNat) i = 0 := by
          show covF (fun j_ : Nat => labR m (j_ : Int) (i : Int)) (mI m 31 3336).toNat = 0
          omega
        skip
        have h_ := ih (i + 1) (by omega)
        rw [← cn0_y (g := (fun i_ : Nat => covF (fun j_ : Nat => labR m (j_ : Int) (i_ : Int)) (mI m 31 3336).toNat)) (i := i) hg_] at h_
        exact h_

set_option maxHeartbeats 4000000 in
theorem r_told (tx : Nat → Int) (n : Nat) (m : Mem) (k : Int)   (hL : Lay (mT m) (mR m)) (ht : mI m 31 65 = (n : Int) ∧ n ≤ 120) (htx : txR (mI m) 31 66 tx n) (hv : n ≠ 0 → PatW tx n) (hM : MatR m) (hz : 0 ≤ mI m 31 64 ∧ mI m 31 64 ≤ 32) : Ct μX11_told 33 [vr 30, vi k] m (ri fun x_ m' => ∃ I_ : Nat → Nat → Int, wI m I_ = m' ∧ (x_ = toldV (fun i_ : Nat => match i_ with | 0 => mI m 31 64 | 1 => if n = 0 then 0 else ((altL tx n 5 S0).2.2.2.1 : Int) | 2 => mI m 31 3336 | 3 => mI m 31 3332 | 4 => mI m 31 3333 | 5 => mI m 31 3334 | 6 => mI m 31 3335 | 7 => mskF (fun j_ : Nat => decide (0 < mI m 31 (186 + 121 * j_))) 26 | 8 => cn0 (fun i_ : Nat => covF (fun j_ : Nat => labR m (j_ : Int) (i_ : Int)) (mI m 31 3336).toNat) (mI m 31 64).toNat | _ => mI m 30 4) k) ∧ RFq (mI m) I_) := by
  refine Ct_of_V rfl (by decide) rfl (Nat.le_of_ble_eq_true rfl) ?_
  show V μX11_told 33 m _ 0 [(0, vr 30), (1, vi k)] [] m
  refine V_rg (k := 1) (x := k) rfl fun r_k => ?_
  refine V_ld (pc := 0) dX11_told_0 (v := vi k) rfl rfl ?_
  by_cases h1_0 : k = 0
  · skip
    refine V_tsIn (pc := 1) dX11_told_1 (cx := 0) (off := 55) (tgt := 56) h1_0 (by omega) rfl rfl ?_
    refine V_ld (pc := 56) dX11_told_56 (v := vr 30) rfl rfl ?_
    refine V_callV (pc := 57) dX11_told_57 (F' := 0) (As := []) (st := []) cw_RX11_97 rfl rfl hL.t30 (by decide) (Nat.le_of_ble_eq_true rfl) (by omega) (r_many  m    (by first | assumption | omega)) ?_
    rintro _ _ ⟨x57, rfl, hx57, rfl⟩ ok57 le57
    obtain rfl : x57 = mI m 31 64 := hx57.trans rfl
    refine V_reti (pc := 60) dX11_told_60 trivial ?_
    refine ⟨mI m, rfl, ?_, (fun _ _ _ _ => rfl)⟩
    first
      | (exfalso; omega)
      | exact (toldV_n (by omega)).symm
      | exact toldV_r 0 (by omega) (by decide) rfl
      | exact toldV_r 1 (by omega) (by decide) rfl
      | exact toldV_r 2 (by omega) (by decide) rfl
      | exact toldV_r 3 (by omega) (by decide) rfl
      | exact toldV_r 4 (by omega) (by decide) rfl
      | exact toldV_r 5 (by omega) (by decide) rfl
      | exact toldV_r 6 (by omega) (by decide) rfl
      | exact toldV_r 7 (by omega) (by decide) rfl
      | exact toldV_r 8 (by omega) (by decide) rfl
      | exact toldV_r 9 (by omega) (by decide) rfl
  by_cases h1_1 : k = 1
  · skip
    refine V_tsIn (pc := 1) dX11_told_1 (cx := 1) (off := 60) (tgt := 61) h1_1 (by omega) rfl rfl ?_
    refine V_ld (pc := 61) dX11_told_61 (v := vr 30) rfl rfl ?_
    refine V_callV (pc := 62) dX11_told_62 (F' := 32) (As := []) (st := []) cw_RX11_195 rfl rfl hL.t30 (by decide) (Nat.le_of_ble_eq_true rfl) (by omega) (r_isRead tx n m    (by first | assumption | omega) ht htx) ?_
    rintro _ _ ⟨x62, rfl, Ix62, rfl, hx62, hF62, hP62⟩ ok62 le62
    have hcn : 0 < n → mI (wI m Ix62) 30 9 = ((altL tx n 5 S0).2.2.2.1 : Int) := fun h_ => (hP62 h_).2.2.2.1
    refine V_if_eq (pc := 65) dX11_told_65 (tgt := 75) rfl (fun h65 => ?_) (fun h65 => ?_)
    · skip
      refine V_iconst (pc := 75) dX11_told_75 (by unfold I32; omega) ?_
      refine V_reti (pc := 76) dX11_told_76 trivial ?_
      refine ⟨mI (wI m Ix62), rfl, ?_, hF62⟩
      first
        | (exfalso; omega)
        | (refine toldV_r 1 (by omega) (by decide) ?_
           show _ = (if n = 0 then 0 else _)
           omega)
    · skip
      refine V_ld (pc := 68) dX11_told_68 (v := vr 30) rfl rfl ?_
      refine V_getIv (pc := 69) dX11_told_69 (v := mI (wI m Ix62) 30 9) fw_RX11_139 rfl hL.t30 rfl (fun g69 => ?_)
      refine V_goto (pc := 72) dX11_told_72 (tgt := 76) rfl ?_
      refine V_reti (pc := 76) dX11_told_76 trivial ?_
      refine ⟨mI (wI m Ix62), rfl, ?_, hF62⟩
      first
        | (exfalso; omega)
        | (refine toldV_r 1 (by omega) (by decide) ?_
           show _ = (if n = 0 then 0 else _)
           omega)
  by_cases h1_2 : k = 2
  · skip
    refine V_tsIn (pc := 1) dX11_told_1 (cx := 2) (off := 76) (tgt := 77) h1_2 (by omega) rfl rfl ?_
    refine V_ld (pc := 77) dX11_told_77 (v := vr 30) rfl rfl ?_
    refine V_getRv (pc := 78) dX11_told_78 (o' := 31) fw_RX11_9 rfl hL.t30 hL.r30_0 ?_
    refine V_sipush (pc := 81) dX11_told_81 (by unfold I32; omega) (by decide) ?_
    refine V_ialdv (pc := 84) dX11_told_84 (v := mI m 31 3336) hL.t31 (by omega) rfl (fun g84 => ?_)
    refine V_reti (pc := 85) dX11_told_85 trivial ?_
    refine ⟨mI m, rfl, ?_, (fun _ _ _ _ => rfl)⟩
    first
      | (exfalso; omega)
      | exact (toldV_n (by omega)).symm
      | exact toldV_r 0 (by omega) (by decide) rfl
      | exact toldV_r 1 (by omega) (by decide) rfl
      | exact toldV_r 2 (by omega) (by decide) rfl
      | exact toldV_r 3 (by omega) (by decide) rfl
      | exact toldV_r 4 (by omega) (by decide) rfl
      | exact toldV_r 5 (by omega) (by decide) rfl
      | exact toldV_r 6 (by omega) (by decide) rfl
      | exact toldV_r 7 (by omega) (by decide) rfl
      | exact toldV_r 8 (by omega) (by decide) rfl
      | exact toldV_r 9 (by omega) (by decide) rfl
  by_cases h1_3 : k = 3
  · skip
    refine V_tsIn (pc := 1) dX11_told_1 (cx := 3) (off := 85) (tgt := 86) h1_3 (by omega) rfl rfl ?_
    refine V_ld (pc := 86) dX11_told_86 (v := vr 30) rfl rfl ?_
    refine V_getRv (pc := 87) dX11_told_87 (o' := 31) fw_RX11_9 rfl hL.t30 hL.r30_0 ?_
    refine V_sipush (pc := 90) dX11_told_90 (by unfold I32; omega) (by decide) ?_
    refine V_ialdv (pc := 93) dX11_told_93 (v := mI m 31 3332) hL.t31 (by omega) rfl (fun g93 => ?_)
    refine V_reti (pc := 94) dX11_told_94 trivial ?_
    refine ⟨mI m, rfl, ?_, (fun _ _ _ _ => rfl)⟩
    first
      | (exfalso; omega)
      | exact (toldV_n (by omega)).symm
      | exact toldV_r 0 (by omega) (by decide) rfl
      | exact toldV_r 1 (by omega) (by decide) rfl
      | exact toldV_r 2 (by omega) (by decide) rfl
      | exact toldV_r 3 (by omega) (by decide) rfl
      | exact toldV_r 4 (by omega) (by decide) rfl
      | exact toldV_r 5 (by omega) (by decide) rfl
      | exact toldV_r 6 (by omega) (by decide) rfl
      | exact toldV_r 7 (by omega) (by decide) rfl
      | exact toldV_r 8 (by omega) (by decide) rfl
      | exact toldV_r 9 (by omega) (by decide) rfl
  by_cases h1_4 : k = 4
  · skip
    refine V_tsIn (pc := 1) dX11_told_1 (cx := 4) (off := 94) (tgt := 95) h1_4 (by omega) rfl rfl ?_
    refine V_ld (pc := 95) dX11_told_95 (v := vr 30) rfl rfl ?_
    refine V_getRv (pc := 96) dX11_told_96 (o' := 31) fw_RX11_9 rfl hL.t30 hL.r30_0 ?_
    refine V_sipush (pc := 99) dX11_told_99 (by unfold I32; omega) (by decide) ?_
    refine V_ialdv (pc := 102) dX11_told_102 (v := mI m 31 3333) hL.t31 (by omega) rfl (fun g102 => ?_)
    refine V_reti (pc := 103) dX11_told_103 trivial ?_
    refine ⟨mI m, rfl, ?_, (fun _ _ _ _ => rfl)⟩
    first
      | (exfalso; omega)
      | exact (toldV_n (by omega)).symm
      | exact toldV_r 0 (by omega) (by decide) rfl
      | exact toldV_r 1 (by omega) (by decide) rfl
      | exact toldV_r 2 (by omega) (by decide) rfl
      | exact toldV_r 3 (by omega) (by decide) rfl
      | exact toldV_r 4 (by omega) (by decide) rfl
      | exact toldV_r 5 (by omega) (by decide) rfl
      | exact toldV_r 6 (by omega) (by decide) rfl
      | exact toldV_r 7 (by omega) (by decide) rfl
      | exact toldV_r 8 (by omega) (by decide) rfl
      | exact toldV_r 9 (by omega) (by decide) rfl
  by_cases h1_5 : k = 5
  · skip
    refine V_tsIn (pc := 1) dX11_told_1 (cx := 5) (off := 103) (tgt := 104) h1_5 (by omega) rfl rfl ?_
    refine V_ld (pc := 104) dX11_told_104 (v := vr 30) rfl rfl ?_
    refine V_getRv (pc := 105) dX11_told_105 (o' := 31) fw_RX11_9 rfl hL.t30 hL.r30_0 ?_
    refine V_sipush (pc := 108) dX11_told_108 (by unfold I32; omega) (by decide) ?_
    refine V_ialdv (pc := 111) dX11_told_111 (v := mI m 31 3334) hL.t31 (by omega) rfl (fun g111 => ?_)
    refine V_reti (pc := 112) dX11_told_112 trivial ?_
    refine ⟨mI m, rfl, ?_, (fun _ _ _ _ => rfl)⟩
    first
      | (exfalso; omega)
      | exact (toldV_n (by omega)).symm
      | exact toldV_r 0 (by omega) (by decide) rfl
      | exact toldV_r 1 (by omega) (by decide) rfl
      | exact toldV_r 2 (by omega) (by decide) rfl
      | exact toldV_r 3 (by omega) (by decide) rfl
      | exact toldV_r 4 (by omega) (by decide) rfl
      | exact toldV_r 5 (by omega) (by decide) rfl
      | exact toldV_r 6 (by omega) (by decide) rfl
      | exact toldV_r 7 (by omega) (by decide) rfl
      | exact toldV_r 8 (by omega) (by decide) rfl
      | exact toldV_r 9 (by omega) (by decide) rfl
  by_cases h1_6 : k = 6
  · skip
    refine V_tsIn (pc := 1) dX11_told_1 (cx := 6) (off := 112) (tgt := 113) h1_6 (by omega) rfl rfl ?_
    refine V_ld (pc := 113) dX11_told_113 (v := vr 30) rfl rfl ?_
    refine V_getRv (pc := 114) dX11_told_114 (o' := 31) fw_RX11_9 rfl hL.t30 hL.r30_0 ?_
    refine V_sipush (pc := 117) dX11_told_117 (by unfold I32; omega) (by decide) ?_
    refine V_ialdv (pc := 120) dX11_told_120 (v := mI m 31 3335) hL.t31 (by omega) rfl (fun g120 => ?_)
    refine V_reti (pc := 121) dX11_told_121 trivial ?_
    refine ⟨mI m, rfl, ?_, (fun _ _ _ _ => rfl)⟩
    first
      | (exfalso; omega)
      | exact (toldV_n (by omega)).symm
      | exact toldV_r 0 (by omega) (by decide) rfl
      | exact toldV_r 1 (by omega) (by decide) rfl
      | exact toldV_r 2 (by omega) (by decide) rfl
      | exact toldV_r 3 (by omega) (by decide) rfl
      | exact toldV_r 4 (by omega) (by decide) rfl
      | exact toldV_r 5 (by omega) (by decide) rfl
      | exact toldV_r 6 (by omega) (by decide) rfl
      | exact toldV_r 7 (by omega) (by decide) rfl
      | exact toldV_r 8 (by omega) (by decide) rfl
      | exact toldV_r 9 (by omega) (by decide) rfl
  by_cases h1_7 : k = 7
  · skip
    refine V_tsIn (pc := 1) dX11_told_1 (cx := 7) (off := 121) (tgt := 122) h1_7 (by omega) rfl rfl ?_
    refine V_iconst (pc := 122) dX11_told_122 (by unfold I32; omega) ?_
    refine V_st (pc := 123) dX11_told_123 (ls' := [(2, vi 0), (0, vr 30), (1, vi k)]) rfl (Nat.le_of_ble_eq_true rfl) rfl ?_
    refine V_iconst (pc := 124) dX11_told_124 (by unfold I32; omega) ?_
    refine V_st (pc := 125) dX11_told_125 (ls' := [(3, vi 0), (2, vi 0), (0, vr 30), (1, vi k)]) rfl (Nat.le_of_ble_eq_true rfl) rfl ?_
    refine V_ls (ls' := [(3, vi 0), (2, vi 0), (1, vi k), (0, vr 30)]) (by intro q_ h_; simp only [List.mem_cons, List.not_mem_nil, or_false] at h_ ⊢; rcases h_ with rfl | rfl | rfl | rfl <;> simp) ?_
    refine L_rlwc (m := m) hL ?_ 26 0 (by omega)
    refine V_ld (pc := 164) dX11_told_164 (v := vi (mskF (fun j_ : Nat => decide (0 < mI m 31 (186 + 121 * j_))) 26)) rfl rfl ?_
    refine V_reti (pc := 165) dX11_told_165 trivial ?_
    refine ⟨mI m, rfl, ?_, (fun _ _ _ _ => rfl)⟩
    first
      | (exfalso; omega)
      | exact (toldV_n (by omega)).symm
      | exact toldV_r 0 (by omega) (by decide) rfl
      | exact toldV_r 1 (by omega) (by decide) rfl
      | exact toldV_r 2 (by omega) (by decide) rfl
      | exact toldV_r 3 (by omega) (by decide) rfl
      | exact toldV_r 4 (by omega) (by decide) rfl
      | exact toldV_r 5 (by omega) (by decide) rfl
      | exact toldV_r 6 (by omega) (by decide) rfl
      | exact toldV_r 7 (by omega) (by decide) rfl
      | exact toldV_r 8 (by omega) (by decide) rfl
      | exact toldV_r 9 (by omega) (by decide) rfl
  by_cases h1_8 : k = 8
  · skip
    refine V_tsIn (pc := 1) dX11_told_1 (cx := 8) (off := 165) (tgt := 166) h1_8 (by omega) rfl rfl ?_
    refine V_iconst (pc := 166) dX11_told_166 (by unfold I32; omega) ?_
    refine V_st (pc := 167) dX11_told_167 (ls' := [(3, vi 0), (0, vr 30), (1, vi k)]) rfl (Nat.le_of_ble_eq_true rfl) rfl ?_
    refine V_iconst (pc := 168) dX11_told_168 (by unfold I32; omega) ?_
    refine V_st (pc := 169) dX11_told_169 (ls' := [(4, vi 0), (3, vi 0), (0, vr 30), (1, vi k)]) rfl (Nat.le_of_ble_eq_true rfl) rfl ?_
    refine V_ls (ls' := [(4, vi 0), (3, vi 0), (1, vi k), (0, vr 30)]) (by intro q_ h_; simp only [List.mem_cons, List.not_mem_nil, or_false] at h_ ⊢; rcases h_ with rfl | rfl | rfl | rfl <;> simp) ?_
    refine L_rinr (F := 1) (m := m) (n := (mI m 31 64).toNat) hL hM (by omega) (by omega) ?_ (mI m 31 64).toNat 0 (by omega)
    refine V_ld (pc := 203) dX11_told_203 (v := vi (cn0 (fun i_ : Nat => covF (fun j_ : Nat => labR m (j_ : Int) (i_ : Int)) (mI m 31 3336).toNat) ((mI m 31 64).toNat))) rfl rfl ?_
    refine V_reti (pc := 204) dX11_told_204 trivial ?_
    refine ⟨mI m, rfl, ?_, (fun _ _ _ _ => rfl)⟩
    first
      | (exfalso; omega)
      | exact (toldV_n (by omega)).symm
      | exact toldV_r 0 (by omega) (by decide) rfl
      | exact toldV_r 1 (by omega) (by decide) rfl
      | exact toldV_r 2 (by omega) (by decide) rfl
      | exact toldV_r 3 (by omega) (by decide) rfl
      | exact toldV_r 4 (by omega) (by decide) rfl
      | exact toldV_r 5 (by omega) (by decide) rfl
      | exact toldV_r 6 (by omega) (by decide) rfl
      | exact toldV_r 7 (by omega) (by decide) rfl
      | exact toldV_r 8 (by omega) (by decide) rfl
      | exact toldV_r 9 (by omega) (by decide) rfl
  by_cases h1_9 : k = 9
  · skip
    refine V_tsIn (pc := 1) dX11_told_1 (cx := 9) (off := 204) (tgt := 205) h1_9 (by omega) rfl rfl ?_
    refine V_ld (pc := 205) dX11_told_205 (v := vr 30) rfl rfl ?_
    refine V_getIv (pc := 206) dX11_told_206 (v := mI m 30 4) fw_RX11_118 rfl hL.t30 rfl (fun g206 => ?_)
    refine V_reti (pc := 209) dX11_told_209 trivial ?_
    refine ⟨mI m, rfl, ?_, (fun _ _ _ _ => rfl)⟩
    first
      | (exfalso; omega)
      | exact (toldV_n (by omega)).symm
      | exact toldV_r 0 (by omega) (by decide) rfl
      | exact toldV_r 1 (by omega) (by decide) rfl
      | exact toldV_r 2 (by omega) (by decide) rfl
      | exact toldV_r 3 (by omega) (by decide) rfl
      | exact toldV_r 4 (by omega) (by decide) rfl
      | exact toldV_r 5 (by omega) (by decide) rfl
      | exact toldV_r 6 (by omega) (by decide) rfl
      | exact toldV_r 7 (by omega) (by decide) rfl
      | exact toldV_r 8 (by omega) (by decide) rfl
      | exact toldV_r 9 (by omega) (by decide) rfl
  refine V_tsOut (pc := 1) dX11_told_1 (tgt := 210) (by omega) rfl ?_
  refine V_iconst (pc := 210) dX11_told_210 (by unfold I32; omega) ?_
  refine V_reti (pc := 211) dX11_told_211 trivial ?_
  refine ⟨mI m, rfl, ?_, (fun _ _ _ _ => rfl)⟩
  first
    | (exfalso; omega)
    | exact (toldV_n (by omega)).symm
    | exact toldV_r 0 (by omega) (by decide) rfl
    | exact toldV_r 1 (by omega) (by decide) rfl
    | exact toldV_r 2 (by omega) (by decide) rfl
    | exact toldV_r 3 (by omega) (by decide) rfl
    | exact toldV_r 4 (by omega) (by decide) rfl
    | exact toldV_r 5 (by omega) (by decide) rfl
    | exact toldV_r 6 (by omega) (by decide) rfl
    | exact toldV_r 7 (by omega) (by decide) rfl
    | exact toldV_r 8 (by omega) (by decide) rfl
    | exact toldV_r 9 (by omega) (by decide) rfl
