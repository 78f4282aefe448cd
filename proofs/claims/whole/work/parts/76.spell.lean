/-! spell(): the class writes a part, all levels -/
theorem Pth.cnt {F : Tb} {a b : Int} : ∀ {q : Nat} {k l : Int}, Pth F a b q k l → (q : Int) ≤ b - k
  | 0, _, _, h => h.elim
  | 1, k, l, h => by obtain ⟨rfl, h1, h2⟩ := h; omega
  | q + 2, k, l, h => by
    obtain ⟨h1, h2, h3, h4⟩ := h
    have i := Pth.cnt h4
    omega
theorem qLen_p {lo hi mo : Int} : 1 ≤ qLen lo hi mo := by
  unfold qLen
  have a : 0 ≤ (if mo = 0 then 1 else 0 : Int) := by split <;> omega
  have b : 1 ≤ (if 9 < lo then 2 else 1 : Int) := by split <;> omega
  have c : 0 ≤ (if hi = lo then 0 else if hi = 100 then 1 else 1 + (if 9 < hi then 2 else 1) : Int) := by
    split
    · omega
    · split
      · omega
      · split <;> omega
  split
  · omega
  · split <;> omega
/-- what a part with others in it has -/
theorem inn_fact {T : Tb} {c f p : Nat} (hW : WfT T 0 c) (hp : p < c) (hh : T p 10 < (f : Int) + 1) (h3 : 3 ≤ T p 0) : T p 2 = ((T p 2).toNat : Int) ∧ (T p 2).toNat ≤ c ∧ (∃ l, Pth T ((0 : Nat) : Int) (p : Int) (T p 2).toNat (T p 7) l ∧ T l.toNat 8 = -5) ∧ mxC T 10 (T p 2).toNat (T p 7) < (f : Int) ∧ T p 0 ≤ 6 ∧ (T p 0 = 6 → (((kidS T (splF T f) (T p 0) true (T p 2).toNat (T p 7)).length : Nat) : Int) + 3 = T p 11) ∧ (T p 0 = 5 → (((kidS T (splF T f) (T p 0) true (T p 2).toNat (T p 7)).length : Nat) : Int) + qLen (T p 3) (T p 4) (T p 5) = T p 11 ∧ 1 ≤ qLen (T p 3) (T p 4) (T p 5)) ∧ (T p 0 ≤ 4 → (((kidS T (splF T f) (T p 0) true (T p 2).toNat (T p 7)).length : Nat) : Int) = T p 11) ∧ (T p 0 = 5 → 0 ≤ T p 3 ∧ T p 3 ≤ 99 ∧ 1 ≤ T p 4 ∧ T p 4 ≤ 100 ∧ T p 3 ≤ T p 4 ∧ (T p 5 = 0 ∨ T p 5 = 1)) := by
  have hlen := splF_len hW (f + 1) p hp (by omega)
  rcases hW p (Nat.zero_le _) hp with e | e
  · have := e.1.2; omega
  · obtain ⟨q, l, i1, i2, i3, i4, i5, i6, i7, i8, i9, i10, i11, i12⟩ := e
    have hq : (T p 2).toNat = q := by omega
    have hc := Pth.cnt i4
    have hbd := Pth.bd i4
    rw [hq]
    unfold splF at hlen
    rw [if_neg (by omega), if_neg (by omega), if_neg (by omega), hq] at hlen
    simp only [List.length_append, Int.natCast_add] at hlen
    refine ⟨i2, by omega, ⟨l, i4, i5⟩, by omega, i1.2, fun h => ?_, fun h => ?_, fun h => ?_, fun h => (i10 h).2⟩
    · rw [if_pos h, if_pos h, if_neg (by omega)] at hlen
      simp only [List.length_cons, List.length_nil] at hlen
      omega
    · rw [if_neg (by omega), if_neg (by omega), if_pos h, qS_len] at hlen
      simp only [List.length_nil] at hlen
      exact ⟨by omega, qLen_p⟩
    · rw [if_neg (by omega), if_neg (by omega), if_neg (by omega)] at hlen
      simp only [List.length_nil] at hlen
      omega
theorem lef_fact {T : Tb} {c p : Nat} (hW : WfT T 0 c) (hp : p < c) (h3 : T p 0 < 3) : 0 ≤ T p 0 ∧ T p 11 = 1 ∧ T p 7 = -5 ∧ (T p 0 = 0 → 0 ≤ T p 1 ∧ T p 1 ≤ 25) := by
  rcases hW p (Nat.zero_le _) hp with e | e
  · exact ⟨e.1.1, e.2.2.2.2.2.2, e.2.2.2.1, e.2.1⟩
  · obtain ⟨q, l, i1, i2⟩ := e
    omega
theorem splF_0 {T : Tb} {f p : Nat} (h : T p 0 = 0) : splF T (f + 1) p = [65 + T p 1] := by unfold splF; rw [if_pos h]
theorem splF_1 {T : Tb} {f p : Nat} (h : T p 0 = 1) : splF T (f + 1) p = [94] := by unfold splF; rw [if_neg (by omega), if_pos h]
theorem splF_2 {T : Tb} {f p : Nat} (h : T p 0 = 2) : splF T (f + 1) p = [36] := by unfold splF; rw [if_neg (by omega), if_neg (by omega), if_pos h]
theorem splF_6 {T : Tb} {f p : Nat} (h : T p 0 = 6) : splF T (f + 1) p = [37] ++ ([40] ++ (kidS T (splF T f) (T p 0) true (T p 2).toNat (T p 7) ++ [41])) := by
  unfold splF; rw [if_neg (by omega), if_neg (by omega), if_neg (by omega), if_pos h, if_pos h, if_neg (by omega)]; simp only [List.append_nil, List.cons_append, List.nil_append]
theorem splF_5 {T : Tb} {f p : Nat} (h : T p 0 = 5) : splF T (f + 1) p = kidS T (splF T f) (T p 0) true (T p 2).toNat (T p 7) ++ qS (T p 3) (T p 4) (T p 5) := by
  unfold splF; rw [if_neg (by omega), if_neg (by omega), if_neg (by omega), if_neg (by omega), if_neg (by omega), if_pos h]; simp only [List.nil_append]
theorem splF_34 {T : Tb} {f p : Nat} (h : T p 0 = 3 ∨ T p 0 = 4) : splF T (f + 1) p = kidS T (splF T f) (T p 0) true (T p 2).toNat (T p 7) := by
  unfold splF; rw [if_neg (by omega), if_neg (by omega), if_neg (by omega), if_neg (by omega), if_neg (by omega), if_neg (by omega)]; simp only [List.nil_append, List.append_nil]
theorem sepS_c {o : Int} (h : o = 3 ∨ o = 5) : sepS o = [] := by unfold sepS; rw [if_neg (by omega), if_neg (by omega)]

set_option maxHeartbeats 16000000 in
theorem c_writeS (L : Nat) (T : Tb) (c : Nat) (f : Nat) (m : Mem) (P : Nat) (p : Int) (d : Int) (A : Nat)  (hL : Lay (mT m) (mR m)) (T_P : mT m P = (4, 2)) (R_P_0 : mR m P 0 = some A) (T_A : mT m A = (20, L)) (hc : mI m P 1 = (c : Int) ∧ c * 9 ≤ L ∧ L ≤ 2160) (hT : CTab (mI m) A T c) (hp : 0 ≤ p ∧ p < (c : Int)) (h59 : 59 ≤ P ∧ 59 ≤ A) (hW : WfT T 0 c ∧ CWr L T c f) (hh : T p.toNat 10 < (f : Int) + 1) (hd : 0 ≤ d ∧ d + 1 + (f : Int) ≤ 41) (hr : 0 ≤ mI m 15 1 ∧ mI m 15 1 + T p.toNat 11 ≤ 120) : Ct μX4_writePart (2 * f + 4) [vr P, vi p, vr 15, vi d] m (rv fun m' => apM 15 1 16 m (splF T (f + 1) p.toNat) = m') := by
  refine Ct_of_V rfl (by decide) rfl (Nat.le_of_ble_eq_true rfl) ?_
  show V μX4_writePart (2 * f + 4) m _ 0 [(0, vr P), (1, vi p), (2, vr 15), (3, vi d)] [] m
  refine V_rg (k := 1) (x := p) rfl fun r_p => ?_
  refine V_rg (k := 3) (x := d) rfl fun r_d => ?_
  have hp_ : p.toNat < c := by omega
  have hI := fun h => inn_fact (f := f) hW.1 hp_ hh h
  have hE := fun h => lef_fact hW.1 hp_ h
  have h3_ : T p.toNat 0 < 3 ∨ 3 ≤ T p.toNat 0 := by omega
  refine V_ld (pc := 0) dX4_writePart_0 (v := vi d) rfl rfl ?_
  refine V_bipush (pc := 1) dX4_writePart_1 (by unfold I32; omega) (by decide) ?_
  refine V_icmp_le (pc := 3) dX4_writePart_3 (tgt := 7) rfl (fun h3 => ?_) (fun h3 => ?_)
  · skip
    refine V_ld (pc := 7) dX4_writePart_7 (v := vr P) rfl rfl ?_
    refine V_ld (pc := 8) dX4_writePart_8 (v := vi p) rfl rfl ?_
    refine V_iconst (pc := 9) dX4_writePart_9 (by unfold I32; omega) ?_
    refine V_callV (pc := 10) dX4_writePart_10 (F' := 0) (As := [vi p, vi 0]) (st := []) cw_RX4_23 rfl rfl T_P (by decide) (Nat.le_of_ble_eq_true rfl) (by omega) (c_factT L T c 0 m P p 0 A  T_P R_P_0 T_A (by (repeat rw [apM_ne (by omega) (by omega)]); exact hc) (fun p_ w_ h1_ h2_ => by (repeat rw [apM_ne (by omega) (by omega)]); exact hT p_ w_ h1_ h2_) hp ⟨by decide, by decide⟩) ?_
    rintro _ _ ⟨x10, rfl, rfl, rfl⟩ ok10 le10
    by_cases h13_0 : (T p.toNat 0) = 0
    · skip
      refine V_tsIn (pc := 13) dX4_writePart_13 (cx := 0) (off := 43) (tgt := 56) h13_0 (by omega) rfl rfl ?_
      refine V_ld (pc := 56) dX4_writePart_56 (v := vr 15) rfl rfl ?_
      refine V_bipush (pc := 57) dX4_writePart_57 (by unfold I32; omega) (by decide) ?_
      refine V_ld (pc := 59) dX4_writePart_59 (v := vr P) rfl rfl ?_
      refine V_ld (pc := 60) dX4_writePart_60 (v := vi p) rfl rfl ?_
      refine V_iconst (pc := 61) dX4_writePart_61 (by unfold I32; omega) ?_
      refine V_callV (pc := 62) dX4_writePart_62 (F' := 0) (As := [vi p, vi 1]) (st := [vi 65, vr 15]) cw_RX4_23 rfl rfl T_P (by decide) (Nat.le_of_ble_eq_true rfl) (by omega) (c_factT L T c 1 m P p 1 A  T_P R_P_0 T_A (by (repeat rw [apM_ne (by omega) (by omega)]); exact hc) (fun p_ w_ h1_ h2_ => by (repeat rw [apM_ne (by omega) (by omega)]); exact hT p_ w_ h1_ h2_) hp ⟨by decide, by decide⟩) ?_
      rintro _ _ ⟨x62, rfl, rfl, rfl⟩ ok62 le62
      refine V_iadd (pc := 65) dX4_writePart_65 (by have h_ := hE (by omega); unfold I32 at *; omega) ?_
      refine V_callV (pc := 66) dX4_writePart_66 (F' := 0) (As := [vi (65 + (T p.toNat 1))]) (st := []) cw_RX4_35 rfl rfl hL.t15 (by decide) (Nat.le_of_ble_eq_true rfl) (by omega) (c_add1  m (65 + (T p.toNat 1))   (by first | assumption | omega) (by have h_ := hE (by omega); omega)) ?_
      rintro _ _ ⟨x66, rfl, -, rfl⟩ ok66 le66
      refine V_pop (pc := 69) dX4_writePart_69 rfl ?_
      refine V_goto (pc := 70) dX4_writePart_70 (tgt := 163) rfl ?_
      refine V_retv (pc := 163) dX4_writePart_163 trivial ?_
      first
        | (exfalso; omega)
        | (rw [splF_0 (by omega)])
        | (rw [splF_1 (by omega)])
        | (rw [splF_2 (by omega)])
        | (rw [splF_6 (by omega)]; simp only [apM_app, List.append_assoc])
        | (rw [splF_5 (by omega)]; simp only [apM_app, List.append_assoc])
        | (rw [splF_34 (by have h_ := hI (by omega); omega)])
    by_cases h13_1 : (T p.toNat 0) = 1
    · skip
      refine V_tsIn (pc := 13) dX4_writePart_13 (cx := 1) (off := 60) (tgt := 73) h13_1 (by omega) rfl rfl ?_
      refine V_ld (pc := 73) dX4_writePart_73 (v := vr 15) rfl rfl ?_
      refine V_bipush (pc := 74) dX4_writePart_74 (by unfold I32; omega) (by decide) ?_
      refine V_callV (pc := 76) dX4_writePart_76 (F' := 0) (As := [vi 94]) (st := []) cw_RX4_35 rfl rfl hL.t15 (by decide) (Nat.le_of_ble_eq_true rfl) (by omega) (c_add1  m 94   (by first | assumption | omega) (by have h_ := hE (by omega); omega)) ?_
      rintro _ _ ⟨x76, rfl, -, rfl⟩ ok76 le76
      refine V_pop (pc := 79) dX4_writePart_79 rfl ?_
      refine V_goto (pc := 80) dX4_writePart_80 (tgt := 163) rfl ?_
      refine V_retv (pc := 163) dX4_writePart_163 trivial ?_
      first
        | (exfalso; omega)
        | (rw [splF_0 (by omega)])
        | (rw [splF_1 (by omega)])
        | (rw [splF_2 (by omega)])
        | (rw [splF_6 (by omega)]; simp only [apM_app, List.append_assoc])
        | (rw [splF_5 (by omega)]; simp only [apM_app, List.append_assoc])
        | (rw [splF_34 (by have h_ := hI (by omega); omega)])
    by_cases h13_2 : (T p.toNat 0) = 2
    · skip
      refine V_tsIn (pc := 13) dX4_writePart_13 (cx := 2) (off := 70) (tgt := 83) h13_2 (by omega) rfl rfl ?_
      refine V_ld (pc := 83) dX4_writePart_83 (v := vr 15) rfl rfl ?_
      refine V_bipush (pc := 84) dX4_writePart_84 (by unfold I32; omega) (by decide) ?_
      refine V_callV (pc := 86) dX4_writePart_86 (F' := 0) (As := [vi 36]) (st := []) cw_RX4_35 rfl rfl hL.t15 (by decide) (Nat.le_of_ble_eq_true rfl) (by omega) (c_add1  m 36   (by first | assumption | omega) (by have h_ := hE (by omega); omega)) ?_
      rintro _ _ ⟨x86, rfl, -, rfl⟩ ok86 le86
      refine V_pop (pc := 89) dX4_writePart_89 rfl ?_
      refine V_goto (pc := 90) dX4_writePart_90 (tgt := 163) rfl ?_
      refine V_retv (pc := 163) dX4_writePart_163 trivial ?_
      first
        | (exfalso; omega)
        | (rw [splF_0 (by omega)])
        | (rw [splF_1 (by omega)])
        | (rw [splF_2 (by omega)])
        | (rw [splF_6 (by omega)]; simp only [apM_app, List.append_assoc])
        | (rw [splF_5 (by omega)]; simp only [apM_app, List.append_assoc])
        | (rw [splF_34 (by have h_ := hI (by omega); omega)])
    by_cases h13_3 : (T p.toNat 0) = 3
    · skip
      refine V_tsIn (pc := 13) dX4_writePart_13 (cx := 3) (off := 142) (tgt := 155) h13_3 (by omega) rfl rfl ?_
      refine V_ld (pc := 155) dX4_writePart_155 (v := vr P) rfl rfl ?_
      refine V_ld (pc := 156) dX4_writePart_156 (v := vi p) rfl rfl ?_
      refine V_iconst (pc := 157) dX4_writePart_157 (by unfold I32; omega) ?_
      refine V_ld (pc := 158) dX4_writePart_158 (v := vr 15) rfl rfl ?_
      refine V_ld (pc := 159) dX4_writePart_159 (v := vi d) rfl rfl ?_
      refine V_callV (pc := 160) dX4_writePart_160 (F' := (2 * f + 3)) (As := [vi p, vi (-1), vr 15, vi d]) (st := []) cw_RX4_40 rfl rfl T_P (by decide) (Nat.le_of_ble_eq_true rfl) (by omega) (c_writeInner L T c f ((T p.toNat 2).toNat) m P p (-1) d A  (by first | assumption | omega) T_P R_P_0 T_A (by (repeat rw [apM_ne (by omega) (by omega)]); exact hc) (fun p_ w_ h1_ h2_ => by (repeat rw [apM_ne (by omega) (by omega)]); exact hT p_ w_ h1_ h2_) hp h59 hW hd (by rw [if_pos (by decide), sepS_c (by have h_ := hI (by omega); omega)]) ⟨(hI (by omega)).1, by have h_ := (hI (by omega)).2.1; omega, (hI (by omega)).2.2.1.imp (fun _ h_ => h_.1), (hI (by omega)).2.2.2.1⟩ (by (try simp only [apM_sz, List.length_cons, List.length_nil]); have h_ := (hI (by omega)).2.2.2.2; omega)) ?_
      rintro _ _ ⟨rfl, rfl⟩ ok160 le160
      refine V_retv (pc := 163) dX4_writePart_163 trivial ?_
      first
        | (exfalso; omega)
        | (rw [splF_0 (by omega)])
        | (rw [splF_1 (by omega)])
        | (rw [splF_2 (by omega)])
        | (rw [splF_6 (by omega)]; simp only [apM_app, List.append_assoc])
        | (rw [splF_5 (by omega)]; simp only [apM_app, List.append_assoc])
        | (rw [splF_34 (by have h_ := hI (by omega); omega)])
    by_cases h13_4 : (T p.toNat 0) = 4
    · skip
      refine V_tsIn (pc := 13) dX4_writePart_13 (cx := 4) (off := 130) (tgt := 143) h13_4 (by omega) rfl rfl ?_
      refine V_ld (pc := 143) dX4_writePart_143 (v := vr P) rfl rfl ?_
      refine V_ld (pc := 144) dX4_writePart_144 (v := vi p) rfl rfl ?_
      refine V_bipush (pc := 145) dX4_writePart_145 (by unfold I32; omega) (by decide) ?_
      refine V_ld (pc := 147) dX4_writePart_147 (v := vr 15) rfl rfl ?_
      refine V_ld (pc := 148) dX4_writePart_148 (v := vi d) rfl rfl ?_
      refine V_callV (pc := 149) dX4_writePart_149 (F' := (2 * f + 3)) (As := [vi p, vi 124, vr 15, vi d]) (st := []) cw_RX4_40 rfl rfl T_P (by decide) (Nat.le_of_ble_eq_true rfl) (by omega) (c_writeInner L T c f ((T p.toNat 2).toNat) m P p 124 d A  (by first | assumption | omega) T_P R_P_0 T_A (by (repeat rw [apM_ne (by omega) (by omega)]); exact hc) (fun p_ w_ h1_ h2_ => by (repeat rw [apM_ne (by omega) (by omega)]); exact hT p_ w_ h1_ h2_) hp h59 hW hd (by rw [if_neg (by decide), h13_4]; rfl) ⟨(hI (by omega)).1, by have h_ := (hI (by omega)).2.1; omega, (hI (by omega)).2.2.1.imp (fun _ h_ => h_.1), (hI (by omega)).2.2.2.1⟩ (by (try simp only [apM_sz, List.length_cons, List.length_nil]); have h_ := (hI (by omega)).2.2.2.2; omega)) ?_
      rintro _ _ ⟨rfl, rfl⟩ ok149 le149
      refine V_goto (pc := 152) dX4_writePart_152 (tgt := 163) rfl ?_
      refine V_retv (pc := 163) dX4_writePart_163 trivial ?_
      first
        | (exfalso; omega)
        | (rw [splF_0 (by omega)])
        | (rw [splF_1 (by omega)])
        | (rw [splF_2 (by omega)])
        | (rw [splF_6 (by omega)]; simp only [apM_app, List.append_assoc])
        | (rw [splF_5 (by omega)]; simp only [apM_app, List.append_assoc])
        | (rw [splF_34 (by have h_ := hI (by omega); omega)])
    by_cases h13_5 : (T p.toNat 0) = 5
    · skip
      refine V_tsIn (pc := 13) dX4_writePart_13 (cx := 5) (off := 113) (tgt := 126) h13_5 (by omega) rfl rfl ?_
      refine V_ld (pc := 126) dX4_writePart_126 (v := vr P) rfl rfl ?_
      refine V_ld (pc := 127) dX4_writePart_127 (v := vi p) rfl rfl ?_
      refine V_iconst (pc := 128) dX4_writePart_128 (by unfold I32; omega) ?_
      refine V_ld (pc := 129) dX4_writePart_129 (v := vr 15) rfl rfl ?_
      refine V_ld (pc := 130) dX4_writePart_130 (v := vi d) rfl rfl ?_
      refine V_callV (pc := 131) dX4_writePart_131 (F' := (2 * f + 3)) (As := [vi p, vi (-1), vr 15, vi d]) (st := []) cw_RX4_40 rfl rfl T_P (by decide) (Nat.le_of_ble_eq_true rfl) (by omega) (c_writeInner L T c f ((T p.toNat 2).toNat) m P p (-1) d A  (by first | assumption | omega) T_P R_P_0 T_A (by (repeat rw [apM_ne (by omega) (by omega)]); exact hc) (fun p_ w_ h1_ h2_ => by (repeat rw [apM_ne (by omega) (by omega)]); exact hT p_ w_ h1_ h2_) hp h59 hW hd (by rw [if_pos (by decide), sepS_c (by omega)]) ⟨(hI (by omega)).1, by have h_ := (hI (by omega)).2.1; omega, (hI (by omega)).2.2.1.imp (fun _ h_ => h_.1), (hI (by omega)).2.2.2.1⟩ (by (try simp only [apM_sz, List.length_cons, List.length_nil]); have h_ := (hI (by omega)).2.2.2.2; omega)) ?_
      rintro _ _ ⟨rfl, rfl⟩ ok131 le131
      refine V_ld (pc := 134) dX4_writePart_134 (v := vr P) rfl rfl ?_
      refine V_ld (pc := 135) dX4_writePart_135 (v := vi p) rfl rfl ?_
      refine V_ld (pc := 136) dX4_writePart_136 (v := vr 15) rfl rfl ?_
      refine V_callV (pc := 137) dX4_writePart_137 (F' := 2) (As := [vi p, vr 15]) (st := []) cw_RX4_44 rfl rfl T_P (by decide) (Nat.le_of_ble_eq_true rfl) (by omega) (c_wquant L T c (apM 15 1 16 m (kidS T (splF T f) (T p.toNat 0) true ((T p.toNat 2).toNat) (T p.toNat 7))) P p A  (by first | assumption | omega) T_P R_P_0 T_A (by (repeat rw [apM_ne (by omega) (by omega)]); exact hc) (fun p_ w_ h1_ h2_ => by (repeat rw [apM_ne (by omega) (by omega)]); exact hT p_ w_ h1_ h2_) hp h59 ((hI (by omega)).2.2.2.2.2.2.2.2 (by omega)) (by (try simp only [apM_sz]); have h_ := (hI (by omega)).2.2.2.2; omega)) ?_
      rintro _ _ ⟨rfl, rfl⟩ ok137 le137
      refine V_goto (pc := 140) dX4_writePart_140 (tgt := 163) rfl ?_
      refine V_retv (pc := 163) dX4_writePart_163 trivial ?_
      first
        | (exfalso; omega)
        | (rw [splF_0 (by omega)])
        | (rw [splF_1 (by omega)])
        | (rw [splF_2 (by omega)])
        | (rw [splF_6 (by omega)]; simp only [apM_app, List.append_assoc])
        | (rw [splF_5 (by omega)]; simp only [apM_app, List.append_assoc])
        | (rw [splF_34 (by have h_ := hI (by omega); omega)])
    by_cases h13_6 : (T p.toNat 0) = 6
    · skip
      refine V_tsIn (pc := 13) dX4_writePart_13 (cx := 6) (off := 80) (tgt := 93) h13_6 (by omega) rfl rfl ?_
      refine V_ld (pc := 93) dX4_writePart_93 (v := vr 15) rfl rfl ?_
      refine V_bipush (pc := 94) dX4_writePart_94 (by unfold I32; omega) (by decide) ?_
      refine V_callV (pc := 96) dX4_writePart_96 (F' := 0) (As := [vi 37]) (st := []) cw_RX4_35 rfl rfl hL.t15 (by decide) (Nat.le_of_ble_eq_true rfl) (by omega) (c_add1  m 37   (by first | assumption | omega) (by (try simp only [apM_sz, List.length_cons, List.length_nil]); have h_ := (hI (by omega)).2.2.2.2; omega)) ?_
      rintro _ _ ⟨x96, rfl, -, rfl⟩ ok96 le96
      refine V_pop (pc := 99) dX4_writePart_99 rfl ?_
      refine V_ld (pc := 100) dX4_writePart_100 (v := vr 15) rfl rfl ?_
      refine V_bipush (pc := 101) dX4_writePart_101 (by unfold I32; omega) (by decide) ?_
      refine V_callV (pc := 103) dX4_writePart_103 (F' := 0) (As := [vi 40]) (st := []) cw_RX4_35 rfl rfl hL.t15 (by decide) (Nat.le_of_ble_eq_true rfl) (by omega) (c_add1  (apM 15 1 16 m [37]) 40   (by first | assumption | omega) (by (try simp only [apM_sz, List.length_cons, List.length_nil]); have h_ := (hI (by omega)).2.2.2.2; omega)) ?_
      rintro _ _ ⟨x103, rfl, -, rfl⟩ ok103 le103
      refine V_pop (pc := 106) dX4_writePart_106 rfl ?_
      refine V_ld (pc := 107) dX4_writePart_107 (v := vr P) rfl rfl ?_
      refine V_ld (pc := 108) dX4_writePart_108 (v := vi p) rfl rfl ?_
      refine V_bipush (pc := 109) dX4_writePart_109 (by unfold I32; omega) (by decide) ?_
      refine V_ld (pc := 111) dX4_writePart_111 (v := vr 15) rfl rfl ?_
      refine V_ld (pc := 112) dX4_writePart_112 (v := vi d) rfl rfl ?_
      refine V_callV (pc := 113) dX4_writePart_113 (F' := (2 * f + 3)) (As := [vi p, vi 44, vr 15, vi d]) (st := []) cw_RX4_40 rfl rfl T_P (by decide) (Nat.le_of_ble_eq_true rfl) (by omega) (c_writeInner L T c f ((T p.toNat 2).toNat) (apM 15 1 16 (apM 15 1 16 m [37]) [40]) P p 44 d A  (by first | assumption | omega) T_P R_P_0 T_A (by (repeat rw [apM_ne (by omega) (by omega)]); exact hc) (fun p_ w_ h1_ h2_ => by (repeat rw [apM_ne (by omega) (by omega)]); exact hT p_ w_ h1_ h2_) hp h59 hW hd (by rw [if_neg (by decide), h13_6]; rfl) ⟨(hI (by omega)).1, by have h_ := (hI (by omega)).2.1; omega, (hI (by omega)).2.2.1.imp (fun _ h_ => h_.1), (hI (by omega)).2.2.2.1⟩ (by (try simp only [apM_sz, List.length_cons, List.length_nil]); have h_ := (hI (by omega)).2.2.2.2; omega)) ?_
      rintro _ _ ⟨rfl, rfl⟩ ok113 le113
      refine V_ld (pc := 116) dX4_writePart_116 (v := vr 15) rfl rfl ?_
      refine V_bipush (pc := 117) dX4_writePart_117 (by unfold I32; omega) (by decide) ?_
      refine V_callV (pc := 119) dX4_writePart_119 (F' := 0) (As := [vi 41]) (st := []) cw_RX4_35 rfl rfl hL.t15 (by decide) (Nat.le_of_ble_eq_true rfl) (by omega) (c_add1  (apM 15 1 16 (apM 15 1 16 (apM 15 1 16 m [37]) [40]) (kidS T (splF T f) (T p.toNat 0) true ((T p.toNat 2).toNat) (T p.toNat 7))) 41   (by first | assumption | omega) (by (try simp only [apM_sz, List.length_cons, List.length_nil]); have h_ := (hI (by omega)).2.2.2.2; omega)) ?_
      rintro _ _ ⟨x119, rfl, -, rfl⟩ ok119 le119
      refine V_pop (pc := 122) dX4_writePart_122 rfl ?_
      refine V_goto (pc := 123) dX4_writePart_123 (tgt := 163) rfl ?_
      refine V_retv (pc := 163) dX4_writePart_163 trivial ?_
      first
        | (exfalso; omega)
        | (rw [splF_0 (by omega)])
        | (rw [splF_1 (by omega)])
        | (rw [splF_2 (by omega)])
        | (rw [splF_6 (by omega)]; simp only [apM_app, List.append_assoc])
        | (rw [splF_5 (by omega)]; simp only [apM_app, List.append_assoc])
        | (rw [splF_34 (by have h_ := hI (by omega); omega)])
    refine V_tsOut (pc := 13) dX4_writePart_13 (tgt := 155) (by omega) rfl ?_
    refine V_ld (pc := 155) dX4_writePart_155 (v := vr P) rfl rfl ?_
    refine V_ld (pc := 156) dX4_writePart_156 (v := vi p) rfl rfl ?_
    refine V_iconst (pc := 157) dX4_writePart_157 (by unfold I32; omega) ?_
    refine V_ld (pc := 158) dX4_writePart_158 (v := vr 15) rfl rfl ?_
    refine V_ld (pc := 159) dX4_writePart_159 (v := vi d) rfl rfl ?_
    refine V_callV (pc := 160) dX4_writePart_160 (F' := (2 * f + 3)) (As := [vi p, vi (-1), vr 15, vi d]) (st := []) cw_RX4_40 rfl rfl T_P (by decide) (Nat.le_of_ble_eq_true rfl) (by omega) (c_writeInner L T c f ((T p.toNat 2).toNat) m P p (-1) d A  (by first | assumption | omega) T_P R_P_0 T_A (by (repeat rw [apM_ne (by omega) (by omega)]); exact hc) (fun p_ w_ h1_ h2_ => by (repeat rw [apM_ne (by omega) (by omega)]); exact hT p_ w_ h1_ h2_) hp h59 hW hd (by rw [if_pos (by decide), sepS_c (by have h_ := hI (by omega); omega)]) ⟨(hI (by omega)).1, by have h_ := (hI (by omega)).2.1; omega, (hI (by omega)).2.2.1.imp (fun _ h_ => h_.1), (hI (by omega)).2.2.2.1⟩ (by (try simp only [apM_sz, List.length_cons, List.length_nil]); have h_ := (hI (by omega)).2.2.2.2; omega)) ?_
    rintro _ _ ⟨rfl, rfl⟩ ok160 le160
    refine V_retv (pc := 163) dX4_writePart_163 trivial ?_
    first
      | (exfalso; omega)
      | (rw [splF_0 (by omega)])
      | (rw [splF_1 (by omega)])
      | (rw [splF_2 (by omega)])
      | (rw [splF_6 (by omega)]; simp only [apM_app, List.append_assoc])
      | (rw [splF_5 (by omega)]; simp only [apM_app, List.append_assoc])
      | (rw [splF_34 (by have h_ := hI (by omega); omega)])
  · skip
    refine V_retv (pc := 6) dX4_writePart_6 trivial ?_
    first
      | (exfalso; omega)
      | (rw [splF_0 (by omega)])
      | (rw [splF_1 (by omega)])
      | (rw [splF_2 (by omega)])
      | (rw [splF_6 (by omega)]; simp only [apM_app, List.append_assoc])
      | (rw [splF_5 (by omega)]; simp only [apM_app, List.append_assoc])
      | (rw [splF_34 (by have h_ := hI (by omega); omega)])

theorem CWr_all {L c : Nat} {T : Tb} (hW : WfT T 0 c) : ∀ f, CWr L T c f
  | 0 => by
    intro m P p d A hL TP RP TA hc hT hp h59 hh hd hr
    have hp_ : p.toNat < c := by omega
    rcases hW p.toNat (Nat.zero_le _) hp_ with e | e
    · have := e.2.2.2.2.2.1; omega
    · obtain ⟨q, l, i1, i2, i3, i4, i5, i6, i7, i8, i9⟩ := e
      have := mxC_nn (F := T) (w := 10) q (T p.toNat 7)
      omega
  | f + 1 => by
    intro m P p d A hL TP RP TA hc hT hp h59 hh hd hr
    exact c_writeS L T c f m P p d A hL TP RP TA hc hT hp h59 ⟨hW, CWr_all hW f⟩ (by omega) (by omega) hr
