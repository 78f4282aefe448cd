/-! the class searches: the whole search -/
def RunI (F : Tb) (c : Nat) (n may : Int) (f : Nat) (ph : Int) (J : SJ) : Prop := (ph = 0 ∨ ph = 1 ∨ ph = 2 ∨ ph = 3) ∧ (ph = 3 ∨ (SI F c n may J ∧ PhI F c ph J ∧ 0 ≤ J.1 11 ∧ J.1 11 + (f : Int) ≤ 155001)) ∧ potA F may ph J < (f : Int)
theorem RunI.sp {F : Tb} {c : Nat} {n may ph : Int} {f : Nat} {J : SJ} {r : Int × SJ} (h : RunI F c n may (f + 1) ph J) (hp : ph ≠ 3) (hs : SpI F c n may (J.1 11) (potA F may ph J) r) : RunI F c n may f r.1 r.2 := by
  obtain ⟨h1, h2, h3⟩ := h
  have h2 := h2.resolve_left hp
  rcases hs with ⟨e, hP⟩ | hs
  · refine ⟨Or.inr (Or.inr (Or.inr e)), Or.inl e, ?_⟩
    unfold potA
    rw [if_pos e]
    omega
  · obtain ⟨s1, s2, s3, s4, s5⟩ := hs
    refine ⟨by omega, Or.inr ⟨s2, s3, by omega, by omega⟩, by omega⟩
theorem RunI.c0 {F : Tb} {c : Nat} {n may ph : Int} {f : Nat} {J : SJ} (h : RunI F c n may f ph J) (hp : ph = 0) : SI F c n may J ∧ CoI F c J := by
  subst hp
  have h2 := h.2.1.resolve_left (by decide)
  exact ⟨h2.1, h2.2.1⟩
theorem RunI.c1 {F : Tb} {c : Nat} {n may ph : Int} {f : Nat} {J : SJ} (h : RunI F c n may f ph J) (hp : ph = 1) : SI F c n may J ∧ DoI J := by
  subst hp
  have h2 := h.2.1.resolve_left (by decide)
  exact ⟨h2.1, h2.2.1⟩
theorem RunI.c2 {F : Tb} {c : Nat} {n may ph : Int} {f : Nat} {J : SJ} (h : RunI F c n may f ph J) (hp : ph ≠ 3) : SI F c n may J ∧ 0 ≤ J.1 11 ∧ J.1 11 ≤ 155001 ∧ J.1 11 + (f : Int) ≤ 155001 := by
  have h2 := h.2.1.resolve_left hp
  exact ⟨h2.1, h2.2.2.1, by omega, h2.2.2.2⟩
theorem RunI.come {F : Tb} {c : Nat} {n may ph : Int} {f : Nat} {hc : Nat → CEnv → Int} {cl : Nat → Int} {J : SJ} (hW : WfT F 0 c) (h : RunI F c n may (f + 1) ph J) (hp : ph = 0) : RunI F c n may f (comeA F n may hc cl J).1 (comeA F n may hc cl J).2 := by
  have hh := h.c0 hp
  subst hp
  exact h.sp (by decide) (comeA_ok hW hh.1 hh.2)
theorem RunI.goOn {F : Tb} {c : Nat} {n may ph : Int} {f : Nat} {J : SJ} (hW : WfT F 0 c) (h : RunI F c n may (f + 1) ph J) (hp : ph = 1) (h0 : 0 ≤ J.1 8) : RunI F c n may f (goOnA F may J).1 (goOnA F may J).2 := by
  have hh := h.c1 hp
  subst hp
  exact h.sp (by decide) (goOnA_ok hW hh.1 hh.2 h0)
theorem RunI.back {F : Tb} {c : Nat} {n may ph : Int} {f : Nat} {J : SJ} (hW : WfT F 0 c) (h : RunI F c n may (f + 1) ph J) (hp : ph = 2) (h0 : 0 < J.1 5) : RunI F c n may f (goBkA F J).1 (goBkA F J).2 := by
  have hh := h.c2 (by omega)
  subst hp
  exact h.sp (by decide) (goBk_ok hW hh.1 h0)
theorem RunI.note {F : Tb} {c : Nat} {n may ph : Int} {f : Nat} {J : SJ} (h : RunI F c n may (f + 1) ph J) (hp : ph = 1) : RunI F c n may f 2 (noteA J) := by
  have hh := h.c2 (by omega)
  subst hp
  have h3 := h.2.2
  have e1 : potA F may 1 J = 30 * (may - J.1 10) + 2 * J.1 5 + 27 := rfl
  have e2 : potA F may 2 (noteA J) = 30 * (may - J.1 10) + 2 * J.1 5 + 26 := rfl
  refine ⟨Or.inr (Or.inr (Or.inl rfl)), Or.inr ⟨hh.1.nt, Or.inl rfl, ?_, ?_⟩, by omega⟩
  · show 0 ≤ J.1 11 + 1; omega
  · show J.1 11 + 1 + (f : Int) ≤ 155001; have := hh.2.2.2; omega
theorem RunI.fuel {F : Tb} {c : Nat} {n may ph : Int} {J : SJ} (hT : ∀ p : Int, 0 ≤ p → p < (c : Int) → 0 ≤ F p.toNat 10) (h : RunI F c n may 0 ph J) : False := by
  obtain ⟨h1, h2, h3⟩ := h
  by_cases e : ph = 3
  · unfold potA at h3
    rw [if_pos e] at h3
    omega
  · have hs := (h2.resolve_left e)
    obtain ⟨⟨a1, a2, a3, a4, a5, a6, a7⟩, b, -⟩ := hs
    have : 0 ≤ 30 * (may - J.1 10) + 2 * J.1 5 := by omega
    unfold potA at h3
    rw [if_neg e] at h3
    by_cases e0 : ph = 0
    · rw [if_pos e0] at h3
      unfold PhI at b
      rw [if_pos e0] at b
      have hn := (hT _ b.1.1 b.1.2)
      omega
    · rw [if_neg e0] at h3
      split at h3 <;> omega
section RUNS
variable {F : Tb} {n may : Int} {hc : Nat → CEnv → Int} {cl : Nat → Int} {e : Int} {f : Nat} {ph : Int} {J : SJ}
theorem runA_0 (h : ph = 0) : runA F n may hc cl e (f + 1) ph J = runA F n may hc cl e f (comeA F n may hc cl J).1 (comeA F n may hc cl J).2 := if_pos h
theorem runA_1 (h : ph = 1) (h0 : 0 ≤ J.1 8) : runA F n may hc cl e (f + 1) ph J = runA F n may hc cl e f (goOnA F may J).1 (goOnA F may J).2 := by
  rw [runA, if_neg (by omega), if_pos ⟨h, h0⟩]
theorem runA_w (h : ph = 1) (h0 : J.1 8 < 0) (he : e = -1 ∨ e = J.1 9) : runA F n may hc cl e (f + 1) ph J = (1, noteA J) := by
  rw [runA, if_neg (by omega), if_neg (by omega), if_pos h, if_pos he]
theorem runA_v (h : ph = 1) (h0 : J.1 8 < 0) (he : ¬ (e = -1 ∨ e = J.1 9)) : runA F n may hc cl e (f + 1) ph J = runA F n may hc cl e f 2 (noteA J) := by
  rw [runA, if_neg (by omega), if_neg (by omega), if_pos h, if_neg he]
theorem runA_3 (h : ph = 3) : runA F n may hc cl e (f + 1) ph J = (-7, J) := by
  rw [runA, if_neg (by omega), if_neg (by omega), if_neg (by omega), if_pos h]
theorem runA_b (h : ph = 2) (h0 : 0 < J.1 5) : runA F n may hc cl e (f + 1) ph J = runA F n may hc cl e f (goBkA F J).1 (goBkA F J).2 := by
  rw [runA, if_neg (by omega), if_neg (by omega), if_neg (by omega), if_neg (by omega), if_pos h0]
theorem runA_n (h : ph = 2) (h0 : J.1 5 ≤ 0) : runA F n may hc cl e (f + 1) ph J = (0, J) := by
  rw [runA, if_neg (by omega), if_neg (by omega), if_neg (by omega), if_neg (by omega), if_neg (by omega)]
end RUNS

set_option maxHeartbeats 8000000 in
theorem L_zseek {F0 : Nat} {m0 : Mem} {PP : Int → Mem → Prop} {b : Mem} {P Q L c : Nat} {F : Tb} {n may : Int} {hcn : Nat → CEnv → Int} {cl : Nat → Int} {st e : Int} (hS : SB b P Q L F c n may hcn cl) (hF : 6 < F0) : ∀ (f : Nat) (i ph : Int) (J : SJ) (m : Mem), CZ b m F J → RunI F c n may f ph J → 0 ≤ i → i + (f : Int) ≤ 1000000 → (∀ x m', x = (runA F n may hcn cl e f ph J).1 → CZ b m' F (runA F n may hcn cl e f ph J).2 → PP x m') → V μX6_seek F0 m0 (ri PP) 52 [(5, vi i), (4, vi ph), (3, vr P), (0, vr 9), (1, vi st), (2, vi e)] [] m := by
  have hW := SB.w hS
  intro f
  induction f with
  | zero =>
    intro i ph J m hZ hR hi hf kx
    exact (RunI.fuel (fun p h1 h2 => (tab_s hW ⟨h1, h2⟩).2.1) hR).elim
  | succ f ih =>
    intro i ph J m hZ hR hi hf kx
    have hL := CZ.lay hS hZ
    have hph := hR.1
    refine V_ld (pc := 52) dX6_seek_52 (v := vi i) rfl rfl ?_
    refine V_ldc (pc := 54) dX6_seek_54 (x := 1000000) kc_RX6_50 (by unfold I32; omega) rfl ?_
    refine V_icmp_ge (pc := 56) dX6_seek_56 (tgt := 162) rfl (fun h56 => ?_) (fun h56 => ?_)
    · skip
      refine V_bipush (pc := 162) dX6_seek_162 (by unfold I32; omega) (by decide) ?_
      refine V_reti (pc := 164) dX6_seek_164 trivial ?_
      exfalso; omega
    · skip
      refine V_ld (pc := 59) dX6_seek_59 (v := vi ph) rfl rfl ?_
      refine V_if_ne (pc := 61) dX6_seek_61 (tgt := 74) rfl (fun h61 => ?_) (fun h61 => ?_)
      · skip
        refine V_ld (pc := 74) dX6_seek_74 (v := vi ph) rfl rfl ?_
        refine V_iconst (pc := 76) dX6_seek_76 (by unfold I32; omega) ?_
        refine V_icmp_ne (pc := 77) dX6_seek_77 (tgt := 97) rfl (fun h77 => ?_) (fun h77 => ?_)
        · skip
          refine V_ld (pc := 97) dX6_seek_97 (v := vi ph) rfl rfl ?_
          refine V_iconst (pc := 99) dX6_seek_99 (by unfold I32; omega) ?_
          refine V_icmp_ne (pc := 100) dX6_seek_100 (tgt := 128) rfl (fun h100 => ?_) (fun h100 => ?_)
          · skip
            refine V_ld (pc := 128) dX6_seek_128 (v := vi ph) rfl rfl ?_
            refine V_iconst (pc := 130) dX6_seek_130 (by unfold I32; omega) ?_
            refine V_icmp_ne (pc := 131) dX6_seek_131 (tgt := 137) rfl (fun h131 => ?_) (fun h131 => ?_)
            · skip
              refine V_ld (pc := 137) dX6_seek_137 (v := vr 9) rfl rfl ?_
              refine V_getIv (pc := 138) dX6_seek_138 (v := (J.1 5)) fw_RX6_67 rfl hL.t9 (CZ.s hZ (k := 5) (by decide)) (fun g138 => ?_)
              refine V_if_le (pc := 141) dX6_seek_141 (tgt := 154) rfl (fun h141 => ?_) (fun h141 => ?_)
              · skip
                refine V_iconst (pc := 154) dX6_seek_154 (by unfold I32; omega) ?_
                refine V_reti (pc := 155) dX6_seek_155 trivial ?_
                exact kx _ _ (by rw [runA_n (by omega) (by omega)]) (by rw [runA_n (by omega) (by omega)]; exact hZ)
              · skip
                refine V_ld (pc := 144) dX6_seek_144 (v := vr 9) rfl rfl ?_
                refine V_ld (pc := 145) dX6_seek_145 (v := vr P) rfl rfl ?_
                refine V_callV (pc := 146) dX6_seek_146 (F' := 6) (As := [vr P]) (st := []) cw_RX6_70 rfl rfl hL.t9 (by decide) (Nat.le_of_ble_eq_true rfl) (by omega) (z_goBack b Q L F c n may hcn cl J m P   hS hZ ⟨(hR.c2 (by omega)).1, by omega⟩) ?_
                rintro _ m146 ⟨x146, rfl, hx146, hm146⟩ ok146 le146
                refine V_st (pc := 149) dX6_seek_149 (ls' := [(4, vi x146), (5, vi i), (3, vr P), (0, vr 9), (1, vi st), (2, vi e)]) rfl (Nat.le_of_ble_eq_true rfl) rfl ?_
                refine V_goto (pc := 151) dX6_seek_151 (tgt := 156) rfl ?_
                refine V_iinc (pc := 156) dX6_seek_156 (x := i) (ls' := [(5, vi (i + 1)), (4, vi x146), (3, vr P), (0, vr 9), (1, vi st), (2, vi e)]) rfl (by unfold I32 at *; omega) (Nat.le_of_ble_eq_true rfl) rfl ?_
                refine V_goto (pc := 159) dX6_seek_159 (tgt := 52) rfl ?_
                subst hx146
                skip
                exact ih (i + 1) _ _ m146 hm146 (hR.back hW (by omega) (by omega)) (by omega) (by omega) (fun x m' h1 h2 => kx x m' (by rw [runA_b (by omega) (by omega)]; exact h1) (by rw [runA_b (by omega) (by omega)]; exact h2))
            · skip
              refine V_bipush (pc := 134) dX6_seek_134 (by unfold I32; omega) (by decide) ?_
              refine V_reti (pc := 136) dX6_seek_136 trivial ?_
              exact kx _ _ (by rw [runA_3 (by omega)]) (by rw [runA_3 (by omega)]; exact hZ)
          · skip
            refine V_ld (pc := 103) dX6_seek_103 (v := vr 9) rfl rfl ?_
            refine V_callV (pc := 104) dX6_seek_104 (F' := 1) (As := []) (st := []) cw_RX6_61 rfl rfl hL.t9 (by decide) (Nat.le_of_ble_eq_true rfl) (by omega) (z_noteWay b P Q L F c n may hcn cl J m    hS hZ (by have h_ := hR.c2 (by omega); exact ⟨h_.1, h_.2.1, by omega⟩)) ?_
            rintro _ m104 ⟨rfl, hm104⟩ ok104 le104
            refine V_ld (pc := 107) dX6_seek_107 (v := vi e) rfl rfl ?_
            refine V_iconst (pc := 108) dX6_seek_108 (by unfold I32; omega) ?_
            refine V_icmp_eq (pc := 109) dX6_seek_109 (tgt := 120) rfl (fun h109 => ?_) (fun h109 => ?_)
            · skip
              refine V_iconst (pc := 120) dX6_seek_120 (by unfold I32; omega) ?_
              refine V_reti (pc := 121) dX6_seek_121 trivial ?_
              exact kx _ _ (by rw [runA_w (by omega) (by omega) (by omega)]) (by rw [runA_w (by omega) (by omega) (by omega)]; exact hm104)
            · skip
              refine V_ld (pc := 112) dX6_seek_112 (v := vi e) rfl rfl ?_
              refine V_ld (pc := 113) dX6_seek_113 (v := vr 9) rfl rfl ?_
              refine V_getIv (pc := 114) dX6_seek_114 (v := (J.1 9)) fw_RX6_64 rfl (CZ.lay hS hm104).t9 (CZ.s hm104 (k := 9) (by decide)) (fun g114 => ?_)
              refine V_icmp_ne (pc := 117) dX6_seek_117 (tgt := 122) rfl (fun h117 => ?_) (fun h117 => ?_)
              · skip
                refine V_iconst (pc := 122) dX6_seek_122 (by unfold I32; omega) ?_
                refine V_st (pc := 123) dX6_seek_123 (ls' := [(4, vi 2), (5, vi i), (3, vr P), (0, vr 9), (1, vi st), (2, vi e)]) rfl (Nat.le_of_ble_eq_true rfl) rfl ?_
                refine V_goto (pc := 125) dX6_seek_125 (tgt := 156) rfl ?_
                refine V_iinc (pc := 156) dX6_seek_156 (x := i) (ls' := [(5, vi (i + 1)), (4, vi 2), (3, vr P), (0, vr 9), (1, vi st), (2, vi e)]) rfl (by unfold I32 at *; omega) (Nat.le_of_ble_eq_true rfl) rfl ?_
                refine V_goto (pc := 159) dX6_seek_159 (tgt := 52) rfl ?_
                skip
                exact ih (i + 1) 2 (noteA J) m104 hm104 (hR.note (by omega)) (by omega) (by omega) (fun x m' h1 h2 => kx x m' (by rw [runA_v (by omega) (by omega) (by omega)]; exact h1) (by rw [runA_v (by omega) (by omega) (by omega)]; exact h2))
              · skip
                refine V_iconst (pc := 120) dX6_seek_120 (by unfold I32; omega) ?_
                refine V_reti (pc := 121) dX6_seek_121 trivial ?_
                exact kx _ _ (by rw [runA_w (by omega) (by omega) (by omega)]) (by rw [runA_w (by omega) (by omega) (by omega)]; exact hm104)
        · skip
          refine V_ld (pc := 80) dX6_seek_80 (v := vr 9) rfl rfl ?_
          refine V_getIv (pc := 81) dX6_seek_81 (v := (J.1 8)) fw_RX6_55 rfl hL.t9 (CZ.s hZ (k := 8) (by decide)) (fun g81 => ?_)
          refine V_if_lt (pc := 84) dX6_seek_84 (tgt := 97) rfl (fun h84 => ?_) (fun h84 => ?_)
          · skip
            refine V_ld (pc := 97) dX6_seek_97 (v := vi ph) rfl rfl ?_
            refine V_iconst (pc := 99) dX6_seek_99 (by unfold I32; omega) ?_
            refine V_icmp_ne (pc := 100) dX6_seek_100 (tgt := 128) rfl (fun h100 => ?_) (fun h100 => ?_)
            · skip
              refine V_ld (pc := 128) dX6_seek_128 (v := vi ph) rfl rfl ?_
              refine V_iconst (pc := 130) dX6_seek_130 (by unfold I32; omega) ?_
              refine V_icmp_ne (pc := 131) dX6_seek_131 (tgt := 137) rfl (fun h131 => ?_) (fun h131 => ?_)
              · skip
                refine V_ld (pc := 137) dX6_seek_137 (v := vr 9) rfl rfl ?_
                refine V_getIv (pc := 138) dX6_seek_138 (v := (J.1 5)) fw_RX6_67 rfl hL.t9 (CZ.s hZ (k := 5) (by decide)) (fun g138 => ?_)
                refine V_if_le (pc := 141) dX6_seek_141 (tgt := 154) rfl (fun h141 => ?_) (fun h141 => ?_)
                · skip
                  refine V_iconst (pc := 154) dX6_seek_154 (by unfold I32; omega) ?_
                  refine V_reti (pc := 155) dX6_seek_155 trivial ?_
                  exact kx _ _ (by rw [runA_n (by omega) (by omega)]) (by rw [runA_n (by omega) (by omega)]; exact hZ)
                · skip
                  refine V_ld (pc := 144) dX6_seek_144 (v := vr 9) rfl rfl ?_
                  refine V_ld (pc := 145) dX6_seek_145 (v := vr P) rfl rfl ?_
                  refine V_callV (pc := 146) dX6_seek_146 (F' := 6) (As := [vr P]) (st := []) cw_RX6_70 rfl rfl hL.t9 (by decide) (Nat.le_of_ble_eq_true rfl) (by omega) (z_goBack b Q L F c n may hcn cl J m P   hS hZ ⟨(hR.c2 (by omega)).1, by omega⟩) ?_
                  rintro _ m146 ⟨x146, rfl, hx146, hm146⟩ ok146 le146
                  refine V_st (pc := 149) dX6_seek_149 (ls' := [(4, vi x146), (5, vi i), (3, vr P), (0, vr 9), (1, vi st), (2, vi e)]) rfl (Nat.le_of_ble_eq_true rfl) rfl ?_
                  refine V_goto (pc := 151) dX6_seek_151 (tgt := 156) rfl ?_
                  refine V_iinc (pc := 156) dX6_seek_156 (x := i) (ls' := [(5, vi (i + 1)), (4, vi x146), (3, vr P), (0, vr 9), (1, vi st), (2, vi e)]) rfl (by unfold I32 at *; omega) (Nat.le_of_ble_eq_true rfl) rfl ?_
                  refine V_goto (pc := 159) dX6_seek_159 (tgt := 52) rfl ?_
                  subst hx146
                  skip
                  exact ih (i + 1) _ _ m146 hm146 (hR.back hW (by omega) (by omega)) (by omega) (by omega) (fun x m' h1 h2 => kx x m' (by rw [runA_b (by omega) (by omega)]; exact h1) (by rw [runA_b (by omega) (by omega)]; exact h2))
              · skip
                refine V_bipush (pc := 134) dX6_seek_134 (by unfold I32; omega) (by decide) ?_
                refine V_reti (pc := 136) dX6_seek_136 trivial ?_
                exact kx _ _ (by rw [runA_3 (by omega)]) (by rw [runA_3 (by omega)]; exact hZ)
            · skip
              refine V_ld (pc := 103) dX6_seek_103 (v := vr 9) rfl rfl ?_
              refine V_callV (pc := 104) dX6_seek_104 (F' := 1) (As := []) (st := []) cw_RX6_61 rfl rfl hL.t9 (by decide) (Nat.le_of_ble_eq_true rfl) (by omega) (z_noteWay b P Q L F c n may hcn cl J m    hS hZ (by have h_ := hR.c2 (by omega); exact ⟨h_.1, h_.2.1, by omega⟩)) ?_
              rintro _ m104 ⟨rfl, hm104⟩ ok104 le104
              refine V_ld (pc := 107) dX6_seek_107 (v := vi e) rfl rfl ?_
              refine V_iconst (pc := 108) dX6_seek_108 (by unfold I32; omega) ?_
              refine V_icmp_eq (pc := 109) dX6_seek_109 (tgt := 120) rfl (fun h109 => ?_) (fun h109 => ?_)
              · skip
                refine V_iconst (pc := 120) dX6_seek_120 (by unfold I32; omega) ?_
                refine V_reti (pc := 121) dX6_seek_121 trivial ?_
                exact kx _ _ (by rw [runA_w (by omega) (by omega) (by omega)]) (by rw [runA_w (by omega) (by omega) (by omega)]; exact hm104)
              · skip
                refine V_ld (pc := 112) dX6_seek_112 (v := vi e) rfl rfl ?_
                refine V_ld (pc := 113) dX6_seek_113 (v := vr 9) rfl rfl ?_
                refine V_getIv (pc := 114) dX6_seek_114 (v := (J.1 9)) fw_RX6_64 rfl (CZ.lay hS hm104).t9 (CZ.s hm104 (k := 9) (by decide)) (fun g114 => ?_)
                refine V_icmp_ne (pc := 117) dX6_seek_117 (tgt := 122) rfl (fun h117 => ?_) (fun h117 => ?_)
                · skip
                  refine V_iconst (pc := 122) dX6_seek_122 (by unfold I32; omega) ?_
                  refine V_st (pc := 123) dX6_seek_123 (ls' := [(4, vi 2), (5, vi i), (3, vr P), (0, vr 9), (1, vi st), (2, vi e)]) rfl (Nat.le_of_ble_eq_true rfl) rfl ?_
                  refine V_goto (pc := 125) dX6_seek_125 (tgt := 156) rfl ?_
                  refine V_iinc (pc := 156) dX6_seek_156 (x := i) (ls' := [(5, vi (i + 1)), (4, vi 2), (3, vr P), (0, vr 9), (1, vi st), (2, vi e)]) rfl (by unfold I32 at *; omega) (Nat.le_of_ble_eq_true rfl) rfl ?_
                  refine V_goto (pc := 159) dX6_seek_159 (tgt := 52) rfl ?_
                  skip
                  exact ih (i + 1) 2 (noteA J) m104 hm104 (hR.note (by omega)) (by omega) (by omega) (fun x m' h1 h2 => kx x m' (by rw [runA_v (by omega) (by omega) (by omega)]; exact h1) (by rw [runA_v (by omega) (by omega) (by omega)]; exact h2))
                · skip
                  refine V_iconst (pc := 120) dX6_seek_120 (by unfold I32; omega) ?_
                  refine V_reti (pc := 121) dX6_seek_121 trivial ?_
                  exact kx _ _ (by rw [runA_w (by omega) (by omega) (by omega)]) (by rw [runA_w (by omega) (by omega) (by omega)]; exact hm104)
          · skip
            refine V_ld (pc := 87) dX6_seek_87 (v := vr 9) rfl rfl ?_
            refine V_ld (pc := 88) dX6_seek_88 (v := vr P) rfl rfl ?_
            refine V_callV (pc := 89) dX6_seek_89 (F' := 6) (As := [vr P]) (st := []) cw_RX6_58 rfl rfl hL.t9 (by decide) (Nat.le_of_ble_eq_true rfl) (by omega) (z_goOn b Q L F c n may hcn cl J m P   hS hZ (show SI F c n may J ∧ DoI J ∧ 0 ≤ J.1 8 from ⟨(hR.c1 (by omega)).1, (hR.c1 (by omega)).2, by omega⟩)) ?_
            rintro _ m89 ⟨x89, rfl, hx89, hm89⟩ ok89 le89
            refine V_st (pc := 92) dX6_seek_92 (ls' := [(4, vi x89), (5, vi i), (3, vr P), (0, vr 9), (1, vi st), (2, vi e)]) rfl (Nat.le_of_ble_eq_true rfl) rfl ?_
            refine V_goto (pc := 94) dX6_seek_94 (tgt := 156) rfl ?_
            refine V_iinc (pc := 156) dX6_seek_156 (x := i) (ls' := [(5, vi (i + 1)), (4, vi x89), (3, vr P), (0, vr 9), (1, vi st), (2, vi e)]) rfl (by unfold I32 at *; omega) (Nat.le_of_ble_eq_true rfl) rfl ?_
            refine V_goto (pc := 159) dX6_seek_159 (tgt := 52) rfl ?_
            subst hx89
            skip
            exact ih (i + 1) _ _ m89 hm89 (hR.goOn hW (by omega) (by omega)) (by omega) (by omega) (fun x m' h1 h2 => kx x m' (by rw [runA_1 (by omega) (by omega)]; exact h1) (by rw [runA_1 (by omega) (by omega)]; exact h2))
      · skip
        refine V_ld (pc := 64) dX6_seek_64 (v := vr 9) rfl rfl ?_
        refine V_ld (pc := 65) dX6_seek_65 (v := vr P) rfl rfl ?_
        refine V_callV (pc := 66) dX6_seek_66 (F' := 6) (As := [vr P]) (st := []) cw_RX6_51 rfl rfl hL.t9 (by decide) (Nat.le_of_ble_eq_true rfl) (by omega) (z_come b Q L F c n may hcn cl J m P   hS hZ (hR.c0 (by omega))) ?_
        rintro _ m66 ⟨x66, rfl, hx66, hm66⟩ ok66 le66
        refine V_st (pc := 69) dX6_seek_69 (ls' := [(4, vi x66), (5, vi i), (3, vr P), (0, vr 9), (1, vi st), (2, vi e)]) rfl (Nat.le_of_ble_eq_true rfl) rfl ?_
        refine V_goto (pc := 71) dX6_seek_71 (tgt := 156) rfl ?_
        refine V_iinc (pc := 156) dX6_seek_156 (x := i) (ls' := [(5, vi (i + 1)), (4, vi x66), (3, vr P), (0, vr 9), (1, vi st), (2, vi e)]) rfl (by unfold I32 at *; omega) (Nat.le_of_ble_eq_true rfl) rfl ?_
        refine V_goto (pc := 159) dX6_seek_159 (tgt := 52) rfl ?_
        subst hx66
        skip
        exact ih (i + 1) _ _ m66 hm66 (hR.come hW (by omega)) (by omega) (by omega) (fun x m' h1 h2 => kx x m' (by rw [runA_0 (by omega)]; exact h1) (by rw [runA_0 (by omega)]; exact h2))

set_option maxHeartbeats 4000000 in
theorem z_seek (P : Nat) (Q : Nat) (L : Nat) (F : Tb) (c : Nat) (n : Int) (may : Int) (hcn : Nat → CEnv → Int) (cl : Nat → Int) (J : SJ) (m : Mem) (st : Int) (e : Int)   (hS : SB m P Q L F c n may hcn cl) (hr : 1 ≤ c ∧ F (c - 1) 9 ≤ 6 ∧ F (c - 1) 10 ≤ 23) (hl : ∀ k, k < 32 → mI m 10 k = J.2.1 k) (hst : 0 ≤ st ∧ st ≤ n) : Ct μX6_seek 7 [vr 9, vi st, vi e] m (ri fun x_ m' => (x_ = (runA F n may hcn cl e 155000 0 (iniJ J (c : Int) st)).1) ∧ CZ m m' F (runA F n may hcn cl e 155000 0 (iniJ J (c : Int) st)).2) := by
  refine Ct_of_V rfl (by decide) rfl (Nat.le_of_ble_eq_true rfl) ?_
  show V μX6_seek 7 m _ 0 [(0, vr 9), (1, vi st), (2, vi e)] [] m
  refine V_rg (k := 1) (x := st) rfl fun r_st => ?_
  refine V_rg (k := 2) (x := e) rfl fun r_e => ?_
  have hL := hS.1.1
  have hSn := hS.2.2.2.1
  have hP1 := hS.2.2.1.1
  refine V_ld (pc := 0) dX6_seek_0 (v := vr 9) rfl rfl ?_
  refine V_getRv (pc := 1) dX6_seek_1 (o' := 1) fw_RX6_21 rfl (hL.t9) (hL.r9_0) ?_
  refine V_getRv (pc := 4) dX6_seek_4 (o' := P) fw_RX6_25 rfl (hL.t1) hS.2.1.1 ?_
  refine V_st (pc := 7) dX6_seek_7 (ls' := [(3, vr P), (0, vr 9), (1, vi st), (2, vi e)]) rfl (Nat.le_of_ble_eq_true rfl) rfl ?_
  refine V_ld (pc := 8) dX6_seek_8 (v := vi st) rfl rfl ?_
  refine V_if_lt (pc := 9) dX6_seek_9 (tgt := 26) rfl (fun h9 => ?_) (fun h9 => ?_)
  · skip
    refine V_iconst (pc := 26) dX6_seek_26 (by unfold I32; omega) ?_
    refine V_reti (pc := 27) dX6_seek_27 trivial ?_
    exfalso; omega
  · skip
    refine V_ld (pc := 12) dX6_seek_12 (v := vi st) rfl rfl ?_
    refine V_ld (pc := 13) dX6_seek_13 (v := vr 9) rfl rfl ?_
    refine V_getRv (pc := 14) dX6_seek_14 (o' := 1) fw_RX6_21 rfl (hL.t9) (hL.r9_0) ?_
    refine V_getRv (pc := 17) dX6_seek_17 (o' := 2) fw_RX6_31 rfl (hL.t1) (hL.r1_0) ?_
    refine V_getIv (pc := 20) dX6_seek_20 (v := n) fw_RX6_35 rfl (hL.t2) hSn.1 (fun g20 => ?_)
    refine V_icmp_le (pc := 23) dX6_seek_23 (tgt := 28) rfl (fun h23 => ?_) (fun h23 => ?_)
    · skip
      refine V_ld (pc := 28) dX6_seek_28 (v := vr P) rfl rfl ?_
      refine V_ifnonnull (pc := 29) dX6_seek_29 (tgt := 35) rfl (fun _ _ => ?_) (fun h_ => by cases h_)
      refine V_ld (pc := 35) dX6_seek_35 (v := vr 9) rfl rfl ?_
      refine V_ld (pc := 36) dX6_seek_36 (v := vi st) rfl rfl ?_
      refine V_ld (pc := 37) dX6_seek_37 (v := vr P) rfl rfl ?_
      refine V_getIv (pc := 38) dX6_seek_38 (v := (c : Int)) fw_RX6_41 rfl hS.2.1.2.1 hP1 (fun g38 => ?_)
      refine V_iconst (pc := 41) dX6_seek_41 (by unfold I32; omega) ?_
      refine V_isub (pc := 42) dX6_seek_42 (by unfold I32 at *; omega) ?_
      refine V_callV (pc := 43) dX6_seek_43 (F' := 0) (As := [vi st, vi ((c : Int) - 1)]) (st := []) cw_RX6_46 rfl rfl (hL.t9) (by decide) (Nat.le_of_ble_eq_true rfl) (by omega) (z_begin  m st ((c : Int) - 1)   (hL.t9)) ?_
      rintro _ _ ⟨rfl, rfl⟩ ok43 le43
      refine V_iconst (pc := 46) dX6_seek_46 (by unfold I32; omega) ?_
      refine V_st (pc := 47) dX6_seek_47 (ls' := [(4, vi 0), (3, vr P), (0, vr 9), (1, vi st), (2, vi e)]) rfl (Nat.le_of_ble_eq_true rfl) rfl ?_
      refine V_iconst (pc := 49) dX6_seek_49 (by unfold I32; omega) ?_
      refine V_st (pc := 50) dX6_seek_50 (ls' := [(5, vi 0), (4, vi 0), (3, vr P), (0, vr 9), (1, vi st), (2, vi e)]) rfl (Nat.le_of_ble_eq_true rfl) rfl ?_
      skip
      have hi0 := ini_ok (F := F) (n := n) (may := may) (st := st) (J := J) hr.1 ⟨hst.1, hst.2, hSn.2.2.1⟩ ⟨hSn.2.2.2.2.1, hSn.2.2.2.2.2⟩ hr.2.1 hr.2.2
      exact L_zseek hS (by omega) 155000 0 0 (iniJ J (c : Int) st) _ (CZ.ini hS hl st) ⟨Or.inl rfl, Or.inr ⟨hi0.1, hi0.2.1, by rw [hi0.2.2.1]; omega, by rw [hi0.2.2.1]; omega⟩, hi0.2.2.2⟩ (by omega) (by omega) (fun x m' h1 h2 => ⟨h1, h2⟩)
    · skip
      refine V_iconst (pc := 26) dX6_seek_26 (by unfold I32; omega) ?_
      refine V_reti (pc := 27) dX6_seek_27 trivial ?_
      exfalso; omega

set_option maxHeartbeats 4000000 in
theorem z_seekB (n : Int) (m : Mem) (st : Int) (e : Int)   (hL : Lay (mT m) (mR m)) (hn : mI m 2 1 = n ∧ 0 ≤ n ∧ n ≤ 32) (hst : ¬ (0 ≤ st ∧ st ≤ n)) : Ct μX6_seek 7 [vr 9, vi st, vi e] m (ri fun x_ m' => (x_ = -1) ∧ m = m') := by
  refine Ct_of_V rfl (by decide) rfl (Nat.le_of_ble_eq_true rfl) ?_
  show V μX6_seek 7 m _ 0 [(0, vr 9), (1, vi st), (2, vi e)] [] m
  refine V_rg (k := 1) (x := st) rfl fun r_st => ?_
  refine V_rg (k := 2) (x := e) rfl fun r_e => ?_
  refine V_ld (pc := 0) dX6_seek_0 (v := vr 9) rfl rfl ?_
  refine V_getRv (pc := 1) dX6_seek_1 (o' := 1) fw_RX6_21 rfl hL.t9 hL.r9_0 ?_
  refine V_getR (pc := 4) dX6_seek_4 fw_RX6_25 rfl hL.t1 ?_
  refine V_st (pc := 7) dX6_seek_7 (ls' := [(3, vq (mR m 1 2)), (0, vr 9), (1, vi st), (2, vi e)]) rfl (Nat.le_of_ble_eq_true rfl) rfl ?_
  refine V_ld (pc := 8) dX6_seek_8 (v := vi st) rfl rfl ?_
  refine V_if_lt (pc := 9) dX6_seek_9 (tgt := 26) rfl (fun h9 => ?_) (fun h9 => ?_)
  · skip
    refine V_iconst (pc := 26) dX6_seek_26 (by unfold I32; omega) ?_
    refine V_reti (pc := 27) dX6_seek_27 trivial ?_
    first | (exfalso; omega) | exact ⟨rfl, rfl⟩
  · skip
    refine V_ld (pc := 12) dX6_seek_12 (v := vi st) rfl rfl ?_
    refine V_ld (pc := 13) dX6_seek_13 (v := vr 9) rfl rfl ?_
    refine V_getRv (pc := 14) dX6_seek_14 (o' := 1) fw_RX6_21 rfl hL.t9 hL.r9_0 ?_
    refine V_getRv (pc := 17) dX6_seek_17 (o' := 2) fw_RX6_31 rfl hL.t1 hL.r1_0 ?_
    refine V_getIv (pc := 20) dX6_seek_20 (v := n) fw_RX6_35 rfl hL.t2 hn.1 (fun g20 => ?_)
    refine V_icmp_le (pc := 23) dX6_seek_23 (tgt := 28) rfl (fun h23 => ?_) (fun h23 => ?_)
    · skip
      exfalso; omega
    · skip
      refine V_iconst (pc := 26) dX6_seek_26 (by unfold I32; omega) ?_
      refine V_reti (pc := 27) dX6_seek_27 trivial ?_
      first | (exfalso; omega) | exact ⟨rfl, rfl⟩

set_option maxHeartbeats 4000000 in
theorem z_seekN (n : Int) (m : Mem) (st : Int) (e : Int)   (hL : Lay (mT m) (mR m)) (hn : mI m 2 1 = n ∧ 0 ≤ n ∧ n ≤ 32) (hq : mR m 1 2 = none) (hst : 0 ≤ st ∧ st ≤ n) : Ct μX6_seek 7 [vr 9, vi st, vi e] m (ri fun x_ m' => (x_ = -3) ∧ m = m') := by
  refine Ct_of_V rfl (by decide) rfl (Nat.le_of_ble_eq_true rfl) ?_
  show V μX6_seek 7 m _ 0 [(0, vr 9), (1, vi st), (2, vi e)] [] m
  refine V_rg (k := 1) (x := st) rfl fun r_st => ?_
  refine V_rg (k := 2) (x := e) rfl fun r_e => ?_
  refine V_ld (pc := 0) dX6_seek_0 (v := vr 9) rfl rfl ?_
  refine V_getRv (pc := 1) dX6_seek_1 (o' := 1) fw_RX6_21 rfl hL.t9 hL.r9_0 ?_
  refine V_getRq (pc := 4) dX6_seek_4 (q := none) fw_RX6_25 rfl hL.t1 hq ?_
  refine V_st (pc := 7) dX6_seek_7 (ls' := [(3, vq none), (0, vr 9), (1, vi st), (2, vi e)]) rfl (Nat.le_of_ble_eq_true rfl) rfl ?_
  refine V_ld (pc := 8) dX6_seek_8 (v := vi st) rfl rfl ?_
  refine V_if_lt (pc := 9) dX6_seek_9 (tgt := 26) rfl (fun h9 => ?_) (fun h9 => ?_)
  · skip
    refine V_iconst (pc := 26) dX6_seek_26 (by unfold I32; omega) ?_
    refine V_reti (pc := 27) dX6_seek_27 trivial ?_
    first | (exfalso; omega) | exact ⟨rfl, rfl⟩
  · skip
    refine V_ld (pc := 12) dX6_seek_12 (v := vi st) rfl rfl ?_
    refine V_ld (pc := 13) dX6_seek_13 (v := vr 9) rfl rfl ?_
    refine V_getRv (pc := 14) dX6_seek_14 (o' := 1) fw_RX6_21 rfl hL.t9 hL.r9_0 ?_
    refine V_getRv (pc := 17) dX6_seek_17 (o' := 2) fw_RX6_31 rfl hL.t1 hL.r1_0 ?_
    refine V_getIv (pc := 20) dX6_seek_20 (v := n) fw_RX6_35 rfl hL.t2 hn.1 (fun g20 => ?_)
    refine V_icmp_le (pc := 23) dX6_seek_23 (tgt := 28) rfl (fun h23 => ?_) (fun h23 => ?_)
    · skip
      refine V_ld (pc := 28) dX6_seek_28 (v := vq none) rfl rfl ?_
      refine V_ifnonnull (pc := 29) dX6_seek_29 (tgt := 35) rfl (fun _ h_ => by cases h_) (fun _ => ?_)
      refine V_bipush (pc := 32) dX6_seek_32 (by unfold I32; omega) (by decide) ?_
      refine V_reti (pc := 34) dX6_seek_34 trivial ?_
      first | (exfalso; omega) | exact ⟨rfl, rfl⟩
    · skip
      refine V_iconst (pc := 26) dX6_seek_26 (by unfold I32; omega) ?_
      refine V_reti (pc := 27) dX6_seek_27 trivial ?_
      first | (exfalso; omega) | exact ⟨rfl, rfl⟩
