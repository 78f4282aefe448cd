/-! spell(): the reference writes a part, all levels; spell() of both -/
/-- the kids of a part, or none -/
theorem kid_o {T : Tb} {c f p : Nat} (hW : WfT T 0 c) (hp : p < c) (hh : T p 10 < (f : Int) + 1) : KidO T p (T p 2).toNat (T p 7) ∧ ((T p 2).toNat = 0 ∨ mxC T 10 (T p 2).toNat (T p 7) < (f : Int)) ∧ (T p 0 < 3 → (T p 2).toNat = 0) := by
  rcases hW p (Nat.zero_le _) hp with e | e
  · have h2 := e.2.2.1
    exact ⟨Or.inl ⟨by omega, e.2.2.2.1⟩, Or.inl (by omega), fun _ => by omega⟩
  · obtain ⟨q, l, i1, i2, i3, i4, i5, i6, i7, i8, i9⟩ := e
    have hq : (T p 2).toNat = q := by omega
    rw [hq]
    exact ⟨Or.inr ⟨l, i4, i5⟩, Or.inr (by omega), fun h => by omega⟩

set_option maxHeartbeats 16000000 in
theorem r_spellsS (T : Tb) (c : Nat) (f : Nat) (m : Mem) (p : Int) (b : Int)   (hL : Lay (mT m) (mR m)) (hT : RTab (mI m) T c) (hp : 0 ≤ p ∧ p < (c : Int) ∧ c ≤ 240) (hb : b = 0 ∨ b = 1) (hW : WfT T 0 c ∧ CRs T c f) (hh : T p.toNat 10 < (f : Int) + 1) (hr : 0 ≤ mI m 30 22 ∧ mI m 30 22 + T p.toNat 11 + 2 * b ≤ 120) : Ct μX11_spells (f + 4) [vr 30, vi p, vi b] m (rv fun m' => apM 30 22 44 m (brS b (splF T (f + 1) p.toNat)) = m') := by
  refine Ct_of_V rfl (by decide) rfl (Nat.le_of_ble_eq_true rfl) ?_
  show V μX11_spells (f + 4) m _ 0 [(0, vr 30), (1, vi p), (2, vi b)] [] m
  refine V_rg (k := 1) (x := p) rfl fun r_p => ?_
  refine V_rg (k := 2) (x := b) rfl fun r_b => ?_
  have hp_ : p.toNat < c := by omega
  have hI := fun (_ : Unit) h => inn_fact (f := f) hW.1 hp_ hh h
  have hE := fun (_ : Unit) h => lef_fact hW.1 hp_ h
  have hpp : ((p.toNat : Nat) : Int) = p := by omega
  have hKo := fun (_ : Unit) => kid_o (f := f) hW.1 hp_ hh
  have hKo1 := fun (_ : Unit) => (hKo ()).1
  rw [hpp] at hKo1
  have hq := hT p.toNat hp_
  have hq0 := hq.1
  have hq1 := hq.2.1
  have hq7 := hq.2.2.2.2.2.2.2.1
  clear hq
  have h06 : 0 ≤ T p.toNat 0 ∧ T p.toNat 0 ≤ 6 := by
    by_cases h : T p.toNat 0 < 3
    · exact ⟨(hE () h).1, by omega⟩
    · exact ⟨by omega, (hI () (by omega)).2.2.2.2.1⟩
  have hK0 : T p.toNat 0 < 3 → (kidS T (splF T f) (T p.toNat 0) true (T p.toNat 2).toNat (T p.toNat 7)) = [] := fun h => by rw [(hKo ()).2.2 h]; rfl
  obtain ⟨kl, hkl⟩ : ∃ kl : Nat, (kidS T (splF T f) (T p.toNat 0) true (T p.toNat 2).toNat (T p.toNat 7)).length = kl := ⟨_, rfl⟩
  obtain ⟨ql, hql⟩ : ∃ ql : Int, qLen (T p.toNat 3) (T p.toNat 4) (T p.toNat 5) = ql := ⟨_, rfl⟩
  have hqs := qS_len (T p.toNat 3) (T p.toNat 4) (T p.toNat 5)
  rw [hql] at hqs
  have hlx : (T p.toNat 0 < 3 → kl = 0 ∧ T p.toNat 11 = 1) ∧ (T p.toNat 0 = 6 → (kl : Int) + 3 = T p.toNat 11) ∧ (T p.toNat 0 = 5 → (kl : Int) + ql = T p.toNat 11 ∧ 1 ≤ ql) ∧ (3 ≤ T p.toNat 0 → T p.toNat 0 ≤ 4 → (kl : Int) = T p.toNat 11) ∧ (T p.toNat 0 = 0 → 0 ≤ T p.toNat 1 ∧ T p.toNat 1 ≤ 25) := by
    rw [← hkl, ← hql]
    refine ⟨fun h => ⟨by rw [hK0 h]; rfl, (hE () h).2.1⟩, fun h => (hI () (by omega)).2.2.2.2.2.1 h, fun h => (hI () (by omega)).2.2.2.2.2.2.1 h, fun h h2 => (hI () h).2.2.2.2.2.2.2.1 h2, fun h => (hE () (by omega)).2.2.2 h⟩
  have hB5 := fun (h : T p.toNat 0 = 5) => (hI () (by omega)).2.2.2.2.2.2.2.2 h
  refine V_ld (pc := 0) dX11_spells_0 (v := vi b) rfl rfl ?_
  refine V_if_eq (pc := 1) dX11_spells_1 (tgt := 10) rfl (fun h1 => ?_) (fun h1 => ?_)
  · skip
    refine V_iconst (pc := 10) dX11_spells_10 (by unfold I32; omega) ?_
    refine V_st (pc := 11) dX11_spells_11 (ls' := [(3, vi 0), (0, vr 30), (1, vi p), (2, vi b)]) rfl (Nat.le_of_ble_eq_true rfl) rfl ?_
    refine V_ld (pc := 12) dX11_spells_12 (v := vr 30) rfl rfl ?_
    refine V_getRv (pc := 13) dX11_spells_13 (o' := 35) fw_RX11_24 rfl hL.t30 hL.r30_10 ?_
    refine V_ld (pc := 16) dX11_spells_16 (v := vi p) rfl rfl ?_
    refine V_ialdv (pc := 17) dX11_spells_17 (v := (T p.toNat 0)) hL.t35 (by omega) hq0 (fun g17 => ?_)
    refine V_if_ne (pc := 18) dX11_spells_18 (tgt := 37) rfl (fun h18 => ?_) (fun h18 => ?_)
    · skip
      refine V_ld (pc := 37) dX11_spells_37 (v := vr 30) rfl rfl ?_
      refine V_getRv (pc := 38) dX11_spells_38 (o' := 35) fw_RX11_24 rfl hL.t30 hL.r30_10 ?_
      refine V_ld (pc := 41) dX11_spells_41 (v := vi p) rfl rfl ?_
      refine V_ialdv (pc := 42) dX11_spells_42 (v := (T p.toNat 0)) hL.t35 (by omega) hq0 (fun g42 => ?_)
      refine V_iconst (pc := 43) dX11_spells_43 (by unfold I32; omega) ?_
      refine V_icmp_eq (pc := 44) dX11_spells_44 (tgt := 57) rfl (fun h44 => ?_) (fun h44 => ?_)
      · skip
        refine V_ld (pc := 57) dX11_spells_57 (v := vr 30) rfl rfl ?_
        refine V_ld (pc := 58) dX11_spells_58 (v := vr 30) rfl rfl ?_
        refine V_getRv (pc := 59) dX11_spells_59 (o' := 35) fw_RX11_24 rfl hL.t30 hL.r30_10 ?_
        refine V_ld (pc := 62) dX11_spells_62 (v := vi p) rfl rfl ?_
        refine V_ialdv (pc := 63) dX11_spells_63 (v := (T p.toNat 0)) hL.t35 (by omega) hq0 (fun g63 => ?_)
        refine V_iconst (pc := 64) dX11_spells_64 (by unfold I32; omega) ?_
        refine V_icmp_ne (pc := 65) dX11_spells_65 (tgt := 73) rfl (fun h65 => ?_) (fun h65 => ?_)
        · skip
          refine V_bipush (pc := 73) dX11_spells_73 (by unfold I32; omega) (by decide) ?_
          refine V_callV (pc := 75) dX11_spells_75 (F' := 0) (As := [vi 36]) (st := []) cw_RX11_203 rfl rfl hL.t30 (by decide) (Nat.le_of_ble_eq_true rfl) (by omega) (r_wr1  m 36   (by first | assumption | omega) (by (try simp only [apM_sz, List.length_append, List.length_cons, List.length_nil]); omega)) ?_
          rintro _ _ ⟨rfl, rfl⟩ ok75 le75
          refine V_goto (pc := 78) dX11_spells_78 (tgt := 104) rfl ?_
          refine V_ld (pc := 104) dX11_spells_104 (v := vr 30) rfl rfl ?_
          refine V_getRv (pc := 105) dX11_spells_105 (o' := 41) fw_RX11_42 rfl hL.t30 hL.r30_16 ?_
          refine V_ld (pc := 108) dX11_spells_108 (v := vi p) rfl rfl ?_
          refine V_ialdv (pc := 109) dX11_spells_109 (v := (T p.toNat 7)) hL.t41 (by omega) ((apM_ne (by omega) (by omega)).trans hq7) (fun g109 => ?_)
          refine V_st (pc := 110) dX11_spells_110 (ls' := [(4, vi (T p.toNat 7)), (3, vi 0), (0, vr 30), (1, vi p), (2, vi b)]) rfl (Nat.le_of_ble_eq_true rfl) rfl ?_
          skip
          refine V_mem (m' := apM 30 22 44 m ([36])) (rfl) ?_
          refine L_rsp (m := m) (c := c) (f := f) (T := T) (p := p) (b := b) (by omega) hL hT hp hW.1 hW.2 hr.1 (T p.toNat 2).toNat 0 (T p.toNat 7) 0 ([36]) (hKo1 ()) (hKo ()).2.1 rfl ?_ (fun s' => ?_)
          · rw [show decide ((0 : Nat) = 0) = true from rfl]
            simp only [List.length_append, List.length_cons, List.length_nil]
            omega
          rw [show decide ((0 : Nat) = 0) = true from rfl]
          refine V_ld (pc := 281) dX11_spells_281 (v := vr 30) rfl rfl ?_
          refine V_getRv (pc := 282) dX11_spells_282 (o' := 35) fw_RX11_24 rfl hL.t30 hL.r30_10 ?_
          refine V_ld (pc := 285) dX11_spells_285 (v := vi p) rfl rfl ?_
          refine V_ialdv (pc := 286) dX11_spells_286 (v := (T p.toNat 0)) hL.t35 (by omega) ((apM_ne (by omega) (by omega)).trans hq0) (fun g286 => ?_)
          refine V_bipush (pc := 287) dX11_spells_287 (by unfold I32; omega) (by decide) ?_
          refine V_icmp_ne (pc := 289) dX11_spells_289 (tgt := 298) rfl (fun h289 => ?_) (fun h289 => ?_)
          · skip
            refine V_ld (pc := 298) dX11_spells_298 (v := vr 30) rfl rfl ?_
            refine V_getRv (pc := 299) dX11_spells_299 (o' := 35) fw_RX11_24 rfl hL.t30 hL.r30_10 ?_
            refine V_ld (pc := 302) dX11_spells_302 (v := vi p) rfl rfl ?_
            refine V_ialdv (pc := 303) dX11_spells_303 (v := (T p.toNat 0)) hL.t35 (by omega) ((apM_ne (by omega) (by omega)).trans hq0) (fun g303 => ?_)
            refine V_iconst (pc := 304) dX11_spells_304 (by unfold I32; omega) ?_
            refine V_icmp_ne (pc := 305) dX11_spells_305 (tgt := 313) rfl (fun h305 => ?_) (fun h305 => ?_)
            · skip
              refine V_ld (pc := 313) dX11_spells_313 (v := vi b) rfl rfl ?_
              refine V_if_eq (pc := 314) dX11_spells_314 (tgt := 323) rfl (fun h314 => ?_) (fun h314 => ?_)
              · skip
                refine V_retv (pc := 323) dX11_spells_323 trivial ?_
                first
                  | (exfalso; omega)
                  | ((repeat rw [apM_app])
                     exact congrArg (apM 30 22 44 m) (by
                       unfold brS
                       first | rw [if_pos (show b = 1 by omega), if_pos (show b = 1 by omega)] | rw [if_neg (show ¬ b = 1 by omega), if_neg (show ¬ b = 1 by omega)]
                       first
                         | rw [splF_0 (by omega), hK0 (by omega)]
                         | rw [splF_1 (by omega), hK0 (by omega)]
                         | rw [splF_2 (by omega), hK0 (by omega)]
                         | rw [splF_6 (by omega)]
                         | rw [splF_5 (by omega)]
                         | rw [splF_34 (by omega)]
                       first | done | rfl | simp only [List.append_assoc, List.cons_append, List.nil_append, List.append_nil]))
              · skip
                refine V_ld (pc := 317) dX11_spells_317 (v := vr 30) rfl rfl ?_
                refine V_bipush (pc := 318) dX11_spells_318 (by unfold I32; omega) (by decide) ?_
                refine V_callV (pc := 320) dX11_spells_320 (F' := 0) (As := [vi 41]) (st := []) cw_RX11_203 rfl rfl hL.t30 (by decide) (Nat.le_of_ble_eq_true rfl) (by omega) (r_wr1  (apM 30 22 44 m (([36]) ++ (kidS T (splF T f) (T p.toNat 0) true (T p.toNat 2).toNat (T p.toNat 7)))) 41   (by first | assumption | omega) (by (try simp only [apM_sz, List.length_append, List.length_cons, List.length_nil]); omega)) ?_
                rintro _ _ ⟨rfl, rfl⟩ ok320 le320
                refine V_retv (pc := 323) dX11_spells_323 trivial ?_
                first
                  | (exfalso; omega)
                  | ((repeat rw [apM_app])
                     exact congrArg (apM 30 22 44 m) (by
                       unfold brS
                       first | rw [if_pos (show b = 1 by omega), if_pos (show b = 1 by omega)] | rw [if_neg (show ¬ b = 1 by omega), if_neg (show ¬ b = 1 by omega)]
                       first
                         | rw [splF_0 (by omega), hK0 (by omega)]
                         | rw [splF_1 (by omega), hK0 (by omega)]
                         | rw [splF_2 (by omega), hK0 (by omega)]
                         | rw [splF_6 (by omega)]
                         | rw [splF_5 (by omega)]
                         | rw [splF_34 (by omega)]
                       first | done | rfl | simp only [List.append_assoc, List.cons_append, List.nil_append, List.append_nil]))
            · skip
              refine V_ld (pc := 308) dX11_spells_308 (v := vr 30) rfl rfl ?_
              refine V_ld (pc := 309) dX11_spells_309 (v := vi p) rfl rfl ?_
              refine V_callV (pc := 310) dX11_spells_310 (F' := 2) (As := [vi p]) (st := []) cw_RX11_210 rfl rfl hL.t30 (by decide) (Nat.le_of_ble_eq_true rfl) (by omega) (r_times T c (apM 30 22 44 m (([36]) ++ (kidS T (splF T f) (T p.toNat 0) true (T p.toNat 2).toNat (T p.toNat 7)))) p   (by first | assumption | omega) (fun p_ hp_ => by have h_ := hT p_ hp_; (repeat rw [apM_ne (by omega) (by omega)]); exact h_) ⟨hp.1, hp.2.1, hp.2.2⟩ (hB5 (by omega)) (by (try simp only [apM_sz, List.length_append, List.length_cons, List.length_nil]); omega)) ?_
              rintro _ _ ⟨rfl, rfl⟩ ok310 le310
              refine V_ld (pc := 313) dX11_spells_313 (v := vi b) rfl rfl ?_
              refine V_if_eq (pc := 314) dX11_spells_314 (tgt := 323) rfl (fun h314 => ?_) (fun h314 => ?_)
              · skip
                refine V_retv (pc := 323) dX11_spells_323 trivial ?_
                first
                  | (exfalso; omega)
                  | ((repeat rw [apM_app])
                     exact congrArg (apM 30 22 44 m) (by
                       unfold brS
                       first | rw [if_pos (show b = 1 by omega), if_pos (show b = 1 by omega)] | rw [if_neg (show ¬ b = 1 by omega), if_neg (show ¬ b = 1 by omega)]
                       first
                         | rw [splF_0 (by omega), hK0 (by omega)]
                         | rw [splF_1 (by omega), hK0 (by omega)]
                         | rw [splF_2 (by omega), hK0 (by omega)]
                         | rw [splF_6 (by omega)]
                         | rw [splF_5 (by omega)]
                         | rw [splF_34 (by omega)]
                       first | done | rfl | simp only [List.append_assoc, List.cons_append, List.nil_append, List.append_nil]))
              · skip
                refine V_ld (pc := 317) dX11_spells_317 (v := vr 30) rfl rfl ?_
                refine V_bipush (pc := 318) dX11_spells_318 (by unfold I32; omega) (by decide) ?_
                refine V_callV (pc := 320) dX11_spells_320 (F' := 0) (As := [vi 41]) (st := []) cw_RX11_203 rfl rfl hL.t30 (by decide) (Nat.le_of_ble_eq_true rfl) (by omega) (r_wr1  (apM 30 22 44 (apM 30 22 44 m (([36]) ++ (kidS T (splF T f) (T p.toNat 0) true (T p.toNat 2).toNat (T p.toNat 7)))) (qS (T p.toNat 3) (T p.toNat 4) (T p.toNat 5))) 41   (by first | assumption | omega) (by (try simp only [apM_sz, List.length_append, List.length_cons, List.length_nil]); omega)) ?_
                rintro _ _ ⟨rfl, rfl⟩ ok320 le320
                refine V_retv (pc := 323) dX11_spells_323 trivial ?_
                first
                  | (exfalso; omega)
                  | ((repeat rw [apM_app])
                     exact congrArg (apM 30 22 44 m) (by
                       unfold brS
                       first | rw [if_pos (show b = 1 by omega), if_pos (show b = 1 by omega)] | rw [if_neg (show ¬ b = 1 by omega), if_neg (show ¬ b = 1 by omega)]
                       first
                         | rw [splF_0 (by omega), hK0 (by omega)]
                         | rw [splF_1 (by omega), hK0 (by omega)]
                         | rw [splF_2 (by omega), hK0 (by omega)]
                         | rw [splF_6 (by omega)]
                         | rw [splF_5 (by omega)]
                         | rw [splF_34 (by omega)]
                       first | done | rfl | simp only [List.append_assoc, List.cons_append, List.nil_append, List.append_nil]))
          · skip
            refine V_ld (pc := 292) dX11_spells_292 (v := vr 30) rfl rfl ?_
            refine V_bipush (pc := 293) dX11_spells_293 (by unfold I32; omega) (by decide) ?_
            refine V_callV (pc := 295) dX11_spells_295 (F' := 0) (As := [vi 41]) (st := []) cw_RX11_203 rfl rfl hL.t30 (by decide) (Nat.le_of_ble_eq_true rfl) (by omega) (r_wr1  (apM 30 22 44 m (([36]) ++ (kidS T (splF T f) (T p.toNat 0) true (T p.toNat 2).toNat (T p.toNat 7)))) 41   (by first | assumption | omega) (by (try simp only [apM_sz, List.length_append, List.length_cons, List.length_nil]); omega)) ?_
            rintro _ _ ⟨rfl, rfl⟩ ok295 le295
            refine V_ld (pc := 298) dX11_spells_298 (v := vr 30) rfl rfl ?_
            refine V_getRv (pc := 299) dX11_spells_299 (o' := 35) fw_RX11_24 rfl hL.t30 hL.r30_10 ?_
            refine V_ld (pc := 302) dX11_spells_302 (v := vi p) rfl rfl ?_
            refine V_ialdv (pc := 303) dX11_spells_303 (v := (T p.toNat 0)) hL.t35 (by omega) ((apM_ne (by omega) (by omega)).trans ((apM_ne (by omega) (by omega)).trans hq0)) (fun g303 => ?_)
            refine V_iconst (pc := 304) dX11_spells_304 (by unfold I32; omega) ?_
            refine V_icmp_ne (pc := 305) dX11_spells_305 (tgt := 313) rfl (fun h305 => ?_) (fun h305 => ?_)
            · skip
              refine V_ld (pc := 313) dX11_spells_313 (v := vi b) rfl rfl ?_
              refine V_if_eq (pc := 314) dX11_spells_314 (tgt := 323) rfl (fun h314 => ?_) (fun h314 => ?_)
              · skip
                refine V_retv (pc := 323) dX11_spells_323 trivial ?_
                first
                  | (exfalso; omega)
                  | ((repeat rw [apM_app])
                     exact congrArg (apM 30 22 44 m) (by
                       unfold brS
                       first | rw [if_pos (show b = 1 by omega), if_pos (show b = 1 by omega)] | rw [if_neg (show ¬ b = 1 by omega), if_neg (show ¬ b = 1 by omega)]
                       first
                         | rw [splF_0 (by omega), hK0 (by omega)]
                         | rw [splF_1 (by omega), hK0 (by omega)]
                         | rw [splF_2 (by omega), hK0 (by omega)]
                         | rw [splF_6 (by omega)]
                         | rw [splF_5 (by omega)]
                         | rw [splF_34 (by omega)]
                       first | done | rfl | simp only [List.append_assoc, List.cons_append, List.nil_append, List.append_nil]))
              · skip
                refine V_ld (pc := 317) dX11_spells_317 (v := vr 30) rfl rfl ?_
                refine V_bipush (pc := 318) dX11_spells_318 (by unfold I32; omega) (by decide) ?_
                refine V_callV (pc := 320) dX11_spells_320 (F' := 0) (As := [vi 41]) (st := []) cw_RX11_203 rfl rfl hL.t30 (by decide) (Nat.le_of_ble_eq_true rfl) (by omega) (r_wr1  (apM 30 22 44 (apM 30 22 44 m (([36]) ++ (kidS T (splF T f) (T p.toNat 0) true (T p.toNat 2).toNat (T p.toNat 7)))) [41]) 41   (by first | assumption | omega) (by (try simp only [apM_sz, List.length_append, List.length_cons, List.length_nil]); omega)) ?_
                rintro _ _ ⟨rfl, rfl⟩ ok320 le320
                refine V_retv (pc := 323) dX11_spells_323 trivial ?_
                first
                  | (exfalso; omega)
                  | ((repeat rw [apM_app])
                     exact congrArg (apM 30 22 44 m) (by
                       unfold brS
                       first | rw [if_pos (show b = 1 by omega), if_pos (show b = 1 by omega)] | rw [if_neg (show ¬ b = 1 by omega), if_neg (show ¬ b = 1 by omega)]
                       first
                         | rw [splF_0 (by omega), hK0 (by omega)]
                         | rw [splF_1 (by omega), hK0 (by omega)]
                         | rw [splF_2 (by omega), hK0 (by omega)]
                         | rw [splF_6 (by omega)]
                         | rw [splF_5 (by omega)]
                         | rw [splF_34 (by omega)]
                       first | done | rfl | simp only [List.append_assoc, List.cons_append, List.nil_append, List.append_nil]))
            · skip
              refine V_ld (pc := 308) dX11_spells_308 (v := vr 30) rfl rfl ?_
              refine V_ld (pc := 309) dX11_spells_309 (v := vi p) rfl rfl ?_
              refine V_callV (pc := 310) dX11_spells_310 (F' := 2) (As := [vi p]) (st := []) cw_RX11_210 rfl rfl hL.t30 (by decide) (Nat.le_of_ble_eq_true rfl) (by omega) (r_times T c (apM 30 22 44 (apM 30 22 44 m (([36]) ++ (kidS T (splF T f) (T p.toNat 0) true (T p.toNat 2).toNat (T p.toNat 7)))) [41]) p   (by first | assumption | omega) (fun p_ hp_ => by have h_ := hT p_ hp_; (repeat rw [apM_ne (by omega) (by omega)]); exact h_) ⟨hp.1, hp.2.1, hp.2.2⟩ (hB5 (by omega)) (by (try simp only [apM_sz, List.length_append, List.length_cons, List.length_nil]); omega)) ?_
              rintro _ _ ⟨rfl, rfl⟩ ok310 le310
              refine V_ld (pc := 313) dX11_spells_313 (v := vi b) rfl rfl ?_
              refine V_if_eq (pc := 314) dX11_spells_314 (tgt := 323) rfl (fun h314 => ?_) (fun h314 => ?_)
              · skip
                refine V_retv (pc := 323) dX11_spells_323 trivial ?_
                first
                  | (exfalso; omega)
                  | ((repeat rw [apM_app])
                     exact congrArg (apM 30 22 44 m) (by
                       unfold brS
                       first | rw [if_pos (show b = 1 by omega), if_pos (show b = 1 by omega)] | rw [if_neg (show ¬ b = 1 by omega), if_neg (show ¬ b = 1 by omega)]
                       first
                         | rw [splF_0 (by omega), hK0 (by omega)]
                         | rw [splF_1 (by omega), hK0 (by omega)]
                         | rw [splF_2 (by omega), hK0 (by omega)]
                         | rw [splF_6 (by omega)]
                         | rw [splF_5 (by omega)]
                         | rw [splF_34 (by omega)]
                       first | done | rfl | simp only [List.append_assoc, List.cons_append, List.nil_append, List.append_nil]))
              · skip
                refine V_ld (pc := 317) dX11_spells_317 (v := vr 30) rfl rfl ?_
                refine V_bipush (pc := 318) dX11_spells_318 (by unfold I32; omega) (by decide) ?_
                refine V_callV (pc := 320) dX11_spells_320 (F' := 0) (As := [vi 41]) (st := []) cw_RX11_203 rfl rfl hL.t30 (by decide) (Nat.le_of_ble_eq_true rfl) (by omega) (r_wr1  (apM 30 22 44 (apM 30 22 44 (apM 30 22 44 m (([36]) ++ (kidS T (splF T f) (T p.toNat 0) true (T p.toNat 2).toNat (T p.toNat 7)))) [41]) (qS (T p.toNat 3) (T p.toNat 4) (T p.toNat 5))) 41   (by first | assumption | omega) (by (try simp only [apM_sz, List.length_append, List.length_cons, List.length_nil]); omega)) ?_
                rintro _ _ ⟨rfl, rfl⟩ ok320 le320
                refine V_retv (pc := 323) dX11_spells_323 trivial ?_
                first
                  | (exfalso; omega)
                  | ((repeat rw [apM_app])
                     exact congrArg (apM 30 22 44 m) (by
                       unfold brS
                       first | rw [if_pos (show b = 1 by omega), if_pos (show b = 1 by omega)] | rw [if_neg (show ¬ b = 1 by omega), if_neg (show ¬ b = 1 by omega)]
                       first
                         | rw [splF_0 (by omega), hK0 (by omega)]
                         | rw [splF_1 (by omega), hK0 (by omega)]
                         | rw [splF_2 (by omega), hK0 (by omega)]
                         | rw [splF_6 (by omega)]
                         | rw [splF_5 (by omega)]
                         | rw [splF_34 (by omega)]
                       first | done | rfl | simp only [List.append_assoc, List.cons_append, List.nil_append, List.append_nil]))
        · skip
          refine V_bipush (pc := 68) dX11_spells_68 (by unfold I32; omega) (by decide) ?_
          refine V_goto (pc := 70) dX11_spells_70 (tgt := 75) rfl ?_
          refine V_callV (pc := 75) dX11_spells_75 (F' := 0) (As := [vi 94]) (st := []) cw_RX11_203 rfl rfl hL.t30 (by decide) (Nat.le_of_ble_eq_true rfl) (by omega) (r_wr1  m 94   (by first | assumption | omega) (by (try simp only [apM_sz, List.length_append, List.length_cons, List.length_nil]); omega)) ?_
          rintro _ _ ⟨rfl, rfl⟩ ok75 le75
          refine V_goto (pc := 78) dX11_spells_78 (tgt := 104) rfl ?_
          refine V_ld (pc := 104) dX11_spells_104 (v := vr 30) rfl rfl ?_
          refine V_getRv (pc := 105) dX11_spells_105 (o' := 41) fw_RX11_42 rfl hL.t30 hL.r30_16 ?_
          refine V_ld (pc := 108) dX11_spells_108 (v := vi p) rfl rfl ?_
          refine V_ialdv (pc := 109) dX11_spells_109 (v := (T p.toNat 7)) hL.t41 (by omega) ((apM_ne (by omega) (by omega)).trans hq7) (fun g109 => ?_)
          refine V_st (pc := 110) dX11_spells_110 (ls' := [(4, vi (T p.toNat 7)), (3, vi 0), (0, vr 30), (1, vi p), (2, vi b)]) rfl (Nat.le_of_ble_eq_true rfl) rfl ?_
          skip
          refine V_mem (m' := apM 30 22 44 m ([94])) (rfl) ?_
          refine L_rsp (m := m) (c := c) (f := f) (T := T) (p := p) (b := b) (by omega) hL hT hp hW.1 hW.2 hr.1 (T p.toNat 2).toNat 0 (T p.toNat 7) 0 ([94]) (hKo1 ()) (hKo ()).2.1 rfl ?_ (fun s' => ?_)
          · rw [show decide ((0 : Nat) = 0) = true from rfl]
            simp only [List.length_append, List.length_cons, List.length_nil]
            omega
          rw [show decide ((0 : Nat) = 0) = true from rfl]
          refine V_ld (pc := 281) dX11_spells_281 (v := vr 30) rfl rfl ?_
          refine V_getRv (pc := 282) dX11_spells_282 (o' := 35) fw_RX11_24 rfl hL.t30 hL.r30_10 ?_
          refine V_ld (pc := 285) dX11_spells_285 (v := vi p) rfl rfl ?_
          refine V_ialdv (pc := 286) dX11_spells_286 (v := (T p.toNat 0)) hL.t35 (by omega) ((apM_ne (by omega) (by omega)).trans hq0) (fun g286 => ?_)
          refine V_bipush (pc := 287) dX11_spells_287 (by unfold I32; omega) (by decide) ?_
          refine V_icmp_ne (pc := 289) dX11_spells_289 (tgt := 298) rfl (fun h289 => ?_) (fun h289 => ?_)
          · skip
            refine V_ld (pc := 298) dX11_spells_298 (v := vr 30) rfl rfl ?_
            refine V_getRv (pc := 299) dX11_spells_299 (o' := 35) fw_RX11_24 rfl hL.t30 hL.r30_10 ?_
            refine V_ld (pc := 302) dX11_spells_302 (v := vi p) rfl rfl ?_
            refine V_ialdv (pc := 303) dX11_spells_303 (v := (T p.toNat 0)) hL.t35 (by omega) ((apM_ne (by omega) (by omega)).trans hq0) (fun g303 => ?_)
            refine V_iconst (pc := 304) dX11_spells_304 (by unfold I32; omega) ?_
            refine V_icmp_ne (pc := 305) dX11_spells_305 (tgt := 313) rfl (fun h305 => ?_) (fun h305 => ?_)
            · skip
              refine V_ld (pc := 313) dX11_spells_313 (v := vi b) rfl rfl ?_
              refine V_if_eq (pc := 314) dX11_spells_314 (tgt := 323) rfl (fun h314 => ?_) (fun h314 => ?_)
              · skip
                refine V_retv (pc := 323) dX11_spells_323 trivial ?_
                first
                  | (exfalso; omega)
                  | ((repeat rw [apM_app])
                     exact congrArg (apM 30 22 44 m) (by
                       unfold brS
                       first | rw [if_pos (show b = 1 by omega), if_pos (show b = 1 by omega)] | rw [if_neg (show ¬ b = 1 by omega), if_neg (show ¬ b = 1 by omega)]
                       first
                         | rw [splF_0 (by omega), hK0 (by omega)]
                         | rw [splF_1 (by omega), hK0 (by omega)]
                         | rw [splF_2 (by omega), hK0 (by omega)]
                         | rw [splF_6 (by omega)]
                         | rw [splF_5 (by omega)]
                         | rw [splF_34 (by omega)]
                       first | done | rfl | simp only [List.append_assoc, List.cons_append, List.nil_append, List.append_nil]))
              · skip
                refine V_ld (pc := 317) dX11_spells_317 (v := vr 30) rfl rfl ?_
                refine V_bipush (pc := 318) dX11_spells_318 (by unfold I32; omega) (by decide) ?_
                refine V_callV (pc := 320) dX11_spells_320 (F' := 0) (As := [vi 41]) (st := []) cw_RX11_203 rfl rfl hL.t30 (by decide) (Nat.le_of_ble_eq_true rfl) (by omega) (r_wr1  (apM 30 22 44 m (([94]) ++ (kidS T (splF T f) (T p.toNat 0) true (T p.toNat 2).toNat (T p.toNat 7)))) 41   (by first | assumption | omega) (by (try simp only [apM_sz, List.length_append, List.length_cons, List.length_nil]); omega)) ?_
                rintro _ _ ⟨rfl, rfl⟩ ok320 le320
                refine V_retv (pc := 323) dX11_spells_323 trivial ?_
                first
                  | (exfalso; omega)
                  | ((repeat rw [apM_app])
                     exact congrArg (apM 30 22 44 m) (by
                       unfold brS
                       first | rw [if_pos (show b = 1 by omega), if_pos (show b = 1 by omega)] | rw [if_neg (show ¬ b = 1 by omega), if_neg (show ¬ b = 1 by omega)]
                       first
                         | rw [splF_0 (by omega), hK0 (by omega)]
                         | rw [splF_1 (by omega), hK0 (by omega)]
                         | rw [splF_2 (by omega), hK0 (by omega)]
                         | rw [splF_6 (by omega)]
                         | rw [splF_5 (by omega)]
                         | rw [splF_34 (by omega)]
                       first | done | rfl | simp only [List.append_assoc, List.cons_append, List.nil_append, List.append_nil]))
            · skip
              refine V_ld (pc := 308) dX11_spells_308 (v := vr 30) rfl rfl ?_
              refine V_ld (pc := 309) dX11_spells_309 (v := vi p) rfl rfl ?_
              refine V_callV (pc := 310) dX11_spells_310 (F' := 2) (As := [vi p]) (st := []) cw_RX11_210 rfl rfl hL.t30 (by decide) (Nat.le_of_ble_eq_true rfl) (by omega) (r_times T c (apM 30 22 44 m (([94]) ++ (kidS T (splF T f) (T p.toNat 0) true (T p.toNat 2).toNat (T p.toNat 7)))) p   (by first | assumption | omega) (fun p_ hp_ => by have h_ := hT p_ hp_; (repeat rw [apM_ne (by omega) (by omega)]); exact h_) ⟨hp.1, hp.2.1, hp.2.2⟩ (hB5 (by omega)) (by (try simp only [apM_sz, List.length_append, List.length_cons, List.length_nil]); omega)) ?_
              rintro _ _ ⟨rfl, rfl⟩ ok310 le310
              refine V_ld (pc := 313) dX11_spells_313 (v := vi b) rfl rfl ?_
              refine V_if_eq (pc := 314) dX11_spells_314 (tgt := 323) rfl (fun h314 => ?_) (fun h314 => ?_)
              · skip
                refine V_retv (pc := 323) dX11_spells_323 trivial ?_
                first
                  | (exfalso; omega)
                  | ((repeat rw [apM_app])
                     exact congrArg (apM 30 22 44 m) (by
                       unfold brS
                       first | rw [if_pos (show b = 1 by omega), if_pos (show b = 1 by omega)] | rw [if_neg (show ¬ b = 1 by omega), if_neg (show ¬ b = 1 by omega)]
                       first
                         | rw [splF_0 (by omega), hK0 (by omega)]
                         | rw [splF_1 (by omega), hK0 (by omega)]
                         | rw [splF_2 (by omega), hK0 (by omega)]
                         | rw [splF_6 (by omega)]
                         | rw [splF_5 (by omega)]
                         | rw [splF_34 (by omega)]
                       first | done | rfl | simp only [List.append_assoc, List.cons_append, List.nil_append, List.append_nil]))
              · skip
                refine V_ld (pc := 317) dX11_spells_317 (v := vr 30) rfl rfl ?_
                refine V_bipush (pc := 318) dX11_spells_318 (by unfold I32; omega) (by decide) ?_
                refine V_callV (pc := 320) dX11_spells_320 (F' := 0) (As := [vi 41]) (st := []) cw_RX11_203 rfl rfl hL.t30 (by decide) (Nat.le_of_ble_eq_true rfl) (by omega) (r_wr1  (apM 30 22 44 (apM 30 22 44 m (([94]) ++ (kidS T (splF T f) (T p.toNat 0) true (T p.toNat 2).toNat (T p.toNat 7)))) (qS (T p.toNat 3) (T p.toNat 4) (T p.toNat 5))) 41   (by first | assumption | omega) (by (try simp only [apM_sz, List.length_append, List.length_cons, List.length_nil]); omega)) ?_
                rintro _ _ ⟨rfl, rfl⟩ ok320 le320
                refine V_retv (pc := 323) dX11_spells_323 trivial ?_
                first
                  | (exfalso; omega)
                  | ((repeat rw [apM_app])
                     exact congrArg (apM 30 22 44 m) (by
                       unfold brS
                       first | rw [if_pos (show b = 1 by omega), if_pos (show b = 1 by omega)] | rw [if_neg (show ¬ b = 1 by omega), if_neg (show ¬ b = 1 by omega)]
                       first
                         | rw [splF_0 (by omega), hK0 (by omega)]
                         | rw [splF_1 (by omega), hK0 (by omega)]
                         | rw [splF_2 (by omega), hK0 (by omega)]
                         | rw [splF_6 (by omega)]
                         | rw [splF_5 (by omega)]
                         | rw [splF_34 (by omega)]
                       first | done | rfl | simp only [List.append_assoc, List.cons_append, List.nil_append, List.append_nil]))
          · skip
            refine V_ld (pc := 292) dX11_spells_292 (v := vr 30) rfl rfl ?_
            refine V_bipush (pc := 293) dX11_spells_293 (by unfold I32; omega) (by decide) ?_
            refine V_callV (pc := 295) dX11_spells_295 (F' := 0) (As := [vi 41]) (st := []) cw_RX11_203 rfl rfl hL.t30 (by decide) (Nat.le_of_ble_eq_true rfl) (by omega) (r_wr1  (apM 30 22 44 m (([94]) ++ (kidS T (splF T f) (T p.toNat 0) true (T p.toNat 2).toNat (T p.toNat 7)))) 41   (by first | assumption | omega) (by (try simp only [apM_sz, List.length_append, List.length_cons, List.length_nil]); omega)) ?_
            rintro _ _ ⟨rfl, rfl⟩ ok295 le295
            refine V_ld (pc := 298) dX11_spells_298 (v := vr 30) rfl rfl ?_
            refine V_getRv (pc := 299) dX11_spells_299 (o' := 35) fw_RX11_24 rfl hL.t30 hL.r30_10 ?_
            refine V_ld (pc := 302) dX11_spells_302 (v := vi p) rfl rfl ?_
            refine V_ialdv (pc := 303) dX11_spells_303 (v := (T p.toNat 0)) hL.t35 (by omega) ((apM_ne (by omega) (by omega)).trans ((apM_ne (by omega) (by omega)).trans hq0)) (fun g303 => ?_)
            refine V_iconst (pc := 304) dX11_spells_304 (by unfold I32; omega) ?_
            refine V_icmp_ne (pc := 305) dX11_spells_305 (tgt := 313) rfl (fun h305 => ?_) (fun h305 => ?_)
            · skip
              refine V_ld (pc := 313) dX11_spells_313 (v := vi b) rfl rfl ?_
              refine V_if_eq (pc := 314) dX11_spells_314 (tgt := 323) rfl (fun h314 => ?_) (fun h314 => ?_)
              · skip
                refine V_retv (pc := 323) dX11_spells_323 trivial ?_
                first
                  | (exfalso; omega)
                  | ((repeat rw [apM_app])
                     exact congrArg (apM 30 22 44 m) (by
                       unfold brS
                       first | rw [if_pos (show b = 1 by omega), if_pos (show b = 1 by omega)] | rw [if_neg (show ¬ b = 1 by omega), if_neg (show ¬ b = 1 by omega)]
                       first
                         | rw [splF_0 (by omega), hK0 (by omega)]
                         | rw [splF_1 (by omega), hK0 (by omega)]
                         | rw [splF_2 (by omega), hK0 (by omega)]
                         | rw [splF_6 (by omega)]
                         | rw [splF_5 (by omega)]
                         | rw [splF_34 (by omega)]
                       first | done | rfl | simp only [List.append_assoc, List.cons_append, List.nil_append, List.append_nil]))
              · skip
                refine V_ld (pc := 317) dX11_spells_317 (v := vr 30) rfl rfl ?_
                refine V_bipush (pc := 318) dX11_spells_318 (by unfold I32; omega) (by decide) ?_
                refine V_callV (pc := 320) dX11_spells_320 (F' := 0) (As := [vi 41]) (st := []) cw_RX11_203 rfl rfl hL.t30 (by decide) (Nat.le_of_ble_eq_true rfl) (by omega) (r_wr1  (apM 30 22 44 (apM 30 22 44 m (([94]) ++ (kidS T (splF T f) (T p.toNat 0) true (T p.toNat 2).toNat (T p.toNat 7)))) [41]) 41   (by first | assumption | omega) (by (try simp only [apM_sz, List.length_append, List.length_cons, List.length_nil]); omega)) ?_
                rintro _ _ ⟨rfl, rfl⟩ ok320 le320
                refine V_retv (pc := 323) dX11_spells_323 trivial ?_
                first
                  | (exfalso; omega)
                  | ((repeat rw [apM_app])
                     exact congrArg (apM 30 22 44 m) (by
                       unfold brS
                       first | rw [if_pos (show b = 1 by omega), if_pos (show b = 1 by omega)] | rw [if_neg (show ¬ b = 1 by omega), if_neg (show ¬ b = 1 by omega)]
                       first
                         | rw [splF_0 (by omega), hK0 (by omega)]
                         | rw [splF_1 (by omega), hK0 (by omega)]
                         | rw [splF_2 (by omega), hK0 (by omega)]
                         | rw [splF_6 (by omega)]
                         | rw [splF_5 (by omega)]
                         | rw [splF_34 (by omega)]
                       first | done | rfl | simp only [List.append_assoc, List.cons_append, List.nil_append, List.append_nil]))
            · skip
              refine V_ld (pc := 308) dX11_spells_308 (v := vr 30) rfl rfl ?_
              refine V_ld (pc := 309) dX11_spells_309 (v := vi p) rfl rfl ?_
              refine V_callV (pc := 310) dX11_spells_310 (F' := 2) (As := [vi p]) (st := []) cw_RX11_210 rfl rfl hL.t30 (by decide) (Nat.le_of_ble_eq_true rfl) (by omega) (r_times T c (apM 30 22 44 (apM 30 22 44 m (([94]) ++ (kidS T (splF T f) (T p.toNat 0) true (T p.toNat 2).toNat (T p.toNat 7)))) [41]) p   (by first | assumption | omega) (fun p_ hp_ => by have h_ := hT p_ hp_; (repeat rw [apM_ne (by omega) (by omega)]); exact h_) ⟨hp.1, hp.2.1, hp.2.2⟩ (hB5 (by omega)) (by (try simp only [apM_sz, List.length_append, List.length_cons, List.length_nil]); omega)) ?_
              rintro _ _ ⟨rfl, rfl⟩ ok310 le310
              refine V_ld (pc := 313) dX11_spells_313 (v := vi b) rfl rfl ?_
              refine V_if_eq (pc := 314) dX11_spells_314 (tgt := 323) rfl (fun h314 => ?_) (fun h314 => ?_)
              · skip
                refine V_retv (pc := 323) dX11_spells_323 trivial ?_
                first
                  | (exfalso; omega)
                  | ((repeat rw [apM_app])
                     exact congrArg (apM 30 22 44 m) (by
                       unfold brS
                       first | rw [if_pos (show b = 1 by omega), if_pos (show b = 1 by omega)] | rw [if_neg (show ¬ b = 1 by omega), if_neg (show ¬ b = 1 by omega)]
                       first
                         | rw [splF_0 (by omega), hK0 (by omega)]
                         | rw [splF_1 (by omega), hK0 (by omega)]
                         | rw [splF_2 (by omega), hK0 (by omega)]
                         | rw [splF_6 (by omega)]
                         | rw [splF_5 (by omega)]
                         | rw [splF_34 (by omega)]
                       first | done | rfl | simp only [List.append_assoc, List.cons_append, List.nil_append, List.append_nil]))
              · skip
                refine V_ld (pc := 317) dX11_spells_317 (v := vr 30) rfl rfl ?_
                refine V_bipush (pc := 318) dX11_spells_318 (by unfold I32; omega) (by decide) ?_
                refine V_callV (pc := 320) dX11_spells_320 (F' := 0) (As := [vi 41]) (st := []) cw_RX11_203 rfl rfl hL.t30 (by decide) (Nat.le_of_ble_eq_true rfl) (by omega) (r_wr1  (apM 30 22 44 (apM 30 22 44 (apM 30 22 44 m (([94]) ++ (kidS T (splF T f) (T p.toNat 0) true (T p.toNat 2).toNat (T p.toNat 7)))) [41]) (qS (T p.toNat 3) (T p.toNat 4) (T p.toNat 5))) 41   (by first | assumption | omega) (by (try simp only [apM_sz, List.length_append, List.length_cons, List.length_nil]); omega)) ?_
                rintro _ _ ⟨rfl, rfl⟩ ok320 le320
                refine V_retv (pc := 323) dX11_spells_323 trivial ?_
                first
                  | (exfalso; omega)
                  | ((repeat rw [apM_app])
                     exact congrArg (apM 30 22 44 m) (by
                       unfold brS
                       first | rw [if_pos (show b = 1 by omega), if_pos (show b = 1 by omega)] | rw [if_neg (show ¬ b = 1 by omega), if_neg (show ¬ b = 1 by omega)]
                       first
                         | rw [splF_0 (by omega), hK0 (by omega)]
                         | rw [splF_1 (by omega), hK0 (by omega)]
                         | rw [splF_2 (by omega), hK0 (by omega)]
                         | rw [splF_6 (by omega)]
                         | rw [splF_5 (by omega)]
                         | rw [splF_34 (by omega)]
                       first | done | rfl | simp only [List.append_assoc, List.cons_append, List.nil_append, List.append_nil]))
      · skip
        refine V_ld (pc := 47) dX11_spells_47 (v := vr 30) rfl rfl ?_
        refine V_getRv (pc := 48) dX11_spells_48 (o' := 35) fw_RX11_24 rfl hL.t30 hL.r30_10 ?_
        refine V_ld (pc := 51) dX11_spells_51 (v := vi p) rfl rfl ?_
        refine V_ialdv (pc := 52) dX11_spells_52 (v := (T p.toNat 0)) hL.t35 (by omega) hq0 (fun g52 => ?_)
        refine V_iconst (pc := 53) dX11_spells_53 (by unfold I32; omega) ?_
        refine V_icmp_ne (pc := 54) dX11_spells_54 (tgt := 81) rfl (fun h54 => ?_) (fun h54 => ?_)
        · skip
          refine V_ld (pc := 81) dX11_spells_81 (v := vr 30) rfl rfl ?_
          refine V_getRv (pc := 82) dX11_spells_82 (o' := 35) fw_RX11_24 rfl hL.t30 hL.r30_10 ?_
          refine V_ld (pc := 85) dX11_spells_85 (v := vi p) rfl rfl ?_
          refine V_ialdv (pc := 86) dX11_spells_86 (v := (T p.toNat 0)) hL.t35 (by omega) hq0 (fun g86 => ?_)
          refine V_bipush (pc := 87) dX11_spells_87 (by unfold I32; omega) (by decide) ?_
          refine V_icmp_ne (pc := 89) dX11_spells_89 (tgt := 104) rfl (fun h89 => ?_) (fun h89 => ?_)
          · skip
            refine V_ld (pc := 104) dX11_spells_104 (v := vr 30) rfl rfl ?_
            refine V_getRv (pc := 105) dX11_spells_105 (o' := 41) fw_RX11_42 rfl hL.t30 hL.r30_16 ?_
            refine V_ld (pc := 108) dX11_spells_108 (v := vi p) rfl rfl ?_
            refine V_ialdv (pc := 109) dX11_spells_109 (v := (T p.toNat 7)) hL.t41 (by omega) hq7 (fun g109 => ?_)
            refine V_st (pc := 110) dX11_spells_110 (ls' := [(4, vi (T p.toNat 7)), (3, vi 0), (0, vr 30), (1, vi p), (2, vi b)]) rfl (Nat.le_of_ble_eq_true rfl) rfl ?_
            skip
            refine V_mem (m' := apM 30 22 44 m ([])) (apM_nil.symm) ?_
            refine L_rsp (m := m) (c := c) (f := f) (T := T) (p := p) (b := b) (by omega) hL hT hp hW.1 hW.2 hr.1 (T p.toNat 2).toNat 0 (T p.toNat 7) 0 ([]) (hKo1 ()) (hKo ()).2.1 rfl ?_ (fun s' => ?_)
            · rw [show decide ((0 : Nat) = 0) = true from rfl]
              simp only [List.length_append, List.length_cons, List.length_nil]
              omega
            rw [show decide ((0 : Nat) = 0) = true from rfl]
            refine V_ld (pc := 281) dX11_spells_281 (v := vr 30) rfl rfl ?_
            refine V_getRv (pc := 282) dX11_spells_282 (o' := 35) fw_RX11_24 rfl hL.t30 hL.r30_10 ?_
            refine V_ld (pc := 285) dX11_spells_285 (v := vi p) rfl rfl ?_
            refine V_ialdv (pc := 286) dX11_spells_286 (v := (T p.toNat 0)) hL.t35 (by omega) ((apM_ne (by omega) (by omega)).trans hq0) (fun g286 => ?_)
            refine V_bipush (pc := 287) dX11_spells_287 (by unfold I32; omega) (by decide) ?_
            refine V_icmp_ne (pc := 289) dX11_spells_289 (tgt := 298) rfl (fun h289 => ?_) (fun h289 => ?_)
            · skip
              refine V_ld (pc := 298) dX11_spells_298 (v := vr 30) rfl rfl ?_
              refine V_getRv (pc := 299) dX11_spells_299 (o' := 35) fw_RX11_24 rfl hL.t30 hL.r30_10 ?_
              refine V_ld (pc := 302) dX11_spells_302 (v := vi p) rfl rfl ?_
              refine V_ialdv (pc := 303) dX11_spells_303 (v := (T p.toNat 0)) hL.t35 (by omega) ((apM_ne (by omega) (by omega)).trans hq0) (fun g303 => ?_)
              refine V_iconst (pc := 304) dX11_spells_304 (by unfold I32; omega) ?_
              refine V_icmp_ne (pc := 305) dX11_spells_305 (tgt := 313) rfl (fun h305 => ?_) (fun h305 => ?_)
              · skip
                refine V_ld (pc := 313) dX11_spells_313 (v := vi b) rfl rfl ?_
                refine V_if_eq (pc := 314) dX11_spells_314 (tgt := 323) rfl (fun h314 => ?_) (fun h314 => ?_)
                · skip
                  refine V_retv (pc := 323) dX11_spells_323 trivial ?_
                  first
                    | (exfalso; omega)
                    | ((repeat rw [apM_app])
                       exact congrArg (apM 30 22 44 m) (by
                         unfold brS
                         first | rw [if_pos (show b = 1 by omega), if_pos (show b = 1 by omega)] | rw [if_neg (show ¬ b = 1 by omega), if_neg (show ¬ b = 1 by omega)]
                         first
                           | rw [splF_0 (by omega), hK0 (by omega)]
                           | rw [splF_1 (by omega), hK0 (by omega)]
                           | rw [splF_2 (by omega), hK0 (by omega)]
                           | rw [splF_6 (by omega)]
                           | rw [splF_5 (by omega)]
                           | rw [splF_34 (by omega)]
                         first | done | rfl | simp only [List.append_assoc, List.cons_append, List.nil_append, List.append_nil]))
                · skip
                  refine V_ld (pc := 317) dX11_spells_317 (v := vr 30) rfl rfl ?_
                  refine V_bipush (pc := 318) dX11_spells_318 (by unfold I32; omega) (by decide) ?_
                  refine V_callV (pc := 320) dX11_spells_320 (F' := 0) (As := [vi 41]) (st := []) cw_RX11_203 rfl rfl hL.t30 (by decide) (Nat.le_of_ble_eq_true rfl) (by omega) (r_wr1  (apM 30 22 44 m (([]) ++ (kidS T (splF T f) (T p.toNat 0) true (T p.toNat 2).toNat (T p.toNat 7)))) 41   (by first | assumption | omega) (by (try simp only [apM_sz, List.length_append, List.length_cons, List.length_nil]); omega)) ?_
                  rintro _ _ ⟨rfl, rfl⟩ ok320 le320
                  refine V_retv (pc := 323) dX11_spells_323 trivial ?_
                  first
                    | (exfalso; omega)
                    | ((repeat rw [apM_app])
                       exact congrArg (apM 30 22 44 m) (by
                         unfold brS
                         first | rw [if_pos (show b = 1 by omega), if_pos (show b = 1 by omega)] | rw [if_neg (show ¬ b = 1 by omega), if_neg (show ¬ b = 1 by omega)]
                         first
                           | rw [splF_0 (by omega), hK0 (by omega)]
                           | rw [splF_1 (by omega), hK0 (by omega)]
                           | rw [splF_2 (by omega), hK0 (by omega)]
                           | rw [splF_6 (by omega)]
                           | rw [splF_5 (by omega)]
                           | rw [splF_34 (by omega)]
                         first | done | rfl | simp only [List.append_assoc, List.cons_append, List.nil_append, List.append_nil]))
              · skip
                refine V_ld (pc := 308) dX11_spells_308 (v := vr 30) rfl rfl ?_
                refine V_ld (pc := 309) dX11_spells_309 (v := vi p) rfl rfl ?_
                refine V_callV (pc := 310) dX11_spells_310 (F' := 2) (As := [vi p]) (st := []) cw_RX11_210 rfl rfl hL.t30 (by decide) (Nat.le_of_ble_eq_true rfl) (by omega) (r_times T c (apM 30 22 44 m (([]) ++ (kidS T (splF T f) (T p.toNat 0) true (T p.toNat 2).toNat (T p.toNat 7)))) p   (by first | assumption | omega) (fun p_ hp_ => by have h_ := hT p_ hp_; (repeat rw [apM_ne (by omega) (by omega)]); exact h_) ⟨hp.1, hp.2.1, hp.2.2⟩ (hB5 (by omega)) (by (try simp only [apM_sz, List.length_append, List.length_cons, List.length_nil]); omega)) ?_
                rintro _ _ ⟨rfl, rfl⟩ ok310 le310
                refine V_ld (pc := 313) dX11_spells_313 (v := vi b) rfl rfl ?_
                refine V_if_eq (pc := 314) dX11_spells_314 (tgt := 323) rfl (fun h314 => ?_) (fun h314 => ?_)
                · skip
                  refine V_retv (pc := 323) dX11_spells_323 trivial ?_
                  first
                    | (exfalso; omega)
                    | ((repeat rw [apM_app])
                       exact congrArg (apM 30 22 44 m) (by
                         unfold brS
                         first | rw [if_pos (show b = 1 by omega), if_pos (show b = 1 by omega)] | rw [if_neg (show ¬ b = 1 by omega), if_neg (show ¬ b = 1 by omega)]
                         first
                           | rw [splF_0 (by omega), hK0 (by omega)]
                           | rw [splF_1 (by omega), hK0 (by omega)]
                           | rw [splF_2 (by omega), hK0 (by omega)]
                           | rw [splF_6 (by omega)]
                           | rw [splF_5 (by omega)]
                           | rw [splF_34 (by omega)]
                         first | done | rfl | simp only [List.append_assoc, List.cons_append, List.nil_append, List.append_nil]))
                · skip
                  refine V_ld (pc := 317) dX11_spells_317 (v := vr 30) rfl rfl ?_
                  refine V_bipush (pc := 318) dX11_spells_318 (by unfold I32; omega) (by decide) ?_
                  refine V_callV (pc := 320) dX11_spells_320 (F' := 0) (As := [vi 41]) (st := []) cw_RX11_203 rfl rfl hL.t30 (by decide) (Nat.le_of_ble_eq_true rfl) (by omega) (r_wr1  (apM 30 22 44 (apM 30 22 44 m (([]) ++ (kidS T (splF T f) (T p.toNat 0) true (T p.toNat 2).toNat (T p.toNat 7)))) (qS (T p.toNat 3) (T p.toNat 4) (T p.toNat 5))) 41   (by first | assumption | omega) (by (try simp only [apM_sz, List.length_append, List.length_cons, List.length_nil]); omega)) ?_
                  rintro _ _ ⟨rfl, rfl⟩ ok320 le320
                  refine V_retv (pc := 323) dX11_spells_323 trivial ?_
                  first
                    | (exfalso; omega)
                    | ((repeat rw [apM_app])
                       exact congrArg (apM 30 22 44 m) (by
                         unfold brS
                         first | rw [if_pos (show b = 1 by omega), if_pos (show b = 1 by omega)] | rw [if_neg (show ¬ b = 1 by omega), if_neg (show ¬ b = 1 by omega)]
                         first
                           | rw [splF_0 (by omega), hK0 (by omega)]
                           | rw [splF_1 (by omega), hK0 (by omega)]
                           | rw [splF_2 (by omega), hK0 (by omega)]
                           | rw [splF_6 (by omega)]
                           | rw [splF_5 (by omega)]
                           | rw [splF_34 (by omega)]
                         first | done | rfl | simp only [List.append_assoc, List.cons_append, List.nil_append, List.append_nil]))
            · skip
              refine V_ld (pc := 292) dX11_spells_292 (v := vr 30) rfl rfl ?_
              refine V_bipush (pc := 293) dX11_spells_293 (by unfold I32; omega) (by decide) ?_
              refine V_callV (pc := 295) dX11_spells_295 (F' := 0) (As := [vi 41]) (st := []) cw_RX11_203 rfl rfl hL.t30 (by decide) (Nat.le_of_ble_eq_true rfl) (by omega) (r_wr1  (apM 30 22 44 m (([]) ++ (kidS T (splF T f) (T p.toNat 0) true (T p.toNat 2).toNat (T p.toNat 7)))) 41   (by first | assumption | omega) (by (try simp only [apM_sz, List.length_append, List.length_cons, List.length_nil]); omega)) ?_
              rintro _ _ ⟨rfl, rfl⟩ ok295 le295
              refine V_ld (pc := 298) dX11_spells_298 (v := vr 30) rfl rfl ?_
              refine V_getRv (pc := 299) dX11_spells_299 (o' := 35) fw_RX11_24 rfl hL.t30 hL.r30_10 ?_
              refine V_ld (pc := 302) dX11_spells_302 (v := vi p) rfl rfl ?_
              refine V_ialdv (pc := 303) dX11_spells_303 (v := (T p.toNat 0)) hL.t35 (by omega) ((apM_ne (by omega) (by omega)).trans ((apM_ne (by omega) (by omega)).trans hq0)) (fun g303 => ?_)
              refine V_iconst (pc := 304) dX11_spells_304 (by unfold I32; omega) ?_
              refine V_icmp_ne (pc := 305) dX11_spells_305 (tgt := 313) rfl (fun h305 => ?_) (fun h305 => ?_)
              · skip
                refine V_ld (pc := 313) dX11_spells_313 (v := vi b) rfl rfl ?_
                refine V_if_eq (pc := 314) dX11_spells_314 (tgt := 323) rfl (fun h314 => ?_) (fun h314 => ?_)
                · skip
                  refine V_retv (pc := 323) dX11_spells_323 trivial ?_
                  first
                    | (exfalso; omega)
                    | ((repeat rw [apM_app])
                       exact congrArg (apM 30 22 44 m) (by
                         unfold brS
                         first | rw [if_pos (show b = 1 by omega), if_pos (show b = 1 by omega)] | rw [if_neg (show ¬ b = 1 by omega), if_neg (show ¬ b = 1 by omega)]
                         first
                           | rw [splF_0 (by omega), hK0 (by omega)]
                           | rw [splF_1 (by omega), hK0 (by omega)]
                           | rw [splF_2 (by omega), hK0 (by omega)]
                           | rw [splF_6 (by omega)]
                           | rw [splF_5 (by omega)]
                           | rw [splF_34 (by omega)]
                         first | done | rfl | simp only [List.append_assoc, List.cons_append, List.nil_append, List.append_nil]))
                · skip
                  refine V_ld (pc := 317) dX11_spells_317 (v := vr 30) rfl rfl ?_
                  refine V_bipush (pc := 318) dX11_spells_318 (by unfold I32; omega) (by decide) ?_
                  refine V_callV (pc := 320) dX11_spells_320 (F' := 0) (As := [vi 41]) (st := []) cw_RX11_203 rfl rfl hL.t30 (by decide) (Nat.le_of_ble_eq_true rfl) (by omega) (r_wr1  (apM 30 22 44 (apM 30 22 44 m (([]) ++ (kidS T (splF T f) (T p.toNat 0) true (T p.toNat 2).toNat (T p.toNat 7)))) [41]) 41   (by first | assumption | omega) (by (try simp only [apM_sz, List.length_append, List.length_cons, List.length_nil]); omega)) ?_
                  rintro _ _ ⟨rfl, rfl⟩ ok320 le320
                  refine V_retv (pc := 323) dX11_spells_323 trivial ?_
                  first
                    | (exfalso; omega)
                    | ((repeat rw [apM_app])
                       exact congrArg (apM 30 22 44 m) (by
                         unfold brS
                         first | rw [if_pos (show b = 1 by omega), if_pos (show b = 1 by omega)] | rw [if_neg (show ¬ b = 1 by omega), if_neg (show ¬ b = 1 by omega)]
                         first
                           | rw [splF_0 (by omega), hK0 (by omega)]
                           | rw [splF_1 (by omega), hK0 (by omega)]
                           | rw [splF_2 (by omega), hK0 (by omega)]
                           | rw [splF_6 (by omega)]
                           | rw [splF_5 (by omega)]
                           | rw [splF_34 (by omega)]
                         first | done | rfl | simp only [List.append_assoc, List.cons_append, List.nil_append, List.append_nil]))
              · skip
                refine V_ld (pc := 308) dX11_spells_308 (v := vr 30) rfl rfl ?_
                refine V_ld (pc := 309) dX11_spells_309 (v := vi p) rfl rfl ?_
                refine V_callV (pc := 310) dX11_spells_310 (F' := 2) (As := [vi p]) (st := []) cw_RX11_210 rfl rfl hL.t30 (by decide) (Nat.le_of_ble_eq_true rfl) (by omega) (r_times T c (apM 30 22 44 (apM 30 22 44 m (([]) ++ (kidS T (splF T f) (T p.toNat 0) true (T p.toNat 2).toNat (T p.toNat 7)))) [41]) p   (by first | assumption | omega) (fun p_ hp_ => by have h_ := hT p_ hp_; (repeat rw [apM_ne (by omega) (by omega)]); exact h_) ⟨hp.1, hp.2.1, hp.2.2⟩ (hB5 (by omega)) (by (try simp only [apM_sz, List.length_append, List.length_cons, List.length_nil]); omega)) ?_
                rintro _ _ ⟨rfl, rfl⟩ ok310 le310
                refine V_ld (pc := 313) dX11_spells_313 (v := vi b) rfl rfl ?_
                refine V_if_eq (pc := 314) dX11_spells_314 (tgt := 323) rfl (fun h314 => ?_) (fun h314 => ?_)
                · skip
                  refine V_retv (pc := 323) dX11_spells_323 trivial ?_
                  first
                    | (exfalso; omega)
                    | ((repeat rw [apM_app])
                       exact congrArg (apM 30 22 44 m) (by
                         unfold brS
                         first | rw [if_pos (show b = 1 by omega), if_pos (show b = 1 by omega)] | rw [if_neg (show ¬ b = 1 by omega), if_neg (show ¬ b = 1 by omega)]
                         first
                           | rw [splF_0 (by omega), hK0 (by omega)]
                           | rw [splF_1 (by omega), hK0 (by omega)]
                           | rw [splF_2 (by omega), hK0 (by omega)]
                           | rw [splF_6 (by omega)]
                           | rw [splF_5 (by omega)]
                           | rw [splF_34 (by omega)]
                         first | done | rfl | simp only [List.append_assoc, List.cons_append, List.nil_append, List.append_nil]))
                · skip
                  refine V_ld (pc := 317) dX11_spells_317 (v := vr 30) rfl rfl ?_
                  refine V_bipush (pc := 318) dX11_spells_318 (by unfold I32; omega) (by decide) ?_
                  refine V_callV (pc := 320) dX11_spells_320 (F' := 0) (As := [vi 41]) (st := []) cw_RX11_203 rfl rfl hL.t30 (by decide) (Nat.le_of_ble_eq_true rfl) (by omega) (r_wr1  (apM 30 22 44 (apM 30 22 44 (apM 30 22 44 m (([]) ++ (kidS T (splF T f) (T p.toNat 0) true (T p.toNat 2).toNat (T p.toNat 7)))) [41]) (qS (T p.toNat 3) (T p.toNat 4) (T p.toNat 5))) 41   (by first | assumption | omega) (by (try simp only [apM_sz, List.length_append, List.length_cons, List.length_nil]); omega)) ?_
                  rintro _ _ ⟨rfl, rfl⟩ ok320 le320
                  refine V_retv (pc := 323) dX11_spells_323 trivial ?_
                  first
                    | (exfalso; omega)
                    | ((repeat rw [apM_app])
                       exact congrArg (apM 30 22 44 m) (by
                         unfold brS
                         first | rw [if_pos (show b = 1 by omega), if_pos (show b = 1 by omega)] | rw [if_neg (show ¬ b = 1 by omega), if_neg (show ¬ b = 1 by omega)]
                         first
                           | rw [splF_0 (by omega), hK0 (by omega)]
                           | rw [splF_1 (by omega), hK0 (by omega)]
                           | rw [splF_2 (by omega), hK0 (by omega)]
                           | rw [splF_6 (by omega)]
                           | rw [splF_5 (by omega)]
                           | rw [splF_34 (by omega)]
                         first | done | rfl | simp only [List.append_assoc, List.cons_append, List.nil_append, List.append_nil]))
          · skip
            refine V_ld (pc := 92) dX11_spells_92 (v := vr 30) rfl rfl ?_
            refine V_bipush (pc := 93) dX11_spells_93 (by unfold I32; omega) (by decide) ?_
            refine V_callV (pc := 95) dX11_spells_95 (F' := 0) (As := [vi 37]) (st := []) cw_RX11_203 rfl rfl hL.t30 (by decide) (Nat.le_of_ble_eq_true rfl) (by omega) (r_wr1  m 37   (by first | assumption | omega) (by (try simp only [apM_sz, List.length_append, List.length_cons, List.length_nil]); omega)) ?_
            rintro _ _ ⟨rfl, rfl⟩ ok95 le95
            refine V_ld (pc := 98) dX11_spells_98 (v := vr 30) rfl rfl ?_
            refine V_bipush (pc := 99) dX11_spells_99 (by unfold I32; omega) (by decide) ?_
            refine V_callV (pc := 101) dX11_spells_101 (F' := 0) (As := [vi 40]) (st := []) cw_RX11_203 rfl rfl hL.t30 (by decide) (Nat.le_of_ble_eq_true rfl) (by omega) (r_wr1  (apM 30 22 44 m [37]) 40   (by first | assumption | omega) (by (try simp only [apM_sz, List.length_append, List.length_cons, List.length_nil]); omega)) ?_
            rintro _ _ ⟨rfl, rfl⟩ ok101 le101
            refine V_ld (pc := 104) dX11_spells_104 (v := vr 30) rfl rfl ?_
            refine V_getRv (pc := 105) dX11_spells_105 (o' := 41) fw_RX11_42 rfl hL.t30 hL.r30_16 ?_
            refine V_ld (pc := 108) dX11_spells_108 (v := vi p) rfl rfl ?_
            refine V_ialdv (pc := 109) dX11_spells_109 (v := (T p.toNat 7)) hL.t41 (by omega) ((apM_ne (by omega) (by omega)).trans ((apM_ne (by omega) (by omega)).trans hq7)) (fun g109 => ?_)
            refine V_st (pc := 110) dX11_spells_110 (ls' := [(4, vi (T p.toNat 7)), (3, vi 0), (0, vr 30), (1, vi p), (2, vi b)]) rfl (Nat.le_of_ble_eq_true rfl) rfl ?_
            skip
            refine V_mem (m' := apM 30 22 44 m ([37] ++ [40])) (by repeat rw [apM_app]) ?_
            refine L_rsp (m := m) (c := c) (f := f) (T := T) (p := p) (b := b) (by omega) hL hT hp hW.1 hW.2 hr.1 (T p.toNat 2).toNat 0 (T p.toNat 7) 0 ([37] ++ [40]) (hKo1 ()) (hKo ()).2.1 rfl ?_ (fun s' => ?_)
            · rw [show decide ((0 : Nat) = 0) = true from rfl]
              simp only [List.length_append, List.length_cons, List.length_nil]
              omega
            rw [show decide ((0 : Nat) = 0) = true from rfl]
            refine V_ld (pc := 281) dX11_spells_281 (v := vr 30) rfl rfl ?_
            refine V_getRv (pc := 282) dX11_spells_282 (o' := 35) fw_RX11_24 rfl hL.t30 hL.r30_10 ?_
            refine V_ld (pc := 285) dX11_spells_285 (v := vi p) rfl rfl ?_
            refine V_ialdv (pc := 286) dX11_spells_286 (v := (T p.toNat 0)) hL.t35 (by omega) ((apM_ne (by omega) (by omega)).trans hq0) (fun g286 => ?_)
            refine V_bipush (pc := 287) dX11_spells_287 (by unfold I32; omega) (by decide) ?_
            refine V_icmp_ne (pc := 289) dX11_spells_289 (tgt := 298) rfl (fun h289 => ?_) (fun h289 => ?_)
            · skip
              refine V_ld (pc := 298) dX11_spells_298 (v := vr 30) rfl rfl ?_
              refine V_getRv (pc := 299) dX11_spells_299 (o' := 35) fw_RX11_24 rfl hL.t30 hL.r30_10 ?_
              refine V_ld (pc := 302) dX11_spells_302 (v := vi p) rfl rfl ?_
              refine V_ialdv (pc := 303) dX11_spells_303 (v := (T p.toNat 0)) hL.t35 (by omega) ((apM_ne (by omega) (by omega)).trans hq0) (fun g303 => ?_)
              refine V_iconst (pc := 304) dX11_spells_304 (by unfold I32; omega) ?_
              refine V_icmp_ne (pc := 305) dX11_spells_305 (tgt := 313) rfl (fun h305 => ?_) (fun h305 => ?_)
              · skip
                refine V_ld (pc := 313) dX11_spells_313 (v := vi b) rfl rfl ?_
                refine V_if_eq (pc := 314) dX11_spells_314 (tgt := 323) rfl (fun h314 => ?_) (fun h314 => ?_)
                · skip
                  refine V_retv (pc := 323) dX11_spells_323 trivial ?_
                  first
                    | (exfalso; omega)
                    | ((repeat rw [apM_app])
                       exact congrArg (apM 30 22 44 m) (by
                         unfold brS
                         first | rw [if_pos (show b = 1 by omega), if_pos (show b = 1 by omega)] | rw [if_neg (show ¬ b = 1 by omega), if_neg (show ¬ b = 1 by omega)]
                         first
                           | rw [splF_0 (by omega), hK0 (by omega)]
                           | rw [splF_1 (by omega), hK0 (by omega)]
                           | rw [splF_2 (by omega), hK0 (by omega)]
                           | rw [splF_6 (by omega)]
                           | rw [splF_5 (by omega)]
                           | rw [splF_34 (by omega)]
                         first | done | rfl | simp only [List.append_assoc, List.cons_append, List.nil_append, List.append_nil]))
                · skip
                  refine V_ld (pc := 317) dX11_spells_317 (v := vr 30) rfl rfl ?_
                  refine V_bipush (pc := 318) dX11_spells_318 (by unfold I32; omega) (by decide) ?_
                  refine V_callV (pc := 320) dX11_spells_320 (F' := 0) (As := [vi 41]) (st := []) cw_RX11_203 rfl rfl hL.t30 (by decide) (Nat.le_of_ble_eq_true rfl) (by omega) (r_wr1  (apM 30 22 44 m (([37] ++ [40]) ++ (kidS T (splF T f) (T p.toNat 0) true (T p.toNat 2).toNat (T p.toNat 7)))) 41   (by first | assumption | omega) (by (try simp only [apM_sz, List.length_append, List.length_cons, List.length_nil]); omega)) ?_
                  rintro _ _ ⟨rfl, rfl⟩ ok320 le320
                  refine V_retv (pc := 323) dX11_spells_323 trivial ?_
                  first
                    | (exfalso; omega)
                    | ((repeat rw [apM_app])
                       exact congrArg (apM 30 22 44 m) (by
                         unfold brS
                         first | rw [if_pos (show b = 1 by omega), if_pos (show b = 1 by omega)] | rw [if_neg (show ¬ b = 1 by omega), if_neg (show ¬ b = 1 by omega)]
                         first
                           | rw [splF_0 (by omega), hK0 (by omega)]
                           | rw [splF_1 (by omega), hK0 (by omega)]
                           | rw [splF_2 (by omega), hK0 (by omega)]
                           | rw [splF_6 (by omega)]
                           | rw [splF_5 (by omega)]
                           | rw [splF_34 (by omega)]
                         first | done | rfl | simp only [List.append_assoc, List.cons_append, List.nil_append, List.append_nil]))
              · skip
                refine V_ld (pc := 308) dX11_spells_308 (v := vr 30) rfl rfl ?_
                refine V_ld (pc := 309) dX11_spells_309 (v := vi p) rfl rfl ?_
                refine V_callV (pc := 310) dX11_spells_310 (F' := 2) (As := [vi p]) (st := []) cw_RX11_210 rfl rfl hL.t30 (by decide) (Nat.le_of_ble_eq_true rfl) (by omega) (r_times T c (apM 30 22 44 m (([37] ++ [40]) ++ (kidS T (splF T f) (T p.toNat 0) true (T p.toNat 2).toNat (T p.toNat 7)))) p   (by first | assumption | omega) (fun p_ hp_ => by have h_ := hT p_ hp_; (repeat rw [apM_ne (by omega) (by omega)]); exact h_) ⟨hp.1, hp.2.1, hp.2.2⟩ (hB5 (by omega)) (by (try simp only [apM_sz, List.length_append, List.length_cons, List.length_nil]); omega)) ?_
                rintro _ _ ⟨rfl, rfl⟩ ok310 le310
                refine V_ld (pc := 313) dX11_spells_313 (v := vi b) rfl rfl ?_
                refine V_if_eq (pc := 314) dX11_spells_314 (tgt := 323) rfl (fun h314 => ?_) (fun h314 => ?_)
                · skip
                  refine V_retv (pc := 323) dX11_spells_323 trivial ?_
                  first
                    | (exfalso; omega)
                    | ((repeat rw [apM_app])
                       exact congrArg (apM 30 22 44 m) (by
                         unfold brS
                         first | rw [if_pos (show b = 1 by omega), if_pos (show b = 1 by omega)] | rw [if_neg (show ¬ b = 1 by omega), if_neg (show ¬ b = 1 by omega)]
                         first
                           | rw [splF_0 (by omega), hK0 (by omega)]
                           | rw [splF_1 (by omega), hK0 (by omega)]
                           | rw [splF_2 (by omega), hK0 (by omega)]
                           | rw [splF_6 (by omega)]
                           | rw [splF_5 (by omega)]
                           | rw [splF_34 (by omega)]
                         first | done | rfl | simp only [List.append_assoc, List.cons_append, List.nil_append, List.append_nil]))
                · skip
                  refine V_ld (pc := 317) dX11_spells_317 (v := vr 30) rfl rfl ?_
                  refine V_bipush (pc := 318) dX11_spells_318 (by unfold I32; omega) (by decide) ?_
                  refine V_callV (pc := 320) dX11_spells_320 (F' := 0) (As := [vi 41]) (st := []) cw_RX11_203 rfl rfl hL.t30 (by decide) (Nat.le_of_ble_eq_true rfl) (by omega) (r_wr1  (apM 30 22 44 (apM 30 22 44 m (([37] ++ [40]) ++ (kidS T (splF T f) (T p.toNat 0) true (T p.toNat 2).toNat (T p.toNat 7)))) (qS (T p.toNat 3) (T p.toNat 4) (T p.toNat 5))) 41   (by first | assumption | omega) (by (try simp only [apM_sz, List.length_append, List.length_cons, List.length_nil]); omega)) ?_
                  rintro _ _ ⟨rfl, rfl⟩ ok320 le320
                  refine V_retv (pc := 323) dX11_spells_323 trivial ?_
                  first
                    | (exfalso; omega)
                    | ((repeat rw [apM_app])
                       exact congrArg (apM 30 22 44 m) (by
                         unfold brS
                         first | rw [if_pos (show b = 1 by omega), if_pos (show b = 1 by omega)] | rw [if_neg (show ¬ b = 1 by omega), if_neg (show ¬ b = 1 by omega)]
                         first
                           | rw [splF_0 (by omega), hK0 (by omega)]
                           | rw [splF_1 (by omega), hK0 (by omega)]
                           | rw [splF_2 (by omega), hK0 (by omega)]
                           | rw [splF_6 (by omega)]
                           | rw [splF_5 (by omega)]
                           | rw [splF_34 (by omega)]
                         first | done | rfl | simp only [List.append_assoc, List.cons_append, List.nil_append, List.append_nil]))
            · skip
              refine V_ld (pc := 292) dX11_spells_292 (v := vr 30) rfl rfl ?_
              refine V_bipush (pc := 293) dX11_spells_293 (by unfold I32; omega) (by decide) ?_
              refine V_callV (pc := 295) dX11_spells_295 (F' := 0) (As := [vi 41]) (st := []) cw_RX11_203 rfl rfl hL.t30 (by decide) (Nat.le_of_ble_eq_true rfl) (by omega) (r_wr1  (apM 30 22 44 m (([37] ++ [40]) ++ (kidS T (splF T f) (T p.toNat 0) true (T p.toNat 2).toNat (T p.toNat 7)))) 41   (by first | assumption | omega) (by (try simp only [apM_sz, List.length_append, List.length_cons, List.length_nil]); omega)) ?_
              rintro _ _ ⟨rfl, rfl⟩ ok295 le295
              refine V_ld (pc := 298) dX11_spells_298 (v := vr 30) rfl rfl ?_
              refine V_getRv (pc := 299) dX11_spells_299 (o' := 35) fw_RX11_24 rfl hL.t30 hL.r30_10 ?_
              refine V_ld (pc := 302) dX11_spells_302 (v := vi p) rfl rfl ?_
              refine V_ialdv (pc := 303) dX11_spells_303 (v := (T p.toNat 0)) hL.t35 (by omega) ((apM_ne (by omega) (by omega)).trans ((apM_ne (by omega) (by omega)).trans hq0)) (fun g303 => ?_)
              refine V_iconst (pc := 304) dX11_spells_304 (by unfold I32; omega) ?_
              refine V_icmp_ne (pc := 305) dX11_spells_305 (tgt := 313) rfl (fun h305 => ?_) (fun h305 => ?_)
              · skip
                refine V_ld (pc := 313) dX11_spells_313 (v := vi b) rfl rfl ?_
                refine V_if_eq (pc := 314) dX11_spells_314 (tgt := 323) rfl (fun h314 => ?_) (fun h314 => ?_)
                · skip
                  refine V_retv (pc := 323) dX11_spells_323 trivial ?_
                  first
                    | (exfalso; omega)
                    | ((repeat rw [apM_app])
                       exact congrArg (apM 30 22 44 m) (by
                         unfold brS
                         first | rw [if_pos (show b = 1 by omega), if_pos (show b = 1 by omega)] | rw [if_neg (show ¬ b = 1 by omega), if_neg (show ¬ b = 1 by omega)]
                         first
                           | rw [splF_0 (by omega), hK0 (by omega)]
                           | rw [splF_1 (by omega), hK0 (by omega)]
                           | rw [splF_2 (by omega), hK0 (by omega)]
                           | rw [splF_6 (by omega)]
                           | rw [splF_5 (by omega)]
                           | rw [splF_34 (by omega)]
                         first | done | rfl | simp only [List.append_assoc, List.cons_append, List.nil_append, List.append_nil]))
                · skip
                  refine V_ld (pc := 317) dX11_spells_317 (v := vr 30) rfl rfl ?_
                  refine V_bipush (pc := 318) dX11_spells_318 (by unfold I32; omega) (by decide) ?_
                  refine V_callV (pc := 320) dX11_spells_320 (F' := 0) (As := [vi 41]) (st := []) cw_RX11_203 rfl rfl hL.t30 (by decide) (Nat.le_of_ble_eq_true rfl) (by omega) (r_wr1  (apM 30 22 44 (apM 30 22 44 m (([37] ++ [40]) ++ (kidS T (splF T f) (T p.toNat 0) true (T p.toNat 2).toNat (T p.toNat 7)))) [41]) 41   (by first | assumption | omega) (by (try simp only [apM_sz, List.length_append, List.length_cons, List.length_nil]); omega)) ?_
                  rintro _ _ ⟨rfl, rfl⟩ ok320 le320
                  refine V_retv (pc := 323) dX11_spells_323 trivial ?_
                  first
                    | (exfalso; omega)
                    | ((repeat rw [apM_app])
                       exact congrArg (apM 30 22 44 m) (by
                         unfold brS
                         first | rw [if_pos (show b = 1 by omega), if_pos (show b = 1 by omega)] | rw [if_neg (show ¬ b = 1 by omega), if_neg (show ¬ b = 1 by omega)]
                         first
                           | rw [splF_0 (by omega), hK0 (by omega)]
                           | rw [splF_1 (by omega), hK0 (by omega)]
                           | rw [splF_2 (by omega), hK0 (by omega)]
                           | rw [splF_6 (by omega)]
                           | rw [splF_5 (by omega)]
                           | rw [splF_34 (by omega)]
                         first | done | rfl | simp only [List.append_assoc, List.cons_append, List.nil_append, List.append_nil]))
              · skip
                refine V_ld (pc := 308) dX11_spells_308 (v := vr 30) rfl rfl ?_
                refine V_ld (pc := 309) dX11_spells_309 (v := vi p) rfl rfl ?_
                refine V_callV (pc := 310) dX11_spells_310 (F' := 2) (As := [vi p]) (st := []) cw_RX11_210 rfl rfl hL.t30 (by decide) (Nat.le_of_ble_eq_true rfl) (by omega) (r_times T c (apM 30 22 44 (apM 30 22 44 m (([37] ++ [40]) ++ (kidS T (splF T f) (T p.toNat 0) true (T p.toNat 2).toNat (T p.toNat 7)))) [41]) p   (by first | assumption | omega) (fun p_ hp_ => by have h_ := hT p_ hp_; (repeat rw [apM_ne (by omega) (by omega)]); exact h_) ⟨hp.1, hp.2.1, hp.2.2⟩ (hB5 (by omega)) (by (try simp only [apM_sz, List.length_append, List.length_cons, List.length_nil]); omega)) ?_
                rintro _ _ ⟨rfl, rfl⟩ ok310 le310
                refine V_ld (pc := 313) dX11_spells_313 (v := vi b) rfl rfl ?_
                refine V_if_eq (pc := 314) dX11_spells_314 (tgt := 323) rfl (fun h314 => ?_) (fun h314 => ?_)
                · skip
                  refine V_retv (pc := 323) dX11_spells_323 trivial ?_
                  first
                    | (exfalso; omega)
                    | ((repeat rw [apM_app])
                       exact congrArg (apM 30 22 44 m) (by
                         unfold brS
                         first | rw [if_pos (show b = 1 by omega), if_pos (show b = 1 by omega)] | rw [if_neg (show ¬ b = 1 by omega), if_neg (show ¬ b = 1 by omega)]
                         first
                           | rw [splF_0 (by omega), hK0 (by omega)]
                           | rw [splF_1 (by omega), hK0 (by omega)]
                           | rw [splF_2 (by omega), hK0 (by omega)]
                           | rw [splF_6 (by omega)]
                           | rw [splF_5 (by omega)]
                           | rw [splF_34 (by omega)]
                         first | done | rfl | simp only [List.append_assoc, List.cons_append, List.nil_append, List.append_nil]))
                · skip
                  refine V_ld (pc := 317) dX11_spells_317 (v := vr 30) rfl rfl ?_
                  refine V_bipush (pc := 318) dX11_spells_318 (by unfold I32; omega) (by decide) ?_
                  refine V_callV (pc := 320) dX11_spells_320 (F' := 0) (As := [vi 41]) (st := []) cw_RX11_203 rfl rfl hL.t30 (by decide) (Nat.le_of_ble_eq_true rfl) (by omega) (r_wr1  (apM 30 22 44 (apM 30 22 44 (apM 30 22 44 m (([37] ++ [40]) ++ (kidS T (splF T f) (T p.toNat 0) true (T p.toNat 2).toNat (T p.toNat 7)))) [41]) (qS (T p.toNat 3) (T p.toNat 4) (T p.toNat 5))) 41   (by first | assumption | omega) (by (try simp only [apM_sz, List.length_append, List.length_cons, List.length_nil]); omega)) ?_
                  rintro _ _ ⟨rfl, rfl⟩ ok320 le320
                  refine V_retv (pc := 323) dX11_spells_323 trivial ?_
                  first
                    | (exfalso; omega)
                    | ((repeat rw [apM_app])
                       exact congrArg (apM 30 22 44 m) (by
                         unfold brS
                         first | rw [if_pos (show b = 1 by omega), if_pos (show b = 1 by omega)] | rw [if_neg (show ¬ b = 1 by omega), if_neg (show ¬ b = 1 by omega)]
                         first
                           | rw [splF_0 (by omega), hK0 (by omega)]
                           | rw [splF_1 (by omega), hK0 (by omega)]
                           | rw [splF_2 (by omega), hK0 (by omega)]
                           | rw [splF_6 (by omega)]
                           | rw [splF_5 (by omega)]
                           | rw [splF_34 (by omega)]
                         first | done | rfl | simp only [List.append_assoc, List.cons_append, List.nil_append, List.append_nil]))
        · skip
          refine V_ld (pc := 57) dX11_spells_57 (v := vr 30) rfl rfl ?_
          refine V_ld (pc := 58) dX11_spells_58 (v := vr 30) rfl rfl ?_
          refine V_getRv (pc := 59) dX11_spells_59 (o' := 35) fw_RX11_24 rfl hL.t30 hL.r30_10 ?_
          refine V_ld (pc := 62) dX11_spells_62 (v := vi p) rfl rfl ?_
          refine V_ialdv (pc := 63) dX11_spells_63 (v := (T p.toNat 0)) hL.t35 (by omega) hq0 (fun g63 => ?_)
          refine V_iconst (pc := 64) dX11_spells_64 (by unfold I32; omega) ?_
          refine V_icmp_ne (pc := 65) dX11_spells_65 (tgt := 73) rfl (fun h65 => ?_) (fun h65 => ?_)
          · skip
            refine V_bipush (pc := 73) dX11_spells_73 (by unfold I32; omega) (by decide) ?_
            refine V_callV (pc := 75) dX11_spells_75 (F' := 0) (As := [vi 36]) (st := []) cw_RX11_203 rfl rfl hL.t30 (by decide) (Nat.le_of_ble_eq_true rfl) (by omega) (r_wr1  m 36   (by first | assumption | omega) (by (try simp only [apM_sz, List.length_append, List.length_cons, List.length_nil]); omega)) ?_
            rintro _ _ ⟨rfl, rfl⟩ ok75 le75
            refine V_goto (pc := 78) dX11_spells_78 (tgt := 104) rfl ?_
            refine V_ld (pc := 104) dX11_spells_104 (v := vr 30) rfl rfl ?_
            refine V_getRv (pc := 105) dX11_spells_105 (o' := 41) fw_RX11_42 rfl hL.t30 hL.r30_16 ?_
            refine V_ld (pc := 108) dX11_spells_108 (v := vi p) rfl rfl ?_
            refine V_ialdv (pc := 109) dX11_spells_109 (v := (T p.toNat 7)) hL.t41 (by omega) ((apM_ne (by omega) (by omega)).trans hq7) (fun g109 => ?_)
            refine V_st (pc := 110) dX11_spells_110 (ls' := [(4, vi (T p.toNat 7)), (3, vi 0), (0, vr 30), (1, vi p), (2, vi b)]) rfl (Nat.le_of_ble_eq_true rfl) rfl ?_
            skip
            refine V_mem (m' := apM 30 22 44 m ([36])) (rfl) ?_
            refine L_rsp (m := m) (c := c) (f := f) (T := T) (p := p) (b := b) (by omega) hL hT hp hW.1 hW.2 hr.1 (T p.toNat 2).toNat 0 (T p.toNat 7) 0 ([36]) (hKo1 ()) (hKo ()).2.1 rfl ?_ (fun s' => ?_)
            · rw [show decide ((0 : Nat) = 0) = true from rfl]
              simp only [List.length_append, List.length_cons, List.length_nil]
              omega
            rw [show decide ((0 : Nat) = 0) = true from rfl]
            refine V_ld (pc := 281) dX11_spells_281 (v := vr 30) rfl rfl ?_
            refine V_getRv (pc := 282) dX11_spells_282 (o' := 35) fw_RX11_24 rfl hL.t30 hL.r30_10 ?_
            refine V_ld (pc := 285) dX11_spells_285 (v := vi p) rfl rfl ?_
            refine V_ialdv (pc := 286) dX11_spells_286 (v := (T p.toNat 0)) hL.t35 (by omega) ((apM_ne (by omega) (by omega)).trans hq0) (fun g286 => ?_)
            refine V_bipush (pc := 287) dX11_spells_287 (by unfold I32; omega) (by decide) ?_
            refine V_icmp_ne (pc := 289) dX11_spells_289 (tgt := 298) rfl (fun h289 => ?_) (fun h289 => ?_)
            · skip
              refine V_ld (pc := 298) dX11_spells_298 (v := vr 30) rfl rfl ?_
              refine V_getRv (pc := 299) dX11_spells_299 (o' := 35) fw_RX11_24 rfl hL.t30 hL.r30_10 ?_
              refine V_ld (pc := 302) dX11_spells_302 (v := vi p) rfl rfl ?_
              refine V_ialdv (pc := 303) dX11_spells_303 (v := (T p.toNat 0)) hL.t35 (by omega) ((apM_ne (by omega) (by omega)).trans hq0) (fun g303 => ?_)
              refine V_iconst (pc := 304) dX11_spells_304 (by unfold I32; omega) ?_
              refine V_icmp_ne (pc := 305) dX11_spells_305 (tgt := 313) rfl (fun h305 => ?_) (fun h305 => ?_)
              · skip
                refine V_ld (pc := 313) dX11_spells_313 (v := vi b) rfl rfl ?_
                refine V_if_eq (pc := 314) dX11_spells_314 (tgt := 323) rfl (fun h314 => ?_) (fun h314 => ?_)
                · skip
                  refine V_retv (pc := 323) dX11_spells_323 trivial ?_
                  first
                    | (exfalso; omega)
                    | ((repeat rw [apM_app])
                       exact congrArg (apM 30 22 44 m) (by
                         unfold brS
                         first | rw [if_pos (show b = 1 by omega), if_pos (show b = 1 by omega)] | rw [if_neg (show ¬ b = 1 by omega), if_neg (show ¬ b = 1 by omega)]
                         first
                           | rw [splF_0 (by omega), hK0 (by omega)]
                           | rw [splF_1 (by omega), hK0 (by omega)]
                           | rw [splF_2 (by omega), hK0 (by omega)]
                           | rw [splF_6 (by omega)]
                           | rw [splF_5 (by omega)]
                           | rw [splF_34 (by omega)]
                         first | done | rfl | simp only [List.append_assoc, List.cons_append, List.nil_append, List.append_nil]))
                · skip
                  refine V_ld (pc := 317) dX11_spells_317 (v := vr 30) rfl rfl ?_
                  refine V_bipush (pc := 318) dX11_spells_318 (by unfold I32; omega) (by decide) ?_
                  refine V_callV (pc := 320) dX11_spells_320 (F' := 0) (As := [vi 41]) (st := []) cw_RX11_203 rfl rfl hL.t30 (by decide) (Nat.le_of_ble_eq_true rfl) (by omega) (r_wr1  (apM 30 22 44 m (([36]) ++ (kidS T (splF T f) (T p.toNat 0) true (T p.toNat 2).toNat (T p.toNat 7)))) 41   (by first | assumption | omega) (by (try simp only [apM_sz, List.length_append, List.length_cons, List.length_nil]); omega)) ?_
                  rintro _ _ ⟨rfl, rfl⟩ ok320 le320
                  refine V_retv (pc := 323) dX11_spells_323 trivial ?_
                  first
                    | (exfalso; omega)
                    | ((repeat rw [apM_app])
                       exact congrArg (apM 30 22 44 m) (by
                         unfold brS
                         first | rw [if_pos (show b = 1 by omega), if_pos (show b = 1 by omega)] | rw [if_neg (show ¬ b = 1 by omega), if_neg (show ¬ b = 1 by omega)]
                         first
                           | rw [splF_0 (by omega), hK0 (by omega)]
                           | rw [splF_1 (by omega), hK0 (by omega)]
                           | rw [splF_2 (by omega), hK0 (by omega)]
                           | rw [splF_6 (by omega)]
                           | rw [splF_5 (by omega)]
                           | rw [splF_34 (by omega)]
                         first | done | rfl | simp only [List.append_assoc, List.cons_append, List.nil_append, List.append_nil]))
              · skip
                refine V_ld (pc := 308) dX11_spells_308 (v := vr 30) rfl rfl ?_
                refine V_ld (pc := 309) dX11_spells_309 (v := vi p) rfl rfl ?_
                refine V_callV (pc := 310) dX11_spells_310 (F' := 2) (As := [vi p]) (st := []) cw_RX11_210 rfl rfl hL.t30 (by decide) (Nat.le_of_ble_eq_true rfl) (by omega) (r_times T c (apM 30 22 44 m (([36]) ++ (kidS T (splF T f) (T p.toNat 0) true (T p.toNat 2).toNat (T p.toNat 7)))) p   (by first | assumption | omega) (fun p_ hp_ => by have h_ := hT p_ hp_; (repeat rw [apM_ne (by omega) (by omega)]); exact h_) ⟨hp.1, hp.2.1, hp.2.2⟩ (hB5 (by omega)) (by (try simp only [apM_sz, List.length_append, List.length_cons, List.length_nil]); omega)) ?_
                rintro _ _ ⟨rfl, rfl⟩ ok310 le310
                refine V_ld (pc := 313) dX11_spells_313 (v := vi b) rfl rfl ?_
                refine V_if_eq (pc := 314) dX11_spells_314 (tgt := 323) rfl (fun h314 => ?_) (fun h314 => ?_)
                · skip
                  refine V_retv (pc := 323) dX11_spells_323 trivial ?_
                  first
                    | (exfalso; omega)
                    | ((repeat rw [apM_app])
                       exact congrArg (apM 30 22 44 m) (by
                         unfold brS
                         first | rw [if_pos (show b = 1 by omega), if_pos (show b = 1 by omega)] | rw [if_neg (show ¬ b = 1 by omega), if_neg (show ¬ b = 1 by omega)]
                         first
                           | rw [splF_0 (by omega), hK0 (by omega)]
                           | rw [splF_1 (by omega), hK0 (by omega)]
                           | rw [splF_2 (by omega), hK0 (by omega)]
                           | rw [splF_6 (by omega)]
                           | rw [splF_5 (by omega)]
                           | rw [splF_34 (by omega)]
                         first | done | rfl | simp only [List.append_assoc, List.cons_append, List.nil_append, List.append_nil]))
                · skip
                  refine V_ld (pc := 317) dX11_spells_317 (v := vr 30) rfl rfl ?_
                  refine V_bipush (pc := 318) dX11_spells_318 (by unfold I32; omega) (by decide) ?_
                  refine V_callV (pc := 320) dX11_spells_320 (F' := 0) (As := [vi 41]) (st := []) cw_RX11_203 rfl rfl hL.t30 (by decide) (Nat.le_of_ble_eq_true rfl) (by omega) (r_wr1  (apM 30 22 44 (apM 30 22 44 m (([36]) ++ (kidS T (splF T f) (T p.toNat 0) true (T p.toNat 2).toNat (T p.toNat 7)))) (qS (T p.toNat 3) (T p.toNat 4) (T p.toNat 5))) 41   (by first | assumption | omega) (by (try simp only [apM_sz, List.length_append, List.length_cons, List.length_nil]); omega)) ?_
                  rintro _ _ ⟨rfl, rfl⟩ ok320 le320
                  refine V_retv (pc := 323) dX11_spells_323 trivial ?_
                  first
                    | (exfalso; omega)
                    | ((repeat rw [apM_app])
                       exact congrArg (apM 30 22 44 m) (by
                         unfold brS
                         first | rw [if_pos (show b = 1 by omega), if_pos (show b = 1 by omega)] | rw [if_neg (show ¬ b = 1 by omega), if_neg (show ¬ b = 1 by omega)]
                         first
                           | rw [splF_0 (by omega), hK0 (by omega)]
                           | rw [splF_1 (by omega), hK0 (by omega)]
                           | rw [splF_2 (by omega), hK0 (by omega)]
                           | rw [splF_6 (by omega)]
                           | rw [splF_5 (by omega)]
                           | rw [splF_34 (by omega)]
                         first | done | rfl | simp only [List.append_assoc, List.cons_append, List.nil_append, List.append_nil]))
            · skip
              refine V_ld (pc := 292) dX11_spells_292 (v := vr 30) rfl rfl ?_
              refine V_bipush (pc := 293) dX11_spells_293 (by unfold I32; omega) (by decide) ?_
              refine V_callV (pc := 295) dX11_spells_295 (F' := 0) (As := [vi 41]) (st := []) cw_RX11_203 rfl rfl hL.t30 (by decide) (Nat.le_of_ble_eq_true rfl) (by omega) (r_wr1  (apM 30 22 44 m (([36]) ++ (kidS T (splF T f) (T p.toNat 0) true (T p.toNat 2).toNat (T p.toNat 7)))) 41   (by first | assumption | omega) (by (try simp only [apM_sz, List.length_append, List.length_cons, List.length_nil]); omega)) ?_
              rintro _ _ ⟨rfl, rfl⟩ ok295 le295
              refine V_ld (pc := 298) dX11_spells_298 (v := vr 30) rfl rfl ?_
              refine V_getRv (pc := 299) dX11_spells_299 (o' := 35) fw_RX11_24 rfl hL.t30 hL.r30_10 ?_
              refine V_ld (pc := 302) dX11_spells_302 (v := vi p) rfl rfl ?_
              refine V_ialdv (pc := 303) dX11_spells_303 (v := (T p.toNat 0)) hL.t35 (by omega) ((apM_ne (by omega) (by omega)).trans ((apM_ne (by omega) (by omega)).trans hq0)) (fun g303 => ?_)
              refine V_iconst (pc := 304) dX11_spells_304 (by unfold I32; omega) ?_
              refine V_icmp_ne (pc := 305) dX11_spells_305 (tgt := 313) rfl (fun h305 => ?_) (fun h305 => ?_)
              · skip
                refine V_ld (pc := 313) dX11_spells_313 (v := vi b) rfl rfl ?_
                refine V_if_eq (pc := 314) dX11_spells_314 (tgt := 323) rfl (fun h314 => ?_) (fun h314 => ?_)
                · skip
                  refine V_retv (pc := 323) dX11_spells_323 trivial ?_
                  first
                    | (exfalso; omega)
                    | ((repeat rw [apM_app])
                       exact congrArg (apM 30 22 44 m) (by
                         unfold brS
                         first | rw [if_pos (show b = 1 by omega), if_pos (show b = 1 by omega)] | rw [if_neg (show ¬ b = 1 by omega), if_neg (show ¬ b = 1 by omega)]
                         first
                           | rw [splF_0 (by omega), hK0 (by omega)]
                           | rw [splF_1 (by omega), hK0 (by omega)]
                           | rw [splF_2 (by omega), hK0 (by omega)]
                           | rw [splF_6 (by omega)]
                           | rw [splF_5 (by omega)]
                           | rw [splF_34 (by omega)]
                         first | done | rfl | simp only [List.append_assoc, List.cons_append, List.nil_append, List.append_nil]))
                · skip
                  refine V_ld (pc := 317) dX11_spells_317 (v := vr 30) rfl rfl ?_
                  refine V_bipush (pc := 318) dX11_spells_318 (by unfold I32; omega) (by decide) ?_
                  refine V_callV (pc := 320) dX11_spells_320 (F' := 0) (As := [vi 41]) (st := []) cw_RX11_203 rfl rfl hL.t30 (by decide) (Nat.le_of_ble_eq_true rfl) (by omega) (r_wr1  (apM 30 22 44 (apM 30 22 44 m (([36]) ++ (kidS T (splF T f) (T p.toNat 0) true (T p.toNat 2).toNat (T p.toNat 7)))) [41]) 41   (by first | assumption | omega) (by (try simp only [apM_sz, List.length_append, List.length_cons, List.length_nil]); omega)) ?_
                  rintro _ _ ⟨rfl, rfl⟩ ok320 le320
                  refine V_retv (pc := 323) dX11_spells_323 trivial ?_
                  first
                    | (exfalso; omega)
                    | ((repeat rw [apM_app])
                       exact congrArg (apM 30 22 44 m) (by
                         unfold brS
                         first | rw [if_pos (show b = 1 by omega), if_pos (show b = 1 by omega)] | rw [if_neg (show ¬ b = 1 by omega), if_neg (show ¬ b = 1 by omega)]
                         first
                           | rw [splF_0 (by omega), hK0 (by omega)]
                           | rw [splF_1 (by omega), hK0 (by omega)]
                           | rw [splF_2 (by omega), hK0 (by omega)]
                           | rw [splF_6 (by omega)]
                           | rw [splF_5 (by omega)]
                           | rw [splF_34 (by omega)]
                         first | done | rfl | simp only [List.append_assoc, List.cons_append, List.nil_append, List.append_nil]))
              · skip
                refine V_ld (pc := 308) dX11_spells_308 (v := vr 30) rfl rfl ?_
                refine V_ld (pc := 309) dX11_spells_309 (v := vi p) rfl rfl ?_
                refine V_callV (pc := 310) dX11_spells_310 (F' := 2) (As := [vi p]) (st := []) cw_RX11_210 rfl rfl hL.t30 (by decide) (Nat.le_of_ble_eq_true rfl) (by omega) (r_times T c (apM 30 22 44 (apM 30 22 44 m (([36]) ++ (kidS T (splF T f) (T p.toNat 0) true (T p.toNat 2).toNat (T p.toNat 7)))) [41]) p   (by first | assumption | omega) (fun p_ hp_ => by have h_ := hT p_ hp_; (repeat rw [apM_ne (by omega) (by omega)]); exact h_) ⟨hp.1, hp.2.1, hp.2.2⟩ (hB5 (by omega)) (by (try simp only [apM_sz, List.length_append, List.length_cons, List.length_nil]); omega)) ?_
                rintro _ _ ⟨rfl, rfl⟩ ok310 le310
                refine V_ld (pc := 313) dX11_spells_313 (v := vi b) rfl rfl ?_
                refine V_if_eq (pc := 314) dX11_spells_314 (tgt := 323) rfl (fun h314 => ?_) (fun h314 => ?_)
                · skip
                  refine V_retv (pc := 323) dX11_spells_323 trivial ?_
                  first
                    | (exfalso; omega)
                    | ((repeat rw [apM_app])
                       exact congrArg (apM 30 22 44 m) (by
                         unfold brS
                         first | rw [if_pos (show b = 1 by omega), if_pos (show b = 1 by omega)] | rw [if_neg (show ¬ b = 1 by omega), if_neg (show ¬ b = 1 by omega)]
                         first
                           | rw [splF_0 (by omega), hK0 (by omega)]
                           | rw [splF_1 (by omega), hK0 (by omega)]
                           | rw [splF_2 (by omega), hK0 (by omega)]
                           | rw [splF_6 (by omega)]
                           | rw [splF_5 (by omega)]
                           | rw [splF_34 (by omega)]
                         first | done | rfl | simp only [List.append_assoc, List.cons_append, List.nil_append, List.append_nil]))
                · skip
                  refine V_ld (pc := 317) dX11_spells_317 (v := vr 30) rfl rfl ?_
                  refine V_bipush (pc := 318) dX11_spells_318 (by unfold I32; omega) (by decide) ?_
                  refine V_callV (pc := 320) dX11_spells_320 (F' := 0) (As := [vi 41]) (st := []) cw_RX11_203 rfl rfl hL.t30 (by decide) (Nat.le_of_ble_eq_true rfl) (by omega) (r_wr1  (apM 30 22 44 (apM 30 22 44 (apM 30 22 44 m (([36]) ++ (kidS T (splF T f) (T p.toNat 0) true (T p.toNat 2).toNat (T p.toNat 7)))) [41]) (qS (T p.toNat 3) (T p.toNat 4) (T p.toNat 5))) 41   (by first | assumption | omega) (by (try simp only [apM_sz, List.length_append, List.length_cons, List.length_nil]); omega)) ?_
                  rintro _ _ ⟨rfl, rfl⟩ ok320 le320
                  refine V_retv (pc := 323) dX11_spells_323 trivial ?_
                  first
                    | (exfalso; omega)
                    | ((repeat rw [apM_app])
                       exact congrArg (apM 30 22 44 m) (by
                         unfold brS
                         first | rw [if_pos (show b = 1 by omega), if_pos (show b = 1 by omega)] | rw [if_neg (show ¬ b = 1 by omega), if_neg (show ¬ b = 1 by omega)]
                         first
                           | rw [splF_0 (by omega), hK0 (by omega)]
                           | rw [splF_1 (by omega), hK0 (by omega)]
                           | rw [splF_2 (by omega), hK0 (by omega)]
                           | rw [splF_6 (by omega)]
                           | rw [splF_5 (by omega)]
                           | rw [splF_34 (by omega)]
                         first | done | rfl | simp only [List.append_assoc, List.cons_append, List.nil_append, List.append_nil]))
          · skip
            refine V_bipush (pc := 68) dX11_spells_68 (by unfold I32; omega) (by decide) ?_
            refine V_goto (pc := 70) dX11_spells_70 (tgt := 75) rfl ?_
            refine V_callV (pc := 75) dX11_spells_75 (F' := 0) (As := [vi 94]) (st := []) cw_RX11_203 rfl rfl hL.t30 (by decide) (Nat.le_of_ble_eq_true rfl) (by omega) (r_wr1  m 94   (by first | assumption | omega) (by (try simp only [apM_sz, List.length_append, List.length_cons, List.length_nil]); omega)) ?_
            rintro _ _ ⟨rfl, rfl⟩ ok75 le75
            refine V_goto (pc := 78) dX11_spells_78 (tgt := 104) rfl ?_
            refine V_ld (pc := 104) dX11_spells_104 (v := vr 30) rfl rfl ?_
            refine V_getRv (pc := 105) dX11_spells_105 (o' := 41) fw_RX11_42 rfl hL.t30 hL.r30_16 ?_
            refine V_ld (pc := 108) dX11_spells_108 (v := vi p) rfl rfl ?_
            refine V_ialdv (pc := 109) dX11_spells_109 (v := (T p.toNat 7)) hL.t41 (by omega) ((apM_ne (by omega) (by omega)).trans hq7) (fun g109 => ?_)
            refine V_st (pc := 110) dX11_spells_110 (ls' := [(4, vi (T p.toNat 7)), (3, vi 0), (0, vr 30), (1, vi p), (2, vi b)]) rfl (Nat.le_of_ble_eq_true rfl) rfl ?_
            skip
            refine V_mem (m' := apM 30 22 44 m ([94])) (rfl) ?_
            refine L_rsp (m := m) (c := c) (f := f) (T := T) (p := p) (b := b) (by omega) hL hT hp hW.1 hW.2 hr.1 (T p.toNat 2).toNat 0 (T p.toNat 7) 0 ([94]) (hKo1 ()) (hKo ()).2.1 rfl ?_ (fun s' => ?_)
            · rw [show decide ((0 : Nat) = 0) = true from rfl]
              simp only [List.length_append, List.length_cons, List.length_nil]
              omega
            rw [show decide ((0 : Nat) = 0) = true from rfl]
            refine V_ld (pc := 281) dX11_spells_281 (v := vr 30) rfl rfl ?_
            refine V_getRv (pc := 282) dX11_spells_282 (o' := 35) fw_RX11_24 rfl hL.t30 hL.r30_10 ?_
            refine V_ld (pc := 285) dX11_spells_285 (v := vi p) rfl rfl ?_
            refine V_ialdv (pc := 286) dX11_spells_286 (v := (T p.toNat 0)) hL.t35 (by omega) ((apM_ne (by omega) (by omega)).trans hq0) (fun g286 => ?_)
            refine V_bipush (pc := 287) dX11_spells_287 (by unfold I32; omega) (by decide) ?_
            refine V_icmp_ne (pc := 289) dX11_spells_289 (tgt := 298) rfl (fun h289 => ?_) (fun h289 => ?_)
            · skip
              refine V_ld (pc := 298) dX11_spells_298 (v := vr 30) rfl rfl ?_
              refine V_getRv (pc := 299) dX11_spells_299 (o' := 35) fw_RX11_24 rfl hL.t30 hL.r30_10 ?_
              refine V_ld (pc := 302) dX11_spells_302 (v := vi p) rfl rfl ?_
              refine V_ialdv (pc := 303) dX11_spells_303 (v := (T p.toNat 0)) hL.t35 (by omega) ((apM_ne (by omega) (by omega)).trans hq0) (fun g303 => ?_)
              refine V_iconst (pc := 304) dX11_spells_304 (by unfold I32; omega) ?_
              refine V_icmp_ne (pc := 305) dX11_spells_305 (tgt := 313) rfl (fun h305 => ?_) (fun h305 => ?_)
              · skip
                refine V_ld (pc := 313) dX11_spells_313 (v := vi b) rfl rfl ?_
                refine V_if_eq (pc := 314) dX11_spells_314 (tgt := 323) rfl (fun h314 => ?_) (fun h314 => ?_)
                · skip
                  refine V_retv (pc := 323) dX11_spells_323 trivial ?_
                  first
                    | (exfalso; omega)
                    | ((repeat rw [apM_app])
                       exact congrArg (apM 30 22 44 m) (by
                         unfold brS
                         first | rw [if_pos (show b = 1 by omega), if_pos (show b = 1 by omega)] | rw [if_neg (show ¬ b = 1 by omega), if_neg (show ¬ b = 1 by omega)]
                         first
                           | rw [splF_0 (by omega), hK0 (by omega)]
                           | rw [splF_1 (by omega), hK0 (by omega)]
                           | rw [splF_2 (by omega), hK0 (by omega)]
                           | rw [splF_6 (by omega)]
                           | rw [splF_5 (by omega)]
                           | rw [splF_34 (by omega)]
                         first | done | rfl | simp only [List.append_assoc, List.cons_append, List.nil_append, List.append_nil]))
                · skip
                  refine V_ld (pc := 317) dX11_spells_317 (v := vr 30) rfl rfl ?_
                  refine V_bipush (pc := 318) dX11_spells_318 (by unfold I32; omega) (by decide) ?_
                  refine V_callV (pc := 320) dX11_spells_320 (F' := 0) (As := [vi 41]) (st := []) cw_RX11_203 rfl rfl hL.t30 (by decide) (Nat.le_of_ble_eq_true rfl) (by omega) (r_wr1  (apM 30 22 44 m (([94]) ++ (kidS T (splF T f) (T p.toNat 0) true (T p.toNat 2).toNat (T p.toNat 7)))) 41   (by first | assumption | omega) (by (try simp only [apM_sz, List.length_append, List.length_cons, List.length_nil]); omega)) ?_
                  rintro _ _ ⟨rfl, rfl⟩ ok320 le320
                  refine V_retv (pc := 323) dX11_spells_323 trivial ?_
                  first
                    | (exfalso; omega)
                    | ((repeat rw [apM_app])
                       exact congrArg (apM 30 22 44 m) (by
                         unfold brS
                         first | rw [if_pos (show b = 1 by omega), if_pos (show b = 1 by omega)] | rw [if_neg (show ¬ b = 1 by omega), if_neg (show ¬ b = 1 by omega)]
                         first
                           | rw [splF_0 (by omega), hK0 (by omega)]
                           | rw [splF_1 (by omega), hK0 (by omega)]
                           | rw [splF_2 (by omega), hK0 (by omega)]
                           | rw [splF_6 (by omega)]
                           | rw [splF_5 (by omega)]
                           | rw [splF_34 (by omega)]
                         first | done | rfl | simp only [List.append_assoc, List.cons_append, List.nil_append, List.append_nil]))
              · skip
                refine V_ld (pc := 308) dX11_spells_308 (v := vr 30) rfl rfl ?_
                refine V_ld (pc := 309) dX11_spells_309 (v := vi p) rfl rfl ?_
                refine V_callV (pc := 310) dX11_spells_310 (F' := 2) (As := [vi p]) (st := []) cw_RX11_210 rfl rfl hL.t30 (by decide) (Nat.le_of_ble_eq_true rfl) (by omega) (r_times T c (apM 30 22 44 m (([94]) ++ (kidS T (splF T f) (T p.toNat 0) true (T p.toNat 2).toNat (T p.toNat 7)))) p   (by first | assumption | omega) (fun p_ hp_ => by have h_ := hT p_ hp_; (repeat rw [apM_ne (by omega) (by omega)]); exact h_) ⟨hp.1, hp.2.1, hp.2.2⟩ (hB5 (by omega)) (by (try simp only [apM_sz, List.length_append, List.length_cons, List.length_nil]); omega)) ?_
                rintro _ _ ⟨rfl, rfl⟩ ok310 le310
                refine V_ld (pc := 313) dX11_spells_313 (v := vi b) rfl rfl ?_
                refine V_if_eq (pc := 314) dX11_spells_314 (tgt := 323) rfl (fun h314 => ?_) (fun h314 => ?_)
                · skip
                  refine V_retv (pc := 323) dX11_spells_323 trivial ?_
                  first
                    | (exfalso; omega)
                    | ((repeat rw [apM_app])
                       exact congrArg (apM 30 22 44 m) (by
                         unfold brS
                         first | rw [if_pos (show b = 1 by omega), if_pos (show b = 1 by omega)] | rw [if_neg (show ¬ b = 1 by omega), if_neg (show ¬ b = 1 by omega)]
                         first
                           | rw [splF_0 (by omega), hK0 (by omega)]
                           | rw [splF_1 (by omega), hK0 (by omega)]
                           | rw [splF_2 (by omega), hK0 (by omega)]
                           | rw [splF_6 (by omega)]
                           | rw [splF_5 (by omega)]
                           | rw [splF_34 (by omega)]
                         first | done | rfl | simp only [List.append_assoc, List.cons_append, List.nil_append, List.append_nil]))
                · skip
                  refine V_ld (pc := 317) dX11_spells_317 (v := vr 30) rfl rfl ?_
                  refine V_bipush (pc := 318) dX11_spells_318 (by unfold I32; omega) (by decide) ?_
                  refine V_callV (pc := 320) dX11_spells_320 (F' := 0) (As := [vi 41]) (st := []) cw_RX11_203 rfl rfl hL.t30 (by decide) (Nat.le_of_ble_eq_true rfl) (by omega) (r_wr1  (apM 30 22 44 (apM 30 22 44 m (([94]) ++ (kidS T (splF T f) (T p.toNat 0) true (T p.toNat 2).toNat (T p.toNat 7)))) (qS (T p.toNat 3) (T p.toNat 4) (T p.toNat 5))) 41   (by first | assumption | omega) (by (try simp only [apM_sz, List.length_append, List.length_cons, List.length_nil]); omega)) ?_
                  rintro _ _ ⟨rfl, rfl⟩ ok320 le320
                  refine V_retv (pc := 323) dX11_spells_323 trivial ?_
                  first
                    | (exfalso; omega)
                    | ((repeat rw [apM_app])
                       exact congrArg (apM 30 22 44 m) (by
                         unfold brS
                         first | rw [if_pos (show b = 1 by omega), if_pos (show b = 1 by omega)] | rw [if_neg (show ¬ b = 1 by omega), if_neg (show ¬ b = 1 by omega)]
                         first
                           | rw [splF_0 (by omega), hK0 (by omega)]
                           | rw [splF_1 (by omega), hK0 (by omega)]
                           | rw [splF_2 (by omega), hK0 (by omega)]
                           | rw [splF_6 (by omega)]
                           | rw [splF_5 (by omega)]
                           | rw [splF_34 (by omega)]
                         first | done | rfl | simp only [List.append_assoc, List.cons_append, List.nil_append, List.append_nil]))
            · skip
              refine V_ld (pc := 292) dX11_spells_292 (v := vr 30) rfl rfl ?_
              refine V_bipush (pc := 293) dX11_spells_293 (by unfold I32; omega) (by decide) ?_
              refine V_callV (pc := 295) dX11_spells_295 (F' := 0) (As := [vi 41]) (st := []) cw_RX11_203 rfl rfl hL.t30 (by decide) (Nat.le_of_ble_eq_true rfl) (by omega) (r_wr1  (apM 30 22 44 m (([94]) ++ (kidS T (splF T f) (T p.toNat 0) true (T p.toNat 2).toNat (T p.toNat 7)))) 41   (by first | assumption | omega) (by (try simp only [apM_sz, List.length_append, List.length_cons, List.length_nil]); omega)) ?_
              rintro _ _ ⟨rfl, rfl⟩ ok295 le295
              refine V_ld (pc := 298) dX11_spells_298 (v := vr 30) rfl rfl ?_
              refine V_getRv (pc := 299) dX11_spells_299 (o' := 35) fw_RX11_24 rfl hL.t30 hL.r30_10 ?_
              refine V_ld (pc := 302) dX11_spells_302 (v := vi p) rfl rfl ?_
              refine V_ialdv (pc := 303) dX11_spells_303 (v := (T p.toNat 0)) hL.t35 (by omega) ((apM_ne (by omega) (by omega)).trans ((apM_ne (by omega) (by omega)).trans hq0)) (fun g303 => ?_)
              refine V_iconst (pc := 304) dX11_spells_304 (by unfold I32; omega) ?_
              refine V_icmp_ne (pc := 305) dX11_spells_305 (tgt := 313) rfl (fun h305 => ?_) (fun h305 => ?_)
              · skip
                refine V_ld (pc := 313) dX11_spells_313 (v := vi b) rfl rfl ?_
                refine V_if_eq (pc := 314) dX11_spells_314 (tgt := 323) rfl (fun h314 => ?_) (fun h314 => ?_)
                · skip
                  refine V_retv (pc := 323) dX11_spells_323 trivial ?_
                  first
                    | (exfalso; omega)
                    | ((repeat rw [apM_app])
                       exact congrArg (apM 30 22 44 m) (by
                         unfold brS
                         first | rw [if_pos (show b = 1 by omega), if_pos (show b = 1 by omega)] | rw [if_neg (show ¬ b = 1 by omega), if_neg (show ¬ b = 1 by omega)]
                         first
                           | rw [splF_0 (by omega), hK0 (by omega)]
                           | rw [splF_1 (by omega), hK0 (by omega)]
                           | rw [splF_2 (by omega), hK0 (by omega)]
                           | rw [splF_6 (by omega)]
                           | rw [splF_5 (by omega)]
                           | rw [splF_34 (by omega)]
                         first | done | rfl | simp only [List.append_assoc, List.cons_append, List.nil_append, List.append_nil]))
                · skip
                  refine V_ld (pc := 317) dX11_spells_317 (v := vr 30) rfl rfl ?_
                  refine V_bipush (pc := 318) dX11_spells_318 (by unfold I32; omega) (by decide) ?_
                  refine V_callV (pc := 320) dX11_spells_320 (F' := 0) (As := [vi 41]) (st := []) cw_RX11_203 rfl rfl hL.t30 (by decide) (Nat.le_of_ble_eq_true rfl) (by omega) (r_wr1  (apM 30 22 44 (apM 30 22 44 m (([94]) ++ (kidS T (splF T f) (T p.toNat 0) true (T p.toNat 2).toNat (T p.toNat 7)))) [41]) 41   (by first | assumption | omega) (by (try simp only [apM_sz, List.length_append, List.length_cons, List.length_nil]); omega)) ?_
                  rintro _ _ ⟨rfl, rfl⟩ ok320 le320
                  refine V_retv (pc := 323) dX11_spells_323 trivial ?_
                  first
                    | (exfalso; omega)
                    | ((repeat rw [apM_app])
                       exact congrArg (apM 30 22 44 m) (by
                         unfold brS
                         first | rw [if_pos (show b = 1 by omega), if_pos (show b = 1 by omega)] | rw [if_neg (show ¬ b = 1 by omega), if_neg (show ¬ b = 1 by omega)]
                         first
                           | rw [splF_0 (by omega), hK0 (by omega)]
                           | rw [splF_1 (by omega), hK0 (by omega)]
                           | rw [splF_2 (by omega), hK0 (by omega)]
                           | rw [splF_6 (by omega)]
                           | rw [splF_5 (by omega)]
                           | rw [splF_34 (by omega)]
                         first | done | rfl | simp only [List.append_assoc, List.cons_append, List.nil_append, List.append_nil]))
              · skip
                refine V_ld (pc := 308) dX11_spells_308 (v := vr 30) rfl rfl ?_
                refine V_ld (pc := 309) dX11_spells_309 (v := vi p) rfl rfl ?_
                refine V_callV (pc := 310) dX11_spells_310 (F' := 2) (As := [vi p]) (st := []) cw_RX11_210 rfl rfl hL.t30 (by decide) (Nat.le_of_ble_eq_true rfl) (by omega) (r_times T c (apM 30 22 44 (apM 30 22 44 m (([94]) ++ (kidS T (splF T f) (T p.toNat 0) true (T p.toNat 2).toNat (T p.toNat 7)))) [41]) p   (by first | assumption | omega) (fun p_ hp_ => by have h_ := hT p_ hp_; (repeat rw [apM_ne (by omega) (by omega)]); exact h_) ⟨hp.1, hp.2.1, hp.2.2⟩ (hB5 (by omega)) (by (try simp only [apM_sz, List.length_append, List.length_cons, List.length_nil]); omega)) ?_
                rintro _ _ ⟨rfl, rfl⟩ ok310 le310
                refine V_ld (pc := 313) dX11_spells_313 (v := vi b) rfl rfl ?_
                refine V_if_eq (pc := 314) dX11_spells_314 (tgt := 323) rfl (fun h314 => ?_) (fun h314 => ?_)
                · skip
                  refine V_retv (pc := 323) dX11_spells_323 trivial ?_
                  first
                    | (exfalso; omega)
                    | ((repeat rw [apM_app])
                       exact congrArg (apM 30 22 44 m) (by
                         unfold brS
                         first | rw [if_pos (show b = 1 by omega), if_pos (show b = 1 by omega)] | rw [if_neg (show ¬ b = 1 by omega), if_neg (show ¬ b = 1 by omega)]
                         first
                           | rw [splF_0 (by omega), hK0 (by omega)]
                           | rw [splF_1 (by omega), hK0 (by omega)]
                           | rw [splF_2 (by omega), hK0 (by omega)]
                           | rw [splF_6 (by omega)]
                           | rw [splF_5 (by omega)]
                           | rw [splF_34 (by omega)]
                         first | done | rfl | simp only [List.append_assoc, List.cons_append, List.nil_append, List.append_nil]))
                · skip
                  refine V_ld (pc := 317) dX11_spells_317 (v := vr 30) rfl rfl ?_
                  refine V_bipush (pc := 318) dX11_spells_318 (by unfold I32; omega) (by decide) ?_
                  refine V_callV (pc := 320) dX11_spells_320 (F' := 0) (As := [vi 41]) (st := []) cw_RX11_203 rfl rfl hL.t30 (by decide) (Nat.le_of_ble_eq_true rfl) (by omega) (r_wr1  (apM 30 22 44 (apM 30 22 44 (apM 30 22 44 m (([94]) ++ (kidS T (splF T f) (T p.toNat 0) true (T p.toNat 2).toNat (T p.toNat 7)))) [41]) (qS (T p.toNat 3) (T p.toNat 4) (T p.toNat 5))) 41   (by first | assumption | omega) (by (try simp only [apM_sz, List.length_append, List.length_cons, List.length_nil]); omega)) ?_
                  rintro _ _ ⟨rfl, rfl⟩ ok320 le320
                  refine V_retv (pc := 323) dX11_spells_323 trivial ?_
                  first
                    | (exfalso; omega)
                    | ((repeat rw [apM_app])
                       exact congrArg (apM 30 22 44 m) (by
                         unfold brS
                         first | rw [if_pos (show b = 1 by omega), if_pos (show b = 1 by omega)] | rw [if_neg (show ¬ b = 1 by omega), if_neg (show ¬ b = 1 by omega)]
                         first
                           | rw [splF_0 (by omega), hK0 (by omega)]
                           | rw [splF_1 (by omega), hK0 (by omega)]
                           | rw [splF_2 (by omega), hK0 (by omega)]
                           | rw [splF_6 (by omega)]
                           | rw [splF_5 (by omega)]
                           | rw [splF_34 (by omega)]
                         first | done | rfl | simp only [List.append_assoc, List.cons_append, List.nil_append, List.append_nil]))
    · skip
      refine V_ld (pc := 21) dX11_spells_21 (v := vr 30) rfl rfl ?_
      refine V_bipush (pc := 22) dX11_spells_22 (by unfold I32; omega) (by decide) ?_
      refine V_ld (pc := 24) dX11_spells_24 (v := vr 30) rfl rfl ?_
      refine V_getRv (pc := 25) dX11_spells_25 (o' := 36) fw_RX11_27 rfl hL.t30 hL.r30_11 ?_
      refine V_ld (pc := 28) dX11_spells_28 (v := vi p) rfl rfl ?_
      refine V_ialdv (pc := 29) dX11_spells_29 (v := (T p.toNat 1)) hL.t36 (by omega) hq1 (fun g29 => ?_)
      refine V_iadd (pc := 30) dX11_spells_30 (by unfold I32 at *; omega) ?_
      refine V_callV (pc := 31) dX11_spells_31 (F' := 0) (As := [vi (65 + (T p.toNat 1))]) (st := []) cw_RX11_203 rfl rfl hL.t30 (by decide) (Nat.le_of_ble_eq_true rfl) (by omega) (r_wr1  m (65 + (T p.toNat 1))   (by first | assumption | omega) (by (try simp only [apM_sz, List.length_append, List.length_cons, List.length_nil]); omega)) ?_
      rintro _ _ ⟨rfl, rfl⟩ ok31 le31
      refine V_goto (pc := 34) dX11_spells_34 (tgt := 104) rfl ?_
      refine V_ld (pc := 104) dX11_spells_104 (v := vr 30) rfl rfl ?_
      refine V_getRv (pc := 105) dX11_spells_105 (o' := 41) fw_RX11_42 rfl hL.t30 hL.r30_16 ?_
      refine V_ld (pc := 108) dX11_spells_108 (v := vi p) rfl rfl ?_
      refine V_ialdv (pc := 109) dX11_spells_109 (v := (T p.toNat 7)) hL.t41 (by omega) ((apM_ne (by omega) (by omega)).trans hq7) (fun g109 => ?_)
      refine V_st (pc := 110) dX11_spells_110 (ls' := [(4, vi (T p.toNat 7)), (3, vi 0), (0, vr 30), (1, vi p), (2, vi b)]) rfl (Nat.le_of_ble_eq_true rfl) rfl ?_
      skip
      refine V_mem (m' := apM 30 22 44 m ([(65 + (T p.toNat 1))])) (rfl) ?_
      refine L_rsp (m := m) (c := c) (f := f) (T := T) (p := p) (b := b) (by omega) hL hT hp hW.1 hW.2 hr.1 (T p.toNat 2).toNat 0 (T p.toNat 7) 0 ([(65 + (T p.toNat 1))]) (hKo1 ()) (hKo ()).2.1 rfl ?_ (fun s' => ?_)
      · rw [show decide ((0 : Nat) = 0) = true from rfl]
        simp only [List.length_append, List.length_cons, List.length_nil]
        omega
      rw [show decide ((0 : Nat) = 0) = true from rfl]
      refine V_ld (pc := 281) dX11_spells_281 (v := vr 30) rfl rfl ?_
      refine V_getRv (pc := 282) dX11_spells_282 (o' := 35) fw_RX11_24 rfl hL.t30 hL.r30_10 ?_
      refine V_ld (pc := 285) dX11_spells_285 (v := vi p) rfl rfl ?_
      refine V_ialdv (pc := 286) dX11_spells_286 (v := (T p.toNat 0)) hL.t35 (by omega) ((apM_ne (by omega) (by omega)).trans hq0) (fun g286 => ?_)
      refine V_bipush (pc := 287) dX11_spells_287 (by unfold I32; omega) (by decide) ?_
      refine V_icmp_ne (pc := 289) dX11_spells_289 (tgt := 298) rfl (fun h289 => ?_) (fun h289 => ?_)
      · skip
        refine V_ld (pc := 298) dX11_spells_298 (v := vr 30) rfl rfl ?_
        refine V_getRv (pc := 299) dX11_spells_299 (o' := 35) fw_RX11_24 rfl hL.t30 hL.r30_10 ?_
        refine V_ld (pc := 302) dX11_spells_302 (v := vi p) rfl rfl ?_
        refine V_ialdv (pc := 303) dX11_spells_303 (v := (T p.toNat 0)) hL.t35 (by omega) ((apM_ne (by omega) (by omega)).trans hq0) (fun g303 => ?_)
        refine V_iconst (pc := 304) dX11_spells_304 (by unfold I32; omega) ?_
        refine V_icmp_ne (pc := 305) dX11_spells_305 (tgt := 313) rfl (fun h305 => ?_) (fun h305 => ?_)
        · skip
          refine V_ld (pc := 313) dX11_spells_313 (v := vi b) rfl rfl ?_
          refine V_if_eq (pc := 314) dX11_spells_314 (tgt := 323) rfl (fun h314 => ?_) (fun h314 => ?_)
          · skip
            refine V_retv (pc := 323) dX11_spells_323 trivial ?_
            first
              | (exfalso; omega)
              | ((repeat rw [apM_app])
                 exact congrArg (apM 30 22 44 m) (by
                   unfold brS
                   first | rw [if_pos (show b = 1 by omega), if_pos (show b = 1 by omega)] | rw [if_neg (show ¬ b = 1 by omega), if_neg (show ¬ b = 1 by omega)]
                   first
                     | rw [splF_0 (by omega), hK0 (by omega)]
                     | rw [splF_1 (by omega), hK0 (by omega)]
                     | rw [splF_2 (by omega), hK0 (by omega)]
                     | rw [splF_6 (by omega)]
                     | rw [splF_5 (by omega)]
                     | rw [splF_34 (by omega)]
                   first | done | rfl | simp only [List.append_assoc, List.cons_append, List.nil_append, List.append_nil]))
          · skip
            refine V_ld (pc := 317) dX11_spells_317 (v := vr 30) rfl rfl ?_
            refine V_bipush (pc := 318) dX11_spells_318 (by unfold I32; omega) (by decide) ?_
            refine V_callV (pc := 320) dX11_spells_320 (F' := 0) (As := [vi 41]) (st := []) cw_RX11_203 rfl rfl hL.t30 (by decide) (Nat.le_of_ble_eq_true rfl) (by omega) (r_wr1  (apM 30 22 44 m (([(65 + (T p.toNat 1))]) ++ (kidS T (splF T f) (T p.toNat 0) true (T p.toNat 2).toNat (T p.toNat 7)))) 41   (by first | assumption | omega) (by (try simp only [apM_sz, List.length_append, List.length_cons, List.length_nil]); omega)) ?_
            rintro _ _ ⟨rfl, rfl⟩ ok320 le320
            refine V_retv (pc := 323) dX11_spells_323 trivial ?_
            first
              | (exfalso; omega)
              | ((repeat rw [apM_app])
                 exact congrArg (apM 30 22 44 m) (by
                   unfold brS
                   first | rw [if_pos (show b = 1 by omega), if_pos (show b = 1 by omega)] | rw [if_neg (show ¬ b = 1 by omega), if_neg (show ¬ b = 1 by omega)]
                   first
                     | rw [splF_0 (by omega), hK0 (by omega)]
                     | rw [splF_1 (by omega), hK0 (by omega)]
                     | rw [splF_2 (by omega), hK0 (by omega)]
                     | rw [splF_6 (by omega)]
                     | rw [splF_5 (by omega)]
                     | rw [splF_34 (by omega)]
                   first | done | rfl | simp only [List.append_assoc, List.cons_append, List.nil_append, List.append_nil]))
        · skip
          refine V_ld (pc := 308) dX11_spells_308 (v := vr 30) rfl rfl ?_
          refine V_ld (pc := 309) dX11_spells_309 (v := vi p) rfl rfl ?_
          refine V_callV (pc := 310) dX11_spells_310 (F' := 2) (As := [vi p]) (st := []) cw_RX11_210 rfl rfl hL.t30 (by decide) (Nat.le_of_ble_eq_true rfl) (by omega) (r_times T c (apM 30 22 44 m (([(65 + (T p.toNat 1))]) ++ (kidS T (splF T f) (T p.toNat 0) true (T p.toNat 2).toNat (T p.toNat 7)))) p   (by first | assumption | omega) (fun p_ hp_ => by have h_ := hT p_ hp_; (repeat rw [apM_ne (by omega) (by omega)]); exact h_) ⟨hp.1, hp.2.1, hp.2.2⟩ (hB5 (by omega)) (by (try simp only [apM_sz, List.length_append, List.length_cons, List.length_nil]); omega)) ?_
          rintro _ _ ⟨rfl, rfl⟩ ok310 le310
          refine V_ld (pc := 313) dX11_spells_313 (v := vi b) rfl rfl ?_
          refine V_if_eq (pc := 314) dX11_spells_314 (tgt := 323) rfl (fun h314 => ?_) (fun h314 => ?_)
          · skip
            refine V_retv (pc := 323) dX11_spells_323 trivial ?_
            first
              | (exfalso; omega)
              | ((repeat rw [apM_app])
                 exact congrArg (apM 30 22 44 m) (by
                   unfold brS
                   first | rw [if_pos (show b = 1 by omega), if_pos (show b = 1 by omega)] | rw [if_neg (show ¬ b = 1 by omega), if_neg (show ¬ b = 1 by omega)]
                   first
                     | rw [splF_0 (by omega), hK0 (by omega)]
                     | rw [splF_1 (by omega), hK0 (by omega)]
                     | rw [splF_2 (by omega), hK0 (by omega)]
                     | rw [splF_6 (by omega)]
                     | rw [splF_5 (by omega)]
                     | rw [splF_34 (by omega)]
                   first | done | rfl | simp only [List.append_assoc, List.cons_append, List.nil_append, List.append_nil]))
          · skip
            refine V_ld (pc := 317) dX11_spells_317 (v := vr 30) rfl rfl ?_
            refine V_bipush (pc := 318) dX11_spells_318 (by unfold I32; omega) (by decide) ?_
            refine V_callV (pc := 320) dX11_spells_320 (F' := 0) (As := [vi 41]) (st := []) cw_RX11_203 rfl rfl hL.t30 (by decide) (Nat.le_of_ble_eq_true rfl) (by omega) (r_wr1  (apM 30 22 44 (apM 30 22 44 m (([(65 + (T p.toNat 1))]) ++ (kidS T (splF T f) (T p.toNat 0) true (T p.toNat 2).toNat (T p.toNat 7)))) (qS (T p.toNat 3) (T p.toNat 4) (T p.toNat 5))) 41   (by first | assumption | omega) (by (try simp only [apM_sz, List.length_append, List.length_cons, List.length_nil]); omega)) ?_
            rintro _ _ ⟨rfl, rfl⟩ ok320 le320
            refine V_retv (pc := 323) dX11_spells_323 trivial ?_
            first
              | (exfalso; omega)
              | ((repeat rw [apM_app])
                 exact congrArg (apM 30 22 44 m) (by
                   unfold brS
                   first | rw [if_pos (show b = 1 by omega), if_pos (show b = 1 by omega)] | rw [if_neg (show ¬ b = 1 by omega), if_neg (show ¬ b = 1 by omega)]
                   first
                     | rw [splF_0 (by omega), hK0 (by omega)]
                     | rw [splF_1 (by omega), hK0 (by omega)]
                     | rw [splF_2 (by omega), hK0 (by omega)]
                     | rw [splF_6 (by omega)]
                     | rw [splF_5 (by omega)]
                     | rw [splF_34 (by omega)]
                   first | done | rfl | simp only [List.append_assoc, List.cons_append, List.nil_append, List.append_nil]))
      · skip
        refine V_ld (pc := 292) dX11_spells_292 (v := vr 30) rfl rfl ?_
        refine V_bipush (pc := 293) dX11_spells_293 (by unfold I32; omega) (by decide) ?_
        refine V_callV (pc := 295) dX11_spells_295 (F' := 0) (As := [vi 41]) (st := []) cw_RX11_203 rfl rfl hL.t30 (by decide) (Nat.le_of_ble_eq_true rfl) (by omega) (r_wr1  (apM 30 22 44 m (([(65 + (T p.toNat 1))]) ++ (kidS T (splF T f) (T p.toNat 0) true (T p.toNat 2).toNat (T p.toNat 7)))) 41   (by first | assumption | omega) (by (try simp only [apM_sz, List.length_append, List.length_cons, List.length_nil]); omega)) ?_
        rintro _ _ ⟨rfl, rfl⟩ ok295 le295
        refine V_ld (pc := 298) dX11_spells_298 (v := vr 30) rfl rfl ?_
        refine V_getRv (pc := 299) dX11_spells_299 (o' := 35) fw_RX11_24 rfl hL.t30 hL.r30_10 ?_
        refine V_ld (pc := 302) dX11_spells_302 (v := vi p) rfl rfl ?_
        refine V_ialdv (pc := 303) dX11_spells_303 (v := (T p.toNat 0)) hL.t35 (by omega) ((apM_ne (by omega) (by omega)).trans ((apM_ne (by omega) (by omega)).trans hq0)) (fun g303 => ?_)
        refine V_iconst (pc := 304) dX11_spells_304 (by unfold I32; omega) ?_
        refine V_icmp_ne (pc := 305) dX11_spells_305 (tgt := 313) rfl (fun h305 => ?_) (fun h305 => ?_)
        · skip
          refine V_ld (pc := 313) dX11_spells_313 (v := vi b) rfl rfl ?_
          refine V_if_eq (pc := 314) dX11_spells_314 (tgt := 323) rfl (fun h314 => ?_) (fun h314 => ?_)
          · skip
            refine V_retv (pc := 323) dX11_spells_323 trivial ?_
            first
              | (exfalso; omega)
              | ((repeat rw [apM_app])
                 exact congrArg (apM 30 22 44 m) (by
                   unfold brS
                   first | rw [if_pos (show b = 1 by omega), if_pos (show b = 1 by omega)] | rw [if_neg (show ¬ b = 1 by omega), if_neg (show ¬ b = 1 by omega)]
                   first
                     | rw [splF_0 (by omega), hK0 (by omega)]
                     | rw [splF_1 (by omega), hK0 (by omega)]
                     | rw [splF_2 (by omega), hK0 (by omega)]
                     | rw [splF_6 (by omega)]
                     | rw [splF_5 (by omega)]
                     | rw [splF_34 (by omega)]
                   first | done | rfl | simp only [List.append_assoc, List.cons_append, List.nil_append, List.append_nil]))
          · skip
            refine V_ld (pc := 317) dX11_spells_317 (v := vr 30) rfl rfl ?_
            refine V_bipush (pc := 318) dX11_spells_318 (by unfold I32; omega) (by decide) ?_
            refine V_callV (pc := 320) dX11_spells_320 (F' := 0) (As := [vi 41]) (st := []) cw_RX11_203 rfl rfl hL.t30 (by decide) (Nat.le_of_ble_eq_true rfl) (by omega) (r_wr1  (apM 30 22 44 (apM 30 22 44 m (([(65 + (T p.toNat 1))]) ++ (kidS T (splF T f) (T p.toNat 0) true (T p.toNat 2).toNat (T p.toNat 7)))) [41]) 41   (by first | assumption | omega) (by (try simp only [apM_sz, List.length_append, List.length_cons, List.length_nil]); omega)) ?_
            rintro _ _ ⟨rfl, rfl⟩ ok320 le320
            refine V_retv (pc := 323) dX11_spells_323 trivial ?_
            first
              | (exfalso; omega)
              | ((repeat rw [apM_app])
                 exact congrArg (apM 30 22 44 m) (by
                   unfold brS
                   first | rw [if_pos (show b = 1 by omega), if_pos (show b = 1 by omega)] | rw [if_neg (show ¬ b = 1 by omega), if_neg (show ¬ b = 1 by omega)]
                   first
                     | rw [splF_0 (by omega), hK0 (by omega)]
                     | rw [splF_1 (by omega), hK0 (by omega)]
                     | rw [splF_2 (by omega), hK0 (by omega)]
                     | rw [splF_6 (by omega)]
                     | rw [splF_5 (by omega)]
                     | rw [splF_34 (by omega)]
                   first | done | rfl | simp only [List.append_assoc, List.cons_append, List.nil_append, List.append_nil]))
        · skip
          refine V_ld (pc := 308) dX11_spells_308 (v := vr 30) rfl rfl ?_
          refine V_ld (pc := 309) dX11_spells_309 (v := vi p) rfl rfl ?_
          refine V_callV (pc := 310) dX11_spells_310 (F' := 2) (As := [vi p]) (st := []) cw_RX11_210 rfl rfl hL.t30 (by decide) (Nat.le_of_ble_eq_true rfl) (by omega) (r_times T c (apM 30 22 44 (apM 30 22 44 m (([(65 + (T p.toNat 1))]) ++ (kidS T (splF T f) (T p.toNat 0) true (T p.toNat 2).toNat (T p.toNat 7)))) [41]) p   (by first | assumption | omega) (fun p_ hp_ => by have h_ := hT p_ hp_; (repeat rw [apM_ne (by omega) (by omega)]); exact h_) ⟨hp.1, hp.2.1, hp.2.2⟩ (hB5 (by omega)) (by (try simp only [apM_sz, List.length_append, List.length_cons, List.length_nil]); omega)) ?_
          rintro _ _ ⟨rfl, rfl⟩ ok310 le310
          refine V_ld (pc := 313) dX11_spells_313 (v := vi b) rfl rfl ?_
          refine V_if_eq (pc := 314) dX11_spells_314 (tgt := 323) rfl (fun h314 => ?_) (fun h314 => ?_)
          · skip
            refine V_retv (pc := 323) dX11_spells_323 trivial ?_
            first
              | (exfalso; omega)
              | ((repeat rw [apM_app])
                 exact congrArg (apM 30 22 44 m) (by
                   unfold brS
                   first | rw [if_pos (show b = 1 by omega), if_pos (show b = 1 by omega)] | rw [if_neg (show ¬ b = 1 by omega), if_neg (show ¬ b = 1 by omega)]
                   first
                     | rw [splF_0 (by omega), hK0 (by omega)]
                     | rw [splF_1 (by omega), hK0 (by omega)]
                     | rw [splF_2 (by omega), hK0 (by omega)]
                     | rw [splF_6 (by omega)]
                     | rw [splF_5 (by omega)]
                     | rw [splF_34 (by omega)]
                   first | done | rfl | simp only [List.append_assoc, List.cons_append, List.nil_append, List.append_nil]))
          · skip
            refine V_ld (pc := 317) dX11_spells_317 (v := vr 30) rfl rfl ?_
            refine V_bipush (pc := 318) dX11_spells_318 (by unfold I32; omega) (by decide) ?_
            refine V_callV (pc := 320) dX11_spells_320 (F' := 0) (As := [vi 41]) (st := []) cw_RX11_203 rfl rfl hL.t30 (by decide) (Nat.le_of_ble_eq_true rfl) (by omega) (r_wr1  (apM 30 22 44 (apM 30 22 44 (apM 30 22 44 m (([(65 + (T p.toNat 1))]) ++ (kidS T (splF T f) (T p.toNat 0) true (T p.toNat 2).toNat (T p.toNat 7)))) [41]) (qS (T p.toNat 3) (T p.toNat 4) (T p.toNat 5))) 41   (by first | assumption | omega) (by (try simp only [apM_sz, List.length_append, List.length_cons, List.length_nil]); omega)) ?_
            rintro _ _ ⟨rfl, rfl⟩ ok320 le320
            refine V_retv (pc := 323) dX11_spells_323 trivial ?_
            first
              | (exfalso; omega)
              | ((repeat rw [apM_app])
                 exact congrArg (apM 30 22 44 m) (by
                   unfold brS
                   first | rw [if_pos (show b = 1 by omega), if_pos (show b = 1 by omega)] | rw [if_neg (show ¬ b = 1 by omega), if_neg (show ¬ b = 1 by omega)]
                   first
                     | rw [splF_0 (by omega), hK0 (by omega)]
                     | rw [splF_1 (by omega), hK0 (by omega)]
                     | rw [splF_2 (by omega), hK0 (by omega)]
                     | rw [splF_6 (by omega)]
                     | rw [splF_5 (by omega)]
                     | rw [splF_34 (by omega)]
                   first | done | rfl | simp only [List.append_assoc, List.cons_append, List.nil_append, List.append_nil]))
  · skip
    refine V_ld (pc := 4) dX11_spells_4 (v := vr 30) rfl rfl ?_
    refine V_bipush (pc := 5) dX11_spells_5 (by unfold I32; omega) (by decide) ?_
    refine V_callV (pc := 7) dX11_spells_7 (F' := 0) (As := [vi 40]) (st := []) cw_RX11_203 rfl rfl hL.t30 (by decide) (Nat.le_of_ble_eq_true rfl) (by omega) (r_wr1  m 40   (by first | assumption | omega) (by (try simp only [apM_sz, List.length_append, List.length_cons, List.length_nil]); omega)) ?_
    rintro _ _ ⟨rfl, rfl⟩ ok7 le7
    refine V_iconst (pc := 10) dX11_spells_10 (by unfold I32; omega) ?_
    refine V_st (pc := 11) dX11_spells_11 (ls' := [(3, vi 0), (0, vr 30), (1, vi p), (2, vi b)]) rfl (Nat.le_of_ble_eq_true rfl) rfl ?_
    refine V_ld (pc := 12) dX11_spells_12 (v := vr 30) rfl rfl ?_
    refine V_getRv (pc := 13) dX11_spells_13 (o' := 35) fw_RX11_24 rfl hL.t30 hL.r30_10 ?_
    refine V_ld (pc := 16) dX11_spells_16 (v := vi p) rfl rfl ?_
    refine V_ialdv (pc := 17) dX11_spells_17 (v := (T p.toNat 0)) hL.t35 (by omega) ((apM_ne (by omega) (by omega)).trans hq0) (fun g17 => ?_)
    refine V_if_ne (pc := 18) dX11_spells_18 (tgt := 37) rfl (fun h18 => ?_) (fun h18 => ?_)
    · skip
      refine V_ld (pc := 37) dX11_spells_37 (v := vr 30) rfl rfl ?_
      refine V_getRv (pc := 38) dX11_spells_38 (o' := 35) fw_RX11_24 rfl hL.t30 hL.r30_10 ?_
      refine V_ld (pc := 41) dX11_spells_41 (v := vi p) rfl rfl ?_
      refine V_ialdv (pc := 42) dX11_spells_42 (v := (T p.toNat 0)) hL.t35 (by omega) ((apM_ne (by omega) (by omega)).trans hq0) (fun g42 => ?_)
      refine V_iconst (pc := 43) dX11_spells_43 (by unfold I32; omega) ?_
      refine V_icmp_eq (pc := 44) dX11_spells_44 (tgt := 57) rfl (fun h44 => ?_) (fun h44 => ?_)
      · skip
        refine V_ld (pc := 57) dX11_spells_57 (v := vr 30) rfl rfl ?_
        refine V_ld (pc := 58) dX11_spells_58 (v := vr 30) rfl rfl ?_
        refine V_getRv (pc := 59) dX11_spells_59 (o' := 35) fw_RX11_24 rfl hL.t30 hL.r30_10 ?_
        refine V_ld (pc := 62) dX11_spells_62 (v := vi p) rfl rfl ?_
        refine V_ialdv (pc := 63) dX11_spells_63 (v := (T p.toNat 0)) hL.t35 (by omega) ((apM_ne (by omega) (by omega)).trans hq0) (fun g63 => ?_)
        refine V_iconst (pc := 64) dX11_spells_64 (by unfold I32; omega) ?_
        refine V_icmp_ne (pc := 65) dX11_spells_65 (tgt := 73) rfl (fun h65 => ?_) (fun h65 => ?_)
        · skip
          refine V_bipush (pc := 73) dX11_spells_73 (by unfold I32; omega) (by decide) ?_
          refine V_callV (pc := 75) dX11_spells_75 (F' := 0) (As := [vi 36]) (st := []) cw_RX11_203 rfl rfl hL.t30 (by decide) (Nat.le_of_ble_eq_true rfl) (by omega) (r_wr1  (apM 30 22 44 m [40]) 36   (by first | assumption | omega) (by (try simp only [apM_sz, List.length_append, List.length_cons, List.length_nil]); omega)) ?_
          rintro _ _ ⟨rfl, rfl⟩ ok75 le75
          refine V_goto (pc := 78) dX11_spells_78 (tgt := 104) rfl ?_
          refine V_ld (pc := 104) dX11_spells_104 (v := vr 30) rfl rfl ?_
          refine V_getRv (pc := 105) dX11_spells_105 (o' := 41) fw_RX11_42 rfl hL.t30 hL.r30_16 ?_
          refine V_ld (pc := 108) dX11_spells_108 (v := vi p) rfl rfl ?_
          refine V_ialdv (pc := 109) dX11_spells_109 (v := (T p.toNat 7)) hL.t41 (by omega) ((apM_ne (by omega) (by omega)).trans ((apM_ne (by omega) (by omega)).trans hq7)) (fun g109 => ?_)
          refine V_st (pc := 110) dX11_spells_110 (ls' := [(4, vi (T p.toNat 7)), (3, vi 0), (0, vr 30), (1, vi p), (2, vi b)]) rfl (Nat.le_of_ble_eq_true rfl) rfl ?_
          skip
          refine V_mem (m' := apM 30 22 44 m ([40] ++ [36])) (by repeat rw [apM_app]) ?_
          refine L_rsp (m := m) (c := c) (f := f) (T := T) (p := p) (b := b) (by omega) hL hT hp hW.1 hW.2 hr.1 (T p.toNat 2).toNat 0 (T p.toNat 7) 0 ([40] ++ [36]) (hKo1 ()) (hKo ()).2.1 rfl ?_ (fun s' => ?_)
          · rw [show decide ((0 : Nat) = 0) = true from rfl]
            simp only [List.length_append, List.length_cons, List.length_nil]
            omega
          rw [show decide ((0 : Nat) = 0) = true from rfl]
          refine V_ld (pc := 281) dX11_spells_281 (v := vr 30) rfl rfl ?_
          refine V_getRv (pc := 282) dX11_spells_282 (o' := 35) fw_RX11_24 rfl hL.t30 hL.r30_10 ?_
          refine V_ld (pc := 285) dX11_spells_285 (v := vi p) rfl rfl ?_
          refine V_ialdv (pc := 286) dX11_spells_286 (v := (T p.toNat 0)) hL.t35 (by omega) ((apM_ne (by omega) (by omega)).trans hq0) (fun g286 => ?_)
          refine V_bipush (pc := 287) dX11_spells_287 (by unfold I32; omega) (by decide) ?_
          refine V_icmp_ne (pc := 289) dX11_spells_289 (tgt := 298) rfl (fun h289 => ?_) (fun h289 => ?_)
          · skip
            refine V_ld (pc := 298) dX11_spells_298 (v := vr 30) rfl rfl ?_
            refine V_getRv (pc := 299) dX11_spells_299 (o' := 35) fw_RX11_24 rfl hL.t30 hL.r30_10 ?_
            refine V_ld (pc := 302) dX11_spells_302 (v := vi p) rfl rfl ?_
            refine V_ialdv (pc := 303) dX11_spells_303 (v := (T p.toNat 0)) hL.t35 (by omega) ((apM_ne (by omega) (by omega)).trans hq0) (fun g303 => ?_)
            refine V_iconst (pc := 304) dX11_spells_304 (by unfold I32; omega) ?_
            refine V_icmp_ne (pc := 305) dX11_spells_305 (tgt := 313) rfl (fun h305 => ?_) (fun h305 => ?_)
            · skip
              refine V_ld (pc := 313) dX11_spells_313 (v := vi b) rfl rfl ?_
              refine V_if_eq (pc := 314) dX11_spells_314 (tgt := 323) rfl (fun h314 => ?_) (fun h314 => ?_)
              · skip
                refine V_retv (pc := 323) dX11_spells_323 trivial ?_
                first
                  | (exfalso; omega)
                  | ((repeat rw [apM_app])
                     exact congrArg (apM 30 22 44 m) (by
                       unfold brS
                       first | rw [if_pos (show b = 1 by omega), if_pos (show b = 1 by omega)] | rw [if_neg (show ¬ b = 1 by omega), if_neg (show ¬ b = 1 by omega)]
                       first
                         | rw [splF_0 (by omega), hK0 (by omega)]
                         | rw [splF_1 (by omega), hK0 (by omega)]
                         | rw [splF_2 (by omega), hK0 (by omega)]
                         | rw [splF_6 (by omega)]
                         | rw [splF_5 (by omega)]
                         | rw [splF_34 (by omega)]
                       first | done | rfl | simp only [List.append_assoc, List.cons_append, List.nil_append, List.append_nil]))
              · skip
                refine V_ld (pc := 317) dX11_spells_317 (v := vr 30) rfl rfl ?_
                refine V_bipush (pc := 318) dX11_spells_318 (by unfold I32; omega) (by decide) ?_
                refine V_callV (pc := 320) dX11_spells_320 (F' := 0) (As := [vi 41]) (st := []) cw_RX11_203 rfl rfl hL.t30 (by decide) (Nat.le_of_ble_eq_true rfl) (by omega) (r_wr1  (apM 30 22 44 m (([40] ++ [36]) ++ (kidS T (splF T f) (T p.toNat 0) true (T p.toNat 2).toNat (T p.toNat 7)))) 41   (by first | assumption | omega) (by (try simp only [apM_sz, List.length_append, List.length_cons, List.length_nil]); omega)) ?_
                rintro _ _ ⟨rfl, rfl⟩ ok320 le320
                refine V_retv (pc := 323) dX11_spells_323 trivial ?_
                first
                  | (exfalso; omega)
                  | ((repeat rw [apM_app])
                     exact congrArg (apM 30 22 44 m) (by
                       unfold brS
                       first | rw [if_pos (show b = 1 by omega), if_pos (show b = 1 by omega)] | rw [if_neg (show ¬ b = 1 by omega), if_neg (show ¬ b = 1 by omega)]
                       first
                         | rw [splF_0 (by omega), hK0 (by omega)]
                         | rw [splF_1 (by omega), hK0 (by omega)]
                         | rw [splF_2 (by omega), hK0 (by omega)]
                         | rw [splF_6 (by omega)]
                         | rw [splF_5 (by omega)]
                         | rw [splF_34 (by omega)]
                       first | done | rfl | simp only [List.append_assoc, List.cons_append, List.nil_append, List.append_nil]))
            · skip
              refine V_ld (pc := 308) dX11_spells_308 (v := vr 30) rfl rfl ?_
              refine V_ld (pc := 309) dX11_spells_309 (v := vi p) rfl rfl ?_
              refine V_callV (pc := 310) dX11_spells_310 (F' := 2) (As := [vi p]) (st := []) cw_RX11_210 rfl rfl hL.t30 (by decide) (Nat.le_of_ble_eq_true rfl) (by omega) (r_times T c (apM 30 22 44 m (([40] ++ [36]) ++ (kidS T (splF T f) (T p.toNat 0) true (T p.toNat 2).toNat (T p.toNat 7)))) p   (by first | assumption | omega) (fun p_ hp_ => by have h_ := hT p_ hp_; (repeat rw [apM_ne (by omega) (by omega)]); exact h_) ⟨hp.1, hp.2.1, hp.2.2⟩ (hB5 (by omega)) (by (try simp only [apM_sz, List.length_append, List.length_cons, List.length_nil]); omega)) ?_
              rintro _ _ ⟨rfl, rfl⟩ ok310 le310
              refine V_ld (pc := 313) dX11_spells_313 (v := vi b) rfl rfl ?_
              refine V_if_eq (pc := 314) dX11_spells_314 (tgt := 323) rfl (fun h314 => ?_) (fun h314 => ?_)
              · skip
                refine V_retv (pc := 323) dX11_spells_323 trivial ?_
                first
                  | (exfalso; omega)
                  | ((repeat rw [apM_app])
                     exact congrArg (apM 30 22 44 m) (by
                       unfold brS
                       first | rw [if_pos (show b = 1 by omega), if_pos (show b = 1 by omega)] | rw [if_neg (show ¬ b = 1 by omega), if_neg (show ¬ b = 1 by omega)]
                       first
                         | rw [splF_0 (by omega), hK0 (by omega)]
                         | rw [splF_1 (by omega), hK0 (by omega)]
                         | rw [splF_2 (by omega), hK0 (by omega)]
                         | rw [splF_6 (by omega)]
                         | rw [splF_5 (by omega)]
                         | rw [splF_34 (by omega)]
                       first | done | rfl | simp only [List.append_assoc, List.cons_append, List.nil_append, List.append_nil]))
              · skip
                refine V_ld (pc := 317) dX11_spells_317 (v := vr 30) rfl rfl ?_
                refine V_bipush (pc := 318) dX11_spells_318 (by unfold I32; omega) (by decide) ?_
                refine V_callV (pc := 320) dX11_spells_320 (F' := 0) (As := [vi 41]) (st := []) cw_RX11_203 rfl rfl hL.t30 (by decide) (Nat.le_of_ble_eq_true rfl) (by omega) (r_wr1  (apM 30 22 44 (apM 30 22 44 m (([40] ++ [36]) ++ (kidS T (splF T f) (T p.toNat 0) true (T p.toNat 2).toNat (T p.toNat 7)))) (qS (T p.toNat 3) (T p.toNat 4) (T p.toNat 5))) 41   (by first | assumption | omega) (by (try simp only [apM_sz, List.length_append, List.length_cons, List.length_nil]); omega)) ?_
                rintro _ _ ⟨rfl, rfl⟩ ok320 le320
                refine V_retv (pc := 323) dX11_spells_323 trivial ?_
                first
                  | (exfalso; omega)
                  | ((repeat rw [apM_app])
                     exact congrArg (apM 30 22 44 m) (by
                       unfold brS
                       first | rw [if_pos (show b = 1 by omega), if_pos (show b = 1 by omega)] | rw [if_neg (show ¬ b = 1 by omega), if_neg (show ¬ b = 1 by omega)]
                       first
                         | rw [splF_0 (by omega), hK0 (by omega)]
                         | rw [splF_1 (by omega), hK0 (by omega)]
                         | rw [splF_2 (by omega), hK0 (by omega)]
                         | rw [splF_6 (by omega)]
                         | rw [splF_5 (by omega)]
                         | rw [splF_34 (by omega)]
                       first | done | rfl | simp only [List.append_assoc, List.cons_append, List.nil_append, List.append_nil]))
          · skip
            refine V_ld (pc := 292) dX11_spells_292 (v := vr 30) rfl rfl ?_
            refine V_bipush (pc := 293) dX11_spells_293 (by unfold I32; omega) (by decide) ?_
            refine V_callV (pc := 295) dX11_spells_295 (F' := 0) (As := [vi 41]) (st := []) cw_RX11_203 rfl rfl hL.t30 (by decide) (Nat.le_of_ble_eq_true rfl) (by omega) (r_wr1  (apM 30 22 44 m (([40] ++ [36]) ++ (kidS T (splF T f) (T p.toNat 0) true (T p.toNat 2).toNat (T p.toNat 7)))) 41   (by first | assumption | omega) (by (try simp only [apM_sz, List.length_append, List.length_cons, List.length_nil]); omega)) ?_
            rintro _ _ ⟨rfl, rfl⟩ ok295 le295
            refine V_ld (pc := 298) dX11_spells_298 (v := vr 30) rfl rfl ?_
            refine V_getRv (pc := 299) dX11_spells_299 (o' := 35) fw_RX11_24 rfl hL.t30 hL.r30_10 ?_
            refine V_ld (pc := 302) dX11_spells_302 (v := vi p) rfl rfl ?_
            refine V_ialdv (pc := 303) dX11_spells_303 (v := (T p.toNat 0)) hL.t35 (by omega) ((apM_ne (by omega) (by omega)).trans ((apM_ne (by omega) (by omega)).trans hq0)) (fun g303 => ?_)
            refine V_iconst (pc := 304) dX11_spells_304 (by unfold I32; omega) ?_
            refine V_icmp_ne (pc := 305) dX11_spells_305 (tgt := 313) rfl (fun h305 => ?_) (fun h305 => ?_)
            · skip
              refine V_ld (pc := 313) dX11_spells_313 (v := vi b) rfl rfl ?_
              refine V_if_eq (pc := 314) dX11_spells_314 (tgt := 323) rfl (fun h314 => ?_) (fun h314 => ?_)
              · skip
                refine V_retv (pc := 323) dX11_spells_323 trivial ?_
                first
                  | (exfalso; omega)
                  | ((repeat rw [apM_app])
                     exact congrArg (apM 30 22 44 m) (by
                       unfold brS
                       first | rw [if_pos (show b = 1 by omega), if_pos (show b = 1 by omega)] | rw [if_neg (show ¬ b = 1 by omega), if_neg (show ¬ b = 1 by omega)]
                       first
                         | rw [splF_0 (by omega), hK0 (by omega)]
                         | rw [splF_1 (by omega), hK0 (by omega)]
                         | rw [splF_2 (by omega), hK0 (by omega)]
                         | rw [splF_6 (by omega)]
                         | rw [splF_5 (by omega)]
                         | rw [splF_34 (by omega)]
                       first | done | rfl | simp only [List.append_assoc, List.cons_append, List.nil_append, List.append_nil]))
              · skip
                refine V_ld (pc := 317) dX11_spells_317 (v := vr 30) rfl rfl ?_
                refine V_bipush (pc := 318) dX11_spells_318 (by unfold I32; omega) (by decide) ?_
                refine V_callV (pc := 320) dX11_spells_320 (F' := 0) (As := [vi 41]) (st := []) cw_RX11_203 rfl rfl hL.t30 (by decide) (Nat.le_of_ble_eq_true rfl) (by omega) (r_wr1  (apM 30 22 44 (apM 30 22 44 m (([40] ++ [36]) ++ (kidS T (splF T f) (T p.toNat 0) true (T p.toNat 2).toNat (T p.toNat 7)))) [41]) 41   (by first | assumption | omega) (by (try simp only [apM_sz, List.length_append, List.length_cons, List.length_nil]); omega)) ?_
                rintro _ _ ⟨rfl, rfl⟩ ok320 le320
                refine V_retv (pc := 323) dX11_spells_323 trivial ?_
                first
                  | (exfalso; omega)
                  | ((repeat rw [apM_app])
                     exact congrArg (apM 30 22 44 m) (by
                       unfold brS
                       first | rw [if_pos (show b = 1 by omega), if_pos (show b = 1 by omega)] | rw [if_neg (show ¬ b = 1 by omega), if_neg (show ¬ b = 1 by omega)]
                       first
                         | rw [splF_0 (by omega), hK0 (by omega)]
                         | rw [splF_1 (by omega), hK0 (by omega)]
                         | rw [splF_2 (by omega), hK0 (by omega)]
                         | rw [splF_6 (by omega)]
                         | rw [splF_5 (by omega)]
                         | rw [splF_34 (by omega)]
                       first | done | rfl | simp only [List.append_assoc, List.cons_append, List.nil_append, List.append_nil]))
            · skip
              refine V_ld (pc := 308) dX11_spells_308 (v := vr 30) rfl rfl ?_
              refine V_ld (pc := 309) dX11_spells_309 (v := vi p) rfl rfl ?_
              refine V_callV (pc := 310) dX11_spells_310 (F' := 2) (As := [vi p]) (st := []) cw_RX11_210 rfl rfl hL.t30 (by decide) (Nat.le_of_ble_eq_true rfl) (by omega) (r_times T c (apM 30 22 44 (apM 30 22 44 m (([40] ++ [36]) ++ (kidS T (splF T f) (T p.toNat 0) true (T p.toNat 2).toNat (T p.toNat 7)))) [41]) p   (by first | assumption | omega) (fun p_ hp_ => by have h_ := hT p_ hp_; (repeat rw [apM_ne (by omega) (by omega)]); exact h_) ⟨hp.1, hp.2.1, hp.2.2⟩ (hB5 (by omega)) (by (try simp only [apM_sz, List.length_append, List.length_cons, List.length_nil]); omega)) ?_
              rintro _ _ ⟨rfl, rfl⟩ ok310 le310
              refine V_ld (pc := 313) dX11_spells_313 (v := vi b) rfl rfl ?_
              refine V_if_eq (pc := 314) dX11_spells_314 (tgt := 323) rfl (fun h314 => ?_) (fun h314 => ?_)
              · skip
                refine V_retv (pc := 323) dX11_spells_323 trivial ?_
                first
                  | (exfalso; omega)
                  | ((repeat rw [apM_app])
                     exact congrArg (apM 30 22 44 m) (by
                       unfold brS
                       first | rw [if_pos (show b = 1 by omega), if_pos (show b = 1 by omega)] | rw [if_neg (show ¬ b = 1 by omega), if_neg (show ¬ b = 1 by omega)]
                       first
                         | rw [splF_0 (by omega), hK0 (by omega)]
                         | rw [splF_1 (by omega), hK0 (by omega)]
                         | rw [splF_2 (by omega), hK0 (by omega)]
                         | rw [splF_6 (by omega)]
                         | rw [splF_5 (by omega)]
                         | rw [splF_34 (by omega)]
                       first | done | rfl | simp only [List.append_assoc, List.cons_append, List.nil_append, List.append_nil]))
              · skip
                refine V_ld (pc := 317) dX11_spells_317 (v := vr 30) rfl rfl ?_
                refine V_bipush (pc := 318) dX11_spells_318 (by unfold I32; omega) (by decide) ?_
                refine V_callV (pc := 320) dX11_spells_320 (F' := 0) (As := [vi 41]) (st := []) cw_RX11_203 rfl rfl hL.t30 (by decide) (Nat.le_of_ble_eq_true rfl) (by omega) (r_wr1  (apM 30 22 44 (apM 30 22 44 (apM 30 22 44 m (([40] ++ [36]) ++ (kidS T (splF T f) (T p.toNat 0) true (T p.toNat 2).toNat (T p.toNat 7)))) [41]) (qS (T p.toNat 3) (T p.toNat 4) (T p.toNat 5))) 41   (by first | assumption | omega) (by (try simp only [apM_sz, List.length_append, List.length_cons, List.length_nil]); omega)) ?_
                rintro _ _ ⟨rfl, rfl⟩ ok320 le320
                refine V_retv (pc := 323) dX11_spells_323 trivial ?_
                first
                  | (exfalso; omega)
                  | ((repeat rw [apM_app])
                     exact congrArg (apM 30 22 44 m) (by
                       unfold brS
                       first | rw [if_pos (show b = 1 by omega), if_pos (show b = 1 by omega)] | rw [if_neg (show ¬ b = 1 by omega), if_neg (show ¬ b = 1 by omega)]
                       first
                         | rw [splF_0 (by omega), hK0 (by omega)]
                         | rw [splF_1 (by omega), hK0 (by omega)]
                         | rw [splF_2 (by omega), hK0 (by omega)]
                         | rw [splF_6 (by omega)]
                         | rw [splF_5 (by omega)]
                         | rw [splF_34 (by omega)]
                       first | done | rfl | simp only [List.append_assoc, List.cons_append, List.nil_append, List.append_nil]))
        · skip
          refine V_bipush (pc := 68) dX11_spells_68 (by unfold I32; omega) (by decide) ?_
          refine V_goto (pc := 70) dX11_spells_70 (tgt := 75) rfl ?_
          refine V_callV (pc := 75) dX11_spells_75 (F' := 0) (As := [vi 94]) (st := []) cw_RX11_203 rfl rfl hL.t30 (by decide) (Nat.le_of_ble_eq_true rfl) (by omega) (r_wr1  (apM 30 22 44 m [40]) 94   (by first | assumption | omega) (by (try simp only [apM_sz, List.length_append, List.length_cons, List.length_nil]); omega)) ?_
          rintro _ _ ⟨rfl, rfl⟩ ok75 le75
          refine V_goto (pc := 78) dX11_spells_78 (tgt := 104) rfl ?_
          refine V_ld (pc := 104) dX11_spells_104 (v := vr 30) rfl rfl ?_
          refine V_getRv (pc := 105) dX11_spells_105 (o' := 41) fw_RX11_42 rfl hL.t30 hL.r30_16 ?_
          refine V_ld (pc := 108) dX11_spells_108 (v := vi p) rfl rfl ?_
          refine V_ialdv (pc := 109) dX11_spells_109 (v := (T p.toNat 7)) hL.t41 (by omega) ((apM_ne (by omega) (by omega)).trans ((apM_ne (by omega) (by omega)).trans hq7)) (fun g109 => ?_)
          refine V_st (pc := 110) dX11_spells_110 (ls' := [(4, vi (T p.toNat 7)), (3, vi 0), (0, vr 30), (1, vi p), (2, vi b)]) rfl (Nat.le_of_ble_eq_true rfl) rfl ?_
          skip
          refine V_mem (m' := apM 30 22 44 m ([40] ++ [94])) (by repeat rw [apM_app]) ?_
          refine L_rsp (m := m) (c := c) (f := f) (T := T) (p := p) (b := b) (by omega) hL hT hp hW.1 hW.2 hr.1 (T p.toNat 2).toNat 0 (T p.toNat 7) 0 ([40] ++ [94]) (hKo1 ()) (hKo ()).2.1 rfl ?_ (fun s' => ?_)
          · rw [show decide ((0 : Nat) = 0) = true from rfl]
            simp only [List.length_append, List.length_cons, List.length_nil]
            omega
          rw [show decide ((0 : Nat) = 0) = true from rfl]
          refine V_ld (pc := 281) dX11_spells_281 (v := vr 30) rfl rfl ?_
          refine V_getRv (pc := 282) dX11_spells_282 (o' := 35) fw_RX11_24 rfl hL.t30 hL.r30_10 ?_
          refine V_ld (pc := 285) dX11_spells_285 (v := vi p) rfl rfl ?_
          refine V_ialdv (pc := 286) dX11_spells_286 (v := (T p.toNat 0)) hL.t35 (by omega) ((apM_ne (by omega) (by omega)).trans hq0) (fun g286 => ?_)
          refine V_bipush (pc := 287) dX11_spells_287 (by unfold I32; omega) (by decide) ?_
          refine V_icmp_ne (pc := 289) dX11_spells_289 (tgt := 298) rfl (fun h289 => ?_) (fun h289 => ?_)
          · skip
            refine V_ld (pc := 298) dX11_spells_298 (v := vr 30) rfl rfl ?_
            refine V_getRv (pc := 299) dX11_spells_299 (o' := 35) fw_RX11_24 rfl hL.t30 hL.r30_10 ?_
            refine V_ld (pc := 302) dX11_spells_302 (v := vi p) rfl rfl ?_
            refine V_ialdv (pc := 303) dX11_spells_303 (v := (T p.toNat 0)) hL.t35 (by omega) ((apM_ne (by omega) (by omega)).trans hq0) (fun g303 => ?_)
            refine V_iconst (pc := 304) dX11_spells_304 (by unfold I32; omega) ?_
            refine V_icmp_ne (pc := 305) dX11_spells_305 (tgt := 313) rfl (fun h305 => ?_) (fun h305 => ?_)
            · skip
              refine V_ld (pc := 313) dX11_spells_313 (v := vi b) rfl rfl ?_
              refine V_if_eq (pc := 314) dX11_spells_314 (tgt := 323) rfl (fun h314 => ?_) (fun h314 => ?_)
              · skip
                refine V_retv (pc := 323) dX11_spells_323 trivial ?_
                first
                  | (exfalso; omega)
                  | ((repeat rw [apM_app])
                     exact congrArg (apM 30 22 44 m) (by
                       unfold brS
                       first | rw [if_pos (show b = 1 by omega), if_pos (show b = 1 by omega)] | rw [if_neg (show ¬ b = 1 by omega), if_neg (show ¬ b = 1 by omega)]
                       first
                         | rw [splF_0 (by omega), hK0 (by omega)]
                         | rw [splF_1 (by omega), hK0 (by omega)]
                         | rw [splF_2 (by omega), hK0 (by omega)]
                         | rw [splF_6 (by omega)]
                         | rw [splF_5 (by omega)]
                         | rw [splF_34 (by omega)]
                       first | done | rfl | simp only [List.append_assoc, List.cons_append, List.nil_append, List.append_nil]))
              · skip
                refine V_ld (pc := 317) dX11_spells_317 (v := vr 30) rfl rfl ?_
                refine V_bipush (pc := 318) dX11_spells_318 (by unfold I32; omega) (by decide) ?_
                refine V_callV (pc := 320) dX11_spells_320 (F' := 0) (As := [vi 41]) (st := []) cw_RX11_203 rfl rfl hL.t30 (by decide) (Nat.le_of_ble_eq_true rfl) (by omega) (r_wr1  (apM 30 22 44 m (([40] ++ [94]) ++ (kidS T (splF T f) (T p.toNat 0) true (T p.toNat 2).toNat (T p.toNat 7)))) 41   (by first | assumption | omega) (by (try simp only [apM_sz, List.length_append, List.length_cons, List.length_nil]); omega)) ?_
                rintro _ _ ⟨rfl, rfl⟩ ok320 le320
                refine V_retv (pc := 323) dX11_spells_323 trivial ?_
                first
                  | (exfalso; omega)
                  | ((repeat rw [apM_app])
                     exact congrArg (apM 30 22 44 m) (by
                       unfold brS
                       first | rw [if_pos (show b = 1 by omega), if_pos (show b = 1 by omega)] | rw [if_neg (show ¬ b = 1 by omega), if_neg (show ¬ b = 1 by omega)]
                       first
                         | rw [splF_0 (by omega), hK0 (by omega)]
                         | rw [splF_1 (by omega), hK0 (by omega)]
                         | rw [splF_2 (by omega), hK0 (by omega)]
                         | rw [splF_6 (by omega)]
                         | rw [splF_5 (by omega)]
                         | rw [splF_34 (by omega)]
                       first | done | rfl | simp only [List.append_assoc, List.cons_append, List.nil_append, List.append_nil]))
            · skip
              refine V_ld (pc := 308) dX11_spells_308 (v := vr 30) rfl rfl ?_
              refine V_ld (pc := 309) dX11_spells_309 (v := vi p) rfl rfl ?_
              refine V_callV (pc := 310) dX11_spells_310 (F' := 2) (As := [vi p]) (st := []) cw_RX11_210 rfl rfl hL.t30 (by decide) (Nat.le_of_ble_eq_true rfl) (by omega) (r_times T c (apM 30 22 44 m (([40] ++ [94]) ++ (kidS T (splF T f) (T p.toNat 0) true (T p.toNat 2).toNat (T p.toNat 7)))) p   (by first | assumption | omega) (fun p_ hp_ => by have h_ := hT p_ hp_; (repeat rw [apM_ne (by omega) (by omega)]); exact h_) ⟨hp.1, hp.2.1, hp.2.2⟩ (hB5 (by omega)) (by (try simp only [apM_sz, List.length_append, List.length_cons, List.length_nil]); omega)) ?_
              rintro _ _ ⟨rfl, rfl⟩ ok310 le310
              refine V_ld (pc := 313) dX11_spells_313 (v := vi b) rfl rfl ?_
              refine V_if_eq (pc := 314) dX11_spells_314 (tgt := 323) rfl (fun h314 => ?_) (fun h314 => ?_)
              · skip
                refine V_retv (pc := 323) dX11_spells_323 trivial ?_
                first
                  | (exfalso; omega)
                  | ((repeat rw [apM_app])
                     exact congrArg (apM 30 22 44 m) (by
                       unfold brS
                       first | rw [if_pos (show b = 1 by omega), if_pos (show b = 1 by omega)] | rw [if_neg (show ¬ b = 1 by omega), if_neg (show ¬ b = 1 by omega)]
                       first
                         | rw [splF_0 (by omega), hK0 (by omega)]
                         | rw [splF_1 (by omega), hK0 (by omega)]
                         | rw [splF_2 (by omega), hK0 (by omega)]
                         | rw [splF_6 (by omega)]
                         | rw [splF_5 (by omega)]
                         | rw [splF_34 (by omega)]
                       first | done | rfl | simp only [List.append_assoc, List.cons_append, List.nil_append, List.append_nil]))
              · skip
                refine V_ld (pc := 317) dX11_spells_317 (v := vr 30) rfl rfl ?_
                refine V_bipush (pc := 318) dX11_spells_318 (by unfold I32; omega) (by decide) ?_
                refine V_callV (pc := 320) dX11_spells_320 (F' := 0) (As := [vi 41]) (st := []) cw_RX11_203 rfl rfl hL.t30 (by decide) (Nat.le_of_ble_eq_true rfl) (by omega) (r_wr1  (apM 30 22 44 (apM 30 22 44 m (([40] ++ [94]) ++ (kidS T (splF T f) (T p.toNat 0) true (T p.toNat 2).toNat (T p.toNat 7)))) (qS (T p.toNat 3) (T p.toNat 4) (T p.toNat 5))) 41   (by first | assumption | omega) (by (try simp only [apM_sz, List.length_append, List.length_cons, List.length_nil]); omega)) ?_
                rintro _ _ ⟨rfl, rfl⟩ ok320 le320
                refine V_retv (pc := 323) dX11_spells_323 trivial ?_
                first
                  | (exfalso; omega)
                  | ((repeat rw [apM_app])
                     exact congrArg (apM 30 22 44 m) (by
                       unfold brS
                       first | rw [if_pos (show b = 1 by omega), if_pos (show b = 1 by omega)] | rw [if_neg (show ¬ b = 1 by omega), if_neg (show ¬ b = 1 by omega)]
                       first
                         | rw [splF_0 (by omega), hK0 (by omega)]
                         | rw [splF_1 (by omega), hK0 (by omega)]
                         | rw [splF_2 (by omega), hK0 (by omega)]
                         | rw [splF_6 (by omega)]
                         | rw [splF_5 (by omega)]
                         | rw [splF_34 (by omega)]
                       first | done | rfl | simp only [List.append_assoc, List.cons_append, List.nil_append, List.append_nil]))
          · skip
            refine V_ld (pc := 292) dX11_spells_292 (v := vr 30) rfl rfl ?_
            refine V_bipush (pc := 293) dX11_spells_293 (by unfold I32; omega) (by decide) ?_
            refine V_callV (pc := 295) dX11_spells_295 (F' := 0) (As := [vi 41]) (st := []) cw_RX11_203 rfl rfl hL.t30 (by decide) (Nat.le_of_ble_eq_true rfl) (by omega) (r_wr1  (apM 30 22 44 m (([40] ++ [94]) ++ (kidS T (splF T f) (T p.toNat 0) true (T p.toNat 2).toNat (T p.toNat 7)))) 41   (by first | assumption | omega) (by (try simp only [apM_sz, List.length_append, List.length_cons, List.length_nil]); omega)) ?_
            rintro _ _ ⟨rfl, rfl⟩ ok295 le295
            refine V_ld (pc := 298) dX11_spells_298 (v := vr 30) rfl rfl ?_
            refine V_getRv (pc := 299) dX11_spells_299 (o' := 35) fw_RX11_24 rfl hL.t30 hL.r30_10 ?_
            refine V_ld (pc := 302) dX11_spells_302 (v := vi p) rfl rfl ?_
            refine V_ialdv (pc := 303) dX11_spells_303 (v := (T p.toNat 0)) hL.t35 (by omega) ((apM_ne (by omega) (by omega)).trans ((apM_ne (by omega) (by omega)).trans hq0)) (fun g303 => ?_)
            refine V_iconst (pc := 304) dX11_spells_304 (by unfold I32; omega) ?_
            refine V_icmp_ne (pc := 305) dX11_spells_305 (tgt := 313) rfl (fun h305 => ?_) (fun h305 => ?_)
            · skip
              refine V_ld (pc := 313) dX11_spells_313 (v := vi b) rfl rfl ?_
              refine V_if_eq (pc := 314) dX11_spells_314 (tgt := 323) rfl (fun h314 => ?_) (fun h314 => ?_)
              · skip
                refine V_retv (pc := 323) dX11_spells_323 trivial ?_
                first
                  | (exfalso; omega)
                  | ((repeat rw [apM_app])
                     exact congrArg (apM 30 22 44 m) (by
                       unfold brS
                       first | rw [if_pos (show b = 1 by omega), if_pos (show b = 1 by omega)] | rw [if_neg (show ¬ b = 1 by omega), if_neg (show ¬ b = 1 by omega)]
                       first
                         | rw [splF_0 (by omega), hK0 (by omega)]
                         | rw [splF_1 (by omega), hK0 (by omega)]
                         | rw [splF_2 (by omega), hK0 (by omega)]
                         | rw [splF_6 (by omega)]
                         | rw [splF_5 (by omega)]
                         | rw [splF_34 (by omega)]
                       first | done | rfl | simp only [List.append_assoc, List.cons_append, List.nil_append, List.append_nil]))
              · skip
                refine V_ld (pc := 317) dX11_spells_317 (v := vr 30) rfl rfl ?_
                refine V_bipush (pc := 318) dX11_spells_318 (by unfold I32; omega) (by decide) ?_
                refine V_callV (pc := 320) dX11_spells_320 (F' := 0) (As := [vi 41]) (st := []) cw_RX11_203 rfl rfl hL.t30 (by decide) (Nat.le_of_ble_eq_true rfl) (by omega) (r_wr1  (apM 30 22 44 (apM 30 22 44 m (([40] ++ [94]) ++ (kidS T (splF T f) (T p.toNat 0) true (T p.toNat 2).toNat (T p.toNat 7)))) [41]) 41   (by first | assumption | omega) (by (try simp only [apM_sz, List.length_append, List.length_cons, List.length_nil]); omega)) ?_
                rintro _ _ ⟨rfl, rfl⟩ ok320 le320
                refine V_retv (pc := 323) dX11_spells_323 trivial ?_
                first
                  | (exfalso; omega)
                  | ((repeat rw [apM_app])
                     exact congrArg (apM 30 22 44 m) (by
                       unfold brS
                       first | rw [if_pos (show b = 1 by omega), if_pos (show b = 1 by omega)] | rw [if_neg (show ¬ b = 1 by omega), if_neg (show ¬ b = 1 by omega)]
                       first
                         | rw [splF_0 (by omega), hK0 (by omega)]
                         | rw [splF_1 (by omega), hK0 (by omega)]
                         | rw [splF_2 (by omega), hK0 (by omega)]
                         | rw [splF_6 (by omega)]
                         | rw [splF_5 (by omega)]
                         | rw [splF_34 (by omega)]
                       first | done | rfl | simp only [List.append_assoc, List.cons_append, List.nil_append, List.append_nil]))
            · skip
              refine V_ld (pc := 308) dX11_spells_308 (v := vr 30) rfl rfl ?_
              refine V_ld (pc := 309) dX11_spells_309 (v := vi p) rfl rfl ?_
              refine V_callV (pc := 310) dX11_spells_310 (F' := 2) (As := [vi p]) (st := []) cw_RX11_210 rfl rfl hL.t30 (by decide) (Nat.le_of_ble_eq_true rfl) (by omega) (r_times T c (apM 30 22 44 (apM 30 22 44 m (([40] ++ [94]) ++ (kidS T (splF T f) (T p.toNat 0) true (T p.toNat 2).toNat (T p.toNat 7)))) [41]) p   (by first | assumption | omega) (fun p_ hp_ => by have h_ := hT p_ hp_; (repeat rw [apM_ne (by omega) (by omega)]); exact h_) ⟨hp.1, hp.2.1, hp.2.2⟩ (hB5 (by omega)) (by (try simp only [apM_sz, List.length_append, List.length_cons, List.length_nil]); omega)) ?_
              rintro _ _ ⟨rfl, rfl⟩ ok310 le310
              refine V_ld (pc := 313) dX11_spells_313 (v := vi b) rfl rfl ?_
              refine V_if_eq (pc := 314) dX11_spells_314 (tgt := 323) rfl (fun h314 => ?_) (fun h314 => ?_)
              · skip
                refine V_retv (pc := 323) dX11_spells_323 trivial ?_
                first
                  | (exfalso; omega)
                  | ((repeat rw [apM_app])
                     exact congrArg (apM 30 22 44 m) (by
                       unfold brS
                       first | rw [if_pos (show b = 1 by omega), if_pos (show b = 1 by omega)] | rw [if_neg (show ¬ b = 1 by omega), if_neg (show ¬ b = 1 by omega)]
                       first
                         | rw [splF_0 (by omega), hK0 (by omega)]
                         | rw [splF_1 (by omega), hK0 (by omega)]
                         | rw [splF_2 (by omega), hK0 (by omega)]
                         | rw [splF_6 (by omega)]
                         | rw [splF_5 (by omega)]
                         | rw [splF_34 (by omega)]
                       first | done | rfl | simp only [List.append_assoc, List.cons_append, List.nil_append, List.append_nil]))
              · skip
                refine V_ld (pc := 317) dX11_spells_317 (v := vr 30) rfl rfl ?_
                refine V_bipush (pc := 318) dX11_spells_318 (by unfold I32; omega) (by decide) ?_
                refine V_callV (pc := 320) dX11_spells_320 (F' := 0) (As := [vi 41]) (st := []) cw_RX11_203 rfl rfl hL.t30 (by decide) (Nat.le_of_ble_eq_true rfl) (by omega) (r_wr1  (apM 30 22 44 (apM 30 22 44 (apM 30 22 44 m (([40] ++ [94]) ++ (kidS T (splF T f) (T p.toNat 0) true (T p.toNat 2).toNat (T p.toNat 7)))) [41]) (qS (T p.toNat 3) (T p.toNat 4) (T p.toNat 5))) 41   (by first | assumption | omega) (by (try simp only [apM_sz, List.length_append, List.length_cons, List.length_nil]); omega)) ?_
                rintro _ _ ⟨rfl, rfl⟩ ok320 le320
                refine V_retv (pc := 323) dX11_spells_323 trivial ?_
                first
                  | (exfalso; omega)
                  | ((repeat rw [apM_app])
                     exact congrArg (apM 30 22 44 m) (by
                       unfold brS
                       first | rw [if_pos (show b = 1 by omega), if_pos (show b = 1 by omega)] | rw [if_neg (show ¬ b = 1 by omega), if_neg (show ¬ b = 1 by omega)]
                       first
                         | rw [splF_0 (by omega), hK0 (by omega)]
                         | rw [splF_1 (by omega), hK0 (by omega)]
                         | rw [splF_2 (by omega), hK0 (by omega)]
                         | rw [splF_6 (by omega)]
                         | rw [splF_5 (by omega)]
                         | rw [splF_34 (by omega)]
                       first | done | rfl | simp only [List.append_assoc, List.cons_append, List.nil_append, List.append_nil]))
      · skip
        refine V_ld (pc := 47) dX11_spells_47 (v := vr 30) rfl rfl ?_
        refine V_getRv (pc := 48) dX11_spells_48 (o' := 35) fw_RX11_24 rfl hL.t30 hL.r30_10 ?_
        refine V_ld (pc := 51) dX11_spells_51 (v := vi p) rfl rfl ?_
        refine V_ialdv (pc := 52) dX11_spells_52 (v := (T p.toNat 0)) hL.t35 (by omega) ((apM_ne (by omega) (by omega)).trans hq0) (fun g52 => ?_)
        refine V_iconst (pc := 53) dX11_spells_53 (by unfold I32; omega) ?_
        refine V_icmp_ne (pc := 54) dX11_spells_54 (tgt := 81) rfl (fun h54 => ?_) (fun h54 => ?_)
        · skip
          refine V_ld (pc := 81) dX11_spells_81 (v := vr 30) rfl rfl ?_
          refine V_getRv (pc := 82) dX11_spells_82 (o' := 35) fw_RX11_24 rfl hL.t30 hL.r30_10 ?_
          refine V_ld (pc := 85) dX11_spells_85 (v := vi p) rfl rfl ?_
          refine V_ialdv (pc := 86) dX11_spells_86 (v := (T p.toNat 0)) hL.t35 (by omega) ((apM_ne (by omega) (by omega)).trans hq0) (fun g86 => ?_)
          refine V_bipush (pc := 87) dX11_spells_87 (by unfold I32; omega) (by decide) ?_
          refine V_icmp_ne (pc := 89) dX11_spells_89 (tgt := 104) rfl (fun h89 => ?_) (fun h89 => ?_)
          · skip
            refine V_ld (pc := 104) dX11_spells_104 (v := vr 30) rfl rfl ?_
            refine V_getRv (pc := 105) dX11_spells_105 (o' := 41) fw_RX11_42 rfl hL.t30 hL.r30_16 ?_
            refine V_ld (pc := 108) dX11_spells_108 (v := vi p) rfl rfl ?_
            refine V_ialdv (pc := 109) dX11_spells_109 (v := (T p.toNat 7)) hL.t41 (by omega) ((apM_ne (by omega) (by omega)).trans hq7) (fun g109 => ?_)
            refine V_st (pc := 110) dX11_spells_110 (ls' := [(4, vi (T p.toNat 7)), (3, vi 0), (0, vr 30), (1, vi p), (2, vi b)]) rfl (Nat.le_of_ble_eq_true rfl) rfl ?_
            skip
            refine V_mem (m' := apM 30 22 44 m ([40])) (rfl) ?_
            refine L_rsp (m := m) (c := c) (f := f) (T := T) (p := p) (b := b) (by omega) hL hT hp hW.1 hW.2 hr.1 (T p.toNat 2).toNat 0 (T p.toNat 7) 0 ([40]) (hKo1 ()) (hKo ()).2.1 rfl ?_ (fun s' => ?_)
            · rw [show decide ((0 : Nat) = 0) = true from rfl]
              simp only [List.length_append, List.length_cons, List.length_nil]
              omega
            rw [show decide ((0 : Nat) = 0) = true from rfl]
            refine V_ld (pc := 281) dX11_spells_281 (v := vr 30) rfl rfl ?_
            refine V_getRv (pc := 282) dX11_spells_282 (o' := 35) fw_RX11_24 rfl hL.t30 hL.r30_10 ?_
            refine V_ld (pc := 285) dX11_spells_285 (v := vi p) rfl rfl ?_
            refine V_ialdv (pc := 286) dX11_spells_286 (v := (T p.toNat 0)) hL.t35 (by omega) ((apM_ne (by omega) (by omega)).trans hq0) (fun g286 => ?_)
            refine V_bipush (pc := 287) dX11_spells_287 (by unfold I32; omega) (by decide) ?_
            refine V_icmp_ne (pc := 289) dX11_spells_289 (tgt := 298) rfl (fun h289 => ?_) (fun h289 => ?_)
            · skip
              refine V_ld (pc := 298) dX11_spells_298 (v := vr 30) rfl rfl ?_
              refine V_getRv (pc := 299) dX11_spells_299 (o' := 35) fw_RX11_24 rfl hL.t30 hL.r30_10 ?_
              refine V_ld (pc := 302) dX11_spells_302 (v := vi p) rfl rfl ?_
              refine V_ialdv (pc := 303) dX11_spells_303 (v := (T p.toNat 0)) hL.t35 (by omega) ((apM_ne (by omega) (by omega)).trans hq0) (fun g303 => ?_)
              refine V_iconst (pc := 304) dX11_spells_304 (by unfold I32; omega) ?_
              refine V_icmp_ne (pc := 305) dX11_spells_305 (tgt := 313) rfl (fun h305 => ?_) (fun h305 => ?_)
              · skip
                refine V_ld (pc := 313) dX11_spells_313 (v := vi b) rfl rfl ?_
                refine V_if_eq (pc := 314) dX11_spells_314 (tgt := 323) rfl (fun h314 => ?_) (fun h314 => ?_)
                · skip
                  refine V_retv (pc := 323) dX11_spells_323 trivial ?_
                  first
                    | (exfalso; omega)
                    | ((repeat rw [apM_app])
                       exact congrArg (apM 30 22 44 m) (by
                         unfold brS
                         first | rw [if_pos (show b = 1 by omega), if_pos (show b = 1 by omega)] | rw [if_neg (show ¬ b = 1 by omega), if_neg (show ¬ b = 1 by omega)]
                         first
                           | rw [splF_0 (by omega), hK0 (by omega)]
                           | rw [splF_1 (by omega), hK0 (by omega)]
                           | rw [splF_2 (by omega), hK0 (by omega)]
                           | rw [splF_6 (by omega)]
                           | rw [splF_5 (by omega)]
                           | rw [splF_34 (by omega)]
                         first | done | rfl | simp only [List.append_assoc, List.cons_append, List.nil_append, List.append_nil]))
                · skip
                  refine V_ld (pc := 317) dX11_spells_317 (v := vr 30) rfl rfl ?_
                  refine V_bipush (pc := 318) dX11_spells_318 (by unfold I32; omega) (by decide) ?_
                  refine V_callV (pc := 320) dX11_spells_320 (F' := 0) (As := [vi 41]) (st := []) cw_RX11_203 rfl rfl hL.t30 (by decide) (Nat.le_of_ble_eq_true rfl) (by omega) (r_wr1  (apM 30 22 44 m (([40]) ++ (kidS T (splF T f) (T p.toNat 0) true (T p.toNat 2).toNat (T p.toNat 7)))) 41   (by first | assumption | omega) (by (try simp only [apM_sz, List.length_append, List.length_cons, List.length_nil]); omega)) ?_
                  rintro _ _ ⟨rfl, rfl⟩ ok320 le320
                  refine V_retv (pc := 323) dX11_spells_323 trivial ?_
                  first
                    | (exfalso; omega)
                    | ((repeat rw [apM_app])
                       exact congrArg (apM 30 22 44 m) (by
                         unfold brS
                         first | rw [if_pos (show b = 1 by omega), if_pos (show b = 1 by omega)] | rw [if_neg (show ¬ b = 1 by omega), if_neg (show ¬ b = 1 by omega)]
                         first
                           | rw [splF_0 (by omega), hK0 (by omega)]
                           | rw [splF_1 (by omega), hK0 (by omega)]
                           | rw [splF_2 (by omega), hK0 (by omega)]
                           | rw [splF_6 (by omega)]
                           | rw [splF_5 (by omega)]
                           | rw [splF_34 (by omega)]
                         first | done | rfl | simp only [List.append_assoc, List.cons_append, List.nil_append, List.append_nil]))
              · skip
                refine V_ld (pc := 308) dX11_spells_308 (v := vr 30) rfl rfl ?_
                refine V_ld (pc := 309) dX11_spells_309 (v := vi p) rfl rfl ?_
                refine V_callV (pc := 310) dX11_spells_310 (F' := 2) (As := [vi p]) (st := []) cw_RX11_210 rfl rfl hL.t30 (by decide) (Nat.le_of_ble_eq_true rfl) (by omega) (r_times T c (apM 30 22 44 m (([40]) ++ (kidS T (splF T f) (T p.toNat 0) true (T p.toNat 2).toNat (T p.toNat 7)))) p   (by first | assumption | omega) (fun p_ hp_ => by have h_ := hT p_ hp_; (repeat rw [apM_ne (by omega) (by omega)]); exact h_) ⟨hp.1, hp.2.1, hp.2.2⟩ (hB5 (by omega)) (by (try simp only [apM_sz, List.length_append, List.length_cons, List.length_nil]); omega)) ?_
                rintro _ _ ⟨rfl, rfl⟩ ok310 le310
                refine V_ld (pc := 313) dX11_spells_313 (v := vi b) rfl rfl ?_
                refine V_if_eq (pc := 314) dX11_spells_314 (tgt := 323) rfl (fun h314 => ?_) (fun h314 => ?_)
                · skip
                  refine V_retv (pc := 323) dX11_spells_323 trivial ?_
                  first
                    | (exfalso; omega)
                    | ((repeat rw [apM_app])
                       exact congrArg (apM 30 22 44 m) (by
                         unfold brS
                         first | rw [if_pos (show b = 1 by omega), if_pos (show b = 1 by omega)] | rw [if_neg (show ¬ b = 1 by omega), if_neg (show ¬ b = 1 by omega)]
                         first
                           | rw [splF_0 (by omega), hK0 (by omega)]
                           | rw [splF_1 (by omega), hK0 (by omega)]
                           | rw [splF_2 (by omega), hK0 (by omega)]
                           | rw [splF_6 (by omega)]
                           | rw [splF_5 (by omega)]
                           | rw [splF_34 (by omega)]
                         first | done | rfl | simp only [List.append_assoc, List.cons_append, List.nil_append, List.append_nil]))
                · skip
                  refine V_ld (pc := 317) dX11_spells_317 (v := vr 30) rfl rfl ?_
                  refine V_bipush (pc := 318) dX11_spells_318 (by unfold I32; omega) (by decide) ?_
                  refine V_callV (pc := 320) dX11_spells_320 (F' := 0) (As := [vi 41]) (st := []) cw_RX11_203 rfl rfl hL.t30 (by decide) (Nat.le_of_ble_eq_true rfl) (by omega) (r_wr1  (apM 30 22 44 (apM 30 22 44 m (([40]) ++ (kidS T (splF T f) (T p.toNat 0) true (T p.toNat 2).toNat (T p.toNat 7)))) (qS (T p.toNat 3) (T p.toNat 4) (T p.toNat 5))) 41   (by first | assumption | omega) (by (try simp only [apM_sz, List.length_append, List.length_cons, List.length_nil]); omega)) ?_
                  rintro _ _ ⟨rfl, rfl⟩ ok320 le320
                  refine V_retv (pc := 323) dX11_spells_323 trivial ?_
                  first
                    | (exfalso; omega)
                    | ((repeat rw [apM_app])
                       exact congrArg (apM 30 22 44 m) (by
                         unfold brS
                         first | rw [if_pos (show b = 1 by omega), if_pos (show b = 1 by omega)] | rw [if_neg (show ¬ b = 1 by omega), if_neg (show ¬ b = 1 by omega)]
                         first
                           | rw [splF_0 (by omega), hK0 (by omega)]
                           | rw [splF_1 (by omega), hK0 (by omega)]
                           | rw [splF_2 (by omega), hK0 (by omega)]
                           | rw [splF_6 (by omega)]
                           | rw [splF_5 (by omega)]
                           | rw [splF_34 (by omega)]
                         first | done | rfl | simp only [List.append_assoc, List.cons_append, List.nil_append, List.append_nil]))
            · skip
              refine V_ld (pc := 292) dX11_spells_292 (v := vr 30) rfl rfl ?_
              refine V_bipush (pc := 293) dX11_spells_293 (by unfold I32; omega) (by decide) ?_
              refine V_callV (pc := 295) dX11_spells_295 (F' := 0) (As := [vi 41]) (st := []) cw_RX11_203 rfl rfl hL.t30 (by decide) (Nat.le_of_ble_eq_true rfl) (by omega) (r_wr1  (apM 30 22 44 m (([40]) ++ (kidS T (splF T f) (T p.toNat 0) true (T p.toNat 2).toNat (T p.toNat 7)))) 41   (by first | assumption | omega) (by (try simp only [apM_sz, List.length_append, List.length_cons, List.length_nil]); omega)) ?_
              rintro _ _ ⟨rfl, rfl⟩ ok295 le295
              refine V_ld (pc := 298) dX11_spells_298 (v := vr 30) rfl rfl ?_
              refine V_getRv (pc := 299) dX11_spells_299 (o' := 35) fw_RX11_24 rfl hL.t30 hL.r30_10 ?_
              refine V_ld (pc := 302) dX11_spells_302 (v := vi p) rfl rfl ?_
              refine V_ialdv (pc := 303) dX11_spells_303 (v := (T p.toNat 0)) hL.t35 (by omega) ((apM_ne (by omega) (by omega)).trans ((apM_ne (by omega) (by omega)).trans hq0)) (fun g303 => ?_)
              refine V_iconst (pc := 304) dX11_spells_304 (by unfold I32; omega) ?_
              refine V_icmp_ne (pc := 305) dX11_spells_305 (tgt := 313) rfl (fun h305 => ?_) (fun h305 => ?_)
              · skip
                refine V_ld (pc := 313) dX11_spells_313 (v := vi b) rfl rfl ?_
                refine V_if_eq (pc := 314) dX11_spells_314 (tgt := 323) rfl (fun h314 => ?_) (fun h314 => ?_)
                · skip
                  refine V_retv (pc := 323) dX11_spells_323 trivial ?_
                  first
                    | (exfalso; omega)
                    | ((repeat rw [apM_app])
                       exact congrArg (apM 30 22 44 m) (by
                         unfold brS
                         first | rw [if_pos (show b = 1 by omega), if_pos (show b = 1 by omega)] | rw [if_neg (show ¬ b = 1 by omega), if_neg (show ¬ b = 1 by omega)]
                         first
                           | rw [splF_0 (by omega), hK0 (by omega)]
                           | rw [splF_1 (by omega), hK0 (by omega)]
                           | rw [splF_2 (by omega), hK0 (by omega)]
                           | rw [splF_6 (by omega)]
                           | rw [splF_5 (by omega)]
                           | rw [splF_34 (by omega)]
                         first | done | rfl | simp only [List.append_assoc, List.cons_append, List.nil_append, List.append_nil]))
                · skip
                  refine V_ld (pc := 317) dX11_spells_317 (v := vr 30) rfl rfl ?_
                  refine V_bipush (pc := 318) dX11_spells_318 (by unfold I32; omega) (by decide) ?_
                  refine V_callV (pc := 320) dX11_spells_320 (F' := 0) (As := [vi 41]) (st := []) cw_RX11_203 rfl rfl hL.t30 (by decide) (Nat.le_of_ble_eq_true rfl) (by omega) (r_wr1  (apM 30 22 44 (apM 30 22 44 m (([40]) ++ (kidS T (splF T f) (T p.toNat 0) true (T p.toNat 2).toNat (T p.toNat 7)))) [41]) 41   (by first | assumption | omega) (by (try simp only [apM_sz, List.length_append, List.length_cons, List.length_nil]); omega)) ?_
                  rintro _ _ ⟨rfl, rfl⟩ ok320 le320
                  refine V_retv (pc := 323) dX11_spells_323 trivial ?_
                  first
                    | (exfalso; omega)
                    | ((repeat rw [apM_app])
                       exact congrArg (apM 30 22 44 m) (by
                         unfold brS
                         first | rw [if_pos (show b = 1 by omega), if_pos (show b = 1 by omega)] | rw [if_neg (show ¬ b = 1 by omega), if_neg (show ¬ b = 1 by omega)]
                         first
                           | rw [splF_0 (by omega), hK0 (by omega)]
                           | rw [splF_1 (by omega), hK0 (by omega)]
                           | rw [splF_2 (by omega), hK0 (by omega)]
                           | rw [splF_6 (by omega)]
                           | rw [splF_5 (by omega)]
                           | rw [splF_34 (by omega)]
                         first | done | rfl | simp only [List.append_assoc, List.cons_append, List.nil_append, List.append_nil]))
              · skip
                refine V_ld (pc := 308) dX11_spells_308 (v := vr 30) rfl rfl ?_
                refine V_ld (pc := 309) dX11_spells_309 (v := vi p) rfl rfl ?_
                refine V_callV (pc := 310) dX11_spells_310 (F' := 2) (As := [vi p]) (st := []) cw_RX11_210 rfl rfl hL.t30 (by decide) (Nat.le_of_ble_eq_true rfl) (by omega) (r_times T c (apM 30 22 44 (apM 30 22 44 m (([40]) ++ (kidS T (splF T f) (T p.toNat 0) true (T p.toNat 2).toNat (T p.toNat 7)))) [41]) p   (by first | assumption | omega) (fun p_ hp_ => by have h_ := hT p_ hp_; (repeat rw [apM_ne (by omega) (by omega)]); exact h_) ⟨hp.1, hp.2.1, hp.2.2⟩ (hB5 (by omega)) (by (try simp only [apM_sz, List.length_append, List.length_cons, List.length_nil]); omega)) ?_
                rintro _ _ ⟨rfl, rfl⟩ ok310 le310
                refine V_ld (pc := 313) dX11_spells_313 (v := vi b) rfl rfl ?_
                refine V_if_eq (pc := 314) dX11_spells_314 (tgt := 323) rfl (fun h314 => ?_) (fun h314 => ?_)
                · skip
                  refine V_retv (pc := 323) dX11_spells_323 trivial ?_
                  first
                    | (exfalso; omega)
                    | ((repeat rw [apM_app])
                       exact congrArg (apM 30 22 44 m) (by
                         unfold brS
                         first | rw [if_pos (show b = 1 by omega), if_pos (show b = 1 by omega)] | rw [if_neg (show ¬ b = 1 by omega), if_neg (show ¬ b = 1 by omega)]
                         first
                           | rw [splF_0 (by omega), hK0 (by omega)]
                           | rw [splF_1 (by omega), hK0 (by omega)]
                           | rw [splF_2 (by omega), hK0 (by omega)]
                           | rw [splF_6 (by omega)]
                           | rw [splF_5 (by omega)]
                           | rw [splF_34 (by omega)]
                         first | done | rfl | simp only [List.append_assoc, List.cons_append, List.nil_append, List.append_nil]))
                · skip
                  refine V_ld (pc := 317) dX11_spells_317 (v := vr 30) rfl rfl ?_
                  refine V_bipush (pc := 318) dX11_spells_318 (by unfold I32; omega) (by decide) ?_
                  refine V_callV (pc := 320) dX11_spells_320 (F' := 0) (As := [vi 41]) (st := []) cw_RX11_203 rfl rfl hL.t30 (by decide) (Nat.le_of_ble_eq_true rfl) (by omega) (r_wr1  (apM 30 22 44 (apM 30 22 44 (apM 30 22 44 m (([40]) ++ (kidS T (splF T f) (T p.toNat 0) true (T p.toNat 2).toNat (T p.toNat 7)))) [41]) (qS (T p.toNat 3) (T p.toNat 4) (T p.toNat 5))) 41   (by first | assumption | omega) (by (try simp only [apM_sz, List.length_append, List.length_cons, List.length_nil]); omega)) ?_
                  rintro _ _ ⟨rfl, rfl⟩ ok320 le320
                  refine V_retv (pc := 323) dX11_spells_323 trivial ?_
                  first
                    | (exfalso; omega)
                    | ((repeat rw [apM_app])
                       exact congrArg (apM 30 22 44 m) (by
                         unfold brS
                         first | rw [if_pos (show b = 1 by omega), if_pos (show b = 1 by omega)] | rw [if_neg (show ¬ b = 1 by omega), if_neg (show ¬ b = 1 by omega)]
                         first
                           | rw [splF_0 (by omega), hK0 (by omega)]
                           | rw [splF_1 (by omega), hK0 (by omega)]
                           | rw [splF_2 (by omega), hK0 (by omega)]
                           | rw [splF_6 (by omega)]
                           | rw [splF_5 (by omega)]
                           | rw [splF_34 (by omega)]
                         first | done | rfl | simp only [List.append_assoc, List.cons_append, List.nil_append, List.append_nil]))
          · skip
            refine V_ld (pc := 92) dX11_spells_92 (v := vr 30) rfl rfl ?_
            refine V_bipush (pc := 93) dX11_spells_93 (by unfold I32; omega) (by decide) ?_
            refine V_callV (pc := 95) dX11_spells_95 (F' := 0) (As := [vi 37]) (st := []) cw_RX11_203 rfl rfl hL.t30 (by decide) (Nat.le_of_ble_eq_true rfl) (by omega) (r_wr1  (apM 30 22 44 m [40]) 37   (by first | assumption | omega) (by (try simp only [apM_sz, List.length_append, List.length_cons, List.length_nil]); omega)) ?_
            rintro _ _ ⟨rfl, rfl⟩ ok95 le95
            refine V_ld (pc := 98) dX11_spells_98 (v := vr 30) rfl rfl ?_
            refine V_bipush (pc := 99) dX11_spells_99 (by unfold I32; omega) (by decide) ?_
            refine V_callV (pc := 101) dX11_spells_101 (F' := 0) (As := [vi 40]) (st := []) cw_RX11_203 rfl rfl hL.t30 (by decide) (Nat.le_of_ble_eq_true rfl) (by omega) (r_wr1  (apM 30 22 44 (apM 30 22 44 m [40]) [37]) 40   (by first | assumption | omega) (by (try simp only [apM_sz, List.length_append, List.length_cons, List.length_nil]); omega)) ?_
            rintro _ _ ⟨rfl, rfl⟩ ok101 le101
            refine V_ld (pc := 104) dX11_spells_104 (v := vr 30) rfl rfl ?_
            refine V_getRv (pc := 105) dX11_spells_105 (o' := 41) fw_RX11_42 rfl hL.t30 hL.r30_16 ?_
            refine V_ld (pc := 108) dX11_spells_108 (v := vi p) rfl rfl ?_
            refine V_ialdv (pc := 109) dX11_spells_109 (v := (T p.toNat 7)) hL.t41 (by omega) ((apM_ne (by omega) (by omega)).trans ((apM_ne (by omega) (by omega)).trans ((apM_ne (by omega) (by omega)).trans hq7))) (fun g109 => ?_)
            refine V_st (pc := 110) dX11_spells_110 (ls' := [(4, vi (T p.toNat 7)), (3, vi 0), (0, vr 30), (1, vi p), (2, vi b)]) rfl (Nat.le_of_ble_eq_true rfl) rfl ?_
            skip
            refine V_mem (m' := apM 30 22 44 m ([40] ++ ([37] ++ [40]))) (by repeat rw [apM_app]) ?_
            refine L_rsp (m := m) (c := c) (f := f) (T := T) (p := p) (b := b) (by omega) hL hT hp hW.1 hW.2 hr.1 (T p.toNat 2).toNat 0 (T p.toNat 7) 0 ([40] ++ ([37] ++ [40])) (hKo1 ()) (hKo ()).2.1 rfl ?_ (fun s' => ?_)
            · rw [show decide ((0 : Nat) = 0) = true from rfl]
              simp only [List.length_append, List.length_cons, List.length_nil]
              omega
            rw [show decide ((0 : Nat) = 0) = true from rfl]
            refine V_ld (pc := 281) dX11_spells_281 (v := vr 30) rfl rfl ?_
            refine V_getRv (pc := 282) dX11_spells_282 (o' := 35) fw_RX11_24 rfl hL.t30 hL.r30_10 ?_
            refine V_ld (pc := 285) dX11_spells_285 (v := vi p) rfl rfl ?_
            refine V_ialdv (pc := 286) dX11_spells_286 (v := (T p.toNat 0)) hL.t35 (by omega) ((apM_ne (by omega) (by omega)).trans hq0) (fun g286 => ?_)
            refine V_bipush (pc := 287) dX11_spells_287 (by unfold I32; omega) (by decide) ?_
            refine V_icmp_ne (pc := 289) dX11_spells_289 (tgt := 298) rfl (fun h289 => ?_) (fun h289 => ?_)
            · skip
              refine V_ld (pc := 298) dX11_spells_298 (v := vr 30) rfl rfl ?_
              refine V_getRv (pc := 299) dX11_spells_299 (o' := 35) fw_RX11_24 rfl hL.t30 hL.r30_10 ?_
              refine V_ld (pc := 302) dX11_spells_302 (v := vi p) rfl rfl ?_
              refine V_ialdv (pc := 303) dX11_spells_303 (v := (T p.toNat 0)) hL.t35 (by omega) ((apM_ne (by omega) (by omega)).trans hq0) (fun g303 => ?_)
              refine V_iconst (pc := 304) dX11_spells_304 (by unfold I32; omega) ?_
              refine V_icmp_ne (pc := 305) dX11_spells_305 (tgt := 313) rfl (fun h305 => ?_) (fun h305 => ?_)
              · skip
                refine V_ld (pc := 313) dX11_spells_313 (v := vi b) rfl rfl ?_
                refine V_if_eq (pc := 314) dX11_spells_314 (tgt := 323) rfl (fun h314 => ?_) (fun h314 => ?_)
                · skip
                  refine V_retv (pc := 323) dX11_spells_323 trivial ?_
                  first
                    | (exfalso; omega)
                    | ((repeat rw [apM_app])
                       exact congrArg (apM 30 22 44 m) (by
                         unfold brS
                         first | rw [if_pos (show b = 1 by omega), if_pos (show b = 1 by omega)] | rw [if_neg (show ¬ b = 1 by omega), if_neg (show ¬ b = 1 by omega)]
                         first
                           | rw [splF_0 (by omega), hK0 (by omega)]
                           | rw [splF_1 (by omega), hK0 (by omega)]
                           | rw [splF_2 (by omega), hK0 (by omega)]
                           | rw [splF_6 (by omega)]
                           | rw [splF_5 (by omega)]
                           | rw [splF_34 (by omega)]
                         first | done | rfl | simp only [List.append_assoc, List.cons_append, List.nil_append, List.append_nil]))
                · skip
                  refine V_ld (pc := 317) dX11_spells_317 (v := vr 30) rfl rfl ?_
                  refine V_bipush (pc := 318) dX11_spells_318 (by unfold I32; omega) (by decide) ?_
                  refine V_callV (pc := 320) dX11_spells_320 (F' := 0) (As := [vi 41]) (st := []) cw_RX11_203 rfl rfl hL.t30 (by decide) (Nat.le_of_ble_eq_true rfl) (by omega) (r_wr1  (apM 30 22 44 m (([40] ++ ([37] ++ [40])) ++ (kidS T (splF T f) (T p.toNat 0) true (T p.toNat 2).toNat (T p.toNat 7)))) 41   (by first | assumption | omega) (by (try simp only [apM_sz, List.length_append, List.length_cons, List.length_nil]); omega)) ?_
                  rintro _ _ ⟨rfl, rfl⟩ ok320 le320
                  refine V_retv (pc := 323) dX11_spells_323 trivial ?_
                  first
                    | (exfalso; omega)
                    | ((repeat rw [apM_app])
                       exact congrArg (apM 30 22 44 m) (by
                         unfold brS
                         first | rw [if_pos (show b = 1 by omega), if_pos (show b = 1 by omega)] | rw [if_neg (show ¬ b = 1 by omega), if_neg (show ¬ b = 1 by omega)]
                         first
                           | rw [splF_0 (by omega), hK0 (by omega)]
                           | rw [splF_1 (by omega), hK0 (by omega)]
                           | rw [splF_2 (by omega), hK0 (by omega)]
                           | rw [splF_6 (by omega)]
                           | rw [splF_5 (by omega)]
                           | rw [splF_34 (by omega)]
                         first | done | rfl | simp only [List.append_assoc, List.cons_append, List.nil_append, List.append_nil]))
              · skip
                refine V_ld (pc := 308) dX11_spells_308 (v := vr 30) rfl rfl ?_
                refine V_ld (pc := 309) dX11_spells_309 (v := vi p) rfl rfl ?_
                refine V_callV (pc := 310) dX11_spells_310 (F' := 2) (As := [vi p]) (st := []) cw_RX11_210 rfl rfl hL.t30 (by decide) (Nat.le_of_ble_eq_true rfl) (by omega) (r_times T c (apM 30 22 44 m (([40] ++ ([37] ++ [40])) ++ (kidS T (splF T f) (T p.toNat 0) true (T p.toNat 2).toNat (T p.toNat 7)))) p   (by first | assumption | omega) (fun p_ hp_ => by have h_ := hT p_ hp_; (repeat rw [apM_ne (by omega) (by omega)]); exact h_) ⟨hp.1, hp.2.1, hp.2.2⟩ (hB5 (by omega)) (by (try simp only [apM_sz, List.length_append, List.length_cons, List.length_nil]); omega)) ?_
                rintro _ _ ⟨rfl, rfl⟩ ok310 le310
                refine V_ld (pc := 313) dX11_spells_313 (v := vi b) rfl rfl ?_
                refine V_if_eq (pc := 314) dX11_spells_314 (tgt := 323) rfl (fun h314 => ?_) (fun h314 => ?_)
                · skip
                  refine V_retv (pc := 323) dX11_spells_323 trivial ?_
                  first
                    | (exfalso; omega)
                    | ((repeat rw [apM_app])
                       exact congrArg (apM 30 22 44 m) (by
                         unfold brS
                         first | rw [if_pos (show b = 1 by omega), if_pos (show b = 1 by omega)] | rw [if_neg (show ¬ b = 1 by omega), if_neg (show ¬ b = 1 by omega)]
                         first
                           | rw [splF_0 (by omega), hK0 (by omega)]
                           | rw [splF_1 (by omega), hK0 (by omega)]
                           | rw [splF_2 (by omega), hK0 (by omega)]
                           | rw [splF_6 (by omega)]
                           | rw [splF_5 (by omega)]
                           | rw [splF_34 (by omega)]
                         first | done | rfl | simp only [List.append_assoc, List.cons_append, List.nil_append, List.append_nil]))
                · skip
                  refine V_ld (pc := 317) dX11_spells_317 (v := vr 30) rfl rfl ?_
                  refine V_bipush (pc := 318) dX11_spells_318 (by unfold I32; omega) (by decide) ?_
                  refine V_callV (pc := 320) dX11_spells_320 (F' := 0) (As := [vi 41]) (st := []) cw_RX11_203 rfl rfl hL.t30 (by decide) (Nat.le_of_ble_eq_true rfl) (by omega) (r_wr1  (apM 30 22 44 (apM 30 22 44 m (([40] ++ ([37] ++ [40])) ++ (kidS T (splF T f) (T p.toNat 0) true (T p.toNat 2).toNat (T p.toNat 7)))) (qS (T p.toNat 3) (T p.toNat 4) (T p.toNat 5))) 41   (by first | assumption | omega) (by (try simp only [apM_sz, List.length_append, List.length_cons, List.length_nil]); omega)) ?_
                  rintro _ _ ⟨rfl, rfl⟩ ok320 le320
                  refine V_retv (pc := 323) dX11_spells_323 trivial ?_
                  first
                    | (exfalso; omega)
                    | ((repeat rw [apM_app])
                       exact congrArg (apM 30 22 44 m) (by
                         unfold brS
                         first | rw [if_pos (show b = 1 by omega), if_pos (show b = 1 by omega)] | rw [if_neg (show ¬ b = 1 by omega), if_neg (show ¬ b = 1 by omega)]
                         first
                           | rw [splF_0 (by omega), hK0 (by omega)]
                           | rw [splF_1 (by omega), hK0 (by omega)]
                           | rw [splF_2 (by omega), hK0 (by omega)]
                           | rw [splF_6 (by omega)]
                           | rw [splF_5 (by omega)]
                           | rw [splF_34 (by omega)]
                         first | done | rfl | simp only [List.append_assoc, List.cons_append, List.nil_append, List.append_nil]))
            · skip
              refine V_ld (pc := 292) dX11_spells_292 (v := vr 30) rfl rfl ?_
              refine V_bipush (pc := 293) dX11_spells_293 (by unfold I32; omega) (by decide) ?_
              refine V_callV (pc := 295) dX11_spells_295 (F' := 0) (As := [vi 41]) (st := []) cw_RX11_203 rfl rfl hL.t30 (by decide) (Nat.le_of_ble_eq_true rfl) (by omega) (r_wr1  (apM 30 22 44 m (([40] ++ ([37] ++ [40])) ++ (kidS T (splF T f) (T p.toNat 0) true (T p.toNat 2).toNat (T p.toNat 7)))) 41   (by first | assumption | omega) (by (try simp only [apM_sz, List.length_append, List.length_cons, List.length_nil]); omega)) ?_
              rintro _ _ ⟨rfl, rfl⟩ ok295 le295
              refine V_ld (pc := 298) dX11_spells_298 (v := vr 30) rfl rfl ?_
              refine V_getRv (pc := 299) dX11_spells_299 (o' := 35) fw_RX11_24 rfl hL.t30 hL.r30_10 ?_
              refine V_ld (pc := 302) dX11_spells_302 (v := vi p) rfl rfl ?_
              refine V_ialdv (pc := 303) dX11_spells_303 (v := (T p.toNat 0)) hL.t35 (by omega) ((apM_ne (by omega) (by omega)).trans ((apM_ne (by omega) (by omega)).trans hq0)) (fun g303 => ?_)
              refine V_iconst (pc := 304) dX11_spells_304 (by unfold I32; omega) ?_
              refine V_icmp_ne (pc := 305) dX11_spells_305 (tgt := 313) rfl (fun h305 => ?_) (fun h305 => ?_)
              · skip
                refine V_ld (pc := 313) dX11_spells_313 (v := vi b) rfl rfl ?_
                refine V_if_eq (pc := 314) dX11_spells_314 (tgt := 323) rfl (fun h314 => ?_) (fun h314 => ?_)
                · skip
                  refine V_retv (pc := 323) dX11_spells_323 trivial ?_
                  first
                    | (exfalso; omega)
                    | ((repeat rw [apM_app])
                       exact congrArg (apM 30 22 44 m) (by
                         unfold brS
                         first | rw [if_pos (show b = 1 by omega), if_pos (show b = 1 by omega)] | rw [if_neg (show ¬ b = 1 by omega), if_neg (show ¬ b = 1 by omega)]
                         first
                           | rw [splF_0 (by omega), hK0 (by omega)]
                           | rw [splF_1 (by omega), hK0 (by omega)]
                           | rw [splF_2 (by omega), hK0 (by omega)]
                           | rw [splF_6 (by omega)]
                           | rw [splF_5 (by omega)]
                           | rw [splF_34 (by omega)]
                         first | done | rfl | simp only [List.append_assoc, List.cons_append, List.nil_append, List.append_nil]))
                · skip
                  refine V_ld (pc := 317) dX11_spells_317 (v := vr 30) rfl rfl ?_
                  refine V_bipush (pc := 318) dX11_spells_318 (by unfold I32; omega) (by decide) ?_
                  refine V_callV (pc := 320) dX11_spells_320 (F' := 0) (As := [vi 41]) (st := []) cw_RX11_203 rfl rfl hL.t30 (by decide) (Nat.le_of_ble_eq_true rfl) (by omega) (r_wr1  (apM 30 22 44 (apM 30 22 44 m (([40] ++ ([37] ++ [40])) ++ (kidS T (splF T f) (T p.toNat 0) true (T p.toNat 2).toNat (T p.toNat 7)))) [41]) 41   (by first | assumption | omega) (by (try simp only [apM_sz, List.length_append, List.length_cons, List.length_nil]); omega)) ?_
                  rintro _ _ ⟨rfl, rfl⟩ ok320 le320
                  refine V_retv (pc := 323) dX11_spells_323 trivial ?_
                  first
                    | (exfalso; omega)
                    | ((repeat rw [apM_app])
                       exact congrArg (apM 30 22 44 m) (by
                         unfold brS
                         first | rw [if_pos (show b = 1 by omega), if_pos (show b = 1 by omega)] | rw [if_neg (show ¬ b = 1 by omega), if_neg (show ¬ b = 1 by omega)]
                         first
                           | rw [splF_0 (by omega), hK0 (by omega)]
                           | rw [splF_1 (by omega), hK0 (by omega)]
                           | rw [splF_2 (by omega), hK0 (by omega)]
                           | rw [splF_6 (by omega)]
                           | rw [splF_5 (by omega)]
                           | rw [splF_34 (by omega)]
                         first | done | rfl | simp only [List.append_assoc, List.cons_append, List.nil_append, List.append_nil]))
              · skip
                refine V_ld (pc := 308) dX11_spells_308 (v := vr 30) rfl rfl ?_
                refine V_ld (pc := 309) dX11_spells_309 (v := vi p) rfl rfl ?_
                refine V_callV (pc := 310) dX11_spells_310 (F' := 2) (As := [vi p]) (st := []) cw_RX11_210 rfl rfl hL.t30 (by decide) (Nat.le_of_ble_eq_true rfl) (by omega) (r_times T c (apM 30 22 44 (apM 30 22 44 m (([40] ++ ([37] ++ [40])) ++ (kidS T (splF T f) (T p.toNat 0) true (T p.toNat 2).toNat (T p.toNat 7)))) [41]) p   (by first | assumption | omega) (fun p_ hp_ => by have h_ := hT p_ hp_; (repeat rw [apM_ne (by omega) (by omega)]); exact h_) ⟨hp.1, hp.2.1, hp.2.2⟩ (hB5 (by omega)) (by (try simp only [apM_sz, List.length_append, List.length_cons, List.length_nil]); omega)) ?_
                rintro _ _ ⟨rfl, rfl⟩ ok310 le310
                refine V_ld (pc := 313) dX11_spells_313 (v := vi b) rfl rfl ?_
                refine V_if_eq (pc := 314) dX11_spells_314 (tgt := 323) rfl (fun h314 => ?_) (fun h314 => ?_)
                · skip
                  refine V_retv (pc := 323) dX11_spells_323 trivial ?_
                  first
                    | (exfalso; omega)
                    | ((repeat rw [apM_app])
                       exact congrArg (apM 30 22 44 m) (by
                         unfold brS
                         first | rw [if_pos (show b = 1 by omega), if_pos (show b = 1 by omega)] | rw [if_neg (show ¬ b = 1 by omega), if_neg (show ¬ b = 1 by omega)]
                         first
                           | rw [splF_0 (by omega), hK0 (by omega)]
                           | rw [splF_1 (by omega), hK0 (by omega)]
                           | rw [splF_2 (by omega), hK0 (by omega)]
                           | rw [splF_6 (by omega)]
                           | rw [splF_5 (by omega)]
                           | rw [splF_34 (by omega)]
                         first | done | rfl | simp only [List.append_assoc, List.cons_append, List.nil_append, List.append_nil]))
                · skip
                  refine V_ld (pc := 317) dX11_spells_317 (v := vr 30) rfl rfl ?_
                  refine V_bipush (pc := 318) dX11_spells_318 (by unfold I32; omega) (by decide) ?_
                  refine V_callV (pc := 320) dX11_spells_320 (F' := 0) (As := [vi 41]) (st := []) cw_RX11_203 rfl rfl hL.t30 (by decide) (Nat.le_of_ble_eq_true rfl) (by omega) (r_wr1  (apM 30 22 44 (apM 30 22 44 (apM 30 22 44 m (([40] ++ ([37] ++ [40])) ++ (kidS T (splF T f) (T p.toNat 0) true (T p.toNat 2).toNat (T p.toNat 7)))) [41]) (qS (T p.toNat 3) (T p.toNat 4) (T p.toNat 5))) 41   (by first | assumption | omega) (by (try simp only [apM_sz, List.length_append, List.length_cons, List.length_nil]); omega)) ?_
                  rintro _ _ ⟨rfl, rfl⟩ ok320 le320
                  refine V_retv (pc := 323) dX11_spells_323 trivial ?_
                  first
                    | (exfalso; omega)
                    | ((repeat rw [apM_app])
                       exact congrArg (apM 30 22 44 m) (by
                         unfold brS
                         first | rw [if_pos (show b = 1 by omega), if_pos (show b = 1 by omega)] | rw [if_neg (show ¬ b = 1 by omega), if_neg (show ¬ b = 1 by omega)]
                         first
                           | rw [splF_0 (by omega), hK0 (by omega)]
                           | rw [splF_1 (by omega), hK0 (by omega)]
                           | rw [splF_2 (by omega), hK0 (by omega)]
                           | rw [splF_6 (by omega)]
                           | rw [splF_5 (by omega)]
                           | rw [splF_34 (by omega)]
                         first | done | rfl | simp only [List.append_assoc, List.cons_append, List.nil_append, List.append_nil]))
        · skip
          refine V_ld (pc := 57) dX11_spells_57 (v := vr 30) rfl rfl ?_
          refine V_ld (pc := 58) dX11_spells_58 (v := vr 30) rfl rfl ?_
          refine V_getRv (pc := 59) dX11_spells_59 (o' := 35) fw_RX11_24 rfl hL.t30 hL.r30_10 ?_
          refine V_ld (pc := 62) dX11_spells_62 (v := vi p) rfl rfl ?_
          refine V_ialdv (pc := 63) dX11_spells_63 (v := (T p.toNat 0)) hL.t35 (by omega) ((apM_ne (by omega) (by omega)).trans hq0) (fun g63 => ?_)
          refine V_iconst (pc := 64) dX11_spells_64 (by unfold I32; omega) ?_
          refine V_icmp_ne (pc := 65) dX11_spells_65 (tgt := 73) rfl (fun h65 => ?_) (fun h65 => ?_)
          · skip
            refine V_bipush (pc := 73) dX11_spells_73 (by unfold I32; omega) (by decide) ?_
            refine V_callV (pc := 75) dX11_spells_75 (F' := 0) (As := [vi 36]) (st := []) cw_RX11_203 rfl rfl hL.t30 (by decide) (Nat.le_of_ble_eq_true rfl) (by omega) (r_wr1  (apM 30 22 44 m [40]) 36   (by first | assumption | omega) (by (try simp only [apM_sz, List.length_append, List.length_cons, List.length_nil]); omega)) ?_
            rintro _ _ ⟨rfl, rfl⟩ ok75 le75
            refine V_goto (pc := 78) dX11_spells_78 (tgt := 104) rfl ?_
            refine V_ld (pc := 104) dX11_spells_104 (v := vr 30) rfl rfl ?_
            refine V_getRv (pc := 105) dX11_spells_105 (o' := 41) fw_RX11_42 rfl hL.t30 hL.r30_16 ?_
            refine V_ld (pc := 108) dX11_spells_108 (v := vi p) rfl rfl ?_
            refine V_ialdv (pc := 109) dX11_spells_109 (v := (T p.toNat 7)) hL.t41 (by omega) ((apM_ne (by omega) (by omega)).trans ((apM_ne (by omega) (by omega)).trans hq7)) (fun g109 => ?_)
            refine V_st (pc := 110) dX11_spells_110 (ls' := [(4, vi (T p.toNat 7)), (3, vi 0), (0, vr 30), (1, vi p), (2, vi b)]) rfl (Nat.le_of_ble_eq_true rfl) rfl ?_
            skip
            refine V_mem (m' := apM 30 22 44 m ([40] ++ [36])) (by repeat rw [apM_app]) ?_
            refine L_rsp (m := m) (c := c) (f := f) (T := T) (p := p) (b := b) (by omega) hL hT hp hW.1 hW.2 hr.1 (T p.toNat 2).toNat 0 (T p.toNat 7) 0 ([40] ++ [36]) (hKo1 ()) (hKo ()).2.1 rfl ?_ (fun s' => ?_)
            · rw [show decide ((0 : Nat) = 0) = true from rfl]
              simp only [List.length_append, List.length_cons, List.length_nil]
              omega
            rw [show decide ((0 : Nat) = 0) = true from rfl]
            refine V_ld (pc := 281) dX11_spells_281 (v := vr 30) rfl rfl ?_
            refine V_getRv (pc := 282) dX11_spells_282 (o' := 35) fw_RX11_24 rfl hL.t30 hL.r30_10 ?_
            refine V_ld (pc := 285) dX11_spells_285 (v := vi p) rfl rfl ?_
            refine V_ialdv (pc := 286) dX11_spells_286 (v := (T p.toNat 0)) hL.t35 (by omega) ((apM_ne (by omega) (by omega)).trans hq0) (fun g286 => ?_)
            refine V_bipush (pc := 287) dX11_spells_287 (by unfold I32; omega) (by decide) ?_
            refine V_icmp_ne (pc := 289) dX11_spells_289 (tgt := 298) rfl (fun h289 => ?_) (fun h289 => ?_)
            · skip
              refine V_ld (pc := 298) dX11_spells_298 (v := vr 30) rfl rfl ?_
              refine V_getRv (pc := 299) dX11_spells_299 (o' := 35) fw_RX11_24 rfl hL.t30 hL.r30_10 ?_
              refine V_ld (pc := 302) dX11_spells_302 (v := vi p) rfl rfl ?_
              refine V_ialdv (pc := 303) dX11_spells_303 (v := (T p.toNat 0)) hL.t35 (by omega) ((apM_ne (by omega) (by omega)).trans hq0) (fun g303 => ?_)
              refine V_iconst (pc := 304) dX11_spells_304 (by unfold I32; omega) ?_
              refine V_icmp_ne (pc := 305) dX11_spells_305 (tgt := 313) rfl (fun h305 => ?_) (fun h305 => ?_)
              · skip
                refine V_ld (pc := 313) dX11_spells_313 (v := vi b) rfl rfl ?_
                refine V_if_eq (pc := 314) dX11_spells_314 (tgt := 323) rfl (fun h314 => ?_) (fun h314 => ?_)
                · skip
                  refine V_retv (pc := 323) dX11_spells_323 trivial ?_
                  first
                    | (exfalso; omega)
                    | ((repeat rw [apM_app])
                       exact congrArg (apM 30 22 44 m) (by
                         unfold brS
                         first | rw [if_pos (show b = 1 by omega), if_pos (show b = 1 by omega)] | rw [if_neg (show ¬ b = 1 by omega), if_neg (show ¬ b = 1 by omega)]
                         first
                           | rw [splF_0 (by omega), hK0 (by omega)]
                           | rw [splF_1 (by omega), hK0 (by omega)]
                           | rw [splF_2 (by omega), hK0 (by omega)]
                           | rw [splF_6 (by omega)]
                           | rw [splF_5 (by omega)]
                           | rw [splF_34 (by omega)]
                         first | done | rfl | simp only [List.append_assoc, List.cons_append, List.nil_append, List.append_nil]))
                · skip
                  refine V_ld (pc := 317) dX11_spells_317 (v := vr 30) rfl rfl ?_
                  refine V_bipush (pc := 318) dX11_spells_318 (by unfold I32; omega) (by decide) ?_
                  refine V_callV (pc := 320) dX11_spells_320 (F' := 0) (As := [vi 41]) (st := []) cw_RX11_203 rfl rfl hL.t30 (by decide) (Nat.le_of_ble_eq_true rfl) (by omega) (r_wr1  (apM 30 22 44 m (([40] ++ [36]) ++ (kidS T (splF T f) (T p.toNat 0) true (T p.toNat 2).toNat (T p.toNat 7)))) 41   (by first | assumption | omega) (by (try simp only [apM_sz, List.length_append, List.length_cons, List.length_nil]); omega)) ?_
                  rintro _ _ ⟨rfl, rfl⟩ ok320 le320
                  refine V_retv (pc := 323) dX11_spells_323 trivial ?_
                  first
                    | (exfalso; omega)
                    | ((repeat rw [apM_app])
                       exact congrArg (apM 30 22 44 m) (by
                         unfold brS
                         first | rw [if_pos (show b = 1 by omega), if_pos (show b = 1 by omega)] | rw [if_neg (show ¬ b = 1 by omega), if_neg (show ¬ b = 1 by omega)]
                         first
                           | rw [splF_0 (by omega), hK0 (by omega)]
                           | rw [splF_1 (by omega), hK0 (by omega)]
                           | rw [splF_2 (by omega), hK0 (by omega)]
                           | rw [splF_6 (by omega)]
                           | rw [splF_5 (by omega)]
                           | rw [splF_34 (by omega)]
                         first | done | rfl | simp only [List.append_assoc, List.cons_append, List.nil_append, List.append_nil]))
              · skip
                refine V_ld (pc := 308) dX11_spells_308 (v := vr 30) rfl rfl ?_
                refine V_ld (pc := 309) dX11_spells_309 (v := vi p) rfl rfl ?_
                refine V_callV (pc := 310) dX11_spells_310 (F' := 2) (As := [vi p]) (st := []) cw_RX11_210 rfl rfl hL.t30 (by decide) (Nat.le_of_ble_eq_true rfl) (by omega) (r_times T c (apM 30 22 44 m (([40] ++ [36]) ++ (kidS T (splF T f) (T p.toNat 0) true (T p.toNat 2).toNat (T p.toNat 7)))) p   (by first | assumption | omega) (fun p_ hp_ => by have h_ := hT p_ hp_; (repeat rw [apM_ne (by omega) (by omega)]); exact h_) ⟨hp.1, hp.2.1, hp.2.2⟩ (hB5 (by omega)) (by (try simp only [apM_sz, List.length_append, List.length_cons, List.length_nil]); omega)) ?_
                rintro _ _ ⟨rfl, rfl⟩ ok310 le310
                refine V_ld (pc := 313) dX11_spells_313 (v := vi b) rfl rfl ?_
                refine V_if_eq (pc := 314) dX11_spells_314 (tgt := 323) rfl (fun h314 => ?_) (fun h314 => ?_)
                · skip
                  refine V_retv (pc := 323) dX11_spells_323 trivial ?_
                  first
                    | (exfalso; omega)
                    | ((repeat rw [apM_app])
                       exact congrArg (apM 30 22 44 m) (by
                         unfold brS
                         first | rw [if_pos (show b = 1 by omega), if_pos (show b = 1 by omega)] | rw [if_neg (show ¬ b = 1 by omega), if_neg (show ¬ b = 1 by omega)]
                         first
                           | rw [splF_0 (by omega), hK0 (by omega)]
                           | rw [splF_1 (by omega), hK0 (by omega)]
                           | rw [splF_2 (by omega), hK0 (by omega)]
                           | rw [splF_6 (by omega)]
                           | rw [splF_5 (by omega)]
                           | rw [splF_34 (by omega)]
                         first | done | rfl | simp only [List.append_assoc, List.cons_append, List.nil_append, List.append_nil]))
                · skip
                  refine V_ld (pc := 317) dX11_spells_317 (v := vr 30) rfl rfl ?_
                  refine V_bipush (pc := 318) dX11_spells_318 (by unfold I32; omega) (by decide) ?_
                  refine V_callV (pc := 320) dX11_spells_320 (F' := 0) (As := [vi 41]) (st := []) cw_RX11_203 rfl rfl hL.t30 (by decide) (Nat.le_of_ble_eq_true rfl) (by omega) (r_wr1  (apM 30 22 44 (apM 30 22 44 m (([40] ++ [36]) ++ (kidS T (splF T f) (T p.toNat 0) true (T p.toNat 2).toNat (T p.toNat 7)))) (qS (T p.toNat 3) (T p.toNat 4) (T p.toNat 5))) 41   (by first | assumption | omega) (by (try simp only [apM_sz, List.length_append, List.length_cons, List.length_nil]); omega)) ?_
                  rintro _ _ ⟨rfl, rfl⟩ ok320 le320
                  refine V_retv (pc := 323) dX11_spells_323 trivial ?_
                  first
                    | (exfalso; omega)
                    | ((repeat rw [apM_app])
                       exact congrArg (apM 30 22 44 m) (by
                         unfold brS
                         first | rw [if_pos (show b = 1 by omega), if_pos (show b = 1 by omega)] | rw [if_neg (show ¬ b = 1 by omega), if_neg (show ¬ b = 1 by omega)]
                         first
                           | rw [splF_0 (by omega), hK0 (by omega)]
                           | rw [splF_1 (by omega), hK0 (by omega)]
                           | rw [splF_2 (by omega), hK0 (by omega)]
                           | rw [splF_6 (by omega)]
                           | rw [splF_5 (by omega)]
                           | rw [splF_34 (by omega)]
                         first | done | rfl | simp only [List.append_assoc, List.cons_append, List.nil_append, List.append_nil]))
            · skip
              refine V_ld (pc := 292) dX11_spells_292 (v := vr 30) rfl rfl ?_
              refine V_bipush (pc := 293) dX11_spells_293 (by unfold I32; omega) (by decide) ?_
              refine V_callV (pc := 295) dX11_spells_295 (F' := 0) (As := [vi 41]) (st := []) cw_RX11_203 rfl rfl hL.t30 (by decide) (Nat.le_of_ble_eq_true rfl) (by omega) (r_wr1  (apM 30 22 44 m (([40] ++ [36]) ++ (kidS T (splF T f) (T p.toNat 0) true (T p.toNat 2).toNat (T p.toNat 7)))) 41   (by first | assumption | omega) (by (try simp only [apM_sz, List.length_append, List.length_cons, List.length_nil]); omega)) ?_
              rintro _ _ ⟨rfl, rfl⟩ ok295 le295
              refine V_ld (pc := 298) dX11_spells_298 (v := vr 30) rfl rfl ?_
              refine V_getRv (pc := 299) dX11_spells_299 (o' := 35) fw_RX11_24 rfl hL.t30 hL.r30_10 ?_
              refine V_ld (pc := 302) dX11_spells_302 (v := vi p) rfl rfl ?_
              refine V_ialdv (pc := 303) dX11_spells_303 (v := (T p.toNat 0)) hL.t35 (by omega) ((apM_ne (by omega) (by omega)).trans ((apM_ne (by omega) (by omega)).trans hq0)) (fun g303 => ?_)
              refine V_iconst (pc := 304) dX11_spells_304 (by unfold I32; omega) ?_
              refine V_icmp_ne (pc := 305) dX11_spells_305 (tgt := 313) rfl (fun h305 => ?_) (fun h305 => ?_)
              · skip
                refine V_ld (pc := 313) dX11_spells_313 (v := vi b) rfl rfl ?_
                refine V_if_eq (pc := 314) dX11_spells_314 (tgt := 323) rfl (fun h314 => ?_) (fun h314 => ?_)
                · skip
                  refine V_retv (pc := 323) dX11_spells_323 trivial ?_
                  first
                    | (exfalso; omega)
                    | ((repeat rw [apM_app])
                       exact congrArg (apM 30 22 44 m) (by
                         unfold brS
                         first | rw [if_pos (show b = 1 by omega), if_pos (show b = 1 by omega)] | rw [if_neg (show ¬ b = 1 by omega), if_neg (show ¬ b = 1 by omega)]
                         first
                           | rw [splF_0 (by omega), hK0 (by omega)]
                           | rw [splF_1 (by omega), hK0 (by omega)]
                           | rw [splF_2 (by omega), hK0 (by omega)]
                           | rw [splF_6 (by omega)]
                           | rw [splF_5 (by omega)]
                           | rw [splF_34 (by omega)]
                         first | done | rfl | simp only [List.append_assoc, List.cons_append, List.nil_append, List.append_nil]))
                · skip
                  refine V_ld (pc := 317) dX11_spells_317 (v := vr 30) rfl rfl ?_
                  refine V_bipush (pc := 318) dX11_spells_318 (by unfold I32; omega) (by decide) ?_
                  refine V_callV (pc := 320) dX11_spells_320 (F' := 0) (As := [vi 41]) (st := []) cw_RX11_203 rfl rfl hL.t30 (by decide) (Nat.le_of_ble_eq_true rfl) (by omega) (r_wr1  (apM 30 22 44 (apM 30 22 44 m (([40] ++ [36]) ++ (kidS T (splF T f) (T p.toNat 0) true (T p.toNat 2).toNat (T p.toNat 7)))) [41]) 41   (by first | assumption | omega) (by (try simp only [apM_sz, List.length_append, List.length_cons, List.length_nil]); omega)) ?_
                  rintro _ _ ⟨rfl, rfl⟩ ok320 le320
                  refine V_retv (pc := 323) dX11_spells_323 trivial ?_
                  first
                    | (exfalso; omega)
                    | ((repeat rw [apM_app])
                       exact congrArg (apM 30 22 44 m) (by
                         unfold brS
                         first | rw [if_pos (show b = 1 by omega), if_pos (show b = 1 by omega)] | rw [if_neg (show ¬ b = 1 by omega), if_neg (show ¬ b = 1 by omega)]
                         first
                           | rw [splF_0 (by omega), hK0 (by omega)]
                           | rw [splF_1 (by omega), hK0 (by omega)]
                           | rw [splF_2 (by omega), hK0 (by omega)]
                           | rw [splF_6 (by omega)]
                           | rw [splF_5 (by omega)]
                           | rw [splF_34 (by omega)]
                         first | done | rfl | simp only [List.append_assoc, List.cons_append, List.nil_append, List.append_nil]))
              · skip
                refine V_ld (pc := 308) dX11_spells_308 (v := vr 30) rfl rfl ?_
                refine V_ld (pc := 309) dX11_spells_309 (v := vi p) rfl rfl ?_
                refine V_callV (pc := 310) dX11_spells_310 (F' := 2) (As := [vi p]) (st := []) cw_RX11_210 rfl rfl hL.t30 (by decide) (Nat.le_of_ble_eq_true rfl) (by omega) (r_times T c (apM 30 22 44 (apM 30 22 44 m (([40] ++ [36]) ++ (kidS T (splF T f) (T p.toNat 0) true (T p.toNat 2).toNat (T p.toNat 7)))) [41]) p   (by first | assumption | omega) (fun p_ hp_ => by have h_ := hT p_ hp_; (repeat rw [apM_ne (by omega) (by omega)]); exact h_) ⟨hp.1, hp.2.1, hp.2.2⟩ (hB5 (by omega)) (by (try simp only [apM_sz, List.length_append, List.length_cons, List.length_nil]); omega)) ?_
                rintro _ _ ⟨rfl, rfl⟩ ok310 le310
                refine V_ld (pc := 313) dX11_spells_313 (v := vi b) rfl rfl ?_
                refine V_if_eq (pc := 314) dX11_spells_314 (tgt := 323) rfl (fun h314 => ?_) (fun h314 => ?_)
                · skip
                  refine V_retv (pc := 323) dX11_spells_323 trivial ?_
                  first
                    | (exfalso; omega)
                    | ((repeat rw [apM_app])
                       exact congrArg (apM 30 22 44 m) (by
                         unfold brS
                         first | rw [if_pos (show b = 1 by omega), if_pos (show b = 1 by omega)] | rw [if_neg (show ¬ b = 1 by omega), if_neg (show ¬ b = 1 by omega)]
                         first
                           | rw [splF_0 (by omega), hK0 (by omega)]
                           | rw [splF_1 (by omega), hK0 (by omega)]
                           | rw [splF_2 (by omega), hK0 (by omega)]
                           | rw [splF_6 (by omega)]
                           | rw [splF_5 (by omega)]
                           | rw [splF_34 (by omega)]
                         first | done | rfl | simp only [List.append_assoc, List.cons_append, List.nil_append, List.append_nil]))
                · skip
                  refine V_ld (pc := 317) dX11_spells_317 (v := vr 30) rfl rfl ?_
                  refine V_bipush (pc := 318) dX11_spells_318 (by unfold I32; omega) (by decide) ?_
                  refine V_callV (pc := 320) dX11_spells_320 (F' := 0) (As := [vi 41]) (st := []) cw_RX11_203 rfl rfl hL.t30 (by decide) (Nat.le_of_ble_eq_true rfl) (by omega) (r_wr1  (apM 30 22 44 (apM 30 22 44 (apM 30 22 44 m (([40] ++ [36]) ++ (kidS T (splF T f) (T p.toNat 0) true (T p.toNat 2).toNat (T p.toNat 7)))) [41]) (qS (T p.toNat 3) (T p.toNat 4) (T p.toNat 5))) 41   (by first | assumption | omega) (by (try simp only [apM_sz, List.length_append, List.length_cons, List.length_nil]); omega)) ?_
                  rintro _ _ ⟨rfl, rfl⟩ ok320 le320
                  refine V_retv (pc := 323) dX11_spells_323 trivial ?_
                  first
                    | (exfalso; omega)
                    | ((repeat rw [apM_app])
                       exact congrArg (apM 30 22 44 m) (by
                         unfold brS
                         first | rw [if_pos (show b = 1 by omega), if_pos (show b = 1 by omega)] | rw [if_neg (show ¬ b = 1 by omega), if_neg (show ¬ b = 1 by omega)]
                         first
                           | rw [splF_0 (by omega), hK0 (by omega)]
                           | rw [splF_1 (by omega), hK0 (by omega)]
                           | rw [splF_2 (by omega), hK0 (by omega)]
                           | rw [splF_6 (by omega)]
                           | rw [splF_5 (by omega)]
                           | rw [splF_34 (by omega)]
                         first | done | rfl | simp only [List.append_assoc, List.cons_append, List.nil_append, List.append_nil]))
          · skip
            refine V_bipush (pc := 68) dX11_spells_68 (by unfold I32; omega) (by decide) ?_
            refine V_goto (pc := 70) dX11_spells_70 (tgt := 75) rfl ?_
            refine V_callV (pc := 75) dX11_spells_75 (F' := 0) (As := [vi 94]) (st := []) cw_RX11_203 rfl rfl hL.t30 (by decide) (Nat.le_of_ble_eq_true rfl) (by omega) (r_wr1  (apM 30 22 44 m [40]) 94   (by first | assumption | omega) (by (try simp only [apM_sz, List.length_append, List.length_cons, List.length_nil]); omega)) ?_
            rintro _ _ ⟨rfl, rfl⟩ ok75 le75
            refine V_goto (pc := 78) dX11_spells_78 (tgt := 104) rfl ?_
            refine V_ld (pc := 104) dX11_spells_104 (v := vr 30) rfl rfl ?_
            refine V_getRv (pc := 105) dX11_spells_105 (o' := 41) fw_RX11_42 rfl hL.t30 hL.r30_16 ?_
            refine V_ld (pc := 108) dX11_spells_108 (v := vi p) rfl rfl ?_
            refine V_ialdv (pc := 109) dX11_spells_109 (v := (T p.toNat 7)) hL.t41 (by omega) ((apM_ne (by omega) (by omega)).trans ((apM_ne (by omega) (by omega)).trans hq7)) (fun g109 => ?_)
            refine V_st (pc := 110) dX11_spells_110 (ls' := [(4, vi (T p.toNat 7)), (3, vi 0), (0, vr 30), (1, vi p), (2, vi b)]) rfl (Nat.le_of_ble_eq_true rfl) rfl ?_
            skip
            refine V_mem (m' := apM 30 22 44 m ([40] ++ [94])) (by repeat rw [apM_app]) ?_
            refine L_rsp (m := m) (c := c) (f := f) (T := T) (p := p) (b := b) (by omega) hL hT hp hW.1 hW.2 hr.1 (T p.toNat 2).toNat 0 (T p.toNat 7) 0 ([40] ++ [94]) (hKo1 ()) (hKo ()).2.1 rfl ?_ (fun s' => ?_)
            · rw [show decide ((0 : Nat) = 0) = true from rfl]
              simp only [List.length_append, List.length_cons, List.length_nil]
              omega
            rw [show decide ((0 : Nat) = 0) = true from rfl]
            refine V_ld (pc := 281) dX11_spells_281 (v := vr 30) rfl rfl ?_
            refine V_getRv (pc := 282) dX11_spells_282 (o' := 35) fw_RX11_24 rfl hL.t30 hL.r30_10 ?_
            refine V_ld (pc := 285) dX11_spells_285 (v := vi p) rfl rfl ?_
            refine V_ialdv (pc := 286) dX11_spells_286 (v := (T p.toNat 0)) hL.t35 (by omega) ((apM_ne (by omega) (by omega)).trans hq0) (fun g286 => ?_)
            refine V_bipush (pc := 287) dX11_spells_287 (by unfold I32; omega) (by decide) ?_
            refine V_icmp_ne (pc := 289) dX11_spells_289 (tgt := 298) rfl (fun h289 => ?_) (fun h289 => ?_)
            · skip
              refine V_ld (pc := 298) dX11_spells_298 (v := vr 30) rfl rfl ?_
              refine V_getRv (pc := 299) dX11_spells_299 (o' := 35) fw_RX11_24 rfl hL.t30 hL.r30_10 ?_
              refine V_ld (pc := 302) dX11_spells_302 (v := vi p) rfl rfl ?_
              refine V_ialdv (pc := 303) dX11_spells_303 (v := (T p.toNat 0)) hL.t35 (by omega) ((apM_ne (by omega) (by omega)).trans hq0) (fun g303 => ?_)
              refine V_iconst (pc := 304) dX11_spells_304 (by unfold I32; omega) ?_
              refine V_icmp_ne (pc := 305) dX11_spells_305 (tgt := 313) rfl (fun h305 => ?_) (fun h305 => ?_)
              · skip
                refine V_ld (pc := 313) dX11_spells_313 (v := vi b) rfl rfl ?_
                refine V_if_eq (pc := 314) dX11_spells_314 (tgt := 323) rfl (fun h314 => ?_) (fun h314 => ?_)
                · skip
                  refine V_retv (pc := 323) dX11_spells_323 trivial ?_
                  first
                    | (exfalso; omega)
                    | ((repeat rw [apM_app])
                       exact congrArg (apM 30 22 44 m) (by
                         unfold brS
                         first | rw [if_pos (show b = 1 by omega), if_pos (show b = 1 by omega)] | rw [if_neg (show ¬ b = 1 by omega), if_neg (show ¬ b = 1 by omega)]
                         first
                           | rw [splF_0 (by omega), hK0 (by omega)]
                           | rw [splF_1 (by omega), hK0 (by omega)]
                           | rw [splF_2 (by omega), hK0 (by omega)]
                           | rw [splF_6 (by omega)]
                           | rw [splF_5 (by omega)]
                           | rw [splF_34 (by omega)]
                         first | done | rfl | simp only [List.append_assoc, List.cons_append, List.nil_append, List.append_nil]))
                · skip
                  refine V_ld (pc := 317) dX11_spells_317 (v := vr 30) rfl rfl ?_
                  refine V_bipush (pc := 318) dX11_spells_318 (by unfold I32; omega) (by decide) ?_
                  refine V_callV (pc := 320) dX11_spells_320 (F' := 0) (As := [vi 41]) (st := []) cw_RX11_203 rfl rfl hL.t30 (by decide) (Nat.le_of_ble_eq_true rfl) (by omega) (r_wr1  (apM 30 22 44 m (([40] ++ [94]) ++ (kidS T (splF T f) (T p.toNat 0) true (T p.toNat 2).toNat (T p.toNat 7)))) 41   (by first | assumption | omega) (by (try simp only [apM_sz, List.length_append, List.length_cons, List.length_nil]); omega)) ?_
                  rintro _ _ ⟨rfl, rfl⟩ ok320 le320
                  refine V_retv (pc := 323) dX11_spells_323 trivial ?_
                  first
                    | (exfalso; omega)
                    | ((repeat rw [apM_app])
                       exact congrArg (apM 30 22 44 m) (by
                         unfold brS
                         first | rw [if_pos (show b = 1 by omega), if_pos (show b = 1 by omega)] | rw [if_neg (show ¬ b = 1 by omega), if_neg (show ¬ b = 1 by omega)]
                         first
                           | rw [splF_0 (by omega), hK0 (by omega)]
                           | rw [splF_1 (by omega), hK0 (by omega)]
                           | rw [splF_2 (by omega), hK0 (by omega)]
                           | rw [splF_6 (by omega)]
                           | rw [splF_5 (by omega)]
                           | rw [splF_34 (by omega)]
                         first | done | rfl | simp only [List.append_assoc, List.cons_append, List.nil_append, List.append_nil]))
              · skip
                refine V_ld (pc := 308) dX11_spells_308 (v := vr 30) rfl rfl ?_
                refine V_ld (pc := 309) dX11_spells_309 (v := vi p) rfl rfl ?_
                refine V_callV (pc := 310) dX11_spells_310 (F' := 2) (As := [vi p]) (st := []) cw_RX11_210 rfl rfl hL.t30 (by decide) (Nat.le_of_ble_eq_true rfl) (by omega) (r_times T c (apM 30 22 44 m (([40] ++ [94]) ++ (kidS T (splF T f) (T p.toNat 0) true (T p.toNat 2).toNat (T p.toNat 7)))) p   (by first | assumption | omega) (fun p_ hp_ => by have h_ := hT p_ hp_; (repeat rw [apM_ne (by omega) (by omega)]); exact h_) ⟨hp.1, hp.2.1, hp.2.2⟩ (hB5 (by omega)) (by (try simp only [apM_sz, List.length_append, List.length_cons, List.length_nil]); omega)) ?_
                rintro _ _ ⟨rfl, rfl⟩ ok310 le310
                refine V_ld (pc := 313) dX11_spells_313 (v := vi b) rfl rfl ?_
                refine V_if_eq (pc := 314) dX11_spells_314 (tgt := 323) rfl (fun h314 => ?_) (fun h314 => ?_)
                · skip
                  refine V_retv (pc := 323) dX11_spells_323 trivial ?_
                  first
                    | (exfalso; omega)
                    | ((repeat rw [apM_app])
                       exact congrArg (apM 30 22 44 m) (by
                         unfold brS
                         first | rw [if_pos (show b = 1 by omega), if_pos (show b = 1 by omega)] | rw [if_neg (show ¬ b = 1 by omega), if_neg (show ¬ b = 1 by omega)]
                         first
                           | rw [splF_0 (by omega), hK0 (by omega)]
                           | rw [splF_1 (by omega), hK0 (by omega)]
                           | rw [splF_2 (by omega), hK0 (by omega)]
                           | rw [splF_6 (by omega)]
                           | rw [splF_5 (by omega)]
                           | rw [splF_34 (by omega)]
                         first | done | rfl | simp only [List.append_assoc, List.cons_append, List.nil_append, List.append_nil]))
                · skip
                  refine V_ld (pc := 317) dX11_spells_317 (v := vr 30) rfl rfl ?_
                  refine V_bipush (pc := 318) dX11_spells_318 (by unfold I32; omega) (by decide) ?_
                  refine V_callV (pc := 320) dX11_spells_320 (F' := 0) (As := [vi 41]) (st := []) cw_RX11_203 rfl rfl hL.t30 (by decide) (Nat.le_of_ble_eq_true rfl) (by omega) (r_wr1  (apM 30 22 44 (apM 30 22 44 m (([40] ++ [94]) ++ (kidS T (splF T f) (T p.toNat 0) true (T p.toNat 2).toNat (T p.toNat 7)))) (qS (T p.toNat 3) (T p.toNat 4) (T p.toNat 5))) 41   (by first | assumption | omega) (by (try simp only [apM_sz, List.length_append, List.length_cons, List.length_nil]); omega)) ?_
                  rintro _ _ ⟨rfl, rfl⟩ ok320 le320
                  refine V_retv (pc := 323) dX11_spells_323 trivial ?_
                  first
                    | (exfalso; omega)
                    | ((repeat rw [apM_app])
                       exact congrArg (apM 30 22 44 m) (by
                         unfold brS
                         first | rw [if_pos (show b = 1 by omega), if_pos (show b = 1 by omega)] | rw [if_neg (show ¬ b = 1 by omega), if_neg (show ¬ b = 1 by omega)]
                         first
                           | rw [splF_0 (by omega), hK0 (by omega)]
                           | rw [splF_1 (by omega), hK0 (by omega)]
                           | rw [splF_2 (by omega), hK0 (by omega)]
                           | rw [splF_6 (by omega)]
                           | rw [splF_5 (by omega)]
                           | rw [splF_34 (by omega)]
                         first | done | rfl | simp only [List.append_assoc, List.cons_append, List.nil_append, List.append_nil]))
            · skip
              refine V_ld (pc := 292) dX11_spells_292 (v := vr 30) rfl rfl ?_
              refine V_bipush (pc := 293) dX11_spells_293 (by unfold I32; omega) (by decide) ?_
              refine V_callV (pc := 295) dX11_spells_295 (F' := 0) (As := [vi 41]) (st := []) cw_RX11_203 rfl rfl hL.t30 (by decide) (Nat.le_of_ble_eq_true rfl) (by omega) (r_wr1  (apM 30 22 44 m (([40] ++ [94]) ++ (kidS T (splF T f) (T p.toNat 0) true (T p.toNat 2).toNat (T p.toNat 7)))) 41   (by first | assumption | omega) (by (try simp only [apM_sz, List.length_append, List.length_cons, List.length_nil]); omega)) ?_
              rintro _ _ ⟨rfl, rfl⟩ ok295 le295
              refine V_ld (pc := 298) dX11_spells_298 (v := vr 30) rfl rfl ?_
              refine V_getRv (pc := 299) dX11_spells_299 (o' := 35) fw_RX11_24 rfl hL.t30 hL.r30_10 ?_
              refine V_ld (pc := 302) dX11_spells_302 (v := vi p) rfl rfl ?_
              refine V_ialdv (pc := 303) dX11_spells_303 (v := (T p.toNat 0)) hL.t35 (by omega) ((apM_ne (by omega) (by omega)).trans ((apM_ne (by omega) (by omega)).trans hq0)) (fun g303 => ?_)
              refine V_iconst (pc := 304) dX11_spells_304 (by unfold I32; omega) ?_
              refine V_icmp_ne (pc := 305) dX11_spells_305 (tgt := 313) rfl (fun h305 => ?_) (fun h305 => ?_)
              · skip
                refine V_ld (pc := 313) dX11_spells_313 (v := vi b) rfl rfl ?_
                refine V_if_eq (pc := 314) dX11_spells_314 (tgt := 323) rfl (fun h314 => ?_) (fun h314 => ?_)
                · skip
                  refine V_retv (pc := 323) dX11_spells_323 trivial ?_
                  first
                    | (exfalso; omega)
                    | ((repeat rw [apM_app])
                       exact congrArg (apM 30 22 44 m) (by
                         unfold brS
                         first | rw [if_pos (show b = 1 by omega), if_pos (show b = 1 by omega)] | rw [if_neg (show ¬ b = 1 by omega), if_neg (show ¬ b = 1 by omega)]
                         first
                           | rw [splF_0 (by omega), hK0 (by omega)]
                           | rw [splF_1 (by omega), hK0 (by omega)]
                           | rw [splF_2 (by omega), hK0 (by omega)]
                           | rw [splF_6 (by omega)]
                           | rw [splF_5 (by omega)]
                           | rw [splF_34 (by omega)]
                         first | done | rfl | simp only [List.append_assoc, List.cons_append, List.nil_append, List.append_nil]))
                · skip
                  refine V_ld (pc := 317) dX11_spells_317 (v := vr 30) rfl rfl ?_
                  refine V_bipush (pc := 318) dX11_spells_318 (by unfold I32; omega) (by decide) ?_
                  refine V_callV (pc := 320) dX11_spells_320 (F' := 0) (As := [vi 41]) (st := []) cw_RX11_203 rfl rfl hL.t30 (by decide) (Nat.le_of_ble_eq_true rfl) (by omega) (r_wr1  (apM 30 22 44 (apM 30 22 44 m (([40] ++ [94]) ++ (kidS T (splF T f) (T p.toNat 0) true (T p.toNat 2).toNat (T p.toNat 7)))) [41]) 41   (by first | assumption | omega) (by (try simp only [apM_sz, List.length_append, List.length_cons, List.length_nil]); omega)) ?_
                  rintro _ _ ⟨rfl, rfl⟩ ok320 le320
                  refine V_retv (pc := 323) dX11_spells_323 trivial ?_
                  first
                    | (exfalso; omega)
                    | ((repeat rw [apM_app])
                       exact congrArg (apM 30 22 44 m) (by
                         unfold brS
                         first | rw [if_pos (show b = 1 by omega), if_pos (show b = 1 by omega)] | rw [if_neg (show ¬ b = 1 by omega), if_neg (show ¬ b = 1 by omega)]
                         first
                           | rw [splF_0 (by omega), hK0 (by omega)]
                           | rw [splF_1 (by omega), hK0 (by omega)]
                           | rw [splF_2 (by omega), hK0 (by omega)]
                           | rw [splF_6 (by omega)]
                           | rw [splF_5 (by omega)]
                           | rw [splF_34 (by omega)]
                         first | done | rfl | simp only [List.append_assoc, List.cons_append, List.nil_append, List.append_nil]))
              · skip
                refine V_ld (pc := 308) dX11_spells_308 (v := vr 30) rfl rfl ?_
                refine V_ld (pc := 309) dX11_spells_309 (v := vi p) rfl rfl ?_
                refine V_callV (pc := 310) dX11_spells_310 (F' := 2) (As := [vi p]) (st := []) cw_RX11_210 rfl rfl hL.t30 (by decide) (Nat.le_of_ble_eq_true rfl) (by omega) (r_times T c (apM 30 22 44 (apM 30 22 44 m (([40] ++ [94]) ++ (kidS T (splF T f) (T p.toNat 0) true (T p.toNat 2).toNat (T p.toNat 7)))) [41]) p   (by first | assumption | omega) (fun p_ hp_ => by have h_ := hT p_ hp_; (repeat rw [apM_ne (by omega) (by omega)]); exact h_) ⟨hp.1, hp.2.1, hp.2.2⟩ (hB5 (by omega)) (by (try simp only [apM_sz, List.length_append, List.length_cons, List.length_nil]); omega)) ?_
                rintro _ _ ⟨rfl, rfl⟩ ok310 le310
                refine V_ld (pc := 313) dX11_spells_313 (v := vi b) rfl rfl ?_
                refine V_if_eq (pc := 314) dX11_spells_314 (tgt := 323) rfl (fun h314 => ?_) (fun h314 => ?_)
                · skip
                  refine V_retv (pc := 323) dX11_spells_323 trivial ?_
                  first
                    | (exfalso; omega)
                    | ((repeat rw [apM_app])
                       exact congrArg (apM 30 22 44 m) (by
                         unfold brS
                         first | rw [if_pos (show b = 1 by omega), if_pos (show b = 1 by omega)] | rw [if_neg (show ¬ b = 1 by omega), if_neg (show ¬ b = 1 by omega)]
                         first
                           | rw [splF_0 (by omega), hK0 (by omega)]
                           | rw [splF_1 (by omega), hK0 (by omega)]
                           | rw [splF_2 (by omega), hK0 (by omega)]
                           | rw [splF_6 (by omega)]
                           | rw [splF_5 (by omega)]
                           | rw [splF_34 (by omega)]
                         first | done | rfl | simp only [List.append_assoc, List.cons_append, List.nil_append, List.append_nil]))
                · skip
                  refine V_ld (pc := 317) dX11_spells_317 (v := vr 30) rfl rfl ?_
                  refine V_bipush (pc := 318) dX11_spells_318 (by unfold I32; omega) (by decide) ?_
                  refine V_callV (pc := 320) dX11_spells_320 (F' := 0) (As := [vi 41]) (st := []) cw_RX11_203 rfl rfl hL.t30 (by decide) (Nat.le_of_ble_eq_true rfl) (by omega) (r_wr1  (apM 30 22 44 (apM 30 22 44 (apM 30 22 44 m (([40] ++ [94]) ++ (kidS T (splF T f) (T p.toNat 0) true (T p.toNat 2).toNat (T p.toNat 7)))) [41]) (qS (T p.toNat 3) (T p.toNat 4) (T p.toNat 5))) 41   (by first | assumption | omega) (by (try simp only [apM_sz, List.length_append, List.length_cons, List.length_nil]); omega)) ?_
                  rintro _ _ ⟨rfl, rfl⟩ ok320 le320
                  refine V_retv (pc := 323) dX11_spells_323 trivial ?_
                  first
                    | (exfalso; omega)
                    | ((repeat rw [apM_app])
                       exact congrArg (apM 30 22 44 m) (by
                         unfold brS
                         first | rw [if_pos (show b = 1 by omega), if_pos (show b = 1 by omega)] | rw [if_neg (show ¬ b = 1 by omega), if_neg (show ¬ b = 1 by omega)]
                         first
                           | rw [splF_0 (by omega), hK0 (by omega)]
                           | rw [splF_1 (by omega), hK0 (by omega)]
                           | rw [splF_2 (by omega), hK0 (by omega)]
                           | rw [splF_6 (by omega)]
                           | rw [splF_5 (by omega)]
                           | rw [splF_34 (by omega)]
                         first | done | rfl | simp only [List.append_assoc, List.cons_append, List.nil_append, List.append_nil]))
    · skip
      refine V_ld (pc := 21) dX11_spells_21 (v := vr 30) rfl rfl ?_
      refine V_bipush (pc := 22) dX11_spells_22 (by unfold I32; omega) (by decide) ?_
      refine V_ld (pc := 24) dX11_spells_24 (v := vr 30) rfl rfl ?_
      refine V_getRv (pc := 25) dX11_spells_25 (o' := 36) fw_RX11_27 rfl hL.t30 hL.r30_11 ?_
      refine V_ld (pc := 28) dX11_spells_28 (v := vi p) rfl rfl ?_
      refine V_ialdv (pc := 29) dX11_spells_29 (v := (T p.toNat 1)) hL.t36 (by omega) ((apM_ne (by omega) (by omega)).trans hq1) (fun g29 => ?_)
      refine V_iadd (pc := 30) dX11_spells_30 (by unfold I32 at *; omega) ?_
      refine V_callV (pc := 31) dX11_spells_31 (F' := 0) (As := [vi (65 + (T p.toNat 1))]) (st := []) cw_RX11_203 rfl rfl hL.t30 (by decide) (Nat.le_of_ble_eq_true rfl) (by omega) (r_wr1  (apM 30 22 44 m [40]) (65 + (T p.toNat 1))   (by first | assumption | omega) (by (try simp only [apM_sz, List.length_append, List.length_cons, List.length_nil]); omega)) ?_
      rintro _ _ ⟨rfl, rfl⟩ ok31 le31
      refine V_goto (pc := 34) dX11_spells_34 (tgt := 104) rfl ?_
      refine V_ld (pc := 104) dX11_spells_104 (v := vr 30) rfl rfl ?_
      refine V_getRv (pc := 105) dX11_spells_105 (o' := 41) fw_RX11_42 rfl hL.t30 hL.r30_16 ?_
      refine V_ld (pc := 108) dX11_spells_108 (v := vi p) rfl rfl ?_
      refine V_ialdv (pc := 109) dX11_spells_109 (v := (T p.toNat 7)) hL.t41 (by omega) ((apM_ne (by omega) (by omega)).trans ((apM_ne (by omega) (by omega)).trans hq7)) (fun g109 => ?_)
      refine V_st (pc := 110) dX11_spells_110 (ls' := [(4, vi (T p.toNat 7)), (3, vi 0), (0, vr 30), (1, vi p), (2, vi b)]) rfl (Nat.le_of_ble_eq_true rfl) rfl ?_
      skip
      refine V_mem (m' := apM 30 22 44 m ([40] ++ [(65 + (T p.toNat 1))])) (by repeat rw [apM_app]) ?_
      refine L_rsp (m := m) (c := c) (f := f) (T := T) (p := p) (b := b) (by omega) hL hT hp hW.1 hW.2 hr.1 (T p.toNat 2).toNat 0 (T p.toNat 7) 0 ([40] ++ [(65 + (T p.toNat 1))]) (hKo1 ()) (hKo ()).2.1 rfl ?_ (fun s' => ?_)
      · rw [show decide ((0 : Nat) = 0) = true from rfl]
        simp only [List.length_append, List.length_cons, List.length_nil]
        omega
      rw [show decide ((0 : Nat) = 0) = true from rfl]
      refine V_ld (pc := 281) dX11_spells_281 (v := vr 30) rfl rfl ?_
      refine V_getRv (pc := 282) dX11_spells_282 (o' := 35) fw_RX11_24 rfl hL.t30 hL.r30_10 ?_
      refine V_ld (pc := 285) dX11_spells_285 (v := vi p) rfl rfl ?_
      refine V_ialdv (pc := 286) dX11_spells_286 (v := (T p.toNat 0)) hL.t35 (by omega) ((apM_ne (by omega) (by omega)).trans hq0) (fun g286 => ?_)
      refine V_bipush (pc := 287) dX11_spells_287 (by unfold I32; omega) (by decide) ?_
      refine V_icmp_ne (pc := 289) dX11_spells_289 (tgt := 298) rfl (fun h289 => ?_) (fun h289 => ?_)
      · skip
        refine V_ld (pc := 298) dX11_spells_298 (v := vr 30) rfl rfl ?_
        refine V_getRv (pc := 299) dX11_spells_299 (o' := 35) fw_RX11_24 rfl hL.t30 hL.r30_10 ?_
        refine V_ld (pc := 302) dX11_spells_302 (v := vi p) rfl rfl ?_
        refine V_ialdv (pc := 303) dX11_spells_303 (v := (T p.toNat 0)) hL.t35 (by omega) ((apM_ne (by omega) (by omega)).trans hq0) (fun g303 => ?_)
        refine V_iconst (pc := 304) dX11_spells_304 (by unfold I32; omega) ?_
        refine V_icmp_ne (pc := 305) dX11_spells_305 (tgt := 313) rfl (fun h305 => ?_) (fun h305 => ?_)
        · skip
          refine V_ld (pc := 313) dX11_spells_313 (v := vi b) rfl rfl ?_
          refine V_if_eq (pc := 314) dX11_spells_314 (tgt := 323) rfl (fun h314 => ?_) (fun h314 => ?_)
          · skip
            refine V_retv (pc := 323) dX11_spells_323 trivial ?_
            first
              | (exfalso; omega)
              | ((repeat rw [apM_app])
                 exact congrArg (apM 30 22 44 m) (by
                   unfold brS
                   first | rw [if_pos (show b = 1 by omega), if_pos (show b = 1 by omega)] | rw [if_neg (show ¬ b = 1 by omega), if_neg (show ¬ b = 1 by omega)]
                   first
                     | rw [splF_0 (by omega), hK0 (by omega)]
                     | rw [splF_1 (by omega), hK0 (by omega)]
                     | rw [splF_2 (by omega), hK0 (by omega)]
                     | rw [splF_6 (by omega)]
                     | rw [splF_5 (by omega)]
                     | rw [splF_34 (by omega)]
                   first | done | rfl | simp only [List.append_assoc, List.cons_append, List.nil_append, List.append_nil]))
          · skip
            refine V_ld (pc := 317) dX11_spells_317 (v := vr 30) rfl rfl ?_
            refine V_bipush (pc := 318) dX11_spells_318 (by unfold I32; omega) (by decide) ?_
            refine V_callV (pc := 320) dX11_spells_320 (F' := 0) (As := [vi 41]) (st := []) cw_RX11_203 rfl rfl hL.t30 (by decide) (Nat.le_of_ble_eq_true rfl) (by omega) (r_wr1  (apM 30 22 44 m (([40] ++ [(65 + (T p.toNat 1))]) ++ (kidS T (splF T f) (T p.toNat 0) true (T p.toNat 2).toNat (T p.toNat 7)))) 41   (by first | assumption | omega) (by (try simp only [apM_sz, List.length_append, List.length_cons, List.length_nil]); omega)) ?_
            rintro _ _ ⟨rfl, rfl⟩ ok320 le320
            refine V_retv (pc := 323) dX11_spells_323 trivial ?_
            first
              | (exfalso; omega)
              | ((repeat rw [apM_app])
                 exact congrArg (apM 30 22 44 m) (by
                   unfold brS
                   first | rw [if_pos (show b = 1 by omega), if_pos (show b = 1 by omega)] | rw [if_neg (show ¬ b = 1 by omega), if_neg (show ¬ b = 1 by omega)]
                   first
                     | rw [splF_0 (by omega), hK0 (by omega)]
                     | rw [splF_1 (by omega), hK0 (by omega)]
                     | rw [splF_2 (by omega), hK0 (by omega)]
                     | rw [splF_6 (by omega)]
                     | rw [splF_5 (by omega)]
                     | rw [splF_34 (by omega)]
                   first | done | rfl | simp only [List.append_assoc, List.cons_append, List.nil_append, List.append_nil]))
        · skip
          refine V_ld (pc := 308) dX11_spells_308 (v := vr 30) rfl rfl ?_
          refine V_ld (pc := 309) dX11_spells_309 (v := vi p) rfl rfl ?_
          refine V_callV (pc := 310) dX11_spells_310 (F' := 2) (As := [vi p]) (st := []) cw_RX11_210 rfl rfl hL.t30 (by decide) (Nat.le_of_ble_eq_true rfl) (by omega) (r_times T c (apM 30 22 44 m (([40] ++ [(65 + (T p.toNat 1))]) ++ (kidS T (splF T f) (T p.toNat 0) true (T p.toNat 2).toNat (T p.toNat 7)))) p   (by first | assumption | omega) (fun p_ hp_ => by have h_ := hT p_ hp_; (repeat rw [apM_ne (by omega) (by omega)]); exact h_) ⟨hp.1, hp.2.1, hp.2.2⟩ (hB5 (by omega)) (by (try simp only [apM_sz, List.length_append, List.length_cons, List.length_nil]); omega)) ?_
          rintro _ _ ⟨rfl, rfl⟩ ok310 le310
          refine V_ld (pc := 313) dX11_spells_313 (v := vi b) rfl rfl ?_
          refine V_if_eq (pc := 314) dX11_spells_314 (tgt := 323) rfl (fun h314 => ?_) (fun h314 => ?_)
          · skip
            refine V_retv (pc := 323) dX11_spells_323 trivial ?_
            first
              | (exfalso; omega)
              | ((repeat rw [apM_app])
                 exact congrArg (apM 30 22 44 m) (by
                   unfold brS
                   first | rw [if_pos (show b = 1 by omega), if_pos (show b = 1 by omega)] | rw [if_neg (show ¬ b = 1 by omega), if_neg (show ¬ b = 1 by omega)]
                   first
                     | rw [splF_0 (by omega), hK0 (by omega)]
                     | rw [splF_1 (by omega), hK0 (by omega)]
                     | rw [splF_2 (by omega), hK0 (by omega)]
                     | rw [splF_6 (by omega)]
                     | rw [splF_5 (by omega)]
                     | rw [splF_34 (by omega)]
                   first | done | rfl | simp only [List.append_assoc, List.cons_append, List.nil_append, List.append_nil]))
          · skip
            refine V_ld (pc := 317) dX11_spells_317 (v := vr 30) rfl rfl ?_
            refine V_bipush (pc := 318) dX11_spells_318 (by unfold I32; omega) (by decide) ?_
            refine V_callV (pc := 320) dX11_spells_320 (F' := 0) (As := [vi 41]) (st := []) cw_RX11_203 rfl rfl hL.t30 (by decide) (Nat.le_of_ble_eq_true rfl) (by omega) (r_wr1  (apM 30 22 44 (apM 30 22 44 m (([40] ++ [(65 + (T p.toNat 1))]) ++ (kidS T (splF T f) (T p.toNat 0) true (T p.toNat 2).toNat (T p.toNat 7)))) (qS (T p.toNat 3) (T p.toNat 4) (T p.toNat 5))) 41   (by first | assumption | omega) (by (try simp only [apM_sz, List.length_append, List.length_cons, List.length_nil]); omega)) ?_
            rintro _ _ ⟨rfl, rfl⟩ ok320 le320
            refine V_retv (pc := 323) dX11_spells_323 trivial ?_
            first
              | (exfalso; omega)
              | ((repeat rw [apM_app])
                 exact congrArg (apM 30 22 44 m) (by
                   unfold brS
                   first | rw [if_pos (show b = 1 by omega), if_pos (show b = 1 by omega)] | rw [if_neg (show ¬ b = 1 by omega), if_neg (show ¬ b = 1 by omega)]
                   first
                     | rw [splF_0 (by omega), hK0 (by omega)]
                     | rw [splF_1 (by omega), hK0 (by omega)]
                     | rw [splF_2 (by omega), hK0 (by omega)]
                     | rw [splF_6 (by omega)]
                     | rw [splF_5 (by omega)]
                     | rw [splF_34 (by omega)]
                   first | done | rfl | simp only [List.append_assoc, List.cons_append, List.nil_append, List.append_nil]))
      · skip
        refine V_ld (pc := 292) dX11_spells_292 (v := vr 30) rfl rfl ?_
        refine V_bipush (pc := 293) dX11_spells_293 (by unfold I32; omega) (by decide) ?_
        refine V_callV (pc := 295) dX11_spells_295 (F' := 0) (As := [vi 41]) (st := []) cw_RX11_203 rfl rfl hL.t30 (by decide) (Nat.le_of_ble_eq_true rfl) (by omega) (r_wr1  (apM 30 22 44 m (([40] ++ [(65 + (T p.toNat 1))]) ++ (kidS T (splF T f) (T p.toNat 0) true (T p.toNat 2).toNat (T p.toNat 7)))) 41   (by first | assumption | omega) (by (try simp only [apM_sz, List.length_append, List.length_cons, List.length_nil]); omega)) ?_
        rintro _ _ ⟨rfl, rfl⟩ ok295 le295
        refine V_ld (pc := 298) dX11_spells_298 (v := vr 30) rfl rfl ?_
        refine V_getRv (pc := 299) dX11_spells_299 (o' := 35) fw_RX11_24 rfl hL.t30 hL.r30_10 ?_
        refine V_ld (pc := 302) dX11_spells_302 (v := vi p) rfl rfl ?_
        refine V_ialdv (pc := 303) dX11_spells_303 (v := (T p.toNat 0)) hL.t35 (by omega) ((apM_ne (by omega) (by omega)).trans ((apM_ne (by omega) (by omega)).trans hq0)) (fun g303 => ?_)
        refine V_iconst (pc := 304) dX11_spells_304 (by unfold I32; omega) ?_
        refine V_icmp_ne (pc := 305) dX11_spells_305 (tgt := 313) rfl (fun h305 => ?_) (fun h305 => ?_)
        · skip
          refine V_ld (pc := 313) dX11_spells_313 (v := vi b) rfl rfl ?_
          refine V_if_eq (pc := 314) dX11_spells_314 (tgt := 323) rfl (fun h314 => ?_) (fun h314 => ?_)
          · skip
            refine V_retv (pc := 323) dX11_spells_323 trivial ?_
            first
              | (exfalso; omega)
              | ((repeat rw [apM_app])
                 exact congrArg (apM 30 22 44 m) (by
                   unfold brS
                   first | rw [if_pos (show b = 1 by omega), if_pos (show b = 1 by omega)] | rw [if_neg (show ¬ b = 1 by omega), if_neg (show ¬ b = 1 by omega)]
                   first
                     | rw [splF_0 (by omega), hK0 (by omega)]
                     | rw [splF_1 (by omega), hK0 (by omega)]
                     | rw [splF_2 (by omega), hK0 (by omega)]
                     | rw [splF_6 (by omega)]
                     | rw [splF_5 (by omega)]
                     | rw [splF_34 (by omega)]
                   first | done | rfl | simp only [List.append_assoc, List.cons_append, List.nil_append, List.append_nil]))
          · skip
            refine V_ld (pc := 317) dX11_spells_317 (v := vr 30) rfl rfl ?_
            refine V_bipush (pc := 318) dX11_spells_318 (by unfold I32; omega) (by decide) ?_
            refine V_callV (pc := 320) dX11_spells_320 (F' := 0) (As := [vi 41]) (st := []) cw_RX11_203 rfl rfl hL.t30 (by decide) (Nat.le_of_ble_eq_true rfl) (by omega) (r_wr1  (apM 30 22 44 (apM 30 22 44 m (([40] ++ [(65 + (T p.toNat 1))]) ++ (kidS T (splF T f) (T p.toNat 0) true (T p.toNat 2).toNat (T p.toNat 7)))) [41]) 41   (by first | assumption | omega) (by (try simp only [apM_sz, List.length_append, List.length_cons, List.length_nil]); omega)) ?_
            rintro _ _ ⟨rfl, rfl⟩ ok320 le320
            refine V_retv (pc := 323) dX11_spells_323 trivial ?_
            first
              | (exfalso; omega)
              | ((repeat rw [apM_app])
                 exact congrArg (apM 30 22 44 m) (by
                   unfold brS
                   first | rw [if_pos (show b = 1 by omega), if_pos (show b = 1 by omega)] | rw [if_neg (show ¬ b = 1 by omega), if_neg (show ¬ b = 1 by omega)]
                   first
                     | rw [splF_0 (by omega), hK0 (by omega)]
                     | rw [splF_1 (by omega), hK0 (by omega)]
                     | rw [splF_2 (by omega), hK0 (by omega)]
                     | rw [splF_6 (by omega)]
                     | rw [splF_5 (by omega)]
                     | rw [splF_34 (by omega)]
                   first | done | rfl | simp only [List.append_assoc, List.cons_append, List.nil_append, List.append_nil]))
        · skip
          refine V_ld (pc := 308) dX11_spells_308 (v := vr 30) rfl rfl ?_
          refine V_ld (pc := 309) dX11_spells_309 (v := vi p) rfl rfl ?_
          refine V_callV (pc := 310) dX11_spells_310 (F' := 2) (As := [vi p]) (st := []) cw_RX11_210 rfl rfl hL.t30 (by decide) (Nat.le_of_ble_eq_true rfl) (by omega) (r_times T c (apM 30 22 44 (apM 30 22 44 m (([40] ++ [(65 + (T p.toNat 1))]) ++ (kidS T (splF T f) (T p.toNat 0) true (T p.toNat 2).toNat (T p.toNat 7)))) [41]) p   (by first | assumption | omega) (fun p_ hp_ => by have h_ := hT p_ hp_; (repeat rw [apM_ne (by omega) (by omega)]); exact h_) ⟨hp.1, hp.2.1, hp.2.2⟩ (hB5 (by omega)) (by (try simp only [apM_sz, List.length_append, List.length_cons, List.length_nil]); omega)) ?_
          rintro _ _ ⟨rfl, rfl⟩ ok310 le310
          refine V_ld (pc := 313) dX11_spells_313 (v := vi b) rfl rfl ?_
          refine V_if_eq (pc := 314) dX11_spells_314 (tgt := 323) rfl (fun h314 => ?_) (fun h314 => ?_)
          · skip
            refine V_retv (pc := 323) dX11_spells_323 trivial ?_
            first
              | (exfalso; omega)
              | ((repeat rw [apM_app])
                 exact congrArg (apM 30 22 44 m) (by
                   unfold brS
                   first | rw [if_pos (show b = 1 by omega), if_pos (show b = 1 by omega)] | rw [if_neg (show ¬ b = 1 by omega), if_neg (show ¬ b = 1 by omega)]
                   first
                     | rw [splF_0 (by omega), hK0 (by omega)]
                     | rw [splF_1 (by omega), hK0 (by omega)]
                     | rw [splF_2 (by omega), hK0 (by omega)]
                     | rw [splF_6 (by omega)]
                     | rw [splF_5 (by omega)]
                     | rw [splF_34 (by omega)]
                   first | done | rfl | simp only [List.append_assoc, List.cons_append, List.nil_append, List.append_nil]))
          · skip
            refine V_ld (pc := 317) dX11_spells_317 (v := vr 30) rfl rfl ?_
            refine V_bipush (pc := 318) dX11_spells_318 (by unfold I32; omega) (by decide) ?_
            refine V_callV (pc := 320) dX11_spells_320 (F' := 0) (As := [vi 41]) (st := []) cw_RX11_203 rfl rfl hL.t30 (by decide) (Nat.le_of_ble_eq_true rfl) (by omega) (r_wr1  (apM 30 22 44 (apM 30 22 44 (apM 30 22 44 m (([40] ++ [(65 + (T p.toNat 1))]) ++ (kidS T (splF T f) (T p.toNat 0) true (T p.toNat 2).toNat (T p.toNat 7)))) [41]) (qS (T p.toNat 3) (T p.toNat 4) (T p.toNat 5))) 41   (by first | assumption | omega) (by (try simp only [apM_sz, List.length_append, List.length_cons, List.length_nil]); omega)) ?_
            rintro _ _ ⟨rfl, rfl⟩ ok320 le320
            refine V_retv (pc := 323) dX11_spells_323 trivial ?_
            first
              | (exfalso; omega)
              | ((repeat rw [apM_app])
                 exact congrArg (apM 30 22 44 m) (by
                   unfold brS
                   first | rw [if_pos (show b = 1 by omega), if_pos (show b = 1 by omega)] | rw [if_neg (show ¬ b = 1 by omega), if_neg (show ¬ b = 1 by omega)]
                   first
                     | rw [splF_0 (by omega), hK0 (by omega)]
                     | rw [splF_1 (by omega), hK0 (by omega)]
                     | rw [splF_2 (by omega), hK0 (by omega)]
                     | rw [splF_6 (by omega)]
                     | rw [splF_5 (by omega)]
                     | rw [splF_34 (by omega)]
                   first | done | rfl | simp only [List.append_assoc, List.cons_append, List.nil_append, List.append_nil]))

theorem CRs_all {c : Nat} {T : Tb} (hW : WfT T 0 c) : ∀ f, CRs T c f
  | 0 => by
    intro m p b hL hT hp hb hh hr
    have hp_ : p.toNat < c := by omega
    rcases hW p.toNat (Nat.zero_le _) hp_ with e | e
    · have := e.2.2.2.2.2.1; omega
    · obtain ⟨q, l, i1, i2, i3, i4, i5, i6, i7, i8, i9⟩ := e
      have := mxC_nn (F := T) (w := 10) q (T p.toNat 7)
      omega
  | f + 1 => by
    intro m p b hL hT hp hb hh hr
    exact r_spellsS T c f m p b hL hT hp hb ⟨hW, CRs_all hW f⟩ (by omega) hr
