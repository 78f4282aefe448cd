/-! the class reads: parts, signs, numbers -/
def CTab (I : Nat → Nat → Int) (A : Nat) (F : Tb) (c : Nat) : Prop := ∀ p w, p < c → w < 9 → I A (9 * p + w) = F p w
theorem CTab.wr {I : Nat → Nat → Int} {A : Nat} {F : Tb} {c k w i : Nat} {v : Int} (h : CTab I A F c) (hw : w < 9) (hi : i = 9 * k + w) : CTab (up2 I A i v) A (up2 F k w v) c := by
  intro p w' hp hw'
  subst hi
  by_cases e : p = k ∧ w' = w
  · obtain ⟨rfl, rfl⟩ := e; rw [up2_s, up2_s]
  · rw [up2_nk (by omega)]
    show _ = if p = k ∧ w' = w then v else F p w'
    rw [if_neg e]
    exact h p w' hp hw'
theorem CTab.oth {I : Nat → Nat → Int} {A o i : Nat} {F : Tb} {c : Nat} {v : Int} (h : CTab I A F c) (ho : A ≠ o) : CTab (up2 I o i v) A F c := by
  intro p w' hp hw'
  rw [up2_no ho]; exact h p w' hp hw'

theorem Ct_mono {μ : MI} {F : Nat} {args : List AV} {m0 : Mem} {post post' : Option AV → Mem → Prop} (h : Ct μ F args m0 post) (hp : ∀ r m', post r m' → post' r m') : Ct μ F args m0 post' := by
  intro h1 h2 l G ad0 sz tt
  refine Jvm.Free.MetFree.mono (h h1 h2 l G ad0 sz tt) (fun _ _ h => h) (fun _ _ _ _ _ h => h) ?_
  rintro a st oc t - ⟨⟨r, m', ad', e1, e2, e3, e4⟩, e5⟩
  exact ⟨⟨r, m', ad', e1, e2, hp r m' e3, e4⟩, e5⟩

set_option maxHeartbeats 4000000 in
theorem c_fact (L : Nat) (m : Mem) (P : Nat) (p : Int) (w : Int) (A : Nat)  (T_P : mT m P = (4, 2)) (R_P_0 : mR m P 0 = some A) (T_A : mT m A = (20, L)) (hcnt : 0 ≤ mI m P 1 ∧ mI m P 1 * 9 ≤ (L : Int) ∧ L ≤ 2160) : Ct μX4_fact 0 [vr P, vi p, vi w] m (ri fun x_ m' => (x_ = if 0 ≤ p ∧ p < mI m P 1 ∧ 0 ≤ w ∧ w < 9 then mI m A (p * 9 + w).toNat else -5) ∧ m = m') := by
  refine Ct_of_V rfl (by decide) rfl (Nat.le_of_ble_eq_true rfl) ?_
  show V μX4_fact 0 m _ 0 [(0, vr P), (1, vi p), (2, vi w)] [] m
  refine V_rg (k := 1) (x := p) rfl fun r_p => ?_
  refine V_rg (k := 2) (x := w) rfl fun r_w => ?_
  refine V_ld (pc := 0) dX4_fact_0 (v := vi p) rfl rfl ?_
  refine V_if_lt (pc := 1) dX4_fact_1 (tgt := 22) rfl (fun h1 => ?_) (fun h1 => ?_)
  · skip
    refine V_bipush (pc := 22) dX4_fact_22 (by unfold I32; omega) (by decide) ?_
    refine V_reti (pc := 24) dX4_fact_24 trivial ?_
    exact ⟨by omega, rfl⟩
  · skip
    refine V_ld (pc := 4) dX4_fact_4 (v := vi p) rfl rfl ?_
    refine V_ld (pc := 5) dX4_fact_5 (v := vr P) rfl rfl ?_
    refine V_getIv (pc := 6) dX4_fact_6 (v := mI m P 1) fw_RX4_15 rfl T_P rfl (fun g6 => ?_)
    refine V_icmp_ge (pc := 9) dX4_fact_9 (tgt := 22) rfl (fun h9 => ?_) (fun h9 => ?_)
    · skip
      refine V_bipush (pc := 22) dX4_fact_22 (by unfold I32; omega) (by decide) ?_
      refine V_reti (pc := 24) dX4_fact_24 trivial ?_
      exact ⟨by omega, rfl⟩
    · skip
      refine V_ld (pc := 12) dX4_fact_12 (v := vi w) rfl rfl ?_
      refine V_if_lt (pc := 13) dX4_fact_13 (tgt := 22) rfl (fun h13 => ?_) (fun h13 => ?_)
      · skip
        refine V_bipush (pc := 22) dX4_fact_22 (by unfold I32; omega) (by decide) ?_
        refine V_reti (pc := 24) dX4_fact_24 trivial ?_
        exact ⟨by omega, rfl⟩
      · skip
        refine V_ld (pc := 16) dX4_fact_16 (v := vi w) rfl rfl ?_
        refine V_bipush (pc := 17) dX4_fact_17 (by unfold I32; omega) (by decide) ?_
        refine V_icmp_lt (pc := 19) dX4_fact_19 (tgt := 25) rfl (fun h19 => ?_) (fun h19 => ?_)
        · skip
          refine V_ld (pc := 25) dX4_fact_25 (v := vi p) rfl rfl ?_
          refine V_bipush (pc := 26) dX4_fact_26 (by unfold I32; omega) (by decide) ?_
          refine V_imul (pc := 28) dX4_fact_28 (by unfold I32 at *; omega) ?_
          refine V_ld (pc := 29) dX4_fact_29 (v := vi w) rfl rfl ?_
          refine V_iadd (pc := 30) dX4_fact_30 (by unfold I32 at *; omega) ?_
          refine V_st (pc := 31) dX4_fact_31 (ls' := [(3, vi ((p * 9) + w)), (0, vr P), (1, vi p), (2, vi w)]) rfl (Nat.le_of_ble_eq_true rfl) rfl ?_
          refine V_ld (pc := 32) dX4_fact_32 (v := vi ((p * 9) + w)) rfl rfl ?_
          refine V_ld (pc := 33) dX4_fact_33 (v := vr P) rfl rfl ?_
          refine V_getRv (pc := 34) dX4_fact_34 (o' := A) fw_RX4_11 rfl T_P R_P_0 ?_
          refine V_alen (pc := 37) dX4_fact_37 T_A (by decide) (by omega) ?_
          refine V_icmp_ge (pc := 38) dX4_fact_38 (tgt := 50) rfl (fun h38 => ?_) (fun h38 => ?_)
          · skip
            refine V_bipush (pc := 50) dX4_fact_50 (by unfold I32; omega) (by decide) ?_
            refine V_reti (pc := 52) dX4_fact_52 trivial ?_
            exact ⟨by omega, rfl⟩
          · skip
            refine V_ld (pc := 41) dX4_fact_41 (v := vr P) rfl rfl ?_
            refine V_getRv (pc := 42) dX4_fact_42 (o' := A) fw_RX4_11 rfl T_P R_P_0 ?_
            refine V_ld (pc := 45) dX4_fact_45 (v := vi ((p * 9) + w)) rfl rfl ?_
            refine V_ialdv (pc := 46) dX4_fact_46 (v := mI m A (((p * 9) + w).toNat)) T_A (by omega) rfl (fun g46 => ?_)
            refine V_goto (pc := 47) dX4_fact_47 (tgt := 52) rfl ?_
            refine V_reti (pc := 52) dX4_fact_52 trivial ?_
            exact ⟨by omega, rfl⟩
        · skip
          refine V_bipush (pc := 22) dX4_fact_22 (by unfold I32; omega) (by decide) ?_
          refine V_reti (pc := 24) dX4_fact_24 trivial ?_
          exact ⟨by omega, rfl⟩

set_option maxHeartbeats 4000000 in
theorem c_note (L : Nat) (m : Mem) (P : Nat) (p : Int) (w : Int) (v : Int) (A : Nat)  (T_P : mT m P = (4, 2)) (R_P_0 : mR m P 0 = some A) (T_A : mT m A = (20, L)) (hp : 0 ≤ p ∧ p * 9 + 9 ≤ (L : Int) ∧ L ≤ 2160 ∧ 0 ≤ w ∧ w < 9) : Ct μX4_note 0 [vr P, vi p, vi w, vi v] m (rv fun m' => setI m A (p * 9 + w).toNat v = m') := by
  refine Ct_of_V rfl (by decide) rfl (Nat.le_of_ble_eq_true rfl) ?_
  show V μX4_note 0 m _ 0 [(0, vr P), (1, vi p), (2, vi w), (3, vi v)] [] m
  refine V_rg (k := 1) (x := p) rfl fun r_p => ?_
  refine V_rg (k := 2) (x := w) rfl fun r_w => ?_
  refine V_rg (k := 3) (x := v) rfl fun r_v => ?_
  refine V_ld (pc := 0) dX4_note_0 (v := vi p) rfl rfl ?_
  refine V_bipush (pc := 1) dX4_note_1 (by unfold I32; omega) (by decide) ?_
  refine V_imul (pc := 3) dX4_note_3 (by unfold I32 at *; omega) ?_
  refine V_ld (pc := 4) dX4_note_4 (v := vi w) rfl rfl ?_
  refine V_iadd (pc := 5) dX4_note_5 (by unfold I32 at *; omega) ?_
  refine V_st (pc := 6) dX4_note_6 (ls' := [(4, vi ((p * 9) + w)), (0, vr P), (1, vi p), (2, vi w), (3, vi v)]) rfl (Nat.le_of_ble_eq_true rfl) rfl ?_
  refine V_ld (pc := 8) dX4_note_8 (v := vi p) rfl rfl ?_
  refine V_if_lt (pc := 9) dX4_note_9 (tgt := 35) rfl (fun h9 => ?_) (fun h9 => ?_)
  · skip
    refine V_retv (pc := 35) dX4_note_35 trivial ?_
    first | exact ⟨rfl, rfl⟩ | exact rfl | (exfalso; omega)
  · skip
    refine V_ld (pc := 12) dX4_note_12 (v := vi ((p * 9) + w)) rfl rfl ?_
    refine V_if_lt (pc := 14) dX4_note_14 (tgt := 35) rfl (fun h14 => ?_) (fun h14 => ?_)
    · skip
      refine V_retv (pc := 35) dX4_note_35 trivial ?_
      first | exact ⟨rfl, rfl⟩ | exact rfl | (exfalso; omega)
    · skip
      refine V_ld (pc := 17) dX4_note_17 (v := vi ((p * 9) + w)) rfl rfl ?_
      refine V_ld (pc := 19) dX4_note_19 (v := vr P) rfl rfl ?_
      refine V_getRv (pc := 20) dX4_note_20 (o' := A) fw_RX4_11 rfl T_P R_P_0 ?_
      refine V_alen (pc := 23) dX4_note_23 T_A (by decide) (by omega) ?_
      refine V_icmp_ge (pc := 24) dX4_note_24 (tgt := 35) rfl (fun h24 => ?_) (fun h24 => ?_)
      · skip
        refine V_retv (pc := 35) dX4_note_35 trivial ?_
        first | exact ⟨rfl, rfl⟩ | exact rfl | (exfalso; omega)
      · skip
        refine V_ld (pc := 27) dX4_note_27 (v := vr P) rfl rfl ?_
        refine V_getRv (pc := 28) dX4_note_28 (o' := A) fw_RX4_11 rfl T_P R_P_0 ?_
        refine V_ld (pc := 31) dX4_note_31 (v := vi ((p * 9) + w)) rfl rfl ?_
        refine V_ld (pc := 33) dX4_note_33 (v := vi v) rfl rfl ?_
        refine V_iast (pc := 34) dX4_note_34 T_A (by omega) ?_
        refine V_retv (pc := 35) dX4_note_35 trivial ?_
        first | exact ⟨rfl, rfl⟩ | exact rfl | (exfalso; omega)

set_option maxHeartbeats 4000000 in
theorem c_link (L : Nat) (m : Mem) (P : Nat) (p : Int) (v : Int) (A : Nat)  (T_P : mT m P = (4, 2)) (R_P_0 : mR m P 0 = some A) (T_A : mT m A = (20, L)) (hp : 0 ≤ p ∧ p * 9 + 9 ≤ (L : Int) ∧ L ≤ 2160) : Ct μX4_link 1 [vr P, vi p, vi v] m (rv fun m' => setI m A (p * 9 + 8).toNat v = m') := by
  refine Ct_of_V rfl (by decide) rfl (Nat.le_of_ble_eq_true rfl) ?_
  show V μX4_link 1 m _ 0 [(0, vr P), (1, vi p), (2, vi v)] [] m
  refine V_rg (k := 1) (x := p) rfl fun r_p => ?_
  refine V_rg (k := 2) (x := v) rfl fun r_v => ?_
  refine V_ld (pc := 0) dX4_link_0 (v := vr P) rfl rfl ?_
  refine V_ld (pc := 1) dX4_link_1 (v := vi p) rfl rfl ?_
  refine V_bipush (pc := 2) dX4_link_2 (by unfold I32; omega) (by decide) ?_
  refine V_ld (pc := 4) dX4_link_4 (v := vi v) rfl rfl ?_
  refine V_callV (pc := 5) dX4_link_5 (F' := 0) (As := [vi p, vi 8, vi v]) (st := []) cw_RX4_19 rfl rfl T_P (by decide) (Nat.le_of_ble_eq_true rfl) (by omega) (c_note L m P p 8 v A  T_P R_P_0 T_A (by first | assumption | omega)) ?_
  rintro _ _ ⟨rfl, rfl⟩ ok5 le5
  refine V_retv (pc := 8) dX4_link_8 trivial ?_
  first | exact ⟨rfl, rfl⟩ | exact rfl

theorem CTab.rd {I : Nat → Nat → Int} {A : Nat} {F : Tb} {c : Nat} {p : Int} {w : Nat} (h : CTab I A F c) (h0 : 0 ≤ p) (h1 : p < c) (hw : w < 9) : I A (p * 9 + (w : Int)).toNat = F p.toNat w := by
  rw [show (p * 9 + (w : Int)).toNat = 9 * p.toNat + w from by omega]
  exact h _ _ (by omega) hw

theorem c_factT (L : Nat) (T : Tb) (c : Nat) (wn : Nat) (m : Mem) (P : Nat) (p : Int) (w : Int) (A : Nat)  (T_P : mT m P = (4, 2)) (R_P_0 : mR m P 0 = some A) (T_A : mT m A = (20, L)) (hc : mI m P 1 = (c : Int) ∧ c * 9 ≤ L ∧ L ≤ 2160) (hT : CTab (mI m) A T c) (hp : 0 ≤ p ∧ p < (c : Int)) (hw : w = (wn : Int) ∧ wn < 9) : Ct μX4_fact 0 [vr P, vi p, vi w] m (ri fun x_ m' => (x_ = T p.toNat wn) ∧ m = m') := by
  have h := c_fact L m P p w A T_P R_P_0 T_A (by omega)
  refine Ct_mono h ?_
  rintro _ _ ⟨x, rfl, hx, rfl⟩
  refine ⟨x, rfl, ?_, rfl⟩
  rw [hx, if_pos ⟨hp.1, by omega, by omega, by omega⟩, hw.1]
  exact CTab.rd hT hp.1 hp.2 hw.2

set_option maxHeartbeats 4000000 in
theorem L_cadd1 {F : Nat} {m0 m : Mem} {post : Option AV → Mem → Prop} {P A L c : Nat} {so k nn : Int} (TP : mT m P = (4, 2)) (RP_ : mR m P 0 = some A) (TA : mT m A = (20, L)) (hcL : 9 * c + 9 ≤ L ∧ L ≤ 2160) (hF : 0 < F) (kx : V μX4_add F m0 post 57 [(5, vi ((9 : Nat) : Int)), (4, vi (c : Int)), (0, vr P), (1, vi so), (2, vi k), (3, vi nn)] [] (fillR m A (9 * c) 9 (-5))) : ∀ (dd i : Nat), dd + i = 9 → V μX4_add F m0 post 34 [(5, vi ((i : Nat) : Int)), (4, vi (c : Int)), (0, vr P), (1, vi so), (2, vi k), (3, vi nn)] [] (fillR m A (9 * c) i (-5)) := by
  intro dd
  induction dd with
  | zero =>
    intro i hi
    obtain rfl : 9 = i := by omega
    refine V_ld (pc := 34) dX4_add_34 (v := vi ((9 : Nat) : Int)) rfl rfl ?_
    refine V_bipush (pc := 36) dX4_add_36 (by unfold I32; omega) (by decide) ?_
    refine V_icmp_ge (pc := 38) dX4_add_38 (tgt := 57) rfl (fun h38 => ?_) (fun h38 => ?_)
    · skip
      first | exact kx | (skip; exact kx) | (exfalso; omega)
    · skip
      refine V_ld (pc := 41) dX4_add_41 (v := vr P) rfl rfl ?_
      refine V_ld (pc := 42) dX4_add_42 (v := vi (c : Int)) rfl rfl ?_
      refine V_ld (pc := 44) dX4_add_44 (v := vi ((9 : Nat) : Int)) rfl rfl ?_
      refine V_bipush (pc := 46) dX4_add_46 (by unfold I32; omega) (by decide) ?_
      refine V_callV (pc := 48) dX4_add_48 (F' := 0) (As := [vi (c : Int), vi ((9 : Nat) : Int), vi (-5)]) (st := []) cw_RX4_19 rfl rfl TP (by decide) (Nat.le_of_ble_eq_true rfl) hF (c_note L (fillR m A (9 * c) 9 (-5)) P (c : Int) ((9 : Nat) : Int) (-5) A  TP RP_ TA (by first | assumption | omega)) ?_
      rintro _ _ ⟨rfl, rfl⟩ ok48 le48
      refine V_iinc (pc := 51) dX4_add_51 (x := ((9 : Nat) : Int)) (ls' := [(5, vi (((9 : Nat) : Int) + 1)), (4, vi (c : Int)), (0, vr P), (1, vi so), (2, vi k), (3, vi nn)]) rfl (by unfold I32 at *; omega) (Nat.le_of_ble_eq_true rfl) rfl ?_
      refine V_goto (pc := 54) dX4_add_54 (tgt := 34) rfl ?_
      exfalso; omega
  | succ dd ih =>
    intro i hi
    refine V_ld (pc := 34) dX4_add_34 (v := vi ((i : Nat) : Int)) rfl rfl ?_
    refine V_bipush (pc := 36) dX4_add_36 (by unfold I32; omega) (by decide) ?_
    refine V_icmp_ge (pc := 38) dX4_add_38 (tgt := 57) rfl (fun h38 => ?_) (fun h38 => ?_)
    · skip
      exfalso; omega
    · skip
      refine V_ld (pc := 41) dX4_add_41 (v := vr P) rfl rfl ?_
      refine V_ld (pc := 42) dX4_add_42 (v := vi (c : Int)) rfl rfl ?_
      refine V_ld (pc := 44) dX4_add_44 (v := vi ((i : Nat) : Int)) rfl rfl ?_
      refine V_bipush (pc := 46) dX4_add_46 (by unfold I32; omega) (by decide) ?_
      refine V_callV (pc := 48) dX4_add_48 (F' := 0) (As := [vi (c : Int), vi ((i : Nat) : Int), vi (-5)]) (st := []) cw_RX4_19 rfl rfl TP (by decide) (Nat.le_of_ble_eq_true rfl) hF (c_note L (fillR m A (9 * c) i (-5)) P (c : Int) ((i : Nat) : Int) (-5) A  TP RP_ TA (by first | assumption | omega)) ?_
      rintro _ _ ⟨rfl, rfl⟩ ok48 le48
      refine V_iinc (pc := 51) dX4_add_51 (x := ((i : Nat) : Int)) (ls' := [(5, vi (((i : Nat) : Int) + 1)), (4, vi (c : Int)), (0, vr P), (1, vi so), (2, vi k), (3, vi nn)]) rfl (by unfold I32 at *; omega) (Nat.le_of_ble_eq_true rfl) rfl ?_
      refine V_goto (pc := 54) dX4_add_54 (tgt := 34) rfl ?_
      skip
      refine V_mem (fillR_s (by omega)) ?_
      exact ih (i + 1) (by omega)

set_option maxHeartbeats 4000000 in
theorem L_cadd2 {F : Nat} {m0 m : Mem} {post : Option AV → Mem → Prop} {P A L c : Nat} {so k0 nn : Int} (TP : mT m P = (4, 2)) (RP_ : mR m P 0 = some A) (TA : mT m A = (20, L)) (hPA : P ≠ A) (hF : 0 < F) (hcL : 9 * c + 9 ≤ L ∧ L ≤ 2160) : ∀ (q i : Nat) (k : Int) (G : Tb) (I : Nat → Nat → Int), CTab I A G (c + 1) → I P 1 = (c : Int) + 1 → chE G (c : Int) q k → nn = (i : Int) + (q : Int) → (∀ J k', CTab J A (wiT q k c G) (c + 1) → (∀ a p, a ≠ A → J a p = I a p) → V μX4_add F m0 post 120 [(6, vi nn), (5, vi k'), (4, vi (c : Int)), (0, vr P), (1, vi so), (2, vi k0), (3, vi nn)] [] (wI m J)) → V μX4_add F m0 post 88 [(6, vi (i : Int)), (5, vi k), (4, vi (c : Int)), (0, vr P), (1, vi so), (2, vi k0), (3, vi nn)] [] (wI m I) := by
  intro q
  induction q with
  | zero =>
    intro i k G I hT hI1 hch hn kx
    obtain rfl : nn = (i : Int) := by omega
    refine V_ld (pc := 88) dX4_add_88 (v := vi (i : Int)) rfl rfl ?_
    refine V_ld (pc := 90) dX4_add_90 (v := vi (i : Int)) rfl rfl ?_
    refine V_icmp_ge (pc := 91) dX4_add_91 (tgt := 120) rfl (fun h91 => ?_) (fun h91 => ?_)
    · skip
      skip
      exact kx I k hT (fun _ _ _ => rfl)
    · skip
      exfalso; omega
  | succ q ih =>
    intro i k G I hT hI1 hch hn kx
    refine V_rg (k := 3) (x := nn) rfl fun rnn => ?_
    obtain ⟨k0_, k1, k2⟩ := hch
    refine V_ld (pc := 88) dX4_add_88 (v := vi (i : Int)) rfl rfl ?_
    refine V_ld (pc := 90) dX4_add_90 (v := vi nn) rfl rfl ?_
    refine V_icmp_ge (pc := 91) dX4_add_91 (tgt := 120) rfl (fun h91 => ?_) (fun h91 => ?_)
    · skip
      exfalso; omega
    · skip
      refine V_ld (pc := 94) dX4_add_94 (v := vr P) rfl rfl ?_
      refine V_ld (pc := 95) dX4_add_95 (v := vi k) rfl rfl ?_
      refine V_bipush (pc := 97) dX4_add_97 (by unfold I32; omega) (by decide) ?_
      refine V_ld (pc := 99) dX4_add_99 (v := vi (c : Int)) rfl rfl ?_
      refine V_callV (pc := 101) dX4_add_101 (F' := 0) (As := [vi k, vi 6, vi (c : Int)]) (st := []) cw_RX4_19 rfl rfl TP (by decide) (Nat.le_of_ble_eq_true rfl) hF (c_note L (wI m I) P k 6 (c : Int) A  TP RP_ TA (by omega)) ?_
      rintro _ _ ⟨rfl, rfl⟩ ok101 le101
      refine V_ld (pc := 104) dX4_add_104 (v := vr P) rfl rfl ?_
      refine V_ld (pc := 105) dX4_add_105 (v := vi k) rfl rfl ?_
      refine V_bipush (pc := 107) dX4_add_107 (by unfold I32; omega) (by decide) ?_
      refine V_callV (pc := 109) dX4_add_109 (F' := 0) (As := [vi k, vi 8]) (st := []) cw_RX4_23 rfl rfl TP (by decide) (Nat.le_of_ble_eq_true rfl) hF (c_fact L (setI (wI m I) A (k * 9 + 6).toNat (c : Int)) P k 8 A  TP RP_ TA (by rw [show mI (setI (wI m I) A (k * 9 + 6).toNat (c : Int)) P 1 = (c : Int) + 1 from (up2_no hPA).trans hI1]; omega)) ?_
      rintro _ _ ⟨x109, rfl, hx109, rfl⟩ ok109 le109
      refine V_st (pc := 112) dX4_add_112 (ls' := [(5, vi x109), (6, vi (i : Int)), (4, vi (c : Int)), (0, vr P), (1, vi so), (2, vi k0), (3, vi nn)]) rfl (Nat.le_of_ble_eq_true rfl) rfl ?_
      refine V_iinc (pc := 114) dX4_add_114 (x := (i : Int)) (ls' := [(6, vi ((i : Int) + 1)), (5, vi x109), (4, vi (c : Int)), (0, vr P), (1, vi so), (2, vi k0), (3, vi nn)]) rfl (by unfold I32 at *; omega) (Nat.le_of_ble_eq_true rfl) rfl ?_
      refine V_goto (pc := 117) dX4_add_117 (tgt := 88) rfl ?_
      have hxv : x109 = G k.toNat 8 := by
        have h1_ : mI (setI (wI m I) A (k * 9 + 6).toNat (c : Int)) P 1 = (c : Int) + 1 := (up2_no hPA).trans hI1
        rw [hx109, h1_, if_pos (by omega), mI_setI]
        rw [up2_nk (by omega)]
        exact CTab.rd hT (by omega) (by omega) (by decide)
      subst hxv
      skip
      refine ih (i + 1) (G k.toNat 8) (up2 G k.toNat 6 (c : Int)) (up2 I A (k * 9 + 6).toNat (c : Int)) (CTab.wr hT (by decide) (by omega)) ((up2_no hPA).trans hI1) (chE.congr (fun p => up2_nk (by decide)) k2) (by omega) (fun J k' h1 h2 => kx J k' h1 (fun a p ha => (h2 a p ha).trans (up2_no ha)))

set_option maxHeartbeats 4000000 in
theorem c_add (L : Nat) (T : Tb) (c : Nat) (q : Nat) (g : Nat → Int) (m : Mem) (P : Nat) (so : Int) (k : Int) (nn : Int) (A : Nat)  (T_P : mT m P = (4, 2)) (R_P_0 : mR m P 0 = some A) (T_A : mT m A = (20, L)) (hne : P ≠ A) (hc : mI m P 1 = (c : Int) ∧ 9 * c + 9 ≤ L ∧ L ≤ 2160) (hT : CTab (mI m) A T c) (hch : chE T (c : Int) q k) (hn : nn = (q : Int)) : Ct μX4_add 1 [vr P, vi so, vi k, vi nn] m (ri fun x_ m' => ∃ I_ : Nat → Nat → Int, wI m I_ = m' ∧ (x_ = (c : Int)) ∧ CTab I_ A (wiT q k c (mkT T c so (-5) (q : Int) k g)) (c + 1) ∧ I_ P 1 = (c : Int) + 1 ∧ ∀ a p, a ≠ A → ¬ (a = P ∧ p = 1) → I_ a p = mI m a p) := by
  refine Ct_of_V rfl (by decide) rfl (Nat.le_of_ble_eq_true rfl) ?_
  show V μX4_add 1 m _ 0 [(0, vr P), (1, vi so), (2, vi k), (3, vi nn)] [] m
  refine V_rg (k := 1) (x := so) rfl fun r_so => ?_
  refine V_rg (k := 2) (x := k) rfl fun r_k => ?_
  refine V_rg (k := 3) (x := nn) rfl fun r_nn => ?_
  refine V_ld (pc := 0) dX4_add_0 (v := vr P) rfl rfl ?_
  refine V_getIv (pc := 1) dX4_add_1 (v := (c : Int)) fw_RX4_15 rfl T_P hc.1 (fun g1 => ?_)
  refine V_st (pc := 4) dX4_add_4 (ls' := [(4, vi (c : Int)), (0, vr P), (1, vi so), (2, vi k), (3, vi nn)]) rfl (Nat.le_of_ble_eq_true rfl) rfl ?_
  refine V_ld (pc := 6) dX4_add_6 (v := vr P) rfl rfl ?_
  refine V_getRv (pc := 7) dX4_add_7 (o' := A) fw_RX4_11 rfl T_P R_P_0 ?_
  refine V_alen (pc := 10) dX4_add_10 T_A (by decide) (by omega) ?_
  refine V_bipush (pc := 11) dX4_add_11 (by unfold I32; omega) (by decide) ?_
  refine V_idiv (pc := 13) dX4_add_13 (by omega) (by omega) ?_
  refine V_ld (pc := 14) dX4_add_14 (v := vi (c : Int)) rfl rfl ?_
  refine V_icmp_gt (pc := 16) dX4_add_16 (tgt := 21) rfl (fun h16 => ?_) (fun h16 => ?_)
  · skip
    refine V_ld (pc := 21) dX4_add_21 (v := vr P) rfl rfl ?_
    refine V_dup (pc := 22) dX4_add_22 rfl ?_
    refine V_getIv (pc := 23) dX4_add_23 (v := (c : Int)) fw_RX4_15 rfl T_P hc.1 (fun g23 => ?_)
    refine V_iconst (pc := 26) dX4_add_26 (by unfold I32; omega) ?_
    refine V_iadd (pc := 27) dX4_add_27 (by unfold I32 at *; omega) ?_
    refine V_putI (pc := 28) dX4_add_28 fw_RX4_15 rfl T_P (Or.inl rfl) (Or.inl rfl) ?_
    refine V_iconst (pc := 31) dX4_add_31 (by unfold I32; omega) ?_
    refine V_st (pc := 32) dX4_add_32 (ls' := [(5, vi 0), (4, vi (c : Int)), (0, vr P), (1, vi so), (2, vi k), (3, vi nn)]) rfl (Nat.le_of_ble_eq_true rfl) rfl ?_
    refine V_ls (ls' := [(5, vi ((0 : Nat) : Int)), (4, vi (c : Int)), (0, vr P), (1, vi so), (2, vi k), (3, vi nn)]) (by intro q_ h_; simp only [List.mem_cons, List.not_mem_nil, or_false] at h_ ⊢; rcases h_ with rfl | rfl | rfl | rfl | rfl | rfl <;> simp) ?_
    refine V_mem (fillR_0 (a := A) (lo := 9 * c) (v := -5)).symm ?_
    refine L_cadd1 (m := setI m P 1 ((c : Int) + 1)) (P := P) (A := A) (L := L) (c := c) (so := so) (k := k) (nn := nn) T_P R_P_0 T_A hc.2 (by omega) ?_ 9 0 (by omega)
    refine V_ld (pc := 57) dX4_add_57 (v := vr P) rfl rfl ?_
    refine V_ld (pc := 58) dX4_add_58 (v := vi (c : Int)) rfl rfl ?_
    refine V_iconst (pc := 60) dX4_add_60 (by unfold I32; omega) ?_
    refine V_ld (pc := 61) dX4_add_61 (v := vi so) rfl rfl ?_
    refine V_callV (pc := 62) dX4_add_62 (F' := 0) (As := [vi (c : Int), vi 0, vi so]) (st := []) cw_RX4_19 rfl rfl T_P (by decide) (Nat.le_of_ble_eq_true rfl) (by omega) (c_note L (fillR (setI m P 1 ((c : Int) + 1)) A (9 * c) 9 (-5)) P (c : Int) 0 so A  T_P R_P_0 T_A (by omega)) ?_
    rintro _ _ ⟨rfl, rfl⟩ ok62 le62
    refine V_ld (pc := 65) dX4_add_65 (v := vr P) rfl rfl ?_
    refine V_ld (pc := 66) dX4_add_66 (v := vi (c : Int)) rfl rfl ?_
    refine V_iconst (pc := 68) dX4_add_68 (by unfold I32; omega) ?_
    refine V_ld (pc := 69) dX4_add_69 (v := vi nn) rfl rfl ?_
    refine V_callV (pc := 70) dX4_add_70 (F' := 0) (As := [vi (c : Int), vi 2, vi nn]) (st := []) cw_RX4_19 rfl rfl T_P (by decide) (Nat.le_of_ble_eq_true rfl) (by omega) (c_note L (setI (fillR (setI m P 1 ((c : Int) + 1)) A (9 * c) 9 (-5)) A ((c : Int) * 9 + 0).toNat so) P (c : Int) 2 nn A  T_P R_P_0 T_A (by omega)) ?_
    rintro _ _ ⟨rfl, rfl⟩ ok70 le70
    refine V_ld (pc := 73) dX4_add_73 (v := vr P) rfl rfl ?_
    refine V_ld (pc := 74) dX4_add_74 (v := vi (c : Int)) rfl rfl ?_
    refine V_bipush (pc := 76) dX4_add_76 (by unfold I32; omega) (by decide) ?_
    refine V_ld (pc := 78) dX4_add_78 (v := vi k) rfl rfl ?_
    refine V_callV (pc := 79) dX4_add_79 (F' := 0) (As := [vi (c : Int), vi 7, vi k]) (st := []) cw_RX4_19 rfl rfl T_P (by decide) (Nat.le_of_ble_eq_true rfl) (by omega) (c_note L (setI (setI (fillR (setI m P 1 ((c : Int) + 1)) A (9 * c) 9 (-5)) A ((c : Int) * 9 + 0).toNat so) A ((c : Int) * 9 + 2).toNat nn) P (c : Int) 7 k A  T_P R_P_0 T_A (by omega)) ?_
    rintro _ _ ⟨rfl, rfl⟩ ok79 le79
    refine V_ld (pc := 82) dX4_add_82 (v := vi k) rfl rfl ?_
    refine V_st (pc := 83) dX4_add_83 (ls' := [(5, vi k), (4, vi (c : Int)), (0, vr P), (1, vi so), (2, vi k), (3, vi nn)]) rfl (Nat.le_of_ble_eq_true rfl) rfl ?_
    refine V_iconst (pc := 85) dX4_add_85 (by unfold I32; omega) ?_
    refine V_st (pc := 86) dX4_add_86 (ls' := [(6, vi 0), (5, vi k), (4, vi (c : Int)), (0, vr P), (1, vi so), (2, vi k), (3, vi nn)]) rfl (Nat.le_of_ble_eq_true rfl) rfl ?_
    have hP1 : mI (setI (setI (setI (fillR (setI m P 1 ((c : Int) + 1)) A (9 * c) 9 (-5)) A ((c : Int) * 9 + 0).toNat so) A ((c : Int) * 9 + 2).toNat nn) A ((c : Int) * 9 + 7).toNat k) P 1 = (c : Int) + 1 := by
      refine (up2_no hne).trans ((up2_no hne).trans ((up2_no hne).trans ?_))
      rw [mI_fillR, if_neg (fun h => hne h.1)]
      exact up2_s
    have hT2 : CTab (mI (setI (setI (setI (fillR (setI m P 1 ((c : Int) + 1)) A (9 * c) 9 (-5)) A ((c : Int) * 9 + 0).toNat so) A ((c : Int) * 9 + 2).toNat nn) A ((c : Int) * 9 + 7).toNat k)) A (mkT T c so (-5) nn k g) (c + 1) := by
      intro p w hp hw
      by_cases e : p = c
      · subst e
        have e9 : w = 0 ∨ w = 1 ∨ w = 2 ∨ w = 3 ∨ w = 4 ∨ w = 5 ∨ w = 6 ∨ w = 7 ∨ w = 8 := by omega
        simp only [mI_setI, up2, mI_fillR, mkT]
        rcases e9 with rfl | rfl | rfl | rfl | rfl | rfl | rfl | rfl | rfl <;> simp <;> omega
      · rw [mkT_ne e, mI_setI, up2_nk (by omega), mI_setI, up2_nk (by omega), mI_setI, up2_nk (by omega), mI_fillR, if_neg (by omega), mI_setI, up2_no (Ne.symm hne)]
        exact hT p w (by omega) hw
    have hT3 : CTab (mI (setI (setI (setI (fillR (setI m P 1 ((c : Int) + 1)) A (9 * c) 9 (-5)) A ((c : Int) * 9 + 0).toNat so) A ((c : Int) * 9 + 2).toNat nn) A ((c : Int) * 9 + 7).toNat k)) A (mkT T c so (-5) (q : Int) k g) (c + 1) := by
      rw [← hn]; exact hT2
    refine V_mem (m' := wI m (mI (setI (setI (setI (fillR (setI m P 1 ((c : Int) + 1)) A (9 * c) 9 (-5)) A ((c : Int) * 9 + 0).toNat so) A ((c : Int) * 9 + 2).toNat nn) A ((c : Int) * 9 + 7).toNat k))) rfl ?_
    refine V_ls (ls' := [(6, vi ((0 : Nat) : Int)), (5, vi k), (4, vi (c : Int)), (0, vr P), (1, vi so), (2, vi k), (3, vi nn)]) (by intro q_ h_; simp only [List.mem_cons, List.not_mem_nil, or_false] at h_ ⊢; rcases h_ with rfl | rfl | rfl | rfl | rfl | rfl | rfl <;> simp) ?_
    refine L_cadd2 (m := m) (P := P) (A := A) (L := L) (c := c) (so := so) (k0 := k) (nn := nn) T_P R_P_0 T_A hne (by omega) hc.2 q 0 k _ _ hT3 hP1 (chE.congr' hch) (by omega) ?_
    intro J k' hJ hF
    refine V_ld (pc := 120) dX4_add_120 (v := vi (c : Int)) rfl rfl ?_
    refine V_reti (pc := 122) dX4_add_122 trivial ?_
    refine ⟨J, rfl, rfl, hJ, ?_, ?_⟩
    · rw [hF P 1 hne]; exact hP1
    · intro a p h1 h2
      rw [hF a p h1, mI_setI, up2_no h1, mI_setI, up2_no h1, mI_setI, up2_no h1, mI_fillR, if_neg (fun h => h1 h.1), mI_setI]
      exact if_neg h2
  · skip
    exfalso; omega

set_option maxHeartbeats 4000000 in
theorem c_addLeaf (L : Nat) (T : Tb) (c : Nat) (g : Nat → Int) (m : Mem) (P : Nat) (so : Int) (le : Int) (A : Nat)  (T_P : mT m P = (4, 2)) (R_P_0 : mR m P 0 = some A) (T_A : mT m A = (20, L)) (hne : P ≠ A) (hc : mI m P 1 = (c : Int) ∧ 9 * c + 9 ≤ L ∧ L ≤ 2160) (hT : CTab (mI m) A T c) : Ct μX4_addLeaf 2 [vr P, vi so, vi le] m (ri fun x_ m' => ∃ I_ : Nat → Nat → Int, wI m I_ = m' ∧ (x_ = (c : Int)) ∧ CTab I_ A (mkT T c so le 0 (-5) g) (c + 1) ∧ I_ P 1 = (c : Int) + 1 ∧ ∀ a p, a ≠ A → ¬ (a = P ∧ p = 1) → I_ a p = mI m a p) := by
  refine Ct_of_V rfl (by decide) rfl (Nat.le_of_ble_eq_true rfl) ?_
  show V μX4_addLeaf 2 m _ 0 [(0, vr P), (1, vi so), (2, vi le)] [] m
  refine V_rg (k := 1) (x := so) rfl fun r_so => ?_
  refine V_rg (k := 2) (x := le) rfl fun r_le => ?_
  refine V_ld (pc := 0) dX4_addLeaf_0 (v := vr P) rfl rfl ?_
  refine V_ld (pc := 1) dX4_addLeaf_1 (v := vi so) rfl rfl ?_
  refine V_bipush (pc := 2) dX4_addLeaf_2 (by unfold I32; omega) (by decide) ?_
  refine V_iconst (pc := 4) dX4_addLeaf_4 (by unfold I32; omega) ?_
  refine V_callV (pc := 5) dX4_addLeaf_5 (F' := 1) (As := [vi so, vi (-5), vi 0]) (st := []) cw_RX4_27 rfl rfl T_P (by decide) (Nat.le_of_ble_eq_true rfl) (by omega) (c_add L T c 0 g m P so (-5) 0 A  T_P R_P_0 T_A (by first | assumption | omega) (by first | assumption | omega) (by first | assumption | omega) rfl rfl) ?_
  rintro _ _ ⟨x5, rfl, Ix5, rfl, rfl, hT5, hc5, hF5⟩ ok5 le5
  refine V_st (pc := 8) dX4_addLeaf_8 (ls' := [(3, vi (c : Int)), (0, vr P), (1, vi so), (2, vi le)]) rfl (Nat.le_of_ble_eq_true rfl) rfl ?_
  refine V_ld (pc := 9) dX4_addLeaf_9 (v := vr P) rfl rfl ?_
  refine V_ld (pc := 10) dX4_addLeaf_10 (v := vi (c : Int)) rfl rfl ?_
  refine V_iconst (pc := 11) dX4_addLeaf_11 (by unfold I32; omega) ?_
  refine V_ld (pc := 12) dX4_addLeaf_12 (v := vi le) rfl rfl ?_
  refine V_callV (pc := 13) dX4_addLeaf_13 (F' := 0) (As := [vi (c : Int), vi 1, vi le]) (st := []) cw_RX4_19 rfl rfl T_P (by decide) (Nat.le_of_ble_eq_true rfl) (by omega) (c_note L (wI m Ix5) P (c : Int) 1 le A  T_P R_P_0 T_A (by omega)) ?_
  rintro _ _ ⟨rfl, rfl⟩ ok13 le13
  refine V_ld (pc := 16) dX4_addLeaf_16 (v := vi (c : Int)) rfl rfl ?_
  refine V_reti (pc := 17) dX4_addLeaf_17 trivial ?_
  refine ⟨mI (setI (wI m Ix5) A ((c : Int) * 9 + 1).toNat le), rfl, rfl, ?_, ?_, ?_⟩
  · intro p w hp hw
    have h0 := hT5 p w hp hw
    by_cases e : p = c
    · subst e
      have e9 : w = 0 ∨ w = 1 ∨ w = 2 ∨ w = 3 ∨ w = 4 ∨ w = 5 ∨ w = 6 ∨ w = 7 ∨ w = 8 := by omega
      rw [mI_setI]
      rcases e9 with rfl | rfl | rfl | rfl | rfl | rfl | rfl | rfl | rfl
      · rw [up2_nk (by omega)]; exact h0
      · rw [show (p : Int) * 9 + 1 = ((9 * p + 1 : Nat) : Int) from by omega, Int.toNat_natCast, up2_s]; simp [mkT]
      · rw [up2_nk (by omega)]; exact h0
      · rw [up2_nk (by omega)]; exact h0
      · rw [up2_nk (by omega)]; exact h0
      · rw [up2_nk (by omega)]; exact h0
      · rw [up2_nk (by omega)]; exact h0
      · rw [up2_nk (by omega)]; exact h0
      · rw [up2_nk (by omega)]; exact h0
    · rw [mI_setI, up2_nk (by omega)]
      rw [mkT_ne e]
      exact h0.trans (mkT_ne e)
  · rw [mI_setI, up2_no hne]; exact hc5
  · intro a p h1 h2
    rw [mI_setI, up2_no h1]; exact hF5 a p h1 h2

set_option maxHeartbeats 4000000 in
theorem c_addRep (L : Nat) (T : Tb) (c : Nat) (g : Nat → Int) (m : Mem) (P : Nat) (k : Int) (lo : Int) (hi : Int) (mo : Int) (A : Nat)  (T_P : mT m P = (4, 2)) (R_P_0 : mR m P 0 = some A) (T_A : mT m A = (20, L)) (hne : P ≠ A) (hc : mI m P 1 = (c : Int) ∧ 9 * c + 9 ≤ L ∧ L ≤ 2160) (hT : CTab (mI m) A T c) (hch : chE T (c : Int) 1 k) : Ct μX4_addRepetition 2 [vr P, vi k, vi lo, vi hi, vi mo] m (ri fun x_ m' => ∃ I_ : Nat → Nat → Int, wI m I_ = m' ∧ (x_ = (c : Int)) ∧ CTab I_ A (up2 (up2 (up2 (wiT 1 k c (mkT T c 5 (-5) ((1 : Nat) : Int) k g)) c 3 lo) c 4 hi) c 5 mo) (c + 1) ∧ I_ P 1 = (c : Int) + 1 ∧ ∀ a p, a ≠ A → ¬ (a = P ∧ p = 1) → I_ a p = mI m a p) := by
  refine Ct_of_V rfl (by decide) rfl (Nat.le_of_ble_eq_true rfl) ?_
  show V μX4_addRepetition 2 m _ 0 [(0, vr P), (1, vi k), (2, vi lo), (3, vi hi), (4, vi mo)] [] m
  refine V_rg (k := 1) (x := k) rfl fun r_k => ?_
  refine V_rg (k := 2) (x := lo) rfl fun r_lo => ?_
  refine V_rg (k := 3) (x := hi) rfl fun r_hi => ?_
  refine V_rg (k := 4) (x := mo) rfl fun r_mo => ?_
  refine V_ld (pc := 0) dX4_addRepetition_0 (v := vr P) rfl rfl ?_
  refine V_iconst (pc := 1) dX4_addRepetition_1 (by unfold I32; omega) ?_
  refine V_ld (pc := 2) dX4_addRepetition_2 (v := vi k) rfl rfl ?_
  refine V_iconst (pc := 3) dX4_addRepetition_3 (by unfold I32; omega) ?_
  refine V_callV (pc := 4) dX4_addRepetition_4 (F' := 1) (As := [vi 5, vi k, vi 1]) (st := []) cw_RX4_27 rfl rfl T_P (by decide) (Nat.le_of_ble_eq_true rfl) (by omega) (c_add L T c 1 g m P 5 k 1 A  T_P R_P_0 T_A (by first | assumption | omega) (by first | assumption | omega) (by first | assumption | omega) hch rfl) ?_
  rintro _ _ ⟨x4, rfl, Ix4, rfl, rfl, hT4, hc4, hF4⟩ ok4 le4
  refine V_st (pc := 7) dX4_addRepetition_7 (ls' := [(5, vi (c : Int)), (0, vr P), (1, vi k), (2, vi lo), (3, vi hi), (4, vi mo)]) rfl (Nat.le_of_ble_eq_true rfl) rfl ?_
  refine V_ld (pc := 9) dX4_addRepetition_9 (v := vr P) rfl rfl ?_
  refine V_ld (pc := 10) dX4_addRepetition_10 (v := vi (c : Int)) rfl rfl ?_
  refine V_iconst (pc := 12) dX4_addRepetition_12 (by unfold I32; omega) ?_
  refine V_ld (pc := 13) dX4_addRepetition_13 (v := vi lo) rfl rfl ?_
  refine V_callV (pc := 14) dX4_addRepetition_14 (F' := 0) (As := [vi (c : Int), vi 3, vi lo]) (st := []) cw_RX4_19 rfl rfl T_P (by decide) (Nat.le_of_ble_eq_true rfl) (by omega) (c_note L (wI m Ix4) P (c : Int) 3 lo A  T_P R_P_0 T_A (by omega)) ?_
  rintro _ _ ⟨rfl, rfl⟩ ok14 le14
  refine V_ld (pc := 17) dX4_addRepetition_17 (v := vr P) rfl rfl ?_
  refine V_ld (pc := 18) dX4_addRepetition_18 (v := vi (c : Int)) rfl rfl ?_
  refine V_iconst (pc := 20) dX4_addRepetition_20 (by unfold I32; omega) ?_
  refine V_ld (pc := 21) dX4_addRepetition_21 (v := vi hi) rfl rfl ?_
  refine V_callV (pc := 22) dX4_addRepetition_22 (F' := 0) (As := [vi (c : Int), vi 4, vi hi]) (st := []) cw_RX4_19 rfl rfl T_P (by decide) (Nat.le_of_ble_eq_true rfl) (by omega) (c_note L (setI (wI m Ix4) A ((c : Int) * 9 + 3).toNat lo) P (c : Int) 4 hi A  T_P R_P_0 T_A (by omega)) ?_
  rintro _ _ ⟨rfl, rfl⟩ ok22 le22
  refine V_ld (pc := 25) dX4_addRepetition_25 (v := vr P) rfl rfl ?_
  refine V_ld (pc := 26) dX4_addRepetition_26 (v := vi (c : Int)) rfl rfl ?_
  refine V_iconst (pc := 28) dX4_addRepetition_28 (by unfold I32; omega) ?_
  refine V_ld (pc := 29) dX4_addRepetition_29 (v := vi mo) rfl rfl ?_
  refine V_callV (pc := 31) dX4_addRepetition_31 (F' := 0) (As := [vi (c : Int), vi 5, vi mo]) (st := []) cw_RX4_19 rfl rfl T_P (by decide) (Nat.le_of_ble_eq_true rfl) (by omega) (c_note L (setI (setI (wI m Ix4) A ((c : Int) * 9 + 3).toNat lo) A ((c : Int) * 9 + 4).toNat hi) P (c : Int) 5 mo A  T_P R_P_0 T_A (by omega)) ?_
  rintro _ _ ⟨rfl, rfl⟩ ok31 le31
  refine V_ld (pc := 34) dX4_addRepetition_34 (v := vi (c : Int)) rfl rfl ?_
  refine V_reti (pc := 36) dX4_addRepetition_36 trivial ?_
  refine ⟨mI (setI (setI (setI (wI m Ix4) A ((c : Int) * 9 + 3).toNat lo) A ((c : Int) * 9 + 4).toNat hi) A ((c : Int) * 9 + 5).toNat mo), rfl, rfl, ?_, ?_, ?_⟩
  · exact CTab.wr (CTab.wr (CTab.wr hT4 (by decide) (by omega)) (by decide) (by omega)) (by decide) (by omega)
  · rw [mI_setI, up2_no hne, mI_setI, up2_no hne, mI_setI, up2_no hne]; exact hc4
  · intro a p h1 h2
    rw [mI_setI, up2_no h1, mI_setI, up2_no h1, mI_setI, up2_no h1]; exact hF4 a p h1 h2
