/-! spell(): the class writes what is inside a part -/
def CWr (L : Nat) (T : Tb) (c f : Nat) : Prop := ∀ (m : Mem) (P : Nat) (p : Int) (d : Int) (A : Nat)  (hL : Lay (mT m) (mR m)) (T_P : mT m P = (4, 2)) (R_P_0 : mR m P 0 = some A) (T_A : mT m A = (20, L)) (hc : mI m P 1 = (c : Int) ∧ c * 9 ≤ L ∧ L ≤ 2160) (hT : CTab (mI m) A T c) (hp : 0 ≤ p ∧ p < (c : Int)) (h59 : 59 ≤ P ∧ 59 ≤ A) (hh : T p.toNat 10 < (f : Int)) (hd : 0 ≤ d ∧ d + (f : Int) ≤ 41) (hr : 0 ≤ mI m 15 1 ∧ mI m 15 1 + T p.toNat 11 ≤ 120), Ct μX4_writePart (2 * f + 2) [vr P, vi p, vr 15, vi d] m (rv fun m' => apM 15 1 16 m (splF T f p.toNat) = m')

set_option maxHeartbeats 8000000 in
theorem L_wi {F : Nat} {m0 m : Mem} {post : Option AV → Mem → Prop} {P A L c f q : Nat} {T : Tb} {p sp d : Int} (hF : 2 * f + 2 < F) (hL : Lay (mT m) (mR m)) (TP : mT m P = (4, 2)) (RP_ : mR m P 0 = some A) (TA : mT m A = (20, L)) (hc : mI m P 1 = (c : Int) ∧ c * 9 ≤ L ∧ L ≤ 2160) (hT : CTab (mI m) A T c) (hp : 0 ≤ p ∧ p < (c : Int)) (h59 : 59 ≤ P ∧ 59 ≤ A) (hW : WfT T 0 c) (hsub : CWr L T c f) (hd : 0 ≤ d ∧ d + 1 + (f : Int) ≤ 41) (hsp : (if sp = -1 then [] else [sp]) = sepS (T p.toNat 0)) (h0 : 0 ≤ mI m 15 1) (hq : q ≤ 1000) : ∀ (r i : Nat) (k : Int) (w : List Int), i + r = q → (r = 0 ∨ ∃ l, Pth T ((0 : Nat) : Int) (p.toNat : Nat) r k l) → mxC T 10 r k < (f : Int) → mI m 15 1 + (w.length : Int) + (((kidS T (splF T f) (T p.toNat 0) (decide (i = 0)) r k).length : Nat) : Int) ≤ 120 → (∀ ls, V μX4_writeInner F m0 post 112 ls [] (apM 15 1 16 m (w ++ (kidS T (splF T f) (T p.toNat 0) (decide (i = 0)) r k)))) → V μX4_writeInner F m0 post 20 [(7, vi (i : Int)), (6, vi (q : Int)), (5, vi k), (0, vr P), (1, vi p), (2, vi sp), (3, vr 15), (4, vi d)] [] (apM 15 1 16 m w) := by
  intro r
  induction r with
  | zero =>
    intro i k w hi hP hm hr kx
    refine V_ld (pc := 20) dX4_writeInner_20 (v := vi (i : Int)) rfl rfl ?_
    refine V_ld (pc := 22) dX4_writeInner_22 (v := vi (q : Int)) rfl rfl ?_
    refine V_icmp_ge (pc := 24) dX4_writeInner_24 (tgt := 112) rfl (fun h24 => ?_) (fun h24 => ?_)
    · skip
      have h_ := kx [(7, vi (i : Int)), (6, vi (q : Int)), (5, vi k), (0, vr P), (1, vi p), (2, vi sp), (3, vr 15), (4, vi d)]
      rw [show w ++ kidS T (splF T f) (T p.toNat 0) (decide (i = 0)) 0 k = w from List.append_nil w] at h_
      exact h_
    · skip
      exfalso; omega
  | succ r ih =>
    intro i k w hi hP hm hr kx
    obtain ⟨l, hP⟩ := hP.resolve_left (by omega)
    have hb := Pth.bd hP
    have hm' : max (T k.toNat 10) (mxC T 10 r (T k.toNat 8)) < (f : Int) := hm
    have hP2 : r = 0 ∨ ∃ l, Pth T ((0 : Nat) : Int) (p.toNat : Nat) r (T k.toNat 8) l := by
      cases r with
      | zero => exact Or.inl rfl
      | succ r => exact Or.inr ⟨l, hP.2.2.2⟩
    have hdec : decide (i + 1 = 0) = false := decide_eq_false (by omega)
    have hKS : kidS T (splF T f) (T p.toNat 0) (decide (i = 0)) (r + 1) k = (if i = 0 then [] else (if sp = -1 then [] else [sp])) ++ ((if needB (T p.toNat 0) (T k.toNat 0) then [40] else []) ++ (splF T f k.toNat ++ ((if needB (T p.toNat 0) (T k.toNat 0) then [41] else []) ++ kidS T (splF T f) (T p.toNat 0) false r (T k.toNat 8)))) := by
      show (if decide (i = 0) = true then [] else sepS (T p.toNat 0)) ++ _ = _
      rw [← hsp]
      by_cases c : i = 0
      · rw [if_pos (decide_eq_true c), if_pos c]
      · rw [if_neg (by rw [decide_eq_false c]; decide), if_neg c]
    have hlen := splF_len hW f k.toNat (by omega) (by omega)
    rw [hKS] at hr
    simp only [List.length_append, Int.natCast_add] at hr
    have hl1 : (((if i = 0 then [] else (if sp = -1 then ([] : List Int) else [sp])).length : Nat) : Int) = if i = 0 then 0 else if sp = -1 then 0 else 1 := by
      by_cases c1 : i = 0
      · rw [if_pos c1, if_pos c1]; rfl
      · rw [if_neg c1, if_neg c1]
        by_cases c2 : sp = -1
        · rw [if_pos c2, if_pos c2]; rfl
        · rw [if_neg c2, if_neg c2]; rfl
    have hl2 : ∀ x : Int, (((if needB (T p.toNat 0) (T k.toNat 0) then [x] else []).length : Nat) : Int) = if needB (T p.toNat 0) (T k.toNat 0) then 1 else 0 := fun x => by
      by_cases c : needB (T p.toNat 0) (T k.toNat 0)
      · rw [if_pos c, if_pos c]; rfl
      · rw [if_neg c, if_neg c]; rfl
    rw [hl1, hl2, hl2] at hr
    refine V_ld (pc := 20) dX4_writeInner_20 (v := vi (i : Int)) rfl rfl ?_
    refine V_ld (pc := 22) dX4_writeInner_22 (v := vi (q : Int)) rfl rfl ?_
    refine V_icmp_ge (pc := 24) dX4_writeInner_24 (tgt := 112) rfl (fun h24 => ?_) (fun h24 => ?_)
    · skip
      exfalso; omega
    · skip
      refine V_ld (pc := 27) dX4_writeInner_27 (v := vi (i : Int)) rfl rfl ?_
      refine V_if_le (pc := 29) dX4_writeInner_29 (tgt := 43) rfl (fun h29 => ?_) (fun h29 => ?_)
      · skip
        refine V_ld (pc := 43) dX4_writeInner_43 (v := vr P) rfl rfl ?_
        refine V_ld (pc := 44) dX4_writeInner_44 (v := vi p) rfl rfl ?_
        refine V_iconst (pc := 45) dX4_writeInner_45 (by unfold I32; omega) ?_
        refine V_callV (pc := 46) dX4_writeInner_46 (F' := 0) (As := [vi p, vi 0]) (st := []) cw_RX4_23 rfl rfl TP (by decide) (Nat.le_of_ble_eq_true rfl) (by omega) (c_factT L T c 0 (apM 15 1 16 m w) P p 0 A  TP RP_ TA (by (repeat rw [apM_ne (by omega) (by omega)]); exact hc) (fun p_ w_ h1_ h2_ => by (repeat rw [apM_ne (by omega) (by omega)]); exact hT p_ w_ h1_ h2_) hp ⟨by decide, by decide⟩) ?_
        rintro _ _ ⟨x46, rfl, rfl, rfl⟩ ok46 le46
        refine V_ld (pc := 49) dX4_writeInner_49 (v := vr P) rfl rfl ?_
        refine V_ld (pc := 50) dX4_writeInner_50 (v := vi k) rfl rfl ?_
        refine V_iconst (pc := 52) dX4_writeInner_52 (by unfold I32; omega) ?_
        refine V_callV (pc := 53) dX4_writeInner_53 (F' := 0) (As := [vi k, vi 0]) (st := [vi (T p.toNat 0)]) cw_RX4_23 rfl rfl TP (by decide) (Nat.le_of_ble_eq_true rfl) (by omega) (c_factT L T c 0 (apM 15 1 16 m w) P k 0 A  TP RP_ TA (by (repeat rw [apM_ne (by omega) (by omega)]); exact hc) (fun p_ w_ h1_ h2_ => by (repeat rw [apM_ne (by omega) (by omega)]); exact hT p_ w_ h1_ h2_) ⟨by omega, by omega⟩ ⟨by decide, by decide⟩) ?_
        rintro _ _ ⟨x53, rfl, rfl, rfl⟩ ok53 le53
        refine V_callS (pc := 56) dX4_writeInner_56 (F' := 0) (As := [vi (T p.toNat 0), vi (T k.toNat 0)]) (st := []) cw_RX4_48 rfl rfl (Nat.le_of_ble_eq_true rfl) (by omega) (c_needs  (apM 15 1 16 m w) (T p.toNat 0) (T k.toNat 0)   ) ?_
        rintro _ _ ⟨x56, rfl, hx56, rfl⟩ ok56 le56
        refine V_st (pc := 59) dX4_writeInner_59 (ls' := [(8, vi x56), (7, vi (i : Int)), (6, vi (q : Int)), (5, vi k), (0, vr P), (1, vi p), (2, vi sp), (3, vr 15), (4, vi d)]) rfl (Nat.le_of_ble_eq_true rfl) rfl ?_
        refine V_ld (pc := 61) dX4_writeInner_61 (v := vi x56) rfl rfl ?_
        refine V_if_eq (pc := 63) dX4_writeInner_63 (tgt := 73) rfl (fun h63 => ?_) (fun h63 => ?_)
        · skip
          refine V_ld (pc := 73) dX4_writeInner_73 (v := vr P) rfl rfl ?_
          refine V_ld (pc := 74) dX4_writeInner_74 (v := vi k) rfl rfl ?_
          refine V_ld (pc := 76) dX4_writeInner_76 (v := vr 15) rfl rfl ?_
          refine V_ld (pc := 77) dX4_writeInner_77 (v := vi d) rfl rfl ?_
          refine V_iconst (pc := 79) dX4_writeInner_79 (by unfold I32; omega) ?_
          refine V_iadd (pc := 80) dX4_writeInner_80 (by unfold I32 at *; omega) ?_
          refine V_callV (pc := 81) dX4_writeInner_81 (F' := (2 * f + 2)) (As := [vi k, vr 15, vi (d + 1)]) (st := []) cw_RX4_31 rfl rfl TP (by decide) (Nat.le_of_ble_eq_true rfl) (by omega) (hsub  (apM 15 1 16 m w) P k (d + 1) A  (by first | assumption | omega) TP RP_ TA (by (repeat rw [apM_ne (by omega) (by omega)]); exact hc) (fun p_ w_ h1_ h2_ => by (repeat rw [apM_ne (by omega) (by omega)]); exact hT p_ w_ h1_ h2_) ⟨by omega, by omega⟩ h59 (by omega) ⟨by omega, by omega⟩ (by (try simp only [apM_sz, List.length_cons, List.length_nil]); omega)) ?_
          rintro _ _ ⟨rfl, rfl⟩ ok81 le81
          refine V_ld (pc := 84) dX4_writeInner_84 (v := vi x56) rfl rfl ?_
          refine V_if_eq (pc := 86) dX4_writeInner_86 (tgt := 96) rfl (fun h86 => ?_) (fun h86 => ?_)
          · skip
            refine V_ld (pc := 96) dX4_writeInner_96 (v := vr P) rfl rfl ?_
            refine V_ld (pc := 97) dX4_writeInner_97 (v := vi k) rfl rfl ?_
            refine V_bipush (pc := 99) dX4_writeInner_99 (by unfold I32; omega) (by decide) ?_
            refine V_callV (pc := 101) dX4_writeInner_101 (F' := 0) (As := [vi k, vi 8]) (st := []) cw_RX4_23 rfl rfl TP (by decide) (Nat.le_of_ble_eq_true rfl) (by omega) (c_factT L T c 8 (apM 15 1 16 (apM 15 1 16 m w) (splF T f k.toNat)) P k 8 A  TP RP_ TA (by (repeat rw [apM_ne (by omega) (by omega)]); exact hc) (fun p_ w_ h1_ h2_ => by (repeat rw [apM_ne (by omega) (by omega)]); exact hT p_ w_ h1_ h2_) ⟨by omega, by omega⟩ ⟨by decide, by decide⟩) ?_
            rintro _ _ ⟨x101, rfl, rfl, rfl⟩ ok101 le101
            refine V_st (pc := 104) dX4_writeInner_104 (ls' := [(5, vi (T k.toNat 8)), (8, vi x56), (7, vi (i : Int)), (6, vi (q : Int)), (0, vr P), (1, vi p), (2, vi sp), (3, vr 15), (4, vi d)]) rfl (Nat.le_of_ble_eq_true rfl) rfl ?_
            refine V_iinc (pc := 106) dX4_writeInner_106 (x := (i : Int)) (ls' := [(7, vi ((i : Int) + 1)), (5, vi (T k.toNat 8)), (8, vi x56), (6, vi (q : Int)), (0, vr P), (1, vi p), (2, vi sp), (3, vr 15), (4, vi d)]) rfl (by unfold I32 at *; omega) (Nat.le_of_ble_eq_true rfl) rfl ?_
            refine V_goto (pc := 109) dX4_writeInner_109 (tgt := 20) rfl ?_
            have hn : ¬ needB (T p.toNat 0) (T k.toNat 0) := by
              by_cases c_ : needB (T p.toNat 0) (T k.toNat 0)
              · first | exact c_ | (rw [if_pos c_] at hx56; exfalso; omega)
              · first | exact c_ | (rw [if_neg c_] at hx56; exfalso; omega)
            have e1 : (if i = 0 then [] else (if sp = -1 then ([] : List Int) else [sp])) = [] := by
              first
                | exact if_pos (by omega)
                | (rw [if_neg (by omega)]; first | exact if_pos (by omega) | exact if_neg (by omega))
            refine V_ls (ls' := [(7, vi ((i : Int) + 1)), (6, vi (q : Int)), (5, vi (T k.toNat 8)), (0, vr P), (1, vi p), (2, vi sp), (3, vr 15), (4, vi d)]) (by intro q_ h_; simp only [List.mem_cons, List.not_mem_nil, or_false] at h_ ⊢; rcases h_ with rfl | rfl | rfl | rfl | rfl | rfl | rfl | rfl <;> simp) ?_
            repeat rw [apM_app]
            rw [e1, if_neg hn, if_neg hn] at hKS
            refine ih (i + 1) (T k.toNat 8) _ (by omega) hP2 (by omega) ?_ (fun ls => ?_)
            · rw [hdec]
              rw [if_neg hn] at hr
              simp only [List.length_append, List.length_cons, List.length_nil]
              split at hr <;> (try split at hr) <;> omega
            · have h_ := kx ls
              rw [hKS] at h_
              rw [hdec]
              simpa only [List.append_assoc, List.cons_append, List.nil_append, List.append_nil] using h_
          · skip
            refine V_ld (pc := 89) dX4_writeInner_89 (v := vr 15) rfl rfl ?_
            refine V_bipush (pc := 90) dX4_writeInner_90 (by unfold I32; omega) (by decide) ?_
            refine V_callV (pc := 92) dX4_writeInner_92 (F' := 0) (As := [vi 41]) (st := []) cw_RX4_35 rfl rfl hL.t15 (by decide) (Nat.le_of_ble_eq_true rfl) (by omega) (c_add1  (apM 15 1 16 (apM 15 1 16 m w) (splF T f k.toNat)) 41   (by first | assumption | omega) (by (try simp only [apM_sz, List.length_cons, List.length_nil]); omega)) ?_
            rintro _ _ ⟨x92, rfl, -, rfl⟩ ok92 le92
            refine V_pop (pc := 95) dX4_writeInner_95 rfl ?_
            refine V_ld (pc := 96) dX4_writeInner_96 (v := vr P) rfl rfl ?_
            refine V_ld (pc := 97) dX4_writeInner_97 (v := vi k) rfl rfl ?_
            refine V_bipush (pc := 99) dX4_writeInner_99 (by unfold I32; omega) (by decide) ?_
            refine V_callV (pc := 101) dX4_writeInner_101 (F' := 0) (As := [vi k, vi 8]) (st := []) cw_RX4_23 rfl rfl TP (by decide) (Nat.le_of_ble_eq_true rfl) (by omega) (c_factT L T c 8 (apM 15 1 16 (apM 15 1 16 (apM 15 1 16 m w) (splF T f k.toNat)) [41]) P k 8 A  TP RP_ TA (by (repeat rw [apM_ne (by omega) (by omega)]); exact hc) (fun p_ w_ h1_ h2_ => by (repeat rw [apM_ne (by omega) (by omega)]); exact hT p_ w_ h1_ h2_) ⟨by omega, by omega⟩ ⟨by decide, by decide⟩) ?_
            rintro _ _ ⟨x101, rfl, rfl, rfl⟩ ok101 le101
            refine V_st (pc := 104) dX4_writeInner_104 (ls' := [(5, vi (T k.toNat 8)), (8, vi x56), (7, vi (i : Int)), (6, vi (q : Int)), (0, vr P), (1, vi p), (2, vi sp), (3, vr 15), (4, vi d)]) rfl (Nat.le_of_ble_eq_true rfl) rfl ?_
            refine V_iinc (pc := 106) dX4_writeInner_106 (x := (i : Int)) (ls' := [(7, vi ((i : Int) + 1)), (5, vi (T k.toNat 8)), (8, vi x56), (6, vi (q : Int)), (0, vr P), (1, vi p), (2, vi sp), (3, vr 15), (4, vi d)]) rfl (by unfold I32 at *; omega) (Nat.le_of_ble_eq_true rfl) rfl ?_
            refine V_goto (pc := 109) dX4_writeInner_109 (tgt := 20) rfl ?_
            exfalso; omega
        · skip
          refine V_ld (pc := 66) dX4_writeInner_66 (v := vr 15) rfl rfl ?_
          refine V_bipush (pc := 67) dX4_writeInner_67 (by unfold I32; omega) (by decide) ?_
          refine V_callV (pc := 69) dX4_writeInner_69 (F' := 0) (As := [vi 40]) (st := []) cw_RX4_35 rfl rfl hL.t15 (by decide) (Nat.le_of_ble_eq_true rfl) (by omega) (c_add1  (apM 15 1 16 m w) 40   (by first | assumption | omega) (by (try simp only [apM_sz, List.length_cons, List.length_nil]); omega)) ?_
          rintro _ _ ⟨x69, rfl, -, rfl⟩ ok69 le69
          refine V_pop (pc := 72) dX4_writeInner_72 rfl ?_
          refine V_ld (pc := 73) dX4_writeInner_73 (v := vr P) rfl rfl ?_
          refine V_ld (pc := 74) dX4_writeInner_74 (v := vi k) rfl rfl ?_
          refine V_ld (pc := 76) dX4_writeInner_76 (v := vr 15) rfl rfl ?_
          refine V_ld (pc := 77) dX4_writeInner_77 (v := vi d) rfl rfl ?_
          refine V_iconst (pc := 79) dX4_writeInner_79 (by unfold I32; omega) ?_
          refine V_iadd (pc := 80) dX4_writeInner_80 (by unfold I32 at *; omega) ?_
          refine V_callV (pc := 81) dX4_writeInner_81 (F' := (2 * f + 2)) (As := [vi k, vr 15, vi (d + 1)]) (st := []) cw_RX4_31 rfl rfl TP (by decide) (Nat.le_of_ble_eq_true rfl) (by omega) (hsub  (apM 15 1 16 (apM 15 1 16 m w) [40]) P k (d + 1) A  (by first | assumption | omega) TP RP_ TA (by (repeat rw [apM_ne (by omega) (by omega)]); exact hc) (fun p_ w_ h1_ h2_ => by (repeat rw [apM_ne (by omega) (by omega)]); exact hT p_ w_ h1_ h2_) ⟨by omega, by omega⟩ h59 (by omega) ⟨by omega, by omega⟩ (by (try simp only [apM_sz, List.length_cons, List.length_nil]); omega)) ?_
          rintro _ _ ⟨rfl, rfl⟩ ok81 le81
          refine V_ld (pc := 84) dX4_writeInner_84 (v := vi x56) rfl rfl ?_
          refine V_if_eq (pc := 86) dX4_writeInner_86 (tgt := 96) rfl (fun h86 => ?_) (fun h86 => ?_)
          · skip
            refine V_ld (pc := 96) dX4_writeInner_96 (v := vr P) rfl rfl ?_
            refine V_ld (pc := 97) dX4_writeInner_97 (v := vi k) rfl rfl ?_
            refine V_bipush (pc := 99) dX4_writeInner_99 (by unfold I32; omega) (by decide) ?_
            refine V_callV (pc := 101) dX4_writeInner_101 (F' := 0) (As := [vi k, vi 8]) (st := []) cw_RX4_23 rfl rfl TP (by decide) (Nat.le_of_ble_eq_true rfl) (by omega) (c_factT L T c 8 (apM 15 1 16 (apM 15 1 16 (apM 15 1 16 m w) [40]) (splF T f k.toNat)) P k 8 A  TP RP_ TA (by (repeat rw [apM_ne (by omega) (by omega)]); exact hc) (fun p_ w_ h1_ h2_ => by (repeat rw [apM_ne (by omega) (by omega)]); exact hT p_ w_ h1_ h2_) ⟨by omega, by omega⟩ ⟨by decide, by decide⟩) ?_
            rintro _ _ ⟨x101, rfl, rfl, rfl⟩ ok101 le101
            refine V_st (pc := 104) dX4_writeInner_104 (ls' := [(5, vi (T k.toNat 8)), (8, vi x56), (7, vi (i : Int)), (6, vi (q : Int)), (0, vr P), (1, vi p), (2, vi sp), (3, vr 15), (4, vi d)]) rfl (Nat.le_of_ble_eq_true rfl) rfl ?_
            refine V_iinc (pc := 106) dX4_writeInner_106 (x := (i : Int)) (ls' := [(7, vi ((i : Int) + 1)), (5, vi (T k.toNat 8)), (8, vi x56), (6, vi (q : Int)), (0, vr P), (1, vi p), (2, vi sp), (3, vr 15), (4, vi d)]) rfl (by unfold I32 at *; omega) (Nat.le_of_ble_eq_true rfl) rfl ?_
            refine V_goto (pc := 109) dX4_writeInner_109 (tgt := 20) rfl ?_
            exfalso; omega
          · skip
            refine V_ld (pc := 89) dX4_writeInner_89 (v := vr 15) rfl rfl ?_
            refine V_bipush (pc := 90) dX4_writeInner_90 (by unfold I32; omega) (by decide) ?_
            refine V_callV (pc := 92) dX4_writeInner_92 (F' := 0) (As := [vi 41]) (st := []) cw_RX4_35 rfl rfl hL.t15 (by decide) (Nat.le_of_ble_eq_true rfl) (by omega) (c_add1  (apM 15 1 16 (apM 15 1 16 (apM 15 1 16 m w) [40]) (splF T f k.toNat)) 41   (by first | assumption | omega) (by (try simp only [apM_sz, List.length_cons, List.length_nil]); omega)) ?_
            rintro _ _ ⟨x92, rfl, -, rfl⟩ ok92 le92
            refine V_pop (pc := 95) dX4_writeInner_95 rfl ?_
            refine V_ld (pc := 96) dX4_writeInner_96 (v := vr P) rfl rfl ?_
            refine V_ld (pc := 97) dX4_writeInner_97 (v := vi k) rfl rfl ?_
            refine V_bipush (pc := 99) dX4_writeInner_99 (by unfold I32; omega) (by decide) ?_
            refine V_callV (pc := 101) dX4_writeInner_101 (F' := 0) (As := [vi k, vi 8]) (st := []) cw_RX4_23 rfl rfl TP (by decide) (Nat.le_of_ble_eq_true rfl) (by omega) (c_factT L T c 8 (apM 15 1 16 (apM 15 1 16 (apM 15 1 16 (apM 15 1 16 m w) [40]) (splF T f k.toNat)) [41]) P k 8 A  TP RP_ TA (by (repeat rw [apM_ne (by omega) (by omega)]); exact hc) (fun p_ w_ h1_ h2_ => by (repeat rw [apM_ne (by omega) (by omega)]); exact hT p_ w_ h1_ h2_) ⟨by omega, by omega⟩ ⟨by decide, by decide⟩) ?_
            rintro _ _ ⟨x101, rfl, rfl, rfl⟩ ok101 le101
            refine V_st (pc := 104) dX4_writeInner_104 (ls' := [(5, vi (T k.toNat 8)), (8, vi x56), (7, vi (i : Int)), (6, vi (q : Int)), (0, vr P), (1, vi p), (2, vi sp), (3, vr 15), (4, vi d)]) rfl (Nat.le_of_ble_eq_true rfl) rfl ?_
            refine V_iinc (pc := 106) dX4_writeInner_106 (x := (i : Int)) (ls' := [(7, vi ((i : Int) + 1)), (5, vi (T k.toNat 8)), (8, vi x56), (6, vi (q : Int)), (0, vr P), (1, vi p), (2, vi sp), (3, vr 15), (4, vi d)]) rfl (by unfold I32 at *; omega) (Nat.le_of_ble_eq_true rfl) rfl ?_
            refine V_goto (pc := 109) dX4_writeInner_109 (tgt := 20) rfl ?_
            have hn : needB (T p.toNat 0) (T k.toNat 0) := by
              by_cases c_ : needB (T p.toNat 0) (T k.toNat 0)
              · first | exact c_ | (rw [if_pos c_] at hx56; exfalso; omega)
              · first | exact c_ | (rw [if_neg c_] at hx56; exfalso; omega)
            have e1 : (if i = 0 then [] else (if sp = -1 then ([] : List Int) else [sp])) = [] := by
              first
                | exact if_pos (by omega)
                | (rw [if_neg (by omega)]; first | exact if_pos (by omega) | exact if_neg (by omega))
            refine V_ls (ls' := [(7, vi ((i : Int) + 1)), (6, vi (q : Int)), (5, vi (T k.toNat 8)), (0, vr P), (1, vi p), (2, vi sp), (3, vr 15), (4, vi d)]) (by intro q_ h_; simp only [List.mem_cons, List.not_mem_nil, or_false] at h_ ⊢; rcases h_ with rfl | rfl | rfl | rfl | rfl | rfl | rfl | rfl <;> simp) ?_
            repeat rw [apM_app]
            rw [e1, if_pos hn, if_pos hn] at hKS
            refine ih (i + 1) (T k.toNat 8) _ (by omega) hP2 (by omega) ?_ (fun ls => ?_)
            · rw [hdec]
              rw [if_pos hn] at hr
              simp only [List.length_append, List.length_cons, List.length_nil]
              split at hr <;> (try split at hr) <;> omega
            · have h_ := kx ls
              rw [hKS] at h_
              rw [hdec]
              simpa only [List.append_assoc, List.cons_append, List.nil_append, List.append_nil] using h_
      · skip
        refine V_ld (pc := 32) dX4_writeInner_32 (v := vi sp) rfl rfl ?_
        refine V_iconst (pc := 33) dX4_writeInner_33 (by unfold I32; omega) ?_
        refine V_icmp_eq (pc := 34) dX4_writeInner_34 (tgt := 43) rfl (fun h34 => ?_) (fun h34 => ?_)
        · skip
          refine V_ld (pc := 43) dX4_writeInner_43 (v := vr P) rfl rfl ?_
          refine V_ld (pc := 44) dX4_writeInner_44 (v := vi p) rfl rfl ?_
          refine V_iconst (pc := 45) dX4_writeInner_45 (by unfold I32; omega) ?_
          refine V_callV (pc := 46) dX4_writeInner_46 (F' := 0) (As := [vi p, vi 0]) (st := []) cw_RX4_23 rfl rfl TP (by decide) (Nat.le_of_ble_eq_true rfl) (by omega) (c_factT L T c 0 (apM 15 1 16 m w) P p 0 A  TP RP_ TA (by (repeat rw [apM_ne (by omega) (by omega)]); exact hc) (fun p_ w_ h1_ h2_ => by (repeat rw [apM_ne (by omega) (by omega)]); exact hT p_ w_ h1_ h2_) hp ⟨by decide, by decide⟩) ?_
          rintro _ _ ⟨x46, rfl, rfl, rfl⟩ ok46 le46
          refine V_ld (pc := 49) dX4_writeInner_49 (v := vr P) rfl rfl ?_
          refine V_ld (pc := 50) dX4_writeInner_50 (v := vi k) rfl rfl ?_
          refine V_iconst (pc := 52) dX4_writeInner_52 (by unfold I32; omega) ?_
          refine V_callV (pc := 53) dX4_writeInner_53 (F' := 0) (As := [vi k, vi 0]) (st := [vi (T p.toNat 0)]) cw_RX4_23 rfl rfl TP (by decide) (Nat.le_of_ble_eq_true rfl) (by omega) (c_factT L T c 0 (apM 15 1 16 m w) P k 0 A  TP RP_ TA (by (repeat rw [apM_ne (by omega) (by omega)]); exact hc) (fun p_ w_ h1_ h2_ => by (repeat rw [apM_ne (by omega) (by omega)]); exact hT p_ w_ h1_ h2_) ⟨by omega, by omega⟩ ⟨by decide, by decide⟩) ?_
          rintro _ _ ⟨x53, rfl, rfl, rfl⟩ ok53 le53
          refine V_callS (pc := 56) dX4_writeInner_56 (F' := 0) (As := [vi (T p.toNat 0), vi (T k.toNat 0)]) (st := []) cw_RX4_48 rfl rfl (Nat.le_of_ble_eq_true rfl) (by omega) (c_needs  (apM 15 1 16 m w) (T p.toNat 0) (T k.toNat 0)   ) ?_
          rintro _ _ ⟨x56, rfl, hx56, rfl⟩ ok56 le56
          refine V_st (pc := 59) dX4_writeInner_59 (ls' := [(8, vi x56), (7, vi (i : Int)), (6, vi (q : Int)), (5, vi k), (0, vr P), (1, vi p), (2, vi sp), (3, vr 15), (4, vi d)]) rfl (Nat.le_of_ble_eq_true rfl) rfl ?_
          refine V_ld (pc := 61) dX4_writeInner_61 (v := vi x56) rfl rfl ?_
          refine V_if_eq (pc := 63) dX4_writeInner_63 (tgt := 73) rfl (fun h63 => ?_) (fun h63 => ?_)
          · skip
            refine V_ld (pc := 73) dX4_writeInner_73 (v := vr P) rfl rfl ?_
            refine V_ld (pc := 74) dX4_writeInner_74 (v := vi k) rfl rfl ?_
            refine V_ld (pc := 76) dX4_writeInner_76 (v := vr 15) rfl rfl ?_
            refine V_ld (pc := 77) dX4_writeInner_77 (v := vi d) rfl rfl ?_
            refine V_iconst (pc := 79) dX4_writeInner_79 (by unfold I32; omega) ?_
            refine V_iadd (pc := 80) dX4_writeInner_80 (by unfold I32 at *; omega) ?_
            refine V_callV (pc := 81) dX4_writeInner_81 (F' := (2 * f + 2)) (As := [vi k, vr 15, vi (d + 1)]) (st := []) cw_RX4_31 rfl rfl TP (by decide) (Nat.le_of_ble_eq_true rfl) (by omega) (hsub  (apM 15 1 16 m w) P k (d + 1) A  (by first | assumption | omega) TP RP_ TA (by (repeat rw [apM_ne (by omega) (by omega)]); exact hc) (fun p_ w_ h1_ h2_ => by (repeat rw [apM_ne (by omega) (by omega)]); exact hT p_ w_ h1_ h2_) ⟨by omega, by omega⟩ h59 (by omega) ⟨by omega, by omega⟩ (by (try simp only [apM_sz, List.length_cons, List.length_nil]); omega)) ?_
            rintro _ _ ⟨rfl, rfl⟩ ok81 le81
            refine V_ld (pc := 84) dX4_writeInner_84 (v := vi x56) rfl rfl ?_
            refine V_if_eq (pc := 86) dX4_writeInner_86 (tgt := 96) rfl (fun h86 => ?_) (fun h86 => ?_)
            · skip
              refine V_ld (pc := 96) dX4_writeInner_96 (v := vr P) rfl rfl ?_
              refine V_ld (pc := 97) dX4_writeInner_97 (v := vi k) rfl rfl ?_
              refine V_bipush (pc := 99) dX4_writeInner_99 (by unfold I32; omega) (by decide) ?_
              refine V_callV (pc := 101) dX4_writeInner_101 (F' := 0) (As := [vi k, vi 8]) (st := []) cw_RX4_23 rfl rfl TP (by decide) (Nat.le_of_ble_eq_true rfl) (by omega) (c_factT L T c 8 (apM 15 1 16 (apM 15 1 16 m w) (splF T f k.toNat)) P k 8 A  TP RP_ TA (by (repeat rw [apM_ne (by omega) (by omega)]); exact hc) (fun p_ w_ h1_ h2_ => by (repeat rw [apM_ne (by omega) (by omega)]); exact hT p_ w_ h1_ h2_) ⟨by omega, by omega⟩ ⟨by decide, by decide⟩) ?_
              rintro _ _ ⟨x101, rfl, rfl, rfl⟩ ok101 le101
              refine V_st (pc := 104) dX4_writeInner_104 (ls' := [(5, vi (T k.toNat 8)), (8, vi x56), (7, vi (i : Int)), (6, vi (q : Int)), (0, vr P), (1, vi p), (2, vi sp), (3, vr 15), (4, vi d)]) rfl (Nat.le_of_ble_eq_true rfl) rfl ?_
              refine V_iinc (pc := 106) dX4_writeInner_106 (x := (i : Int)) (ls' := [(7, vi ((i : Int) + 1)), (5, vi (T k.toNat 8)), (8, vi x56), (6, vi (q : Int)), (0, vr P), (1, vi p), (2, vi sp), (3, vr 15), (4, vi d)]) rfl (by unfold I32 at *; omega) (Nat.le_of_ble_eq_true rfl) rfl ?_
              refine V_goto (pc := 109) dX4_writeInner_109 (tgt := 20) rfl ?_
              have hn : ¬ needB (T p.toNat 0) (T k.toNat 0) := by
                by_cases c_ : needB (T p.toNat 0) (T k.toNat 0)
                · first | exact c_ | (rw [if_pos c_] at hx56; exfalso; omega)
                · first | exact c_ | (rw [if_neg c_] at hx56; exfalso; omega)
              have e1 : (if i = 0 then [] else (if sp = -1 then ([] : List Int) else [sp])) = [] := by
                first
                  | exact if_pos (by omega)
                  | (rw [if_neg (by omega)]; first | exact if_pos (by omega) | exact if_neg (by omega))
              refine V_ls (ls' := [(7, vi ((i : Int) + 1)), (6, vi (q : Int)), (5, vi (T k.toNat 8)), (0, vr P), (1, vi p), (2, vi sp), (3, vr 15), (4, vi d)]) (by intro q_ h_; simp only [List.mem_cons, List.not_mem_nil, or_false] at h_ ⊢; rcases h_ with rfl | rfl | rfl | rfl | rfl | rfl | rfl | rfl <;> simp) ?_
              repeat rw [apM_app]
              rw [e1, if_neg hn, if_neg hn] at hKS
              refine ih (i + 1) (T k.toNat 8) _ (by omega) hP2 (by omega) ?_ (fun ls => ?_)
              · rw [hdec]
                rw [if_neg hn] at hr
                simp only [List.length_append, List.length_cons, List.length_nil]
                split at hr <;> (try split at hr) <;> omega
              · have h_ := kx ls
                rw [hKS] at h_
                rw [hdec]
                simpa only [List.append_assoc, List.cons_append, List.nil_append, List.append_nil] using h_
            · skip
              refine V_ld (pc := 89) dX4_writeInner_89 (v := vr 15) rfl rfl ?_
              refine V_bipush (pc := 90) dX4_writeInner_90 (by unfold I32; omega) (by decide) ?_
              refine V_callV (pc := 92) dX4_writeInner_92 (F' := 0) (As := [vi 41]) (st := []) cw_RX4_35 rfl rfl hL.t15 (by decide) (Nat.le_of_ble_eq_true rfl) (by omega) (c_add1  (apM 15 1 16 (apM 15 1 16 m w) (splF T f k.toNat)) 41   (by first | assumption | omega) (by (try simp only [apM_sz, List.length_cons, List.length_nil]); omega)) ?_
              rintro _ _ ⟨x92, rfl, -, rfl⟩ ok92 le92
              refine V_pop (pc := 95) dX4_writeInner_95 rfl ?_
              refine V_ld (pc := 96) dX4_writeInner_96 (v := vr P) rfl rfl ?_
              refine V_ld (pc := 97) dX4_writeInner_97 (v := vi k) rfl rfl ?_
              refine V_bipush (pc := 99) dX4_writeInner_99 (by unfold I32; omega) (by decide) ?_
              refine V_callV (pc := 101) dX4_writeInner_101 (F' := 0) (As := [vi k, vi 8]) (st := []) cw_RX4_23 rfl rfl TP (by decide) (Nat.le_of_ble_eq_true rfl) (by omega) (c_factT L T c 8 (apM 15 1 16 (apM 15 1 16 (apM 15 1 16 m w) (splF T f k.toNat)) [41]) P k 8 A  TP RP_ TA (by (repeat rw [apM_ne (by omega) (by omega)]); exact hc) (fun p_ w_ h1_ h2_ => by (repeat rw [apM_ne (by omega) (by omega)]); exact hT p_ w_ h1_ h2_) ⟨by omega, by omega⟩ ⟨by decide, by decide⟩) ?_
              rintro _ _ ⟨x101, rfl, rfl, rfl⟩ ok101 le101
              refine V_st (pc := 104) dX4_writeInner_104 (ls' := [(5, vi (T k.toNat 8)), (8, vi x56), (7, vi (i : Int)), (6, vi (q : Int)), (0, vr P), (1, vi p), (2, vi sp), (3, vr 15), (4, vi d)]) rfl (Nat.le_of_ble_eq_true rfl) rfl ?_
              refine V_iinc (pc := 106) dX4_writeInner_106 (x := (i : Int)) (ls' := [(7, vi ((i : Int) + 1)), (5, vi (T k.toNat 8)), (8, vi x56), (6, vi (q : Int)), (0, vr P), (1, vi p), (2, vi sp), (3, vr 15), (4, vi d)]) rfl (by unfold I32 at *; omega) (Nat.le_of_ble_eq_true rfl) rfl ?_
              refine V_goto (pc := 109) dX4_writeInner_109 (tgt := 20) rfl ?_
              exfalso; omega
          · skip
            refine V_ld (pc := 66) dX4_writeInner_66 (v := vr 15) rfl rfl ?_
            refine V_bipush (pc := 67) dX4_writeInner_67 (by unfold I32; omega) (by decide) ?_
            refine V_callV (pc := 69) dX4_writeInner_69 (F' := 0) (As := [vi 40]) (st := []) cw_RX4_35 rfl rfl hL.t15 (by decide) (Nat.le_of_ble_eq_true rfl) (by omega) (c_add1  (apM 15 1 16 m w) 40   (by first | assumption | omega) (by (try simp only [apM_sz, List.length_cons, List.length_nil]); omega)) ?_
            rintro _ _ ⟨x69, rfl, -, rfl⟩ ok69 le69
            refine V_pop (pc := 72) dX4_writeInner_72 rfl ?_
            refine V_ld (pc := 73) dX4_writeInner_73 (v := vr P) rfl rfl ?_
            refine V_ld (pc := 74) dX4_writeInner_74 (v := vi k) rfl rfl ?_
            refine V_ld (pc := 76) dX4_writeInner_76 (v := vr 15) rfl rfl ?_
            refine V_ld (pc := 77) dX4_writeInner_77 (v := vi d) rfl rfl ?_
            refine V_iconst (pc := 79) dX4_writeInner_79 (by unfold I32; omega) ?_
            refine V_iadd (pc := 80) dX4_writeInner_80 (by unfold I32 at *; omega) ?_
            refine V_callV (pc := 81) dX4_writeInner_81 (F' := (2 * f + 2)) (As := [vi k, vr 15, vi (d + 1)]) (st := []) cw_RX4_31 rfl rfl TP (by decide) (Nat.le_of_ble_eq_true rfl) (by omega) (hsub  (apM 15 1 16 (apM 15 1 16 m w) [40]) P k (d + 1) A  (by first | assumption | omega) TP RP_ TA (by (repeat rw [apM_ne (by omega) (by omega)]); exact hc) (fun p_ w_ h1_ h2_ => by (repeat rw [apM_ne (by omega) (by omega)]); exact hT p_ w_ h1_ h2_) ⟨by omega, by omega⟩ h59 (by omega) ⟨by omega, by omega⟩ (by (try simp only [apM_sz, List.length_cons, List.length_nil]); omega)) ?_
            rintro _ _ ⟨rfl, rfl⟩ ok81 le81
            refine V_ld (pc := 84) dX4_writeInner_84 (v := vi x56) rfl rfl ?_
            refine V_if_eq (pc := 86) dX4_writeInner_86 (tgt := 96) rfl (fun h86 => ?_) (fun h86 => ?_)
            · skip
              refine V_ld (pc := 96) dX4_writeInner_96 (v := vr P) rfl rfl ?_
              refine V_ld (pc := 97) dX4_writeInner_97 (v := vi k) rfl rfl ?_
              refine V_bipush (pc := 99) dX4_writeInner_99 (by unfold I32; omega) (by decide) ?_
              refine V_callV (pc := 101) dX4_writeInner_101 (F' := 0) (As := [vi k, vi 8]) (st := []) cw_RX4_23 rfl rfl TP (by decide) (Nat.le_of_ble_eq_true rfl) (by omega) (c_factT L T c 8 (apM 15 1 16 (apM 15 1 16 (apM 15 1 16 m w) [40]) (splF T f k.toNat)) P k 8 A  TP RP_ TA (by (repeat rw [apM_ne (by omega) (by omega)]); exact hc) (fun p_ w_ h1_ h2_ => by (repeat rw [apM_ne (by omega) (by omega)]); exact hT p_ w_ h1_ h2_) ⟨by omega, by omega⟩ ⟨by decide, by decide⟩) ?_
              rintro _ _ ⟨x101, rfl, rfl, rfl⟩ ok101 le101
              refine V_st (pc := 104) dX4_writeInner_104 (ls' := [(5, vi (T k.toNat 8)), (8, vi x56), (7, vi (i : Int)), (6, vi (q : Int)), (0, vr P), (1, vi p), (2, vi sp), (3, vr 15), (4, vi d)]) rfl (Nat.le_of_ble_eq_true rfl) rfl ?_
              refine V_iinc (pc := 106) dX4_writeInner_106 (x := (i : Int)) (ls' := [(7, vi ((i : Int) + 1)), (5, vi (T k.toNat 8)), (8, vi x56), (6, vi (q : Int)), (0, vr P), (1, vi p), (2, vi sp), (3, vr 15), (4, vi d)]) rfl (by unfold I32 at *; omega) (Nat.le_of_ble_eq_true rfl) rfl ?_
              refine V_goto (pc := 109) dX4_writeInner_109 (tgt := 20) rfl ?_
              exfalso; omega
            · skip
              refine V_ld (pc := 89) dX4_writeInner_89 (v := vr 15) rfl rfl ?_
              refine V_bipush (pc := 90) dX4_writeInner_90 (by unfold I32; omega) (by decide) ?_
              refine V_callV (pc := 92) dX4_writeInner_92 (F' := 0) (As := [vi 41]) (st := []) cw_RX4_35 rfl rfl hL.t15 (by decide) (Nat.le_of_ble_eq_true rfl) (by omega) (c_add1  (apM 15 1 16 (apM 15 1 16 (apM 15 1 16 m w) [40]) (splF T f k.toNat)) 41   (by first | assumption | omega) (by (try simp only [apM_sz, List.length_cons, List.length_nil]); omega)) ?_
              rintro _ _ ⟨x92, rfl, -, rfl⟩ ok92 le92
              refine V_pop (pc := 95) dX4_writeInner_95 rfl ?_
              refine V_ld (pc := 96) dX4_writeInner_96 (v := vr P) rfl rfl ?_
              refine V_ld (pc := 97) dX4_writeInner_97 (v := vi k) rfl rfl ?_
              refine V_bipush (pc := 99) dX4_writeInner_99 (by unfold I32; omega) (by decide) ?_
              refine V_callV (pc := 101) dX4_writeInner_101 (F' := 0) (As := [vi k, vi 8]) (st := []) cw_RX4_23 rfl rfl TP (by decide) (Nat.le_of_ble_eq_true rfl) (by omega) (c_factT L T c 8 (apM 15 1 16 (apM 15 1 16 (apM 15 1 16 (apM 15 1 16 m w) [40]) (splF T f k.toNat)) [41]) P k 8 A  TP RP_ TA (by (repeat rw [apM_ne (by omega) (by omega)]); exact hc) (fun p_ w_ h1_ h2_ => by (repeat rw [apM_ne (by omega) (by omega)]); exact hT p_ w_ h1_ h2_) ⟨by omega, by omega⟩ ⟨by decide, by decide⟩) ?_
              rintro _ _ ⟨x101, rfl, rfl, rfl⟩ ok101 le101
              refine V_st (pc := 104) dX4_writeInner_104 (ls' := [(5, vi (T k.toNat 8)), (8, vi x56), (7, vi (i : Int)), (6, vi (q : Int)), (0, vr P), (1, vi p), (2, vi sp), (3, vr 15), (4, vi d)]) rfl (Nat.le_of_ble_eq_true rfl) rfl ?_
              refine V_iinc (pc := 106) dX4_writeInner_106 (x := (i : Int)) (ls' := [(7, vi ((i : Int) + 1)), (5, vi (T k.toNat 8)), (8, vi x56), (6, vi (q : Int)), (0, vr P), (1, vi p), (2, vi sp), (3, vr 15), (4, vi d)]) rfl (by unfold I32 at *; omega) (Nat.le_of_ble_eq_true rfl) rfl ?_
              refine V_goto (pc := 109) dX4_writeInner_109 (tgt := 20) rfl ?_
              have hn : needB (T p.toNat 0) (T k.toNat 0) := by
                by_cases c_ : needB (T p.toNat 0) (T k.toNat 0)
                · first | exact c_ | (rw [if_pos c_] at hx56; exfalso; omega)
                · first | exact c_ | (rw [if_neg c_] at hx56; exfalso; omega)
              have e1 : (if i = 0 then [] else (if sp = -1 then ([] : List Int) else [sp])) = [] := by
                first
                  | exact if_pos (by omega)
                  | (rw [if_neg (by omega)]; first | exact if_pos (by omega) | exact if_neg (by omega))
              refine V_ls (ls' := [(7, vi ((i : Int) + 1)), (6, vi (q : Int)), (5, vi (T k.toNat 8)), (0, vr P), (1, vi p), (2, vi sp), (3, vr 15), (4, vi d)]) (by intro q_ h_; simp only [List.mem_cons, List.not_mem_nil, or_false] at h_ ⊢; rcases h_ with rfl | rfl | rfl | rfl | rfl | rfl | rfl | rfl <;> simp) ?_
              repeat rw [apM_app]
              rw [e1, if_pos hn, if_pos hn] at hKS
              refine ih (i + 1) (T k.toNat 8) _ (by omega) hP2 (by omega) ?_ (fun ls => ?_)
              · rw [hdec]
                rw [if_pos hn] at hr
                simp only [List.length_append, List.length_cons, List.length_nil]
                split at hr <;> (try split at hr) <;> omega
              · have h_ := kx ls
                rw [hKS] at h_
                rw [hdec]
                simpa only [List.append_assoc, List.cons_append, List.nil_append, List.append_nil] using h_
        · skip
          refine V_ld (pc := 37) dX4_writeInner_37 (v := vr 15) rfl rfl ?_
          refine V_ld (pc := 38) dX4_writeInner_38 (v := vi sp) rfl rfl ?_
          refine V_callV (pc := 39) dX4_writeInner_39 (F' := 0) (As := [vi sp]) (st := []) cw_RX4_35 rfl rfl hL.t15 (by decide) (Nat.le_of_ble_eq_true rfl) (by omega) (c_add1  (apM 15 1 16 m w) sp   (by first | assumption | omega) (by (try simp only [apM_sz, List.length_cons, List.length_nil]); omega)) ?_
          rintro _ _ ⟨x39, rfl, -, rfl⟩ ok39 le39
          refine V_pop (pc := 42) dX4_writeInner_42 rfl ?_
          refine V_ld (pc := 43) dX4_writeInner_43 (v := vr P) rfl rfl ?_
          refine V_ld (pc := 44) dX4_writeInner_44 (v := vi p) rfl rfl ?_
          refine V_iconst (pc := 45) dX4_writeInner_45 (by unfold I32; omega) ?_
          refine V_callV (pc := 46) dX4_writeInner_46 (F' := 0) (As := [vi p, vi 0]) (st := []) cw_RX4_23 rfl rfl TP (by decide) (Nat.le_of_ble_eq_true rfl) (by omega) (c_factT L T c 0 (apM 15 1 16 (apM 15 1 16 m w) [sp]) P p 0 A  TP RP_ TA (by (repeat rw [apM_ne (by omega) (by omega)]); exact hc) (fun p_ w_ h1_ h2_ => by (repeat rw [apM_ne (by omega) (by omega)]); exact hT p_ w_ h1_ h2_) hp ⟨by decide, by decide⟩) ?_
          rintro _ _ ⟨x46, rfl, rfl, rfl⟩ ok46 le46
          refine V_ld (pc := 49) dX4_writeInner_49 (v := vr P) rfl rfl ?_
          refine V_ld (pc := 50) dX4_writeInner_50 (v := vi k) rfl rfl ?_
          refine V_iconst (pc := 52) dX4_writeInner_52 (by unfold I32; omega) ?_
          refine V_callV (pc := 53) dX4_writeInner_53 (F' := 0) (As := [vi k, vi 0]) (st := [vi (T p.toNat 0)]) cw_RX4_23 rfl rfl TP (by decide) (Nat.le_of_ble_eq_true rfl) (by omega) (c_factT L T c 0 (apM 15 1 16 (apM 15 1 16 m w) [sp]) P k 0 A  TP RP_ TA (by (repeat rw [apM_ne (by omega) (by omega)]); exact hc) (fun p_ w_ h1_ h2_ => by (repeat rw [apM_ne (by omega) (by omega)]); exact hT p_ w_ h1_ h2_) ⟨by omega, by omega⟩ ⟨by decide, by decide⟩) ?_
          rintro _ _ ⟨x53, rfl, rfl, rfl⟩ ok53 le53
          refine V_callS (pc := 56) dX4_writeInner_56 (F' := 0) (As := [vi (T p.toNat 0), vi (T k.toNat 0)]) (st := []) cw_RX4_48 rfl rfl (Nat.le_of_ble_eq_true rfl) (by omega) (c_needs  (apM 15 1 16 (apM 15 1 16 m w) [sp]) (T p.toNat 0) (T k.toNat 0)   ) ?_
          rintro _ _ ⟨x56, rfl, hx56, rfl⟩ ok56 le56
          refine V_st (pc := 59) dX4_writeInner_59 (ls' := [(8, vi x56), (7, vi (i : Int)), (6, vi (q : Int)), (5, vi k), (0, vr P), (1, vi p), (2, vi sp), (3, vr 15), (4, vi d)]) rfl (Nat.le_of_ble_eq_true rfl) rfl ?_
          refine V_ld (pc := 61) dX4_writeInner_61 (v := vi x56) rfl rfl ?_
          refine V_if_eq (pc := 63) dX4_writeInner_63 (tgt := 73) rfl (fun h63 => ?_) (fun h63 => ?_)
          · skip
            refine V_ld (pc := 73) dX4_writeInner_73 (v := vr P) rfl rfl ?_
            refine V_ld (pc := 74) dX4_writeInner_74 (v := vi k) rfl rfl ?_
            refine V_ld (pc := 76) dX4_writeInner_76 (v := vr 15) rfl rfl ?_
            refine V_ld (pc := 77) dX4_writeInner_77 (v := vi d) rfl rfl ?_
            refine V_iconst (pc := 79) dX4_writeInner_79 (by unfold I32; omega) ?_
            refine V_iadd (pc := 80) dX4_writeInner_80 (by unfold I32 at *; omega) ?_
            refine V_callV (pc := 81) dX4_writeInner_81 (F' := (2 * f + 2)) (As := [vi k, vr 15, vi (d + 1)]) (st := []) cw_RX4_31 rfl rfl TP (by decide) (Nat.le_of_ble_eq_true rfl) (by omega) (hsub  (apM 15 1 16 (apM 15 1 16 m w) [sp]) P k (d + 1) A  (by first | assumption | omega) TP RP_ TA (by (repeat rw [apM_ne (by omega) (by omega)]); exact hc) (fun p_ w_ h1_ h2_ => by (repeat rw [apM_ne (by omega) (by omega)]); exact hT p_ w_ h1_ h2_) ⟨by omega, by omega⟩ h59 (by omega) ⟨by omega, by omega⟩ (by (try simp only [apM_sz, List.length_cons, List.length_nil]); omega)) ?_
            rintro _ _ ⟨rfl, rfl⟩ ok81 le81
            refine V_ld (pc := 84) dX4_writeInner_84 (v := vi x56) rfl rfl ?_
            refine V_if_eq (pc := 86) dX4_writeInner_86 (tgt := 96) rfl (fun h86 => ?_) (fun h86 => ?_)
            · skip
              refine V_ld (pc := 96) dX4_writeInner_96 (v := vr P) rfl rfl ?_
              refine V_ld (pc := 97) dX4_writeInner_97 (v := vi k) rfl rfl ?_
              refine V_bipush (pc := 99) dX4_writeInner_99 (by unfold I32; omega) (by decide) ?_
              refine V_callV (pc := 101) dX4_writeInner_101 (F' := 0) (As := [vi k, vi 8]) (st := []) cw_RX4_23 rfl rfl TP (by decide) (Nat.le_of_ble_eq_true rfl) (by omega) (c_factT L T c 8 (apM 15 1 16 (apM 15 1 16 (apM 15 1 16 m w) [sp]) (splF T f k.toNat)) P k 8 A  TP RP_ TA (by (repeat rw [apM_ne (by omega) (by omega)]); exact hc) (fun p_ w_ h1_ h2_ => by (repeat rw [apM_ne (by omega) (by omega)]); exact hT p_ w_ h1_ h2_) ⟨by omega, by omega⟩ ⟨by decide, by decide⟩) ?_
              rintro _ _ ⟨x101, rfl, rfl, rfl⟩ ok101 le101
              refine V_st (pc := 104) dX4_writeInner_104 (ls' := [(5, vi (T k.toNat 8)), (8, vi x56), (7, vi (i : Int)), (6, vi (q : Int)), (0, vr P), (1, vi p), (2, vi sp), (3, vr 15), (4, vi d)]) rfl (Nat.le_of_ble_eq_true rfl) rfl ?_
              refine V_iinc (pc := 106) dX4_writeInner_106 (x := (i : Int)) (ls' := [(7, vi ((i : Int) + 1)), (5, vi (T k.toNat 8)), (8, vi x56), (6, vi (q : Int)), (0, vr P), (1, vi p), (2, vi sp), (3, vr 15), (4, vi d)]) rfl (by unfold I32 at *; omega) (Nat.le_of_ble_eq_true rfl) rfl ?_
              refine V_goto (pc := 109) dX4_writeInner_109 (tgt := 20) rfl ?_
              have hn : ¬ needB (T p.toNat 0) (T k.toNat 0) := by
                by_cases c_ : needB (T p.toNat 0) (T k.toNat 0)
                · first | exact c_ | (rw [if_pos c_] at hx56; exfalso; omega)
                · first | exact c_ | (rw [if_neg c_] at hx56; exfalso; omega)
              have e1 : (if i = 0 then [] else (if sp = -1 then ([] : List Int) else [sp])) = [sp] := by
                first
                  | exact if_pos (by omega)
                  | (rw [if_neg (by omega)]; first | exact if_pos (by omega) | exact if_neg (by omega))
              refine V_ls (ls' := [(7, vi ((i : Int) + 1)), (6, vi (q : Int)), (5, vi (T k.toNat 8)), (0, vr P), (1, vi p), (2, vi sp), (3, vr 15), (4, vi d)]) (by intro q_ h_; simp only [List.mem_cons, List.not_mem_nil, or_false] at h_ ⊢; rcases h_ with rfl | rfl | rfl | rfl | rfl | rfl | rfl | rfl <;> simp) ?_
              repeat rw [apM_app]
              rw [e1, if_neg hn, if_neg hn] at hKS
              refine ih (i + 1) (T k.toNat 8) _ (by omega) hP2 (by omega) ?_ (fun ls => ?_)
              · rw [hdec]
                rw [if_neg hn] at hr
                simp only [List.length_append, List.length_cons, List.length_nil]
                split at hr <;> (try split at hr) <;> omega
              · have h_ := kx ls
                rw [hKS] at h_
                rw [hdec]
                simpa only [List.append_assoc, List.cons_append, List.nil_append, List.append_nil] using h_
            · skip
              refine V_ld (pc := 89) dX4_writeInner_89 (v := vr 15) rfl rfl ?_
              refine V_bipush (pc := 90) dX4_writeInner_90 (by unfold I32; omega) (by decide) ?_
              refine V_callV (pc := 92) dX4_writeInner_92 (F' := 0) (As := [vi 41]) (st := []) cw_RX4_35 rfl rfl hL.t15 (by decide) (Nat.le_of_ble_eq_true rfl) (by omega) (c_add1  (apM 15 1 16 (apM 15 1 16 (apM 15 1 16 m w) [sp]) (splF T f k.toNat)) 41   (by first | assumption | omega) (by (try simp only [apM_sz, List.length_cons, List.length_nil]); omega)) ?_
              rintro _ _ ⟨x92, rfl, -, rfl⟩ ok92 le92
              refine V_pop (pc := 95) dX4_writeInner_95 rfl ?_
              refine V_ld (pc := 96) dX4_writeInner_96 (v := vr P) rfl rfl ?_
              refine V_ld (pc := 97) dX4_writeInner_97 (v := vi k) rfl rfl ?_
              refine V_bipush (pc := 99) dX4_writeInner_99 (by unfold I32; omega) (by decide) ?_
              refine V_callV (pc := 101) dX4_writeInner_101 (F' := 0) (As := [vi k, vi 8]) (st := []) cw_RX4_23 rfl rfl TP (by decide) (Nat.le_of_ble_eq_true rfl) (by omega) (c_factT L T c 8 (apM 15 1 16 (apM 15 1 16 (apM 15 1 16 (apM 15 1 16 m w) [sp]) (splF T f k.toNat)) [41]) P k 8 A  TP RP_ TA (by (repeat rw [apM_ne (by omega) (by omega)]); exact hc) (fun p_ w_ h1_ h2_ => by (repeat rw [apM_ne (by omega) (by omega)]); exact hT p_ w_ h1_ h2_) ⟨by omega, by omega⟩ ⟨by decide, by decide⟩) ?_
              rintro _ _ ⟨x101, rfl, rfl, rfl⟩ ok101 le101
              refine V_st (pc := 104) dX4_writeInner_104 (ls' := [(5, vi (T k.toNat 8)), (8, vi x56), (7, vi (i : Int)), (6, vi (q : Int)), (0, vr P), (1, vi p), (2, vi sp), (3, vr 15), (4, vi d)]) rfl (Nat.le_of_ble_eq_true rfl) rfl ?_
              refine V_iinc (pc := 106) dX4_writeInner_106 (x := (i : Int)) (ls' := [(7, vi ((i : Int) + 1)), (5, vi (T k.toNat 8)), (8, vi x56), (6, vi (q : Int)), (0, vr P), (1, vi p), (2, vi sp), (3, vr 15), (4, vi d)]) rfl (by unfold I32 at *; omega) (Nat.le_of_ble_eq_true rfl) rfl ?_
              refine V_goto (pc := 109) dX4_writeInner_109 (tgt := 20) rfl ?_
              exfalso; omega
          · skip
            refine V_ld (pc := 66) dX4_writeInner_66 (v := vr 15) rfl rfl ?_
            refine V_bipush (pc := 67) dX4_writeInner_67 (by unfold I32; omega) (by decide) ?_
            refine V_callV (pc := 69) dX4_writeInner_69 (F' := 0) (As := [vi 40]) (st := []) cw_RX4_35 rfl rfl hL.t15 (by decide) (Nat.le_of_ble_eq_true rfl) (by omega) (c_add1  (apM 15 1 16 (apM 15 1 16 m w) [sp]) 40   (by first | assumption | omega) (by (try simp only [apM_sz, List.length_cons, List.length_nil]); omega)) ?_
            rintro _ _ ⟨x69, rfl, -, rfl⟩ ok69 le69
            refine V_pop (pc := 72) dX4_writeInner_72 rfl ?_
            refine V_ld (pc := 73) dX4_writeInner_73 (v := vr P) rfl rfl ?_
            refine V_ld (pc := 74) dX4_writeInner_74 (v := vi k) rfl rfl ?_
            refine V_ld (pc := 76) dX4_writeInner_76 (v := vr 15) rfl rfl ?_
            refine V_ld (pc := 77) dX4_writeInner_77 (v := vi d) rfl rfl ?_
            refine V_iconst (pc := 79) dX4_writeInner_79 (by unfold I32; omega) ?_
            refine V_iadd (pc := 80) dX4_writeInner_80 (by unfold I32 at *; omega) ?_
            refine V_callV (pc := 81) dX4_writeInner_81 (F' := (2 * f + 2)) (As := [vi k, vr 15, vi (d + 1)]) (st := []) cw_RX4_31 rfl rfl TP (by decide) (Nat.le_of_ble_eq_true rfl) (by omega) (hsub  (apM 15 1 16 (apM 15 1 16 (apM 15 1 16 m w) [sp]) [40]) P k (d + 1) A  (by first | assumption | omega) TP RP_ TA (by (repeat rw [apM_ne (by omega) (by omega)]); exact hc) (fun p_ w_ h1_ h2_ => by (repeat rw [apM_ne (by omega) (by omega)]); exact hT p_ w_ h1_ h2_) ⟨by omega, by omega⟩ h59 (by omega) ⟨by omega, by omega⟩ (by (try simp only [apM_sz, List.length_cons, List.length_nil]); omega)) ?_
            rintro _ _ ⟨rfl, rfl⟩ ok81 le81
            refine V_ld (pc := 84) dX4_writeInner_84 (v := vi x56) rfl rfl ?_
            refine V_if_eq (pc := 86) dX4_writeInner_86 (tgt := 96) rfl (fun h86 => ?_) (fun h86 => ?_)
            · skip
              refine V_ld (pc := 96) dX4_writeInner_96 (v := vr P) rfl rfl ?_
              refine V_ld (pc := 97) dX4_writeInner_97 (v := vi k) rfl rfl ?_
              refine V_bipush (pc := 99) dX4_writeInner_99 (by unfold I32; omega) (by decide) ?_
              refine V_callV (pc := 101) dX4_writeInner_101 (F' := 0) (As := [vi k, vi 8]) (st := []) cw_RX4_23 rfl rfl TP (by decide) (Nat.le_of_ble_eq_true rfl) (by omega) (c_factT L T c 8 (apM 15 1 16 (apM 15 1 16 (apM 15 1 16 (apM 15 1 16 m w) [sp]) [40]) (splF T f k.toNat)) P k 8 A  TP RP_ TA (by (repeat rw [apM_ne (by omega) (by omega)]); exact hc) (fun p_ w_ h1_ h2_ => by (repeat rw [apM_ne (by omega) (by omega)]); exact hT p_ w_ h1_ h2_) ⟨by omega, by omega⟩ ⟨by decide, by decide⟩) ?_
              rintro _ _ ⟨x101, rfl, rfl, rfl⟩ ok101 le101
              refine V_st (pc := 104) dX4_writeInner_104 (ls' := [(5, vi (T k.toNat 8)), (8, vi x56), (7, vi (i : Int)), (6, vi (q : Int)), (0, vr P), (1, vi p), (2, vi sp), (3, vr 15), (4, vi d)]) rfl (Nat.le_of_ble_eq_true rfl) rfl ?_
              refine V_iinc (pc := 106) dX4_writeInner_106 (x := (i : Int)) (ls' := [(7, vi ((i : Int) + 1)), (5, vi (T k.toNat 8)), (8, vi x56), (6, vi (q : Int)), (0, vr P), (1, vi p), (2, vi sp), (3, vr 15), (4, vi d)]) rfl (by unfold I32 at *; omega) (Nat.le_of_ble_eq_true rfl) rfl ?_
              refine V_goto (pc := 109) dX4_writeInner_109 (tgt := 20) rfl ?_
              exfalso; omega
            · skip
              refine V_ld (pc := 89) dX4_writeInner_89 (v := vr 15) rfl rfl ?_
              refine V_bipush (pc := 90) dX4_writeInner_90 (by unfold I32; omega) (by decide) ?_
              refine V_callV (pc := 92) dX4_writeInner_92 (F' := 0) (As := [vi 41]) (st := []) cw_RX4_35 rfl rfl hL.t15 (by decide) (Nat.le_of_ble_eq_true rfl) (by omega) (c_add1  (apM 15 1 16 (apM 15 1 16 (apM 15 1 16 (apM 15 1 16 m w) [sp]) [40]) (splF T f k.toNat)) 41   (by first | assumption | omega) (by (try simp only [apM_sz, List.length_cons, List.length_nil]); omega)) ?_
              rintro _ _ ⟨x92, rfl, -, rfl⟩ ok92 le92
              refine V_pop (pc := 95) dX4_writeInner_95 rfl ?_
              refine V_ld (pc := 96) dX4_writeInner_96 (v := vr P) rfl rfl ?_
              refine V_ld (pc := 97) dX4_writeInner_97 (v := vi k) rfl rfl ?_
              refine V_bipush (pc := 99) dX4_writeInner_99 (by unfold I32; omega) (by decide) ?_
              refine V_callV (pc := 101) dX4_writeInner_101 (F' := 0) (As := [vi k, vi 8]) (st := []) cw_RX4_23 rfl rfl TP (by decide) (Nat.le_of_ble_eq_true rfl) (by omega) (c_factT L T c 8 (apM 15 1 16 (apM 15 1 16 (apM 15 1 16 (apM 15 1 16 (apM 15 1 16 m w) [sp]) [40]) (splF T f k.toNat)) [41]) P k 8 A  TP RP_ TA (by (repeat rw [apM_ne (by omega) (by omega)]); exact hc) (fun p_ w_ h1_ h2_ => by (repeat rw [apM_ne (by omega) (by omega)]); exact hT p_ w_ h1_ h2_) ⟨by omega, by omega⟩ ⟨by decide, by decide⟩) ?_
              rintro _ _ ⟨x101, rfl, rfl, rfl⟩ ok101 le101
              refine V_st (pc := 104) dX4_writeInner_104 (ls' := [(5, vi (T k.toNat 8)), (8, vi x56), (7, vi (i : Int)), (6, vi (q : Int)), (0, vr P), (1, vi p), (2, vi sp), (3, vr 15), (4, vi d)]) rfl (Nat.le_of_ble_eq_true rfl) rfl ?_
              refine V_iinc (pc := 106) dX4_writeInner_106 (x := (i : Int)) (ls' := [(7, vi ((i : Int) + 1)), (5, vi (T k.toNat 8)), (8, vi x56), (6, vi (q : Int)), (0, vr P), (1, vi p), (2, vi sp), (3, vr 15), (4, vi d)]) rfl (by unfold I32 at *; omega) (Nat.le_of_ble_eq_true rfl) rfl ?_
              refine V_goto (pc := 109) dX4_writeInner_109 (tgt := 20) rfl ?_
              have hn : needB (T p.toNat 0) (T k.toNat 0) := by
                by_cases c_ : needB (T p.toNat 0) (T k.toNat 0)
                · first | exact c_ | (rw [if_pos c_] at hx56; exfalso; omega)
                · first | exact c_ | (rw [if_neg c_] at hx56; exfalso; omega)
              have e1 : (if i = 0 then [] else (if sp = -1 then ([] : List Int) else [sp])) = [sp] := by
                first
                  | exact if_pos (by omega)
                  | (rw [if_neg (by omega)]; first | exact if_pos (by omega) | exact if_neg (by omega))
              refine V_ls (ls' := [(7, vi ((i : Int) + 1)), (6, vi (q : Int)), (5, vi (T k.toNat 8)), (0, vr P), (1, vi p), (2, vi sp), (3, vr 15), (4, vi d)]) (by intro q_ h_; simp only [List.mem_cons, List.not_mem_nil, or_false] at h_ ⊢; rcases h_ with rfl | rfl | rfl | rfl | rfl | rfl | rfl | rfl <;> simp) ?_
              repeat rw [apM_app]
              rw [e1, if_pos hn, if_pos hn] at hKS
              refine ih (i + 1) (T k.toNat 8) _ (by omega) hP2 (by omega) ?_ (fun ls => ?_)
              · rw [hdec]
                rw [if_pos hn] at hr
                simp only [List.length_append, List.length_cons, List.length_nil]
                split at hr <;> (try split at hr) <;> omega
              · have h_ := kx ls
                rw [hKS] at h_
                rw [hdec]
                simpa only [List.append_assoc, List.cons_append, List.nil_append, List.append_nil] using h_
