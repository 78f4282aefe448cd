/-! the reference searches: one comes, goes on, turns -/
section STP
variable {F : Tb} {n may : Int} {hc : Nat → CEnv → Int} {cl : Nat → Int} {J : SJ}
theorem comeW_y {far : Int} (h : far + 1 < F (J.1 7).toNat 2) : comeW F J far = (0, setS (pushF F J (far + 1)) 7 (kidN F (J.1 7) far.toNat)) := by unfold comeW; rw [if_pos h]
theorem comeW_n {far : Int} (h : ¬ far + 1 < F (J.1 7).toNat 2) : comeW F J far = (0, setS J 7 (kidN F (J.1 7) far.toNat)) := by unfold comeW; rw [if_neg h]
theorem chooA_y {far : Int} (h : far + 1 < F (J.1 7).toNat 2) : chooA F J far = (0, setS (pushO J (far + 1)) 7 (kidN F (J.1 7) far.toNat)) := by unfold chooA; rw [if_pos h]
theorem chooA_n {far : Int} (h : ¬ far + 1 < F (J.1 7).toNat 2) : chooA F J far = (0, setS J 7 (kidN F (J.1 7) far.toNat)) := by unfold chooA; rw [if_neg h]
theorem takA_f {w : Int} (h : n ≤ J.1 9) : takA n hc cl J w = (2, J) := if_pos h
theorem takA_y {w : Int} (h : ¬ n ≤ J.1 9) (h2 : hc w.toNat (envJ (setL J (J.1 9).toNat w) n cl) = 1) : takA n hc cl J w = (1, setS (setL J (J.1 9).toNat w) 9 (J.1 9 + 1)) := (if_neg h).trans (if_pos h2)
theorem takA_n {w : Int} (h : ¬ n ≤ J.1 9) (h2 : ¬ hc w.toNat (envJ (setL J (J.1 9).toNat w) n cl) = 1) : takA n hc cl J w = (2, setL J (J.1 9).toNat w) := (if_neg h).trans (if_neg h2)
theorem cdR_01 (e : CEnv) (tx : Nat → Int) (k : Nat) : cdR e tx k = 0 ∨ cdR e tx k = 1 := by
  unfold cdR
  split
  · exact Or.inr rfl
  · exact bI_v _
end STP

set_option maxHeartbeats 16000000 in
theorem y_come (I0 : Nat → Nat → Int) (F : Tb) (c : Nat) (n : Int) (may : Int) (hcn : Nat → CEnv → Int) (cl : Nat → Int) (J : SJ) (m : Mem)    (hL : Lay (mT m) (mR m)) (hS : RB I0 F c n may hcn cl) (hZ : RZ I0 (mI m) F J) (hk4 : mI m 30 44 = 0 ∧ mI m 30 45 = 0) (hn : mI m 30 46 = J.1 7 ∧ mI m 30 47 = J.1 8) (hI : SI F c n may J ∧ CoI F c J) : Ct μX11_come 21 [vr 30] m (rv fun m' => ∃ I_ : Nat → Nat → Int, wI m I_ = m' ∧ RO I0 I_ F (comeA F n may hcn cl J)) := by
  refine Ct_of_V rfl (by decide) rfl (Nat.le_of_ble_eq_true rfl) ?_
  show V μX11_come 21 m _ 0 [(0, vr 30)] [] m
  obtain ⟨⟨i3, i5, i6, i10, i12, ifr, iop⟩, ⟨c7, c8, c9, c10⟩⟩ := hI
  have hW := hS.1.2.2
  have hc240 := hS.1.2.1
  have hSn := hS.2.1
  have ts := tab_s hW c7
  have hin := fun (_ : Unit) h => inn_kid (p := J.1 7) hW c7 h
  have hp : 0 ≤ J.1 3 ∧ J.1 3 < 5030 ∧ 0 ≤ J.1 7 ∧ J.1 7 < (c : Int) ∧ -1 ≤ J.1 8 ∧ J.1 8 ≤ 5030 ∧ 0 ≤ J.1 9 ∧ J.1 9 ≤ 32 := by refine ⟨i3.1, ?_, c7.1, c7.2, c8.1, ?_, ?_, ?_⟩ <;> omega
  have hq2 : 3 ≤ F (J.1 7).toNat 0 → 1 ≤ F (J.1 7).toNat 2 ∧ (F (J.1 7).toNat 0 ≠ 5 → 2 ≤ F (J.1 7).toNat 2) ∧ (F (J.1 7).toNat 0 = 5 → 0 ≤ F (J.1 7).toNat 3) := fun h => ⟨(hin () h).1, (hin () h).2.2.2.2.1, fun h5 => ((hin () h).2.2.2.2.2.1 h5).1⟩
  have hN : mI m 31 64 = n := RFz.gn hS (RZ.f hZ)
  obtain ⟨tx, n', hcd1, hcd2, hcd3⟩ : ∃ tx n', (F (J.1 7).toNat 0 = 0 → CdTx (mI m) 31 (F (J.1 7).toNat 1).toNat tx n') ∧ (n' ≠ 0 → (eitL tx n' 4 (true, 0)).2.2.1 = true) ∧ (F (J.1 7).toNat 0 = 0 → ∀ e, cdR e tx n' = hcn (F (J.1 7).toNat 1).toNat e) := by
    by_cases h0 : F (J.1 7).toNat 0 = 0
    · obtain ⟨tx, n', a, b, d⟩ := RFz.cd hS (RZ.f hZ) (w := (F (J.1 7).toNat 1).toNat) (by have h_ := ts.2.2.2.2.2 h0; omega)
      exact ⟨tx, n', fun _ => a, b, fun _ => d⟩
    · exact ⟨fun _ => 0, 0, fun h => absurd h h0, fun h => absurd rfl h, fun h => absurd h h0⟩
  refine V_ld (pc := 0) dX11_come_0 (v := vr 30) rfl rfl ?_
  refine V_getIv (pc := 1) dX11_come_1 (v := (J.1 7)) fw_RX11_282 rfl hL.t30 hn.1 (fun g1 => ?_)
  refine V_st (pc := 4) dX11_come_4 (ls' := [(1, vi (J.1 7)), (0, vr 30)]) rfl (Nat.le_of_ble_eq_true rfl) rfl ?_
  refine V_ld (pc := 5) dX11_come_5 (v := vr 30) rfl rfl ?_
  refine V_getIv (pc := 6) dX11_come_6 (v := (J.1 8)) fw_RX11_285 rfl hL.t30 hn.2 (fun g6 => ?_)
  refine V_st (pc := 9) dX11_come_9 (ls' := [(2, vi (J.1 8)), (1, vi (J.1 7)), (0, vr 30)]) rfl (Nat.le_of_ble_eq_true rfl) rfl ?_
  refine V_ld (pc := 10) dX11_come_10 (v := vr 30) rfl rfl ?_
  refine V_getRv (pc := 11) dX11_come_11 (o' := 35) fw_RX11_24 rfl hL.t30 hL.r30_10 ?_
  refine V_ld (pc := 14) dX11_come_14 (v := vi (J.1 7)) rfl rfl ?_
  refine V_ialdv (pc := 15) dX11_come_15 (v := (F (J.1 7).toNat 0)) hL.t35 (by omega) (RFz.at (w := 0) hS (RZ.f hZ) c7 (by decide)) (fun g15 => ?_)
  refine V_iconst (pc := 16) dX11_come_16 (by unfold I32; omega) ?_
  refine V_icmp_ne (pc := 17) dX11_come_17 (tgt := 43) rfl (fun h17 => ?_) (fun h17 => ?_)
  · skip
    refine V_ld (pc := 43) dX11_come_43 (v := vr 30) rfl rfl ?_
    refine V_getRv (pc := 44) dX11_come_44 (o' := 35) fw_RX11_24 rfl hL.t30 hL.r30_10 ?_
    refine V_ld (pc := 47) dX11_come_47 (v := vi (J.1 7)) rfl rfl ?_
    refine V_ialdv (pc := 48) dX11_come_48 (v := (F (J.1 7).toNat 0)) hL.t35 (by omega) (RFz.at (w := 0) hS (RZ.f hZ) c7 (by decide)) (fun g48 => ?_)
    refine V_bipush (pc := 49) dX11_come_49 (by unfold I32; omega) (by decide) ?_
    refine V_icmp_ne (pc := 51) dX11_come_51 (tgt := 64) rfl (fun h51 => ?_) (fun h51 => ?_)
    · skip
      refine V_ld (pc := 64) dX11_come_64 (v := vr 30) rfl rfl ?_
      refine V_getRv (pc := 65) dX11_come_65 (o' := 35) fw_RX11_24 rfl hL.t30 hL.r30_10 ?_
      refine V_ld (pc := 68) dX11_come_68 (v := vi (J.1 7)) rfl rfl ?_
      refine V_ialdv (pc := 69) dX11_come_69 (v := (F (J.1 7).toNat 0)) hL.t35 (by omega) (RFz.at (w := 0) hS (RZ.f hZ) c7 (by decide)) (fun g69 => ?_)
      refine V_iconst (pc := 70) dX11_come_70 (by unfold I32; omega) ?_
      refine V_icmp_ne (pc := 71) dX11_come_71 (tgt := 85) rfl (fun h71 => ?_) (fun h71 => ?_)
      · skip
        refine V_ld (pc := 85) dX11_come_85 (v := vr 30) rfl rfl ?_
        refine V_callV (pc := 86) dX11_come_86 (F' := 0) (As := []) (st := []) cw_RX11_296 rfl rfl hL.t30 (by decide) (Nat.le_of_ble_eq_true rfl) (by omega) (y_isTry (J.1 10) may m    (by first | assumption | omega) ⟨(hZ).2.1.2.2.2.2.1, by omega, by omega⟩ (RFz.gm hS (RZ.f hZ))) ?_
        rintro _ _ ⟨x86, rfl, (⟨hc86, hx86, rfl⟩ | ⟨hc86, hx86, rfl⟩)⟩ ok86 le86
        · skip
          subst hx86
          refine V_if_eq (pc := 89) dX11_come_89 (tgt := 243) rfl (fun _ => ?_) (fun h_ => absurd h_ (by decide))
          refine V_retv (pc := 243) dX11_come_243 trivial ?_
          first
            | (exfalso; omega)
            | (refine ⟨mI (setI m 30 44 1), rfl, ?_⟩
               rw [comeA_o (by omega) (by omega)]
               exact RO.ov hZ)
        · skip
          subst hx86
          refine V_if_eq (pc := 89) dX11_come_89 (tgt := 243) rfl (fun h_ => absurd h_ (by decide)) (fun _ => ?_)
          refine V_ld (pc := 92) dX11_come_92 (v := vr 30) rfl rfl ?_
          refine V_getRv (pc := 93) dX11_come_93 (o' := 35) fw_RX11_24 rfl hL.t30 hL.r30_10 ?_
          refine V_ld (pc := 96) dX11_come_96 (v := vi (J.1 7)) rfl rfl ?_
          refine V_ialdv (pc := 97) dX11_come_97 (v := (F (J.1 7).toNat 0)) hL.t35 (by omega) (RFz.at (w := 0) hS (RZ.f (RZ.set (J := J) (q := 39) (k := 10) (v := (J.1 10) + 1) hZ (Or.inr ⟨rfl, rfl⟩))) c7 (by decide)) (fun g97 => ?_)
          refine V_iconst (pc := 98) dX11_come_98 (by unfold I32; omega) ?_
          refine V_icmp_ne (pc := 99) dX11_come_99 (tgt := 123) rfl (fun h99 => ?_) (fun h99 => ?_)
          · skip
            refine V_ld (pc := 123) dX11_come_123 (v := vr 30) rfl rfl ?_
            refine V_getRv (pc := 124) dX11_come_124 (o' := 35) fw_RX11_24 rfl hL.t30 hL.r30_10 ?_
            refine V_ld (pc := 127) dX11_come_127 (v := vi (J.1 7)) rfl rfl ?_
            refine V_ialdv (pc := 128) dX11_come_128 (v := (F (J.1 7).toNat 0)) hL.t35 (by omega) (RFz.at (w := 0) hS (RZ.f (RZ.set (J := J) (q := 39) (k := 10) (v := (J.1 10) + 1) hZ (Or.inr ⟨rfl, rfl⟩))) c7 (by decide)) (fun g128 => ?_)
            refine V_if_ne (pc := 129) dX11_come_129 (tgt := 203) rfl (fun h129 => ?_) (fun h129 => ?_)
            · skip
              refine V_ld (pc := 203) dX11_come_203 (v := vr 30) rfl rfl ?_
              refine V_ld (pc := 204) dX11_come_204 (v := vr 30) rfl rfl ?_
              refine V_getIv (pc := 205) dX11_come_205 (v := (J.1 9)) fw_RX11_279 rfl hL.t30 ((RZ.set (J := J) (q := 39) (k := 10) (v := (J.1 10) + 1) hZ (Or.inr ⟨rfl, rfl⟩))).2.1.2.2.2.1 (fun g205 => ?_)
              refine V_ld (pc := 208) dX11_come_208 (v := vr 30) rfl rfl ?_
              refine V_getRv (pc := 209) dX11_come_209 (o' := 35) fw_RX11_24 rfl hL.t30 hL.r30_10 ?_
              refine V_ld (pc := 212) dX11_come_212 (v := vi (J.1 7)) rfl rfl ?_
              refine V_ialdv (pc := 213) dX11_come_213 (v := (F (J.1 7).toNat 0)) hL.t35 (by omega) (RFz.at (w := 0) hS (RZ.f (RZ.set (J := J) (q := 39) (k := 10) (v := (J.1 10) + 1) hZ (Or.inr ⟨rfl, rfl⟩))) c7 (by decide)) (fun g213 => ?_)
              refine V_iconst (pc := 214) dX11_come_214 (by unfold I32; omega) ?_
              refine V_icmp_ne (pc := 215) dX11_come_215 (tgt := 222) rfl (fun h215 => ?_) (fun h215 => ?_)
              · skip
                refine V_ld (pc := 222) dX11_come_222 (v := vr 30) rfl rfl ?_
                refine V_callV (pc := 223) dX11_come_223 (F' := 0) (As := []) (st := [vi (J.1 9), vr 30]) cw_RX11_97 rfl rfl hL.t30 (by decide) (Nat.le_of_ble_eq_true rfl) (by omega) (r_many  (setI m 30 39 ((J.1 10) + 1))    (by first | assumption | omega)) ?_
                rintro _ _ ⟨x223, rfl, hx223, rfl⟩ ok223 le223
                obtain rfl : x223 = (mI m 31 64) := hx223.trans rfl
                refine V_icmp_eq (pc := 226) dX11_come_226 (tgt := 233) rfl (fun h226 => ?_) (fun h226 => ?_)
                · skip
                  refine V_iconst (pc := 233) dX11_come_233 (by unfold I32; omega) ?_
                  refine V_putI (pc := 234) dX11_come_234 fw_RX11_299 rfl hL.t30 (Or.inl rfl) (Or.inr ⟨rfl, by first | exact Or.inl rfl | exact Or.inr rfl | omega⟩) ?_
                  refine V_ld (pc := 237) dX11_come_237 (v := vr 30) rfl rfl ?_
                  refine V_iconst (pc := 238) dX11_come_238 (by unfold I32; omega) ?_
                  refine V_ld (pc := 239) dX11_come_239 (v := vi (J.1 8)) rfl rfl ?_
                  refine V_callV (pc := 240) dX11_come_240 (F' := 0) (As := [vi (-1), vi (J.1 8)]) (st := []) cw_RX11_292 rfl rfl hL.t30 (by decide) (Nat.le_of_ble_eq_true rfl) (by omega) (y_goes  (setI (setI m 30 39 ((J.1 10) + 1)) 30 45 0) (-1) (J.1 8)   (by first | assumption | omega)) ?_
                  rintro _ _ ⟨rfl, rfl⟩ ok240 le240
                  refine V_retv (pc := 243) dX11_come_243 trivial ?_
                  first
                    | (exfalso; omega)
                    | (refine ⟨mI (setI (setI (setI (setI m 30 39 ((J.1 10) + 1)) 30 45 0) 30 46 (-1)) 30 47 (J.1 8)), rfl, ?_⟩
                       rw [comeA_t (by omega) (by omega), cm2_1 (J := tryJ J) (show F (J.1 7).toNat 0 = 1 by omega), if_pos (show (tryJ J).1 9 = 0 from (show J.1 9 = 0 by omega))]
                       exact RO.dn (RZ.s4 (J := (tryJ J)) (k := 45) (v := 0) (RZ.set (J := J) (q := 39) (k := 10) (v := (J.1 10) + 1) hZ (Or.inr ⟨rfl, rfl⟩)) (by omega)) hk4.1 rfl rfl)
                    | (refine ⟨mI (setI (setI (setI (setI m 30 39 ((J.1 10) + 1)) 30 45 0) 30 46 (-1)) 30 47 (J.1 8)), rfl, ?_⟩
                       rw [comeA_t (by omega) (by omega), cm2_2 (J := tryJ J) (show F (J.1 7).toNat 0 = 2 by omega), if_pos (show (tryJ J).1 9 = n from (show J.1 9 = n by omega))]
                       exact RO.dn (RZ.s4 (J := (tryJ J)) (k := 45) (v := 0) (RZ.set (J := J) (q := 39) (k := 10) (v := (J.1 10) + 1) hZ (Or.inr ⟨rfl, rfl⟩)) (by omega)) hk4.1 rfl rfl)
                · skip
                  refine V_iconst (pc := 229) dX11_come_229 (by unfold I32; omega) ?_
                  refine V_goto (pc := 230) dX11_come_230 (tgt := 234) rfl ?_
                  refine V_putI (pc := 234) dX11_come_234 fw_RX11_299 rfl hL.t30 (Or.inl rfl) (Or.inr ⟨rfl, by first | exact Or.inl rfl | exact Or.inr rfl | omega⟩) ?_
                  refine V_ld (pc := 237) dX11_come_237 (v := vr 30) rfl rfl ?_
                  refine V_iconst (pc := 238) dX11_come_238 (by unfold I32; omega) ?_
                  refine V_ld (pc := 239) dX11_come_239 (v := vi (J.1 8)) rfl rfl ?_
                  refine V_callV (pc := 240) dX11_come_240 (F' := 0) (As := [vi (-1), vi (J.1 8)]) (st := []) cw_RX11_292 rfl rfl hL.t30 (by decide) (Nat.le_of_ble_eq_true rfl) (by omega) (y_goes  (setI (setI m 30 39 ((J.1 10) + 1)) 30 45 1) (-1) (J.1 8)   (by first | assumption | omega)) ?_
                  rintro _ _ ⟨rfl, rfl⟩ ok240 le240
                  refine V_retv (pc := 243) dX11_come_243 trivial ?_
                  first
                    | (exfalso; omega)
                    | (refine ⟨mI (setI (setI (setI (setI m 30 39 ((J.1 10) + 1)) 30 45 1) 30 46 (-1)) 30 47 (J.1 8)), rfl, ?_⟩
                       rw [comeA_t (by omega) (by omega), cm2_0 (J := tryJ J) (show F (J.1 7).toNat 0 = 0 by omega), takA_f (J := tryJ J) (show n ≤ J.1 9 by omega)]
                       exact RO.fd (RZ.s4 (J := (tryJ J)) (k := 45) (v := 1) (RZ.set (J := J) (q := 39) (k := 10) (v := (J.1 10) + 1) hZ (Or.inr ⟨rfl, rfl⟩)) (by omega)) hk4.1 rfl)
                    | (refine ⟨mI (setI (setI (setI (setI m 30 39 ((J.1 10) + 1)) 30 45 1) 30 46 (-1)) 30 47 (J.1 8)), rfl, ?_⟩
                       rw [comeA_t (by omega) (by omega), cm2_1 (J := tryJ J) (show F (J.1 7).toNat 0 = 1 by omega), if_neg (show ¬ (tryJ J).1 9 = 0 from (show ¬ J.1 9 = 0 by omega))]
                       exact RO.fd (RZ.s4 (J := (tryJ J)) (k := 45) (v := 1) (RZ.set (J := J) (q := 39) (k := 10) (v := (J.1 10) + 1) hZ (Or.inr ⟨rfl, rfl⟩)) (by omega)) hk4.1 rfl)
                    | (refine ⟨mI (setI (setI (setI (setI m 30 39 ((J.1 10) + 1)) 30 45 1) 30 46 (-1)) 30 47 (J.1 8)), rfl, ?_⟩
                       rw [comeA_t (by omega) (by omega), cm2_2 (J := tryJ J) (show F (J.1 7).toNat 0 = 2 by omega), if_neg (show ¬ (tryJ J).1 9 = n from (show ¬ J.1 9 = n by omega))]
                       exact RO.fd (RZ.s4 (J := (tryJ J)) (k := 45) (v := 1) (RZ.set (J := J) (q := 39) (k := 10) (v := (J.1 10) + 1) hZ (Or.inr ⟨rfl, rfl⟩)) (by omega)) hk4.1 rfl)
              · skip
                refine V_iconst (pc := 218) dX11_come_218 (by unfold I32; omega) ?_
                refine V_goto (pc := 219) dX11_come_219 (tgt := 226) rfl ?_
                refine V_icmp_eq (pc := 226) dX11_come_226 (tgt := 233) rfl (fun h226 => ?_) (fun h226 => ?_)
                · skip
                  refine V_iconst (pc := 233) dX11_come_233 (by unfold I32; omega) ?_
                  refine V_putI (pc := 234) dX11_come_234 fw_RX11_299 rfl hL.t30 (Or.inl rfl) (Or.inr ⟨rfl, by first | exact Or.inl rfl | exact Or.inr rfl | omega⟩) ?_
                  refine V_ld (pc := 237) dX11_come_237 (v := vr 30) rfl rfl ?_
                  refine V_iconst (pc := 238) dX11_come_238 (by unfold I32; omega) ?_
                  refine V_ld (pc := 239) dX11_come_239 (v := vi (J.1 8)) rfl rfl ?_
                  refine V_callV (pc := 240) dX11_come_240 (F' := 0) (As := [vi (-1), vi (J.1 8)]) (st := []) cw_RX11_292 rfl rfl hL.t30 (by decide) (Nat.le_of_ble_eq_true rfl) (by omega) (y_goes  (setI (setI m 30 39 ((J.1 10) + 1)) 30 45 0) (-1) (J.1 8)   (by first | assumption | omega)) ?_
                  rintro _ _ ⟨rfl, rfl⟩ ok240 le240
                  refine V_retv (pc := 243) dX11_come_243 trivial ?_
                  first
                    | (exfalso; omega)
                    | (refine ⟨mI (setI (setI (setI (setI m 30 39 ((J.1 10) + 1)) 30 45 0) 30 46 (-1)) 30 47 (J.1 8)), rfl, ?_⟩
                       rw [comeA_t (by omega) (by omega), cm2_1 (J := tryJ J) (show F (J.1 7).toNat 0 = 1 by omega), if_pos (show (tryJ J).1 9 = 0 from (show J.1 9 = 0 by omega))]
                       exact RO.dn (RZ.s4 (J := (tryJ J)) (k := 45) (v := 0) (RZ.set (J := J) (q := 39) (k := 10) (v := (J.1 10) + 1) hZ (Or.inr ⟨rfl, rfl⟩)) (by omega)) hk4.1 rfl rfl)
                    | (refine ⟨mI (setI (setI (setI (setI m 30 39 ((J.1 10) + 1)) 30 45 0) 30 46 (-1)) 30 47 (J.1 8)), rfl, ?_⟩
                       rw [comeA_t (by omega) (by omega), cm2_2 (J := tryJ J) (show F (J.1 7).toNat 0 = 2 by omega), if_pos (show (tryJ J).1 9 = n from (show J.1 9 = n by omega))]
                       exact RO.dn (RZ.s4 (J := (tryJ J)) (k := 45) (v := 0) (RZ.set (J := J) (q := 39) (k := 10) (v := (J.1 10) + 1) hZ (Or.inr ⟨rfl, rfl⟩)) (by omega)) hk4.1 rfl rfl)
                · skip
                  refine V_iconst (pc := 229) dX11_come_229 (by unfold I32; omega) ?_
                  refine V_goto (pc := 230) dX11_come_230 (tgt := 234) rfl ?_
                  refine V_putI (pc := 234) dX11_come_234 fw_RX11_299 rfl hL.t30 (Or.inl rfl) (Or.inr ⟨rfl, by first | exact Or.inl rfl | exact Or.inr rfl | omega⟩) ?_
                  refine V_ld (pc := 237) dX11_come_237 (v := vr 30) rfl rfl ?_
                  refine V_iconst (pc := 238) dX11_come_238 (by unfold I32; omega) ?_
                  refine V_ld (pc := 239) dX11_come_239 (v := vi (J.1 8)) rfl rfl ?_
                  refine V_callV (pc := 240) dX11_come_240 (F' := 0) (As := [vi (-1), vi (J.1 8)]) (st := []) cw_RX11_292 rfl rfl hL.t30 (by decide) (Nat.le_of_ble_eq_true rfl) (by omega) (y_goes  (setI (setI m 30 39 ((J.1 10) + 1)) 30 45 1) (-1) (J.1 8)   (by first | assumption | omega)) ?_
                  rintro _ _ ⟨rfl, rfl⟩ ok240 le240
                  refine V_retv (pc := 243) dX11_come_243 trivial ?_
                  first
                    | (exfalso; omega)
                    | (refine ⟨mI (setI (setI (setI (setI m 30 39 ((J.1 10) + 1)) 30 45 1) 30 46 (-1)) 30 47 (J.1 8)), rfl, ?_⟩
                       rw [comeA_t (by omega) (by omega), cm2_0 (J := tryJ J) (show F (J.1 7).toNat 0 = 0 by omega), takA_f (J := tryJ J) (show n ≤ J.1 9 by omega)]
                       exact RO.fd (RZ.s4 (J := (tryJ J)) (k := 45) (v := 1) (RZ.set (J := J) (q := 39) (k := 10) (v := (J.1 10) + 1) hZ (Or.inr ⟨rfl, rfl⟩)) (by omega)) hk4.1 rfl)
                    | (refine ⟨mI (setI (setI (setI (setI m 30 39 ((J.1 10) + 1)) 30 45 1) 30 46 (-1)) 30 47 (J.1 8)), rfl, ?_⟩
                       rw [comeA_t (by omega) (by omega), cm2_1 (J := tryJ J) (show F (J.1 7).toNat 0 = 1 by omega), if_neg (show ¬ (tryJ J).1 9 = 0 from (show ¬ J.1 9 = 0 by omega))]
                       exact RO.fd (RZ.s4 (J := (tryJ J)) (k := 45) (v := 1) (RZ.set (J := J) (q := 39) (k := 10) (v := (J.1 10) + 1) hZ (Or.inr ⟨rfl, rfl⟩)) (by omega)) hk4.1 rfl)
                    | (refine ⟨mI (setI (setI (setI (setI m 30 39 ((J.1 10) + 1)) 30 45 1) 30 46 (-1)) 30 47 (J.1 8)), rfl, ?_⟩
                       rw [comeA_t (by omega) (by omega), cm2_2 (J := tryJ J) (show F (J.1 7).toNat 0 = 2 by omega), if_neg (show ¬ (tryJ J).1 9 = n from (show ¬ J.1 9 = n by omega))]
                       exact RO.fd (RZ.s4 (J := (tryJ J)) (k := 45) (v := 1) (RZ.set (J := J) (q := 39) (k := 10) (v := (J.1 10) + 1) hZ (Or.inr ⟨rfl, rfl⟩)) (by omega)) hk4.1 rfl)
            · skip
              refine V_ld (pc := 132) dX11_come_132 (v := vr 30) rfl rfl ?_
              refine V_ld (pc := 133) dX11_come_133 (v := vr 30) rfl rfl ?_
              refine V_getIv (pc := 134) dX11_come_134 (v := (J.1 9)) fw_RX11_279 rfl hL.t30 ((RZ.set (J := J) (q := 39) (k := 10) (v := (J.1 10) + 1) hZ (Or.inr ⟨rfl, rfl⟩))).2.1.2.2.2.1 (fun g134 => ?_)
              refine V_ld (pc := 137) dX11_come_137 (v := vr 30) rfl rfl ?_
              refine V_callV (pc := 138) dX11_come_138 (F' := 0) (As := []) (st := [vi (J.1 9), vr 30]) cw_RX11_97 rfl rfl hL.t30 (by decide) (Nat.le_of_ble_eq_true rfl) (by omega) (r_many  (setI m 30 39 ((J.1 10) + 1))    (by first | assumption | omega)) ?_
              rintro _ _ ⟨x138, rfl, hx138, rfl⟩ ok138 le138
              obtain rfl : x138 = (mI m 31 64) := hx138.trans rfl
              refine V_icmp_eq (pc := 141) dX11_come_141 (tgt := 165) rfl (fun h141 => ?_) (fun h141 => ?_)
              · skip
                refine V_iconst (pc := 165) dX11_come_165 (by unfold I32; omega) ?_
                refine V_goto (pc := 166) dX11_come_166 (tgt := 170) rfl ?_
                refine V_putI (pc := 170) dX11_come_170 fw_RX11_299 rfl hL.t30 (Or.inl rfl) (Or.inr ⟨rfl, by first | exact Or.inl rfl | exact Or.inr rfl | omega⟩) ?_
                refine V_ld (pc := 173) dX11_come_173 (v := vr 30) rfl rfl ?_
                refine V_dup (pc := 174) dX11_come_174 rfl ?_
                refine V_getIv (pc := 175) dX11_come_175 (v := (J.1 9)) fw_RX11_279 rfl hL.t30 (by first | exact ((RZ.set (J := J) (q := 39) (k := 10) (v := (J.1 10) + 1) hZ (Or.inr ⟨rfl, rfl⟩))).2.1.2.2.2.1 | (simp only [mI_setI, up2]; repeat (first | exact ((RZ.set (J := J) (q := 39) (k := 10) (v := (J.1 10) + 1) hZ (Or.inr ⟨rfl, rfl⟩))).2.1.2.2.2.1 | rw [if_neg (by omega)]))) (fun g175 => ?_)
                refine V_ld (pc := 178) dX11_come_178 (v := vr 30) rfl rfl ?_
                refine V_getIv (pc := 179) dX11_come_179 (v := 1) fw_RX11_299 rfl hL.t30 (by first | rfl | (simp only [mI_setI, up2]; repeat (first | rfl | rw [if_neg (by omega)] | rw [if_pos (by omega)]))) (fun g179 => ?_)
                refine V_if_eq (pc := 182) dX11_come_182 (tgt := 189) rfl (fun h_ => absurd h_ (by decide)) (fun _ => ?_)
                refine V_iconst (pc := 185) dX11_come_185 (by unfold I32; omega) ?_
                refine V_goto (pc := 186) dX11_come_186 (tgt := 190) rfl ?_
                refine V_iadd (pc := 190) dX11_come_190 (by unfold I32 at *; omega) ?_
                refine V_putI (pc := 191) dX11_come_191 fw_RX11_279 rfl hL.t30 (Or.inl rfl) (Or.inl rfl) ?_
                refine V_ld (pc := 194) dX11_come_194 (v := vr 30) rfl rfl ?_
                refine V_iconst (pc := 195) dX11_come_195 (by unfold I32; omega) ?_
                refine V_ld (pc := 196) dX11_come_196 (v := vi (J.1 8)) rfl rfl ?_
                refine V_callV (pc := 197) dX11_come_197 (F' := 0) (As := [vi (-1), vi (J.1 8)]) (st := []) cw_RX11_292 rfl rfl hL.t30 (by decide) (Nat.le_of_ble_eq_true rfl) (by omega) (y_goes  (setI (setI (setI m 30 39 ((J.1 10) + 1)) 30 45 1) 30 40 ((J.1 9) + 0)) (-1) (J.1 8)   (by first | assumption | omega)) ?_
                rintro _ _ ⟨rfl, rfl⟩ ok197 le197
                refine V_goto (pc := 200) dX11_come_200 (tgt := 243) rfl ?_
                refine V_retv (pc := 243) dX11_come_243 trivial ?_
                first
                  | (exfalso; omega)
                  | (refine ⟨mI (setI (setI (setI (setI (setI m 30 39 ((J.1 10) + 1)) 30 45 1) 30 40 ((J.1 9) + 0)) 30 46 (-1)) 30 47 (J.1 8)), rfl, ?_⟩
                     rw [comeA_t (by omega) (by omega), cm2_0 (J := tryJ J) (show F (J.1 7).toNat 0 = 0 by omega), takA_f (J := tryJ J) (show n ≤ J.1 9 by omega)]
                     exact RO.fd (RZ.s40 (J := (tryJ J)) (v := (J.1 9) + 0) (RZ.s4 (J := (tryJ J)) (k := 45) (v := 1) (RZ.set (J := J) (q := 39) (k := 10) (v := (J.1 10) + 1) hZ (Or.inr ⟨rfl, rfl⟩)) (by omega)) (show (J.1 9) + 0 = J.1 9 by omega)) hk4.1 rfl)
                  | (refine ⟨mI (setI (setI (setI (setI (setI m 30 39 ((J.1 10) + 1)) 30 45 1) 30 40 ((J.1 9) + 0)) 30 46 (-1)) 30 47 (J.1 8)), rfl, ?_⟩
                     rw [comeA_t (by omega) (by omega), cm2_1 (J := tryJ J) (show F (J.1 7).toNat 0 = 1 by omega), if_neg (show ¬ (tryJ J).1 9 = 0 from (show ¬ J.1 9 = 0 by omega))]
                     exact RO.fd (RZ.s40 (J := (tryJ J)) (v := (J.1 9) + 0) (RZ.s4 (J := (tryJ J)) (k := 45) (v := 1) (RZ.set (J := J) (q := 39) (k := 10) (v := (J.1 10) + 1) hZ (Or.inr ⟨rfl, rfl⟩)) (by omega)) (show (J.1 9) + 0 = J.1 9 by omega)) hk4.1 rfl)
                  | (refine ⟨mI (setI (setI (setI (setI (setI m 30 39 ((J.1 10) + 1)) 30 45 1) 30 40 ((J.1 9) + 0)) 30 46 (-1)) 30 47 (J.1 8)), rfl, ?_⟩
                     rw [comeA_t (by omega) (by omega), cm2_2 (J := tryJ J) (show F (J.1 7).toNat 0 = 2 by omega), if_neg (show ¬ (tryJ J).1 9 = n from (show ¬ J.1 9 = n by omega))]
                     exact RO.fd (RZ.s40 (J := (tryJ J)) (v := (J.1 9) + 0) (RZ.s4 (J := (tryJ J)) (k := 45) (v := 1) (RZ.set (J := J) (q := 39) (k := 10) (v := (J.1 10) + 1) hZ (Or.inr ⟨rfl, rfl⟩)) (by omega)) (show (J.1 9) + 0 = J.1 9 by omega)) hk4.1 rfl)
              · skip
                refine V_ld (pc := 144) dX11_come_144 (v := vr 30) rfl rfl ?_
                refine V_ld (pc := 145) dX11_come_145 (v := vr 30) rfl rfl ?_
                refine V_getRv (pc := 146) dX11_come_146 (o' := 36) fw_RX11_27 rfl hL.t30 hL.r30_11 ?_
                refine V_ld (pc := 149) dX11_come_149 (v := vi (J.1 7)) rfl rfl ?_
                refine V_ialdv (pc := 150) dX11_come_150 (v := (F (J.1 7).toNat 1)) hL.t36 (by omega) (RFz.at (w := 1) hS (RZ.f (RZ.set (J := J) (q := 39) (k := 10) (v := (J.1 10) + 1) hZ (Or.inr ⟨rfl, rfl⟩))) c7 (by decide)) (fun g150 => ?_)
                refine V_ld (pc := 151) dX11_come_151 (v := vr 30) rfl rfl ?_
                refine V_getIv (pc := 152) dX11_come_152 (v := (J.1 6)) fw_RX11_326 rfl hL.t30 ((RZ.set (J := J) (q := 39) (k := 10) (v := (J.1 10) + 1) hZ (Or.inr ⟨rfl, rfl⟩))).2.1.2.2.1 (fun g152 => ?_)
                refine V_ld (pc := 155) dX11_come_155 (v := vr 30) rfl rfl ?_
                refine V_getIv (pc := 156) dX11_come_156 (v := (J.1 9)) fw_RX11_279 rfl hL.t30 ((RZ.set (J := J) (q := 39) (k := 10) (v := (J.1 10) + 1) hZ (Or.inr ⟨rfl, rfl⟩))).2.1.2.2.2.1 (fun g156 => ?_)
                refine V_callV (pc := 159) dX11_come_159 (F' := 20) (As := [vi (F (J.1 7).toNat 1), vi (J.1 6), vi (J.1 9)]) (st := [vr 30]) cw_RX11_263 rfl rfl hL.t30 (by decide) (Nat.le_of_ble_eq_true rfl) (by omega) (r_isHolding tx n' (setI m 30 39 ((J.1 10) + 1)) (F (J.1 7).toNat 1) (J.1 6) (J.1 9)   (by first | assumption | omega) (show 0 ≤ (F (J.1 7).toNat 1) ∧ (F (J.1 7).toNat 1) < 26 ∧ 0 ≤ J.1 6 ∧ J.1 6 ≤ J.1 9 ∧ J.1 9 < mI m 31 64 ∧ mI m 31 64 ≤ 32 ∧ (mI m 30 27 = 0 ∨ mI m 30 27 = 1) ∧ ∀ k, k < 64 → -999 ≤ mI m 31 k ∧ mI m 31 k ≤ 1000 from ⟨by omega, by omega, by omega, by omega, by omega, by omega, hZ.1.2.2, fun k hk => (RFz.cell hS (RZ.f hZ) hk).2⟩) (hcd1 (by omega)) hcd2) ?_
                rintro _ _ ⟨x159, rfl, Ix159, rfl, hx159, hF159, hw159, hl159⟩ ok159 le159
                have hev159 : x159 = hcn (F (J.1 7).toNat 1).toNat (envJ (setL (tryJ J) (J.1 9).toNat (F (J.1 7).toNat 1)) n cl) := hx159.trans ((hcd3 (by omega) _).trans (congrArg (hcn _) (envH_J (J := tryJ J) hS (RZ.set (J := J) (q := 39) (k := 10) (v := (J.1 10) + 1) hZ (Or.inr ⟨rfl, rfl⟩)))))
                have hx01 : x159 = 0 ∨ x159 = 1 := by rw [hx159]; exact cdR_01 _ _ _
                refine V_if_ne (pc := 162) dX11_come_162 (tgt := 169) rfl (fun h162 => ?_) (fun h162 => ?_)
                · skip
                  refine V_iconst (pc := 169) dX11_come_169 (by unfold I32; omega) ?_
                  refine V_putI (pc := 170) dX11_come_170 fw_RX11_299 rfl hL.t30 (Or.inl rfl) (Or.inr ⟨rfl, by first | exact Or.inl rfl | exact Or.inr rfl | omega⟩) ?_
                  refine V_ld (pc := 173) dX11_come_173 (v := vr 30) rfl rfl ?_
                  refine V_dup (pc := 174) dX11_come_174 rfl ?_
                  refine V_getIv (pc := 175) dX11_come_175 (v := (J.1 9)) fw_RX11_279 rfl hL.t30 (by first | exact ((RZ.hold (J := tryJ J) (w := (F (J.1 7).toNat 1)) (RZ.set (J := J) (q := 39) (k := 10) (v := (J.1 10) + 1) hZ (Or.inr ⟨rfl, rfl⟩)) hF159 hw159 hl159)).2.1.2.2.2.1 | (simp only [mI_setI, up2]; repeat (first | exact ((RZ.hold (J := tryJ J) (w := (F (J.1 7).toNat 1)) (RZ.set (J := J) (q := 39) (k := 10) (v := (J.1 10) + 1) hZ (Or.inr ⟨rfl, rfl⟩)) hF159 hw159 hl159)).2.1.2.2.2.1 | rw [if_neg (by omega)]))) (fun g175 => ?_)
                  refine V_ld (pc := 178) dX11_come_178 (v := vr 30) rfl rfl ?_
                  refine V_getIv (pc := 179) dX11_come_179 (v := 0) fw_RX11_299 rfl hL.t30 (by first | rfl | (simp only [mI_setI, up2]; repeat (first | rfl | rw [if_neg (by omega)] | rw [if_pos (by omega)]))) (fun g179 => ?_)
                  refine V_if_eq (pc := 182) dX11_come_182 (tgt := 189) rfl (fun _ => ?_) (fun h_ => absurd h_ (by decide))
                  refine V_iconst (pc := 189) dX11_come_189 (by unfold I32; omega) ?_
                  refine V_iadd (pc := 190) dX11_come_190 (by unfold I32 at *; omega) ?_
                  refine V_putI (pc := 191) dX11_come_191 fw_RX11_279 rfl hL.t30 (Or.inl rfl) (Or.inl rfl) ?_
                  refine V_ld (pc := 194) dX11_come_194 (v := vr 30) rfl rfl ?_
                  refine V_iconst (pc := 195) dX11_come_195 (by unfold I32; omega) ?_
                  refine V_ld (pc := 196) dX11_come_196 (v := vi (J.1 8)) rfl rfl ?_
                  refine V_callV (pc := 197) dX11_come_197 (F' := 0) (As := [vi (-1), vi (J.1 8)]) (st := []) cw_RX11_292 rfl rfl hL.t30 (by decide) (Nat.le_of_ble_eq_true rfl) (by omega) (y_goes  (setI (setI (wI (setI m 30 39 ((J.1 10) + 1)) Ix159) 30 45 0) 30 40 ((J.1 9) + 1)) (-1) (J.1 8)   (by first | assumption | omega)) ?_
                  rintro _ _ ⟨rfl, rfl⟩ ok197 le197
                  refine V_goto (pc := 200) dX11_come_200 (tgt := 243) rfl ?_
                  refine V_retv (pc := 243) dX11_come_243 trivial ?_
                  first
                    | (exfalso; omega)
                    | (refine ⟨mI (setI (setI (setI (setI (wI (setI m 30 39 ((J.1 10) + 1)) Ix159) 30 45 0) 30 40 ((J.1 9) + 1)) 30 46 (-1)) 30 47 (J.1 8)), rfl, ?_⟩
                       rw [comeA_t (by omega) (by omega), cm2_0 (J := tryJ J) (show F (J.1 7).toNat 0 = 0 by omega), takA_y (J := tryJ J) (w := F ((tryJ J).1 7).toNat 1) (show ¬ n ≤ J.1 9 by omega) (show hcn (F (J.1 7).toNat 1).toNat (envJ (setL (tryJ J) (J.1 9).toNat (F (J.1 7).toNat 1)) n cl) = 1 from (by rw [← hev159]; omega))]
                       exact RO.dn (RZ.set (J := (setL (tryJ J) (J.1 9).toNat (F (J.1 7).toNat 1))) (q := 40) (k := 9) (v := (J.1 9) + 1) (RZ.s4 (J := (setL (tryJ J) (J.1 9).toNat (F (J.1 7).toNat 1))) (k := 45) (v := 0) (RZ.hold (J := tryJ J) (w := (F (J.1 7).toNat 1)) (RZ.set (J := J) (q := 39) (k := 10) (v := (J.1 10) + 1) hZ (Or.inr ⟨rfl, rfl⟩)) hF159 hw159 hl159) (by omega)) (Or.inl ⟨rfl, rfl⟩)) ((hF159 30 44 (by decide) (by omega) (by omega)).trans hk4.1) rfl rfl)
                · skip
                  refine V_iconst (pc := 165) dX11_come_165 (by unfold I32; omega) ?_
                  refine V_goto (pc := 166) dX11_come_166 (tgt := 170) rfl ?_
                  refine V_putI (pc := 170) dX11_come_170 fw_RX11_299 rfl hL.t30 (Or.inl rfl) (Or.inr ⟨rfl, by first | exact Or.inl rfl | exact Or.inr rfl | omega⟩) ?_
                  refine V_ld (pc := 173) dX11_come_173 (v := vr 30) rfl rfl ?_
                  refine V_dup (pc := 174) dX11_come_174 rfl ?_
                  refine V_getIv (pc := 175) dX11_come_175 (v := (J.1 9)) fw_RX11_279 rfl hL.t30 (by first | exact ((RZ.hold (J := tryJ J) (w := (F (J.1 7).toNat 1)) (RZ.set (J := J) (q := 39) (k := 10) (v := (J.1 10) + 1) hZ (Or.inr ⟨rfl, rfl⟩)) hF159 hw159 hl159)).2.1.2.2.2.1 | (simp only [mI_setI, up2]; repeat (first | exact ((RZ.hold (J := tryJ J) (w := (F (J.1 7).toNat 1)) (RZ.set (J := J) (q := 39) (k := 10) (v := (J.1 10) + 1) hZ (Or.inr ⟨rfl, rfl⟩)) hF159 hw159 hl159)).2.1.2.2.2.1 | rw [if_neg (by omega)]))) (fun g175 => ?_)
                  refine V_ld (pc := 178) dX11_come_178 (v := vr 30) rfl rfl ?_
                  refine V_getIv (pc := 179) dX11_come_179 (v := 1) fw_RX11_299 rfl hL.t30 (by first | rfl | (simp only [mI_setI, up2]; repeat (first | rfl | rw [if_neg (by omega)] | rw [if_pos (by omega)]))) (fun g179 => ?_)
                  refine V_if_eq (pc := 182) dX11_come_182 (tgt := 189) rfl (fun h_ => absurd h_ (by decide)) (fun _ => ?_)
                  refine V_iconst (pc := 185) dX11_come_185 (by unfold I32; omega) ?_
                  refine V_goto (pc := 186) dX11_come_186 (tgt := 190) rfl ?_
                  refine V_iadd (pc := 190) dX11_come_190 (by unfold I32 at *; omega) ?_
                  refine V_putI (pc := 191) dX11_come_191 fw_RX11_279 rfl hL.t30 (Or.inl rfl) (Or.inl rfl) ?_
                  refine V_ld (pc := 194) dX11_come_194 (v := vr 30) rfl rfl ?_
                  refine V_iconst (pc := 195) dX11_come_195 (by unfold I32; omega) ?_
                  refine V_ld (pc := 196) dX11_come_196 (v := vi (J.1 8)) rfl rfl ?_
                  refine V_callV (pc := 197) dX11_come_197 (F' := 0) (As := [vi (-1), vi (J.1 8)]) (st := []) cw_RX11_292 rfl rfl hL.t30 (by decide) (Nat.le_of_ble_eq_true rfl) (by omega) (y_goes  (setI (setI (wI (setI m 30 39 ((J.1 10) + 1)) Ix159) 30 45 1) 30 40 ((J.1 9) + 0)) (-1) (J.1 8)   (by first | assumption | omega)) ?_
                  rintro _ _ ⟨rfl, rfl⟩ ok197 le197
                  refine V_goto (pc := 200) dX11_come_200 (tgt := 243) rfl ?_
                  refine V_retv (pc := 243) dX11_come_243 trivial ?_
                  first
                    | (exfalso; omega)
                    | (refine ⟨mI (setI (setI (setI (setI (wI (setI m 30 39 ((J.1 10) + 1)) Ix159) 30 45 1) 30 40 ((J.1 9) + 0)) 30 46 (-1)) 30 47 (J.1 8)), rfl, ?_⟩
                       rw [comeA_t (by omega) (by omega), cm2_0 (J := tryJ J) (show F (J.1 7).toNat 0 = 0 by omega), takA_n (J := tryJ J) (w := F ((tryJ J).1 7).toNat 1) (show ¬ n ≤ J.1 9 by omega) (show ¬ hcn (F (J.1 7).toNat 1).toNat (envJ (setL (tryJ J) (J.1 9).toNat (F (J.1 7).toNat 1)) n cl) = 1 from (by rw [← hev159]; omega))]
                       exact RO.fd (RZ.s40 (J := (setL (tryJ J) (J.1 9).toNat (F (J.1 7).toNat 1))) (v := (J.1 9) + 0) (RZ.s4 (J := (setL (tryJ J) (J.1 9).toNat (F (J.1 7).toNat 1))) (k := 45) (v := 1) (RZ.hold (J := tryJ J) (w := (F (J.1 7).toNat 1)) (RZ.set (J := J) (q := 39) (k := 10) (v := (J.1 10) + 1) hZ (Or.inr ⟨rfl, rfl⟩)) hF159 hw159 hl159) (by omega)) (show (J.1 9) + 0 = J.1 9 by omega)) ((hF159 30 44 (by decide) (by omega) (by omega)).trans hk4.1) rfl)
          · skip
            refine V_ld (pc := 102) dX11_come_102 (v := vr 30) rfl rfl ?_
            refine V_ld (pc := 103) dX11_come_103 (v := vi (J.1 7)) rfl rfl ?_
            refine V_iconst (pc := 104) dX11_come_104 (by unfold I32; omega) ?_
            refine V_ld (pc := 105) dX11_come_105 (v := vi (J.1 8)) rfl rfl ?_
            refine V_callV (pc := 106) dX11_come_106 (F' := 0) (As := [vi (J.1 7), vi 1, vi (J.1 8)]) (st := []) cw_RX11_306 rfl rfl hL.t30 (by decide) (Nat.le_of_ble_eq_true rfl) (by omega) (y_leaves (J.1 3) (J.1 5) (J.1 9) (setI m 30 39 ((J.1 10) + 1)) (J.1 7) 1 (J.1 8)   (by first | assumption | omega) ⟨((RZ.set (J := J) (q := 39) (k := 10) (v := (J.1 10) + 1) hZ (Or.inr ⟨rfl, rfl⟩))).2.1.1, by omega, by omega⟩ ⟨((RZ.set (J := J) (q := 39) (k := 10) (v := (J.1 10) + 1) hZ (Or.inr ⟨rfl, rfl⟩))).2.1.2.1, by omega, by omega⟩ ((RZ.set (J := J) (q := 39) (k := 10) (v := (J.1 10) + 1) hZ (Or.inr ⟨rfl, rfl⟩))).2.1.2.2.2.1 (by omega)) ?_
            rintro _ _ ⟨rfl, rfl⟩ ok106 le106
            refine V_ld (pc := 109) dX11_come_109 (v := vr 30) rfl rfl ?_
            refine V_ld (pc := 110) dX11_come_110 (v := vr 30) rfl rfl ?_
            refine V_getRv (pc := 111) dX11_come_111 (o' := 41) fw_RX11_42 rfl hL.t30 hL.r30_16 ?_
            refine V_ld (pc := 114) dX11_come_114 (v := vi (J.1 7)) rfl rfl ?_
            refine V_ialdv (pc := 115) dX11_come_115 (v := (F (J.1 7).toNat 7)) hL.t41 (by omega) (RFz.at (w := 7) hS (RZ.f (RZ.lv (J := (tryJ J)) (far := 1) (RZ.set (J := J) (q := 39) (k := 10) (v := (J.1 10) + 1) hZ (Or.inr ⟨rfl, rfl⟩)) (show 0 ≤ (J.1 5) by omega) (LfR.o (show F (J.1 7).toNat 0 ≠ 6 by omega) rfl))) c7 (by decide)) (fun g115 => ?_)
            refine V_ld (pc := 116) dX11_come_116 (v := vi (J.1 8)) rfl rfl ?_
            refine V_callV (pc := 117) dX11_come_117 (F' := 0) (As := [vi (F (J.1 7).toNat 7), vi (J.1 8)]) (st := []) cw_RX11_292 rfl rfl hL.t30 (by decide) (Nat.le_of_ble_eq_true rfl) (by omega) (y_goes  (setI (setI (setI (setI (setI (setI m 30 39 ((J.1 10) + 1)) 51 (J.1 5).toNat (J.1 7)) 52 (J.1 5).toNat 1) 53 (J.1 5).toNat (((J.1 8) + 1) * 8192 + (J.1 3))) 54 (J.1 5).toNat (J.1 9)) 30 38 ((J.1 5) + 1)) (F (J.1 7).toNat 7) (J.1 8)   (by first | assumption | omega)) ?_
            rintro _ _ ⟨rfl, rfl⟩ ok117 le117
            refine V_goto (pc := 120) dX11_come_120 (tgt := 243) rfl ?_
            refine V_retv (pc := 243) dX11_come_243 trivial ?_
            first
              | (exfalso; omega)
              | (refine ⟨mI (setI (setI (setI (setI (setI (setI (setI (setI m 30 39 ((J.1 10) + 1)) 51 (J.1 5).toNat (J.1 7)) 52 (J.1 5).toNat 1) 53 (J.1 5).toNat (((J.1 8) + 1) * 8192 + (J.1 3))) 54 (J.1 5).toNat (J.1 9)) 30 38 ((J.1 5) + 1)) 30 46 (F (J.1 7).toNat 7)) 30 47 (J.1 8)), rfl, ?_⟩
                 rw [comeA_t (by omega) (by omega), cm2_4 (J := tryJ J) (show F (J.1 7).toNat 0 = 4 by omega), chooA_y (J := tryJ J) (far := 0) (show (0 : Int) + 1 < F (J.1 7).toNat 2 by omega)]
                 exact RO.cm (RZ.s78 (J := (pushO (tryJ J) 1)) (k := 7) (v := (F (J.1 7).toNat 7)) (RZ.lv (J := (tryJ J)) (far := 1) (RZ.set (J := J) (q := 39) (k := 10) (v := (J.1 10) + 1) hZ (Or.inr ⟨rfl, rfl⟩)) (show 0 ≤ (J.1 5) by omega) (LfR.o (show F (J.1 7).toNat 0 ≠ 6 by omega) rfl)) (Or.inl rfl)) hk4.1 hk4.2 rfl rfl)
      · skip
        refine V_ld (pc := 74) dX11_come_74 (v := vr 30) rfl rfl ?_
        refine V_ld (pc := 75) dX11_come_75 (v := vi (J.1 7)) rfl rfl ?_
        refine V_iconst (pc := 76) dX11_come_76 (by unfold I32; omega) ?_
        refine V_iconst (pc := 77) dX11_come_77 (by unfold I32; omega) ?_
        refine V_ld (pc := 78) dX11_come_78 (v := vi (J.1 8)) rfl rfl ?_
        refine V_callV (pc := 79) dX11_come_79 (F' := 2) (As := [vi (J.1 7), vi 0, vi 0, vi (J.1 8)]) (st := []) cw_RX11_323 rfl rfl hL.t30 (by decide) (Nat.le_of_ble_eq_true rfl) (by omega) (y_repetition I0 F c n may hcn cl J (-1) m 0 0   (by first | assumption | omega) hS hZ ⟨hk4.1, hk4.2⟩ hp (show F (J.1 7).toNat 0 = 5 ∧ (0 : Int) ≤ 0 ∧ (0 : Int) ≤ J.1 10 ∧ 0 ≤ J.1 5 ∧ J.1 5 ≤ J.1 10 ∧ J.1 10 ≤ may ∧ may ≤ 5000 ∧ c ≤ 240 from (by omega)) (fun h_ => by omega)) ?_
        rintro _ _ ⟨rfl, Ix79, rfl, hm79⟩ ok79 le79
        refine V_goto (pc := 82) dX11_come_82 (tgt := 243) rfl ?_
        refine V_retv (pc := 243) dX11_come_243 trivial ?_
        first
          | (exfalso; omega)
          | (refine ⟨mI (wI m Ix79), rfl, ?_⟩
             rw [comeA_5 (by omega)]
             exact hm79)
    · skip
      refine V_ld (pc := 54) dX11_come_54 (v := vr 30) rfl rfl ?_
      refine V_ld (pc := 55) dX11_come_55 (v := vi (J.1 7)) rfl rfl ?_
      refine V_iconst (pc := 56) dX11_come_56 (by unfold I32; omega) ?_
      refine V_ld (pc := 57) dX11_come_57 (v := vi (J.1 8)) rfl rfl ?_
      refine V_callV (pc := 58) dX11_come_58 (F' := 2) (As := [vi (J.1 7), vi 0, vi (J.1 8)]) (st := []) cw_RX11_320 rfl rfl hL.t30 (by decide) (Nat.le_of_ble_eq_true rfl) (by omega) (y_order I0 F c n may hcn cl J m 0   (by first | assumption | omega) hS hZ ⟨hk4.1, hk4.2⟩ hp (show F (J.1 7).toNat 0 = 6 ∧ 0 ≤ (0 : Int) ∧ (0 : Int) < 16 ∧ 0 ≤ J.1 5 ∧ J.1 5 ≤ J.1 10 ∧ J.1 10 ≤ may ∧ may ≤ 5000 ∧ c ≤ 240 ∧ WfT F 0 c from ⟨by omega, by omega, by omega, by omega, by omega, by omega, by omega, by omega, hW⟩)) ?_
      rintro _ _ ⟨rfl, Ix58, rfl, hm58⟩ ok58 le58
      refine V_goto (pc := 61) dX11_come_61 (tgt := 243) rfl ?_
      refine V_retv (pc := 243) dX11_come_243 trivial ?_
      first
        | (exfalso; omega)
        | (refine ⟨mI (wI m Ix58), rfl, ?_⟩
           rw [comeA_6 (by omega)]
           exact hm58)
  · skip
    refine V_ld (pc := 20) dX11_come_20 (v := vr 30) rfl rfl ?_
    refine V_ld (pc := 21) dX11_come_21 (v := vi (J.1 7)) rfl rfl ?_
    refine V_iconst (pc := 22) dX11_come_22 (by unfold I32; omega) ?_
    refine V_iconst (pc := 23) dX11_come_23 (by unfold I32; omega) ?_
    refine V_ld (pc := 24) dX11_come_24 (v := vi (J.1 8)) rfl rfl ?_
    refine V_callV (pc := 25) dX11_come_25 (F' := 0) (As := [vi (J.1 7), vi 1, vi 0, vi (J.1 8)]) (st := []) cw_RX11_288 rfl rfl hL.t30 (by decide) (Nat.le_of_ble_eq_true rfl) (by omega) (y_tells (J.1 3) m (J.1 7) 1 0 (J.1 8)   (by first | assumption | omega) ⟨(hZ).2.1.1, by omega, by omega⟩ (by omega)) ?_
    rintro _ _ ⟨x25, rfl, hx25, rfl⟩ ok25 le25
    subst hx25
    refine V_st (pc := 28) dX11_come_28 (ls' := [(3, vi (J.1 3)), (2, vi (J.1 8)), (1, vi (J.1 7)), (0, vr 30)]) rfl (Nat.le_of_ble_eq_true rfl) rfl ?_
    refine V_ld (pc := 29) dX11_come_29 (v := vr 30) rfl rfl ?_
    refine V_ld (pc := 30) dX11_come_30 (v := vr 30) rfl rfl ?_
    refine V_getRv (pc := 31) dX11_come_31 (o' := 41) fw_RX11_42 rfl hL.t30 hL.r30_16 ?_
    refine V_ld (pc := 34) dX11_come_34 (v := vi (J.1 7)) rfl rfl ?_
    refine V_ialdv (pc := 35) dX11_come_35 (v := (F (J.1 7).toNat 7)) hL.t41 (by omega) (RFz.at (w := 7) hS (RZ.f (RZ.tl (J := J) (far := 1) hZ (show 0 ≤ (J.1 3) by omega) ⟨by omega, by omega⟩ (fun h_ => absurd (show F (J.1 7).toNat 0 = 5 from h_) (by omega)) rfl)) c7 (by decide)) (fun g35 => ?_)
    refine V_ld (pc := 36) dX11_come_36 (v := vi (J.1 3)) rfl rfl ?_
    refine V_callV (pc := 37) dX11_come_37 (F' := 0) (As := [vi (F (J.1 7).toNat 7), vi (J.1 3)]) (st := []) cw_RX11_292 rfl rfl hL.t30 (by decide) (Nat.le_of_ble_eq_true rfl) (by omega) (y_goes  (setI (setI (setI m 49 (J.1 3).toNat (1 * 64 + 0)) 50 (J.1 3).toNat ((J.1 7) * 8192 + (J.1 8) + 1)) 30 33 ((J.1 3) + 1)) (F (J.1 7).toNat 7) (J.1 3)   (by first | assumption | omega)) ?_
    rintro _ _ ⟨rfl, rfl⟩ ok37 le37
    refine V_goto (pc := 40) dX11_come_40 (tgt := 243) rfl ?_
    refine V_retv (pc := 243) dX11_come_243 trivial ?_
    first
      | (exfalso; omega)
      | (refine ⟨mI (setI (setI (setI (setI (setI m 49 (J.1 3).toNat (1 * 64 + 0)) 50 (J.1 3).toNat ((J.1 7) * 8192 + (J.1 8) + 1)) 30 33 ((J.1 3) + 1)) 30 46 (F (J.1 7).toNat 7)) 30 47 (J.1 3)), rfl, ?_⟩
         rw [comeA_s (by omega), comeW_y (far := 0) (by omega)]
         exact RO.cm (RZ.s78 (J := (pushF F J 1)) (k := 7) (v := (F (J.1 7).toNat 7)) (RZ.tl (J := J) (far := 1) hZ (show 0 ≤ (J.1 3) by omega) ⟨by omega, by omega⟩ (fun h_ => absurd (show F (J.1 7).toNat 0 = 5 from h_) (by omega)) rfl) (Or.inl rfl)) hk4.1 hk4.2 rfl rfl)

set_option maxHeartbeats 8000000 in
theorem y_goOn (I0 : Nat → Nat → Int) (F : Tb) (c : Nat) (n : Int) (may : Int) (hcn : Nat → CEnv → Int) (cl : Nat → Int) (J : SJ) (m : Mem)    (hL : Lay (mT m) (mR m)) (hS : RB I0 F c n may hcn cl) (hZ : RZ I0 (mI m) F J) (hk4 : mI m 30 44 = 0 ∧ mI m 30 45 = 0) (hn : mI m 30 47 = J.1 8) (hI : SI F c n may J ∧ DoI J ∧ 0 ≤ J.1 8) : Ct μX11_goOn 3 [vr 30] m (rv fun m' => ∃ I_ : Nat → Nat → Int, wI m I_ = m' ∧ RO I0 I_ F (goOnA F may J)) := by
  refine Ct_of_V rfl (by decide) rfl (Nat.le_of_ble_eq_true rfl) ?_
  show V μX11_goOn 3 m _ 0 [(0, vr 30)] [] m
  obtain ⟨⟨i3, i5, i6, i10, i12, ifr, iop⟩, ⟨d1, d2, d3⟩, d0⟩ := hI
  have hW := hS.1.2.2
  have hc240 := hS.1.2.1
  obtain ⟨a1, a2, a3, a4, a5, a6⟩ := ifr (J.1 8).toNat (by omega)
  have ts := tab_s hW a1
  have hin := fun (_ : Unit) h => inn_kid (p := (J.2.2.1 (J.1 8).toNat 0)) hW a1 h
  obtain ⟨r1, r2, r3⟩ := hZ.2.2.1 (J.1 8).toNat (by omega)
  obtain ⟨cz, hcz⟩ : ∃ cz, mI m 49 (J.1 8).toNat = cz := ⟨_, rfl⟩
  rw [hcz] at r2 r3
  unfold FarF at a6
  have hp : 0 ≤ J.1 3 ∧ J.1 3 < 5030 ∧ 0 ≤ (J.2.2.1 (J.1 8).toNat 0) ∧ (J.2.2.1 (J.1 8).toNat 0) < (c : Int) ∧ -1 ≤ (J.2.2.1 (J.1 8).toNat 1) ∧ (J.2.2.1 (J.1 8).toNat 1) ≤ 5030 ∧ 0 ≤ J.1 9 ∧ J.1 9 ≤ 32 := by refine ⟨i3.1, ?_, a1.1, a1.2, a2.1, ?_, ?_, ?_⟩ <;> omega
  have hq2 : 3 ≤ F (J.2.2.1 (J.1 8).toNat 0).toNat 0 → 1 ≤ F (J.2.2.1 (J.1 8).toNat 0).toNat 2 ∧ F (J.2.2.1 (J.1 8).toNat 0).toNat 2 ≤ (c : Int) ∧ (F (J.2.2.1 (J.1 8).toNat 0).toNat 0 ≠ 5 → 2 ≤ F (J.2.2.1 (J.1 8).toNat 0).toNat 2) ∧ (F (J.2.2.1 (J.1 8).toNat 0).toNat 0 = 5 → 0 ≤ F (J.2.2.1 (J.1 8).toNat 0).toNat 3) := fun h => ⟨(hin () h).1, (hin () h).2.1, (hin () h).2.2.2.2.1, fun h5 => ((hin () h).2.2.2.2.2.1 h5).1⟩
  refine V_ld (pc := 0) dX11_goOn_0 (v := vr 30) rfl rfl ?_
  refine V_getRv (pc := 1) dX11_goOn_1 (o' := 50) fw_RX11_69 rfl hL.t30 hL.r30_32 ?_
  refine V_ld (pc := 4) dX11_goOn_4 (v := vr 30) rfl rfl ?_
  refine V_getIv (pc := 5) dX11_goOn_5 (v := (J.1 8)) fw_RX11_285 rfl hL.t30 hn (fun g5 => ?_)
  refine V_ialdv (pc := 8) dX11_goOn_8 (v := ((J.2.2.1 (J.1 8).toNat 0) * 8192 + (J.2.2.1 (J.1 8).toNat 1) + 1)) hL.t50 (by omega) r1 (fun g8 => ?_)
  refine V_sipush (pc := 9) dX11_goOn_9 (by unfold I32; omega) (by decide) ?_
  refine V_idiv (pc := 12) dX11_goOn_12 (by omega) (by omega) ?_
  refine V_st (pc := 13) dX11_goOn_13 (ls' := [(1, vi (((J.2.2.1 (J.1 8).toNat 0) * 8192 + (J.2.2.1 (J.1 8).toNat 1) + 1) / 8192)), (0, vr 30)]) rfl (Nat.le_of_ble_eq_true rfl) rfl ?_
  have e14_ : ((J.2.2.1 (J.1 8).toNat 0) * 8192 + (J.2.2.1 (J.1 8).toNat 1) + 1) / 8192 = (J.2.2.1 (J.1 8).toNat 0) := by omega
  rw [e14_]
  refine V_ld (pc := 14) dX11_goOn_14 (v := vr 30) rfl rfl ?_
  refine V_getRv (pc := 15) dX11_goOn_15 (o' := 50) fw_RX11_69 rfl hL.t30 hL.r30_32 ?_
  refine V_ld (pc := 18) dX11_goOn_18 (v := vr 30) rfl rfl ?_
  refine V_getIv (pc := 19) dX11_goOn_19 (v := (J.1 8)) fw_RX11_285 rfl hL.t30 hn (fun g19 => ?_)
  refine V_ialdv (pc := 22) dX11_goOn_22 (v := ((J.2.2.1 (J.1 8).toNat 0) * 8192 + (J.2.2.1 (J.1 8).toNat 1) + 1)) hL.t50 (by omega) r1 (fun g22 => ?_)
  refine V_sipush (pc := 23) dX11_goOn_23 (by unfold I32; omega) (by decide) ?_
  refine V_irem (pc := 26) dX11_goOn_26 (by omega) (by omega) ?_
  refine V_iconst (pc := 27) dX11_goOn_27 (by unfold I32; omega) ?_
  refine V_isub (pc := 28) dX11_goOn_28 (by unfold I32 at *; omega) ?_
  refine V_st (pc := 29) dX11_goOn_29 (ls' := [(2, vi ((((J.2.2.1 (J.1 8).toNat 0) * 8192 + (J.2.2.1 (J.1 8).toNat 1) + 1) % 8192) - 1)), (1, vi (J.2.2.1 (J.1 8).toNat 0)), (0, vr 30)]) rfl (Nat.le_of_ble_eq_true rfl) rfl ?_
  have e30_ : ((J.2.2.1 (J.1 8).toNat 0) * 8192 + (J.2.2.1 (J.1 8).toNat 1) + 1) % 8192 - 1 = (J.2.2.1 (J.1 8).toNat 1) := by omega
  rw [e30_]
  refine V_ld (pc := 30) dX11_goOn_30 (v := vr 30) rfl rfl ?_
  refine V_getRv (pc := 31) dX11_goOn_31 (o' := 49) fw_RX11_66 rfl hL.t30 hL.r30_31 ?_
  refine V_ld (pc := 34) dX11_goOn_34 (v := vr 30) rfl rfl ?_
  refine V_getIv (pc := 35) dX11_goOn_35 (v := (J.1 8)) fw_RX11_285 rfl hL.t30 hn (fun g35 => ?_)
  refine V_ialdv (pc := 38) dX11_goOn_38 (v := cz) hL.t49 (by omega) hcz (fun g38 => ?_)
  refine V_bipush (pc := 39) dX11_goOn_39 (by unfold I32; omega) (by decide) ?_
  refine V_idiv (pc := 41) dX11_goOn_41 (by omega) (by omega) ?_
  refine V_st (pc := 42) dX11_goOn_42 (ls' := [(3, vi (cz / 64)), (2, vi (J.2.2.1 (J.1 8).toNat 1)), (1, vi (J.2.2.1 (J.1 8).toNat 0)), (0, vr 30)]) rfl (Nat.le_of_ble_eq_true rfl) rfl ?_
  have e43_ : cz / 64 = (J.2.2.1 (J.1 8).toNat 2) := by omega
  rw [e43_]
  refine V_ld (pc := 43) dX11_goOn_43 (v := vr 30) rfl rfl ?_
  refine V_getRv (pc := 44) dX11_goOn_44 (o' := 35) fw_RX11_24 rfl hL.t30 hL.r30_10 ?_
  refine V_ld (pc := 47) dX11_goOn_47 (v := vi (J.2.2.1 (J.1 8).toNat 0)) rfl rfl ?_
  refine V_ialdv (pc := 48) dX11_goOn_48 (v := (F (J.2.2.1 (J.1 8).toNat 0).toNat 0)) hL.t35 (by omega) (RFz.at (w := 0) hS (RZ.f (RZ.s78 (J := setS J 7 (J.2.2.1 (J.1 8).toNat 0)) (k := 8) (v := (J.2.2.1 (J.1 8).toNat 1)) (RZ.s78 (J := J) (k := 7) (v := (J.2.2.1 (J.1 8).toNat 0)) hZ (Or.inl rfl)) (Or.inr rfl))) a1 (by decide)) (fun g48 => ?_)
  refine V_iconst (pc := 49) dX11_goOn_49 (by unfold I32; omega) ?_
  refine V_icmp_ne (pc := 50) dX11_goOn_50 (tgt := 75) rfl (fun h50 => ?_) (fun h50 => ?_)
  · skip
    refine V_ld (pc := 75) dX11_goOn_75 (v := vr 30) rfl rfl ?_
    refine V_getRv (pc := 76) dX11_goOn_76 (o' := 35) fw_RX11_24 rfl hL.t30 hL.r30_10 ?_
    refine V_ld (pc := 79) dX11_goOn_79 (v := vi (J.2.2.1 (J.1 8).toNat 0)) rfl rfl ?_
    refine V_ialdv (pc := 80) dX11_goOn_80 (v := (F (J.2.2.1 (J.1 8).toNat 0).toNat 0)) hL.t35 (by omega) (RFz.at (w := 0) hS (RZ.f (RZ.s78 (J := setS J 7 (J.2.2.1 (J.1 8).toNat 0)) (k := 8) (v := (J.2.2.1 (J.1 8).toNat 1)) (RZ.s78 (J := J) (k := 7) (v := (J.2.2.1 (J.1 8).toNat 0)) hZ (Or.inl rfl)) (Or.inr rfl))) a1 (by decide)) (fun g80 => ?_)
    refine V_bipush (pc := 81) dX11_goOn_81 (by unfold I32; omega) (by decide) ?_
    refine V_icmp_ne (pc := 83) dX11_goOn_83 (tgt := 96) rfl (fun h83 => ?_) (fun h83 => ?_)
    · skip
      refine V_ld (pc := 96) dX11_goOn_96 (v := vr 30) rfl rfl ?_
      refine V_ld (pc := 97) dX11_goOn_97 (v := vi (J.2.2.1 (J.1 8).toNat 0)) rfl rfl ?_
      refine V_ld (pc := 98) dX11_goOn_98 (v := vi (J.2.2.1 (J.1 8).toNat 2)) rfl rfl ?_
      refine V_callV (pc := 99) dX11_goOn_99 (F' := 0) (As := [vi (J.2.2.1 (J.1 8).toNat 0), vi (J.2.2.1 (J.1 8).toNat 2)]) (st := []) cw_RX11_312 rfl rfl hL.t30 (by decide) (Nat.le_of_ble_eq_true rfl) (by omega) (y_kid F c m (J.2.2.1 (J.1 8).toNat 0) (J.2.2.1 (J.1 8).toNat 2)   (by first | assumption | omega) ⟨RFz.tab hS (RZ.f (RZ.s78 (J := setS J 7 (J.2.2.1 (J.1 8).toNat 0)) (k := 8) (v := (J.2.2.1 (J.1 8).toNat 1)) (RZ.s78 (J := J) (k := 7) (v := (J.2.2.1 (J.1 8).toNat 0)) hZ (Or.inl rfl)) (Or.inr rfl))), by omega, by omega, by omega⟩ (fun i_ hi_ => by have h_ := (hin () (by omega)).2.2.2.2.2.2 i_ (by omega); exact ⟨h_.1, h_.2.1⟩) (by omega)) ?_
      rintro _ _ ⟨x99, rfl, hx99, rfl⟩ ok99 le99
      subst hx99
      refine V_st (pc := 102) dX11_goOn_102 (ls' := [(4, vi (kidN F (J.2.2.1 (J.1 8).toNat 0) (J.2.2.1 (J.1 8).toNat 2).toNat)), (3, vi (J.2.2.1 (J.1 8).toNat 2)), (2, vi (J.2.2.1 (J.1 8).toNat 1)), (1, vi (J.2.2.1 (J.1 8).toNat 0)), (0, vr 30)]) rfl (Nat.le_of_ble_eq_true rfl) rfl ?_
      refine V_ld (pc := 104) dX11_goOn_104 (v := vi (J.2.2.1 (J.1 8).toNat 2)) rfl rfl ?_
      refine V_iconst (pc := 105) dX11_goOn_105 (by unfold I32; omega) ?_
      refine V_iadd (pc := 106) dX11_goOn_106 (by unfold I32 at *; omega) ?_
      refine V_ld (pc := 107) dX11_goOn_107 (v := vr 30) rfl rfl ?_
      refine V_getRv (pc := 108) dX11_goOn_108 (o' := 40) fw_RX11_39 rfl hL.t30 hL.r30_15 ?_
      refine V_ld (pc := 111) dX11_goOn_111 (v := vi (J.2.2.1 (J.1 8).toNat 0)) rfl rfl ?_
      refine V_ialdv (pc := 112) dX11_goOn_112 (v := (F (J.2.2.1 (J.1 8).toNat 0).toNat 2)) hL.t40 (by omega) (RFz.at (w := 2) hS (RZ.f (RZ.s78 (J := setS J 7 (J.2.2.1 (J.1 8).toNat 0)) (k := 8) (v := (J.2.2.1 (J.1 8).toNat 1)) (RZ.s78 (J := J) (k := 7) (v := (J.2.2.1 (J.1 8).toNat 0)) hZ (Or.inl rfl)) (Or.inr rfl))) a1 (by decide)) (fun g112 => ?_)
      refine V_icmp_ge (pc := 113) dX11_goOn_113 (tgt := 129) rfl (fun h113 => ?_) (fun h113 => ?_)
      · skip
        refine V_ld (pc := 129) dX11_goOn_129 (v := vi (J.2.2.1 (J.1 8).toNat 1)) rfl rfl ?_
        refine V_st (pc := 130) dX11_goOn_130 (ls' := [(5, vi (J.2.2.1 (J.1 8).toNat 1)), (4, vi (kidN F (J.2.2.1 (J.1 8).toNat 0) (J.2.2.1 (J.1 8).toNat 2).toNat)), (3, vi (J.2.2.1 (J.1 8).toNat 2)), (2, vi (J.2.2.1 (J.1 8).toNat 1)), (1, vi (J.2.2.1 (J.1 8).toNat 0)), (0, vr 30)]) rfl (Nat.le_of_ble_eq_true rfl) rfl ?_
        refine V_ld (pc := 132) dX11_goOn_132 (v := vr 30) rfl rfl ?_
        refine V_ld (pc := 133) dX11_goOn_133 (v := vi (kidN F (J.2.2.1 (J.1 8).toNat 0) (J.2.2.1 (J.1 8).toNat 2).toNat)) rfl rfl ?_
        refine V_ld (pc := 135) dX11_goOn_135 (v := vi (J.2.2.1 (J.1 8).toNat 1)) rfl rfl ?_
        refine V_callV (pc := 137) dX11_goOn_137 (F' := 0) (As := [vi (kidN F (J.2.2.1 (J.1 8).toNat 0) (J.2.2.1 (J.1 8).toNat 2).toNat), vi (J.2.2.1 (J.1 8).toNat 1)]) (st := []) cw_RX11_292 rfl rfl hL.t30 (by decide) (Nat.le_of_ble_eq_true rfl) (by omega) (y_goes  m (kidN F (J.2.2.1 (J.1 8).toNat 0) (J.2.2.1 (J.1 8).toNat 2).toNat) (J.2.2.1 (J.1 8).toNat 1)   (by first | assumption | omega)) ?_
        rintro _ _ ⟨rfl, rfl⟩ ok137 le137
        refine V_retv (pc := 140) dX11_goOn_140 trivial ?_
        first
          | (exfalso; omega)
          | (refine ⟨mI (setI (setI m 30 46 (kidN F (J.2.2.1 (J.1 8).toNat 0) (J.2.2.1 (J.1 8).toNat 2).toNat)) 30 47 (J.2.2.1 (J.1 8).toNat 1)), rfl, ?_⟩
             rw [goA_s (by omega), comeW_n (J := popF J) (show ¬ (J.2.2.1 (J.1 8).toNat 2) + 1 < F (J.2.2.1 (J.1 8).toNat 0).toNat 2 by omega)]
             exact RO.cm (RZ.s78 (J := (popF J)) (k := 7) (v := (kidN F (J.2.2.1 (J.1 8).toNat 0) (J.2.2.1 (J.1 8).toNat 2).toNat)) (RZ.s78 (J := setS J 7 (J.2.2.1 (J.1 8).toNat 0)) (k := 8) (v := (J.2.2.1 (J.1 8).toNat 1)) (RZ.s78 (J := J) (k := 7) (v := (J.2.2.1 (J.1 8).toNat 0)) hZ (Or.inl rfl)) (Or.inr rfl)) (Or.inl rfl)) hk4.1 hk4.2 rfl rfl)
      · skip
        refine V_ld (pc := 116) dX11_goOn_116 (v := vr 30) rfl rfl ?_
        refine V_ld (pc := 117) dX11_goOn_117 (v := vi (J.2.2.1 (J.1 8).toNat 0)) rfl rfl ?_
        refine V_ld (pc := 118) dX11_goOn_118 (v := vi (J.2.2.1 (J.1 8).toNat 2)) rfl rfl ?_
        refine V_iconst (pc := 119) dX11_goOn_119 (by unfold I32; omega) ?_
        refine V_iadd (pc := 120) dX11_goOn_120 (by unfold I32 at *; omega) ?_
        refine V_iconst (pc := 121) dX11_goOn_121 (by unfold I32; omega) ?_
        refine V_ld (pc := 122) dX11_goOn_122 (v := vi (J.2.2.1 (J.1 8).toNat 1)) rfl rfl ?_
        refine V_callV (pc := 123) dX11_goOn_123 (F' := 0) (As := [vi (J.2.2.1 (J.1 8).toNat 0), vi ((J.2.2.1 (J.1 8).toNat 2) + 1), vi 0, vi (J.2.2.1 (J.1 8).toNat 1)]) (st := []) cw_RX11_288 rfl rfl hL.t30 (by decide) (Nat.le_of_ble_eq_true rfl) (by omega) (y_tells (J.1 3) m (J.2.2.1 (J.1 8).toNat 0) ((J.2.2.1 (J.1 8).toNat 2) + 1) 0 (J.2.2.1 (J.1 8).toNat 1)   (by first | assumption | omega) ⟨((RZ.s78 (J := setS J 7 (J.2.2.1 (J.1 8).toNat 0)) (k := 8) (v := (J.2.2.1 (J.1 8).toNat 1)) (RZ.s78 (J := J) (k := 7) (v := (J.2.2.1 (J.1 8).toNat 0)) hZ (Or.inl rfl)) (Or.inr rfl))).2.1.1, by omega, by omega⟩ (by omega)) ?_
        rintro _ _ ⟨x123, rfl, hx123, rfl⟩ ok123 le123
        subst hx123
        refine V_goto (pc := 126) dX11_goOn_126 (tgt := 130) rfl ?_
        refine V_st (pc := 130) dX11_goOn_130 (ls' := [(5, vi (J.1 3)), (4, vi (kidN F (J.2.2.1 (J.1 8).toNat 0) (J.2.2.1 (J.1 8).toNat 2).toNat)), (3, vi (J.2.2.1 (J.1 8).toNat 2)), (2, vi (J.2.2.1 (J.1 8).toNat 1)), (1, vi (J.2.2.1 (J.1 8).toNat 0)), (0, vr 30)]) rfl (Nat.le_of_ble_eq_true rfl) rfl ?_
        refine V_ld (pc := 132) dX11_goOn_132 (v := vr 30) rfl rfl ?_
        refine V_ld (pc := 133) dX11_goOn_133 (v := vi (kidN F (J.2.2.1 (J.1 8).toNat 0) (J.2.2.1 (J.1 8).toNat 2).toNat)) rfl rfl ?_
        refine V_ld (pc := 135) dX11_goOn_135 (v := vi (J.1 3)) rfl rfl ?_
        refine V_callV (pc := 137) dX11_goOn_137 (F' := 0) (As := [vi (kidN F (J.2.2.1 (J.1 8).toNat 0) (J.2.2.1 (J.1 8).toNat 2).toNat), vi (J.1 3)]) (st := []) cw_RX11_292 rfl rfl hL.t30 (by decide) (Nat.le_of_ble_eq_true rfl) (by omega) (y_goes  (setI (setI (setI m 49 (J.1 3).toNat (((J.2.2.1 (J.1 8).toNat 2) + 1) * 64 + 0)) 50 (J.1 3).toNat ((J.2.2.1 (J.1 8).toNat 0) * 8192 + (J.2.2.1 (J.1 8).toNat 1) + 1)) 30 33 ((J.1 3) + 1)) (kidN F (J.2.2.1 (J.1 8).toNat 0) (J.2.2.1 (J.1 8).toNat 2).toNat) (J.1 3)   (by first | assumption | omega)) ?_
        rintro _ _ ⟨rfl, rfl⟩ ok137 le137
        refine V_retv (pc := 140) dX11_goOn_140 trivial ?_
        first
          | (exfalso; omega)
          | (refine ⟨mI (setI (setI (setI (setI (setI m 49 (J.1 3).toNat (((J.2.2.1 (J.1 8).toNat 2) + 1) * 64 + 0)) 50 (J.1 3).toNat ((J.2.2.1 (J.1 8).toNat 0) * 8192 + (J.2.2.1 (J.1 8).toNat 1) + 1)) 30 33 ((J.1 3) + 1)) 30 46 (kidN F (J.2.2.1 (J.1 8).toNat 0) (J.2.2.1 (J.1 8).toNat 2).toNat)) 30 47 (J.1 3)), rfl, ?_⟩
             rw [goA_s (by omega), comeW_y (J := popF J) (show (J.2.2.1 (J.1 8).toNat 2) + 1 < F (J.2.2.1 (J.1 8).toNat 0).toNat 2 by omega)]
             exact RO.cm (RZ.s78 (J := (pushF F (popF J) ((J.2.2.1 (J.1 8).toNat 2) + 1))) (k := 7) (v := (kidN F (J.2.2.1 (J.1 8).toNat 0) (J.2.2.1 (J.1 8).toNat 2).toNat)) (RZ.tl (J := (popF J)) (far := ((J.2.2.1 (J.1 8).toNat 2) + 1)) (RZ.s78 (J := setS J 7 (J.2.2.1 (J.1 8).toNat 0)) (k := 8) (v := (J.2.2.1 (J.1 8).toNat 1)) (RZ.s78 (J := J) (k := 7) (v := (J.2.2.1 (J.1 8).toNat 0)) hZ (Or.inl rfl)) (Or.inr rfl)) (show 0 ≤ (J.1 3) by omega) ⟨by omega, by omega⟩ (fun h_ => absurd (show F (J.2.2.1 (J.1 8).toNat 0).toNat 0 = 5 from h_) (by omega)) rfl) (Or.inl rfl)) hk4.1 hk4.2 rfl rfl)
    · skip
      refine V_ld (pc := 86) dX11_goOn_86 (v := vr 30) rfl rfl ?_
      refine V_ld (pc := 87) dX11_goOn_87 (v := vi (J.2.2.1 (J.1 8).toNat 0)) rfl rfl ?_
      refine V_ld (pc := 88) dX11_goOn_88 (v := vi (J.2.2.1 (J.1 8).toNat 2)) rfl rfl ?_
      refine V_ld (pc := 89) dX11_goOn_89 (v := vi (J.2.2.1 (J.1 8).toNat 1)) rfl rfl ?_
      refine V_callV (pc := 90) dX11_goOn_90 (F' := 2) (As := [vi ((popF J).1 7), vi (J.2.2.1 (J.1 8).toNat 2), vi ((popF J).1 8)]) (st := []) cw_RX11_320 rfl rfl hL.t30 (by decide) (Nat.le_of_ble_eq_true rfl) (by omega) (y_order I0 F c n may hcn cl (popF J) m (J.2.2.1 (J.1 8).toNat 2)   (by first | assumption | omega) hS (RZ.s78 (J := setS J 7 (J.2.2.1 (J.1 8).toNat 0)) (k := 8) (v := (J.2.2.1 (J.1 8).toNat 1)) (RZ.s78 (J := J) (k := 7) (v := (J.2.2.1 (J.1 8).toNat 0)) hZ (Or.inl rfl)) (Or.inr rfl)) ⟨hk4.1, hk4.2⟩ hp (show F (J.2.2.1 (J.1 8).toNat 0).toNat 0 = 6 ∧ 0 ≤ (J.2.2.1 (J.1 8).toNat 2) ∧ (J.2.2.1 (J.1 8).toNat 2) < 16 ∧ 0 ≤ J.1 5 ∧ J.1 5 ≤ J.1 10 ∧ J.1 10 ≤ may ∧ may ≤ 5000 ∧ c ≤ 240 ∧ WfT F 0 c from ⟨by omega, by omega, by omega, by omega, by omega, by omega, by omega, by omega, hW⟩)) ?_
      rintro _ _ ⟨rfl, Ix90, rfl, hm90⟩ ok90 le90
      refine V_goto (pc := 93) dX11_goOn_93 (tgt := 140) rfl ?_
      refine V_retv (pc := 140) dX11_goOn_140 trivial ?_
      first
        | (exfalso; omega)
        | (refine ⟨mI (wI m Ix90), rfl, ?_⟩
           rw [goOn_6 (by omega)]
           exact hm90)
  · skip
    refine V_ld (pc := 53) dX11_goOn_53 (v := vr 30) rfl rfl ?_
    refine V_ld (pc := 54) dX11_goOn_54 (v := vi (J.2.2.1 (J.1 8).toNat 0)) rfl rfl ?_
    refine V_ld (pc := 55) dX11_goOn_55 (v := vi (J.2.2.1 (J.1 8).toNat 2)) rfl rfl ?_
    refine V_ld (pc := 56) dX11_goOn_56 (v := vr 30) rfl rfl ?_
    refine V_getRv (pc := 57) dX11_goOn_57 (o' := 49) fw_RX11_66 rfl hL.t30 hL.r30_31 ?_
    refine V_ld (pc := 60) dX11_goOn_60 (v := vr 30) rfl rfl ?_
    refine V_getIv (pc := 61) dX11_goOn_61 (v := (J.1 8)) fw_RX11_285 rfl hL.t30 hn (fun g61 => ?_)
    refine V_ialdv (pc := 64) dX11_goOn_64 (v := cz) hL.t49 (by omega) hcz (fun g64 => ?_)
    refine V_bipush (pc := 65) dX11_goOn_65 (by unfold I32; omega) (by decide) ?_
    refine V_irem (pc := 67) dX11_goOn_67 (by omega) (by omega) ?_
    refine V_ld (pc := 68) dX11_goOn_68 (v := vi (J.2.2.1 (J.1 8).toNat 1)) rfl rfl ?_
    refine V_callV (pc := 69) dX11_goOn_69 (F' := 2) (As := [vi ((popF J).1 7), vi (J.2.2.1 (J.1 8).toNat 2), vi (cz % 64), vi ((popF J).1 8)]) (st := []) cw_RX11_323 rfl rfl hL.t30 (by decide) (Nat.le_of_ble_eq_true rfl) (by omega) (y_repetition I0 F c n may hcn cl (popF J) (J.2.2.1 (J.1 8).toNat 3) m (J.2.2.1 (J.1 8).toNat 2) (cz % 64)   (by first | assumption | omega) hS (RZ.s78 (J := setS J 7 (J.2.2.1 (J.1 8).toNat 0)) (k := 8) (v := (J.2.2.1 (J.1 8).toNat 1)) (RZ.s78 (J := J) (k := 7) (v := (J.2.2.1 (J.1 8).toNat 0)) hZ (Or.inl rfl)) (Or.inr rfl)) ⟨hk4.1, hk4.2⟩ hp (show F (J.2.2.1 (J.1 8).toNat 0).toNat 0 = 5 ∧ 0 ≤ (J.2.2.1 (J.1 8).toNat 2) ∧ (J.2.2.1 (J.1 8).toNat 2) ≤ J.1 10 ∧ 0 ≤ J.1 5 ∧ J.1 5 ≤ J.1 10 ∧ J.1 10 ≤ may ∧ may ≤ 5000 ∧ c ≤ 240 from (by omega)) (fun _ => (show cz % 64 = (J.2.2.1 (J.1 8).toNat 3) by have h_ := r3 (by omega); omega))) ?_
    rintro _ _ ⟨rfl, Ix69, rfl, hm69⟩ ok69 le69
    refine V_goto (pc := 72) dX11_goOn_72 (tgt := 140) rfl ?_
    refine V_retv (pc := 140) dX11_goOn_140 trivial ?_
    first
      | (exfalso; omega)
      | (refine ⟨mI (wI m Ix69), rfl, ?_⟩
         rw [goOn_5 (by omega)]
         exact hm69)

set_option maxHeartbeats 8000000 in
theorem y_turns (I0 : Nat → Nat → Int) (F : Tb) (c : Nat) (n : Int) (may : Int) (hcn : Nat → CEnv → Int) (cl : Nat → Int) (J : SJ) (m : Mem)    (hL : Lay (mT m) (mR m)) (hS : RB I0 F c n may hcn cl) (hZ : RZ I0 (mI m) F J) (h44 : mI m 30 44 = 0) (hI : SI F c n may J ∧ 0 < J.1 5) : Ct μX11_turns 3 [vr 30] m (rv fun m' => ∃ I_ : Nat → Nat → Int, wI m I_ = m' ∧ RO I0 I_ F (goBkA F J)) := by
  refine Ct_of_V rfl (by decide) rfl (Nat.le_of_ble_eq_true rfl) ?_
  show V μX11_turns 3 m _ 0 [(0, vr 30)] [] m
  obtain ⟨⟨i3, i5, i6, i10, i12, ifr, iop⟩, d0⟩ := hI
  have hW := hS.1.2.2
  have hc240 := hS.1.2.1
  obtain ⟨a1, a2, a3, a4, a5, a6, a7, a8⟩ := iop (J.1 5 - 1).toNat (by omega)
  have ts := tab_s hW a1
  have hin := fun (_ : Unit) h => inn_kid (p := (J.2.2.2 (J.1 5 - 1).toNat 0)) hW a1 h
  obtain ⟨r1, r2, r3, r4⟩ := hZ.2.2.2 (J.1 5 - 1).toNat (by omega)
  obtain ⟨cz, hcz⟩ : ∃ cz, mI m 52 (J.1 5 - 1).toNat = cz := ⟨_, rfl⟩
  rw [hcz] at r2
  unfold FarO at a8
  have hp : 0 ≤ (J.2.2.2 (J.1 5 - 1).toNat 4) ∧ (J.2.2.2 (J.1 5 - 1).toNat 4) < 5030 ∧ 0 ≤ (J.2.2.2 (J.1 5 - 1).toNat 0) ∧ (J.2.2.2 (J.1 5 - 1).toNat 0) < (c : Int) ∧ -1 ≤ (J.2.2.2 (J.1 5 - 1).toNat 1) ∧ (J.2.2.2 (J.1 5 - 1).toNat 1) ≤ 5030 ∧ 0 ≤ (J.2.2.2 (J.1 5 - 1).toNat 3) ∧ (J.2.2.2 (J.1 5 - 1).toNat 3) ≤ 32 := by refine ⟨a4.1, ?_, a1.1, a1.2, a2.1, ?_, ?_, ?_⟩ <;> omega
  have r6 : F (J.2.2.2 (J.1 5 - 1).toNat 0).toNat 0 = 6 → 0 ≤ cz ∧ cz < 128 ∧ cz / 8 = (J.2.2.2 (J.1 5 - 1).toNat 2) / 8 ∧ cz % 8 ≤ F (J.2.2.2 (J.1 5 - 1).toNat 0).toNat 2 ∧ ndA ((J.2.2.2 (J.1 5 - 1).toNat 2) / 8) (cz % 8) (F (J.2.2.2 (J.1 5 - 1).toNat 0).toNat 2) = (J.2.2.2 (J.1 5 - 1).toNat 2) % 8 := fun h => by unfold LfR at r2; rw [if_pos h] at r2; exact r2
  have r5 : F (J.2.2.2 (J.1 5 - 1).toNat 0).toNat 0 ≠ 6 → cz = (J.2.2.2 (J.1 5 - 1).toNat 2) := fun h => by unfold LfR at r2; rw [if_neg h] at r2; exact r2
  clear r2
  have hq2 : 3 ≤ F (J.2.2.2 (J.1 5 - 1).toNat 0).toNat 0 → 1 ≤ F (J.2.2.2 (J.1 5 - 1).toNat 0).toNat 2 ∧ F (J.2.2.2 (J.1 5 - 1).toNat 0).toNat 2 ≤ (c : Int) ∧ (F (J.2.2.2 (J.1 5 - 1).toNat 0).toNat 0 ≠ 5 → 2 ≤ F (J.2.2.2 (J.1 5 - 1).toNat 0).toNat 2) ∧ (F (J.2.2.2 (J.1 5 - 1).toNat 0).toNat 0 = 6 → F (J.2.2.2 (J.1 5 - 1).toNat 0).toNat 2 ≤ 4) := fun h => ⟨(hin () h).1, (hin () h).2.1, (hin () h).2.2.2.2.1, (hin () h).2.2.2.1⟩
  refine V_ld (pc := 0) dX11_turns_0 (v := vr 30) rfl rfl ?_
  refine V_dup (pc := 1) dX11_turns_1 rfl ?_
  refine V_getIv (pc := 2) dX11_turns_2 (v := (J.1 5)) fw_RX11_276 rfl hL.t30 (hZ).2.1.2.1 (fun g2 => ?_)
  refine V_iconst (pc := 5) dX11_turns_5 (by unfold I32; omega) ?_
  refine V_isub (pc := 6) dX11_turns_6 (by unfold I32 at *; omega) ?_
  refine V_putI (pc := 7) dX11_turns_7 fw_RX11_276 rfl hL.t30 (Or.inl rfl) (Or.inl rfl) ?_
  refine V_ld (pc := 10) dX11_turns_10 (v := vr 30) rfl rfl ?_
  refine V_getRv (pc := 11) dX11_turns_11 (o' := 51) fw_RX11_72 rfl hL.t30 hL.r30_34 ?_
  refine V_ld (pc := 14) dX11_turns_14 (v := vr 30) rfl rfl ?_
  refine V_getIv (pc := 15) dX11_turns_15 (v := (J.1 5) - 1) fw_RX11_276 rfl hL.t30 (by first | rfl | (simp only [mI_setI, up2]; repeat (first | rfl | rw [if_neg (by omega)] | rw [if_pos (by omega)]))) (fun g15 => ?_)
  refine V_ialdv (pc := 18) dX11_turns_18 (v := (J.2.2.2 (J.1 5 - 1).toNat 0)) hL.t51 (by omega) (by first | exact r1 | (simp only [mI_setI, up2]; repeat (first | exact r1 | rw [if_neg (by omega)]))) (fun g18 => ?_)
  refine V_st (pc := 19) dX11_turns_19 (ls' := [(1, vi (J.2.2.2 (J.1 5 - 1).toNat 0)), (0, vr 30)]) rfl (Nat.le_of_ble_eq_true rfl) rfl ?_
  refine V_ld (pc := 20) dX11_turns_20 (v := vr 30) rfl rfl ?_
  refine V_getRv (pc := 21) dX11_turns_21 (o' := 52) fw_RX11_75 rfl hL.t30 hL.r30_35 ?_
  refine V_ld (pc := 24) dX11_turns_24 (v := vr 30) rfl rfl ?_
  refine V_getIv (pc := 25) dX11_turns_25 (v := (J.1 5) - 1) fw_RX11_276 rfl hL.t30 (by first | rfl | (simp only [mI_setI, up2]; repeat (first | rfl | rw [if_neg (by omega)] | rw [if_pos (by omega)]))) (fun g25 => ?_)
  refine V_ialdv (pc := 28) dX11_turns_28 (v := cz) hL.t52 (by omega) (by first | exact hcz | (simp only [mI_setI, up2]; repeat (first | exact hcz | rw [if_neg (by omega)]))) (fun g28 => ?_)
  refine V_st (pc := 29) dX11_turns_29 (ls' := [(2, vi cz), (1, vi (J.2.2.2 (J.1 5 - 1).toNat 0)), (0, vr 30)]) rfl (Nat.le_of_ble_eq_true rfl) rfl ?_
  refine V_ld (pc := 30) dX11_turns_30 (v := vr 30) rfl rfl ?_
  refine V_getRv (pc := 31) dX11_turns_31 (o' := 53) fw_RX11_78 rfl hL.t30 hL.r30_36 ?_
  refine V_ld (pc := 34) dX11_turns_34 (v := vr 30) rfl rfl ?_
  refine V_getIv (pc := 35) dX11_turns_35 (v := (J.1 5) - 1) fw_RX11_276 rfl hL.t30 (by first | rfl | (simp only [mI_setI, up2]; repeat (first | rfl | rw [if_neg (by omega)] | rw [if_pos (by omega)]))) (fun g35 => ?_)
  refine V_ialdv (pc := 38) dX11_turns_38 (v := (((J.2.2.2 (J.1 5 - 1).toNat 1) + 1) * 8192 + (J.2.2.2 (J.1 5 - 1).toNat 4))) hL.t53 (by omega) (by first | exact r3 | (simp only [mI_setI, up2]; repeat (first | exact r3 | rw [if_neg (by omega)]))) (fun g38 => ?_)
  refine V_sipush (pc := 39) dX11_turns_39 (by unfold I32; omega) (by decide) ?_
  refine V_idiv (pc := 42) dX11_turns_42 (by omega) (by omega) ?_
  refine V_iconst (pc := 43) dX11_turns_43 (by unfold I32; omega) ?_
  refine V_isub (pc := 44) dX11_turns_44 (by unfold I32 at *; omega) ?_
  refine V_st (pc := 45) dX11_turns_45 (ls' := [(3, vi (((((J.2.2.2 (J.1 5 - 1).toNat 1) + 1) * 8192 + (J.2.2.2 (J.1 5 - 1).toNat 4)) / 8192) - 1)), (2, vi cz), (1, vi (J.2.2.2 (J.1 5 - 1).toNat 0)), (0, vr 30)]) rfl (Nat.le_of_ble_eq_true rfl) rfl ?_
  have e46_ : (((J.2.2.2 (J.1 5 - 1).toNat 1) + 1) * 8192 + (J.2.2.2 (J.1 5 - 1).toNat 4)) / 8192 - 1 = (J.2.2.2 (J.1 5 - 1).toNat 1) := by omega
  rw [e46_]
  refine V_ld (pc := 46) dX11_turns_46 (v := vr 30) rfl rfl ?_
  refine V_ld (pc := 47) dX11_turns_47 (v := vr 30) rfl rfl ?_
  refine V_getRv (pc := 48) dX11_turns_48 (o' := 53) fw_RX11_78 rfl hL.t30 hL.r30_36 ?_
  refine V_ld (pc := 51) dX11_turns_51 (v := vr 30) rfl rfl ?_
  refine V_getIv (pc := 52) dX11_turns_52 (v := (J.1 5) - 1) fw_RX11_276 rfl hL.t30 (by first | rfl | (simp only [mI_setI, up2]; repeat (first | rfl | rw [if_neg (by omega)] | rw [if_pos (by omega)]))) (fun g52 => ?_)
  refine V_ialdv (pc := 55) dX11_turns_55 (v := (((J.2.2.2 (J.1 5 - 1).toNat 1) + 1) * 8192 + (J.2.2.2 (J.1 5 - 1).toNat 4))) hL.t53 (by omega) (by first | exact r3 | (simp only [mI_setI, up2]; repeat (first | exact r3 | rw [if_neg (by omega)]))) (fun g55 => ?_)
  refine V_sipush (pc := 56) dX11_turns_56 (by unfold I32; omega) (by decide) ?_
  refine V_irem (pc := 59) dX11_turns_59 (by omega) (by omega) ?_
  have e60_ : (((J.2.2.2 (J.1 5 - 1).toNat 1) + 1) * 8192 + (J.2.2.2 (J.1 5 - 1).toNat 4)) % 8192 = (J.2.2.2 (J.1 5 - 1).toNat 4) := by omega
  rw [e60_]
  refine V_putI (pc := 60) dX11_turns_60 fw_RX11_267 rfl hL.t30 (Or.inl rfl) (Or.inl rfl) ?_
  refine V_ld (pc := 63) dX11_turns_63 (v := vr 30) rfl rfl ?_
  refine V_ld (pc := 64) dX11_turns_64 (v := vr 30) rfl rfl ?_
  refine V_getRv (pc := 65) dX11_turns_65 (o' := 54) fw_RX11_81 rfl hL.t30 hL.r30_37 ?_
  refine V_ld (pc := 68) dX11_turns_68 (v := vr 30) rfl rfl ?_
  refine V_getIv (pc := 69) dX11_turns_69 (v := (J.1 5) - 1) fw_RX11_276 rfl hL.t30 (by first | rfl | (simp only [mI_setI, up2]; repeat (first | rfl | rw [if_neg (by omega)] | rw [if_pos (by omega)]))) (fun g69 => ?_)
  refine V_ialdv (pc := 72) dX11_turns_72 (v := (J.2.2.2 (J.1 5 - 1).toNat 3)) hL.t54 (by omega) (by first | exact r4 | (simp only [mI_setI, up2]; repeat (first | exact r4 | rw [if_neg (by omega)]))) (fun g72 => ?_)
  refine V_putI (pc := 73) dX11_turns_73 fw_RX11_279 rfl hL.t30 (Or.inl rfl) (Or.inl rfl) ?_
  refine V_ld (pc := 76) dX11_turns_76 (v := vr 30) rfl rfl ?_
  refine V_iconst (pc := 77) dX11_turns_77 (by unfold I32; omega) ?_
  refine V_putI (pc := 78) dX11_turns_78 fw_RX11_299 rfl hL.t30 (Or.inl rfl) (Or.inr ⟨rfl, by first | exact Or.inl rfl | exact Or.inr rfl | omega⟩) ?_
  skip
  refine V_ld (pc := 81) dX11_turns_81 (v := vr 30) rfl rfl ?_
  refine V_getRv (pc := 82) dX11_turns_82 (o' := 35) fw_RX11_24 rfl hL.t30 hL.r30_10 ?_
  refine V_ld (pc := 85) dX11_turns_85 (v := vi (J.2.2.2 (J.1 5 - 1).toNat 0)) rfl rfl ?_
  refine V_ialdv (pc := 86) dX11_turns_86 (v := (F (J.2.2.2 (J.1 5 - 1).toNat 0).toNat 0)) hL.t35 (by omega) (RFz.at (w := 0) hS (RZ.f (RZ.s4 (J := popO J) (k := 45) (v := 0) (RZ.tk (J := J) hZ d0 a4.2) (by omega))) a1 (by decide)) (fun g86 => ?_)
  refine V_iconst (pc := 87) dX11_turns_87 (by unfold I32; omega) ?_
  refine V_icmp_ne (pc := 88) dX11_turns_88 (tgt := 126) rfl (fun h88 => ?_) (fun h88 => ?_)
  · skip
    refine V_ld (pc := 126) dX11_turns_126 (v := vr 30) rfl rfl ?_
    refine V_getRv (pc := 127) dX11_turns_127 (o' := 35) fw_RX11_24 rfl hL.t30 hL.r30_10 ?_
    refine V_ld (pc := 130) dX11_turns_130 (v := vi (J.2.2.2 (J.1 5 - 1).toNat 0)) rfl rfl ?_
    refine V_ialdv (pc := 131) dX11_turns_131 (v := (F (J.2.2.2 (J.1 5 - 1).toNat 0).toNat 0)) hL.t35 (by omega) (RFz.at (w := 0) hS (RZ.f (RZ.s4 (J := popO J) (k := 45) (v := 0) (RZ.tk (J := J) hZ d0 a4.2) (by omega))) a1 (by decide)) (fun g131 => ?_)
    refine V_bipush (pc := 132) dX11_turns_132 (by unfold I32; omega) (by decide) ?_
    refine V_icmp_ne (pc := 134) dX11_turns_134 (tgt := 154) rfl (fun h134 => ?_) (fun h134 => ?_)
    · skip
      have e91_ : cz = (J.2.2.2 (J.1 5 - 1).toNat 2) := r5 (by omega)
      rw [e91_]
      refine V_ld (pc := 154) dX11_turns_154 (v := vr 30) rfl rfl ?_
      refine V_getRv (pc := 155) dX11_turns_155 (o' := 39) fw_RX11_36 rfl hL.t30 hL.r30_14 ?_
      refine V_ld (pc := 158) dX11_turns_158 (v := vi (J.2.2.2 (J.1 5 - 1).toNat 0)) rfl rfl ?_
      refine V_ialdv (pc := 159) dX11_turns_159 (v := (F (J.2.2.2 (J.1 5 - 1).toNat 0).toNat 5)) hL.t39 (by omega) (RFz.at (w := 5) hS (RZ.f (RZ.s4 (J := popO J) (k := 45) (v := 0) (RZ.tk (J := J) hZ d0 a4.2) (by omega))) a1 (by decide)) (fun g159 => ?_)
      refine V_iconst (pc := 160) dX11_turns_160 (by unfold I32; omega) ?_
      refine V_icmp_ne (pc := 161) dX11_turns_161 (tgt := 173) rfl (fun h161 => ?_) (fun h161 => ?_)
      · skip
        refine V_ld (pc := 173) dX11_turns_173 (v := vr 30) rfl rfl ?_
        refine V_ld (pc := 174) dX11_turns_174 (v := vi (J.2.2.2 (J.1 5 - 1).toNat 0)) rfl rfl ?_
        refine V_ld (pc := 175) dX11_turns_175 (v := vi (J.2.2.2 (J.1 5 - 1).toNat 2)) rfl rfl ?_
        refine V_ld (pc := 176) dX11_turns_176 (v := vi (J.2.2.2 (J.1 5 - 1).toNat 1)) rfl rfl ?_
        refine V_callV (pc := 177) dX11_turns_177 (F' := 1) (As := [vi ((popO J).1 7), vi (J.2.2.2 (J.1 5 - 1).toNat 2), vi ((popO J).1 8)]) (st := []) cw_RX11_302 rfl rfl hL.t30 (by decide) (Nat.le_of_ble_eq_true rfl) (by omega) (y_once I0 F c n may hcn cl (popO J) (setI (setI (setI (setI m 30 38 ((J.1 5) - 1)) 30 33 (J.2.2.2 (J.1 5 - 1).toNat 4)) 30 40 (J.2.2.2 (J.1 5 - 1).toNat 3)) 30 45 0) (J.2.2.2 (J.1 5 - 1).toNat 2)   (by first | assumption | omega) hS (RZ.s4 (J := popO J) (k := 45) (v := 0) (RZ.tk (J := J) hZ d0 a4.2) (by omega)) ⟨h44, rfl⟩ hp (show F (J.2.2.2 (J.1 5 - 1).toNat 0).toNat 0 = 5 ∧ 0 ≤ (J.2.2.2 (J.1 5 - 1).toNat 2) ∧ (J.2.2.2 (J.1 5 - 1).toNat 2) ≤ 5000 ∧ c ≤ 240 from (by omega))) ?_
        rintro _ _ ⟨rfl, Ix177, rfl, hm177⟩ ok177 le177
        refine V_retv (pc := 180) dX11_turns_180 trivial ?_
        first
          | (exfalso; omega)
          | (refine ⟨mI (wI (setI (setI (setI (setI m 30 38 ((J.1 5) - 1)) 30 33 (J.2.2.2 (J.1 5 - 1).toNat 4)) 30 40 (J.2.2.2 (J.1 5 - 1).toNat 3)) 30 45 0) Ix177), rfl, ?_⟩
             rw [show goBkA F J = gb2 F (popO J) (J.2.2.2 (J.1 5 - 1).toNat 2) from rfl, gb2_5n (J := popO J) (show F (J.2.2.2 (J.1 5 - 1).toNat 0).toNat 0 = 5 by omega) (show ¬ F (J.2.2.2 (J.1 5 - 1).toNat 0).toNat 5 = 1 by omega)]
             exact hm177)
      · skip
        refine V_ld (pc := 164) dX11_turns_164 (v := vr 30) rfl rfl ?_
        refine V_iconst (pc := 165) dX11_turns_165 (by unfold I32; omega) ?_
        refine V_ld (pc := 166) dX11_turns_166 (v := vi (J.2.2.2 (J.1 5 - 1).toNat 1)) rfl rfl ?_
        refine V_callV (pc := 167) dX11_turns_167 (F' := 0) (As := [vi (-1), vi (J.2.2.2 (J.1 5 - 1).toNat 1)]) (st := []) cw_RX11_292 rfl rfl hL.t30 (by decide) (Nat.le_of_ble_eq_true rfl) (by omega) (y_goes  (setI (setI (setI (setI m 30 38 ((J.1 5) - 1)) 30 33 (J.2.2.2 (J.1 5 - 1).toNat 4)) 30 40 (J.2.2.2 (J.1 5 - 1).toNat 3)) 30 45 0) (-1) (J.2.2.2 (J.1 5 - 1).toNat 1)   (by first | assumption | omega)) ?_
        rintro _ _ ⟨rfl, rfl⟩ ok167 le167
        refine V_goto (pc := 170) dX11_turns_170 (tgt := 180) rfl ?_
        refine V_retv (pc := 180) dX11_turns_180 trivial ?_
        first
          | (exfalso; omega)
          | (refine ⟨mI (setI (setI (setI (setI (setI (setI m 30 38 ((J.1 5) - 1)) 30 33 (J.2.2.2 (J.1 5 - 1).toNat 4)) 30 40 (J.2.2.2 (J.1 5 - 1).toNat 3)) 30 45 0) 30 46 (-1)) 30 47 (J.2.2.2 (J.1 5 - 1).toNat 1)), rfl, ?_⟩
             rw [show goBkA F J = gb2 F (popO J) (J.2.2.2 (J.1 5 - 1).toNat 2) from rfl, gb2_5 (J := popO J) (show F (J.2.2.2 (J.1 5 - 1).toNat 0).toNat 0 = 5 by omega) (show F (J.2.2.2 (J.1 5 - 1).toNat 0).toNat 5 = 1 by omega)]
             exact RO.dn (RZ.s4 (J := popO J) (k := 45) (v := 0) (RZ.tk (J := J) hZ d0 a4.2) (by omega)) h44 rfl rfl)
    · skip
      refine V_ld (pc := 137) dX11_turns_137 (v := vr 30) rfl rfl ?_
      refine V_ld (pc := 138) dX11_turns_138 (v := vi (J.2.2.2 (J.1 5 - 1).toNat 0)) rfl rfl ?_
      refine V_ld (pc := 139) dX11_turns_139 (v := vi cz) rfl rfl ?_
      refine V_bipush (pc := 140) dX11_turns_140 (by unfold I32; omega) (by decide) ?_
      refine V_idiv (pc := 142) dX11_turns_142 (by omega) (by omega) ?_
      refine V_ld (pc := 143) dX11_turns_143 (v := vi cz) rfl rfl ?_
      refine V_bipush (pc := 144) dX11_turns_144 (by unfold I32; omega) (by decide) ?_
      refine V_irem (pc := 146) dX11_turns_146 (by omega) (by omega) ?_
      refine V_ld (pc := 147) dX11_turns_147 (v := vi (J.2.2.2 (J.1 5 - 1).toNat 1)) rfl rfl ?_
      have e148_ : cz / 8 = (J.2.2.2 (J.1 5 - 1).toNat 2) / 8 := (r6 (by omega)).2.2.1
      rw [e148_]
      refine V_callV (pc := 148) dX11_turns_148 (F' := 1) (As := [vi ((popO J).1 7), vi ((J.2.2.2 (J.1 5 - 1).toNat 2) / 8), vi (cz % 8), vi ((popO J).1 8)]) (st := []) cw_RX11_316 rfl rfl hL.t30 (by decide) (Nat.le_of_ble_eq_true rfl) (by omega) (y_anyOf I0 F c n may hcn cl (popO J) ((J.2.2.2 (J.1 5 - 1).toNat 2) % 8) (setI (setI (setI (setI m 30 38 ((J.1 5) - 1)) 30 33 (J.2.2.2 (J.1 5 - 1).toNat 4)) 30 40 (J.2.2.2 (J.1 5 - 1).toNat 3)) 30 45 0) ((J.2.2.2 (J.1 5 - 1).toNat 2) / 8) (cz % 8)   (by first | assumption | omega) hS (RZ.s4 (J := popO J) (k := 45) (v := 0) (RZ.tk (J := J) hZ d0 a4.2) (by omega)) ⟨h44, rfl⟩ hp (show F (J.2.2.2 (J.1 5 - 1).toNat 0).toNat 0 = 6 ∧ 0 ≤ (J.2.2.2 (J.1 5 - 1).toNat 2) / 8 ∧ (J.2.2.2 (J.1 5 - 1).toNat 2) / 8 < 16 ∧ 0 ≤ cz % 8 ∧ cz % 8 ≤ (F (J.2.2.2 (J.1 5 - 1).toNat 0).toNat 2) ∧ 0 ≤ J.1 5 - 1 ∧ J.1 5 - 1 < 5010 ∧ c ≤ 240 ∧ WfT F 0 c from ⟨by omega, by omega, by omega, by omega, (r6 (by omega)).2.2.2.1, by omega, by omega, by omega, hW⟩) (show ndA ((J.2.2.2 (J.1 5 - 1).toNat 2) / 8) (cz % 8) (F (J.2.2.2 (J.1 5 - 1).toNat 0).toNat 2) = ndA ((J.2.2.2 (J.1 5 - 1).toNat 2) / 8) ((J.2.2.2 (J.1 5 - 1).toNat 2) % 8) (F (J.2.2.2 (J.1 5 - 1).toNat 0).toNat 2) ∧ ndA ((J.2.2.2 (J.1 5 - 1).toNat 2) / 8) (cz % 8) (F (J.2.2.2 (J.1 5 - 1).toNat 0).toNat 2) < (F (J.2.2.2 (J.1 5 - 1).toNat 0).toNat 2) from (by have h_ := (r6 (by omega)).2.2.2.2; omega))) ?_
      rintro _ _ ⟨rfl, Ix148, rfl, hm148⟩ ok148 le148
      refine V_goto (pc := 151) dX11_turns_151 (tgt := 180) rfl ?_
      refine V_retv (pc := 180) dX11_turns_180 trivial ?_
      first
        | (exfalso; omega)
        | (refine ⟨mI (wI (setI (setI (setI (setI m 30 38 ((J.1 5) - 1)) 30 33 (J.2.2.2 (J.1 5 - 1).toNat 4)) 30 40 (J.2.2.2 (J.1 5 - 1).toNat 3)) 30 45 0) Ix148), rfl, ?_⟩
           rw [show goBkA F J = gb2 F (popO J) (J.2.2.2 (J.1 5 - 1).toNat 2) from rfl, gb2_6 (J := popO J) (show F (J.2.2.2 (J.1 5 - 1).toNat 0).toNat 0 = 6 by omega)]
           exact hm148)
  · skip
    have e91_ : cz = (J.2.2.2 (J.1 5 - 1).toNat 2) := r5 (by omega)
    rw [e91_]
    refine V_ld (pc := 91) dX11_turns_91 (v := vi (J.2.2.2 (J.1 5 - 1).toNat 2)) rfl rfl ?_
    refine V_iconst (pc := 92) dX11_turns_92 (by unfold I32; omega) ?_
    refine V_iadd (pc := 93) dX11_turns_93 (by unfold I32 at *; omega) ?_
    refine V_ld (pc := 94) dX11_turns_94 (v := vr 30) rfl rfl ?_
    refine V_getRv (pc := 95) dX11_turns_95 (o' := 40) fw_RX11_39 rfl hL.t30 hL.r30_15 ?_
    refine V_ld (pc := 98) dX11_turns_98 (v := vi (J.2.2.2 (J.1 5 - 1).toNat 0)) rfl rfl ?_
    refine V_ialdv (pc := 99) dX11_turns_99 (v := (F (J.2.2.2 (J.1 5 - 1).toNat 0).toNat 2)) hL.t40 (by omega) (RFz.at (w := 2) hS (RZ.f (RZ.s4 (J := popO J) (k := 45) (v := 0) (RZ.tk (J := J) hZ d0 a4.2) (by omega))) a1 (by decide)) (fun g99 => ?_)
    refine V_icmp_ge (pc := 100) dX11_turns_100 (tgt := 112) rfl (fun h100 => ?_) (fun h100 => ?_)
    · skip
      refine V_ld (pc := 112) dX11_turns_112 (v := vr 30) rfl rfl ?_
      refine V_ld (pc := 113) dX11_turns_113 (v := vr 30) rfl rfl ?_
      refine V_ld (pc := 114) dX11_turns_114 (v := vi (J.2.2.2 (J.1 5 - 1).toNat 0)) rfl rfl ?_
      refine V_ld (pc := 115) dX11_turns_115 (v := vi (J.2.2.2 (J.1 5 - 1).toNat 2)) rfl rfl ?_
      refine V_callV (pc := 116) dX11_turns_116 (F' := 0) (As := [vi (J.2.2.2 (J.1 5 - 1).toNat 0), vi (J.2.2.2 (J.1 5 - 1).toNat 2)]) (st := [vr 30]) cw_RX11_312 rfl rfl hL.t30 (by decide) (Nat.le_of_ble_eq_true rfl) (by omega) (y_kid F c (setI (setI (setI (setI m 30 38 ((J.1 5) - 1)) 30 33 (J.2.2.2 (J.1 5 - 1).toNat 4)) 30 40 (J.2.2.2 (J.1 5 - 1).toNat 3)) 30 45 0) (J.2.2.2 (J.1 5 - 1).toNat 0) (J.2.2.2 (J.1 5 - 1).toNat 2)   (by first | assumption | omega) ⟨RFz.tab hS (RZ.f (RZ.s4 (J := popO J) (k := 45) (v := 0) (RZ.tk (J := J) hZ d0 a4.2) (by omega))), by omega, by omega, by omega⟩ (fun i_ hi_ => by have h_ := (hin () (by omega)).2.2.2.2.2.2 i_ (by omega); exact ⟨h_.1, h_.2.1⟩) (by omega)) ?_
      rintro _ _ ⟨x116, rfl, hx116, rfl⟩ ok116 le116
      subst hx116
      refine V_ld (pc := 119) dX11_turns_119 (v := vi (J.2.2.2 (J.1 5 - 1).toNat 1)) rfl rfl ?_
      refine V_callV (pc := 120) dX11_turns_120 (F' := 0) (As := [vi (kidN F (J.2.2.2 (J.1 5 - 1).toNat 0) (J.2.2.2 (J.1 5 - 1).toNat 2).toNat), vi (J.2.2.2 (J.1 5 - 1).toNat 1)]) (st := []) cw_RX11_292 rfl rfl hL.t30 (by decide) (Nat.le_of_ble_eq_true rfl) (by omega) (y_goes  (setI (setI (setI (setI m 30 38 ((J.1 5) - 1)) 30 33 (J.2.2.2 (J.1 5 - 1).toNat 4)) 30 40 (J.2.2.2 (J.1 5 - 1).toNat 3)) 30 45 0) (kidN F (J.2.2.2 (J.1 5 - 1).toNat 0) (J.2.2.2 (J.1 5 - 1).toNat 2).toNat) (J.2.2.2 (J.1 5 - 1).toNat 1)   (by first | assumption | omega)) ?_
      rintro _ _ ⟨rfl, rfl⟩ ok120 le120
      refine V_goto (pc := 123) dX11_turns_123 (tgt := 180) rfl ?_
      refine V_retv (pc := 180) dX11_turns_180 trivial ?_
      first
        | (exfalso; omega)
        | (refine ⟨mI (setI (setI (setI (setI (setI (setI m 30 38 ((J.1 5) - 1)) 30 33 (J.2.2.2 (J.1 5 - 1).toNat 4)) 30 40 (J.2.2.2 (J.1 5 - 1).toNat 3)) 30 45 0) 30 46 (kidN F (J.2.2.2 (J.1 5 - 1).toNat 0) (J.2.2.2 (J.1 5 - 1).toNat 2).toNat)) 30 47 (J.2.2.2 (J.1 5 - 1).toNat 1)), rfl, ?_⟩
           rw [show goBkA F J = gb2 F (popO J) (J.2.2.2 (J.1 5 - 1).toNat 2) from rfl, gb2_4 (J := popO J) (show F (J.2.2.2 (J.1 5 - 1).toNat 0).toNat 0 = 4 by omega), chooA_n (J := popO J) (show ¬ (J.2.2.2 (J.1 5 - 1).toNat 2) + 1 < F (J.2.2.2 (J.1 5 - 1).toNat 0).toNat 2 by omega)]
           exact RO.cm (RZ.s78 (J := (popO J)) (k := 7) (v := (kidN F (J.2.2.2 (J.1 5 - 1).toNat 0) (J.2.2.2 (J.1 5 - 1).toNat 2).toNat)) (RZ.s4 (J := popO J) (k := 45) (v := 0) (RZ.tk (J := J) hZ d0 a4.2) (by omega)) (Or.inl rfl)) h44 rfl rfl rfl)
    · skip
      refine V_ld (pc := 103) dX11_turns_103 (v := vr 30) rfl rfl ?_
      refine V_ld (pc := 104) dX11_turns_104 (v := vi (J.2.2.2 (J.1 5 - 1).toNat 0)) rfl rfl ?_
      refine V_ld (pc := 105) dX11_turns_105 (v := vi (J.2.2.2 (J.1 5 - 1).toNat 2)) rfl rfl ?_
      refine V_iconst (pc := 106) dX11_turns_106 (by unfold I32; omega) ?_
      refine V_iadd (pc := 107) dX11_turns_107 (by unfold I32 at *; omega) ?_
      refine V_ld (pc := 108) dX11_turns_108 (v := vi (J.2.2.2 (J.1 5 - 1).toNat 1)) rfl rfl ?_
      refine V_callV (pc := 109) dX11_turns_109 (F' := 0) (As := [vi (J.2.2.2 (J.1 5 - 1).toNat 0), vi ((J.2.2.2 (J.1 5 - 1).toNat 2) + 1), vi (J.2.2.2 (J.1 5 - 1).toNat 1)]) (st := []) cw_RX11_306 rfl rfl hL.t30 (by decide) (Nat.le_of_ble_eq_true rfl) (by omega) (y_leaves (J.2.2.2 (J.1 5 - 1).toNat 4) (J.1 5 - 1) (J.2.2.2 (J.1 5 - 1).toNat 3) (setI (setI (setI (setI m 30 38 ((J.1 5) - 1)) 30 33 (J.2.2.2 (J.1 5 - 1).toNat 4)) 30 40 (J.2.2.2 (J.1 5 - 1).toNat 3)) 30 45 0) (J.2.2.2 (J.1 5 - 1).toNat 0) ((J.2.2.2 (J.1 5 - 1).toNat 2) + 1) (J.2.2.2 (J.1 5 - 1).toNat 1)   (by first | assumption | omega) ⟨((RZ.s4 (J := popO J) (k := 45) (v := 0) (RZ.tk (J := J) hZ d0 a4.2) (by omega))).2.1.1, by omega, by omega⟩ ⟨((RZ.s4 (J := popO J) (k := 45) (v := 0) (RZ.tk (J := J) hZ d0 a4.2) (by omega))).2.1.2.1, by omega, by omega⟩ ((RZ.s4 (J := popO J) (k := 45) (v := 0) (RZ.tk (J := J) hZ d0 a4.2) (by omega))).2.1.2.2.2.1 (by omega)) ?_
      rintro _ _ ⟨rfl, rfl⟩ ok109 le109
      refine V_ld (pc := 112) dX11_turns_112 (v := vr 30) rfl rfl ?_
      refine V_ld (pc := 113) dX11_turns_113 (v := vr 30) rfl rfl ?_
      refine V_ld (pc := 114) dX11_turns_114 (v := vi (J.2.2.2 (J.1 5 - 1).toNat 0)) rfl rfl ?_
      refine V_ld (pc := 115) dX11_turns_115 (v := vi (J.2.2.2 (J.1 5 - 1).toNat 2)) rfl rfl ?_
      refine V_callV (pc := 116) dX11_turns_116 (F' := 0) (As := [vi (J.2.2.2 (J.1 5 - 1).toNat 0), vi (J.2.2.2 (J.1 5 - 1).toNat 2)]) (st := [vr 30]) cw_RX11_312 rfl rfl hL.t30 (by decide) (Nat.le_of_ble_eq_true rfl) (by omega) (y_kid F c (setI (setI (setI (setI (setI (setI (setI (setI (setI m 30 38 ((J.1 5) - 1)) 30 33 (J.2.2.2 (J.1 5 - 1).toNat 4)) 30 40 (J.2.2.2 (J.1 5 - 1).toNat 3)) 30 45 0) 51 (J.1 5 - 1).toNat (J.2.2.2 (J.1 5 - 1).toNat 0)) 52 (J.1 5 - 1).toNat ((J.2.2.2 (J.1 5 - 1).toNat 2) + 1)) 53 (J.1 5 - 1).toNat (((J.2.2.2 (J.1 5 - 1).toNat 1) + 1) * 8192 + (J.2.2.2 (J.1 5 - 1).toNat 4))) 54 (J.1 5 - 1).toNat (J.2.2.2 (J.1 5 - 1).toNat 3)) 30 38 ((J.1 5 - 1) + 1)) (J.2.2.2 (J.1 5 - 1).toNat 0) (J.2.2.2 (J.1 5 - 1).toNat 2)   (by first | assumption | omega) ⟨RFz.tab hS (RZ.f (RZ.lv (J := (popO J)) (far := ((J.2.2.2 (J.1 5 - 1).toNat 2) + 1)) (RZ.s4 (J := popO J) (k := 45) (v := 0) (RZ.tk (J := J) hZ d0 a4.2) (by omega)) (show 0 ≤ (J.1 5 - 1) by omega) (LfR.o (show F (J.2.2.2 (J.1 5 - 1).toNat 0).toNat 0 ≠ 6 by omega) rfl))), by omega, by omega, by omega⟩ (fun i_ hi_ => by have h_ := (hin () (by omega)).2.2.2.2.2.2 i_ (by omega); exact ⟨h_.1, h_.2.1⟩) (by omega)) ?_
      rintro _ _ ⟨x116, rfl, hx116, rfl⟩ ok116 le116
      subst hx116
      refine V_ld (pc := 119) dX11_turns_119 (v := vi (J.2.2.2 (J.1 5 - 1).toNat 1)) rfl rfl ?_
      refine V_callV (pc := 120) dX11_turns_120 (F' := 0) (As := [vi (kidN F (J.2.2.2 (J.1 5 - 1).toNat 0) (J.2.2.2 (J.1 5 - 1).toNat 2).toNat), vi (J.2.2.2 (J.1 5 - 1).toNat 1)]) (st := []) cw_RX11_292 rfl rfl hL.t30 (by decide) (Nat.le_of_ble_eq_true rfl) (by omega) (y_goes  (setI (setI (setI (setI (setI (setI (setI (setI (setI m 30 38 ((J.1 5) - 1)) 30 33 (J.2.2.2 (J.1 5 - 1).toNat 4)) 30 40 (J.2.2.2 (J.1 5 - 1).toNat 3)) 30 45 0) 51 (J.1 5 - 1).toNat (J.2.2.2 (J.1 5 - 1).toNat 0)) 52 (J.1 5 - 1).toNat ((J.2.2.2 (J.1 5 - 1).toNat 2) + 1)) 53 (J.1 5 - 1).toNat (((J.2.2.2 (J.1 5 - 1).toNat 1) + 1) * 8192 + (J.2.2.2 (J.1 5 - 1).toNat 4))) 54 (J.1 5 - 1).toNat (J.2.2.2 (J.1 5 - 1).toNat 3)) 30 38 ((J.1 5 - 1) + 1)) (kidN F (J.2.2.2 (J.1 5 - 1).toNat 0) (J.2.2.2 (J.1 5 - 1).toNat 2).toNat) (J.2.2.2 (J.1 5 - 1).toNat 1)   (by first | assumption | omega)) ?_
      rintro _ _ ⟨rfl, rfl⟩ ok120 le120
      refine V_goto (pc := 123) dX11_turns_123 (tgt := 180) rfl ?_
      refine V_retv (pc := 180) dX11_turns_180 trivial ?_
      first
        | (exfalso; omega)
        | (refine ⟨mI (setI (setI (setI (setI (setI (setI (setI (setI (setI (setI (setI m 30 38 ((J.1 5) - 1)) 30 33 (J.2.2.2 (J.1 5 - 1).toNat 4)) 30 40 (J.2.2.2 (J.1 5 - 1).toNat 3)) 30 45 0) 51 (J.1 5 - 1).toNat (J.2.2.2 (J.1 5 - 1).toNat 0)) 52 (J.1 5 - 1).toNat ((J.2.2.2 (J.1 5 - 1).toNat 2) + 1)) 53 (J.1 5 - 1).toNat (((J.2.2.2 (J.1 5 - 1).toNat 1) + 1) * 8192 + (J.2.2.2 (J.1 5 - 1).toNat 4))) 54 (J.1 5 - 1).toNat (J.2.2.2 (J.1 5 - 1).toNat 3)) 30 38 ((J.1 5 - 1) + 1)) 30 46 (kidN F (J.2.2.2 (J.1 5 - 1).toNat 0) (J.2.2.2 (J.1 5 - 1).toNat 2).toNat)) 30 47 (J.2.2.2 (J.1 5 - 1).toNat 1)), rfl, ?_⟩
           rw [show goBkA F J = gb2 F (popO J) (J.2.2.2 (J.1 5 - 1).toNat 2) from rfl, gb2_4 (J := popO J) (show F (J.2.2.2 (J.1 5 - 1).toNat 0).toNat 0 = 4 by omega), chooA_y (J := popO J) (show (J.2.2.2 (J.1 5 - 1).toNat 2) + 1 < F (J.2.2.2 (J.1 5 - 1).toNat 0).toNat 2 by omega)]
           exact RO.cm (RZ.s78 (J := (pushO (popO J) ((J.2.2.2 (J.1 5 - 1).toNat 2) + 1))) (k := 7) (v := (kidN F (J.2.2.2 (J.1 5 - 1).toNat 0) (J.2.2.2 (J.1 5 - 1).toNat 2).toNat)) (RZ.lv (J := (popO J)) (far := ((J.2.2.2 (J.1 5 - 1).toNat 2) + 1)) (RZ.s4 (J := popO J) (k := 45) (v := 0) (RZ.tk (J := J) hZ d0 a4.2) (by omega)) (show 0 ≤ (J.1 5 - 1) by omega) (LfR.o (show F (J.2.2.2 (J.1 5 - 1).toNat 0).toNat 0 ≠ 6 by omega) rfl)) (Or.inl rfl)) h44 rfl rfl rfl)
