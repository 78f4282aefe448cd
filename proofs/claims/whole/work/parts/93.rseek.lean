/-! the reference searches: the whole search -/
def RFx (I I' : Nat → Nat → Int) : Prop := ∀ o k, ¬ (34 ≤ o ∧ o ≤ 43) → o ≠ 45 → ¬ (49 ≤ o ∧ o ≤ 54) → ¬ (o = 30 ∧ (k = 6 ∨ k = 7 ∨ k = 8 ∨ k = 9 ∨ k = 19 ∨ k = 20 ∨ k = 24 ∨ k = 25 ∨ k = 26 ∨ k = 27 ∨ k = 33 ∨ (38 ≤ k ∧ k ≤ 48))) → I' o k = I o k
theorem RFx.of {I J K : Nat → Nat → Int} (h : RFi I J) (h2 : RFz J K) : RFx I K := fun o k a b d e => (h2 o k (by omega) b d (by omega)).trans (h o k a (by omega))
/-- how a search ends -/
def ResR (I0 I' : Nat → Nat → Int) (r : Int × SJ) (x : Int) : Prop := RZ0 I0 I' r.2 ∧ ((r.1 = -7 ∧ I' 30 44 = 1 ∧ x = 0) ∨ (r.1 ≠ -7 ∧ I' 30 44 = 0 ∧ RZs I' r.2 ∧ x = if r.1 = 1 then 1 else 0))
theorem RZ.nt {I0 I : Nat → Nat → Int} {F : Tb} {J : SJ} {a b : Int} (h : RZ I0 I F J) (h11 : 0 ≤ J.1 11) (ha : a = (noteA J).1 12) (hb : b = (noteA J).1 13) : RZ I0 (up2 (up2 (up2 I 30 41 (J.1 11 + 1)) 30 42 a) 30 43 b) F (noteA J) := by
  obtain ⟨⟨a1, a2, a3⟩, b', f, g⟩ := h
  have e : ∀ o k', ¬ (o = 30 ∧ 41 ≤ k' ∧ k' ≤ 43) → up2 (up2 (up2 I 30 41 (J.1 11 + 1)) 30 42 a) 30 43 b o k' = I o k' := fun o k' h1 => (up2_nx (by omega)).trans ((up2_nx (by omega)).trans (up2_nx (by omega)))
  obtain ⟨b1, b2, b3, b4, b5, b6, b7, b8⟩ := b'
  have e11 : (noteA J).1 11 = J.1 11 + 1 := rfl
  refine ⟨⟨((a1.set (by omega)).set (by omega)).set (by omega), fun k' => (e 45 k' (by omega)).trans (a2 k'), by rw [e 30 27 (by omega)]; exact a3⟩, ⟨?_, ?_, ?_, ?_, ?_, ?_, fun hz => ?_, fun _ => ⟨?_, ?_⟩⟩, fun i hi => ?_, fun j hj => ?_⟩
  · rw [e 30 33 (by omega)]; exact b1
  · rw [e 30 38 (by omega)]; exact b2
  · rw [e 30 48 (by omega)]; exact b3
  · rw [e 30 40 (by omega)]; exact b4
  · rw [e 30 39 (by omega)]; exact b5
  · rw [up2_nk (by decide), up2_nk (by decide), up2_s]; rfl
  · rw [e11] at hz; omega
  · rw [up2_nk (by decide), up2_s]; exact ha
  · rw [up2_s]; exact hb
  · rw [e 50 _ (by omega), e 49 _ (by omega)]; exact f i hi
  · rw [e 51 _ (by omega), e 52 _ (by omega), e 53 _ (by omega), e 54 _ (by omega)]; exact g j hj

section STS
variable {F : Tb} {n may : Int} {hc : Nat → CEnv → Int} {cl : Nat → Int} {J : SJ}
theorem s6_ite {c : Prop} [Decidable c] {a b : Int × SJ} {v : Int} (ha : a.2.1 6 = v) (hb : b.2.1 6 = v) : (if c then a else b).2.1 6 = v := by
  by_cases h : c
  · rw [if_pos h]; exact ha
  · rw [if_neg h]; exact hb
theorem comeW_6s {far : Int} : (comeW F J far).2.1 6 = J.1 6 := by
  unfold comeW
  split <;> rfl
theorem chooA_6s {far : Int} : (chooA F J far).2.1 6 = J.1 6 := by
  unfold chooA
  split <;> rfl
theorem ordA_6s {d r : Int} : (ordA F J d r).2.1 6 = J.1 6 := by
  unfold ordA
  refine s6_ite rfl ?_
  show (ordP F J d (ndA d r (F (J.1 7).toNat 2))).1 6 = J.1 6
  unfold ordP
  split <;> rfl
theorem repA_6s {k b : Int} : (repA F J k b).2.1 6 = J.1 6 := by
  unfold repA
  exact s6_ite rfl (s6_ite rfl (s6_ite rfl (s6_ite rfl rfl)))
theorem takA_6s {w : Int} : (takA n hc cl J w).2.1 6 = J.1 6 := by
  unfold takA
  exact s6_ite rfl (s6_ite rfl rfl)
theorem comeA_6s : (comeA F n may hc cl J).2.1 6 = J.1 6 := by
  unfold comeA cm2
  exact s6_ite comeW_6s (s6_ite rfl (s6_ite (takA_6s (J := tryJ J)) (s6_ite rfl (s6_ite rfl (s6_ite (chooA_6s (J := tryJ J)) (s6_ite (repA_6s (J := tryJ J)) (ordA_6s (J := tryJ J))))))))
theorem goOnA_6s : (goOnA F may J).2.1 6 = J.1 6 := by
  unfold goOnA go2
  exact s6_ite (comeW_6s (J := popF J)) (s6_ite rfl (s6_ite (repA_6s (J := tryJ (popF J))) (ordA_6s (J := tryJ (popF J)))))
theorem goBkA_6s : (goBkA F J).2.1 6 = J.1 6 := by
  unfold goBkA gb2
  exact s6_ite (chooA_6s (J := popO J)) (s6_ite (s6_ite rfl rfl) (ordA_6s (J := popO J)))
end STS

set_option maxHeartbeats 8000000 in
theorem L_ysearch {F0 : Nat} {m0 m : Mem} {PP : Int → Mem → Prop} {I0 : Nat → Nat → Int} {F : Tb} {c : Nat} {n may : Int} {hcn : Nat → CEnv → Int} {cl : Nat → Int} {st e : Int} (hL : Lay (mT m) (mR m)) (hS : RB I0 F c n may hcn cl) (hF : 21 < F0) : ∀ (f : Nat) (ph : Int) (J : SJ) (I : Nat → Nat → Int), RO I0 I F (ph, J) → RunI F c n may f ph J → J.1 6 = st → (∀ x I', ResR I0 I' (runA F n may hcn cl e f ph J) x → PP x (wI m I')) → V μX11_search F0 m0 (ri PP) 73 [(4, vi 0), (3, vi 0), (0, vr 30), (1, vi st), (2, vi e)] [] (wI m I) := by
  have hW := hS.1.2.2
  intro f
  induction f with
  | zero =>
    intro ph J I hO hR hst kx
    exact (RunI.fuel (fun p h1 h2 => (tab_s hW ⟨h1, h2⟩).2.1) hR).elim
  | succ f ih =>
    intro ph J I hO hR hst kx
    rcases hO with ⟨h3, h44, hz0⟩ | ⟨hn3, hZ, h44, hP⟩
    · have h3 : ph = 3 := h3
      refine V_ld (pc := 73) dX11_search_73 (v := vi 0) rfl rfl ?_
      refine V_if_ne (pc := 75) dX11_search_75 (tgt := 244) rfl (fun h_ => absurd h_ (by decide)) (fun _ => ?_)
      refine V_ld (pc := 78) dX11_search_78 (v := vr 30) rfl rfl ?_
      refine V_getIv (pc := 79) dX11_search_79 (v := 1) fw_RX11_273 rfl hL.t30 h44 (fun g79 => ?_)
      refine V_if_ne (pc := 82) dX11_search_82 (tgt := 244) rfl (fun _ => ?_) (fun h_ => absurd h_ (by decide))
      refine V_ld (pc := 244) dX11_search_244 (v := vi 0) rfl rfl ?_
      refine V_reti (pc := 245) dX11_search_245 (show _ = (0 : Int) ∨ _ = (1 : Int) from by first | exact Or.inl rfl | exact Or.inr rfl | omega) ?_
      exact kx _ _ ⟨by rw [runA_3 h3]; exact hz0, Or.inl ⟨by rw [runA_3 h3], h44, rfl⟩⟩
    · have hZ : RZ I0 I F J := hZ
      rcases hP with ⟨hp, h45, h46, h47⟩ | ⟨hp, h45, h46, h47⟩ | ⟨hp, h45⟩
      · have hp : ph = 0 := hp
        have hC := hR.c0 hp
        have h7 := hC.2.1.1
        refine V_ld (pc := 73) dX11_search_73 (v := vi 0) rfl rfl ?_
        refine V_if_ne (pc := 75) dX11_search_75 (tgt := 244) rfl (fun h_ => absurd h_ (by decide)) (fun _ => ?_)
        refine V_ld (pc := 78) dX11_search_78 (v := vr 30) rfl rfl ?_
        refine V_getIv (pc := 79) dX11_search_79 (v := 0) fw_RX11_273 rfl hL.t30 h44 (fun g79 => ?_)
        refine V_if_ne (pc := 82) dX11_search_82 (tgt := 244) rfl (fun h_ => absurd h_ (by decide)) (fun _ => ?_)
        refine V_ld (pc := 85) dX11_search_85 (v := vr 30) rfl rfl ?_
        refine V_getIv (pc := 86) dX11_search_86 (v := 0) fw_RX11_299 rfl hL.t30 h45 (fun g86 => ?_)
        refine V_if_eq (pc := 89) dX11_search_89 (tgt := 118) rfl (fun _ => ?_) (fun h_ => absurd h_ (by decide))
        refine V_ld (pc := 118) dX11_search_118 (v := vr 30) rfl rfl ?_
        refine V_getIv (pc := 119) dX11_search_119 (v := (J.1 7)) fw_RX11_282 rfl hL.t30 h46 (fun g119 => ?_)
        refine V_if_lt (pc := 122) dX11_search_122 (tgt := 132) rfl (fun h122 => ?_) (fun h122 => ?_)
        · skip
          exfalso; omega
        · skip
          refine V_ld (pc := 125) dX11_search_125 (v := vr 30) rfl rfl ?_
          refine V_callV (pc := 126) dX11_search_126 (F' := 21) (As := []) (st := []) cw_RX11_341 rfl rfl hL.t30 (by decide) (Nat.le_of_ble_eq_true rfl) (by omega) (y_come I0 F c n may hcn cl J (wI m I)    (by first | assumption | omega) hS hZ ⟨h44, h45⟩ ⟨h46, h47⟩ hC) ?_
          rintro _ _ ⟨rfl, Ix126, rfl, hm126⟩ ok126 le126
          refine V_goto (pc := 129) dX11_search_129 (tgt := 73) rfl ?_
          exact ih _ _ _ hm126 (hR.come hW hp) ((comeA_6s).trans hst) (fun x I' h_ => kx x I' (by rw [runA_0 hp]; exact h_))
      · have hp : ph = 1 := hp
        have hC := hR.c1 hp
        have hb := hZ.2.1
        obtain ⟨b1, b2, b3, b4, b5, b6, b7, b8⟩ := hb
        have hw := hR.c2 (by omega)
        have i6 := hC.1.2.2.1
        have i12 := hC.1.2.2.2.2.1
        refine V_ld (pc := 73) dX11_search_73 (v := vi 0) rfl rfl ?_
        refine V_if_ne (pc := 75) dX11_search_75 (tgt := 244) rfl (fun h_ => absurd h_ (by decide)) (fun _ => ?_)
        refine V_ld (pc := 78) dX11_search_78 (v := vr 30) rfl rfl ?_
        refine V_getIv (pc := 79) dX11_search_79 (v := 0) fw_RX11_273 rfl hL.t30 h44 (fun g79 => ?_)
        refine V_if_ne (pc := 82) dX11_search_82 (tgt := 244) rfl (fun h_ => absurd h_ (by decide)) (fun _ => ?_)
        refine V_ld (pc := 85) dX11_search_85 (v := vr 30) rfl rfl ?_
        refine V_getIv (pc := 86) dX11_search_86 (v := 0) fw_RX11_299 rfl hL.t30 h45 (fun g86 => ?_)
        refine V_if_eq (pc := 89) dX11_search_89 (tgt := 118) rfl (fun _ => ?_) (fun h_ => absurd h_ (by decide))
        refine V_ld (pc := 118) dX11_search_118 (v := vr 30) rfl rfl ?_
        refine V_getIv (pc := 119) dX11_search_119 (v := (-1)) fw_RX11_282 rfl hL.t30 h46 (fun g119 => ?_)
        refine V_if_lt (pc := 122) dX11_search_122 (tgt := 132) rfl (fun _ => ?_) (fun h_ => absurd h_ (by decide))
        refine V_ld (pc := 132) dX11_search_132 (v := vr 30) rfl rfl ?_
        refine V_getIv (pc := 133) dX11_search_133 (v := (J.1 8)) fw_RX11_285 rfl hL.t30 h47 (fun g133 => ?_)
        refine V_if_lt (pc := 136) dX11_search_136 (tgt := 146) rfl (fun h136 => ?_) (fun h136 => ?_)
        · skip
          refine V_ld (pc := 146) dX11_search_146 (v := vr 30) rfl rfl ?_
          refine V_dup (pc := 147) dX11_search_147 rfl ?_
          refine V_getIv (pc := 148) dX11_search_148 (v := (J.1 11)) fw_RX11_329 rfl hL.t30 b6 (fun g148 => ?_)
          refine V_iconst (pc := 151) dX11_search_151 (by unfold I32; omega) ?_
          refine V_iadd (pc := 152) dX11_search_152 (by unfold I32 at *; omega) ?_
          refine V_putI (pc := 153) dX11_search_153 fw_RX11_329 rfl hL.t30 (Or.inl rfl) (Or.inl rfl) ?_
          refine V_ld (pc := 156) dX11_search_156 (v := vr 30) rfl rfl ?_
          refine V_ld (pc := 157) dX11_search_157 (v := vr 30) rfl rfl ?_
          refine V_getIv (pc := 158) dX11_search_158 (v := (I 30 42)) fw_RX11_332 rfl hL.t30 (by first | exact rfl | (simp only [mI_setI, up2]; repeat (first | exact rfl | rw [if_neg (by omega)]))) (fun g158 => ?_)
          refine V_if_ge (pc := 161) dX11_search_161 (tgt := 173) rfl (fun h161 => ?_) (fun h161 => ?_)
          · skip
            refine V_ld (pc := 173) dX11_search_173 (v := vr 30) rfl rfl ?_
            refine V_getIv (pc := 174) dX11_search_174 (v := (I 30 42)) fw_RX11_332 rfl hL.t30 (by first | exact rfl | (simp only [mI_setI, up2]; repeat (first | exact rfl | rw [if_neg (by omega)]))) (fun g174 => ?_)
            refine V_ld (pc := 177) dX11_search_177 (v := vr 30) rfl rfl ?_
            refine V_getIv (pc := 178) dX11_search_178 (v := (J.1 9)) fw_RX11_279 rfl hL.t30 (by first | exact b4 | (simp only [mI_setI, up2]; repeat (first | exact b4 | rw [if_neg (by omega)]))) (fun g178 => ?_)
            refine V_ld (pc := 181) dX11_search_181 (v := vi st) rfl rfl ?_
            refine V_isub (pc := 182) dX11_search_182 (by unfold I32 at *; omega) ?_
            refine V_callS (pc := 183) dX11_search_183 (F' := 0) (As := [vi (I 30 42), vi ((J.1 9) - st)]) (st := [vr 30]) cw_RX11_347 rfl rfl (Nat.le_of_ble_eq_true rfl) (by omega) (j_min_i  (setI (wI m I) 30 41 ((J.1 11) + 1)) (I 30 42) ((J.1 9) - st)   ) ?_
            rintro _ _ ⟨x183, rfl, hx183, rfl⟩ ok183 le183
            refine V_putI (pc := 186) dX11_search_186 fw_RX11_332 rfl hL.t30 (Or.inl rfl) (Or.inl rfl) ?_
            refine V_ld (pc := 189) dX11_search_189 (v := vr 30) rfl rfl ?_
            refine V_ld (pc := 190) dX11_search_190 (v := vr 30) rfl rfl ?_
            refine V_getIv (pc := 191) dX11_search_191 (v := (I 30 43)) fw_RX11_335 rfl hL.t30 (by first | exact rfl | (simp only [mI_setI, up2]; repeat (first | exact rfl | rw [if_neg (by omega)]))) (fun g191 => ?_)
            refine V_ld (pc := 194) dX11_search_194 (v := vr 30) rfl rfl ?_
            refine V_getIv (pc := 195) dX11_search_195 (v := (J.1 9)) fw_RX11_279 rfl hL.t30 (by first | exact b4 | (simp only [mI_setI, up2]; repeat (first | exact b4 | rw [if_neg (by omega)]))) (fun g195 => ?_)
            refine V_ld (pc := 198) dX11_search_198 (v := vi st) rfl rfl ?_
            refine V_isub (pc := 199) dX11_search_199 (by unfold I32 at *; omega) ?_
            refine V_callS (pc := 200) dX11_search_200 (F' := 0) (As := [vi (I 30 43), vi ((J.1 9) - st)]) (st := [vr 30]) cw_RX11_352 rfl rfl (Nat.le_of_ble_eq_true rfl) (by omega) (j_max_i  (setI (setI (wI m I) 30 41 ((J.1 11) + 1)) 30 42 x183) (I 30 43) ((J.1 9) - st)   ) ?_
            rintro _ _ ⟨x200, rfl, hx200, rfl⟩ ok200 le200
            refine V_putI (pc := 203) dX11_search_203 fw_RX11_335 rfl hL.t30 (Or.inl rfl) (Or.inl rfl) ?_
            have ha206 : x183 = (noteA J).1 12 := by
              show x183 = if J.1 11 = 0 then J.1 9 - J.1 6 else if J.1 9 - J.1 6 < J.1 12 then J.1 9 - J.1 6 else J.1 12
              by_cases hz_ : J.1 11 = 0
              · rw [if_pos hz_]; have h_ := b7 hz_; omega
              · rw [if_neg hz_]; have h_ := b8 hz_; split <;> omega
            have hb206 : x200 = (noteA J).1 13 := by
              show x200 = if J.1 13 < J.1 9 - J.1 6 then J.1 9 - J.1 6 else J.1 13
              by_cases hz_ : J.1 11 = 0
              · have h_ := b7 hz_; split <;> omega
              · have h_ := b8 hz_; split <;> omega
            refine V_ld (pc := 206) dX11_search_206 (v := vi e) rfl rfl ?_
            refine V_iconst (pc := 207) dX11_search_207 (by unfold I32; omega) ?_
            refine V_icmp_eq (pc := 208) dX11_search_208 (tgt := 219) rfl (fun h208 => ?_) (fun h208 => ?_)
            · skip
              refine V_iconst (pc := 219) dX11_search_219 (by unfold I32; omega) ?_
              refine V_goto (pc := 220) dX11_search_220 (tgt := 224) rfl ?_
              refine V_st (pc := 224) dX11_search_224 (ls' := [(3, vi 1), (4, vi 0), (0, vr 30), (1, vi st), (2, vi e)]) rfl (Nat.le_of_ble_eq_true rfl) rfl ?_
              refine V_ld (pc := 225) dX11_search_225 (v := vi 1) rfl rfl ?_
              refine V_st (pc := 226) dX11_search_226 (ls' := [(4, vi 1), (3, vi 1), (0, vr 30), (1, vi st), (2, vi e)]) rfl (Nat.le_of_ble_eq_true rfl) rfl ?_
              refine V_ld (pc := 228) dX11_search_228 (v := vr 30) rfl rfl ?_
              refine V_ld (pc := 229) dX11_search_229 (v := vi 1) rfl rfl ?_
              refine V_if_ne (pc := 230) dX11_search_230 (tgt := 237) rfl (fun _ => ?_) (fun h_ => absurd h_ (by decide))
              refine V_iconst (pc := 237) dX11_search_237 (by unfold I32; omega) ?_
              refine V_putI (pc := 238) dX11_search_238 fw_RX11_299 rfl hL.t30 (Or.inl rfl) (Or.inr ⟨rfl, by first | exact Or.inl rfl | exact Or.inr rfl | omega⟩) ?_
              refine V_goto (pc := 241) dX11_search_241 (tgt := 73) rfl ?_
              refine V_ld (pc := 73) dX11_search_73 (v := vi 1) rfl rfl ?_
              refine V_if_ne (pc := 75) dX11_search_75 (tgt := 244) rfl (fun _ => ?_) (fun h_ => absurd h_ (by decide))
              refine V_ld (pc := 244) dX11_search_244 (v := vi 1) rfl rfl ?_
              refine V_reti (pc := 245) dX11_search_245 (show _ = (0 : Int) ∨ _ = (1 : Int) from by first | exact Or.inl rfl | exact Or.inr rfl | omega) ?_
              have hzn := RZ.nt hZ hw.2.1 ha206 hb206
              refine kx _ (mI (setI (setI (setI (setI (wI m I) 30 41 ((J.1 11) + 1)) 30 42 x183) 30 43 x200) 30 45 0)) ⟨by rw [runA_w hp (by omega) (by omega)]; exact (RZ.s4 (k := 45) (v := 0) hzn (by omega)).1, Or.inr ⟨by rw [runA_w hp (by omega) (by omega)]; show (1 : Int) ≠ -7; decide, h44, by rw [runA_w hp (by omega) (by omega)]; exact (RZ.s4 (k := 45) (v := 0) hzn (by omega)).2.1, ?_⟩⟩
              rw [runA_w hp (by omega) (by omega)]
              rfl
            · skip
              refine V_ld (pc := 211) dX11_search_211 (v := vr 30) rfl rfl ?_
              refine V_getIv (pc := 212) dX11_search_212 (v := (J.1 9)) fw_RX11_279 rfl hL.t30 (by first | exact b4 | (simp only [mI_setI, up2]; repeat (first | exact b4 | rw [if_neg (by omega)]))) (fun g212 => ?_)
              refine V_ld (pc := 215) dX11_search_215 (v := vi e) rfl rfl ?_
              refine V_icmp_ne (pc := 216) dX11_search_216 (tgt := 223) rfl (fun h216 => ?_) (fun h216 => ?_)
              · skip
                refine V_iconst (pc := 223) dX11_search_223 (by unfold I32; omega) ?_
                refine V_st (pc := 224) dX11_search_224 (ls' := [(3, vi 0), (4, vi 0), (0, vr 30), (1, vi st), (2, vi e)]) rfl (Nat.le_of_ble_eq_true rfl) rfl ?_
                refine V_ld (pc := 225) dX11_search_225 (v := vi 0) rfl rfl ?_
                refine V_st (pc := 226) dX11_search_226 (ls' := [(4, vi 0), (3, vi 0), (0, vr 30), (1, vi st), (2, vi e)]) rfl (Nat.le_of_ble_eq_true rfl) rfl ?_
                refine V_ld (pc := 228) dX11_search_228 (v := vr 30) rfl rfl ?_
                refine V_ld (pc := 229) dX11_search_229 (v := vi 0) rfl rfl ?_
                refine V_if_ne (pc := 230) dX11_search_230 (tgt := 237) rfl (fun h_ => absurd h_ (by decide)) (fun _ => ?_)
                refine V_iconst (pc := 233) dX11_search_233 (by unfold I32; omega) ?_
                refine V_goto (pc := 234) dX11_search_234 (tgt := 238) rfl ?_
                refine V_putI (pc := 238) dX11_search_238 fw_RX11_299 rfl hL.t30 (Or.inl rfl) (Or.inr ⟨rfl, by first | exact Or.inl rfl | exact Or.inr rfl | omega⟩) ?_
                refine V_goto (pc := 241) dX11_search_241 (tgt := 73) rfl ?_
                have hzn := RZ.nt hZ hw.2.1 ha206 hb206
                refine V_mem (m' := wI m (mI (setI (setI (setI (setI (wI m I) 30 41 ((J.1 11) + 1)) 30 42 x183) 30 43 x200) 30 45 1))) rfl ?_
                skip
                exact ih 2 (noteA J) _ (Or.inr ⟨show (2 : Int) ≠ 3 by decide, RZ.s4 (k := 45) (v := 1) hzn (by omega), h44, Or.inr (Or.inr ⟨rfl, rfl⟩)⟩) (hR.note hp) hst (fun x I' h_ => kx x I' (by rw [runA_v hp (by omega) (by omega)]; exact h_))
              · skip
                refine V_iconst (pc := 219) dX11_search_219 (by unfold I32; omega) ?_
                refine V_goto (pc := 220) dX11_search_220 (tgt := 224) rfl ?_
                refine V_st (pc := 224) dX11_search_224 (ls' := [(3, vi 1), (4, vi 0), (0, vr 30), (1, vi st), (2, vi e)]) rfl (Nat.le_of_ble_eq_true rfl) rfl ?_
                refine V_ld (pc := 225) dX11_search_225 (v := vi 1) rfl rfl ?_
                refine V_st (pc := 226) dX11_search_226 (ls' := [(4, vi 1), (3, vi 1), (0, vr 30), (1, vi st), (2, vi e)]) rfl (Nat.le_of_ble_eq_true rfl) rfl ?_
                refine V_ld (pc := 228) dX11_search_228 (v := vr 30) rfl rfl ?_
                refine V_ld (pc := 229) dX11_search_229 (v := vi 1) rfl rfl ?_
                refine V_if_ne (pc := 230) dX11_search_230 (tgt := 237) rfl (fun _ => ?_) (fun h_ => absurd h_ (by decide))
                refine V_iconst (pc := 237) dX11_search_237 (by unfold I32; omega) ?_
                refine V_putI (pc := 238) dX11_search_238 fw_RX11_299 rfl hL.t30 (Or.inl rfl) (Or.inr ⟨rfl, by first | exact Or.inl rfl | exact Or.inr rfl | omega⟩) ?_
                refine V_goto (pc := 241) dX11_search_241 (tgt := 73) rfl ?_
                refine V_ld (pc := 73) dX11_search_73 (v := vi 1) rfl rfl ?_
                refine V_if_ne (pc := 75) dX11_search_75 (tgt := 244) rfl (fun _ => ?_) (fun h_ => absurd h_ (by decide))
                refine V_ld (pc := 244) dX11_search_244 (v := vi 1) rfl rfl ?_
                refine V_reti (pc := 245) dX11_search_245 (show _ = (0 : Int) ∨ _ = (1 : Int) from by first | exact Or.inl rfl | exact Or.inr rfl | omega) ?_
                have hzn := RZ.nt hZ hw.2.1 ha206 hb206
                refine kx _ (mI (setI (setI (setI (setI (wI m I) 30 41 ((J.1 11) + 1)) 30 42 x183) 30 43 x200) 30 45 0)) ⟨by rw [runA_w hp (by omega) (by omega)]; exact (RZ.s4 (k := 45) (v := 0) hzn (by omega)).1, Or.inr ⟨by rw [runA_w hp (by omega) (by omega)]; show (1 : Int) ≠ -7; decide, h44, by rw [runA_w hp (by omega) (by omega)]; exact (RZ.s4 (k := 45) (v := 0) hzn (by omega)).2.1, ?_⟩⟩
                rw [runA_w hp (by omega) (by omega)]
                rfl
          · skip
            refine V_ld (pc := 164) dX11_search_164 (v := vr 30) rfl rfl ?_
            refine V_getIv (pc := 165) dX11_search_165 (v := (J.1 9)) fw_RX11_279 rfl hL.t30 (by first | exact b4 | (simp only [mI_setI, up2]; repeat (first | exact b4 | rw [if_neg (by omega)]))) (fun g165 => ?_)
            refine V_ld (pc := 168) dX11_search_168 (v := vi st) rfl rfl ?_
            refine V_isub (pc := 169) dX11_search_169 (by unfold I32 at *; omega) ?_
            refine V_goto (pc := 170) dX11_search_170 (tgt := 186) rfl ?_
            refine V_putI (pc := 186) dX11_search_186 fw_RX11_332 rfl hL.t30 (Or.inl rfl) (Or.inl rfl) ?_
            refine V_ld (pc := 189) dX11_search_189 (v := vr 30) rfl rfl ?_
            refine V_ld (pc := 190) dX11_search_190 (v := vr 30) rfl rfl ?_
            refine V_getIv (pc := 191) dX11_search_191 (v := (I 30 43)) fw_RX11_335 rfl hL.t30 (by first | exact rfl | (simp only [mI_setI, up2]; repeat (first | exact rfl | rw [if_neg (by omega)]))) (fun g191 => ?_)
            refine V_ld (pc := 194) dX11_search_194 (v := vr 30) rfl rfl ?_
            refine V_getIv (pc := 195) dX11_search_195 (v := (J.1 9)) fw_RX11_279 rfl hL.t30 (by first | exact b4 | (simp only [mI_setI, up2]; repeat (first | exact b4 | rw [if_neg (by omega)]))) (fun g195 => ?_)
            refine V_ld (pc := 198) dX11_search_198 (v := vi st) rfl rfl ?_
            refine V_isub (pc := 199) dX11_search_199 (by unfold I32 at *; omega) ?_
            refine V_callS (pc := 200) dX11_search_200 (F' := 0) (As := [vi (I 30 43), vi ((J.1 9) - st)]) (st := [vr 30]) cw_RX11_352 rfl rfl (Nat.le_of_ble_eq_true rfl) (by omega) (j_max_i  (setI (setI (wI m I) 30 41 ((J.1 11) + 1)) 30 42 ((J.1 9) - st)) (I 30 43) ((J.1 9) - st)   ) ?_
            rintro _ _ ⟨x200, rfl, hx200, rfl⟩ ok200 le200
            refine V_putI (pc := 203) dX11_search_203 fw_RX11_335 rfl hL.t30 (Or.inl rfl) (Or.inl rfl) ?_
            have ha206 : (J.1 9) - st = (noteA J).1 12 := by
              show (J.1 9) - st = if J.1 11 = 0 then J.1 9 - J.1 6 else if J.1 9 - J.1 6 < J.1 12 then J.1 9 - J.1 6 else J.1 12
              by_cases hz_ : J.1 11 = 0
              · rw [if_pos hz_]; have h_ := b7 hz_; omega
              · rw [if_neg hz_]; have h_ := b8 hz_; split <;> omega
            have hb206 : x200 = (noteA J).1 13 := by
              show x200 = if J.1 13 < J.1 9 - J.1 6 then J.1 9 - J.1 6 else J.1 13
              by_cases hz_ : J.1 11 = 0
              · have h_ := b7 hz_; split <;> omega
              · have h_ := b8 hz_; split <;> omega
            refine V_ld (pc := 206) dX11_search_206 (v := vi e) rfl rfl ?_
            refine V_iconst (pc := 207) dX11_search_207 (by unfold I32; omega) ?_
            refine V_icmp_eq (pc := 208) dX11_search_208 (tgt := 219) rfl (fun h208 => ?_) (fun h208 => ?_)
            · skip
              refine V_iconst (pc := 219) dX11_search_219 (by unfold I32; omega) ?_
              refine V_goto (pc := 220) dX11_search_220 (tgt := 224) rfl ?_
              refine V_st (pc := 224) dX11_search_224 (ls' := [(3, vi 1), (4, vi 0), (0, vr 30), (1, vi st), (2, vi e)]) rfl (Nat.le_of_ble_eq_true rfl) rfl ?_
              refine V_ld (pc := 225) dX11_search_225 (v := vi 1) rfl rfl ?_
              refine V_st (pc := 226) dX11_search_226 (ls' := [(4, vi 1), (3, vi 1), (0, vr 30), (1, vi st), (2, vi e)]) rfl (Nat.le_of_ble_eq_true rfl) rfl ?_
              refine V_ld (pc := 228) dX11_search_228 (v := vr 30) rfl rfl ?_
              refine V_ld (pc := 229) dX11_search_229 (v := vi 1) rfl rfl ?_
              refine V_if_ne (pc := 230) dX11_search_230 (tgt := 237) rfl (fun _ => ?_) (fun h_ => absurd h_ (by decide))
              refine V_iconst (pc := 237) dX11_search_237 (by unfold I32; omega) ?_
              refine V_putI (pc := 238) dX11_search_238 fw_RX11_299 rfl hL.t30 (Or.inl rfl) (Or.inr ⟨rfl, by first | exact Or.inl rfl | exact Or.inr rfl | omega⟩) ?_
              refine V_goto (pc := 241) dX11_search_241 (tgt := 73) rfl ?_
              refine V_ld (pc := 73) dX11_search_73 (v := vi 1) rfl rfl ?_
              refine V_if_ne (pc := 75) dX11_search_75 (tgt := 244) rfl (fun _ => ?_) (fun h_ => absurd h_ (by decide))
              refine V_ld (pc := 244) dX11_search_244 (v := vi 1) rfl rfl ?_
              refine V_reti (pc := 245) dX11_search_245 (show _ = (0 : Int) ∨ _ = (1 : Int) from by first | exact Or.inl rfl | exact Or.inr rfl | omega) ?_
              have hzn := RZ.nt hZ hw.2.1 ha206 hb206
              refine kx _ (mI (setI (setI (setI (setI (wI m I) 30 41 ((J.1 11) + 1)) 30 42 ((J.1 9) - st)) 30 43 x200) 30 45 0)) ⟨by rw [runA_w hp (by omega) (by omega)]; exact (RZ.s4 (k := 45) (v := 0) hzn (by omega)).1, Or.inr ⟨by rw [runA_w hp (by omega) (by omega)]; show (1 : Int) ≠ -7; decide, h44, by rw [runA_w hp (by omega) (by omega)]; exact (RZ.s4 (k := 45) (v := 0) hzn (by omega)).2.1, ?_⟩⟩
              rw [runA_w hp (by omega) (by omega)]
              rfl
            · skip
              refine V_ld (pc := 211) dX11_search_211 (v := vr 30) rfl rfl ?_
              refine V_getIv (pc := 212) dX11_search_212 (v := (J.1 9)) fw_RX11_279 rfl hL.t30 (by first | exact b4 | (simp only [mI_setI, up2]; repeat (first | exact b4 | rw [if_neg (by omega)]))) (fun g212 => ?_)
              refine V_ld (pc := 215) dX11_search_215 (v := vi e) rfl rfl ?_
              refine V_icmp_ne (pc := 216) dX11_search_216 (tgt := 223) rfl (fun h216 => ?_) (fun h216 => ?_)
              · skip
                refine V_iconst (pc := 223) dX11_search_223 (by unfold I32; omega) ?_
                refine V_st (pc := 224) dX11_search_224 (ls' := [(3, vi 0), (4, vi 0), (0, vr 30), (1, vi st), (2, vi e)]) rfl (Nat.le_of_ble_eq_true rfl) rfl ?_
                refine V_ld (pc := 225) dX11_search_225 (v := vi 0) rfl rfl ?_
                refine V_st (pc := 226) dX11_search_226 (ls' := [(4, vi 0), (3, vi 0), (0, vr 30), (1, vi st), (2, vi e)]) rfl (Nat.le_of_ble_eq_true rfl) rfl ?_
                refine V_ld (pc := 228) dX11_search_228 (v := vr 30) rfl rfl ?_
                refine V_ld (pc := 229) dX11_search_229 (v := vi 0) rfl rfl ?_
                refine V_if_ne (pc := 230) dX11_search_230 (tgt := 237) rfl (fun h_ => absurd h_ (by decide)) (fun _ => ?_)
                refine V_iconst (pc := 233) dX11_search_233 (by unfold I32; omega) ?_
                refine V_goto (pc := 234) dX11_search_234 (tgt := 238) rfl ?_
                refine V_putI (pc := 238) dX11_search_238 fw_RX11_299 rfl hL.t30 (Or.inl rfl) (Or.inr ⟨rfl, by first | exact Or.inl rfl | exact Or.inr rfl | omega⟩) ?_
                refine V_goto (pc := 241) dX11_search_241 (tgt := 73) rfl ?_
                have hzn := RZ.nt hZ hw.2.1 ha206 hb206
                refine V_mem (m' := wI m (mI (setI (setI (setI (setI (wI m I) 30 41 ((J.1 11) + 1)) 30 42 ((J.1 9) - st)) 30 43 x200) 30 45 1))) rfl ?_
                skip
                exact ih 2 (noteA J) _ (Or.inr ⟨show (2 : Int) ≠ 3 by decide, RZ.s4 (k := 45) (v := 1) hzn (by omega), h44, Or.inr (Or.inr ⟨rfl, rfl⟩)⟩) (hR.note hp) hst (fun x I' h_ => kx x I' (by rw [runA_v hp (by omega) (by omega)]; exact h_))
              · skip
                refine V_iconst (pc := 219) dX11_search_219 (by unfold I32; omega) ?_
                refine V_goto (pc := 220) dX11_search_220 (tgt := 224) rfl ?_
                refine V_st (pc := 224) dX11_search_224 (ls' := [(3, vi 1), (4, vi 0), (0, vr 30), (1, vi st), (2, vi e)]) rfl (Nat.le_of_ble_eq_true rfl) rfl ?_
                refine V_ld (pc := 225) dX11_search_225 (v := vi 1) rfl rfl ?_
                refine V_st (pc := 226) dX11_search_226 (ls' := [(4, vi 1), (3, vi 1), (0, vr 30), (1, vi st), (2, vi e)]) rfl (Nat.le_of_ble_eq_true rfl) rfl ?_
                refine V_ld (pc := 228) dX11_search_228 (v := vr 30) rfl rfl ?_
                refine V_ld (pc := 229) dX11_search_229 (v := vi 1) rfl rfl ?_
                refine V_if_ne (pc := 230) dX11_search_230 (tgt := 237) rfl (fun _ => ?_) (fun h_ => absurd h_ (by decide))
                refine V_iconst (pc := 237) dX11_search_237 (by unfold I32; omega) ?_
                refine V_putI (pc := 238) dX11_search_238 fw_RX11_299 rfl hL.t30 (Or.inl rfl) (Or.inr ⟨rfl, by first | exact Or.inl rfl | exact Or.inr rfl | omega⟩) ?_
                refine V_goto (pc := 241) dX11_search_241 (tgt := 73) rfl ?_
                refine V_ld (pc := 73) dX11_search_73 (v := vi 1) rfl rfl ?_
                refine V_if_ne (pc := 75) dX11_search_75 (tgt := 244) rfl (fun _ => ?_) (fun h_ => absurd h_ (by decide))
                refine V_ld (pc := 244) dX11_search_244 (v := vi 1) rfl rfl ?_
                refine V_reti (pc := 245) dX11_search_245 (show _ = (0 : Int) ∨ _ = (1 : Int) from by first | exact Or.inl rfl | exact Or.inr rfl | omega) ?_
                have hzn := RZ.nt hZ hw.2.1 ha206 hb206
                refine kx _ (mI (setI (setI (setI (setI (wI m I) 30 41 ((J.1 11) + 1)) 30 42 ((J.1 9) - st)) 30 43 x200) 30 45 0)) ⟨by rw [runA_w hp (by omega) (by omega)]; exact (RZ.s4 (k := 45) (v := 0) hzn (by omega)).1, Or.inr ⟨by rw [runA_w hp (by omega) (by omega)]; show (1 : Int) ≠ -7; decide, h44, by rw [runA_w hp (by omega) (by omega)]; exact (RZ.s4 (k := 45) (v := 0) hzn (by omega)).2.1, ?_⟩⟩
                rw [runA_w hp (by omega) (by omega)]
                rfl
        · skip
          refine V_ld (pc := 139) dX11_search_139 (v := vr 30) rfl rfl ?_
          refine V_callV (pc := 140) dX11_search_140 (F' := 3) (As := []) (st := []) cw_RX11_344 rfl rfl hL.t30 (by decide) (Nat.le_of_ble_eq_true rfl) (by omega) (y_goOn I0 F c n may hcn cl J (wI m I)    (by first | assumption | omega) hS hZ ⟨h44, h45⟩ h47 ⟨hC.1, hC.2, by omega⟩) ?_
          rintro _ _ ⟨rfl, Ix140, rfl, hm140⟩ ok140 le140
          refine V_goto (pc := 143) dX11_search_143 (tgt := 73) rfl ?_
          exact ih _ _ _ hm140 (hR.goOn hW hp (by omega)) ((goOnA_6s).trans hst) (fun x I' h_ => kx x I' (by rw [runA_1 hp (by omega)]; exact h_))
      · have hp : ph = 2 := hp
        have hw := hR.c2 (by omega)
        obtain ⟨b1, b2, b3, b4, b5, b6, b7, b8⟩ := hZ.2.1
        have i5 := hw.1.2.1
        refine V_ld (pc := 73) dX11_search_73 (v := vi 0) rfl rfl ?_
        refine V_if_ne (pc := 75) dX11_search_75 (tgt := 244) rfl (fun h_ => absurd h_ (by decide)) (fun _ => ?_)
        refine V_ld (pc := 78) dX11_search_78 (v := vr 30) rfl rfl ?_
        refine V_getIv (pc := 79) dX11_search_79 (v := 0) fw_RX11_273 rfl hL.t30 h44 (fun g79 => ?_)
        refine V_if_ne (pc := 82) dX11_search_82 (tgt := 244) rfl (fun h_ => absurd h_ (by decide)) (fun _ => ?_)
        refine V_ld (pc := 85) dX11_search_85 (v := vr 30) rfl rfl ?_
        refine V_getIv (pc := 86) dX11_search_86 (v := 1) fw_RX11_299 rfl hL.t30 h45 (fun g86 => ?_)
        refine V_if_eq (pc := 89) dX11_search_89 (tgt := 118) rfl (fun h_ => absurd h_ (by decide)) (fun _ => ?_)
        refine V_ld (pc := 92) dX11_search_92 (v := vr 30) rfl rfl ?_
        refine V_getIv (pc := 93) dX11_search_93 (v := (J.1 5)) fw_RX11_276 rfl hL.t30 b2 (fun g93 => ?_)
        refine V_if_ne (pc := 96) dX11_search_96 (tgt := 103) rfl (fun h96 => ?_) (fun h96 => ?_)
        · skip
          refine V_iconst (pc := 103) dX11_search_103 (by unfold I32; omega) ?_
          refine V_st (pc := 104) dX11_search_104 (ls' := [(4, vi 0), (3, vi 0), (0, vr 30), (1, vi st), (2, vi e)]) rfl (Nat.le_of_ble_eq_true rfl) rfl ?_
          refine V_ld (pc := 106) dX11_search_106 (v := vi 0) rfl rfl ?_
          refine V_if_ne (pc := 108) dX11_search_108 (tgt := 73) rfl (fun h_ => absurd h_ (by decide)) (fun _ => ?_)
          refine V_ld (pc := 111) dX11_search_111 (v := vr 30) rfl rfl ?_
          refine V_callV (pc := 112) dX11_search_112 (F' := 3) (As := []) (st := []) cw_RX11_338 rfl rfl hL.t30 (by decide) (Nat.le_of_ble_eq_true rfl) (by omega) (y_turns I0 F c n may hcn cl J (wI m I)    (by first | assumption | omega) hS hZ h44 ⟨hw.1, by omega⟩) ?_
          rintro _ _ ⟨rfl, Ix112, rfl, hm112⟩ ok112 le112
          refine V_goto (pc := 115) dX11_search_115 (tgt := 73) rfl ?_
          skip
          exact ih _ _ _ hm112 (hR.back hW hp (by omega)) ((goBkA_6s).trans hst) (fun x I' h_ => kx x I' (by rw [runA_b hp (by omega)]; exact h_))
        · skip
          refine V_iconst (pc := 99) dX11_search_99 (by unfold I32; omega) ?_
          refine V_goto (pc := 100) dX11_search_100 (tgt := 104) rfl ?_
          refine V_st (pc := 104) dX11_search_104 (ls' := [(4, vi 1), (3, vi 0), (0, vr 30), (1, vi st), (2, vi e)]) rfl (Nat.le_of_ble_eq_true rfl) rfl ?_
          refine V_ld (pc := 106) dX11_search_106 (v := vi 1) rfl rfl ?_
          refine V_if_ne (pc := 108) dX11_search_108 (tgt := 73) rfl (fun _ => ?_) (fun h_ => absurd h_ (by decide))
          refine V_ld (pc := 73) dX11_search_73 (v := vi 1) rfl rfl ?_
          refine V_if_ne (pc := 75) dX11_search_75 (tgt := 244) rfl (fun _ => ?_) (fun h_ => absurd h_ (by decide))
          refine V_ld (pc := 244) dX11_search_244 (v := vi 0) rfl rfl ?_
          refine V_reti (pc := 245) dX11_search_245 (show _ = (0 : Int) ∨ _ = (1 : Int) from by first | exact Or.inl rfl | exact Or.inr rfl | omega) ?_
          exact kx _ _ ⟨by rw [runA_n hp (by omega)]; exact hZ.1, Or.inr ⟨by rw [runA_n hp (by omega)]; show (0 : Int) ≠ -7; decide, h44, by rw [runA_n hp (by omega)]; exact hZ.2.1, by rw [runA_n hp (by omega)]; rfl⟩⟩

