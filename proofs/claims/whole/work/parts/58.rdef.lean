/-! define(): the reference stores the parts -/
/-- what is sure of a part of a text that is well -/
def DPok (tx : Nat → Int) (n : Nat) (p : DPt) : Prop := 0 ≤ p.1 ∧ p.1 < 26 ∧ p.2.1 ≤ p.2.2.1 ∧ p.2.2.1 ≤ n ∧ (p.2.2.1 < n → tx p.2.2.1 = 59) ∧ ((p.2.2.2 = none ∧ p.2.2.1 = p.2.1) ∨ (p.2.2.2 = some (eitL tx n 4 (true, p.2.1)).1 ∧ (eitL tx n 4 (true, p.2.1)).2.2 = (true, p.2.2.1) ∧ p.2.1 < p.2.2.1))
theorem dPt_ok {tx : Nat → Int} {n : Nat} {S : CS} (hw : (dR tx n S).2.2.1 = true) (hn : S.2 ≤ n) (he : (dR tx n S).2.2.2 < n → tx (dR tx n S).2.2.2 = 59) : DPok tx n (dPt tx n S) := by
  have h := (dR_ni tx n S).2 hw
  have hb := (dR_ni tx n S).1.1 hn
  refine ⟨by show 0 ≤ ccS tx n S - 65; omega, by show ccS tx n S - 65 < 26; omega, h.2.2.2, hb, he, ?_⟩
  show ((if ccS tx n (dS2 tx n S) = -1 then none else some (dR tx n S).1) = none ∧ (dR tx n S).2.2.2 = (dS2 tx n S).2) ∨ ((if ccS tx n (dS2 tx n S) = -1 then none else some (dR tx n S).1) = some (eitL tx n 4 (true, (dS2 tx n S).2)).1 ∧ (eitL tx n 4 (true, (dS2 tx n S).2)).2.2 = (true, (dR tx n S).2.2.2) ∧ (dS2 tx n S).2 < (dR tx n S).2.2.2)
  have hS2 : dS2 tx n S = (true, (dS2 tx n S).2) := by
    rw [← h.2.1]
  by_cases c : ccS tx n (dS2 tx n S) = -1
  · have e : dR tx n S = ([], (fun _ => true), dS2 tx n S) := if_pos c
    rw [if_pos c, e]
    exact Or.inl ⟨rfl, rfl⟩
  · have e : dR tx n S = eitL tx n 4 (dS2 tx n S) := if_neg c
    rw [if_neg c]
    rw [← hS2, ← e]
    refine Or.inr ⟨rfl, ?_, ?_⟩
    · rw [← hw]
    · have g := ((eitL_ni tx n 4 (dS2 tx n S)).1.2.1 (by rw [← e]; exact hw)).2
      rw [← e] at g
      omega
theorem defL_ok {tx : Nat → Int} {n : Nat} : ∀ (f : Nat) (S : CS), S.2 ≤ n → (defL tx n f S).2.1 = true → (defL tx n f S).2.2 = n → ∀ p ∈ (defL tx n f S).1, DPok tx n p
  | 0, S, hn, hw, he => by cases hw
  | f + 1, S, hn, hw, he => by
    have e : defL tx n (f + 1) S = (if (dR tx n S).2.2.1 = true then (if dNx tx n (dR tx n S).2.2 then (dPt tx n S :: (defL tx n f (cAdv (dR tx n S).2.2)).1, (defL tx n f (cAdv (dR tx n S).2.2)).2) else ([dPt tx n S], (dR tx n S).2.2)) else ([], (dR tx n S).2.2)) := rfl
    by_cases c : (dR tx n S).2.2.1 = true
    · rw [e, if_pos c] at hw he ⊢
      by_cases d : dNx tx n (dR tx n S).2.2
      · rw [if_pos d] at hw he ⊢
        intro p hp
        rcases List.mem_cons.mp hp with rfl | hp
        · exact dPt_ok c hn (fun _ => d.2.2)
        · exact defL_ok f _ d.2.1 hw he p hp
      · rw [if_neg d] at hw he ⊢
        intro p hp
        rcases List.mem_cons.mp hp with rfl | hp
        · exact dPt_ok c hn (fun h => by have h2 : (dR tx n S).2.2.2 = n := he; omega)
        · cases hp
    · rw [e, if_neg c] at hw
      exact absurd hw c
/-- the letters' texts, behind these parts -/
def StR (tx : Nat → Int) (I0 I : Nat → Nat → Int) (L : List DPt) : Prop := ∀ w : Nat, w < 26 → match lastP L (w : Int) with
  | none => ∀ j, j < 121 → I 31 (186 + 121 * w + j) = I0 31 (186 + 121 * w + j)
  | some p => I 31 (186 + 121 * w) = ((p.2.2.1 - p.2.1 : Nat) : Int) ∧ ∀ j, j < p.2.2.1 - p.2.1 → I 31 (187 + 121 * w + j) = tx (p.2.1 + j)
theorem lastP_mem {L : List DPt} {w : Int} {q : DPt} (h : lastP L w = some q) : q ∈ L := by
  induction L with
  | nil => cases h
  | cons a L ih =>
    have e : lastP (a :: L) w = (match lastP L w with | some q => some q | none => if a.1 = w then some a else none) := rfl
    rw [e] at h
    cases c : lastP L w with
    | some q2 =>
      rw [c] at h
      cases Option.some.inj h
      exact List.mem_cons_of_mem _ (ih c)
    | none =>
      rw [c] at h
      by_cases d : a.1 = w
      · have h' : (if a.1 = w then some a else none) = some q := h
        rw [if_pos d] at h'
        cases Option.some.inj h'
        exact List.mem_cons_self
      · have h' : (if a.1 = w then some a else none) = some q := h
        rw [if_neg d] at h'
        cases h'
theorem StR.step {tx : Nat → Int} {I0 I J : Nat → Nat → Int} {L : List DPt} {p : DPt} {t : Nat} (h : StR tx I0 I L) (hL : ∀ q ∈ L, q.2.2.1 ≤ 120) (hp : 0 ≤ p.1 ∧ p.1 < 26 ∧ p.2.1 ≤ p.2.2.1 ∧ p.2.2.1 ≤ 120) (ht : (t : Int) = 186 + 121 * p.1) (h1 : J 31 t = ((p.2.2.1 - p.2.1 : Nat) : Int)) (h2 : ∀ j, j < p.2.2.1 - p.2.1 → J 31 (t + 1 + j) = tx (p.2.1 + j)) (h3 : ∀ k, ¬ (t ≤ k ∧ k < t + 1 + (p.2.2.1 - p.2.1)) → J 31 k = I 31 k) : StR tx I0 J (L ++ [p]) := by
  intro w hw
  rw [lastP_app]
  by_cases c : p.1 = (w : Int)
  · rw [if_pos c]
    have et : t = 186 + 121 * w := by omega
    subst et
    refine ⟨h1, fun j hj => ?_⟩
    rw [show 187 + 121 * w + j = 186 + 121 * w + 1 + j from by omega]
    exact h2 j hj
  · rw [if_neg c]
    have hs := h w hw
    have hd : ∀ j, j < 121 → J 31 (186 + 121 * w + j) = I 31 (186 + 121 * w + j) := fun j hj => h3 _ (by omega)
    cases e : lastP L (w : Int) with
    | none =>
      rw [e] at hs
      intro j hj
      exact (hd j hj).trans (hs j hj)
    | some q =>
      rw [e] at hs
      refine ⟨(hd 0 (by omega)).trans hs.1, fun j hj => ?_⟩
      have hq := hs.2 j hj
      have hql := hL q (lastP_mem e)
      have := hd (j + 1) (by omega)
      rw [show 186 + 121 * w + (j + 1) = 187 + 121 * w + j from by omega] at this
      exact this.trans hq

set_option maxHeartbeats 4000000 in
theorem L_rst1 {F : Nat} {m0 m : Mem} {post : Option AV → Mem → Prop} {b len : Nat} {t k nx nn : Int} (hL : Lay (mT m) (mR m)) (ht : 0 ≤ t ∧ t + 121 ≤ 3332) (hb : b + len ≤ 120) (hk : 0 ≤ k ∧ k < 120) (h47 : mI m 47 k.toNat = (b : Int)) (h46 : mI m 46 k.toNat = ((b + len : Nat) : Int)) (kx : V μX11_define F m0 post 298 [(5, vi ((b : Int) + ((len : Nat) : Int))), (4, vi t), (3, vi k), (2, vi nx), (1, vi nn), (0, vr 30)] [] (cpyI m 34 b 31 (t + 1).toNat len)) : ∀ (dd i : Nat), dd + i = len → V μX11_define F m0 post 255 [(5, vi ((b : Int) + ((i : Nat) : Int))), (4, vi t), (3, vi k), (2, vi nx), (1, vi nn), (0, vr 30)] [] (cpyI m 34 b 31 (t + 1).toNat i) := by
  intro dd
  induction dd with
  | zero =>
    intro i hi
    obtain rfl : len = i := by omega
    refine V_ld (pc := 255) dX11_define_255 (v := vi ((b : Int) + ((len : Nat) : Int))) rfl rfl ?_
    refine V_ld (pc := 257) dX11_define_257 (v := vr 30) rfl rfl ?_
    refine V_getRv (pc := 258) dX11_define_258 (o' := 46) fw_RX11_57 rfl hL.t30 hL.r30_28 ?_
    refine V_ld (pc := 261) dX11_define_261 (v := vi k) rfl rfl ?_
    refine V_ialdv (pc := 262) dX11_define_262 (v := ((b + len : Nat) : Int)) hL.t46 (by omega) (by rw [mI_cpyI, if_neg (by omega)]; exact h46) (fun g262 => ?_)
    refine V_icmp_ge (pc := 263) dX11_define_263 (tgt := 298) rfl (fun h263 => ?_) (fun h263 => ?_)
    · skip
      first | exact kx | (skip; exact kx) | (exfalso; omega)
    · skip
      refine V_ld (pc := 266) dX11_define_266 (v := vr 30) rfl rfl ?_
      refine V_getRv (pc := 267) dX11_define_267 (o' := 31) fw_RX11_9 rfl hL.t30 hL.r30_0 ?_
      refine V_ld (pc := 270) dX11_define_270 (v := vi t) rfl rfl ?_
      refine V_iconst (pc := 272) dX11_define_272 (by unfold I32; omega) ?_
      refine V_iadd (pc := 273) dX11_define_273 (by unfold I32 at *; omega) ?_
      refine V_ld (pc := 274) dX11_define_274 (v := vi ((b : Int) + ((len : Nat) : Int))) rfl rfl ?_
      refine V_iadd (pc := 276) dX11_define_276 (by unfold I32 at *; omega) ?_
      refine V_ld (pc := 277) dX11_define_277 (v := vr 30) rfl rfl ?_
      refine V_getRv (pc := 278) dX11_define_278 (o' := 47) fw_RX11_60 rfl hL.t30 hL.r30_29 ?_
      refine V_ld (pc := 281) dX11_define_281 (v := vi k) rfl rfl ?_
      refine V_ialdv (pc := 282) dX11_define_282 (v := (b : Int)) hL.t47 (by omega) (by rw [mI_cpyI, if_neg (by omega)]; exact h47) (fun g282 => ?_)
      refine V_isub (pc := 283) dX11_define_283 (by unfold I32 at *; omega) ?_
      refine V_ld (pc := 284) dX11_define_284 (v := vr 30) rfl rfl ?_
      refine V_getRv (pc := 285) dX11_define_285 (o' := 34) fw_RX11_21 rfl hL.t30 hL.r30_5 ?_
      refine V_ld (pc := 288) dX11_define_288 (v := vi ((b : Int) + ((len : Nat) : Int))) rfl rfl ?_
      refine V_ialdv (pc := 290) dX11_define_290 (v := mI (cpyI m 34 b 31 (t + 1).toNat len) 34 (((b : Int) + ((len : Nat) : Int)).toNat)) hL.t34 (by omega) rfl (fun g290 => ?_)
      refine V_iast (pc := 291) dX11_define_291 hL.t31 (by omega) ?_
      refine V_iinc (pc := 292) dX11_define_292 (x := ((b : Int) + ((len : Nat) : Int))) (ls' := [(5, vi (((b : Int) + ((len : Nat) : Int)) + 1)), (4, vi t), (3, vi k), (2, vi nx), (1, vi nn), (0, vr 30)]) rfl (by unfold I32 at *; omega) (Nat.le_of_ble_eq_true rfl) rfl ?_
      refine V_goto (pc := 295) dX11_define_295 (tgt := 255) rfl ?_
      exfalso; omega
  | succ dd ih =>
    intro i hi
    refine V_ld (pc := 255) dX11_define_255 (v := vi ((b : Int) + ((i : Nat) : Int))) rfl rfl ?_
    refine V_ld (pc := 257) dX11_define_257 (v := vr 30) rfl rfl ?_
    refine V_getRv (pc := 258) dX11_define_258 (o' := 46) fw_RX11_57 rfl hL.t30 hL.r30_28 ?_
    refine V_ld (pc := 261) dX11_define_261 (v := vi k) rfl rfl ?_
    refine V_ialdv (pc := 262) dX11_define_262 (v := ((b + len : Nat) : Int)) hL.t46 (by omega) (by rw [mI_cpyI, if_neg (by omega)]; exact h46) (fun g262 => ?_)
    refine V_icmp_ge (pc := 263) dX11_define_263 (tgt := 298) rfl (fun h263 => ?_) (fun h263 => ?_)
    · skip
      exfalso; omega
    · skip
      refine V_ld (pc := 266) dX11_define_266 (v := vr 30) rfl rfl ?_
      refine V_getRv (pc := 267) dX11_define_267 (o' := 31) fw_RX11_9 rfl hL.t30 hL.r30_0 ?_
      refine V_ld (pc := 270) dX11_define_270 (v := vi t) rfl rfl ?_
      refine V_iconst (pc := 272) dX11_define_272 (by unfold I32; omega) ?_
      refine V_iadd (pc := 273) dX11_define_273 (by unfold I32 at *; omega) ?_
      refine V_ld (pc := 274) dX11_define_274 (v := vi ((b : Int) + ((i : Nat) : Int))) rfl rfl ?_
      refine V_iadd (pc := 276) dX11_define_276 (by unfold I32 at *; omega) ?_
      refine V_ld (pc := 277) dX11_define_277 (v := vr 30) rfl rfl ?_
      refine V_getRv (pc := 278) dX11_define_278 (o' := 47) fw_RX11_60 rfl hL.t30 hL.r30_29 ?_
      refine V_ld (pc := 281) dX11_define_281 (v := vi k) rfl rfl ?_
      refine V_ialdv (pc := 282) dX11_define_282 (v := (b : Int)) hL.t47 (by omega) (by rw [mI_cpyI, if_neg (by omega)]; exact h47) (fun g282 => ?_)
      refine V_isub (pc := 283) dX11_define_283 (by unfold I32 at *; omega) ?_
      refine V_ld (pc := 284) dX11_define_284 (v := vr 30) rfl rfl ?_
      refine V_getRv (pc := 285) dX11_define_285 (o' := 34) fw_RX11_21 rfl hL.t30 hL.r30_5 ?_
      refine V_ld (pc := 288) dX11_define_288 (v := vi ((b : Int) + ((i : Nat) : Int))) rfl rfl ?_
      refine V_ialdv (pc := 290) dX11_define_290 (v := mI (cpyI m 34 b 31 (t + 1).toNat i) 34 (((b : Int) + ((i : Nat) : Int)).toNat)) hL.t34 (by omega) rfl (fun g290 => ?_)
      refine V_iast (pc := 291) dX11_define_291 hL.t31 (by omega) ?_
      refine V_iinc (pc := 292) dX11_define_292 (x := ((b : Int) + ((i : Nat) : Int))) (ls' := [(5, vi (((b : Int) + ((i : Nat) : Int)) + 1)), (4, vi t), (3, vi k), (2, vi nx), (1, vi nn), (0, vr 30)]) rfl (by unfold I32 at *; omega) (Nat.le_of_ble_eq_true rfl) rfl ?_
      refine V_goto (pc := 295) dX11_define_295 (tgt := 255) rfl ?_
      skip
      rw [show (b : Int) + ((i : Nat) : Int) + 1 = (b : Int) + ((i + 1 : Nat) : Int) from by omega]
      refine V_mem (cpyI_s (by omega) (by (rw [mI_cpyI, if_neg (by omega)]) <;> (first | rfl | (congr 1; omega)))) ?_
      exact ih (i + 1) (by omega)

set_option maxHeartbeats 8000000 in
theorem L_rst2 {F : Nat} {m0 m : Mem} {post : Option AV → Mem → Prop} {tx : Nat → Int} {n : Nat} {nn nx : Int} {I0 : Nat → Nat → Int} {L : List DPt} (hL : Lay (mT m) (mR m)) (hok : ∀ p ∈ L, DPok tx n p) (hn : n ≤ 120) (hll : L.length ≤ 120) (hnn : nn = (L.length : Int)) : ∀ (d i : Nat) (I : Nat → Nat → Int), i + d = L.length → DArr I L → (∀ j, j < n → I 34 j = tx j) → StR tx I0 I (L.take i) → (∀ J : Nat → Nat → Int, StR tx I0 J L → (∀ o j, ¬ (o = 31 ∧ 186 ≤ j ∧ j < 3332) → J o j = I o j) → V μX11_define F m0 post 304 [(3, vi nn), (2, vi nx), (1, vi nn), (0, vr 30)] [] (wI m J)) → V μX11_define F m0 post 207 [(3, vi (i : Int)), (2, vi nx), (1, vi nn), (0, vr 30)] [] (wI m I) := by
  intro d
  induction d with
  | zero =>
    intro i I hi hA h34 hS kx
    obtain rfl : i = L.length := by omega
    rw [List.take_length] at hS
    obtain rfl : nn = (L.length : Int) := hnn
    refine V_ld (pc := 207) dX11_define_207 (v := vi (L.length : Int)) rfl rfl ?_
    refine V_ld (pc := 208) dX11_define_208 (v := vi (L.length : Int)) rfl rfl ?_
    refine V_icmp_ge (pc := 209) dX11_define_209 (tgt := 304) rfl (fun h209 => ?_) (fun h209 => ?_)
    · skip
      skip
      exact kx I hS (fun _ _ _ => rfl)
    · skip
      exfalso; omega
  | succ d ih =>
    intro i I hi hA h34 hS kx
    refine V_ld (pc := 207) dX11_define_207 (v := vi (i : Int)) rfl rfl ?_
    refine V_ld (pc := 208) dX11_define_208 (v := vi nn) rfl rfl ?_
    refine V_icmp_ge (pc := 209) dX11_define_209 (tgt := 304) rfl (fun h209 => ?_) (fun h209 => ?_)
    · skip
      exfalso; omega
    · skip
      have hi2 : i < L.length := by omega
      obtain ⟨p, hp⟩ : ∃ p, L[i]? = some p := ⟨L[i], List.getElem?_eq_getElem hi2⟩
      have hpm : p ∈ L := List.mem_of_getElem? hp
      have hpo := hok p hpm
      obtain ⟨p1, p2, p3, p4, -⟩ := hpo
      obtain ⟨hp48, hp47, hp46⟩ := hA i p hp
      refine V_sipush (pc := 212) dX11_define_212 (by unfold I32; omega) (by decide) ?_
      refine V_bipush (pc := 215) dX11_define_215 (by unfold I32; omega) (by decide) ?_
      refine V_ld (pc := 217) dX11_define_217 (v := vr 30) rfl rfl ?_
      refine V_getRv (pc := 218) dX11_define_218 (o' := 48) fw_RX11_63 rfl hL.t30 hL.r30_30 ?_
      refine V_ld (pc := 221) dX11_define_221 (v := vi (i : Int)) rfl rfl ?_
      refine V_ialdv (pc := 222) dX11_define_222 (v := p.1) hL.t48 (by omega) hp48 (fun g222 => ?_)
      refine V_imul (pc := 223) dX11_define_223 (by unfold I32 at *; omega) ?_
      refine V_iadd (pc := 224) dX11_define_224 (by unfold I32 at *; omega) ?_
      refine V_st (pc := 225) dX11_define_225 (ls' := [(4, vi (186 + (121 * p.1))), (3, vi (i : Int)), (2, vi nx), (1, vi nn), (0, vr 30)]) rfl (Nat.le_of_ble_eq_true rfl) rfl ?_
      refine V_ld (pc := 227) dX11_define_227 (v := vr 30) rfl rfl ?_
      refine V_getRv (pc := 228) dX11_define_228 (o' := 31) fw_RX11_9 rfl hL.t30 hL.r30_0 ?_
      refine V_ld (pc := 231) dX11_define_231 (v := vi (186 + (121 * p.1))) rfl rfl ?_
      refine V_ld (pc := 233) dX11_define_233 (v := vr 30) rfl rfl ?_
      refine V_getRv (pc := 234) dX11_define_234 (o' := 46) fw_RX11_57 rfl hL.t30 hL.r30_28 ?_
      refine V_ld (pc := 237) dX11_define_237 (v := vi (i : Int)) rfl rfl ?_
      refine V_ialdv (pc := 238) dX11_define_238 (v := (p.2.2.1 : Int)) hL.t46 (by omega) hp46 (fun g238 => ?_)
      refine V_ld (pc := 239) dX11_define_239 (v := vr 30) rfl rfl ?_
      refine V_getRv (pc := 240) dX11_define_240 (o' := 47) fw_RX11_60 rfl hL.t30 hL.r30_29 ?_
      refine V_ld (pc := 243) dX11_define_243 (v := vi (i : Int)) rfl rfl ?_
      refine V_ialdv (pc := 244) dX11_define_244 (v := (p.2.1 : Int)) hL.t47 (by omega) hp47 (fun g244 => ?_)
      refine V_isub (pc := 245) dX11_define_245 (by unfold I32 at *; omega) ?_
      refine V_iast (pc := 246) dX11_define_246 hL.t31 (by omega) ?_
      refine V_ld (pc := 247) dX11_define_247 (v := vr 30) rfl rfl ?_
      refine V_getRv (pc := 248) dX11_define_248 (o' := 47) fw_RX11_60 rfl hL.t30 hL.r30_29 ?_
      refine V_ld (pc := 251) dX11_define_251 (v := vi (i : Int)) rfl rfl ?_
      refine V_ialdv (pc := 252) dX11_define_252 (v := (p.2.1 : Int)) hL.t47 (by omega) (by first | exact hp47 | (simp only [mI_setI, up2]; repeat (first | exact hp47 | rw [if_neg (by omega)]))) (fun g252 => ?_)
      refine V_st (pc := 253) dX11_define_253 (ls' := [(5, vi (p.2.1 : Int)), (4, vi (186 + (121 * p.1))), (3, vi (i : Int)), (2, vi nx), (1, vi nn), (0, vr 30)]) rfl (Nat.le_of_ble_eq_true rfl) rfl ?_
      have hA1_ : ∀ o j, mI (setI (wI m I) 31 ((186 + (121 * p.1)).toNat) ((p.2.2.1 : Int) - (p.2.1 : Int))) o j = up2 I 31 (186 + (121 * p.1)).toNat ((p.2.2.1 : Int) - (p.2.1 : Int)) o j := fun _ _ => rfl
      refine V_mem (m' := cpyI (setI (wI m I) 31 ((186 + (121 * p.1)).toNat) ((p.2.2.1 : Int) - (p.2.1 : Int))) 34 p.2.1 31 ((186 + (121 * p.1)) + 1).toNat 0) cpyI_0.symm ?_
      have hj_ : (p.2.1 : Int) = (p.2.1 : Int) + ((0 : Nat) : Int) := by omega
      rw [hj_]
      refine V_ls (ls' := [(5, vi ((p.2.1 : Int) + ((0 : Nat) : Int))), (4, vi (186 + (121 * p.1))), (3, vi (i : Int)), (2, vi nx), (1, vi nn), (0, vr 30)]) (by intro q_ h_; simp only [List.mem_cons, List.not_mem_nil, or_false] at h_ ⊢; rcases h_ with rfl | rfl | rfl | rfl | rfl | rfl <;> simp) ?_
      refine L_rst1 (m := setI (wI m I) 31 ((186 + (121 * p.1)).toNat) ((p.2.2.1 : Int) - (p.2.1 : Int))) (b := p.2.1) (len := p.2.2.1 - p.2.1) (t := 186 + (121 * p.1)) (k := (i : Int)) hL (by omega) (by omega) (by omega) ((mI_setne (by omega)).trans hp47) ((mI_setne (by omega)).trans (hp46.trans (by omega))) ?_ (p.2.2.1 - p.2.1) 0 (by omega)
      have hC : ∀ o j, mI (cpyI (setI (wI m I) 31 ((186 + (121 * p.1)).toNat) ((p.2.2.1 : Int) - (p.2.1 : Int))) 34 p.2.1 31 ((186 + (121 * p.1)) + 1).toNat (p.2.2.1 - p.2.1)) o j = if o = 31 ∧ ((186 + (121 * p.1)) + 1).toNat ≤ j ∧ j < ((186 + (121 * p.1)) + 1).toNat + (p.2.2.1 - p.2.1) then mI (setI (wI m I) 31 ((186 + (121 * p.1)).toNat) ((p.2.2.1 : Int) - (p.2.1 : Int))) 34 (p.2.1 + (j - ((186 + (121 * p.1)) + 1).toNat)) else mI (setI (wI m I) 31 ((186 + (121 * p.1)).toNat) ((p.2.2.1 : Int) - (p.2.1 : Int))) o j := fun _ _ => mI_cpyI
      refine V_iinc (pc := 298) dX11_define_298 (x := (i : Int)) (ls' := [(3, vi ((i : Int) + 1)), (5, vi ((p.2.1 : Int) + ((p.2.2.1 - p.2.1 : Nat) : Int))), (4, vi (186 + (121 * p.1))), (2, vi nx), (1, vi nn), (0, vr 30)]) rfl (by unfold I32; omega) (Nat.le_of_ble_eq_true rfl) rfl ?_
      refine V_goto (pc := 301) dX11_define_301 (tgt := 207) rfl ?_
      rw [show (i : Int) + 1 = ((i + 1 : Nat) : Int) from by omega]
      refine V_ls (ls' := [(3, vi ((i + 1 : Nat) : Int)), (2, vi nx), (1, vi nn), (0, vr 30)]) (by intro q_ h_; simp only [List.mem_cons, List.not_mem_nil, or_false] at h_ ⊢; rcases h_ with rfl | rfl | rfl | rfl <;> simp) ?_
      refine V_mem (m' := wI m (mI (cpyI (setI (wI m I) 31 ((186 + (121 * p.1)).toNat) ((p.2.2.1 : Int) - (p.2.1 : Int))) 34 p.2.1 31 ((186 + (121 * p.1)) + 1).toNat (p.2.2.1 - p.2.1)))) rfl ?_
      have hF : ∀ o j, ¬ (o = 31 ∧ 186 ≤ j ∧ j < 3332) → mI (cpyI (setI (wI m I) 31 ((186 + (121 * p.1)).toNat) ((p.2.2.1 : Int) - (p.2.1 : Int))) 34 p.2.1 31 ((186 + (121 * p.1)) + 1).toNat (p.2.2.1 - p.2.1)) o j = I o j := by
        intro o j h_
        rw [hC, if_neg (by omega), hA1_, up2_nx (by omega)]
      refine ih (i + 1) _ (by omega) (fun k q hq => ?_) (fun j hj => ?_) ?_ (fun J h1 h2 => kx J h1 (fun o j h_ => (h2 o j h_).trans (hF o j h_)))
      · rw [hF 48 k (by omega), hF 47 k (by omega), hF 46 k (by omega)]; exact hA k q hq
      · rw [hF 34 j (by omega)]; exact h34 j hj
      · have ett : L.take (i + 1) = L.take i ++ [p] := by
          rw [List.take_succ, hp]; rfl
        rw [ett]
        refine StR.step (t := (186 + (121 * p.1)).toNat) hS (fun q hq => by have h_ := (hok q (List.mem_of_mem_take hq)).2.2.2.1; omega) ⟨p1, p2, p3, by omega⟩ (by omega) ?_ (fun j hj => ?_) (fun k hk => ?_)
        · rw [hC, if_neg (by omega), hA1_, up2_s]; omega
        · rw [hC, if_pos (by omega), hA1_, up2_nx (by omega)]
          rw [show p.2.1 + ((186 + (121 * p.1)).toNat + 1 + j - ((186 + (121 * p.1)) + 1).toNat) = p.2.1 + j from by omega]
          exact h34 _ (by omega)
        · rw [hC, if_neg (by omega), hA1_, up2_nx (by omega)]

set_option maxHeartbeats 8000000 in
theorem r_define (tx : Nat → Int) (n : Nat) (m : Mem)    (hL : Lay (mT m) (mR m)) (ht : mI m 30 4 = (n : Int) ∧ n ≤ 120) (htx : ∀ k, k < n → mI m 33 k = tx k ∧ 1 ≤ tx k ∧ tx k ≤ 127) (hw : 0 ≤ mI m 31 64 ∧ mI m 31 64 ≤ 32 ∧ (mI m 30 27 = 0 ∨ mI m 30 27 = 1) ∧ ∀ k, k < 64 → -999 ≤ mI m 31 k ∧ mI m 31 k ≤ 1000) : Ct μX11_define 20 [vr 30] m (ri fun x_ m' => ∃ I_ : Nat → Nat → Int, wI m I_ = m' ∧ (∀ o k, o ≠ 34 → ¬ (46 ≤ o ∧ o ≤ 48) → o ≠ 31 → ¬ (o = 30 ∧ (k = 4 ∨ k = 6 ∨ k = 7 ∨ k = 8 ∨ k = 25 ∨ k = 26 ∨ k = 27)) → I_ o k = mI m o k) ∧ I_ 30 4 = 0 ∧ (I_ 30 27 = 0 ∨ I_ 30 27 = 1) ∧ ((¬ ((defL tx n (n + 1) (true, 0)).2.1 = true ∧ (defL tx n (n + 1) (true, 0)).2.2 = n) ∧ x_ = -100 - ((defL tx n (n + 1) (true, 0)).2.2 : Int) ∧ ∀ k, I_ 31 k = mI m 31 k) ∨ (((defL tx n (n + 1) (true, 0)).2.1 = true ∧ (defL tx n (n + 1) (true, 0)).2.2 = n) ∧ x_ = ((defL tx n (n + 1) (true, 0)).1.length : Int) ∧ I_ 31 3336 = 0 ∧ StR tx (mI m) I_ (defL tx n (n + 1) (true, 0)).1 ∧ ∀ k, k ≠ 3336 → ¬ (186 ≤ k ∧ k < 3332) → I_ 31 k = mI m 31 k))) := by
  refine Ct_of_V rfl (by decide) rfl (Nat.le_of_ble_eq_true rfl) ?_
  show V μX11_define 20 m _ 0 [(0, vr 30)] [] m
  refine V_ld (pc := 0) dX11_define_0 (v := vr 30) rfl rfl ?_
  refine V_callV (pc := 1) dX11_define_1 (F' := 0) (As := []) (st := []) cw_RX11_192 rfl rfl hL.t30 (by decide) (Nat.le_of_ble_eq_true rfl) (by omega) (r_takesTape n m    (by first | assumption | omega) ht) ?_
  rintro _ _ ⟨rfl, Ix1, rfl, h61, h41, h71, h81, hk1, hF1⟩ ok1 le1
  refine V_ld (pc := 4) dX11_define_4 (v := vr 30) rfl rfl ?_
  refine V_iconst (pc := 5) dX11_define_5 (by unfold I32; omega) ?_
  refine V_putI (pc := 6) dX11_define_6 fw_RX11_216 rfl hL.t30 (Or.inl rfl) (Or.inl rfl) ?_
  refine V_iconst (pc := 9) dX11_define_9 (by unfold I32; omega) ?_
  refine V_st (pc := 10) dX11_define_10 (ls' := [(1, vi 0), (0, vr 30)]) rfl (Nat.le_of_ble_eq_true rfl) rfl ?_
  refine V_iconst (pc := 11) dX11_define_11 (by unfold I32; omega) ?_
  refine V_st (pc := 12) dX11_define_12 (ls' := [(2, vi 1), (1, vi 0), (0, vr 30)]) rfl (Nat.le_of_ble_eq_true rfl) rfl ?_
  have hM13 : ∀ o k, mI (setI (wI m Ix1) 30 25 (-1)) o k = up2 Ix1 30 25 (-1) o k := fun _ _ => rfl
  have hRQ : RQ (mI (setI (wI m Ix1) 30 25 (-1))) tx n (true, 0) := by
    refine ⟨?_, ?_, ?_, Nat.zero_le _, ht.2, fun k hk => ⟨?_, (htx k hk).2⟩⟩
    · rw [hM13, up2_nx (by omega)]; exact h61
    · rw [hM13, up2_nx (by omega)]; exact h71
    · rw [hM13, up2_nx (by omega)]; exact h81
    · rw [hM13, up2_nx (by omega)]; exact (hk1 k hk).trans (htx k hk).1
  have h31 : ∀ k, mI (setI (wI m Ix1) 30 25 (-1)) 31 k = mI m 31 k := fun k => by rw [hM13, up2_nx (by omega)]; exact hF1 31 k (by omega) (by omega)
  have h27 : mI (setI (wI m Ix1) 30 25 (-1)) 30 27 = mI m 30 27 := by rw [hM13, up2_nx (by omega)]; exact hF1 30 27 (by omega) (by omega)
  have h25 : mI (setI (wI m Ix1) 30 25 (-1)) 30 25 = -1 := by rw [hM13, up2_s]
  have hEO : EOK (mI (setI (wI m Ix1) 30 25 (-1))) := by
    refine ⟨by rw [h31]; exact hw.1, by rw [h31]; exact hw.2.1, by rw [h25]; decide, by rw [h27]; exact hw.2.2.1, fun h_ => by rw [h25] at h_; omega, by rw [h25]; decide, fun k hk => by rw [h31]; exact hw.2.2.2 k hk⟩
  have hFa : ∀ o k, o ≠ 34 → ¬ (o = 30 ∧ (k = 4 ∨ k = 6 ∨ k = 7 ∨ k = 8 ∨ k = 25)) → mI (setI (wI m Ix1) 30 25 (-1)) o k = mI m o k := fun o k h1 h2 => by rw [hM13, up2_nx (by omega)]; exact hF1 o k h1 (by omega)
  have h4_ : mI (setI (wI m Ix1) 30 25 (-1)) 30 4 = 0 := by rw [hM13, up2_nx (by omega)]; exact h41
  skip
  refine V_mem (m' := wI m (mI (setI (wI m Ix1) 30 25 (-1)))) rfl ?_
  refine L_rdef (m := m) (tx := tx) (n := n) (I0 := mI (setI (wI m Ix1) 30 25 (-1))) hL hEO (by omega) (n + 1) (true, 0) [] (mI (setI (wI m Ix1) 30 25 (-1))) hRQ rfl RFd.rf (by rw [h27]; exact hw.2.2.1) (fun k p h_ => by cases h_) (Nat.zero_le _) (by omega) ?_
  intro nn nx J hJ hFJ hlJ hwJ
  have hbJ := hJ.2.2.2.1
  have hcJ := (RQ.cS hJ).2.2.2.2.2.2.1
  have hcJ2 := (RQ.cS hJ).2.2.2.2.1
  refine V_ld (pc := 170) dX11_define_170 (v := vr 30) rfl rfl ?_
  refine V_getIv (pc := 171) dX11_define_171 (v := J 30 8) fw_RX11_128 rfl hL.t30 rfl (fun g171 => ?_)
  refine V_if_eq (pc := 174) dX11_define_174 (tgt := 188) rfl (fun h174 => ?_) (fun h174 => ?_)
  · skip
    refine V_bipush (pc := 188) dX11_define_188 (by unfold I32; omega) (by decide) ?_
    refine V_ld (pc := 190) dX11_define_190 (v := vr 30) rfl rfl ?_
    refine V_getIv (pc := 191) dX11_define_191 (v := ((defL tx n (n + 1) (true, 0)).2.2 : Int)) fw_RX11_125 rfl hL.t30 hJ.2.1 (fun g191 => ?_)
    refine V_isub (pc := 194) dX11_define_194 (by unfold I32 at *; omega) ?_
    refine V_reti (pc := 195) dX11_define_195 trivial ?_
    refine ⟨mI (wI m J), rfl, fun o k h1 h2 h3 h4 => ?_, ?_, hlJ, Or.inl ⟨?_, by omega, fun k => ?_⟩⟩
    · show J o k = _
      rw [hFJ o k h2 (by omega)]
      exact hFa o k h1 (by omega)
    · show J 30 4 = 0
      rw [hFJ 30 4 (by omega) (by omega)]
      exact h4_
    · rintro ⟨h1_, h2_⟩
      have h3_ := hcJ.mp h1_
      omega
    · show J 31 k = _
      rw [hFJ 31 k (by omega) (by omega)]
      exact h31 k
  · skip
    refine V_ld (pc := 177) dX11_define_177 (v := vr 30) rfl rfl ?_
    refine V_getIv (pc := 178) dX11_define_178 (v := ((defL tx n (n + 1) (true, 0)).2.2 : Int)) fw_RX11_125 rfl hL.t30 hJ.2.1 (fun g178 => ?_)
    refine V_ld (pc := 181) dX11_define_181 (v := vr 30) rfl rfl ?_
    refine V_getIv (pc := 182) dX11_define_182 (v := (n : Int)) fw_RX11_122 rfl hL.t30 hJ.1 (fun g182 => ?_)
    refine V_icmp_ge (pc := 185) dX11_define_185 (tgt := 196) rfl (fun h185 => ?_) (fun h185 => ?_)
    · skip
      have hwD : (defL tx n (n + 1) (true, 0)).2.1 = true := hcJ.mpr (by omega)
      have hD := hwJ hwD
      rw [List.nil_append] at hD
      obtain ⟨hnn, hAD, hlen⟩ := hD
      have heD : (defL tx n (n + 1) (true, 0)).2.2 = n := by omega
      have hokD := defL_ok (tx := tx) (n := n) (n + 1) (true, 0) (Nat.zero_le _) hwD heD
      refine V_ld (pc := 196) dX11_define_196 (v := vr 30) rfl rfl ?_
      refine V_getRv (pc := 197) dX11_define_197 (o' := 31) fw_RX11_9 rfl hL.t30 hL.r30_0 ?_
      refine V_sipush (pc := 200) dX11_define_200 (by unfold I32; omega) (by decide) ?_
      refine V_iconst (pc := 203) dX11_define_203 (by unfold I32; omega) ?_
      refine V_iast (pc := 204) dX11_define_204 hL.t31 (by omega) ?_
      refine V_iconst (pc := 205) dX11_define_205 (by unfold I32; omega) ?_
      refine V_st (pc := 206) dX11_define_206 (ls' := [(3, vi 0), (2, vi nx), (1, vi nn), (0, vr 30)]) rfl (Nat.le_of_ble_eq_true rfl) rfl ?_
      refine V_ls (ls' := [(3, vi ((0 : Nat) : Int)), (2, vi nx), (1, vi nn), (0, vr 30)]) (by intro q_ h_; simp only [List.mem_cons, List.not_mem_nil, or_false] at h_ ⊢; rcases h_ with rfl | rfl | rfl | rfl <;> simp) ?_
      have hM3 : ∀ o k, mI (setI (wI m J) 31 3336 0) o k = up2 J 31 3336 0 o k := fun _ _ => rfl
      refine V_mem (m' := wI m (mI (setI (wI m J) 31 3336 0))) rfl ?_
      refine L_rst2 (m := m) (tx := tx) (n := n) (nn := nn) (nx := nx) (I0 := mI m) (L := (defL tx n (n + 1) (true, 0)).1) hL hokD ht.2 hlen hnn (defL tx n (n + 1) (true, 0)).1.length 0 (mI (setI (wI m J) 31 3336 0)) (by omega) (fun k p hp => ?_) (fun j hj => ?_) (fun w_ hw_ => ?_) ?_
      · rw [hM3, hM3, hM3, up2_nx (by omega), up2_nx (by omega), up2_nx (by omega)]; exact hAD k p hp
      · rw [hM3, up2_nx (by omega)]; exact (hJ.2.2.2.2.2 j hj).1
      · show ∀ j, j < 121 → _
        intro j hj
        rw [hM3, up2_nx (by omega), hFJ 31 _ (by omega) (by omega)]
        exact h31 _
      intro K hS hK
      refine V_ld (pc := 304) dX11_define_304 (v := vi nn) rfl rfl ?_
      refine V_reti (pc := 305) dX11_define_305 trivial ?_
      refine ⟨K, rfl, fun o k h1 h2 h3 h4 => ?_, ?_, ?_, Or.inr ⟨⟨hwD, heD⟩, hnn, ?_, hS, fun k h1 h2 => ?_⟩⟩
      · rw [hK o k (by omega), hM3, up2_nx (by omega), hFJ o k h2 (by omega)]
        exact hFa o k h1 (by omega)
      · rw [hK 30 4 (by omega), hM3, up2_nx (by omega), hFJ 30 4 (by omega) (by omega)]
        exact h4_
      · rw [hK 30 27 (by omega), hM3, up2_nx (by omega)]
        exact hlJ
      · rw [hK 31 3336 (by omega), hM3, up2_s]
      · rw [hK 31 k (by omega), hM3, up2_nx (by omega), hFJ 31 k (by omega) (by omega)]
        exact h31 k
    · skip
      refine V_bipush (pc := 188) dX11_define_188 (by unfold I32; omega) (by decide) ?_
      refine V_ld (pc := 190) dX11_define_190 (v := vr 30) rfl rfl ?_
      refine V_getIv (pc := 191) dX11_define_191 (v := ((defL tx n (n + 1) (true, 0)).2.2 : Int)) fw_RX11_125 rfl hL.t30 hJ.2.1 (fun g191 => ?_)
      refine V_isub (pc := 194) dX11_define_194 (by unfold I32 at *; omega) ?_
      refine V_reti (pc := 195) dX11_define_195 trivial ?_
      refine ⟨mI (wI m J), rfl, fun o k h1 h2 h3 h4 => ?_, ?_, hlJ, Or.inl ⟨?_, by omega, fun k => ?_⟩⟩
      · show J o k = _
        rw [hFJ o k h2 (by omega)]
        exact hFa o k h1 (by omega)
      · show J 30 4 = 0
        rw [hFJ 30 4 (by omega) (by omega)]
        exact h4_
      · rintro ⟨h1_, h2_⟩
        have h3_ := hcJ.mp h1_
        omega
      · show J 31 k = _
        rw [hFJ 31 k (by omega) (by omega)]
        exact h31 k
