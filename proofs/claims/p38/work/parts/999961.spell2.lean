/-! THE LAW'S spelled() -/
set_option maxHeartbeats 4000000 in
theorem L_spM {F f : Nat} {m0 : Mem} {post : Option AV → Mem → Prop} {M : Mem} {tt q p T : Nat} {V : Nat → Nat → Int} {w : List Int} (hF : f + 7 < F) {qc cnt a j lo : Nat} {ks : Int} (hT : TbM M tt qc cnt V) (hW : SpW M q (mN M) T (V p) w) (hq : q < mN M) (hj : j < 3) (ha : V p (6 + j) = (a : Int) ∧ a < cnt ∧ cnt ≤ 70) (hTO : TO V f lo a) (hG : (spT V f a).length ≤ tL f ∧ tL f ≤ 1000) (ih : ∀ (qc : Nat) (cnt : Nat) (lo : Nat) (a : Nat) (V : Nat → Nat → Int) (m : Mem) (tt : Nat)   (hT : TbM m tt qc cnt V) (ha : a < cnt ∧ cnt ≤ 70) (hTO : TO V (f) lo a) (hr : mN m + sN (f) ≤ NN ∧ mZ m + sZ (f) ≤ ZZ), Ct μL_spelled (f + 7) [vr tt, vi ((a : Nat) : Int)] m (rq fun x_ m' => (True) ∧ ∃ o_, x_ = some o_ ∧ StrO m' (mN m') o_ (spT V (f) a) ∧ Kp (mN m) m m' ∧ mN m ≤ mN m' ∧ mN m' ≤ mN m + sN (f) ∧ mZ m' ≤ mZ m + sZ (f))) {v : Int} (hw : w.length ≤ 1000) (hr : mN M + sN f + 13 ≤ NN ∧ mZ M + (sZ f + 80 + 5 * w.length + 8 * tL f) ≤ ZZ) (hv : (v = 1 ∧ looT (V p 0) ks) ∨ (v = 0 ∧ ¬ looT (V p 0) ks))
    (kx : ∀ (m' : Mem) (T' : Nat), Kp (mN M) M m' → mN M ≤ mN m' ∧ mN m' ≤ mN M + (sN f + 13) → mZ m' ≤ mZ M + (sZ f + 80 + 5 * w.length + 8 * tL f) → StrO m' (mN m') T' (w ++ brkT (V p 0) ks (spT V f a)) → _root_.Jvm.Pilot.@@N@@.V μL_spelled F m0 post 287 [(4, vi ((j : Nat) : Int)), (3, vr T'), (2, vr q), (5, vi ks), (6, vi v), (0, vr tt), (1, vi ((p : Nat) : Int))] [] m') : _root_.Jvm.Pilot.@@N@@.V μL_spelled F m0 post 216 [(4, vi ((j : Nat) : Int)), (3, vr T), (2, vr q), (5, vi ks), (6, vi v), (0, vr tt), (1, vi ((p : Nat) : Int))] [] M := by
  have kM0 : Kp (mN M) M M := Kp.rf
  have e0_ : ([] : List Int).length = 0 := rfl
  refine V_newv (pc := 216) (mN M) rfl dL_spelled_216 nw_RL_78 (by omega) (by show mZ M + 4 ≤ ZZ; omega) ?_
  refine V_dup (pc := 219) dL_spelled_219 rfl ?_
  refine V_callI (pc := 220) dL_spelled_220 (F' := 2) (As := []) (st := [vr (mN M)]) cw_RL_80 rfl rfl (Nat.le_of_ble_eq_true rfl) (by omega) (w_new  (newO M 12 4) (mN M)   (mT_news (M := M) rfl) ⟨by show mN M + 1 + 1 ≤ NN; omega, by show mZ M + 4 + 16 ≤ ZZ; omega, Nat.lt_succ_self _⟩) ?_
  rintro _ _ ⟨rfl, rfl⟩ ok220 le220
  refine V_mem (m' := _root_.Jvm.Pilot.@@N@@.setI (_root_.Jvm.Pilot.@@N@@.setR (newO (newO M 12 4) 24 16) (mN M) 0 (some (mN M + 1))) (mN M) 1 0) rfl ?_
  have S223 := SbO.mk (m := M) (Nat.le_refl (mN M))
  have K223 := Kp.mk (m := M) (Nat.le_refl (mN M)) (by omega)
  have a223 : mN (_root_.Jvm.Pilot.@@N@@.setI (_root_.Jvm.Pilot.@@N@@.setR (newO (newO M 12 4) 24 16) (mN M) 0 (some (mN M + 1))) (mN M) 1 0) = mN M + 2 := rfl
  have b223 : mZ (_root_.Jvm.Pilot.@@N@@.setI (_root_.Jvm.Pilot.@@N@@.setR (newO (newO M 12 4) 24 16) (mN M) 0 (some (mN M + 1))) (mN M) 1 0) = mZ M + 20 := rfl
  generalize _root_.Jvm.Pilot.@@N@@.setI (_root_.Jvm.Pilot.@@N@@.setR (newO (newO M 12 4) 24 16) (mN M) 0 (some (mN M + 1))) (mN M) 1 0 = m223 at S223 K223 a223 b223 ⊢
  have c223 := hW.kp K223 (by omega) (by omega)
  have kM223 := kM0.tr (K223.le (by omega))
  refine V_ld (pc := 223) dL_spelled_223 (v := vr T) rfl rfl ?_
  refine V_callV (pc := 224) dL_spelled_224 (F' := 5) (As := [vr T]) (st := []) cw_RL_81 rfl rfl S223.2.2.1 (by decide) (Nat.le_of_ble_eq_true rfl) (by omega) (w_app (mN M) (mN M) ([] : List Int) w m223 (mN M) T   S223 c223.2.2 (by omega) (by omega) ⟨by omega, by omega⟩) ?_
  rintro _ m224 ⟨x224, rfl, hx224, hm224⟩ ok224 le224
  subst hx224
  have z224 := hm224.2.2
  (try simp only [List.length_append, List.length_cons, List.length_nil] at z224)
  have e224 : (([] : List Int) ++ w).length = 0 + w.length := by simp only [List.length_append, List.length_cons, List.length_nil] <;> omega
  have c224 := c223.kp hm224.2.1 (by omega) (by omega)
  have kM224 := kM223.tr (hm224.2.1.le (by omega))
  refine V_ld (pc := 227) dL_spelled_227 (v := vi v) rfl rfl ?_
  refine V_if_eq (pc := 229) dL_spelled_229 (tgt := 269) rfl (fun h229 => ?_) (fun h229 => ?_)
  · skip
    refine V_ld (pc := 269) dL_spelled_269 (v := vr tt) rfl rfl ?_
    refine V_ld (pc := 270) dL_spelled_270 (v := vr q) rfl rfl ?_
    refine V_bipush (pc := 271) dL_spelled_271 (by unfold I32; omega) (by decide) ?_
    refine V_ld (pc := 273) dL_spelled_273 (v := vi ((j : Nat) : Int)) rfl rfl ?_
    refine V_iadd (pc := 275) dL_spelled_275 (by unfold I32 at *; omega) ?_
    refine V_ialdv (pc := 276) dL_spelled_276 (v := ((a : Nat) : Int)) c224.1 (by omega) (by rw [show (6 + ((j : Nat) : Int)).toNat = 6 + j from by omega]; exact (c224.2.1 _ (by omega)).trans ha.1) (fun g276 => ?_)
    refine V_callS (pc := 277) dL_spelled_277 (F' := (f + 7)) (As := [vr tt, vi ((a : Nat) : Int)]) (st := [vr (mN M)]) cw_RL_122 rfl rfl (Nat.le_of_ble_eq_true rfl) (by omega) (ih qc cnt lo a V m224 tt   (hT.mv (by omega) fun o_ ho_ => kM224 o_ (Or.inl ho_)) ha.2 hTO ⟨by omega, by omega⟩) ?_
    rintro _ m277 ⟨x277, rfl, -, ⟨o277, hx277, hm277⟩⟩ ok277 le277
    subst hx277
    have z277 := hm277.2.2
    have S277 := hm224.1.kp hm277.2.1 (Nat.le_refl _) (by omega)
    have c277 := c224.kp hm277.2.1 (by omega) (by omega)
    have kM277 := kM224.tr (hm277.2.1.le (by omega))
    refine V_callV (pc := 280) dL_spelled_280 (F' := 5) (As := [vr o277]) (st := []) cw_RL_81 rfl rfl S277.2.2.1 (by decide) (Nat.le_of_ble_eq_true rfl) (by omega) (w_app (mN M) (mN m277) (([] : List Int) ++ w) (spT V f a) m277 (mN M) o277   S277 hm277.1 (by omega) (by omega) ⟨by omega, by omega⟩) ?_
    rintro _ m280 ⟨x280, rfl, hx280, hm280⟩ ok280 le280
    subst hx280
    have z280 := hm280.2.2
    (try simp only [List.length_append, List.length_cons, List.length_nil] at z280)
    have e280 : ((([] : List Int) ++ w) ++ spT V f a).length = 0 + w.length + ((spT V f a).length) := by simp only [List.length_append, List.length_cons, List.length_nil] <;> omega
    have c280 := c277.kp hm280.2.1 (by omega) (by omega)
    have kM280 := kM277.tr (hm280.2.1.le (by omega))
    refine V_callV (pc := 283) dL_spelled_283 (F' := 6) (As := []) (st := []) cw_RL_96 rfl rfl hm280.1.2.2.1 (by decide) (Nat.le_of_ble_eq_true rfl) (by omega) (w_str (mN M) ((([] : List Int) ++ w) ++ spT V f a) m280 (mN M)   hm280.1 (by omega) ⟨by omega, by omega⟩) ?_
    rintro _ m283 ⟨x283, rfl, hx283, hm283⟩ ok283 le283
    subst hx283
    have z283 := hm283.2.2
    have c283 := c280.kp hm283.2.1 (by omega) (by omega)
    have kM283 := kM280.tr (hm283.2.1.le (by omega))
    refine V_st (pc := 286) dL_spelled_286 (ls' := [(3, vr (mN m280)), (4, vi ((j : Nat) : Int)), (2, vr q), (5, vi ks), (6, vi v), (0, vr tt), (1, vi ((p : Nat) : Int))]) rfl (Nat.le_of_ble_eq_true rfl) rfl ?_
    refine V_ls (ls' := [(4, vi ((j : Nat) : Int)), (3, vr (mN m280)), (2, vr q), (5, vi ks), (6, vi v), (0, vr tt), (1, vi ((p : Nat) : Int))]) (by intro q_ h_; simp only [List.mem_cons, List.not_mem_nil, or_false] at h_ ⊢; rcases h_ with rfl | rfl | rfl | rfl | rfl | rfl | rfl <;> simp) ?_
    have e_ : ((([] : List Int) ++ w) ++ spT V f a) = w ++ brkT (V p 0) ks (spT V f a) := by
      rcases hv with hv | hv
      · first
        | exact absurd hv.1 (by omega)
        | (unfold brkT; rw [if_pos hv.2]; simp)
      · first
        | exact absurd hv.1 (by omega)
        | (unfold brkT; rw [if_neg hv.2]; simp)
    exact kx _ _ kM283 ⟨by omega, by omega⟩ (by omega) (by rw [← e_]; exact hm283.1)
  · skip
    refine V_newv (pc := 232) (mN m224) rfl dL_spelled_232 nw_RL_78 (by omega) (by show mZ m224 + 4 ≤ ZZ; omega) ?_
    refine V_dup (pc := 235) dL_spelled_235 rfl ?_
    refine V_callI (pc := 236) dL_spelled_236 (F' := 2) (As := []) (st := [vr (mN m224), vr (mN M)]) cw_RL_80 rfl rfl (Nat.le_of_ble_eq_true rfl) (by omega) (w_new  (newO m224 12 4) (mN m224)   (mT_news (M := m224) rfl) ⟨by show mN m224 + 1 + 1 ≤ NN; omega, by show mZ m224 + 4 + 16 ≤ ZZ; omega, Nat.lt_succ_self _⟩) ?_
    rintro _ _ ⟨rfl, rfl⟩ ok236 le236
    refine V_mem (m' := _root_.Jvm.Pilot.@@N@@.setI (_root_.Jvm.Pilot.@@N@@.setR (newO (newO m224 12 4) 24 16) (mN m224) 0 (some (mN m224 + 1))) (mN m224) 1 0) rfl ?_
    have S239 := SbO.mk (m := m224) (Nat.le_refl (mN m224))
    have K239 := Kp.mk (m := m224) (Nat.le_refl (mN m224)) (by omega)
    have a239 : mN (_root_.Jvm.Pilot.@@N@@.setI (_root_.Jvm.Pilot.@@N@@.setR (newO (newO m224 12 4) 24 16) (mN m224) 0 (some (mN m224 + 1))) (mN m224) 1 0) = mN m224 + 2 := rfl
    have b239 : mZ (_root_.Jvm.Pilot.@@N@@.setI (_root_.Jvm.Pilot.@@N@@.setR (newO (newO m224 12 4) 24 16) (mN m224) 0 (some (mN m224 + 1))) (mN m224) 1 0) = mZ m224 + 20 := rfl
    generalize _root_.Jvm.Pilot.@@N@@.setI (_root_.Jvm.Pilot.@@N@@.setR (newO (newO m224 12 4) 24 16) (mN m224) 0 (some (mN m224 + 1))) (mN m224) 1 0 = m239 at S239 K239 a239 b239 ⊢
    have c239 := c224.kp K239 (by omega) (by omega)
    have kM239 := kM224.tr (K239.le (by omega))
    refine V_ldcS (pc := 239) dL_spelled_239 (i := 16) rfl (by decide) (by decide +kernel) ?_
    refine V_okM fun ok_ => ?_
    have el241 : ([40] : List Int).length = 1 := rfl
    refine V_callV (pc := 241) dL_spelled_241 (F' := 5) (As := [vr (kS 16)]) (st := [vr (mN M)]) cw_RL_81 rfl rfl S239.2.2.1 (by decide) (Nat.le_of_ble_eq_true rfl) (by omega) (w_app (mN m224) 0 ([] : List Int) ([40]) m239 (mN m224) (kS 16)   S239 (litB_16 ▸ StrO.lit (B := 0) (i := 16) ok_ (by decide)) (by omega) (by omega) ⟨by omega, by omega⟩) ?_
    rintro _ m241 ⟨x241, rfl, hx241, hm241⟩ ok241 le241
    subst hx241
    have z241 := hm241.2.2
    (try simp only [List.length_append, List.length_cons, List.length_nil] at z241)
    have e241 : (([] : List Int) ++ [40]).length = 0 + 1 := by simp only [List.length_append, List.length_cons, List.length_nil] <;> omega
    have c241 := c239.kp hm241.2.1 (by omega) (by omega)
    have kM241 := kM239.tr (hm241.2.1.le (by omega))
    have kk241_0 := K239.tr (hm241.2.1.le (by omega))
    refine V_ld (pc := 244) dL_spelled_244 (v := vr tt) rfl rfl ?_
    refine V_ld (pc := 245) dL_spelled_245 (v := vr q) rfl rfl ?_
    refine V_bipush (pc := 246) dL_spelled_246 (by unfold I32; omega) (by decide) ?_
    refine V_ld (pc := 248) dL_spelled_248 (v := vi ((j : Nat) : Int)) rfl rfl ?_
    refine V_iadd (pc := 250) dL_spelled_250 (by unfold I32 at *; omega) ?_
    refine V_ialdv (pc := 251) dL_spelled_251 (v := ((a : Nat) : Int)) c241.1 (by omega) (by rw [show (6 + ((j : Nat) : Int)).toNat = 6 + j from by omega]; exact (c241.2.1 _ (by omega)).trans ha.1) (fun g251 => ?_)
    refine V_callS (pc := 252) dL_spelled_252 (F' := (f + 7)) (As := [vr tt, vi ((a : Nat) : Int)]) (st := [vr (mN m224), vr (mN M)]) cw_RL_122 rfl rfl (Nat.le_of_ble_eq_true rfl) (by omega) (ih qc cnt lo a V m241 tt   (hT.mv (by omega) fun o_ ho_ => kM241 o_ (Or.inl ho_)) ha.2 hTO ⟨by omega, by omega⟩) ?_
    rintro _ m252 ⟨x252, rfl, -, ⟨o252, hx252, hm252⟩⟩ ok252 le252
    subst hx252
    have z252 := hm252.2.2
    have S252 := hm241.1.kp hm252.2.1 (Nat.le_refl _) (by omega)
    have c252 := c241.kp hm252.2.1 (by omega) (by omega)
    have kM252 := kM241.tr (hm252.2.1.le (by omega))
    have kk252_0 := kk241_0.tr (hm252.2.1.le (by omega))
    refine V_callV (pc := 255) dL_spelled_255 (F' := 5) (As := [vr o252]) (st := [vr (mN M)]) cw_RL_81 rfl rfl S252.2.2.1 (by decide) (Nat.le_of_ble_eq_true rfl) (by omega) (w_app (mN m224) (mN m252) (([] : List Int) ++ [40]) (spT V f a) m252 (mN m224) o252   S252 hm252.1 (by omega) (by omega) ⟨by omega, by omega⟩) ?_
    rintro _ m255 ⟨x255, rfl, hx255, hm255⟩ ok255 le255
    subst hx255
    have z255 := hm255.2.2
    (try simp only [List.length_append, List.length_cons, List.length_nil] at z255)
    have e255 : ((([] : List Int) ++ [40]) ++ spT V f a).length = 0 + 1 + ((spT V f a).length) := by simp only [List.length_append, List.length_cons, List.length_nil] <;> omega
    have c255 := c252.kp hm255.2.1 (by omega) (by omega)
    have kM255 := kM252.tr (hm255.2.1.le (by omega))
    have kk255_0 := kk252_0.tr (hm255.2.1.le (by omega))
    refine V_ldcS (pc := 258) dL_spelled_258 (i := 17) rfl (by decide) (by decide +kernel) ?_
    refine V_okM fun ok_ => ?_
    have el260 : ([41] : List Int).length = 1 := rfl
    refine V_callV (pc := 260) dL_spelled_260 (F' := 5) (As := [vr (kS 17)]) (st := [vr (mN M)]) cw_RL_81 rfl rfl hm255.1.2.2.1 (by decide) (Nat.le_of_ble_eq_true rfl) (by omega) (w_app (mN m224) 0 ((([] : List Int) ++ [40]) ++ spT V f a) ([41]) m255 (mN m224) (kS 17)   hm255.1 (litB_17 ▸ StrO.lit (B := 0) (i := 17) ok_ (by decide)) (by omega) (by omega) ⟨by omega, by omega⟩) ?_
    rintro _ m260 ⟨x260, rfl, hx260, hm260⟩ ok260 le260
    subst hx260
    have z260 := hm260.2.2
    (try simp only [List.length_append, List.length_cons, List.length_nil] at z260)
    have e260 : (((([] : List Int) ++ [40]) ++ spT V f a) ++ [41]).length = 0 + 1 + ((spT V f a).length) + 1 := by simp only [List.length_append, List.length_cons, List.length_nil] <;> omega
    have c260 := c255.kp hm260.2.1 (by omega) (by omega)
    have kM260 := kM255.tr (hm260.2.1.le (by omega))
    have kk260_0 := kk255_0.tr (hm260.2.1.le (by omega))
    refine V_callV (pc := 263) dL_spelled_263 (F' := 6) (As := []) (st := [vr (mN M)]) cw_RL_96 rfl rfl hm260.1.2.2.1 (by decide) (Nat.le_of_ble_eq_true rfl) (by omega) (w_str (mN m224) (((([] : List Int) ++ [40]) ++ spT V f a) ++ [41]) m260 (mN m224)   hm260.1 (by omega) ⟨by omega, by omega⟩) ?_
    rintro _ m263 ⟨x263, rfl, hx263, hm263⟩ ok263 le263
    subst hx263
    have z263 := hm263.2.2
    have c263 := c260.kp hm263.2.1 (by omega) (by omega)
    have kM263 := kM260.tr (hm263.2.1.le (by omega))
    have kk263_0 := kk260_0.tr (hm263.2.1.le (by omega))
    have S263 := hm224.1.kp kk263_0 (Nat.le_refl _) (by omega)
    refine V_goto (pc := 266) dL_spelled_266 (tgt := 280) rfl ?_
    refine V_callV (pc := 280) dL_spelled_280 (F' := 5) (As := [vr (mN m260)]) (st := []) cw_RL_81 rfl rfl S263.2.2.1 (by decide) (Nat.le_of_ble_eq_true rfl) (by omega) (w_app (mN M) (mN m263) (([] : List Int) ++ w) (((([] : List Int) ++ [40]) ++ spT V f a) ++ [41]) m263 (mN M) (mN m260)   S263 hm263.1 (by omega) (by omega) ⟨by omega, by omega⟩) ?_
    rintro _ m280 ⟨x280, rfl, hx280, hm280⟩ ok280 le280
    subst hx280
    have z280 := hm280.2.2
    (try simp only [List.length_append, List.length_cons, List.length_nil] at z280)
    have e280 : ((([] : List Int) ++ w) ++ (((([] : List Int) ++ [40]) ++ spT V f a) ++ [41])).length = 0 + w.length + (0 + 1 + ((spT V f a).length) + 1) := by simp only [List.length_append, List.length_cons, List.length_nil] <;> omega
    have c280 := c263.kp hm280.2.1 (by omega) (by omega)
    have kM280 := kM263.tr (hm280.2.1.le (by omega))
    refine V_callV (pc := 283) dL_spelled_283 (F' := 6) (As := []) (st := []) cw_RL_96 rfl rfl hm280.1.2.2.1 (by decide) (Nat.le_of_ble_eq_true rfl) (by omega) (w_str (mN M) ((([] : List Int) ++ w) ++ (((([] : List Int) ++ [40]) ++ spT V f a) ++ [41])) m280 (mN M)   hm280.1 (by omega) ⟨by omega, by omega⟩) ?_
    rintro _ m283 ⟨x283, rfl, hx283, hm283⟩ ok283 le283
    subst hx283
    have z283 := hm283.2.2
    have c283 := c280.kp hm283.2.1 (by omega) (by omega)
    have kM283 := kM280.tr (hm283.2.1.le (by omega))
    refine V_st (pc := 286) dL_spelled_286 (ls' := [(3, vr (mN m280)), (4, vi ((j : Nat) : Int)), (2, vr q), (5, vi ks), (6, vi v), (0, vr tt), (1, vi ((p : Nat) : Int))]) rfl (Nat.le_of_ble_eq_true rfl) rfl ?_
    refine V_ls (ls' := [(4, vi ((j : Nat) : Int)), (3, vr (mN m280)), (2, vr q), (5, vi ks), (6, vi v), (0, vr tt), (1, vi ((p : Nat) : Int))]) (by intro q_ h_; simp only [List.mem_cons, List.not_mem_nil, or_false] at h_ ⊢; rcases h_ with rfl | rfl | rfl | rfl | rfl | rfl | rfl <;> simp) ?_
    have e_ : ((([] : List Int) ++ w) ++ (((([] : List Int) ++ [40]) ++ spT V f a) ++ [41])) = w ++ brkT (V p 0) ks (spT V f a) := by
      rcases hv with hv | hv
      · first
        | exact absurd hv.1 (by omega)
        | (unfold brkT; rw [if_pos hv.2]; simp)
      · first
        | exact absurd hv.1 (by omega)
        | (unfold brkT; rw [if_neg hv.2]; simp)
    exact kx _ _ kM283 ⟨by omega, by omega⟩ (by omega) (by rw [← e_]; exact hm283.1)
set_option maxHeartbeats 4000000 in
theorem L_spJ {F f : Nat} {m0 : Mem} {post : Option AV → Mem → Prop} {M : Mem} {tt q p T : Nat} {V : Nat → Nat → Int} {w : List Int} (hF : f + 7 < F) {qc cnt a j lo : Nat} {ks : Int} (hT : TbM M tt qc cnt V) (hW : SpW M q (mN M) T (V p) w) (hq : q < mN M) (hj : j < 3) (ha : V p (6 + j) = (a : Int) ∧ a < cnt ∧ cnt ≤ 70) (hTO : TO V f lo a) (hG : (spT V f a).length ≤ tL f ∧ tL f ≤ 1000) (ih : ∀ (qc : Nat) (cnt : Nat) (lo : Nat) (a : Nat) (V : Nat → Nat → Int) (m : Mem) (tt : Nat)   (hT : TbM m tt qc cnt V) (ha : a < cnt ∧ cnt ≤ 70) (hTO : TO V (f) lo a) (hr : mN m + sN (f) ≤ NN ∧ mZ m + sZ (f) ≤ ZZ), Ct μL_spelled (f + 7) [vr tt, vi ((a : Nat) : Int)] m (rq fun x_ m' => (True) ∧ ∃ o_, x_ = some o_ ∧ StrO m' (mN m') o_ (spT V (f) a) ∧ Kp (mN m) m m' ∧ mN m ≤ mN m' ∧ mN m' ≤ mN m + sN (f) ∧ mZ m' ≤ mZ m + sZ (f))) {v : Int} (hw : w.length ≤ 990) (hr : mN M + sN f + 20 ≤ NN ∧ mZ M + (sZ f + 130 + 10 * w.length + 8 * tL f) ≤ ZZ) (hv : (v = 1 ∧ looT (V p 0) ks) ∨ (v = 0 ∧ ¬ looT (V p 0) ks))
    (kx : ∀ (m' : Mem) (T' : Nat), Kp (mN M) M m' → mN M ≤ mN m' ∧ mN m' ≤ mN M + (sN f + 20) → mZ m' ≤ mZ M + (sZ f + 130 + 10 * w.length + 8 * tL f) → StrO m' (mN m') T' (w ++ sepT (V p 0) j ++ brkT (V p 0) ks (spT V f a)) → _root_.Jvm.Pilot.@@N@@.V μL_spelled F m0 post 287 [(4, vi ((j : Nat) : Int)), (3, vr T'), (2, vr q), (5, vi ks), (6, vi v), (0, vr tt), (1, vi ((p : Nat) : Int))] [] m') : _root_.Jvm.Pilot.@@N@@.V μL_spelled F m0 post 161 [(4, vi ((j : Nat) : Int)), (3, vr T), (2, vr q), (5, vi ks), (6, vi v), (0, vr tt), (1, vi ((p : Nat) : Int))] [] M := by
  have kM0 : Kp (mN M) M M := Kp.rf
  have e0_ : ([] : List Int).length = 0 := rfl
  refine V_newv (pc := 161) (mN M) rfl dL_spelled_161 nw_RL_78 (by omega) (by show mZ M + 4 ≤ ZZ; omega) ?_
  refine V_dup (pc := 164) dL_spelled_164 rfl ?_
  refine V_callI (pc := 165) dL_spelled_165 (F' := 2) (As := []) (st := [vr (mN M)]) cw_RL_80 rfl rfl (Nat.le_of_ble_eq_true rfl) (by omega) (w_new  (newO M 12 4) (mN M)   (mT_news (M := M) rfl) ⟨by show mN M + 1 + 1 ≤ NN; omega, by show mZ M + 4 + 16 ≤ ZZ; omega, Nat.lt_succ_self _⟩) ?_
  rintro _ _ ⟨rfl, rfl⟩ ok165 le165
  refine V_mem (m' := _root_.Jvm.Pilot.@@N@@.setI (_root_.Jvm.Pilot.@@N@@.setR (newO (newO M 12 4) 24 16) (mN M) 0 (some (mN M + 1))) (mN M) 1 0) rfl ?_
  have S168 := SbO.mk (m := M) (Nat.le_refl (mN M))
  have K168 := Kp.mk (m := M) (Nat.le_refl (mN M)) (by omega)
  have a168 : mN (_root_.Jvm.Pilot.@@N@@.setI (_root_.Jvm.Pilot.@@N@@.setR (newO (newO M 12 4) 24 16) (mN M) 0 (some (mN M + 1))) (mN M) 1 0) = mN M + 2 := rfl
  have b168 : mZ (_root_.Jvm.Pilot.@@N@@.setI (_root_.Jvm.Pilot.@@N@@.setR (newO (newO M 12 4) 24 16) (mN M) 0 (some (mN M + 1))) (mN M) 1 0) = mZ M + 20 := rfl
  generalize _root_.Jvm.Pilot.@@N@@.setI (_root_.Jvm.Pilot.@@N@@.setR (newO (newO M 12 4) 24 16) (mN M) 0 (some (mN M + 1))) (mN M) 1 0 = m168 at S168 K168 a168 b168 ⊢
  have c168 := hW.kp K168 (by omega) (by omega)
  have kM168 := kM0.tr (K168.le (by omega))
  refine V_ld (pc := 168) dL_spelled_168 (v := vr T) rfl rfl ?_
  refine V_callV (pc := 169) dL_spelled_169 (F' := 5) (As := [vr T]) (st := []) cw_RL_81 rfl rfl S168.2.2.1 (by decide) (Nat.le_of_ble_eq_true rfl) (by omega) (w_app (mN M) (mN M) ([] : List Int) w m168 (mN M) T   S168 c168.2.2 (by omega) (by omega) ⟨by omega, by omega⟩) ?_
  rintro _ m169 ⟨x169, rfl, hx169, hm169⟩ ok169 le169
  subst hx169
  have z169 := hm169.2.2
  (try simp only [List.length_append, List.length_cons, List.length_nil] at z169)
  have e169 : (([] : List Int) ++ w).length = 0 + w.length := by simp only [List.length_append, List.length_cons, List.length_nil] <;> omega
  have c169 := c168.kp hm169.2.1 (by omega) (by omega)
  have kM169 := kM168.tr (hm169.2.1.le (by omega))
  refine V_ld (pc := 172) dL_spelled_172 (v := vi ((j : Nat) : Int)) rfl rfl ?_
  refine V_if_ne (pc := 174) dL_spelled_174 (tgt := 182) rfl (fun h174 => ?_) (fun h174 => ?_)
  · skip
    refine V_ld (pc := 182) dL_spelled_182 (v := vr q) rfl rfl ?_
    refine V_iconst (pc := 183) dL_spelled_183 (by unfold I32; omega) ?_
    refine V_ialdv (pc := 184) dL_spelled_184 (v := V p 0) c169.1 (by omega) (c169.2.1 0 (by decide)) (fun g184 => ?_)
    refine V_iconst (pc := 185) dL_spelled_185 (by unfold I32; omega) ?_
    refine V_icmp_ne (pc := 186) dL_spelled_186 (tgt := 194) rfl (fun h186 => ?_) (fun h186 => ?_)
    · skip
      refine V_ld (pc := 194) dL_spelled_194 (v := vr q) rfl rfl ?_
      refine V_iconst (pc := 195) dL_spelled_195 (by unfold I32; omega) ?_
      refine V_ialdv (pc := 196) dL_spelled_196 (v := V p 0) c169.1 (by omega) (c169.2.1 0 (by decide)) (fun g196 => ?_)
      refine V_bipush (pc := 197) dL_spelled_197 (by unfold I32; omega) (by decide) ?_
      refine V_icmp_ne (pc := 199) dL_spelled_199 (tgt := 207) rfl (fun h199 => ?_) (fun h199 => ?_)
      · skip
        refine V_ldcS (pc := 207) dL_spelled_207 (i := 8) rfl (by decide) (by decide +kernel) ?_
        refine V_okM fun ok_ => ?_
        have el209 : ([] : List Int).length = 0 := rfl
        refine V_callV (pc := 209) dL_spelled_209 (F' := 5) (As := [vr (kS 8)]) (st := []) cw_RL_81 rfl rfl hm169.1.2.2.1 (by decide) (Nat.le_of_ble_eq_true rfl) (by omega) (w_app (mN M) 0 (([] : List Int) ++ w) ([]) m169 (mN M) (kS 8)   hm169.1 (litB_8 ▸ StrO.lit (B := 0) (i := 8) ok_ (by decide)) (by omega) (by omega) ⟨by omega, by omega⟩) ?_
        rintro _ m209 ⟨x209, rfl, hx209, hm209⟩ ok209 le209
        subst hx209
        have z209 := hm209.2.2
        (try simp only [List.length_append, List.length_cons, List.length_nil] at z209)
        have e209 : ((([] : List Int) ++ w) ++ []).length = 0 + w.length + 0 := by simp only [List.length_append, List.length_cons, List.length_nil] <;> omega
        have c209 := c169.kp hm209.2.1 (by omega) (by omega)
        have kM209 := kM169.tr (hm209.2.1.le (by omega))
        refine V_callV (pc := 212) dL_spelled_212 (F' := 6) (As := []) (st := []) cw_RL_96 rfl rfl hm209.1.2.2.1 (by decide) (Nat.le_of_ble_eq_true rfl) (by omega) (w_str (mN M) ((([] : List Int) ++ w) ++ []) m209 (mN M)   hm209.1 (by omega) ⟨by omega, by omega⟩) ?_
        rintro _ m212 ⟨x212, rfl, hx212, hm212⟩ ok212 le212
        subst hx212
        have z212 := hm212.2.2
        have c212 := c209.kp hm212.2.1 (by omega) (by omega)
        have kM212 := kM209.tr (hm212.2.1.le (by omega))
        refine V_st (pc := 215) dL_spelled_215 (ls' := [(3, vr (mN m209)), (4, vi ((j : Nat) : Int)), (2, vr q), (5, vi ks), (6, vi v), (0, vr tt), (1, vi ((p : Nat) : Int))]) rfl (Nat.le_of_ble_eq_true rfl) rfl ?_
        refine V_ls (ls' := [(4, vi ((j : Nat) : Int)), (3, vr (mN m209)), (2, vr q), (5, vi ks), (6, vi v), (0, vr tt), (1, vi ((p : Nat) : Int))]) (by intro q_ h_; simp only [List.mem_cons, List.not_mem_nil, or_false] at h_ ⊢; rcases h_ with rfl | rfl | rfl | rfl | rfl | rfl | rfl <;> simp) ?_
        have e_ : ((([] : List Int) ++ w) ++ []) = w ++ sepT (V p 0) j := by
          unfold sepT
          first
          | (rw [if_pos (by omega)]; simp; done)
          | (rw [if_neg (by omega), if_pos (by omega)]; simp; done)
          | (rw [if_neg (by omega), if_neg (by omega), if_pos (by omega)]; simp; done)
          | (rw [if_neg (by omega), if_neg (by omega), if_neg (by omega)]; simp; done)
        have g_ := congrArg List.length e_
        refine L_spM (w := ((([] : List Int) ++ w) ++ [])) hF (hT.mv (by omega) fun o_ ho_ => kM212 o_ (Or.inl ho_)) ⟨c212.1, c212.2.1, hm212.1⟩ (by omega) hj ha hTO hG ih (by omega) ⟨by omega, by omega⟩ hv fun m' T' k1 k2 k3 k4 => ?_
        rw [e_] at k4
        exact kx m' T' (kM212.tr (k1.le (by omega))) ⟨by omega, by omega⟩ (by omega) k4
      · skip
        refine V_ldcS (pc := 202) dL_spelled_202 (i := 15) rfl (by decide) (by decide +kernel) ?_
        refine V_goto (pc := 204) dL_spelled_204 (tgt := 209) rfl ?_
        refine V_okM fun ok_ => ?_
        have el209 : ([44] : List Int).length = 1 := rfl
        refine V_callV (pc := 209) dL_spelled_209 (F' := 5) (As := [vr (kS 15)]) (st := []) cw_RL_81 rfl rfl hm169.1.2.2.1 (by decide) (Nat.le_of_ble_eq_true rfl) (by omega) (w_app (mN M) 0 (([] : List Int) ++ w) ([44]) m169 (mN M) (kS 15)   hm169.1 (litB_15 ▸ StrO.lit (B := 0) (i := 15) ok_ (by decide)) (by omega) (by omega) ⟨by omega, by omega⟩) ?_
        rintro _ m209 ⟨x209, rfl, hx209, hm209⟩ ok209 le209
        subst hx209
        have z209 := hm209.2.2
        (try simp only [List.length_append, List.length_cons, List.length_nil] at z209)
        have e209 : ((([] : List Int) ++ w) ++ [44]).length = 0 + w.length + 1 := by simp only [List.length_append, List.length_cons, List.length_nil] <;> omega
        have c209 := c169.kp hm209.2.1 (by omega) (by omega)
        have kM209 := kM169.tr (hm209.2.1.le (by omega))
        refine V_callV (pc := 212) dL_spelled_212 (F' := 6) (As := []) (st := []) cw_RL_96 rfl rfl hm209.1.2.2.1 (by decide) (Nat.le_of_ble_eq_true rfl) (by omega) (w_str (mN M) ((([] : List Int) ++ w) ++ [44]) m209 (mN M)   hm209.1 (by omega) ⟨by omega, by omega⟩) ?_
        rintro _ m212 ⟨x212, rfl, hx212, hm212⟩ ok212 le212
        subst hx212
        have z212 := hm212.2.2
        have c212 := c209.kp hm212.2.1 (by omega) (by omega)
        have kM212 := kM209.tr (hm212.2.1.le (by omega))
        refine V_st (pc := 215) dL_spelled_215 (ls' := [(3, vr (mN m209)), (4, vi ((j : Nat) : Int)), (2, vr q), (5, vi ks), (6, vi v), (0, vr tt), (1, vi ((p : Nat) : Int))]) rfl (Nat.le_of_ble_eq_true rfl) rfl ?_
        refine V_ls (ls' := [(4, vi ((j : Nat) : Int)), (3, vr (mN m209)), (2, vr q), (5, vi ks), (6, vi v), (0, vr tt), (1, vi ((p : Nat) : Int))]) (by intro q_ h_; simp only [List.mem_cons, List.not_mem_nil, or_false] at h_ ⊢; rcases h_ with rfl | rfl | rfl | rfl | rfl | rfl | rfl <;> simp) ?_
        have e_ : ((([] : List Int) ++ w) ++ [44]) = w ++ sepT (V p 0) j := by
          unfold sepT
          first
          | (rw [if_pos (by omega)]; simp; done)
          | (rw [if_neg (by omega), if_pos (by omega)]; simp; done)
          | (rw [if_neg (by omega), if_neg (by omega), if_pos (by omega)]; simp; done)
          | (rw [if_neg (by omega), if_neg (by omega), if_neg (by omega)]; simp; done)
        have g_ := congrArg List.length e_
        refine L_spM (w := ((([] : List Int) ++ w) ++ [44])) hF (hT.mv (by omega) fun o_ ho_ => kM212 o_ (Or.inl ho_)) ⟨c212.1, c212.2.1, hm212.1⟩ (by omega) hj ha hTO hG ih (by omega) ⟨by omega, by omega⟩ hv fun m' T' k1 k2 k3 k4 => ?_
        rw [e_] at k4
        exact kx m' T' (kM212.tr (k1.le (by omega))) ⟨by omega, by omega⟩ (by omega) k4
    · skip
      refine V_ldcS (pc := 189) dL_spelled_189 (i := 14) rfl (by decide) (by decide +kernel) ?_
      refine V_goto (pc := 191) dL_spelled_191 (tgt := 209) rfl ?_
      refine V_okM fun ok_ => ?_
      have el209 : ([124] : List Int).length = 1 := rfl
      refine V_callV (pc := 209) dL_spelled_209 (F' := 5) (As := [vr (kS 14)]) (st := []) cw_RL_81 rfl rfl hm169.1.2.2.1 (by decide) (Nat.le_of_ble_eq_true rfl) (by omega) (w_app (mN M) 0 (([] : List Int) ++ w) ([124]) m169 (mN M) (kS 14)   hm169.1 (litB_14 ▸ StrO.lit (B := 0) (i := 14) ok_ (by decide)) (by omega) (by omega) ⟨by omega, by omega⟩) ?_
      rintro _ m209 ⟨x209, rfl, hx209, hm209⟩ ok209 le209
      subst hx209
      have z209 := hm209.2.2
      (try simp only [List.length_append, List.length_cons, List.length_nil] at z209)
      have e209 : ((([] : List Int) ++ w) ++ [124]).length = 0 + w.length + 1 := by simp only [List.length_append, List.length_cons, List.length_nil] <;> omega
      have c209 := c169.kp hm209.2.1 (by omega) (by omega)
      have kM209 := kM169.tr (hm209.2.1.le (by omega))
      refine V_callV (pc := 212) dL_spelled_212 (F' := 6) (As := []) (st := []) cw_RL_96 rfl rfl hm209.1.2.2.1 (by decide) (Nat.le_of_ble_eq_true rfl) (by omega) (w_str (mN M) ((([] : List Int) ++ w) ++ [124]) m209 (mN M)   hm209.1 (by omega) ⟨by omega, by omega⟩) ?_
      rintro _ m212 ⟨x212, rfl, hx212, hm212⟩ ok212 le212
      subst hx212
      have z212 := hm212.2.2
      have c212 := c209.kp hm212.2.1 (by omega) (by omega)
      have kM212 := kM209.tr (hm212.2.1.le (by omega))
      refine V_st (pc := 215) dL_spelled_215 (ls' := [(3, vr (mN m209)), (4, vi ((j : Nat) : Int)), (2, vr q), (5, vi ks), (6, vi v), (0, vr tt), (1, vi ((p : Nat) : Int))]) rfl (Nat.le_of_ble_eq_true rfl) rfl ?_
      refine V_ls (ls' := [(4, vi ((j : Nat) : Int)), (3, vr (mN m209)), (2, vr q), (5, vi ks), (6, vi v), (0, vr tt), (1, vi ((p : Nat) : Int))]) (by intro q_ h_; simp only [List.mem_cons, List.not_mem_nil, or_false] at h_ ⊢; rcases h_ with rfl | rfl | rfl | rfl | rfl | rfl | rfl <;> simp) ?_
      have e_ : ((([] : List Int) ++ w) ++ [124]) = w ++ sepT (V p 0) j := by
        unfold sepT
        first
        | (rw [if_pos (by omega)]; simp; done)
        | (rw [if_neg (by omega), if_pos (by omega)]; simp; done)
        | (rw [if_neg (by omega), if_neg (by omega), if_pos (by omega)]; simp; done)
        | (rw [if_neg (by omega), if_neg (by omega), if_neg (by omega)]; simp; done)
      have g_ := congrArg List.length e_
      refine L_spM (w := ((([] : List Int) ++ w) ++ [124])) hF (hT.mv (by omega) fun o_ ho_ => kM212 o_ (Or.inl ho_)) ⟨c212.1, c212.2.1, hm212.1⟩ (by omega) hj ha hTO hG ih (by omega) ⟨by omega, by omega⟩ hv fun m' T' k1 k2 k3 k4 => ?_
      rw [e_] at k4
      exact kx m' T' (kM212.tr (k1.le (by omega))) ⟨by omega, by omega⟩ (by omega) k4
  · skip
    refine V_ldcS (pc := 177) dL_spelled_177 (i := 8) rfl (by decide) (by decide +kernel) ?_
    refine V_goto (pc := 179) dL_spelled_179 (tgt := 209) rfl ?_
    refine V_okM fun ok_ => ?_
    have el209 : ([] : List Int).length = 0 := rfl
    refine V_callV (pc := 209) dL_spelled_209 (F' := 5) (As := [vr (kS 8)]) (st := []) cw_RL_81 rfl rfl hm169.1.2.2.1 (by decide) (Nat.le_of_ble_eq_true rfl) (by omega) (w_app (mN M) 0 (([] : List Int) ++ w) ([]) m169 (mN M) (kS 8)   hm169.1 (litB_8 ▸ StrO.lit (B := 0) (i := 8) ok_ (by decide)) (by omega) (by omega) ⟨by omega, by omega⟩) ?_
    rintro _ m209 ⟨x209, rfl, hx209, hm209⟩ ok209 le209
    subst hx209
    have z209 := hm209.2.2
    (try simp only [List.length_append, List.length_cons, List.length_nil] at z209)
    have e209 : ((([] : List Int) ++ w) ++ []).length = 0 + w.length + 0 := by simp only [List.length_append, List.length_cons, List.length_nil] <;> omega
    have c209 := c169.kp hm209.2.1 (by omega) (by omega)
    have kM209 := kM169.tr (hm209.2.1.le (by omega))
    refine V_callV (pc := 212) dL_spelled_212 (F' := 6) (As := []) (st := []) cw_RL_96 rfl rfl hm209.1.2.2.1 (by decide) (Nat.le_of_ble_eq_true rfl) (by omega) (w_str (mN M) ((([] : List Int) ++ w) ++ []) m209 (mN M)   hm209.1 (by omega) ⟨by omega, by omega⟩) ?_
    rintro _ m212 ⟨x212, rfl, hx212, hm212⟩ ok212 le212
    subst hx212
    have z212 := hm212.2.2
    have c212 := c209.kp hm212.2.1 (by omega) (by omega)
    have kM212 := kM209.tr (hm212.2.1.le (by omega))
    refine V_st (pc := 215) dL_spelled_215 (ls' := [(3, vr (mN m209)), (4, vi ((j : Nat) : Int)), (2, vr q), (5, vi ks), (6, vi v), (0, vr tt), (1, vi ((p : Nat) : Int))]) rfl (Nat.le_of_ble_eq_true rfl) rfl ?_
    refine V_ls (ls' := [(4, vi ((j : Nat) : Int)), (3, vr (mN m209)), (2, vr q), (5, vi ks), (6, vi v), (0, vr tt), (1, vi ((p : Nat) : Int))]) (by intro q_ h_; simp only [List.mem_cons, List.not_mem_nil, or_false] at h_ ⊢; rcases h_ with rfl | rfl | rfl | rfl | rfl | rfl | rfl <;> simp) ?_
    have e_ : ((([] : List Int) ++ w) ++ []) = w ++ sepT (V p 0) j := by
      unfold sepT
      first
      | (rw [if_pos (by omega)]; simp; done)
      | (rw [if_neg (by omega), if_pos (by omega)]; simp; done)
      | (rw [if_neg (by omega), if_neg (by omega), if_pos (by omega)]; simp; done)
      | (rw [if_neg (by omega), if_neg (by omega), if_neg (by omega)]; simp; done)
    have g_ := congrArg List.length e_
    refine L_spM (w := ((([] : List Int) ++ w) ++ [])) hF (hT.mv (by omega) fun o_ ho_ => kM212 o_ (Or.inl ho_)) ⟨c212.1, c212.2.1, hm212.1⟩ (by omega) hj ha hTO hG ih (by omega) ⟨by omega, by omega⟩ hv fun m' T' k1 k2 k3 k4 => ?_
    rw [e_] at k4
    exact kx m' T' (kM212.tr (k1.le (by omega))) ⟨by omega, by omega⟩ (by omega) k4
set_option maxHeartbeats 4000000 in
theorem L_spK {F f : Nat} {m0 : Mem} {post : Option AV → Mem → Prop} {M : Mem} {tt q p T : Nat} {V : Nat → Nat → Int} {w : List Int} (hF : f + 7 < F) {qc cnt a j lo : Nat} (hT : TbM M tt qc cnt V) (hW : SpW M q (mN M) T (V p) w) (hq : q < mN M) (hj : j < 3) (ha : V p (6 + j) = (a : Int) ∧ a < cnt ∧ cnt ≤ 70) (hTO : TO V f lo a) (hG : (spT V f a).length ≤ tL f ∧ tL f ≤ 1000) (ih : ∀ (qc : Nat) (cnt : Nat) (lo : Nat) (a : Nat) (V : Nat → Nat → Int) (m : Mem) (tt : Nat)   (hT : TbM m tt qc cnt V) (ha : a < cnt ∧ cnt ≤ 70) (hTO : TO V (f) lo a) (hr : mN m + sN (f) ≤ NN ∧ mZ m + sZ (f) ≤ ZZ), Ct μL_spelled (f + 7) [vr tt, vi ((a : Nat) : Int)] m (rq fun x_ m' => (True) ∧ ∃ o_, x_ = some o_ ∧ StrO m' (mN m') o_ (spT V (f) a) ∧ Kp (mN m) m m' ∧ mN m ≤ mN m' ∧ mN m' ≤ mN m + sN (f) ∧ mZ m' ≤ mZ m + sZ (f))) (hw : w.length ≤ 990) (hr : mN M + sN f + 20 ≤ NN ∧ mZ M + (sZ f + 130 + 10 * w.length + 8 * tL f) ≤ ZZ)
    (kx : ∀ (m' : Mem) (T' : Nat), Kp (mN M) M m' → mN M ≤ mN m' ∧ mN m' ≤ mN M + (sN f + 20) → mZ m' ≤ mZ M + (sZ f + 130 + 10 * w.length + 8 * tL f) → StrO m' (mN m') T' (w ++ sepT (V p 0) j ++ brkT (V p 0) (V a 0) (spT V f a)) → _root_.Jvm.Pilot.@@N@@.V μL_spelled F m0 post 287 [(4, vi ((j : Nat) : Int)), (3, vr T'), (2, vr q), (0, vr tt), (1, vi ((p : Nat) : Int))] [] m') : _root_.Jvm.Pilot.@@N@@.V μL_spelled F m0 post 89 [(4, vi ((j : Nat) : Int)), (3, vr T), (2, vr q), (0, vr tt), (1, vi ((p : Nat) : Int))] [] M := by
  obtain ⟨qa, ra, ta, la, va⟩ := hT.2.2 a ha.2.1
  have kM0 : Kp (mN M) M M := Kp.rf
  have e0_ : ([] : List Int).length = 0 := rfl
  refine V_ld (pc := 89) dL_spelled_89 (v := vr tt) rfl rfl ?_
  refine V_ld (pc := 90) dL_spelled_90 (v := vr q) rfl rfl ?_
  refine V_bipush (pc := 91) dL_spelled_91 (by unfold I32; omega) (by decide) ?_
  refine V_ld (pc := 93) dL_spelled_93 (v := vi ((j : Nat) : Int)) rfl rfl ?_
  refine V_iadd (pc := 95) dL_spelled_95 (by unfold I32 at *; omega) ?_
  refine V_ialdv (pc := 96) dL_spelled_96 (v := ((a : Nat) : Int)) hW.1 (by omega) (by rw [show (6 + ((j : Nat) : Int)).toNat = 6 + j from by omega]; exact (hW.2.1 _ (by omega)).trans ha.1) (fun g96 => ?_)
  refine V_aaldQ (pc := 97) dL_spelled_97 (q := some qa) hT.1.1 (by decide) (by omega) (by rw [Int.toNat_natCast]; exact ra) ?_
  refine V_iconst (pc := 98) dL_spelled_98 (by unfold I32; omega) ?_
  refine V_ialdv (pc := 99) dL_spelled_99 (v := V a 0) ta (by omega) (va 0 (by decide)) (fun g99 => ?_)
  refine V_st (pc := 100) dL_spelled_100 (ls' := [(5, vi (V a 0)), (4, vi ((j : Nat) : Int)), (3, vr T), (2, vr q), (0, vr tt), (1, vi ((p : Nat) : Int))]) rfl (Nat.le_of_ble_eq_true rfl) rfl ?_
  refine V_ld (pc := 102) dL_spelled_102 (v := vr q) rfl rfl ?_
  refine V_iconst (pc := 103) dL_spelled_103 (by unfold I32; omega) ?_
  refine V_ialdv (pc := 104) dL_spelled_104 (v := V p 0) hW.1 (by omega) (hW.2.1 0 (by decide)) (fun g104 => ?_)
  refine V_iconst (pc := 105) dL_spelled_105 (by unfold I32; omega) ?_
  refine V_icmp_ne (pc := 106) dL_spelled_106 (tgt := 122) rfl (fun h106 => ?_) (fun h106 => ?_)
  · skip
    refine V_ld (pc := 122) dL_spelled_122 (v := vr q) rfl rfl ?_
    refine V_iconst (pc := 123) dL_spelled_123 (by unfold I32; omega) ?_
    refine V_ialdv (pc := 124) dL_spelled_124 (v := V p 0) hW.1 (by omega) (hW.2.1 0 (by decide)) (fun g124 => ?_)
    refine V_iconst (pc := 125) dL_spelled_125 (by unfold I32; omega) ?_
    refine V_icmp_ne (pc := 126) dL_spelled_126 (tgt := 141) rfl (fun h126 => ?_) (fun h126 => ?_)
    · skip
      refine V_ld (pc := 141) dL_spelled_141 (v := vr q) rfl rfl ?_
      refine V_iconst (pc := 142) dL_spelled_142 (by unfold I32; omega) ?_
      refine V_ialdv (pc := 143) dL_spelled_143 (v := V p 0) hW.1 (by omega) (hW.2.1 0 (by decide)) (fun g143 => ?_)
      refine V_iconst (pc := 144) dL_spelled_144 (by unfold I32; omega) ?_
      refine V_icmp_ne (pc := 145) dL_spelled_145 (tgt := 158) rfl (fun h145 => ?_) (fun h145 => ?_)
      · skip
        refine V_iconst (pc := 158) dL_spelled_158 (by unfold I32; omega) ?_
        refine V_st (pc := 159) dL_spelled_159 (ls' := [(6, vi 0), (5, vi (V a 0)), (4, vi ((j : Nat) : Int)), (3, vr T), (2, vr q), (0, vr tt), (1, vi ((p : Nat) : Int))]) rfl (Nat.le_of_ble_eq_true rfl) rfl ?_
        refine V_ls (ls' := [(4, vi ((j : Nat) : Int)), (3, vr T), (2, vr q), (5, vi (V a 0)), (6, vi 0), (0, vr tt), (1, vi ((p : Nat) : Int))]) (by intro q_ h_; simp only [List.mem_cons, List.not_mem_nil, or_false] at h_ ⊢; rcases h_ with rfl | rfl | rfl | rfl | rfl | rfl | rfl <;> simp) ?_
        refine L_spJ hF hT hW hq hj ha hTO hG ih hw hr (Or.inr ⟨rfl, by unfold looT; omega⟩) fun m' T' k1 k2 k3 k4 => ?_
        refine V_ls (ls' := [(4, vi ((j : Nat) : Int)), (3, vr T'), (2, vr q), (0, vr tt), (1, vi ((p : Nat) : Int))]) (by intro q_ h_; simp only [List.mem_cons, List.not_mem_nil, or_false] at h_ ⊢; rcases h_ with rfl | rfl | rfl | rfl | rfl <;> simp) ?_
        exact kx m' T' k1 k2 k3 k4
      · skip
        refine V_ld (pc := 148) dL_spelled_148 (v := vi (V a 0)) rfl rfl ?_
        refine V_iconst (pc := 150) dL_spelled_150 (by unfold I32; omega) ?_
        refine V_icmp_ne (pc := 151) dL_spelled_151 (tgt := 158) rfl (fun h151 => ?_) (fun h151 => ?_)
        · skip
          refine V_iconst (pc := 158) dL_spelled_158 (by unfold I32; omega) ?_
          refine V_st (pc := 159) dL_spelled_159 (ls' := [(6, vi 0), (5, vi (V a 0)), (4, vi ((j : Nat) : Int)), (3, vr T), (2, vr q), (0, vr tt), (1, vi ((p : Nat) : Int))]) rfl (Nat.le_of_ble_eq_true rfl) rfl ?_
          refine V_ls (ls' := [(4, vi ((j : Nat) : Int)), (3, vr T), (2, vr q), (5, vi (V a 0)), (6, vi 0), (0, vr tt), (1, vi ((p : Nat) : Int))]) (by intro q_ h_; simp only [List.mem_cons, List.not_mem_nil, or_false] at h_ ⊢; rcases h_ with rfl | rfl | rfl | rfl | rfl | rfl | rfl <;> simp) ?_
          refine L_spJ hF hT hW hq hj ha hTO hG ih hw hr (Or.inr ⟨rfl, by unfold looT; omega⟩) fun m' T' k1 k2 k3 k4 => ?_
          refine V_ls (ls' := [(4, vi ((j : Nat) : Int)), (3, vr T'), (2, vr q), (0, vr tt), (1, vi ((p : Nat) : Int))]) (by intro q_ h_; simp only [List.mem_cons, List.not_mem_nil, or_false] at h_ ⊢; rcases h_ with rfl | rfl | rfl | rfl | rfl <;> simp) ?_
          exact kx m' T' k1 k2 k3 k4
        · skip
          refine V_iconst (pc := 154) dL_spelled_154 (by unfold I32; omega) ?_
          refine V_goto (pc := 155) dL_spelled_155 (tgt := 159) rfl ?_
          refine V_st (pc := 159) dL_spelled_159 (ls' := [(6, vi 1), (5, vi (V a 0)), (4, vi ((j : Nat) : Int)), (3, vr T), (2, vr q), (0, vr tt), (1, vi ((p : Nat) : Int))]) rfl (Nat.le_of_ble_eq_true rfl) rfl ?_
          refine V_ls (ls' := [(4, vi ((j : Nat) : Int)), (3, vr T), (2, vr q), (5, vi (V a 0)), (6, vi 1), (0, vr tt), (1, vi ((p : Nat) : Int))]) (by intro q_ h_; simp only [List.mem_cons, List.not_mem_nil, or_false] at h_ ⊢; rcases h_ with rfl | rfl | rfl | rfl | rfl | rfl | rfl <;> simp) ?_
          refine L_spJ hF hT hW hq hj ha hTO hG ih hw hr (Or.inl ⟨rfl, by unfold looT; omega⟩) fun m' T' k1 k2 k3 k4 => ?_
          refine V_ls (ls' := [(4, vi ((j : Nat) : Int)), (3, vr T'), (2, vr q), (0, vr tt), (1, vi ((p : Nat) : Int))]) (by intro q_ h_; simp only [List.mem_cons, List.not_mem_nil, or_false] at h_ ⊢; rcases h_ with rfl | rfl | rfl | rfl | rfl <;> simp) ?_
          exact kx m' T' k1 k2 k3 k4
    · skip
      refine V_ld (pc := 129) dL_spelled_129 (v := vi (V a 0)) rfl rfl ?_
      refine V_iconst (pc := 131) dL_spelled_131 (by unfold I32; omega) ?_
      refine V_icmp_eq (pc := 132) dL_spelled_132 (tgt := 154) rfl (fun h132 => ?_) (fun h132 => ?_)
      · skip
        refine V_iconst (pc := 154) dL_spelled_154 (by unfold I32; omega) ?_
        refine V_goto (pc := 155) dL_spelled_155 (tgt := 159) rfl ?_
        refine V_st (pc := 159) dL_spelled_159 (ls' := [(6, vi 1), (5, vi (V a 0)), (4, vi ((j : Nat) : Int)), (3, vr T), (2, vr q), (0, vr tt), (1, vi ((p : Nat) : Int))]) rfl (Nat.le_of_ble_eq_true rfl) rfl ?_
        refine V_ls (ls' := [(4, vi ((j : Nat) : Int)), (3, vr T), (2, vr q), (5, vi (V a 0)), (6, vi 1), (0, vr tt), (1, vi ((p : Nat) : Int))]) (by intro q_ h_; simp only [List.mem_cons, List.not_mem_nil, or_false] at h_ ⊢; rcases h_ with rfl | rfl | rfl | rfl | rfl | rfl | rfl <;> simp) ?_
        refine L_spJ hF hT hW hq hj ha hTO hG ih hw hr (Or.inl ⟨rfl, by unfold looT; omega⟩) fun m' T' k1 k2 k3 k4 => ?_
        refine V_ls (ls' := [(4, vi ((j : Nat) : Int)), (3, vr T'), (2, vr q), (0, vr tt), (1, vi ((p : Nat) : Int))]) (by intro q_ h_; simp only [List.mem_cons, List.not_mem_nil, or_false] at h_ ⊢; rcases h_ with rfl | rfl | rfl | rfl | rfl <;> simp) ?_
        exact kx m' T' k1 k2 k3 k4
      · skip
        refine V_ld (pc := 135) dL_spelled_135 (v := vi (V a 0)) rfl rfl ?_
        refine V_iconst (pc := 137) dL_spelled_137 (by unfold I32; omega) ?_
        refine V_icmp_eq (pc := 138) dL_spelled_138 (tgt := 154) rfl (fun h138 => ?_) (fun h138 => ?_)
        · skip
          refine V_iconst (pc := 154) dL_spelled_154 (by unfold I32; omega) ?_
          refine V_goto (pc := 155) dL_spelled_155 (tgt := 159) rfl ?_
          refine V_st (pc := 159) dL_spelled_159 (ls' := [(6, vi 1), (5, vi (V a 0)), (4, vi ((j : Nat) : Int)), (3, vr T), (2, vr q), (0, vr tt), (1, vi ((p : Nat) : Int))]) rfl (Nat.le_of_ble_eq_true rfl) rfl ?_
          refine V_ls (ls' := [(4, vi ((j : Nat) : Int)), (3, vr T), (2, vr q), (5, vi (V a 0)), (6, vi 1), (0, vr tt), (1, vi ((p : Nat) : Int))]) (by intro q_ h_; simp only [List.mem_cons, List.not_mem_nil, or_false] at h_ ⊢; rcases h_ with rfl | rfl | rfl | rfl | rfl | rfl | rfl <;> simp) ?_
          refine L_spJ hF hT hW hq hj ha hTO hG ih hw hr (Or.inl ⟨rfl, by unfold looT; omega⟩) fun m' T' k1 k2 k3 k4 => ?_
          refine V_ls (ls' := [(4, vi ((j : Nat) : Int)), (3, vr T'), (2, vr q), (0, vr tt), (1, vi ((p : Nat) : Int))]) (by intro q_ h_; simp only [List.mem_cons, List.not_mem_nil, or_false] at h_ ⊢; rcases h_ with rfl | rfl | rfl | rfl | rfl <;> simp) ?_
          exact kx m' T' k1 k2 k3 k4
        · skip
          refine V_ld (pc := 141) dL_spelled_141 (v := vr q) rfl rfl ?_
          refine V_iconst (pc := 142) dL_spelled_142 (by unfold I32; omega) ?_
          refine V_ialdv (pc := 143) dL_spelled_143 (v := V p 0) hW.1 (by omega) (hW.2.1 0 (by decide)) (fun g143 => ?_)
          refine V_iconst (pc := 144) dL_spelled_144 (by unfold I32; omega) ?_
          refine V_icmp_ne (pc := 145) dL_spelled_145 (tgt := 158) rfl (fun h145 => ?_) (fun h145 => ?_)
          · skip
            refine V_iconst (pc := 158) dL_spelled_158 (by unfold I32; omega) ?_
            refine V_st (pc := 159) dL_spelled_159 (ls' := [(6, vi 0), (5, vi (V a 0)), (4, vi ((j : Nat) : Int)), (3, vr T), (2, vr q), (0, vr tt), (1, vi ((p : Nat) : Int))]) rfl (Nat.le_of_ble_eq_true rfl) rfl ?_
            refine V_ls (ls' := [(4, vi ((j : Nat) : Int)), (3, vr T), (2, vr q), (5, vi (V a 0)), (6, vi 0), (0, vr tt), (1, vi ((p : Nat) : Int))]) (by intro q_ h_; simp only [List.mem_cons, List.not_mem_nil, or_false] at h_ ⊢; rcases h_ with rfl | rfl | rfl | rfl | rfl | rfl | rfl <;> simp) ?_
            refine L_spJ hF hT hW hq hj ha hTO hG ih hw hr (Or.inr ⟨rfl, by unfold looT; omega⟩) fun m' T' k1 k2 k3 k4 => ?_
            refine V_ls (ls' := [(4, vi ((j : Nat) : Int)), (3, vr T'), (2, vr q), (0, vr tt), (1, vi ((p : Nat) : Int))]) (by intro q_ h_; simp only [List.mem_cons, List.not_mem_nil, or_false] at h_ ⊢; rcases h_ with rfl | rfl | rfl | rfl | rfl <;> simp) ?_
            exact kx m' T' k1 k2 k3 k4
          · skip
            refine V_ld (pc := 148) dL_spelled_148 (v := vi (V a 0)) rfl rfl ?_
            refine V_iconst (pc := 150) dL_spelled_150 (by unfold I32; omega) ?_
            refine V_icmp_ne (pc := 151) dL_spelled_151 (tgt := 158) rfl (fun h151 => ?_) (fun h151 => ?_)
            · skip
              refine V_iconst (pc := 158) dL_spelled_158 (by unfold I32; omega) ?_
              refine V_st (pc := 159) dL_spelled_159 (ls' := [(6, vi 0), (5, vi (V a 0)), (4, vi ((j : Nat) : Int)), (3, vr T), (2, vr q), (0, vr tt), (1, vi ((p : Nat) : Int))]) rfl (Nat.le_of_ble_eq_true rfl) rfl ?_
              refine V_ls (ls' := [(4, vi ((j : Nat) : Int)), (3, vr T), (2, vr q), (5, vi (V a 0)), (6, vi 0), (0, vr tt), (1, vi ((p : Nat) : Int))]) (by intro q_ h_; simp only [List.mem_cons, List.not_mem_nil, or_false] at h_ ⊢; rcases h_ with rfl | rfl | rfl | rfl | rfl | rfl | rfl <;> simp) ?_
              refine L_spJ hF hT hW hq hj ha hTO hG ih hw hr (Or.inr ⟨rfl, by unfold looT; omega⟩) fun m' T' k1 k2 k3 k4 => ?_
              refine V_ls (ls' := [(4, vi ((j : Nat) : Int)), (3, vr T'), (2, vr q), (0, vr tt), (1, vi ((p : Nat) : Int))]) (by intro q_ h_; simp only [List.mem_cons, List.not_mem_nil, or_false] at h_ ⊢; rcases h_ with rfl | rfl | rfl | rfl | rfl <;> simp) ?_
              exact kx m' T' k1 k2 k3 k4
            · skip
              refine V_iconst (pc := 154) dL_spelled_154 (by unfold I32; omega) ?_
              refine V_goto (pc := 155) dL_spelled_155 (tgt := 159) rfl ?_
              refine V_st (pc := 159) dL_spelled_159 (ls' := [(6, vi 1), (5, vi (V a 0)), (4, vi ((j : Nat) : Int)), (3, vr T), (2, vr q), (0, vr tt), (1, vi ((p : Nat) : Int))]) rfl (Nat.le_of_ble_eq_true rfl) rfl ?_
              refine V_ls (ls' := [(4, vi ((j : Nat) : Int)), (3, vr T), (2, vr q), (5, vi (V a 0)), (6, vi 1), (0, vr tt), (1, vi ((p : Nat) : Int))]) (by intro q_ h_; simp only [List.mem_cons, List.not_mem_nil, or_false] at h_ ⊢; rcases h_ with rfl | rfl | rfl | rfl | rfl | rfl | rfl <;> simp) ?_
              refine L_spJ hF hT hW hq hj ha hTO hG ih hw hr (Or.inl ⟨rfl, by unfold looT; omega⟩) fun m' T' k1 k2 k3 k4 => ?_
              refine V_ls (ls' := [(4, vi ((j : Nat) : Int)), (3, vr T'), (2, vr q), (0, vr tt), (1, vi ((p : Nat) : Int))]) (by intro q_ h_; simp only [List.mem_cons, List.not_mem_nil, or_false] at h_ ⊢; rcases h_ with rfl | rfl | rfl | rfl | rfl <;> simp) ?_
              exact kx m' T' k1 k2 k3 k4
  · skip
    refine V_ld (pc := 109) dL_spelled_109 (v := vi (V a 0)) rfl rfl ?_
    refine V_iconst (pc := 111) dL_spelled_111 (by unfold I32; omega) ?_
    refine V_icmp_le (pc := 112) dL_spelled_112 (tgt := 122) rfl (fun h112 => ?_) (fun h112 => ?_)
    · skip
      refine V_ld (pc := 122) dL_spelled_122 (v := vr q) rfl rfl ?_
      refine V_iconst (pc := 123) dL_spelled_123 (by unfold I32; omega) ?_
      refine V_ialdv (pc := 124) dL_spelled_124 (v := V p 0) hW.1 (by omega) (hW.2.1 0 (by decide)) (fun g124 => ?_)
      refine V_iconst (pc := 125) dL_spelled_125 (by unfold I32; omega) ?_
      refine V_icmp_ne (pc := 126) dL_spelled_126 (tgt := 141) rfl (fun h126 => ?_) (fun h126 => ?_)
      · skip
        refine V_ld (pc := 141) dL_spelled_141 (v := vr q) rfl rfl ?_
        refine V_iconst (pc := 142) dL_spelled_142 (by unfold I32; omega) ?_
        refine V_ialdv (pc := 143) dL_spelled_143 (v := V p 0) hW.1 (by omega) (hW.2.1 0 (by decide)) (fun g143 => ?_)
        refine V_iconst (pc := 144) dL_spelled_144 (by unfold I32; omega) ?_
        refine V_icmp_ne (pc := 145) dL_spelled_145 (tgt := 158) rfl (fun h145 => ?_) (fun h145 => ?_)
        · skip
          refine V_iconst (pc := 158) dL_spelled_158 (by unfold I32; omega) ?_
          refine V_st (pc := 159) dL_spelled_159 (ls' := [(6, vi 0), (5, vi (V a 0)), (4, vi ((j : Nat) : Int)), (3, vr T), (2, vr q), (0, vr tt), (1, vi ((p : Nat) : Int))]) rfl (Nat.le_of_ble_eq_true rfl) rfl ?_
          refine V_ls (ls' := [(4, vi ((j : Nat) : Int)), (3, vr T), (2, vr q), (5, vi (V a 0)), (6, vi 0), (0, vr tt), (1, vi ((p : Nat) : Int))]) (by intro q_ h_; simp only [List.mem_cons, List.not_mem_nil, or_false] at h_ ⊢; rcases h_ with rfl | rfl | rfl | rfl | rfl | rfl | rfl <;> simp) ?_
          refine L_spJ hF hT hW hq hj ha hTO hG ih hw hr (Or.inr ⟨rfl, by unfold looT; omega⟩) fun m' T' k1 k2 k3 k4 => ?_
          refine V_ls (ls' := [(4, vi ((j : Nat) : Int)), (3, vr T'), (2, vr q), (0, vr tt), (1, vi ((p : Nat) : Int))]) (by intro q_ h_; simp only [List.mem_cons, List.not_mem_nil, or_false] at h_ ⊢; rcases h_ with rfl | rfl | rfl | rfl | rfl <;> simp) ?_
          exact kx m' T' k1 k2 k3 k4
        · skip
          refine V_ld (pc := 148) dL_spelled_148 (v := vi (V a 0)) rfl rfl ?_
          refine V_iconst (pc := 150) dL_spelled_150 (by unfold I32; omega) ?_
          refine V_icmp_ne (pc := 151) dL_spelled_151 (tgt := 158) rfl (fun h151 => ?_) (fun h151 => ?_)
          · skip
            refine V_iconst (pc := 158) dL_spelled_158 (by unfold I32; omega) ?_
            refine V_st (pc := 159) dL_spelled_159 (ls' := [(6, vi 0), (5, vi (V a 0)), (4, vi ((j : Nat) : Int)), (3, vr T), (2, vr q), (0, vr tt), (1, vi ((p : Nat) : Int))]) rfl (Nat.le_of_ble_eq_true rfl) rfl ?_
            refine V_ls (ls' := [(4, vi ((j : Nat) : Int)), (3, vr T), (2, vr q), (5, vi (V a 0)), (6, vi 0), (0, vr tt), (1, vi ((p : Nat) : Int))]) (by intro q_ h_; simp only [List.mem_cons, List.not_mem_nil, or_false] at h_ ⊢; rcases h_ with rfl | rfl | rfl | rfl | rfl | rfl | rfl <;> simp) ?_
            refine L_spJ hF hT hW hq hj ha hTO hG ih hw hr (Or.inr ⟨rfl, by unfold looT; omega⟩) fun m' T' k1 k2 k3 k4 => ?_
            refine V_ls (ls' := [(4, vi ((j : Nat) : Int)), (3, vr T'), (2, vr q), (0, vr tt), (1, vi ((p : Nat) : Int))]) (by intro q_ h_; simp only [List.mem_cons, List.not_mem_nil, or_false] at h_ ⊢; rcases h_ with rfl | rfl | rfl | rfl | rfl <;> simp) ?_
            exact kx m' T' k1 k2 k3 k4
          · skip
            refine V_iconst (pc := 154) dL_spelled_154 (by unfold I32; omega) ?_
            refine V_goto (pc := 155) dL_spelled_155 (tgt := 159) rfl ?_
            refine V_st (pc := 159) dL_spelled_159 (ls' := [(6, vi 1), (5, vi (V a 0)), (4, vi ((j : Nat) : Int)), (3, vr T), (2, vr q), (0, vr tt), (1, vi ((p : Nat) : Int))]) rfl (Nat.le_of_ble_eq_true rfl) rfl ?_
            refine V_ls (ls' := [(4, vi ((j : Nat) : Int)), (3, vr T), (2, vr q), (5, vi (V a 0)), (6, vi 1), (0, vr tt), (1, vi ((p : Nat) : Int))]) (by intro q_ h_; simp only [List.mem_cons, List.not_mem_nil, or_false] at h_ ⊢; rcases h_ with rfl | rfl | rfl | rfl | rfl | rfl | rfl <;> simp) ?_
            refine L_spJ hF hT hW hq hj ha hTO hG ih hw hr (Or.inl ⟨rfl, by unfold looT; omega⟩) fun m' T' k1 k2 k3 k4 => ?_
            refine V_ls (ls' := [(4, vi ((j : Nat) : Int)), (3, vr T'), (2, vr q), (0, vr tt), (1, vi ((p : Nat) : Int))]) (by intro q_ h_; simp only [List.mem_cons, List.not_mem_nil, or_false] at h_ ⊢; rcases h_ with rfl | rfl | rfl | rfl | rfl <;> simp) ?_
            exact kx m' T' k1 k2 k3 k4
      · skip
        refine V_ld (pc := 129) dL_spelled_129 (v := vi (V a 0)) rfl rfl ?_
        refine V_iconst (pc := 131) dL_spelled_131 (by unfold I32; omega) ?_
        refine V_icmp_eq (pc := 132) dL_spelled_132 (tgt := 154) rfl (fun h132 => ?_) (fun h132 => ?_)
        · skip
          refine V_iconst (pc := 154) dL_spelled_154 (by unfold I32; omega) ?_
          refine V_goto (pc := 155) dL_spelled_155 (tgt := 159) rfl ?_
          refine V_st (pc := 159) dL_spelled_159 (ls' := [(6, vi 1), (5, vi (V a 0)), (4, vi ((j : Nat) : Int)), (3, vr T), (2, vr q), (0, vr tt), (1, vi ((p : Nat) : Int))]) rfl (Nat.le_of_ble_eq_true rfl) rfl ?_
          refine V_ls (ls' := [(4, vi ((j : Nat) : Int)), (3, vr T), (2, vr q), (5, vi (V a 0)), (6, vi 1), (0, vr tt), (1, vi ((p : Nat) : Int))]) (by intro q_ h_; simp only [List.mem_cons, List.not_mem_nil, or_false] at h_ ⊢; rcases h_ with rfl | rfl | rfl | rfl | rfl | rfl | rfl <;> simp) ?_
          refine L_spJ hF hT hW hq hj ha hTO hG ih hw hr (Or.inl ⟨rfl, by unfold looT; omega⟩) fun m' T' k1 k2 k3 k4 => ?_
          refine V_ls (ls' := [(4, vi ((j : Nat) : Int)), (3, vr T'), (2, vr q), (0, vr tt), (1, vi ((p : Nat) : Int))]) (by intro q_ h_; simp only [List.mem_cons, List.not_mem_nil, or_false] at h_ ⊢; rcases h_ with rfl | rfl | rfl | rfl | rfl <;> simp) ?_
          exact kx m' T' k1 k2 k3 k4
        · skip
          refine V_ld (pc := 135) dL_spelled_135 (v := vi (V a 0)) rfl rfl ?_
          refine V_iconst (pc := 137) dL_spelled_137 (by unfold I32; omega) ?_
          refine V_icmp_eq (pc := 138) dL_spelled_138 (tgt := 154) rfl (fun h138 => ?_) (fun h138 => ?_)
          · skip
            refine V_iconst (pc := 154) dL_spelled_154 (by unfold I32; omega) ?_
            refine V_goto (pc := 155) dL_spelled_155 (tgt := 159) rfl ?_
            refine V_st (pc := 159) dL_spelled_159 (ls' := [(6, vi 1), (5, vi (V a 0)), (4, vi ((j : Nat) : Int)), (3, vr T), (2, vr q), (0, vr tt), (1, vi ((p : Nat) : Int))]) rfl (Nat.le_of_ble_eq_true rfl) rfl ?_
            refine V_ls (ls' := [(4, vi ((j : Nat) : Int)), (3, vr T), (2, vr q), (5, vi (V a 0)), (6, vi 1), (0, vr tt), (1, vi ((p : Nat) : Int))]) (by intro q_ h_; simp only [List.mem_cons, List.not_mem_nil, or_false] at h_ ⊢; rcases h_ with rfl | rfl | rfl | rfl | rfl | rfl | rfl <;> simp) ?_
            refine L_spJ hF hT hW hq hj ha hTO hG ih hw hr (Or.inl ⟨rfl, by unfold looT; omega⟩) fun m' T' k1 k2 k3 k4 => ?_
            refine V_ls (ls' := [(4, vi ((j : Nat) : Int)), (3, vr T'), (2, vr q), (0, vr tt), (1, vi ((p : Nat) : Int))]) (by intro q_ h_; simp only [List.mem_cons, List.not_mem_nil, or_false] at h_ ⊢; rcases h_ with rfl | rfl | rfl | rfl | rfl <;> simp) ?_
            exact kx m' T' k1 k2 k3 k4
          · skip
            refine V_ld (pc := 141) dL_spelled_141 (v := vr q) rfl rfl ?_
            refine V_iconst (pc := 142) dL_spelled_142 (by unfold I32; omega) ?_
            refine V_ialdv (pc := 143) dL_spelled_143 (v := V p 0) hW.1 (by omega) (hW.2.1 0 (by decide)) (fun g143 => ?_)
            refine V_iconst (pc := 144) dL_spelled_144 (by unfold I32; omega) ?_
            refine V_icmp_ne (pc := 145) dL_spelled_145 (tgt := 158) rfl (fun h145 => ?_) (fun h145 => ?_)
            · skip
              refine V_iconst (pc := 158) dL_spelled_158 (by unfold I32; omega) ?_
              refine V_st (pc := 159) dL_spelled_159 (ls' := [(6, vi 0), (5, vi (V a 0)), (4, vi ((j : Nat) : Int)), (3, vr T), (2, vr q), (0, vr tt), (1, vi ((p : Nat) : Int))]) rfl (Nat.le_of_ble_eq_true rfl) rfl ?_
              refine V_ls (ls' := [(4, vi ((j : Nat) : Int)), (3, vr T), (2, vr q), (5, vi (V a 0)), (6, vi 0), (0, vr tt), (1, vi ((p : Nat) : Int))]) (by intro q_ h_; simp only [List.mem_cons, List.not_mem_nil, or_false] at h_ ⊢; rcases h_ with rfl | rfl | rfl | rfl | rfl | rfl | rfl <;> simp) ?_
              refine L_spJ hF hT hW hq hj ha hTO hG ih hw hr (Or.inr ⟨rfl, by unfold looT; omega⟩) fun m' T' k1 k2 k3 k4 => ?_
              refine V_ls (ls' := [(4, vi ((j : Nat) : Int)), (3, vr T'), (2, vr q), (0, vr tt), (1, vi ((p : Nat) : Int))]) (by intro q_ h_; simp only [List.mem_cons, List.not_mem_nil, or_false] at h_ ⊢; rcases h_ with rfl | rfl | rfl | rfl | rfl <;> simp) ?_
              exact kx m' T' k1 k2 k3 k4
            · skip
              refine V_ld (pc := 148) dL_spelled_148 (v := vi (V a 0)) rfl rfl ?_
              refine V_iconst (pc := 150) dL_spelled_150 (by unfold I32; omega) ?_
              refine V_icmp_ne (pc := 151) dL_spelled_151 (tgt := 158) rfl (fun h151 => ?_) (fun h151 => ?_)
              · skip
                refine V_iconst (pc := 158) dL_spelled_158 (by unfold I32; omega) ?_
                refine V_st (pc := 159) dL_spelled_159 (ls' := [(6, vi 0), (5, vi (V a 0)), (4, vi ((j : Nat) : Int)), (3, vr T), (2, vr q), (0, vr tt), (1, vi ((p : Nat) : Int))]) rfl (Nat.le_of_ble_eq_true rfl) rfl ?_
                refine V_ls (ls' := [(4, vi ((j : Nat) : Int)), (3, vr T), (2, vr q), (5, vi (V a 0)), (6, vi 0), (0, vr tt), (1, vi ((p : Nat) : Int))]) (by intro q_ h_; simp only [List.mem_cons, List.not_mem_nil, or_false] at h_ ⊢; rcases h_ with rfl | rfl | rfl | rfl | rfl | rfl | rfl <;> simp) ?_
                refine L_spJ hF hT hW hq hj ha hTO hG ih hw hr (Or.inr ⟨rfl, by unfold looT; omega⟩) fun m' T' k1 k2 k3 k4 => ?_
                refine V_ls (ls' := [(4, vi ((j : Nat) : Int)), (3, vr T'), (2, vr q), (0, vr tt), (1, vi ((p : Nat) : Int))]) (by intro q_ h_; simp only [List.mem_cons, List.not_mem_nil, or_false] at h_ ⊢; rcases h_ with rfl | rfl | rfl | rfl | rfl <;> simp) ?_
                exact kx m' T' k1 k2 k3 k4
              · skip
                refine V_iconst (pc := 154) dL_spelled_154 (by unfold I32; omega) ?_
                refine V_goto (pc := 155) dL_spelled_155 (tgt := 159) rfl ?_
                refine V_st (pc := 159) dL_spelled_159 (ls' := [(6, vi 1), (5, vi (V a 0)), (4, vi ((j : Nat) : Int)), (3, vr T), (2, vr q), (0, vr tt), (1, vi ((p : Nat) : Int))]) rfl (Nat.le_of_ble_eq_true rfl) rfl ?_
                refine V_ls (ls' := [(4, vi ((j : Nat) : Int)), (3, vr T), (2, vr q), (5, vi (V a 0)), (6, vi 1), (0, vr tt), (1, vi ((p : Nat) : Int))]) (by intro q_ h_; simp only [List.mem_cons, List.not_mem_nil, or_false] at h_ ⊢; rcases h_ with rfl | rfl | rfl | rfl | rfl | rfl | rfl <;> simp) ?_
                refine L_spJ hF hT hW hq hj ha hTO hG ih hw hr (Or.inl ⟨rfl, by unfold looT; omega⟩) fun m' T' k1 k2 k3 k4 => ?_
                refine V_ls (ls' := [(4, vi ((j : Nat) : Int)), (3, vr T'), (2, vr q), (0, vr tt), (1, vi ((p : Nat) : Int))]) (by intro q_ h_; simp only [List.mem_cons, List.not_mem_nil, or_false] at h_ ⊢; rcases h_ with rfl | rfl | rfl | rfl | rfl <;> simp) ?_
                exact kx m' T' k1 k2 k3 k4
    · skip
      refine V_ld (pc := 115) dL_spelled_115 (v := vi (V a 0)) rfl rfl ?_
      refine V_bipush (pc := 117) dL_spelled_117 (by unfold I32; omega) (by decide) ?_
      refine V_icmp_lt (pc := 119) dL_spelled_119 (tgt := 154) rfl (fun h119 => ?_) (fun h119 => ?_)
      · skip
        refine V_iconst (pc := 154) dL_spelled_154 (by unfold I32; omega) ?_
        refine V_goto (pc := 155) dL_spelled_155 (tgt := 159) rfl ?_
        refine V_st (pc := 159) dL_spelled_159 (ls' := [(6, vi 1), (5, vi (V a 0)), (4, vi ((j : Nat) : Int)), (3, vr T), (2, vr q), (0, vr tt), (1, vi ((p : Nat) : Int))]) rfl (Nat.le_of_ble_eq_true rfl) rfl ?_
        refine V_ls (ls' := [(4, vi ((j : Nat) : Int)), (3, vr T), (2, vr q), (5, vi (V a 0)), (6, vi 1), (0, vr tt), (1, vi ((p : Nat) : Int))]) (by intro q_ h_; simp only [List.mem_cons, List.not_mem_nil, or_false] at h_ ⊢; rcases h_ with rfl | rfl | rfl | rfl | rfl | rfl | rfl <;> simp) ?_
        refine L_spJ hF hT hW hq hj ha hTO hG ih hw hr (Or.inl ⟨rfl, by unfold looT; omega⟩) fun m' T' k1 k2 k3 k4 => ?_
        refine V_ls (ls' := [(4, vi ((j : Nat) : Int)), (3, vr T'), (2, vr q), (0, vr tt), (1, vi ((p : Nat) : Int))]) (by intro q_ h_; simp only [List.mem_cons, List.not_mem_nil, or_false] at h_ ⊢; rcases h_ with rfl | rfl | rfl | rfl | rfl <;> simp) ?_
        exact kx m' T' k1 k2 k3 k4
      · skip
        refine V_ld (pc := 122) dL_spelled_122 (v := vr q) rfl rfl ?_
        refine V_iconst (pc := 123) dL_spelled_123 (by unfold I32; omega) ?_
        refine V_ialdv (pc := 124) dL_spelled_124 (v := V p 0) hW.1 (by omega) (hW.2.1 0 (by decide)) (fun g124 => ?_)
        refine V_iconst (pc := 125) dL_spelled_125 (by unfold I32; omega) ?_
        refine V_icmp_ne (pc := 126) dL_spelled_126 (tgt := 141) rfl (fun h126 => ?_) (fun h126 => ?_)
        · skip
          refine V_ld (pc := 141) dL_spelled_141 (v := vr q) rfl rfl ?_
          refine V_iconst (pc := 142) dL_spelled_142 (by unfold I32; omega) ?_
          refine V_ialdv (pc := 143) dL_spelled_143 (v := V p 0) hW.1 (by omega) (hW.2.1 0 (by decide)) (fun g143 => ?_)
          refine V_iconst (pc := 144) dL_spelled_144 (by unfold I32; omega) ?_
          refine V_icmp_ne (pc := 145) dL_spelled_145 (tgt := 158) rfl (fun h145 => ?_) (fun h145 => ?_)
          · skip
            refine V_iconst (pc := 158) dL_spelled_158 (by unfold I32; omega) ?_
            refine V_st (pc := 159) dL_spelled_159 (ls' := [(6, vi 0), (5, vi (V a 0)), (4, vi ((j : Nat) : Int)), (3, vr T), (2, vr q), (0, vr tt), (1, vi ((p : Nat) : Int))]) rfl (Nat.le_of_ble_eq_true rfl) rfl ?_
            refine V_ls (ls' := [(4, vi ((j : Nat) : Int)), (3, vr T), (2, vr q), (5, vi (V a 0)), (6, vi 0), (0, vr tt), (1, vi ((p : Nat) : Int))]) (by intro q_ h_; simp only [List.mem_cons, List.not_mem_nil, or_false] at h_ ⊢; rcases h_ with rfl | rfl | rfl | rfl | rfl | rfl | rfl <;> simp) ?_
            refine L_spJ hF hT hW hq hj ha hTO hG ih hw hr (Or.inr ⟨rfl, by unfold looT; omega⟩) fun m' T' k1 k2 k3 k4 => ?_
            refine V_ls (ls' := [(4, vi ((j : Nat) : Int)), (3, vr T'), (2, vr q), (0, vr tt), (1, vi ((p : Nat) : Int))]) (by intro q_ h_; simp only [List.mem_cons, List.not_mem_nil, or_false] at h_ ⊢; rcases h_ with rfl | rfl | rfl | rfl | rfl <;> simp) ?_
            exact kx m' T' k1 k2 k3 k4
          · skip
            refine V_ld (pc := 148) dL_spelled_148 (v := vi (V a 0)) rfl rfl ?_
            refine V_iconst (pc := 150) dL_spelled_150 (by unfold I32; omega) ?_
            refine V_icmp_ne (pc := 151) dL_spelled_151 (tgt := 158) rfl (fun h151 => ?_) (fun h151 => ?_)
            · skip
              refine V_iconst (pc := 158) dL_spelled_158 (by unfold I32; omega) ?_
              refine V_st (pc := 159) dL_spelled_159 (ls' := [(6, vi 0), (5, vi (V a 0)), (4, vi ((j : Nat) : Int)), (3, vr T), (2, vr q), (0, vr tt), (1, vi ((p : Nat) : Int))]) rfl (Nat.le_of_ble_eq_true rfl) rfl ?_
              refine V_ls (ls' := [(4, vi ((j : Nat) : Int)), (3, vr T), (2, vr q), (5, vi (V a 0)), (6, vi 0), (0, vr tt), (1, vi ((p : Nat) : Int))]) (by intro q_ h_; simp only [List.mem_cons, List.not_mem_nil, or_false] at h_ ⊢; rcases h_ with rfl | rfl | rfl | rfl | rfl | rfl | rfl <;> simp) ?_
              refine L_spJ hF hT hW hq hj ha hTO hG ih hw hr (Or.inr ⟨rfl, by unfold looT; omega⟩) fun m' T' k1 k2 k3 k4 => ?_
              refine V_ls (ls' := [(4, vi ((j : Nat) : Int)), (3, vr T'), (2, vr q), (0, vr tt), (1, vi ((p : Nat) : Int))]) (by intro q_ h_; simp only [List.mem_cons, List.not_mem_nil, or_false] at h_ ⊢; rcases h_ with rfl | rfl | rfl | rfl | rfl <;> simp) ?_
              exact kx m' T' k1 k2 k3 k4
            · skip
              refine V_iconst (pc := 154) dL_spelled_154 (by unfold I32; omega) ?_
              refine V_goto (pc := 155) dL_spelled_155 (tgt := 159) rfl ?_
              refine V_st (pc := 159) dL_spelled_159 (ls' := [(6, vi 1), (5, vi (V a 0)), (4, vi ((j : Nat) : Int)), (3, vr T), (2, vr q), (0, vr tt), (1, vi ((p : Nat) : Int))]) rfl (Nat.le_of_ble_eq_true rfl) rfl ?_
              refine V_ls (ls' := [(4, vi ((j : Nat) : Int)), (3, vr T), (2, vr q), (5, vi (V a 0)), (6, vi 1), (0, vr tt), (1, vi ((p : Nat) : Int))]) (by intro q_ h_; simp only [List.mem_cons, List.not_mem_nil, or_false] at h_ ⊢; rcases h_ with rfl | rfl | rfl | rfl | rfl | rfl | rfl <;> simp) ?_
              refine L_spJ hF hT hW hq hj ha hTO hG ih hw hr (Or.inl ⟨rfl, by unfold looT; omega⟩) fun m' T' k1 k2 k3 k4 => ?_
              refine V_ls (ls' := [(4, vi ((j : Nat) : Int)), (3, vr T'), (2, vr q), (0, vr tt), (1, vi ((p : Nat) : Int))]) (by intro q_ h_; simp only [List.mem_cons, List.not_mem_nil, or_false] at h_ ⊢; rcases h_ with rfl | rfl | rfl | rfl | rfl <;> simp) ?_
              exact kx m' T' k1 k2 k3 k4
        · skip
          refine V_ld (pc := 129) dL_spelled_129 (v := vi (V a 0)) rfl rfl ?_
          refine V_iconst (pc := 131) dL_spelled_131 (by unfold I32; omega) ?_
          refine V_icmp_eq (pc := 132) dL_spelled_132 (tgt := 154) rfl (fun h132 => ?_) (fun h132 => ?_)
          · skip
            refine V_iconst (pc := 154) dL_spelled_154 (by unfold I32; omega) ?_
            refine V_goto (pc := 155) dL_spelled_155 (tgt := 159) rfl ?_
            refine V_st (pc := 159) dL_spelled_159 (ls' := [(6, vi 1), (5, vi (V a 0)), (4, vi ((j : Nat) : Int)), (3, vr T), (2, vr q), (0, vr tt), (1, vi ((p : Nat) : Int))]) rfl (Nat.le_of_ble_eq_true rfl) rfl ?_
            refine V_ls (ls' := [(4, vi ((j : Nat) : Int)), (3, vr T), (2, vr q), (5, vi (V a 0)), (6, vi 1), (0, vr tt), (1, vi ((p : Nat) : Int))]) (by intro q_ h_; simp only [List.mem_cons, List.not_mem_nil, or_false] at h_ ⊢; rcases h_ with rfl | rfl | rfl | rfl | rfl | rfl | rfl <;> simp) ?_
            refine L_spJ hF hT hW hq hj ha hTO hG ih hw hr (Or.inl ⟨rfl, by unfold looT; omega⟩) fun m' T' k1 k2 k3 k4 => ?_
            refine V_ls (ls' := [(4, vi ((j : Nat) : Int)), (3, vr T'), (2, vr q), (0, vr tt), (1, vi ((p : Nat) : Int))]) (by intro q_ h_; simp only [List.mem_cons, List.not_mem_nil, or_false] at h_ ⊢; rcases h_ with rfl | rfl | rfl | rfl | rfl <;> simp) ?_
            exact kx m' T' k1 k2 k3 k4
          · skip
            refine V_ld (pc := 135) dL_spelled_135 (v := vi (V a 0)) rfl rfl ?_
            refine V_iconst (pc := 137) dL_spelled_137 (by unfold I32; omega) ?_
            refine V_icmp_eq (pc := 138) dL_spelled_138 (tgt := 154) rfl (fun h138 => ?_) (fun h138 => ?_)
            · skip
              refine V_iconst (pc := 154) dL_spelled_154 (by unfold I32; omega) ?_
              refine V_goto (pc := 155) dL_spelled_155 (tgt := 159) rfl ?_
              refine V_st (pc := 159) dL_spelled_159 (ls' := [(6, vi 1), (5, vi (V a 0)), (4, vi ((j : Nat) : Int)), (3, vr T), (2, vr q), (0, vr tt), (1, vi ((p : Nat) : Int))]) rfl (Nat.le_of_ble_eq_true rfl) rfl ?_
              refine V_ls (ls' := [(4, vi ((j : Nat) : Int)), (3, vr T), (2, vr q), (5, vi (V a 0)), (6, vi 1), (0, vr tt), (1, vi ((p : Nat) : Int))]) (by intro q_ h_; simp only [List.mem_cons, List.not_mem_nil, or_false] at h_ ⊢; rcases h_ with rfl | rfl | rfl | rfl | rfl | rfl | rfl <;> simp) ?_
              refine L_spJ hF hT hW hq hj ha hTO hG ih hw hr (Or.inl ⟨rfl, by unfold looT; omega⟩) fun m' T' k1 k2 k3 k4 => ?_
              refine V_ls (ls' := [(4, vi ((j : Nat) : Int)), (3, vr T'), (2, vr q), (0, vr tt), (1, vi ((p : Nat) : Int))]) (by intro q_ h_; simp only [List.mem_cons, List.not_mem_nil, or_false] at h_ ⊢; rcases h_ with rfl | rfl | rfl | rfl | rfl <;> simp) ?_
              exact kx m' T' k1 k2 k3 k4
            · skip
              refine V_ld (pc := 141) dL_spelled_141 (v := vr q) rfl rfl ?_
              refine V_iconst (pc := 142) dL_spelled_142 (by unfold I32; omega) ?_
              refine V_ialdv (pc := 143) dL_spelled_143 (v := V p 0) hW.1 (by omega) (hW.2.1 0 (by decide)) (fun g143 => ?_)
              refine V_iconst (pc := 144) dL_spelled_144 (by unfold I32; omega) ?_
              refine V_icmp_ne (pc := 145) dL_spelled_145 (tgt := 158) rfl (fun h145 => ?_) (fun h145 => ?_)
              · skip
                refine V_iconst (pc := 158) dL_spelled_158 (by unfold I32; omega) ?_
                refine V_st (pc := 159) dL_spelled_159 (ls' := [(6, vi 0), (5, vi (V a 0)), (4, vi ((j : Nat) : Int)), (3, vr T), (2, vr q), (0, vr tt), (1, vi ((p : Nat) : Int))]) rfl (Nat.le_of_ble_eq_true rfl) rfl ?_
                refine V_ls (ls' := [(4, vi ((j : Nat) : Int)), (3, vr T), (2, vr q), (5, vi (V a 0)), (6, vi 0), (0, vr tt), (1, vi ((p : Nat) : Int))]) (by intro q_ h_; simp only [List.mem_cons, List.not_mem_nil, or_false] at h_ ⊢; rcases h_ with rfl | rfl | rfl | rfl | rfl | rfl | rfl <;> simp) ?_
                refine L_spJ hF hT hW hq hj ha hTO hG ih hw hr (Or.inr ⟨rfl, by unfold looT; omega⟩) fun m' T' k1 k2 k3 k4 => ?_
                refine V_ls (ls' := [(4, vi ((j : Nat) : Int)), (3, vr T'), (2, vr q), (0, vr tt), (1, vi ((p : Nat) : Int))]) (by intro q_ h_; simp only [List.mem_cons, List.not_mem_nil, or_false] at h_ ⊢; rcases h_ with rfl | rfl | rfl | rfl | rfl <;> simp) ?_
                exact kx m' T' k1 k2 k3 k4
              · skip
                refine V_ld (pc := 148) dL_spelled_148 (v := vi (V a 0)) rfl rfl ?_
                refine V_iconst (pc := 150) dL_spelled_150 (by unfold I32; omega) ?_
                refine V_icmp_ne (pc := 151) dL_spelled_151 (tgt := 158) rfl (fun h151 => ?_) (fun h151 => ?_)
                · skip
                  refine V_iconst (pc := 158) dL_spelled_158 (by unfold I32; omega) ?_
                  refine V_st (pc := 159) dL_spelled_159 (ls' := [(6, vi 0), (5, vi (V a 0)), (4, vi ((j : Nat) : Int)), (3, vr T), (2, vr q), (0, vr tt), (1, vi ((p : Nat) : Int))]) rfl (Nat.le_of_ble_eq_true rfl) rfl ?_
                  refine V_ls (ls' := [(4, vi ((j : Nat) : Int)), (3, vr T), (2, vr q), (5, vi (V a 0)), (6, vi 0), (0, vr tt), (1, vi ((p : Nat) : Int))]) (by intro q_ h_; simp only [List.mem_cons, List.not_mem_nil, or_false] at h_ ⊢; rcases h_ with rfl | rfl | rfl | rfl | rfl | rfl | rfl <;> simp) ?_
                  refine L_spJ hF hT hW hq hj ha hTO hG ih hw hr (Or.inr ⟨rfl, by unfold looT; omega⟩) fun m' T' k1 k2 k3 k4 => ?_
                  refine V_ls (ls' := [(4, vi ((j : Nat) : Int)), (3, vr T'), (2, vr q), (0, vr tt), (1, vi ((p : Nat) : Int))]) (by intro q_ h_; simp only [List.mem_cons, List.not_mem_nil, or_false] at h_ ⊢; rcases h_ with rfl | rfl | rfl | rfl | rfl <;> simp) ?_
                  exact kx m' T' k1 k2 k3 k4
                · skip
                  refine V_iconst (pc := 154) dL_spelled_154 (by unfold I32; omega) ?_
                  refine V_goto (pc := 155) dL_spelled_155 (tgt := 159) rfl ?_
                  refine V_st (pc := 159) dL_spelled_159 (ls' := [(6, vi 1), (5, vi (V a 0)), (4, vi ((j : Nat) : Int)), (3, vr T), (2, vr q), (0, vr tt), (1, vi ((p : Nat) : Int))]) rfl (Nat.le_of_ble_eq_true rfl) rfl ?_
                  refine V_ls (ls' := [(4, vi ((j : Nat) : Int)), (3, vr T), (2, vr q), (5, vi (V a 0)), (6, vi 1), (0, vr tt), (1, vi ((p : Nat) : Int))]) (by intro q_ h_; simp only [List.mem_cons, List.not_mem_nil, or_false] at h_ ⊢; rcases h_ with rfl | rfl | rfl | rfl | rfl | rfl | rfl <;> simp) ?_
                  refine L_spJ hF hT hW hq hj ha hTO hG ih hw hr (Or.inl ⟨rfl, by unfold looT; omega⟩) fun m' T' k1 k2 k3 k4 => ?_
                  refine V_ls (ls' := [(4, vi ((j : Nat) : Int)), (3, vr T'), (2, vr q), (0, vr tt), (1, vi ((p : Nat) : Int))]) (by intro q_ h_; simp only [List.mem_cons, List.not_mem_nil, or_false] at h_ ⊢; rcases h_ with rfl | rfl | rfl | rfl | rfl <;> simp) ?_
                  exact kx m' T' k1 k2 k3 k4
