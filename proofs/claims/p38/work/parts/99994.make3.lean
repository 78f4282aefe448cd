/-! make(), 3: times -/
set_option maxHeartbeats 16000000 in
theorem L_mkRep {f : Nat} (ih : ∀ (qc cnt : Nat) (V : Nat → Nat → Int) (m : Mem) (a : Int) (tt : Nat) (d : Int) (hT : TbM m tt qc cnt V) (hd : d + ((f : Nat) : Int) = 3 ∧ 0 ≤ d) (ha : 0 ≤ a ∧ a ≤ 20000 + 300 * d) (hc : cnt + szF (f) ≤ 69) (hr : mN m + szF (f) ≤ NN ∧ mZ m + 10 * szF (f) ≤ ZZ), Ct μL_make (f + 2) [vr SC, vi a, vr tt, vi d] m (ri fun x_ m' => (True) ∧ MdP m tt qc (f) cnt V x_ m')) {qc cnt tt : Nat} {V : Nat → Nat → Int} {m mm : Mem} {a d : Int} {R : Nat → Int} (hI : MkI m mm tt qc cnt cnt V V R) (hs : R 0 = 5) (hR5 : R 5 = 0) (hd : d + ((f + 1 : Nat) : Int) = 3 ∧ 0 ≤ d) (ha : 0 ≤ a ∧ a ≤ 20000 + 300 * d) (hc : cnt + szF (f + 1) ≤ 69) (hr : mN m + szF (f + 1) ≤ NN ∧ mZ m + 10 * szF (f + 1) ≤ ZZ) (hN : mN mm = mN m + 1) (hZ : mZ mm = mZ m + 10) : _root_.Jvm.Pilot.@@N@@.V μL_make (f + 1 + 2) m (ri fun x_ m' => (True) ∧ MdP m tt qc (f + 1) cnt V x_ m') 197 [(0, vr SC), (1, vi a), (2, vr tt), (3, vi d), (5, vi 69), (6, vr (mN m))] [vi 1] mm := by
    have hs1 : szF (f + 1) = 1 + 3 * szF f := rfl
    have hsp := szF_pos f
    refine V_st (pc := 197) dL_make_197 (ls' := [(7, vi 1), (0, vr SC), (1, vi a), (2, vr tt), (3, vi d), (5, vi 69), (6, vr (mN m))]) rfl (Nat.le_of_ble_eq_true rfl) rfl ?_
    refine V_iconst (pc := 199) dL_make_199 (by unfold I32; omega) ?_
    refine V_st (pc := 200) dL_make_200 (ls' := [(8, vi 0), (7, vi 1), (0, vr SC), (1, vi a), (2, vr tt), (3, vi d), (5, vi 69), (6, vr (mN m))]) rfl (Nat.le_of_ble_eq_true rfl) rfl ?_
    skip
    refine V_ld (pc := 202) dL_make_202 (v := vi 0) rfl rfl ?_
    refine V_ld (pc := 204) dL_make_204 (v := vi 1) rfl rfl ?_
    refine V_icmp_ge (pc := 206) dL_make_206 (tgt := 254) rfl (fun h_ => absurd h_ (by decide)) (fun _ => ?_)
    skip
    refine V_ld (pc := 209) dL_make_209 (v := vr SC) rfl rfl ?_
    refine V_ld (pc := 210) dL_make_210 (v := vi a) rfl rfl ?_
    refine V_bipush (pc := 211) dL_make_211 (by unfold I32; omega) (by decide) ?_
    refine V_iadd (pc := 213) dL_make_213 (by unfold I32 at *; omega) ?_
    refine V_bipush (pc := 214) dL_make_214 (by unfold I32; omega) (by decide) ?_
    refine V_ld (pc := 216) dL_make_216 (v := vi 0) rfl rfl ?_
    refine V_imul (pc := 218) dL_make_218 (by unfold I32 at *; omega) ?_
    refine V_ld (pc := 219) dL_make_219 (v := vi d) rfl rfl ?_
    refine V_iconst (pc := 220) dL_make_220 (by unfold I32; omega) ?_
    refine V_iadd (pc := 221) dL_make_221 (by unfold I32 at *; omega) ?_
    refine V_imul (pc := 222) dL_make_222 (by unfold I32 at *; omega) ?_
    refine V_iadd (pc := 223) dL_make_223 (by unfold I32 at *; omega) ?_
    refine V_bipush (pc := 224) dL_make_224 (by unfold I32; omega) (by decide) ?_
    refine V_ld (pc := 226) dL_make_226 (v := vi d) rfl rfl ?_
    refine V_imul (pc := 227) dL_make_227 (by unfold I32 at *; omega) ?_
    refine V_iadd (pc := 228) dL_make_228 (by unfold I32 at *; omega) ?_
    refine V_ld (pc := 229) dL_make_229 (v := vr tt) rfl rfl ?_
    refine V_ld (pc := 230) dL_make_230 (v := vi d) rfl rfl ?_
    refine V_iconst (pc := 231) dL_make_231 (by unfold I32; omega) ?_
    refine V_iadd (pc := 232) dL_make_232 (by unfold I32 at *; omega) ?_
    skip
    refine V_callS (pc := 233) dL_make_233 (F' := f + 2) (As := [vr SC, vi (((a + 7) + ((43 * 0) * (d + 1))) + (11 * d)), vr tt, vi (d + 1)]) (st := []) cw_RL_106 rfl rfl (Nat.le_of_ble_eq_true rfl) (by omega) (ih qc cnt V mm (((a + 7) + ((43 * 0) * (d + 1))) + (11 * d)) tt (d + 1)   hI.1 (by omega) (by omega) (by omega) (by omega)) ?_
    rintro _ mk0 ⟨xk0, rfl, -, hk0⟩ ok233 le233
    obtain ⟨Vk0, pk0, hxk0, lk0, rk0, hIk0, tk0, ek0, nk0, zk0⟩ := hI.kid hk0
    subst hxk0
    refine V_st (pc := 236) dL_make_236 (ls' := [(9, vi ((pk0 : Nat) : Int)), (8, vi 0), (7, vi 1), (0, vr SC), (1, vi a), (2, vr tt), (3, vi d), (5, vi 69), (6, vr (mN m))]) rfl (Nat.le_of_ble_eq_true rfl) rfl ?_
    refine V_ld (pc := 238) dL_make_238 (v := vr (mN m)) rfl rfl ?_
    refine V_bipush (pc := 240) dL_make_240 (by unfold I32; omega) (by decide) ?_
    refine V_ld (pc := 242) dL_make_242 (v := vi 0) rfl rfl ?_
    refine V_iadd (pc := 244) dL_make_244 (by unfold I32 at *; omega) ?_
    refine V_ld (pc := 245) dL_make_245 (v := vi ((pk0 : Nat) : Int)) rfl rfl ?_
    refine V_iast (pc := 247) dL_make_247 hIk0.2.1.1 (by omega) ?_
    refine V_mem (m' := (setI mk0 (mN m) 6 ((pk0 : Nat) : Int))) rfl ?_
    have hI10 := (hIk0.w (k := 6) (v := ((pk0 : Nat) : Int)))
    have n10 : mN (setI mk0 (mN m) 6 ((pk0 : Nat) : Int)) = mN mk0 := by simp only [mN_sI]
    have z10 : mZ (setI mk0 (mN m) 6 ((pk0 : Nat) : Int)) = mZ mk0 := by simp only [mZ_sI]
    generalize (setI mk0 (mN m) 6 ((pk0 : Nat) : Int)) = mm10 at hI10 n10 z10 ⊢
    refine V_iinc (pc := 248) dL_make_248 (x := 0) (ls' := [(8, vi (0 + 1)), (9, vi ((pk0 : Nat) : Int)), (7, vi 1), (0, vr SC), (1, vi a), (2, vr tt), (3, vi d), (5, vi 69), (6, vr (mN m))]) rfl (by unfold I32 at *; omega) (Nat.le_of_ble_eq_true rfl) rfl ?_
    refine V_goto (pc := 251) dL_make_251 (tgt := 202) rfl ?_
    rw [show ((0 : Int) + 1) = 1 from by decide]
    refine V_ld (pc := 202) dL_make_202 (v := vi 1) rfl rfl ?_
    refine V_ld (pc := 204) dL_make_204 (v := vi 1) rfl rfl ?_
    refine V_icmp_ge (pc := 206) dL_make_206 (tgt := 254) rfl (fun _ => ?_) (fun h_ => absurd h_ (by decide))
    skip
    refine V_ld (pc := 254) dL_make_254 (v := vr (mN m)) rfl rfl ?_
    refine V_iconst (pc := 256) dL_make_256 (by unfold I32; omega) ?_
    refine V_ld (pc := 257) dL_make_257 (v := vi 1) rfl rfl ?_
    refine V_iast (pc := 259) dL_make_259 hI10.2.1.1 (by omega) ?_
    refine V_ld (pc := 260) dL_make_260 (v := vr (mN m)) rfl rfl ?_
    refine V_iconst (pc := 262) dL_make_262 (by unfold I32; omega) ?_
    refine V_ialdv (pc := 263) dL_make_263 (v := 5) hI10.2.1.1 (by omega) (by first | exact ((hI10.2.2.1 0 (by decide)).trans hs) | (simp only [mI_setI, up2]; repeat (first | exact ((hI10.2.2.1 0 (by decide)).trans hs) | rw [if_neg (by omega)]))) (fun g263 => ?_)
    refine V_iconst (pc := 264) dL_make_264 (by unfold I32; omega) ?_
    refine V_icmp_ne (pc := 265) dL_make_265 (tgt := 404) rfl (fun h_ => absurd h_ (by decide)) (fun _ => ?_)
    refine V_ld (pc := 268) dL_make_268 (v := vr SC) rfl rfl ?_
    refine V_ld (pc := 269) dL_make_269 (v := vi a) rfl rfl ?_
    refine V_iconst (pc := 270) dL_make_270 (by unfold I32; omega) ?_
    refine V_iadd (pc := 271) dL_make_271 (by unfold I32 at *; omega) ?_
    refine V_bipush (pc := 272) dL_make_272 (by unfold I32; omega) (by decide) ?_
    refine V_callS (pc := 274) dL_make_274 (F' := 1) (As := [vr SC, vi (a + 2), vi 6]) (st := []) cw_RL_17 rfl rfl (Nat.le_of_ble_eq_true rfl) (by omega) (w_pick  (setI mm10 (mN m) 5 1) (a + 2) 6   (by omega)) ?_
    rintro _ _ ⟨x274, rfl, hx274, rfl⟩ ok274 le274
    refine V_st (pc := 277) dL_make_277 (ls' := [(8, vi x274), (9, vi ((pk0 : Nat) : Int)), (7, vi 1), (0, vr SC), (1, vi a), (2, vr tt), (3, vi d), (5, vi 69), (6, vr (mN m))]) rfl (Nat.le_of_ble_eq_true rfl) rfl ?_
    refine V_ld (pc := 279) dL_make_279 (v := vr (mN m)) rfl rfl ?_
    refine V_iconst (pc := 281) dL_make_281 (by unfold I32; omega) ?_
    refine V_ld (pc := 282) dL_make_282 (v := vi x274) rfl rfl ?_
    refine V_if_eq (pc := 284) dL_make_284 (tgt := 293) rfl (fun h284 => ?_) (fun h284 => ?_)
    · skip
      refine V_iconst (pc := 293) dL_make_293 (by unfold I32; omega) ?_
      refine V_goto (pc := 294) dL_make_294 (tgt := 315) rfl ?_
      refine V_iast (pc := 315) dL_make_315 hI10.2.1.1 (by omega) ?_
      refine V_ld (pc := 316) dL_make_316 (v := vr (mN m)) rfl rfl ?_
      refine V_iconst (pc := 318) dL_make_318 (by unfold I32; omega) ?_
      refine V_ld (pc := 319) dL_make_319 (v := vi x274) rfl rfl ?_
      refine V_iconst (pc := 321) dL_make_321 (by unfold I32; omega) ?_
      refine V_icmp_ge (pc := 322) dL_make_322 (tgt := 330) rfl (fun h322 => ?_) (fun h322 => ?_)
      · skip
        refine V_ld (pc := 330) dL_make_330 (v := vi x274) rfl rfl ?_
        refine V_iconst (pc := 332) dL_make_332 (by unfold I32; omega) ?_
        refine V_icmp_ne (pc := 333) dL_make_333 (tgt := 340) rfl (fun h333 => ?_) (fun h333 => ?_)
        · skip
          refine V_ld (pc := 340) dL_make_340 (v := vi x274) rfl rfl ?_
          refine V_iconst (pc := 342) dL_make_342 (by unfold I32; omega) ?_
          refine V_icmp_ne (pc := 343) dL_make_343 (tgt := 362) rfl (fun h343 => ?_) (fun h343 => ?_)
          · skip
            refine V_bipush (pc := 362) dL_make_362 (by unfold I32; omega) (by decide) ?_
            refine V_iast (pc := 364) dL_make_364 hI10.2.1.1 (by omega) ?_
            refine V_ld (pc := 365) dL_make_365 (v := vr (mN m)) rfl rfl ?_
            refine V_iconst (pc := 367) dL_make_367 (by unfold I32; omega) ?_
            refine V_ld (pc := 368) dL_make_368 (v := vr (mN m)) rfl rfl ?_
            refine V_iconst (pc := 370) dL_make_370 (by unfold I32; omega) ?_
            refine V_ialdv (pc := 371) dL_make_371 (v := 100) hI10.2.1.1 (by omega) (by first | rfl | (simp only [mI_setI, up2]; repeat (first | rfl | rw [if_neg (by omega)] | rw [if_pos (by omega)]))) (fun g371 => ?_)
            refine V_if_ne (pc := 372) dL_make_372 (tgt := 379) rfl (fun _ => ?_) (fun h_ => absurd h_ (by decide))
            refine V_ld (pc := 379) dL_make_379 (v := vr (mN m)) rfl rfl ?_
            refine V_iconst (pc := 381) dL_make_381 (by unfold I32; omega) ?_
            refine V_ialdv (pc := 382) dL_make_382 (v := 100) hI10.2.1.1 (by omega) (by first | rfl | (simp only [mI_setI, up2]; repeat (first | rfl | rw [if_neg (by omega)] | rw [if_pos (by omega)]))) (fun g382 => ?_)
            refine V_iast (pc := 383) dL_make_383 hI10.2.1.1 (by omega) ?_
            refine V_ld (pc := 384) dL_make_384 (v := vr (mN m)) rfl rfl ?_
            refine V_iconst (pc := 386) dL_make_386 (by unfold I32; omega) ?_
            refine V_ld (pc := 387) dL_make_387 (v := vr SC) rfl rfl ?_
            refine V_ld (pc := 388) dL_make_388 (v := vi a) rfl rfl ?_
            refine V_iconst (pc := 389) dL_make_389 (by unfold I32; omega) ?_
            refine V_iadd (pc := 390) dL_make_390 (by unfold I32 at *; omega) ?_
            refine V_iconst (pc := 391) dL_make_391 (by unfold I32; omega) ?_
            refine V_callS (pc := 392) dL_make_392 (F' := 1) (As := [vr SC, vi (a + 5), vi 3]) (st := [vi 4, vr (mN m)]) cw_RL_17 rfl rfl (Nat.le_of_ble_eq_true rfl) (by omega) (w_pick  (setI (setI (setI (setI mm10 (mN m) 5 1) (mN m) 2 0) (mN m) 3 100) (mN m) 3 100) (a + 5) 3   (by omega)) ?_
            rintro _ _ ⟨x392, rfl, hx392, rfl⟩ ok392 le392
            refine V_if_ne (pc := 395) dL_make_395 (tgt := 402) rfl (fun h395 => ?_) (fun h395 => ?_)
            · skip
              refine V_iconst (pc := 402) dL_make_402 (by unfold I32; omega) ?_
              refine V_iast (pc := 403) dL_make_403 hI10.2.1.1 (by omega) ?_
              refine V_mem (m' := (setI (setI (setI (setI (setI mm10 (mN m) 5 1) (mN m) 2 0) (mN m) 3 100) (mN m) 3 100) (mN m) 4 1)) rfl ?_
              have hI11 := (((((hI10.w (k := 5) (v := 1)).w (k := 2) (v := 0)).w (k := 3) (v := 100)).w (k := 3) (v := 100)).w (k := 4) (v := 1))
              have n11 : mN (setI (setI (setI (setI (setI mm10 (mN m) 5 1) (mN m) 2 0) (mN m) 3 100) (mN m) 3 100) (mN m) 4 1) = mN mm10 := by simp only [mN_sI]
              have z11 : mZ (setI (setI (setI (setI (setI mm10 (mN m) 5 1) (mN m) 2 0) (mN m) 3 100) (mN m) 3 100) (mN m) 4 1) = mZ mm10 := by simp only [mZ_sI]
              generalize (setI (setI (setI (setI (setI mm10 (mN m) 5 1) (mN m) 2 0) (mN m) 3 100) (mN m) 3 100) (mN m) 4 1) = mm11 at hI11 n11 z11 ⊢
              refine V_ls (ls' := [(2, vr tt), (5, vi 69), (6, vr (mN m))]) (by intro q_ h_; simp only [List.mem_cons, List.not_mem_nil, or_false] at h_ ⊢; rcases h_ with rfl | rfl | rfl <;> simp) ?_
              exact L_mkEnd hI11 (by omega) (by omega) (TO.rep hs rfl (show QB 0 100 1 from by unfold QB; omega) rfl (by omega) tk0) (by omega) (by omega)
            · skip
              refine V_iconst (pc := 398) dL_make_398 (by unfold I32; omega) ?_
              refine V_goto (pc := 399) dL_make_399 (tgt := 403) rfl ?_
              refine V_iast (pc := 403) dL_make_403 hI10.2.1.1 (by omega) ?_
              refine V_mem (m' := (setI (setI (setI (setI (setI mm10 (mN m) 5 1) (mN m) 2 0) (mN m) 3 100) (mN m) 3 100) (mN m) 4 0)) rfl ?_
              have hI12 := (((((hI10.w (k := 5) (v := 1)).w (k := 2) (v := 0)).w (k := 3) (v := 100)).w (k := 3) (v := 100)).w (k := 4) (v := 0))
              have n12 : mN (setI (setI (setI (setI (setI mm10 (mN m) 5 1) (mN m) 2 0) (mN m) 3 100) (mN m) 3 100) (mN m) 4 0) = mN mm10 := by simp only [mN_sI]
              have z12 : mZ (setI (setI (setI (setI (setI mm10 (mN m) 5 1) (mN m) 2 0) (mN m) 3 100) (mN m) 3 100) (mN m) 4 0) = mZ mm10 := by simp only [mZ_sI]
              generalize (setI (setI (setI (setI (setI mm10 (mN m) 5 1) (mN m) 2 0) (mN m) 3 100) (mN m) 3 100) (mN m) 4 0) = mm12 at hI12 n12 z12 ⊢
              refine V_ls (ls' := [(2, vr tt), (5, vi 69), (6, vr (mN m))]) (by intro q_ h_; simp only [List.mem_cons, List.not_mem_nil, or_false] at h_ ⊢; rcases h_ with rfl | rfl | rfl <;> simp) ?_
              exact L_mkEnd hI12 (by omega) (by omega) (TO.rep hs rfl (show QB 0 100 0 from by unfold QB; omega) rfl (by omega) tk0) (by omega) (by omega)
          · skip
            refine V_ld (pc := 346) dL_make_346 (v := vr (mN m)) rfl rfl ?_
            refine V_iconst (pc := 348) dL_make_348 (by unfold I32; omega) ?_
            refine V_ialdv (pc := 349) dL_make_349 (v := 0) hI10.2.1.1 (by omega) (by first | rfl | (simp only [mI_setI, up2]; repeat (first | rfl | rw [if_neg (by omega)] | rw [if_pos (by omega)]))) (fun g349 => ?_)
            refine V_ld (pc := 350) dL_make_350 (v := vr SC) rfl rfl ?_
            refine V_ld (pc := 351) dL_make_351 (v := vi a) rfl rfl ?_
            refine V_iconst (pc := 352) dL_make_352 (by unfold I32; omega) ?_
            refine V_iadd (pc := 353) dL_make_353 (by unfold I32 at *; omega) ?_
            refine V_iconst (pc := 354) dL_make_354 (by unfold I32; omega) ?_
            refine V_callS (pc := 355) dL_make_355 (F' := 1) (As := [vr SC, vi (a + 4), vi 3]) (st := [vi 0, vi 3, vr (mN m)]) cw_RL_17 rfl rfl (Nat.le_of_ble_eq_true rfl) (by omega) (w_pick  (setI (setI mm10 (mN m) 5 1) (mN m) 2 0) (a + 4) 3   (by omega)) ?_
            rintro _ _ ⟨x355, rfl, hx355, rfl⟩ ok355 le355
            refine V_iadd (pc := 358) dL_make_358 (by unfold I32 at *; omega) ?_
            refine V_goto (pc := 359) dL_make_359 (tgt := 364) rfl ?_
            refine V_iast (pc := 364) dL_make_364 hI10.2.1.1 (by omega) ?_
            refine V_ld (pc := 365) dL_make_365 (v := vr (mN m)) rfl rfl ?_
            refine V_iconst (pc := 367) dL_make_367 (by unfold I32; omega) ?_
            refine V_ld (pc := 368) dL_make_368 (v := vr (mN m)) rfl rfl ?_
            refine V_iconst (pc := 370) dL_make_370 (by unfold I32; omega) ?_
            refine V_ialdv (pc := 371) dL_make_371 (v := 0 + x355) hI10.2.1.1 (by omega) (by first | rfl | (simp only [mI_setI, up2]; repeat (first | rfl | rw [if_neg (by omega)] | rw [if_pos (by omega)]))) (fun g371 => ?_)
            refine V_if_ne (pc := 372) dL_make_372 (tgt := 379) rfl (fun h372 => ?_) (fun h372 => ?_)
            · skip
              refine V_ld (pc := 379) dL_make_379 (v := vr (mN m)) rfl rfl ?_
              refine V_iconst (pc := 381) dL_make_381 (by unfold I32; omega) ?_
              refine V_ialdv (pc := 382) dL_make_382 (v := 0 + x355) hI10.2.1.1 (by omega) (by first | rfl | (simp only [mI_setI, up2]; repeat (first | rfl | rw [if_neg (by omega)] | rw [if_pos (by omega)]))) (fun g382 => ?_)
              refine V_iast (pc := 383) dL_make_383 hI10.2.1.1 (by omega) ?_
              refine V_ld (pc := 384) dL_make_384 (v := vr (mN m)) rfl rfl ?_
              refine V_iconst (pc := 386) dL_make_386 (by unfold I32; omega) ?_
              refine V_ld (pc := 387) dL_make_387 (v := vr SC) rfl rfl ?_
              refine V_ld (pc := 388) dL_make_388 (v := vi a) rfl rfl ?_
              refine V_iconst (pc := 389) dL_make_389 (by unfold I32; omega) ?_
              refine V_iadd (pc := 390) dL_make_390 (by unfold I32 at *; omega) ?_
              refine V_iconst (pc := 391) dL_make_391 (by unfold I32; omega) ?_
              refine V_callS (pc := 392) dL_make_392 (F' := 1) (As := [vr SC, vi (a + 5), vi 3]) (st := [vi 4, vr (mN m)]) cw_RL_17 rfl rfl (Nat.le_of_ble_eq_true rfl) (by omega) (w_pick  (setI (setI (setI (setI mm10 (mN m) 5 1) (mN m) 2 0) (mN m) 3 (0 + x355)) (mN m) 3 (0 + x355)) (a + 5) 3   (by omega)) ?_
              rintro _ _ ⟨x392, rfl, hx392, rfl⟩ ok392 le392
              refine V_if_ne (pc := 395) dL_make_395 (tgt := 402) rfl (fun h395 => ?_) (fun h395 => ?_)
              · skip
                refine V_iconst (pc := 402) dL_make_402 (by unfold I32; omega) ?_
                refine V_iast (pc := 403) dL_make_403 hI10.2.1.1 (by omega) ?_
                refine V_mem (m' := (setI (setI (setI (setI (setI mm10 (mN m) 5 1) (mN m) 2 0) (mN m) 3 (0 + x355)) (mN m) 3 (0 + x355)) (mN m) 4 1)) rfl ?_
                have hI13 := (((((hI10.w (k := 5) (v := 1)).w (k := 2) (v := 0)).w (k := 3) (v := (0 + x355))).w (k := 3) (v := (0 + x355))).w (k := 4) (v := 1))
                have n13 : mN (setI (setI (setI (setI (setI mm10 (mN m) 5 1) (mN m) 2 0) (mN m) 3 (0 + x355)) (mN m) 3 (0 + x355)) (mN m) 4 1) = mN mm10 := by simp only [mN_sI]
                have z13 : mZ (setI (setI (setI (setI (setI mm10 (mN m) 5 1) (mN m) 2 0) (mN m) 3 (0 + x355)) (mN m) 3 (0 + x355)) (mN m) 4 1) = mZ mm10 := by simp only [mZ_sI]
                generalize (setI (setI (setI (setI (setI mm10 (mN m) 5 1) (mN m) 2 0) (mN m) 3 (0 + x355)) (mN m) 3 (0 + x355)) (mN m) 4 1) = mm13 at hI13 n13 z13 ⊢
                refine V_ls (ls' := [(2, vr tt), (5, vi 69), (6, vr (mN m))]) (by intro q_ h_; simp only [List.mem_cons, List.not_mem_nil, or_false] at h_ ⊢; rcases h_ with rfl | rfl | rfl <;> simp) ?_
                exact L_mkEnd hI13 (by omega) (by omega) (TO.rep hs rfl (show QB 0 (0 + x355) 1 from by unfold QB; omega) rfl (by omega) tk0) (by omega) (by omega)
              · skip
                refine V_iconst (pc := 398) dL_make_398 (by unfold I32; omega) ?_
                refine V_goto (pc := 399) dL_make_399 (tgt := 403) rfl ?_
                refine V_iast (pc := 403) dL_make_403 hI10.2.1.1 (by omega) ?_
                refine V_mem (m' := (setI (setI (setI (setI (setI mm10 (mN m) 5 1) (mN m) 2 0) (mN m) 3 (0 + x355)) (mN m) 3 (0 + x355)) (mN m) 4 0)) rfl ?_
                have hI14 := (((((hI10.w (k := 5) (v := 1)).w (k := 2) (v := 0)).w (k := 3) (v := (0 + x355))).w (k := 3) (v := (0 + x355))).w (k := 4) (v := 0))
                have n14 : mN (setI (setI (setI (setI (setI mm10 (mN m) 5 1) (mN m) 2 0) (mN m) 3 (0 + x355)) (mN m) 3 (0 + x355)) (mN m) 4 0) = mN mm10 := by simp only [mN_sI]
                have z14 : mZ (setI (setI (setI (setI (setI mm10 (mN m) 5 1) (mN m) 2 0) (mN m) 3 (0 + x355)) (mN m) 3 (0 + x355)) (mN m) 4 0) = mZ mm10 := by simp only [mZ_sI]
                generalize (setI (setI (setI (setI (setI mm10 (mN m) 5 1) (mN m) 2 0) (mN m) 3 (0 + x355)) (mN m) 3 (0 + x355)) (mN m) 4 0) = mm14 at hI14 n14 z14 ⊢
                refine V_ls (ls' := [(2, vr tt), (5, vi 69), (6, vr (mN m))]) (by intro q_ h_; simp only [List.mem_cons, List.not_mem_nil, or_false] at h_ ⊢; rcases h_ with rfl | rfl | rfl <;> simp) ?_
                exact L_mkEnd hI14 (by omega) (by omega) (TO.rep hs rfl (show QB 0 (0 + x355) 0 from by unfold QB; omega) rfl (by omega) tk0) (by omega) (by omega)
            · skip
              refine V_iconst (pc := 375) dL_make_375 (by unfold I32; omega) ?_
              refine V_goto (pc := 376) dL_make_376 (tgt := 383) rfl ?_
              refine V_iast (pc := 383) dL_make_383 hI10.2.1.1 (by omega) ?_
              refine V_ld (pc := 384) dL_make_384 (v := vr (mN m)) rfl rfl ?_
              refine V_iconst (pc := 386) dL_make_386 (by unfold I32; omega) ?_
              refine V_ld (pc := 387) dL_make_387 (v := vr SC) rfl rfl ?_
              refine V_ld (pc := 388) dL_make_388 (v := vi a) rfl rfl ?_
              refine V_iconst (pc := 389) dL_make_389 (by unfold I32; omega) ?_
              refine V_iadd (pc := 390) dL_make_390 (by unfold I32 at *; omega) ?_
              refine V_iconst (pc := 391) dL_make_391 (by unfold I32; omega) ?_
              refine V_callS (pc := 392) dL_make_392 (F' := 1) (As := [vr SC, vi (a + 5), vi 3]) (st := [vi 4, vr (mN m)]) cw_RL_17 rfl rfl (Nat.le_of_ble_eq_true rfl) (by omega) (w_pick  (setI (setI (setI (setI mm10 (mN m) 5 1) (mN m) 2 0) (mN m) 3 (0 + x355)) (mN m) 3 1) (a + 5) 3   (by omega)) ?_
              rintro _ _ ⟨x392, rfl, hx392, rfl⟩ ok392 le392
              refine V_if_ne (pc := 395) dL_make_395 (tgt := 402) rfl (fun h395 => ?_) (fun h395 => ?_)
              · skip
                refine V_iconst (pc := 402) dL_make_402 (by unfold I32; omega) ?_
                refine V_iast (pc := 403) dL_make_403 hI10.2.1.1 (by omega) ?_
                refine V_mem (m' := (setI (setI (setI (setI (setI mm10 (mN m) 5 1) (mN m) 2 0) (mN m) 3 (0 + x355)) (mN m) 3 1) (mN m) 4 1)) rfl ?_
                have hI15 := (((((hI10.w (k := 5) (v := 1)).w (k := 2) (v := 0)).w (k := 3) (v := (0 + x355))).w (k := 3) (v := 1)).w (k := 4) (v := 1))
                have n15 : mN (setI (setI (setI (setI (setI mm10 (mN m) 5 1) (mN m) 2 0) (mN m) 3 (0 + x355)) (mN m) 3 1) (mN m) 4 1) = mN mm10 := by simp only [mN_sI]
                have z15 : mZ (setI (setI (setI (setI (setI mm10 (mN m) 5 1) (mN m) 2 0) (mN m) 3 (0 + x355)) (mN m) 3 1) (mN m) 4 1) = mZ mm10 := by simp only [mZ_sI]
                generalize (setI (setI (setI (setI (setI mm10 (mN m) 5 1) (mN m) 2 0) (mN m) 3 (0 + x355)) (mN m) 3 1) (mN m) 4 1) = mm15 at hI15 n15 z15 ⊢
                refine V_ls (ls' := [(2, vr tt), (5, vi 69), (6, vr (mN m))]) (by intro q_ h_; simp only [List.mem_cons, List.not_mem_nil, or_false] at h_ ⊢; rcases h_ with rfl | rfl | rfl <;> simp) ?_
                exact L_mkEnd hI15 (by omega) (by omega) (TO.rep hs rfl (show QB 0 1 1 from by unfold QB; omega) rfl (by omega) tk0) (by omega) (by omega)
              · skip
                refine V_iconst (pc := 398) dL_make_398 (by unfold I32; omega) ?_
                refine V_goto (pc := 399) dL_make_399 (tgt := 403) rfl ?_
                refine V_iast (pc := 403) dL_make_403 hI10.2.1.1 (by omega) ?_
                refine V_mem (m' := (setI (setI (setI (setI (setI mm10 (mN m) 5 1) (mN m) 2 0) (mN m) 3 (0 + x355)) (mN m) 3 1) (mN m) 4 0)) rfl ?_
                have hI16 := (((((hI10.w (k := 5) (v := 1)).w (k := 2) (v := 0)).w (k := 3) (v := (0 + x355))).w (k := 3) (v := 1)).w (k := 4) (v := 0))
                have n16 : mN (setI (setI (setI (setI (setI mm10 (mN m) 5 1) (mN m) 2 0) (mN m) 3 (0 + x355)) (mN m) 3 1) (mN m) 4 0) = mN mm10 := by simp only [mN_sI]
                have z16 : mZ (setI (setI (setI (setI (setI mm10 (mN m) 5 1) (mN m) 2 0) (mN m) 3 (0 + x355)) (mN m) 3 1) (mN m) 4 0) = mZ mm10 := by simp only [mZ_sI]
                generalize (setI (setI (setI (setI (setI mm10 (mN m) 5 1) (mN m) 2 0) (mN m) 3 (0 + x355)) (mN m) 3 1) (mN m) 4 0) = mm16 at hI16 n16 z16 ⊢
                refine V_ls (ls' := [(2, vr tt), (5, vi 69), (6, vr (mN m))]) (by intro q_ h_; simp only [List.mem_cons, List.not_mem_nil, or_false] at h_ ⊢; rcases h_ with rfl | rfl | rfl <;> simp) ?_
                exact L_mkEnd hI16 (by omega) (by omega) (TO.rep hs rfl (show QB 0 1 0 from by unfold QB; omega) rfl (by omega) tk0) (by omega) (by omega)
        · skip
          refine V_iconst (pc := 336) dL_make_336 (by unfold I32; omega) ?_
          refine V_goto (pc := 337) dL_make_337 (tgt := 364) rfl ?_
          refine V_iast (pc := 364) dL_make_364 hI10.2.1.1 (by omega) ?_
          refine V_ld (pc := 365) dL_make_365 (v := vr (mN m)) rfl rfl ?_
          refine V_iconst (pc := 367) dL_make_367 (by unfold I32; omega) ?_
          refine V_ld (pc := 368) dL_make_368 (v := vr (mN m)) rfl rfl ?_
          refine V_iconst (pc := 370) dL_make_370 (by unfold I32; omega) ?_
          refine V_ialdv (pc := 371) dL_make_371 (v := 1) hI10.2.1.1 (by omega) (by first | rfl | (simp only [mI_setI, up2]; repeat (first | rfl | rw [if_neg (by omega)] | rw [if_pos (by omega)]))) (fun g371 => ?_)
          refine V_if_ne (pc := 372) dL_make_372 (tgt := 379) rfl (fun _ => ?_) (fun h_ => absurd h_ (by decide))
          refine V_ld (pc := 379) dL_make_379 (v := vr (mN m)) rfl rfl ?_
          refine V_iconst (pc := 381) dL_make_381 (by unfold I32; omega) ?_
          refine V_ialdv (pc := 382) dL_make_382 (v := 1) hI10.2.1.1 (by omega) (by first | rfl | (simp only [mI_setI, up2]; repeat (first | rfl | rw [if_neg (by omega)] | rw [if_pos (by omega)]))) (fun g382 => ?_)
          refine V_iast (pc := 383) dL_make_383 hI10.2.1.1 (by omega) ?_
          refine V_ld (pc := 384) dL_make_384 (v := vr (mN m)) rfl rfl ?_
          refine V_iconst (pc := 386) dL_make_386 (by unfold I32; omega) ?_
          refine V_ld (pc := 387) dL_make_387 (v := vr SC) rfl rfl ?_
          refine V_ld (pc := 388) dL_make_388 (v := vi a) rfl rfl ?_
          refine V_iconst (pc := 389) dL_make_389 (by unfold I32; omega) ?_
          refine V_iadd (pc := 390) dL_make_390 (by unfold I32 at *; omega) ?_
          refine V_iconst (pc := 391) dL_make_391 (by unfold I32; omega) ?_
          refine V_callS (pc := 392) dL_make_392 (F' := 1) (As := [vr SC, vi (a + 5), vi 3]) (st := [vi 4, vr (mN m)]) cw_RL_17 rfl rfl (Nat.le_of_ble_eq_true rfl) (by omega) (w_pick  (setI (setI (setI (setI mm10 (mN m) 5 1) (mN m) 2 0) (mN m) 3 1) (mN m) 3 1) (a + 5) 3   (by omega)) ?_
          rintro _ _ ⟨x392, rfl, hx392, rfl⟩ ok392 le392
          refine V_if_ne (pc := 395) dL_make_395 (tgt := 402) rfl (fun h395 => ?_) (fun h395 => ?_)
          · skip
            refine V_iconst (pc := 402) dL_make_402 (by unfold I32; omega) ?_
            refine V_iast (pc := 403) dL_make_403 hI10.2.1.1 (by omega) ?_
            refine V_mem (m' := (setI (setI (setI (setI (setI mm10 (mN m) 5 1) (mN m) 2 0) (mN m) 3 1) (mN m) 3 1) (mN m) 4 1)) rfl ?_
            have hI17 := (((((hI10.w (k := 5) (v := 1)).w (k := 2) (v := 0)).w (k := 3) (v := 1)).w (k := 3) (v := 1)).w (k := 4) (v := 1))
            have n17 : mN (setI (setI (setI (setI (setI mm10 (mN m) 5 1) (mN m) 2 0) (mN m) 3 1) (mN m) 3 1) (mN m) 4 1) = mN mm10 := by simp only [mN_sI]
            have z17 : mZ (setI (setI (setI (setI (setI mm10 (mN m) 5 1) (mN m) 2 0) (mN m) 3 1) (mN m) 3 1) (mN m) 4 1) = mZ mm10 := by simp only [mZ_sI]
            generalize (setI (setI (setI (setI (setI mm10 (mN m) 5 1) (mN m) 2 0) (mN m) 3 1) (mN m) 3 1) (mN m) 4 1) = mm17 at hI17 n17 z17 ⊢
            refine V_ls (ls' := [(2, vr tt), (5, vi 69), (6, vr (mN m))]) (by intro q_ h_; simp only [List.mem_cons, List.not_mem_nil, or_false] at h_ ⊢; rcases h_ with rfl | rfl | rfl <;> simp) ?_
            exact L_mkEnd hI17 (by omega) (by omega) (TO.rep hs rfl (show QB 0 1 1 from by unfold QB; omega) rfl (by omega) tk0) (by omega) (by omega)
          · skip
            refine V_iconst (pc := 398) dL_make_398 (by unfold I32; omega) ?_
            refine V_goto (pc := 399) dL_make_399 (tgt := 403) rfl ?_
            refine V_iast (pc := 403) dL_make_403 hI10.2.1.1 (by omega) ?_
            refine V_mem (m' := (setI (setI (setI (setI (setI mm10 (mN m) 5 1) (mN m) 2 0) (mN m) 3 1) (mN m) 3 1) (mN m) 4 0)) rfl ?_
            have hI18 := (((((hI10.w (k := 5) (v := 1)).w (k := 2) (v := 0)).w (k := 3) (v := 1)).w (k := 3) (v := 1)).w (k := 4) (v := 0))
            have n18 : mN (setI (setI (setI (setI (setI mm10 (mN m) 5 1) (mN m) 2 0) (mN m) 3 1) (mN m) 3 1) (mN m) 4 0) = mN mm10 := by simp only [mN_sI]
            have z18 : mZ (setI (setI (setI (setI (setI mm10 (mN m) 5 1) (mN m) 2 0) (mN m) 3 1) (mN m) 3 1) (mN m) 4 0) = mZ mm10 := by simp only [mZ_sI]
            generalize (setI (setI (setI (setI (setI mm10 (mN m) 5 1) (mN m) 2 0) (mN m) 3 1) (mN m) 3 1) (mN m) 4 0) = mm18 at hI18 n18 z18 ⊢
            refine V_ls (ls' := [(2, vr tt), (5, vi 69), (6, vr (mN m))]) (by intro q_ h_; simp only [List.mem_cons, List.not_mem_nil, or_false] at h_ ⊢; rcases h_ with rfl | rfl | rfl <;> simp) ?_
            exact L_mkEnd hI18 (by omega) (by omega) (TO.rep hs rfl (show QB 0 1 0 from by unfold QB; omega) rfl (by omega) tk0) (by omega) (by omega)
      · skip
        refine V_bipush (pc := 325) dL_make_325 (by unfold I32; omega) (by decide) ?_
        refine V_goto (pc := 327) dL_make_327 (tgt := 364) rfl ?_
        refine V_iast (pc := 364) dL_make_364 hI10.2.1.1 (by omega) ?_
        refine V_ld (pc := 365) dL_make_365 (v := vr (mN m)) rfl rfl ?_
        refine V_iconst (pc := 367) dL_make_367 (by unfold I32; omega) ?_
        refine V_ld (pc := 368) dL_make_368 (v := vr (mN m)) rfl rfl ?_
        refine V_iconst (pc := 370) dL_make_370 (by unfold I32; omega) ?_
        refine V_ialdv (pc := 371) dL_make_371 (v := 100) hI10.2.1.1 (by omega) (by first | rfl | (simp only [mI_setI, up2]; repeat (first | rfl | rw [if_neg (by omega)] | rw [if_pos (by omega)]))) (fun g371 => ?_)
        refine V_if_ne (pc := 372) dL_make_372 (tgt := 379) rfl (fun _ => ?_) (fun h_ => absurd h_ (by decide))
        refine V_ld (pc := 379) dL_make_379 (v := vr (mN m)) rfl rfl ?_
        refine V_iconst (pc := 381) dL_make_381 (by unfold I32; omega) ?_
        refine V_ialdv (pc := 382) dL_make_382 (v := 100) hI10.2.1.1 (by omega) (by first | rfl | (simp only [mI_setI, up2]; repeat (first | rfl | rw [if_neg (by omega)] | rw [if_pos (by omega)]))) (fun g382 => ?_)
        refine V_iast (pc := 383) dL_make_383 hI10.2.1.1 (by omega) ?_
        refine V_ld (pc := 384) dL_make_384 (v := vr (mN m)) rfl rfl ?_
        refine V_iconst (pc := 386) dL_make_386 (by unfold I32; omega) ?_
        refine V_ld (pc := 387) dL_make_387 (v := vr SC) rfl rfl ?_
        refine V_ld (pc := 388) dL_make_388 (v := vi a) rfl rfl ?_
        refine V_iconst (pc := 389) dL_make_389 (by unfold I32; omega) ?_
        refine V_iadd (pc := 390) dL_make_390 (by unfold I32 at *; omega) ?_
        refine V_iconst (pc := 391) dL_make_391 (by unfold I32; omega) ?_
        refine V_callS (pc := 392) dL_make_392 (F' := 1) (As := [vr SC, vi (a + 5), vi 3]) (st := [vi 4, vr (mN m)]) cw_RL_17 rfl rfl (Nat.le_of_ble_eq_true rfl) (by omega) (w_pick  (setI (setI (setI (setI mm10 (mN m) 5 1) (mN m) 2 0) (mN m) 3 100) (mN m) 3 100) (a + 5) 3   (by omega)) ?_
        rintro _ _ ⟨x392, rfl, hx392, rfl⟩ ok392 le392
        refine V_if_ne (pc := 395) dL_make_395 (tgt := 402) rfl (fun h395 => ?_) (fun h395 => ?_)
        · skip
          refine V_iconst (pc := 402) dL_make_402 (by unfold I32; omega) ?_
          refine V_iast (pc := 403) dL_make_403 hI10.2.1.1 (by omega) ?_
          refine V_mem (m' := (setI (setI (setI (setI (setI mm10 (mN m) 5 1) (mN m) 2 0) (mN m) 3 100) (mN m) 3 100) (mN m) 4 1)) rfl ?_
          have hI19 := (((((hI10.w (k := 5) (v := 1)).w (k := 2) (v := 0)).w (k := 3) (v := 100)).w (k := 3) (v := 100)).w (k := 4) (v := 1))
          have n19 : mN (setI (setI (setI (setI (setI mm10 (mN m) 5 1) (mN m) 2 0) (mN m) 3 100) (mN m) 3 100) (mN m) 4 1) = mN mm10 := by simp only [mN_sI]
          have z19 : mZ (setI (setI (setI (setI (setI mm10 (mN m) 5 1) (mN m) 2 0) (mN m) 3 100) (mN m) 3 100) (mN m) 4 1) = mZ mm10 := by simp only [mZ_sI]
          generalize (setI (setI (setI (setI (setI mm10 (mN m) 5 1) (mN m) 2 0) (mN m) 3 100) (mN m) 3 100) (mN m) 4 1) = mm19 at hI19 n19 z19 ⊢
          refine V_ls (ls' := [(2, vr tt), (5, vi 69), (6, vr (mN m))]) (by intro q_ h_; simp only [List.mem_cons, List.not_mem_nil, or_false] at h_ ⊢; rcases h_ with rfl | rfl | rfl <;> simp) ?_
          exact L_mkEnd hI19 (by omega) (by omega) (TO.rep hs rfl (show QB 0 100 1 from by unfold QB; omega) rfl (by omega) tk0) (by omega) (by omega)
        · skip
          refine V_iconst (pc := 398) dL_make_398 (by unfold I32; omega) ?_
          refine V_goto (pc := 399) dL_make_399 (tgt := 403) rfl ?_
          refine V_iast (pc := 403) dL_make_403 hI10.2.1.1 (by omega) ?_
          refine V_mem (m' := (setI (setI (setI (setI (setI mm10 (mN m) 5 1) (mN m) 2 0) (mN m) 3 100) (mN m) 3 100) (mN m) 4 0)) rfl ?_
          have hI20 := (((((hI10.w (k := 5) (v := 1)).w (k := 2) (v := 0)).w (k := 3) (v := 100)).w (k := 3) (v := 100)).w (k := 4) (v := 0))
          have n20 : mN (setI (setI (setI (setI (setI mm10 (mN m) 5 1) (mN m) 2 0) (mN m) 3 100) (mN m) 3 100) (mN m) 4 0) = mN mm10 := by simp only [mN_sI]
          have z20 : mZ (setI (setI (setI (setI (setI mm10 (mN m) 5 1) (mN m) 2 0) (mN m) 3 100) (mN m) 3 100) (mN m) 4 0) = mZ mm10 := by simp only [mZ_sI]
          generalize (setI (setI (setI (setI (setI mm10 (mN m) 5 1) (mN m) 2 0) (mN m) 3 100) (mN m) 3 100) (mN m) 4 0) = mm20 at hI20 n20 z20 ⊢
          refine V_ls (ls' := [(2, vr tt), (5, vi 69), (6, vr (mN m))]) (by intro q_ h_; simp only [List.mem_cons, List.not_mem_nil, or_false] at h_ ⊢; rcases h_ with rfl | rfl | rfl <;> simp) ?_
          exact L_mkEnd hI20 (by omega) (by omega) (TO.rep hs rfl (show QB 0 100 0 from by unfold QB; omega) rfl (by omega) tk0) (by omega) (by omega)
    · skip
      refine V_ld (pc := 287) dL_make_287 (v := vi x274) rfl rfl ?_
      refine V_iconst (pc := 289) dL_make_289 (by unfold I32; omega) ?_
      refine V_icmp_ne (pc := 290) dL_make_290 (tgt := 297) rfl (fun h290 => ?_) (fun h290 => ?_)
      · skip
        refine V_ld (pc := 297) dL_make_297 (v := vi x274) rfl rfl ?_
        refine V_iconst (pc := 299) dL_make_299 (by unfold I32; omega) ?_
        refine V_icmp_ne (pc := 300) dL_make_300 (tgt := 307) rfl (fun h300 => ?_) (fun h300 => ?_)
        · skip
          refine V_ld (pc := 307) dL_make_307 (v := vr SC) rfl rfl ?_
          refine V_ld (pc := 308) dL_make_308 (v := vi a) rfl rfl ?_
          refine V_iconst (pc := 309) dL_make_309 (by unfold I32; omega) ?_
          refine V_iadd (pc := 310) dL_make_310 (by unfold I32 at *; omega) ?_
          refine V_iconst (pc := 311) dL_make_311 (by unfold I32; omega) ?_
          refine V_callS (pc := 312) dL_make_312 (F' := 1) (As := [vr SC, vi (a + 3), vi 3]) (st := [vi 2, vr (mN m)]) cw_RL_17 rfl rfl (Nat.le_of_ble_eq_true rfl) (by omega) (w_pick  (setI mm10 (mN m) 5 1) (a + 3) 3   (by omega)) ?_
          rintro _ _ ⟨x312, rfl, hx312, rfl⟩ ok312 le312
          refine V_iast (pc := 315) dL_make_315 hI10.2.1.1 (by omega) ?_
          refine V_ld (pc := 316) dL_make_316 (v := vr (mN m)) rfl rfl ?_
          refine V_iconst (pc := 318) dL_make_318 (by unfold I32; omega) ?_
          refine V_ld (pc := 319) dL_make_319 (v := vi x274) rfl rfl ?_
          refine V_iconst (pc := 321) dL_make_321 (by unfold I32; omega) ?_
          refine V_icmp_ge (pc := 322) dL_make_322 (tgt := 330) rfl (fun h322 => ?_) (fun h322 => ?_)
          · skip
            refine V_ld (pc := 330) dL_make_330 (v := vi x274) rfl rfl ?_
            refine V_iconst (pc := 332) dL_make_332 (by unfold I32; omega) ?_
            refine V_icmp_ne (pc := 333) dL_make_333 (tgt := 340) rfl (fun h333 => ?_) (fun h333 => ?_)
            · skip
              refine V_ld (pc := 340) dL_make_340 (v := vi x274) rfl rfl ?_
              refine V_iconst (pc := 342) dL_make_342 (by unfold I32; omega) ?_
              refine V_icmp_ne (pc := 343) dL_make_343 (tgt := 362) rfl (fun h343 => ?_) (fun h343 => ?_)
              · skip
                refine V_bipush (pc := 362) dL_make_362 (by unfold I32; omega) (by decide) ?_
                refine V_iast (pc := 364) dL_make_364 hI10.2.1.1 (by omega) ?_
                refine V_ld (pc := 365) dL_make_365 (v := vr (mN m)) rfl rfl ?_
                refine V_iconst (pc := 367) dL_make_367 (by unfold I32; omega) ?_
                refine V_ld (pc := 368) dL_make_368 (v := vr (mN m)) rfl rfl ?_
                refine V_iconst (pc := 370) dL_make_370 (by unfold I32; omega) ?_
                refine V_ialdv (pc := 371) dL_make_371 (v := 100) hI10.2.1.1 (by omega) (by first | rfl | (simp only [mI_setI, up2]; repeat (first | rfl | rw [if_neg (by omega)] | rw [if_pos (by omega)]))) (fun g371 => ?_)
                refine V_if_ne (pc := 372) dL_make_372 (tgt := 379) rfl (fun _ => ?_) (fun h_ => absurd h_ (by decide))
                refine V_ld (pc := 379) dL_make_379 (v := vr (mN m)) rfl rfl ?_
                refine V_iconst (pc := 381) dL_make_381 (by unfold I32; omega) ?_
                refine V_ialdv (pc := 382) dL_make_382 (v := 100) hI10.2.1.1 (by omega) (by first | rfl | (simp only [mI_setI, up2]; repeat (first | rfl | rw [if_neg (by omega)] | rw [if_pos (by omega)]))) (fun g382 => ?_)
                refine V_iast (pc := 383) dL_make_383 hI10.2.1.1 (by omega) ?_
                refine V_ld (pc := 384) dL_make_384 (v := vr (mN m)) rfl rfl ?_
                refine V_iconst (pc := 386) dL_make_386 (by unfold I32; omega) ?_
                refine V_ld (pc := 387) dL_make_387 (v := vr SC) rfl rfl ?_
                refine V_ld (pc := 388) dL_make_388 (v := vi a) rfl rfl ?_
                refine V_iconst (pc := 389) dL_make_389 (by unfold I32; omega) ?_
                refine V_iadd (pc := 390) dL_make_390 (by unfold I32 at *; omega) ?_
                refine V_iconst (pc := 391) dL_make_391 (by unfold I32; omega) ?_
                refine V_callS (pc := 392) dL_make_392 (F' := 1) (As := [vr SC, vi (a + 5), vi 3]) (st := [vi 4, vr (mN m)]) cw_RL_17 rfl rfl (Nat.le_of_ble_eq_true rfl) (by omega) (w_pick  (setI (setI (setI (setI mm10 (mN m) 5 1) (mN m) 2 x312) (mN m) 3 100) (mN m) 3 100) (a + 5) 3   (by omega)) ?_
                rintro _ _ ⟨x392, rfl, hx392, rfl⟩ ok392 le392
                refine V_if_ne (pc := 395) dL_make_395 (tgt := 402) rfl (fun h395 => ?_) (fun h395 => ?_)
                · skip
                  refine V_iconst (pc := 402) dL_make_402 (by unfold I32; omega) ?_
                  refine V_iast (pc := 403) dL_make_403 hI10.2.1.1 (by omega) ?_
                  refine V_mem (m' := (setI (setI (setI (setI (setI mm10 (mN m) 5 1) (mN m) 2 x312) (mN m) 3 100) (mN m) 3 100) (mN m) 4 1)) rfl ?_
                  have hI21 := (((((hI10.w (k := 5) (v := 1)).w (k := 2) (v := x312)).w (k := 3) (v := 100)).w (k := 3) (v := 100)).w (k := 4) (v := 1))
                  have n21 : mN (setI (setI (setI (setI (setI mm10 (mN m) 5 1) (mN m) 2 x312) (mN m) 3 100) (mN m) 3 100) (mN m) 4 1) = mN mm10 := by simp only [mN_sI]
                  have z21 : mZ (setI (setI (setI (setI (setI mm10 (mN m) 5 1) (mN m) 2 x312) (mN m) 3 100) (mN m) 3 100) (mN m) 4 1) = mZ mm10 := by simp only [mZ_sI]
                  generalize (setI (setI (setI (setI (setI mm10 (mN m) 5 1) (mN m) 2 x312) (mN m) 3 100) (mN m) 3 100) (mN m) 4 1) = mm21 at hI21 n21 z21 ⊢
                  refine V_ls (ls' := [(2, vr tt), (5, vi 69), (6, vr (mN m))]) (by intro q_ h_; simp only [List.mem_cons, List.not_mem_nil, or_false] at h_ ⊢; rcases h_ with rfl | rfl | rfl <;> simp) ?_
                  exact L_mkEnd hI21 (by omega) (by omega) (TO.rep hs rfl (show QB x312 100 1 from by unfold QB; omega) rfl (by omega) tk0) (by omega) (by omega)
                · skip
                  refine V_iconst (pc := 398) dL_make_398 (by unfold I32; omega) ?_
                  refine V_goto (pc := 399) dL_make_399 (tgt := 403) rfl ?_
                  refine V_iast (pc := 403) dL_make_403 hI10.2.1.1 (by omega) ?_
                  refine V_mem (m' := (setI (setI (setI (setI (setI mm10 (mN m) 5 1) (mN m) 2 x312) (mN m) 3 100) (mN m) 3 100) (mN m) 4 0)) rfl ?_
                  have hI22 := (((((hI10.w (k := 5) (v := 1)).w (k := 2) (v := x312)).w (k := 3) (v := 100)).w (k := 3) (v := 100)).w (k := 4) (v := 0))
                  have n22 : mN (setI (setI (setI (setI (setI mm10 (mN m) 5 1) (mN m) 2 x312) (mN m) 3 100) (mN m) 3 100) (mN m) 4 0) = mN mm10 := by simp only [mN_sI]
                  have z22 : mZ (setI (setI (setI (setI (setI mm10 (mN m) 5 1) (mN m) 2 x312) (mN m) 3 100) (mN m) 3 100) (mN m) 4 0) = mZ mm10 := by simp only [mZ_sI]
                  generalize (setI (setI (setI (setI (setI mm10 (mN m) 5 1) (mN m) 2 x312) (mN m) 3 100) (mN m) 3 100) (mN m) 4 0) = mm22 at hI22 n22 z22 ⊢
                  refine V_ls (ls' := [(2, vr tt), (5, vi 69), (6, vr (mN m))]) (by intro q_ h_; simp only [List.mem_cons, List.not_mem_nil, or_false] at h_ ⊢; rcases h_ with rfl | rfl | rfl <;> simp) ?_
                  exact L_mkEnd hI22 (by omega) (by omega) (TO.rep hs rfl (show QB x312 100 0 from by unfold QB; omega) rfl (by omega) tk0) (by omega) (by omega)
              · skip
                refine V_ld (pc := 346) dL_make_346 (v := vr (mN m)) rfl rfl ?_
                refine V_iconst (pc := 348) dL_make_348 (by unfold I32; omega) ?_
                refine V_ialdv (pc := 349) dL_make_349 (v := x312) hI10.2.1.1 (by omega) (by first | rfl | (simp only [mI_setI, up2]; repeat (first | rfl | rw [if_neg (by omega)] | rw [if_pos (by omega)]))) (fun g349 => ?_)
                refine V_ld (pc := 350) dL_make_350 (v := vr SC) rfl rfl ?_
                refine V_ld (pc := 351) dL_make_351 (v := vi a) rfl rfl ?_
                refine V_iconst (pc := 352) dL_make_352 (by unfold I32; omega) ?_
                refine V_iadd (pc := 353) dL_make_353 (by unfold I32 at *; omega) ?_
                refine V_iconst (pc := 354) dL_make_354 (by unfold I32; omega) ?_
                refine V_callS (pc := 355) dL_make_355 (F' := 1) (As := [vr SC, vi (a + 4), vi 3]) (st := [vi x312, vi 3, vr (mN m)]) cw_RL_17 rfl rfl (Nat.le_of_ble_eq_true rfl) (by omega) (w_pick  (setI (setI mm10 (mN m) 5 1) (mN m) 2 x312) (a + 4) 3   (by omega)) ?_
                rintro _ _ ⟨x355, rfl, hx355, rfl⟩ ok355 le355
                refine V_iadd (pc := 358) dL_make_358 (by unfold I32 at *; omega) ?_
                refine V_goto (pc := 359) dL_make_359 (tgt := 364) rfl ?_
                refine V_iast (pc := 364) dL_make_364 hI10.2.1.1 (by omega) ?_
                refine V_ld (pc := 365) dL_make_365 (v := vr (mN m)) rfl rfl ?_
                refine V_iconst (pc := 367) dL_make_367 (by unfold I32; omega) ?_
                refine V_ld (pc := 368) dL_make_368 (v := vr (mN m)) rfl rfl ?_
                refine V_iconst (pc := 370) dL_make_370 (by unfold I32; omega) ?_
                refine V_ialdv (pc := 371) dL_make_371 (v := x312 + x355) hI10.2.1.1 (by omega) (by first | rfl | (simp only [mI_setI, up2]; repeat (first | rfl | rw [if_neg (by omega)] | rw [if_pos (by omega)]))) (fun g371 => ?_)
                refine V_if_ne (pc := 372) dL_make_372 (tgt := 379) rfl (fun h372 => ?_) (fun h372 => ?_)
                · skip
                  refine V_ld (pc := 379) dL_make_379 (v := vr (mN m)) rfl rfl ?_
                  refine V_iconst (pc := 381) dL_make_381 (by unfold I32; omega) ?_
                  refine V_ialdv (pc := 382) dL_make_382 (v := x312 + x355) hI10.2.1.1 (by omega) (by first | rfl | (simp only [mI_setI, up2]; repeat (first | rfl | rw [if_neg (by omega)] | rw [if_pos (by omega)]))) (fun g382 => ?_)
                  refine V_iast (pc := 383) dL_make_383 hI10.2.1.1 (by omega) ?_
                  refine V_ld (pc := 384) dL_make_384 (v := vr (mN m)) rfl rfl ?_
                  refine V_iconst (pc := 386) dL_make_386 (by unfold I32; omega) ?_
                  refine V_ld (pc := 387) dL_make_387 (v := vr SC) rfl rfl ?_
                  refine V_ld (pc := 388) dL_make_388 (v := vi a) rfl rfl ?_
                  refine V_iconst (pc := 389) dL_make_389 (by unfold I32; omega) ?_
                  refine V_iadd (pc := 390) dL_make_390 (by unfold I32 at *; omega) ?_
                  refine V_iconst (pc := 391) dL_make_391 (by unfold I32; omega) ?_
                  refine V_callS (pc := 392) dL_make_392 (F' := 1) (As := [vr SC, vi (a + 5), vi 3]) (st := [vi 4, vr (mN m)]) cw_RL_17 rfl rfl (Nat.le_of_ble_eq_true rfl) (by omega) (w_pick  (setI (setI (setI (setI mm10 (mN m) 5 1) (mN m) 2 x312) (mN m) 3 (x312 + x355)) (mN m) 3 (x312 + x355)) (a + 5) 3   (by omega)) ?_
                  rintro _ _ ⟨x392, rfl, hx392, rfl⟩ ok392 le392
                  refine V_if_ne (pc := 395) dL_make_395 (tgt := 402) rfl (fun h395 => ?_) (fun h395 => ?_)
                  · skip
                    refine V_iconst (pc := 402) dL_make_402 (by unfold I32; omega) ?_
                    refine V_iast (pc := 403) dL_make_403 hI10.2.1.1 (by omega) ?_
                    refine V_mem (m' := (setI (setI (setI (setI (setI mm10 (mN m) 5 1) (mN m) 2 x312) (mN m) 3 (x312 + x355)) (mN m) 3 (x312 + x355)) (mN m) 4 1)) rfl ?_
                    have hI23 := (((((hI10.w (k := 5) (v := 1)).w (k := 2) (v := x312)).w (k := 3) (v := (x312 + x355))).w (k := 3) (v := (x312 + x355))).w (k := 4) (v := 1))
                    have n23 : mN (setI (setI (setI (setI (setI mm10 (mN m) 5 1) (mN m) 2 x312) (mN m) 3 (x312 + x355)) (mN m) 3 (x312 + x355)) (mN m) 4 1) = mN mm10 := by simp only [mN_sI]
                    have z23 : mZ (setI (setI (setI (setI (setI mm10 (mN m) 5 1) (mN m) 2 x312) (mN m) 3 (x312 + x355)) (mN m) 3 (x312 + x355)) (mN m) 4 1) = mZ mm10 := by simp only [mZ_sI]
                    generalize (setI (setI (setI (setI (setI mm10 (mN m) 5 1) (mN m) 2 x312) (mN m) 3 (x312 + x355)) (mN m) 3 (x312 + x355)) (mN m) 4 1) = mm23 at hI23 n23 z23 ⊢
                    refine V_ls (ls' := [(2, vr tt), (5, vi 69), (6, vr (mN m))]) (by intro q_ h_; simp only [List.mem_cons, List.not_mem_nil, or_false] at h_ ⊢; rcases h_ with rfl | rfl | rfl <;> simp) ?_
                    exact L_mkEnd hI23 (by omega) (by omega) (TO.rep hs rfl (show QB x312 (x312 + x355) 1 from by unfold QB; omega) rfl (by omega) tk0) (by omega) (by omega)
                  · skip
                    refine V_iconst (pc := 398) dL_make_398 (by unfold I32; omega) ?_
                    refine V_goto (pc := 399) dL_make_399 (tgt := 403) rfl ?_
                    refine V_iast (pc := 403) dL_make_403 hI10.2.1.1 (by omega) ?_
                    refine V_mem (m' := (setI (setI (setI (setI (setI mm10 (mN m) 5 1) (mN m) 2 x312) (mN m) 3 (x312 + x355)) (mN m) 3 (x312 + x355)) (mN m) 4 0)) rfl ?_
                    have hI24 := (((((hI10.w (k := 5) (v := 1)).w (k := 2) (v := x312)).w (k := 3) (v := (x312 + x355))).w (k := 3) (v := (x312 + x355))).w (k := 4) (v := 0))
                    have n24 : mN (setI (setI (setI (setI (setI mm10 (mN m) 5 1) (mN m) 2 x312) (mN m) 3 (x312 + x355)) (mN m) 3 (x312 + x355)) (mN m) 4 0) = mN mm10 := by simp only [mN_sI]
                    have z24 : mZ (setI (setI (setI (setI (setI mm10 (mN m) 5 1) (mN m) 2 x312) (mN m) 3 (x312 + x355)) (mN m) 3 (x312 + x355)) (mN m) 4 0) = mZ mm10 := by simp only [mZ_sI]
                    generalize (setI (setI (setI (setI (setI mm10 (mN m) 5 1) (mN m) 2 x312) (mN m) 3 (x312 + x355)) (mN m) 3 (x312 + x355)) (mN m) 4 0) = mm24 at hI24 n24 z24 ⊢
                    refine V_ls (ls' := [(2, vr tt), (5, vi 69), (6, vr (mN m))]) (by intro q_ h_; simp only [List.mem_cons, List.not_mem_nil, or_false] at h_ ⊢; rcases h_ with rfl | rfl | rfl <;> simp) ?_
                    exact L_mkEnd hI24 (by omega) (by omega) (TO.rep hs rfl (show QB x312 (x312 + x355) 0 from by unfold QB; omega) rfl (by omega) tk0) (by omega) (by omega)
                · skip
                  refine V_iconst (pc := 375) dL_make_375 (by unfold I32; omega) ?_
                  refine V_goto (pc := 376) dL_make_376 (tgt := 383) rfl ?_
                  refine V_iast (pc := 383) dL_make_383 hI10.2.1.1 (by omega) ?_
                  refine V_ld (pc := 384) dL_make_384 (v := vr (mN m)) rfl rfl ?_
                  refine V_iconst (pc := 386) dL_make_386 (by unfold I32; omega) ?_
                  refine V_ld (pc := 387) dL_make_387 (v := vr SC) rfl rfl ?_
                  refine V_ld (pc := 388) dL_make_388 (v := vi a) rfl rfl ?_
                  refine V_iconst (pc := 389) dL_make_389 (by unfold I32; omega) ?_
                  refine V_iadd (pc := 390) dL_make_390 (by unfold I32 at *; omega) ?_
                  refine V_iconst (pc := 391) dL_make_391 (by unfold I32; omega) ?_
                  refine V_callS (pc := 392) dL_make_392 (F' := 1) (As := [vr SC, vi (a + 5), vi 3]) (st := [vi 4, vr (mN m)]) cw_RL_17 rfl rfl (Nat.le_of_ble_eq_true rfl) (by omega) (w_pick  (setI (setI (setI (setI mm10 (mN m) 5 1) (mN m) 2 x312) (mN m) 3 (x312 + x355)) (mN m) 3 1) (a + 5) 3   (by omega)) ?_
                  rintro _ _ ⟨x392, rfl, hx392, rfl⟩ ok392 le392
                  refine V_if_ne (pc := 395) dL_make_395 (tgt := 402) rfl (fun h395 => ?_) (fun h395 => ?_)
                  · skip
                    refine V_iconst (pc := 402) dL_make_402 (by unfold I32; omega) ?_
                    refine V_iast (pc := 403) dL_make_403 hI10.2.1.1 (by omega) ?_
                    refine V_mem (m' := (setI (setI (setI (setI (setI mm10 (mN m) 5 1) (mN m) 2 x312) (mN m) 3 (x312 + x355)) (mN m) 3 1) (mN m) 4 1)) rfl ?_
                    have hI25 := (((((hI10.w (k := 5) (v := 1)).w (k := 2) (v := x312)).w (k := 3) (v := (x312 + x355))).w (k := 3) (v := 1)).w (k := 4) (v := 1))
                    have n25 : mN (setI (setI (setI (setI (setI mm10 (mN m) 5 1) (mN m) 2 x312) (mN m) 3 (x312 + x355)) (mN m) 3 1) (mN m) 4 1) = mN mm10 := by simp only [mN_sI]
                    have z25 : mZ (setI (setI (setI (setI (setI mm10 (mN m) 5 1) (mN m) 2 x312) (mN m) 3 (x312 + x355)) (mN m) 3 1) (mN m) 4 1) = mZ mm10 := by simp only [mZ_sI]
                    generalize (setI (setI (setI (setI (setI mm10 (mN m) 5 1) (mN m) 2 x312) (mN m) 3 (x312 + x355)) (mN m) 3 1) (mN m) 4 1) = mm25 at hI25 n25 z25 ⊢
                    refine V_ls (ls' := [(2, vr tt), (5, vi 69), (6, vr (mN m))]) (by intro q_ h_; simp only [List.mem_cons, List.not_mem_nil, or_false] at h_ ⊢; rcases h_ with rfl | rfl | rfl <;> simp) ?_
                    exact L_mkEnd hI25 (by omega) (by omega) (TO.rep hs rfl (show QB x312 1 1 from by unfold QB; omega) rfl (by omega) tk0) (by omega) (by omega)
                  · skip
                    refine V_iconst (pc := 398) dL_make_398 (by unfold I32; omega) ?_
                    refine V_goto (pc := 399) dL_make_399 (tgt := 403) rfl ?_
                    refine V_iast (pc := 403) dL_make_403 hI10.2.1.1 (by omega) ?_
                    refine V_mem (m' := (setI (setI (setI (setI (setI mm10 (mN m) 5 1) (mN m) 2 x312) (mN m) 3 (x312 + x355)) (mN m) 3 1) (mN m) 4 0)) rfl ?_
                    have hI26 := (((((hI10.w (k := 5) (v := 1)).w (k := 2) (v := x312)).w (k := 3) (v := (x312 + x355))).w (k := 3) (v := 1)).w (k := 4) (v := 0))
                    have n26 : mN (setI (setI (setI (setI (setI mm10 (mN m) 5 1) (mN m) 2 x312) (mN m) 3 (x312 + x355)) (mN m) 3 1) (mN m) 4 0) = mN mm10 := by simp only [mN_sI]
                    have z26 : mZ (setI (setI (setI (setI (setI mm10 (mN m) 5 1) (mN m) 2 x312) (mN m) 3 (x312 + x355)) (mN m) 3 1) (mN m) 4 0) = mZ mm10 := by simp only [mZ_sI]
                    generalize (setI (setI (setI (setI (setI mm10 (mN m) 5 1) (mN m) 2 x312) (mN m) 3 (x312 + x355)) (mN m) 3 1) (mN m) 4 0) = mm26 at hI26 n26 z26 ⊢
                    refine V_ls (ls' := [(2, vr tt), (5, vi 69), (6, vr (mN m))]) (by intro q_ h_; simp only [List.mem_cons, List.not_mem_nil, or_false] at h_ ⊢; rcases h_ with rfl | rfl | rfl <;> simp) ?_
                    exact L_mkEnd hI26 (by omega) (by omega) (TO.rep hs rfl (show QB x312 1 0 from by unfold QB; omega) rfl (by omega) tk0) (by omega) (by omega)
            · skip
              refine V_iconst (pc := 336) dL_make_336 (by unfold I32; omega) ?_
              refine V_goto (pc := 337) dL_make_337 (tgt := 364) rfl ?_
              refine V_iast (pc := 364) dL_make_364 hI10.2.1.1 (by omega) ?_
              refine V_ld (pc := 365) dL_make_365 (v := vr (mN m)) rfl rfl ?_
              refine V_iconst (pc := 367) dL_make_367 (by unfold I32; omega) ?_
              refine V_ld (pc := 368) dL_make_368 (v := vr (mN m)) rfl rfl ?_
              refine V_iconst (pc := 370) dL_make_370 (by unfold I32; omega) ?_
              refine V_ialdv (pc := 371) dL_make_371 (v := 1) hI10.2.1.1 (by omega) (by first | rfl | (simp only [mI_setI, up2]; repeat (first | rfl | rw [if_neg (by omega)] | rw [if_pos (by omega)]))) (fun g371 => ?_)
              refine V_if_ne (pc := 372) dL_make_372 (tgt := 379) rfl (fun _ => ?_) (fun h_ => absurd h_ (by decide))
              refine V_ld (pc := 379) dL_make_379 (v := vr (mN m)) rfl rfl ?_
              refine V_iconst (pc := 381) dL_make_381 (by unfold I32; omega) ?_
              refine V_ialdv (pc := 382) dL_make_382 (v := 1) hI10.2.1.1 (by omega) (by first | rfl | (simp only [mI_setI, up2]; repeat (first | rfl | rw [if_neg (by omega)] | rw [if_pos (by omega)]))) (fun g382 => ?_)
              refine V_iast (pc := 383) dL_make_383 hI10.2.1.1 (by omega) ?_
              refine V_ld (pc := 384) dL_make_384 (v := vr (mN m)) rfl rfl ?_
              refine V_iconst (pc := 386) dL_make_386 (by unfold I32; omega) ?_
              refine V_ld (pc := 387) dL_make_387 (v := vr SC) rfl rfl ?_
              refine V_ld (pc := 388) dL_make_388 (v := vi a) rfl rfl ?_
              refine V_iconst (pc := 389) dL_make_389 (by unfold I32; omega) ?_
              refine V_iadd (pc := 390) dL_make_390 (by unfold I32 at *; omega) ?_
              refine V_iconst (pc := 391) dL_make_391 (by unfold I32; omega) ?_
              refine V_callS (pc := 392) dL_make_392 (F' := 1) (As := [vr SC, vi (a + 5), vi 3]) (st := [vi 4, vr (mN m)]) cw_RL_17 rfl rfl (Nat.le_of_ble_eq_true rfl) (by omega) (w_pick  (setI (setI (setI (setI mm10 (mN m) 5 1) (mN m) 2 x312) (mN m) 3 1) (mN m) 3 1) (a + 5) 3   (by omega)) ?_
              rintro _ _ ⟨x392, rfl, hx392, rfl⟩ ok392 le392
              refine V_if_ne (pc := 395) dL_make_395 (tgt := 402) rfl (fun h395 => ?_) (fun h395 => ?_)
              · skip
                refine V_iconst (pc := 402) dL_make_402 (by unfold I32; omega) ?_
                refine V_iast (pc := 403) dL_make_403 hI10.2.1.1 (by omega) ?_
                refine V_mem (m' := (setI (setI (setI (setI (setI mm10 (mN m) 5 1) (mN m) 2 x312) (mN m) 3 1) (mN m) 3 1) (mN m) 4 1)) rfl ?_
                have hI27 := (((((hI10.w (k := 5) (v := 1)).w (k := 2) (v := x312)).w (k := 3) (v := 1)).w (k := 3) (v := 1)).w (k := 4) (v := 1))
                have n27 : mN (setI (setI (setI (setI (setI mm10 (mN m) 5 1) (mN m) 2 x312) (mN m) 3 1) (mN m) 3 1) (mN m) 4 1) = mN mm10 := by simp only [mN_sI]
                have z27 : mZ (setI (setI (setI (setI (setI mm10 (mN m) 5 1) (mN m) 2 x312) (mN m) 3 1) (mN m) 3 1) (mN m) 4 1) = mZ mm10 := by simp only [mZ_sI]
                generalize (setI (setI (setI (setI (setI mm10 (mN m) 5 1) (mN m) 2 x312) (mN m) 3 1) (mN m) 3 1) (mN m) 4 1) = mm27 at hI27 n27 z27 ⊢
                refine V_ls (ls' := [(2, vr tt), (5, vi 69), (6, vr (mN m))]) (by intro q_ h_; simp only [List.mem_cons, List.not_mem_nil, or_false] at h_ ⊢; rcases h_ with rfl | rfl | rfl <;> simp) ?_
                exact L_mkEnd hI27 (by omega) (by omega) (TO.rep hs rfl (show QB x312 1 1 from by unfold QB; omega) rfl (by omega) tk0) (by omega) (by omega)
              · skip
                refine V_iconst (pc := 398) dL_make_398 (by unfold I32; omega) ?_
                refine V_goto (pc := 399) dL_make_399 (tgt := 403) rfl ?_
                refine V_iast (pc := 403) dL_make_403 hI10.2.1.1 (by omega) ?_
                refine V_mem (m' := (setI (setI (setI (setI (setI mm10 (mN m) 5 1) (mN m) 2 x312) (mN m) 3 1) (mN m) 3 1) (mN m) 4 0)) rfl ?_
                have hI28 := (((((hI10.w (k := 5) (v := 1)).w (k := 2) (v := x312)).w (k := 3) (v := 1)).w (k := 3) (v := 1)).w (k := 4) (v := 0))
                have n28 : mN (setI (setI (setI (setI (setI mm10 (mN m) 5 1) (mN m) 2 x312) (mN m) 3 1) (mN m) 3 1) (mN m) 4 0) = mN mm10 := by simp only [mN_sI]
                have z28 : mZ (setI (setI (setI (setI (setI mm10 (mN m) 5 1) (mN m) 2 x312) (mN m) 3 1) (mN m) 3 1) (mN m) 4 0) = mZ mm10 := by simp only [mZ_sI]
                generalize (setI (setI (setI (setI (setI mm10 (mN m) 5 1) (mN m) 2 x312) (mN m) 3 1) (mN m) 3 1) (mN m) 4 0) = mm28 at hI28 n28 z28 ⊢
                refine V_ls (ls' := [(2, vr tt), (5, vi 69), (6, vr (mN m))]) (by intro q_ h_; simp only [List.mem_cons, List.not_mem_nil, or_false] at h_ ⊢; rcases h_ with rfl | rfl | rfl <;> simp) ?_
                exact L_mkEnd hI28 (by omega) (by omega) (TO.rep hs rfl (show QB x312 1 0 from by unfold QB; omega) rfl (by omega) tk0) (by omega) (by omega)
          · skip
            refine V_bipush (pc := 325) dL_make_325 (by unfold I32; omega) (by decide) ?_
            refine V_goto (pc := 327) dL_make_327 (tgt := 364) rfl ?_
            refine V_iast (pc := 364) dL_make_364 hI10.2.1.1 (by omega) ?_
            refine V_ld (pc := 365) dL_make_365 (v := vr (mN m)) rfl rfl ?_
            refine V_iconst (pc := 367) dL_make_367 (by unfold I32; omega) ?_
            refine V_ld (pc := 368) dL_make_368 (v := vr (mN m)) rfl rfl ?_
            refine V_iconst (pc := 370) dL_make_370 (by unfold I32; omega) ?_
            refine V_ialdv (pc := 371) dL_make_371 (v := 100) hI10.2.1.1 (by omega) (by first | rfl | (simp only [mI_setI, up2]; repeat (first | rfl | rw [if_neg (by omega)] | rw [if_pos (by omega)]))) (fun g371 => ?_)
            refine V_if_ne (pc := 372) dL_make_372 (tgt := 379) rfl (fun _ => ?_) (fun h_ => absurd h_ (by decide))
            refine V_ld (pc := 379) dL_make_379 (v := vr (mN m)) rfl rfl ?_
            refine V_iconst (pc := 381) dL_make_381 (by unfold I32; omega) ?_
            refine V_ialdv (pc := 382) dL_make_382 (v := 100) hI10.2.1.1 (by omega) (by first | rfl | (simp only [mI_setI, up2]; repeat (first | rfl | rw [if_neg (by omega)] | rw [if_pos (by omega)]))) (fun g382 => ?_)
            refine V_iast (pc := 383) dL_make_383 hI10.2.1.1 (by omega) ?_
            refine V_ld (pc := 384) dL_make_384 (v := vr (mN m)) rfl rfl ?_
            refine V_iconst (pc := 386) dL_make_386 (by unfold I32; omega) ?_
            refine V_ld (pc := 387) dL_make_387 (v := vr SC) rfl rfl ?_
            refine V_ld (pc := 388) dL_make_388 (v := vi a) rfl rfl ?_
            refine V_iconst (pc := 389) dL_make_389 (by unfold I32; omega) ?_
            refine V_iadd (pc := 390) dL_make_390 (by unfold I32 at *; omega) ?_
            refine V_iconst (pc := 391) dL_make_391 (by unfold I32; omega) ?_
            refine V_callS (pc := 392) dL_make_392 (F' := 1) (As := [vr SC, vi (a + 5), vi 3]) (st := [vi 4, vr (mN m)]) cw_RL_17 rfl rfl (Nat.le_of_ble_eq_true rfl) (by omega) (w_pick  (setI (setI (setI (setI mm10 (mN m) 5 1) (mN m) 2 x312) (mN m) 3 100) (mN m) 3 100) (a + 5) 3   (by omega)) ?_
            rintro _ _ ⟨x392, rfl, hx392, rfl⟩ ok392 le392
            refine V_if_ne (pc := 395) dL_make_395 (tgt := 402) rfl (fun h395 => ?_) (fun h395 => ?_)
            · skip
              refine V_iconst (pc := 402) dL_make_402 (by unfold I32; omega) ?_
              refine V_iast (pc := 403) dL_make_403 hI10.2.1.1 (by omega) ?_
              refine V_mem (m' := (setI (setI (setI (setI (setI mm10 (mN m) 5 1) (mN m) 2 x312) (mN m) 3 100) (mN m) 3 100) (mN m) 4 1)) rfl ?_
              have hI29 := (((((hI10.w (k := 5) (v := 1)).w (k := 2) (v := x312)).w (k := 3) (v := 100)).w (k := 3) (v := 100)).w (k := 4) (v := 1))
              have n29 : mN (setI (setI (setI (setI (setI mm10 (mN m) 5 1) (mN m) 2 x312) (mN m) 3 100) (mN m) 3 100) (mN m) 4 1) = mN mm10 := by simp only [mN_sI]
              have z29 : mZ (setI (setI (setI (setI (setI mm10 (mN m) 5 1) (mN m) 2 x312) (mN m) 3 100) (mN m) 3 100) (mN m) 4 1) = mZ mm10 := by simp only [mZ_sI]
              generalize (setI (setI (setI (setI (setI mm10 (mN m) 5 1) (mN m) 2 x312) (mN m) 3 100) (mN m) 3 100) (mN m) 4 1) = mm29 at hI29 n29 z29 ⊢
              refine V_ls (ls' := [(2, vr tt), (5, vi 69), (6, vr (mN m))]) (by intro q_ h_; simp only [List.mem_cons, List.not_mem_nil, or_false] at h_ ⊢; rcases h_ with rfl | rfl | rfl <;> simp) ?_
              exact L_mkEnd hI29 (by omega) (by omega) (TO.rep hs rfl (show QB x312 100 1 from by unfold QB; omega) rfl (by omega) tk0) (by omega) (by omega)
            · skip
              refine V_iconst (pc := 398) dL_make_398 (by unfold I32; omega) ?_
              refine V_goto (pc := 399) dL_make_399 (tgt := 403) rfl ?_
              refine V_iast (pc := 403) dL_make_403 hI10.2.1.1 (by omega) ?_
              refine V_mem (m' := (setI (setI (setI (setI (setI mm10 (mN m) 5 1) (mN m) 2 x312) (mN m) 3 100) (mN m) 3 100) (mN m) 4 0)) rfl ?_
              have hI30 := (((((hI10.w (k := 5) (v := 1)).w (k := 2) (v := x312)).w (k := 3) (v := 100)).w (k := 3) (v := 100)).w (k := 4) (v := 0))
              have n30 : mN (setI (setI (setI (setI (setI mm10 (mN m) 5 1) (mN m) 2 x312) (mN m) 3 100) (mN m) 3 100) (mN m) 4 0) = mN mm10 := by simp only [mN_sI]
              have z30 : mZ (setI (setI (setI (setI (setI mm10 (mN m) 5 1) (mN m) 2 x312) (mN m) 3 100) (mN m) 3 100) (mN m) 4 0) = mZ mm10 := by simp only [mZ_sI]
              generalize (setI (setI (setI (setI (setI mm10 (mN m) 5 1) (mN m) 2 x312) (mN m) 3 100) (mN m) 3 100) (mN m) 4 0) = mm30 at hI30 n30 z30 ⊢
              refine V_ls (ls' := [(2, vr tt), (5, vi 69), (6, vr (mN m))]) (by intro q_ h_; simp only [List.mem_cons, List.not_mem_nil, or_false] at h_ ⊢; rcases h_ with rfl | rfl | rfl <;> simp) ?_
              exact L_mkEnd hI30 (by omega) (by omega) (TO.rep hs rfl (show QB x312 100 0 from by unfold QB; omega) rfl (by omega) tk0) (by omega) (by omega)
        · skip
          refine V_iconst (pc := 303) dL_make_303 (by unfold I32; omega) ?_
          refine V_goto (pc := 304) dL_make_304 (tgt := 315) rfl ?_
          refine V_iast (pc := 315) dL_make_315 hI10.2.1.1 (by omega) ?_
          refine V_ld (pc := 316) dL_make_316 (v := vr (mN m)) rfl rfl ?_
          refine V_iconst (pc := 318) dL_make_318 (by unfold I32; omega) ?_
          refine V_ld (pc := 319) dL_make_319 (v := vi x274) rfl rfl ?_
          refine V_iconst (pc := 321) dL_make_321 (by unfold I32; omega) ?_
          refine V_icmp_ge (pc := 322) dL_make_322 (tgt := 330) rfl (fun h322 => ?_) (fun h322 => ?_)
          · skip
            refine V_ld (pc := 330) dL_make_330 (v := vi x274) rfl rfl ?_
            refine V_iconst (pc := 332) dL_make_332 (by unfold I32; omega) ?_
            refine V_icmp_ne (pc := 333) dL_make_333 (tgt := 340) rfl (fun h333 => ?_) (fun h333 => ?_)
            · skip
              refine V_ld (pc := 340) dL_make_340 (v := vi x274) rfl rfl ?_
              refine V_iconst (pc := 342) dL_make_342 (by unfold I32; omega) ?_
              refine V_icmp_ne (pc := 343) dL_make_343 (tgt := 362) rfl (fun h343 => ?_) (fun h343 => ?_)
              · skip
                refine V_bipush (pc := 362) dL_make_362 (by unfold I32; omega) (by decide) ?_
                refine V_iast (pc := 364) dL_make_364 hI10.2.1.1 (by omega) ?_
                refine V_ld (pc := 365) dL_make_365 (v := vr (mN m)) rfl rfl ?_
                refine V_iconst (pc := 367) dL_make_367 (by unfold I32; omega) ?_
                refine V_ld (pc := 368) dL_make_368 (v := vr (mN m)) rfl rfl ?_
                refine V_iconst (pc := 370) dL_make_370 (by unfold I32; omega) ?_
                refine V_ialdv (pc := 371) dL_make_371 (v := 100) hI10.2.1.1 (by omega) (by first | rfl | (simp only [mI_setI, up2]; repeat (first | rfl | rw [if_neg (by omega)] | rw [if_pos (by omega)]))) (fun g371 => ?_)
                refine V_if_ne (pc := 372) dL_make_372 (tgt := 379) rfl (fun _ => ?_) (fun h_ => absurd h_ (by decide))
                refine V_ld (pc := 379) dL_make_379 (v := vr (mN m)) rfl rfl ?_
                refine V_iconst (pc := 381) dL_make_381 (by unfold I32; omega) ?_
                refine V_ialdv (pc := 382) dL_make_382 (v := 100) hI10.2.1.1 (by omega) (by first | rfl | (simp only [mI_setI, up2]; repeat (first | rfl | rw [if_neg (by omega)] | rw [if_pos (by omega)]))) (fun g382 => ?_)
                refine V_iast (pc := 383) dL_make_383 hI10.2.1.1 (by omega) ?_
                refine V_ld (pc := 384) dL_make_384 (v := vr (mN m)) rfl rfl ?_
                refine V_iconst (pc := 386) dL_make_386 (by unfold I32; omega) ?_
                refine V_ld (pc := 387) dL_make_387 (v := vr SC) rfl rfl ?_
                refine V_ld (pc := 388) dL_make_388 (v := vi a) rfl rfl ?_
                refine V_iconst (pc := 389) dL_make_389 (by unfold I32; omega) ?_
                refine V_iadd (pc := 390) dL_make_390 (by unfold I32 at *; omega) ?_
                refine V_iconst (pc := 391) dL_make_391 (by unfold I32; omega) ?_
                refine V_callS (pc := 392) dL_make_392 (F' := 1) (As := [vr SC, vi (a + 5), vi 3]) (st := [vi 4, vr (mN m)]) cw_RL_17 rfl rfl (Nat.le_of_ble_eq_true rfl) (by omega) (w_pick  (setI (setI (setI (setI mm10 (mN m) 5 1) (mN m) 2 1) (mN m) 3 100) (mN m) 3 100) (a + 5) 3   (by omega)) ?_
                rintro _ _ ⟨x392, rfl, hx392, rfl⟩ ok392 le392
                refine V_if_ne (pc := 395) dL_make_395 (tgt := 402) rfl (fun h395 => ?_) (fun h395 => ?_)
                · skip
                  refine V_iconst (pc := 402) dL_make_402 (by unfold I32; omega) ?_
                  refine V_iast (pc := 403) dL_make_403 hI10.2.1.1 (by omega) ?_
                  refine V_mem (m' := (setI (setI (setI (setI (setI mm10 (mN m) 5 1) (mN m) 2 1) (mN m) 3 100) (mN m) 3 100) (mN m) 4 1)) rfl ?_
                  have hI31 := (((((hI10.w (k := 5) (v := 1)).w (k := 2) (v := 1)).w (k := 3) (v := 100)).w (k := 3) (v := 100)).w (k := 4) (v := 1))
                  have n31 : mN (setI (setI (setI (setI (setI mm10 (mN m) 5 1) (mN m) 2 1) (mN m) 3 100) (mN m) 3 100) (mN m) 4 1) = mN mm10 := by simp only [mN_sI]
                  have z31 : mZ (setI (setI (setI (setI (setI mm10 (mN m) 5 1) (mN m) 2 1) (mN m) 3 100) (mN m) 3 100) (mN m) 4 1) = mZ mm10 := by simp only [mZ_sI]
                  generalize (setI (setI (setI (setI (setI mm10 (mN m) 5 1) (mN m) 2 1) (mN m) 3 100) (mN m) 3 100) (mN m) 4 1) = mm31 at hI31 n31 z31 ⊢
                  refine V_ls (ls' := [(2, vr tt), (5, vi 69), (6, vr (mN m))]) (by intro q_ h_; simp only [List.mem_cons, List.not_mem_nil, or_false] at h_ ⊢; rcases h_ with rfl | rfl | rfl <;> simp) ?_
                  exact L_mkEnd hI31 (by omega) (by omega) (TO.rep hs rfl (show QB 1 100 1 from by unfold QB; omega) rfl (by omega) tk0) (by omega) (by omega)
                · skip
                  refine V_iconst (pc := 398) dL_make_398 (by unfold I32; omega) ?_
                  refine V_goto (pc := 399) dL_make_399 (tgt := 403) rfl ?_
                  refine V_iast (pc := 403) dL_make_403 hI10.2.1.1 (by omega) ?_
                  refine V_mem (m' := (setI (setI (setI (setI (setI mm10 (mN m) 5 1) (mN m) 2 1) (mN m) 3 100) (mN m) 3 100) (mN m) 4 0)) rfl ?_
                  have hI32 := (((((hI10.w (k := 5) (v := 1)).w (k := 2) (v := 1)).w (k := 3) (v := 100)).w (k := 3) (v := 100)).w (k := 4) (v := 0))
                  have n32 : mN (setI (setI (setI (setI (setI mm10 (mN m) 5 1) (mN m) 2 1) (mN m) 3 100) (mN m) 3 100) (mN m) 4 0) = mN mm10 := by simp only [mN_sI]
                  have z32 : mZ (setI (setI (setI (setI (setI mm10 (mN m) 5 1) (mN m) 2 1) (mN m) 3 100) (mN m) 3 100) (mN m) 4 0) = mZ mm10 := by simp only [mZ_sI]
                  generalize (setI (setI (setI (setI (setI mm10 (mN m) 5 1) (mN m) 2 1) (mN m) 3 100) (mN m) 3 100) (mN m) 4 0) = mm32 at hI32 n32 z32 ⊢
                  refine V_ls (ls' := [(2, vr tt), (5, vi 69), (6, vr (mN m))]) (by intro q_ h_; simp only [List.mem_cons, List.not_mem_nil, or_false] at h_ ⊢; rcases h_ with rfl | rfl | rfl <;> simp) ?_
                  exact L_mkEnd hI32 (by omega) (by omega) (TO.rep hs rfl (show QB 1 100 0 from by unfold QB; omega) rfl (by omega) tk0) (by omega) (by omega)
              · skip
                refine V_ld (pc := 346) dL_make_346 (v := vr (mN m)) rfl rfl ?_
                refine V_iconst (pc := 348) dL_make_348 (by unfold I32; omega) ?_
                refine V_ialdv (pc := 349) dL_make_349 (v := 1) hI10.2.1.1 (by omega) (by first | rfl | (simp only [mI_setI, up2]; repeat (first | rfl | rw [if_neg (by omega)] | rw [if_pos (by omega)]))) (fun g349 => ?_)
                refine V_ld (pc := 350) dL_make_350 (v := vr SC) rfl rfl ?_
                refine V_ld (pc := 351) dL_make_351 (v := vi a) rfl rfl ?_
                refine V_iconst (pc := 352) dL_make_352 (by unfold I32; omega) ?_
                refine V_iadd (pc := 353) dL_make_353 (by unfold I32 at *; omega) ?_
                refine V_iconst (pc := 354) dL_make_354 (by unfold I32; omega) ?_
                refine V_callS (pc := 355) dL_make_355 (F' := 1) (As := [vr SC, vi (a + 4), vi 3]) (st := [vi 1, vi 3, vr (mN m)]) cw_RL_17 rfl rfl (Nat.le_of_ble_eq_true rfl) (by omega) (w_pick  (setI (setI mm10 (mN m) 5 1) (mN m) 2 1) (a + 4) 3   (by omega)) ?_
                rintro _ _ ⟨x355, rfl, hx355, rfl⟩ ok355 le355
                refine V_iadd (pc := 358) dL_make_358 (by unfold I32 at *; omega) ?_
                refine V_goto (pc := 359) dL_make_359 (tgt := 364) rfl ?_
                refine V_iast (pc := 364) dL_make_364 hI10.2.1.1 (by omega) ?_
                refine V_ld (pc := 365) dL_make_365 (v := vr (mN m)) rfl rfl ?_
                refine V_iconst (pc := 367) dL_make_367 (by unfold I32; omega) ?_
                refine V_ld (pc := 368) dL_make_368 (v := vr (mN m)) rfl rfl ?_
                refine V_iconst (pc := 370) dL_make_370 (by unfold I32; omega) ?_
                refine V_ialdv (pc := 371) dL_make_371 (v := 1 + x355) hI10.2.1.1 (by omega) (by first | rfl | (simp only [mI_setI, up2]; repeat (first | rfl | rw [if_neg (by omega)] | rw [if_pos (by omega)]))) (fun g371 => ?_)
                refine V_if_ne (pc := 372) dL_make_372 (tgt := 379) rfl (fun h372 => ?_) (fun h372 => ?_)
                · skip
                  refine V_ld (pc := 379) dL_make_379 (v := vr (mN m)) rfl rfl ?_
                  refine V_iconst (pc := 381) dL_make_381 (by unfold I32; omega) ?_
                  refine V_ialdv (pc := 382) dL_make_382 (v := 1 + x355) hI10.2.1.1 (by omega) (by first | rfl | (simp only [mI_setI, up2]; repeat (first | rfl | rw [if_neg (by omega)] | rw [if_pos (by omega)]))) (fun g382 => ?_)
                  refine V_iast (pc := 383) dL_make_383 hI10.2.1.1 (by omega) ?_
                  refine V_ld (pc := 384) dL_make_384 (v := vr (mN m)) rfl rfl ?_
                  refine V_iconst (pc := 386) dL_make_386 (by unfold I32; omega) ?_
                  refine V_ld (pc := 387) dL_make_387 (v := vr SC) rfl rfl ?_
                  refine V_ld (pc := 388) dL_make_388 (v := vi a) rfl rfl ?_
                  refine V_iconst (pc := 389) dL_make_389 (by unfold I32; omega) ?_
                  refine V_iadd (pc := 390) dL_make_390 (by unfold I32 at *; omega) ?_
                  refine V_iconst (pc := 391) dL_make_391 (by unfold I32; omega) ?_
                  refine V_callS (pc := 392) dL_make_392 (F' := 1) (As := [vr SC, vi (a + 5), vi 3]) (st := [vi 4, vr (mN m)]) cw_RL_17 rfl rfl (Nat.le_of_ble_eq_true rfl) (by omega) (w_pick  (setI (setI (setI (setI mm10 (mN m) 5 1) (mN m) 2 1) (mN m) 3 (1 + x355)) (mN m) 3 (1 + x355)) (a + 5) 3   (by omega)) ?_
                  rintro _ _ ⟨x392, rfl, hx392, rfl⟩ ok392 le392
                  refine V_if_ne (pc := 395) dL_make_395 (tgt := 402) rfl (fun h395 => ?_) (fun h395 => ?_)
                  · skip
                    refine V_iconst (pc := 402) dL_make_402 (by unfold I32; omega) ?_
                    refine V_iast (pc := 403) dL_make_403 hI10.2.1.1 (by omega) ?_
                    refine V_mem (m' := (setI (setI (setI (setI (setI mm10 (mN m) 5 1) (mN m) 2 1) (mN m) 3 (1 + x355)) (mN m) 3 (1 + x355)) (mN m) 4 1)) rfl ?_
                    have hI33 := (((((hI10.w (k := 5) (v := 1)).w (k := 2) (v := 1)).w (k := 3) (v := (1 + x355))).w (k := 3) (v := (1 + x355))).w (k := 4) (v := 1))
                    have n33 : mN (setI (setI (setI (setI (setI mm10 (mN m) 5 1) (mN m) 2 1) (mN m) 3 (1 + x355)) (mN m) 3 (1 + x355)) (mN m) 4 1) = mN mm10 := by simp only [mN_sI]
                    have z33 : mZ (setI (setI (setI (setI (setI mm10 (mN m) 5 1) (mN m) 2 1) (mN m) 3 (1 + x355)) (mN m) 3 (1 + x355)) (mN m) 4 1) = mZ mm10 := by simp only [mZ_sI]
                    generalize (setI (setI (setI (setI (setI mm10 (mN m) 5 1) (mN m) 2 1) (mN m) 3 (1 + x355)) (mN m) 3 (1 + x355)) (mN m) 4 1) = mm33 at hI33 n33 z33 ⊢
                    refine V_ls (ls' := [(2, vr tt), (5, vi 69), (6, vr (mN m))]) (by intro q_ h_; simp only [List.mem_cons, List.not_mem_nil, or_false] at h_ ⊢; rcases h_ with rfl | rfl | rfl <;> simp) ?_
                    exact L_mkEnd hI33 (by omega) (by omega) (TO.rep hs rfl (show QB 1 (1 + x355) 1 from by unfold QB; omega) rfl (by omega) tk0) (by omega) (by omega)
                  · skip
                    refine V_iconst (pc := 398) dL_make_398 (by unfold I32; omega) ?_
                    refine V_goto (pc := 399) dL_make_399 (tgt := 403) rfl ?_
                    refine V_iast (pc := 403) dL_make_403 hI10.2.1.1 (by omega) ?_
                    refine V_mem (m' := (setI (setI (setI (setI (setI mm10 (mN m) 5 1) (mN m) 2 1) (mN m) 3 (1 + x355)) (mN m) 3 (1 + x355)) (mN m) 4 0)) rfl ?_
                    have hI34 := (((((hI10.w (k := 5) (v := 1)).w (k := 2) (v := 1)).w (k := 3) (v := (1 + x355))).w (k := 3) (v := (1 + x355))).w (k := 4) (v := 0))
                    have n34 : mN (setI (setI (setI (setI (setI mm10 (mN m) 5 1) (mN m) 2 1) (mN m) 3 (1 + x355)) (mN m) 3 (1 + x355)) (mN m) 4 0) = mN mm10 := by simp only [mN_sI]
                    have z34 : mZ (setI (setI (setI (setI (setI mm10 (mN m) 5 1) (mN m) 2 1) (mN m) 3 (1 + x355)) (mN m) 3 (1 + x355)) (mN m) 4 0) = mZ mm10 := by simp only [mZ_sI]
                    generalize (setI (setI (setI (setI (setI mm10 (mN m) 5 1) (mN m) 2 1) (mN m) 3 (1 + x355)) (mN m) 3 (1 + x355)) (mN m) 4 0) = mm34 at hI34 n34 z34 ⊢
                    refine V_ls (ls' := [(2, vr tt), (5, vi 69), (6, vr (mN m))]) (by intro q_ h_; simp only [List.mem_cons, List.not_mem_nil, or_false] at h_ ⊢; rcases h_ with rfl | rfl | rfl <;> simp) ?_
                    exact L_mkEnd hI34 (by omega) (by omega) (TO.rep hs rfl (show QB 1 (1 + x355) 0 from by unfold QB; omega) rfl (by omega) tk0) (by omega) (by omega)
                · skip
                  refine V_iconst (pc := 375) dL_make_375 (by unfold I32; omega) ?_
                  refine V_goto (pc := 376) dL_make_376 (tgt := 383) rfl ?_
                  refine V_iast (pc := 383) dL_make_383 hI10.2.1.1 (by omega) ?_
                  refine V_ld (pc := 384) dL_make_384 (v := vr (mN m)) rfl rfl ?_
                  refine V_iconst (pc := 386) dL_make_386 (by unfold I32; omega) ?_
                  refine V_ld (pc := 387) dL_make_387 (v := vr SC) rfl rfl ?_
                  refine V_ld (pc := 388) dL_make_388 (v := vi a) rfl rfl ?_
                  refine V_iconst (pc := 389) dL_make_389 (by unfold I32; omega) ?_
                  refine V_iadd (pc := 390) dL_make_390 (by unfold I32 at *; omega) ?_
                  refine V_iconst (pc := 391) dL_make_391 (by unfold I32; omega) ?_
                  refine V_callS (pc := 392) dL_make_392 (F' := 1) (As := [vr SC, vi (a + 5), vi 3]) (st := [vi 4, vr (mN m)]) cw_RL_17 rfl rfl (Nat.le_of_ble_eq_true rfl) (by omega) (w_pick  (setI (setI (setI (setI mm10 (mN m) 5 1) (mN m) 2 1) (mN m) 3 (1 + x355)) (mN m) 3 1) (a + 5) 3   (by omega)) ?_
                  rintro _ _ ⟨x392, rfl, hx392, rfl⟩ ok392 le392
                  refine V_if_ne (pc := 395) dL_make_395 (tgt := 402) rfl (fun h395 => ?_) (fun h395 => ?_)
                  · skip
                    refine V_iconst (pc := 402) dL_make_402 (by unfold I32; omega) ?_
                    refine V_iast (pc := 403) dL_make_403 hI10.2.1.1 (by omega) ?_
                    refine V_mem (m' := (setI (setI (setI (setI (setI mm10 (mN m) 5 1) (mN m) 2 1) (mN m) 3 (1 + x355)) (mN m) 3 1) (mN m) 4 1)) rfl ?_
                    have hI35 := (((((hI10.w (k := 5) (v := 1)).w (k := 2) (v := 1)).w (k := 3) (v := (1 + x355))).w (k := 3) (v := 1)).w (k := 4) (v := 1))
                    have n35 : mN (setI (setI (setI (setI (setI mm10 (mN m) 5 1) (mN m) 2 1) (mN m) 3 (1 + x355)) (mN m) 3 1) (mN m) 4 1) = mN mm10 := by simp only [mN_sI]
                    have z35 : mZ (setI (setI (setI (setI (setI mm10 (mN m) 5 1) (mN m) 2 1) (mN m) 3 (1 + x355)) (mN m) 3 1) (mN m) 4 1) = mZ mm10 := by simp only [mZ_sI]
                    generalize (setI (setI (setI (setI (setI mm10 (mN m) 5 1) (mN m) 2 1) (mN m) 3 (1 + x355)) (mN m) 3 1) (mN m) 4 1) = mm35 at hI35 n35 z35 ⊢
                    refine V_ls (ls' := [(2, vr tt), (5, vi 69), (6, vr (mN m))]) (by intro q_ h_; simp only [List.mem_cons, List.not_mem_nil, or_false] at h_ ⊢; rcases h_ with rfl | rfl | rfl <;> simp) ?_
                    exact L_mkEnd hI35 (by omega) (by omega) (TO.rep hs rfl (show QB 1 1 1 from by unfold QB; omega) rfl (by omega) tk0) (by omega) (by omega)
                  · skip
                    refine V_iconst (pc := 398) dL_make_398 (by unfold I32; omega) ?_
                    refine V_goto (pc := 399) dL_make_399 (tgt := 403) rfl ?_
                    refine V_iast (pc := 403) dL_make_403 hI10.2.1.1 (by omega) ?_
                    refine V_mem (m' := (setI (setI (setI (setI (setI mm10 (mN m) 5 1) (mN m) 2 1) (mN m) 3 (1 + x355)) (mN m) 3 1) (mN m) 4 0)) rfl ?_
                    have hI36 := (((((hI10.w (k := 5) (v := 1)).w (k := 2) (v := 1)).w (k := 3) (v := (1 + x355))).w (k := 3) (v := 1)).w (k := 4) (v := 0))
                    have n36 : mN (setI (setI (setI (setI (setI mm10 (mN m) 5 1) (mN m) 2 1) (mN m) 3 (1 + x355)) (mN m) 3 1) (mN m) 4 0) = mN mm10 := by simp only [mN_sI]
                    have z36 : mZ (setI (setI (setI (setI (setI mm10 (mN m) 5 1) (mN m) 2 1) (mN m) 3 (1 + x355)) (mN m) 3 1) (mN m) 4 0) = mZ mm10 := by simp only [mZ_sI]
                    generalize (setI (setI (setI (setI (setI mm10 (mN m) 5 1) (mN m) 2 1) (mN m) 3 (1 + x355)) (mN m) 3 1) (mN m) 4 0) = mm36 at hI36 n36 z36 ⊢
                    refine V_ls (ls' := [(2, vr tt), (5, vi 69), (6, vr (mN m))]) (by intro q_ h_; simp only [List.mem_cons, List.not_mem_nil, or_false] at h_ ⊢; rcases h_ with rfl | rfl | rfl <;> simp) ?_
                    exact L_mkEnd hI36 (by omega) (by omega) (TO.rep hs rfl (show QB 1 1 0 from by unfold QB; omega) rfl (by omega) tk0) (by omega) (by omega)
            · skip
              refine V_iconst (pc := 336) dL_make_336 (by unfold I32; omega) ?_
              refine V_goto (pc := 337) dL_make_337 (tgt := 364) rfl ?_
              refine V_iast (pc := 364) dL_make_364 hI10.2.1.1 (by omega) ?_
              refine V_ld (pc := 365) dL_make_365 (v := vr (mN m)) rfl rfl ?_
              refine V_iconst (pc := 367) dL_make_367 (by unfold I32; omega) ?_
              refine V_ld (pc := 368) dL_make_368 (v := vr (mN m)) rfl rfl ?_
              refine V_iconst (pc := 370) dL_make_370 (by unfold I32; omega) ?_
              refine V_ialdv (pc := 371) dL_make_371 (v := 1) hI10.2.1.1 (by omega) (by first | rfl | (simp only [mI_setI, up2]; repeat (first | rfl | rw [if_neg (by omega)] | rw [if_pos (by omega)]))) (fun g371 => ?_)
              refine V_if_ne (pc := 372) dL_make_372 (tgt := 379) rfl (fun _ => ?_) (fun h_ => absurd h_ (by decide))
              refine V_ld (pc := 379) dL_make_379 (v := vr (mN m)) rfl rfl ?_
              refine V_iconst (pc := 381) dL_make_381 (by unfold I32; omega) ?_
              refine V_ialdv (pc := 382) dL_make_382 (v := 1) hI10.2.1.1 (by omega) (by first | rfl | (simp only [mI_setI, up2]; repeat (first | rfl | rw [if_neg (by omega)] | rw [if_pos (by omega)]))) (fun g382 => ?_)
              refine V_iast (pc := 383) dL_make_383 hI10.2.1.1 (by omega) ?_
              refine V_ld (pc := 384) dL_make_384 (v := vr (mN m)) rfl rfl ?_
              refine V_iconst (pc := 386) dL_make_386 (by unfold I32; omega) ?_
              refine V_ld (pc := 387) dL_make_387 (v := vr SC) rfl rfl ?_
              refine V_ld (pc := 388) dL_make_388 (v := vi a) rfl rfl ?_
              refine V_iconst (pc := 389) dL_make_389 (by unfold I32; omega) ?_
              refine V_iadd (pc := 390) dL_make_390 (by unfold I32 at *; omega) ?_
              refine V_iconst (pc := 391) dL_make_391 (by unfold I32; omega) ?_
              refine V_callS (pc := 392) dL_make_392 (F' := 1) (As := [vr SC, vi (a + 5), vi 3]) (st := [vi 4, vr (mN m)]) cw_RL_17 rfl rfl (Nat.le_of_ble_eq_true rfl) (by omega) (w_pick  (setI (setI (setI (setI mm10 (mN m) 5 1) (mN m) 2 1) (mN m) 3 1) (mN m) 3 1) (a + 5) 3   (by omega)) ?_
              rintro _ _ ⟨x392, rfl, hx392, rfl⟩ ok392 le392
              refine V_if_ne (pc := 395) dL_make_395 (tgt := 402) rfl (fun h395 => ?_) (fun h395 => ?_)
              · skip
                refine V_iconst (pc := 402) dL_make_402 (by unfold I32; omega) ?_
                refine V_iast (pc := 403) dL_make_403 hI10.2.1.1 (by omega) ?_
                refine V_mem (m' := (setI (setI (setI (setI (setI mm10 (mN m) 5 1) (mN m) 2 1) (mN m) 3 1) (mN m) 3 1) (mN m) 4 1)) rfl ?_
                have hI37 := (((((hI10.w (k := 5) (v := 1)).w (k := 2) (v := 1)).w (k := 3) (v := 1)).w (k := 3) (v := 1)).w (k := 4) (v := 1))
                have n37 : mN (setI (setI (setI (setI (setI mm10 (mN m) 5 1) (mN m) 2 1) (mN m) 3 1) (mN m) 3 1) (mN m) 4 1) = mN mm10 := by simp only [mN_sI]
                have z37 : mZ (setI (setI (setI (setI (setI mm10 (mN m) 5 1) (mN m) 2 1) (mN m) 3 1) (mN m) 3 1) (mN m) 4 1) = mZ mm10 := by simp only [mZ_sI]
                generalize (setI (setI (setI (setI (setI mm10 (mN m) 5 1) (mN m) 2 1) (mN m) 3 1) (mN m) 3 1) (mN m) 4 1) = mm37 at hI37 n37 z37 ⊢
                refine V_ls (ls' := [(2, vr tt), (5, vi 69), (6, vr (mN m))]) (by intro q_ h_; simp only [List.mem_cons, List.not_mem_nil, or_false] at h_ ⊢; rcases h_ with rfl | rfl | rfl <;> simp) ?_
                exact L_mkEnd hI37 (by omega) (by omega) (TO.rep hs rfl (show QB 1 1 1 from by unfold QB; omega) rfl (by omega) tk0) (by omega) (by omega)
              · skip
                refine V_iconst (pc := 398) dL_make_398 (by unfold I32; omega) ?_
                refine V_goto (pc := 399) dL_make_399 (tgt := 403) rfl ?_
                refine V_iast (pc := 403) dL_make_403 hI10.2.1.1 (by omega) ?_
                refine V_mem (m' := (setI (setI (setI (setI (setI mm10 (mN m) 5 1) (mN m) 2 1) (mN m) 3 1) (mN m) 3 1) (mN m) 4 0)) rfl ?_
                have hI38 := (((((hI10.w (k := 5) (v := 1)).w (k := 2) (v := 1)).w (k := 3) (v := 1)).w (k := 3) (v := 1)).w (k := 4) (v := 0))
                have n38 : mN (setI (setI (setI (setI (setI mm10 (mN m) 5 1) (mN m) 2 1) (mN m) 3 1) (mN m) 3 1) (mN m) 4 0) = mN mm10 := by simp only [mN_sI]
                have z38 : mZ (setI (setI (setI (setI (setI mm10 (mN m) 5 1) (mN m) 2 1) (mN m) 3 1) (mN m) 3 1) (mN m) 4 0) = mZ mm10 := by simp only [mZ_sI]
                generalize (setI (setI (setI (setI (setI mm10 (mN m) 5 1) (mN m) 2 1) (mN m) 3 1) (mN m) 3 1) (mN m) 4 0) = mm38 at hI38 n38 z38 ⊢
                refine V_ls (ls' := [(2, vr tt), (5, vi 69), (6, vr (mN m))]) (by intro q_ h_; simp only [List.mem_cons, List.not_mem_nil, or_false] at h_ ⊢; rcases h_ with rfl | rfl | rfl <;> simp) ?_
                exact L_mkEnd hI38 (by omega) (by omega) (TO.rep hs rfl (show QB 1 1 0 from by unfold QB; omega) rfl (by omega) tk0) (by omega) (by omega)
          · skip
            refine V_bipush (pc := 325) dL_make_325 (by unfold I32; omega) (by decide) ?_
            refine V_goto (pc := 327) dL_make_327 (tgt := 364) rfl ?_
            refine V_iast (pc := 364) dL_make_364 hI10.2.1.1 (by omega) ?_
            refine V_ld (pc := 365) dL_make_365 (v := vr (mN m)) rfl rfl ?_
            refine V_iconst (pc := 367) dL_make_367 (by unfold I32; omega) ?_
            refine V_ld (pc := 368) dL_make_368 (v := vr (mN m)) rfl rfl ?_
            refine V_iconst (pc := 370) dL_make_370 (by unfold I32; omega) ?_
            refine V_ialdv (pc := 371) dL_make_371 (v := 100) hI10.2.1.1 (by omega) (by first | rfl | (simp only [mI_setI, up2]; repeat (first | rfl | rw [if_neg (by omega)] | rw [if_pos (by omega)]))) (fun g371 => ?_)
            refine V_if_ne (pc := 372) dL_make_372 (tgt := 379) rfl (fun _ => ?_) (fun h_ => absurd h_ (by decide))
            refine V_ld (pc := 379) dL_make_379 (v := vr (mN m)) rfl rfl ?_
            refine V_iconst (pc := 381) dL_make_381 (by unfold I32; omega) ?_
            refine V_ialdv (pc := 382) dL_make_382 (v := 100) hI10.2.1.1 (by omega) (by first | rfl | (simp only [mI_setI, up2]; repeat (first | rfl | rw [if_neg (by omega)] | rw [if_pos (by omega)]))) (fun g382 => ?_)
            refine V_iast (pc := 383) dL_make_383 hI10.2.1.1 (by omega) ?_
            refine V_ld (pc := 384) dL_make_384 (v := vr (mN m)) rfl rfl ?_
            refine V_iconst (pc := 386) dL_make_386 (by unfold I32; omega) ?_
            refine V_ld (pc := 387) dL_make_387 (v := vr SC) rfl rfl ?_
            refine V_ld (pc := 388) dL_make_388 (v := vi a) rfl rfl ?_
            refine V_iconst (pc := 389) dL_make_389 (by unfold I32; omega) ?_
            refine V_iadd (pc := 390) dL_make_390 (by unfold I32 at *; omega) ?_
            refine V_iconst (pc := 391) dL_make_391 (by unfold I32; omega) ?_
            refine V_callS (pc := 392) dL_make_392 (F' := 1) (As := [vr SC, vi (a + 5), vi 3]) (st := [vi 4, vr (mN m)]) cw_RL_17 rfl rfl (Nat.le_of_ble_eq_true rfl) (by omega) (w_pick  (setI (setI (setI (setI mm10 (mN m) 5 1) (mN m) 2 1) (mN m) 3 100) (mN m) 3 100) (a + 5) 3   (by omega)) ?_
            rintro _ _ ⟨x392, rfl, hx392, rfl⟩ ok392 le392
            refine V_if_ne (pc := 395) dL_make_395 (tgt := 402) rfl (fun h395 => ?_) (fun h395 => ?_)
            · skip
              refine V_iconst (pc := 402) dL_make_402 (by unfold I32; omega) ?_
              refine V_iast (pc := 403) dL_make_403 hI10.2.1.1 (by omega) ?_
              refine V_mem (m' := (setI (setI (setI (setI (setI mm10 (mN m) 5 1) (mN m) 2 1) (mN m) 3 100) (mN m) 3 100) (mN m) 4 1)) rfl ?_
              have hI39 := (((((hI10.w (k := 5) (v := 1)).w (k := 2) (v := 1)).w (k := 3) (v := 100)).w (k := 3) (v := 100)).w (k := 4) (v := 1))
              have n39 : mN (setI (setI (setI (setI (setI mm10 (mN m) 5 1) (mN m) 2 1) (mN m) 3 100) (mN m) 3 100) (mN m) 4 1) = mN mm10 := by simp only [mN_sI]
              have z39 : mZ (setI (setI (setI (setI (setI mm10 (mN m) 5 1) (mN m) 2 1) (mN m) 3 100) (mN m) 3 100) (mN m) 4 1) = mZ mm10 := by simp only [mZ_sI]
              generalize (setI (setI (setI (setI (setI mm10 (mN m) 5 1) (mN m) 2 1) (mN m) 3 100) (mN m) 3 100) (mN m) 4 1) = mm39 at hI39 n39 z39 ⊢
              refine V_ls (ls' := [(2, vr tt), (5, vi 69), (6, vr (mN m))]) (by intro q_ h_; simp only [List.mem_cons, List.not_mem_nil, or_false] at h_ ⊢; rcases h_ with rfl | rfl | rfl <;> simp) ?_
              exact L_mkEnd hI39 (by omega) (by omega) (TO.rep hs rfl (show QB 1 100 1 from by unfold QB; omega) rfl (by omega) tk0) (by omega) (by omega)
            · skip
              refine V_iconst (pc := 398) dL_make_398 (by unfold I32; omega) ?_
              refine V_goto (pc := 399) dL_make_399 (tgt := 403) rfl ?_
              refine V_iast (pc := 403) dL_make_403 hI10.2.1.1 (by omega) ?_
              refine V_mem (m' := (setI (setI (setI (setI (setI mm10 (mN m) 5 1) (mN m) 2 1) (mN m) 3 100) (mN m) 3 100) (mN m) 4 0)) rfl ?_
              have hI40 := (((((hI10.w (k := 5) (v := 1)).w (k := 2) (v := 1)).w (k := 3) (v := 100)).w (k := 3) (v := 100)).w (k := 4) (v := 0))
              have n40 : mN (setI (setI (setI (setI (setI mm10 (mN m) 5 1) (mN m) 2 1) (mN m) 3 100) (mN m) 3 100) (mN m) 4 0) = mN mm10 := by simp only [mN_sI]
              have z40 : mZ (setI (setI (setI (setI (setI mm10 (mN m) 5 1) (mN m) 2 1) (mN m) 3 100) (mN m) 3 100) (mN m) 4 0) = mZ mm10 := by simp only [mZ_sI]
              generalize (setI (setI (setI (setI (setI mm10 (mN m) 5 1) (mN m) 2 1) (mN m) 3 100) (mN m) 3 100) (mN m) 4 0) = mm40 at hI40 n40 z40 ⊢
              refine V_ls (ls' := [(2, vr tt), (5, vi 69), (6, vr (mN m))]) (by intro q_ h_; simp only [List.mem_cons, List.not_mem_nil, or_false] at h_ ⊢; rcases h_ with rfl | rfl | rfl <;> simp) ?_
              exact L_mkEnd hI40 (by omega) (by omega) (TO.rep hs rfl (show QB 1 100 0 from by unfold QB; omega) rfl (by omega) tk0) (by omega) (by omega)
      · skip
        refine V_iconst (pc := 293) dL_make_293 (by unfold I32; omega) ?_
        refine V_goto (pc := 294) dL_make_294 (tgt := 315) rfl ?_
        refine V_iast (pc := 315) dL_make_315 hI10.2.1.1 (by omega) ?_
        refine V_ld (pc := 316) dL_make_316 (v := vr (mN m)) rfl rfl ?_
        refine V_iconst (pc := 318) dL_make_318 (by unfold I32; omega) ?_
        refine V_ld (pc := 319) dL_make_319 (v := vi x274) rfl rfl ?_
        refine V_iconst (pc := 321) dL_make_321 (by unfold I32; omega) ?_
        refine V_icmp_ge (pc := 322) dL_make_322 (tgt := 330) rfl (fun h322 => ?_) (fun h322 => ?_)
        · skip
          refine V_ld (pc := 330) dL_make_330 (v := vi x274) rfl rfl ?_
          refine V_iconst (pc := 332) dL_make_332 (by unfold I32; omega) ?_
          refine V_icmp_ne (pc := 333) dL_make_333 (tgt := 340) rfl (fun h333 => ?_) (fun h333 => ?_)
          · skip
            refine V_ld (pc := 340) dL_make_340 (v := vi x274) rfl rfl ?_
            refine V_iconst (pc := 342) dL_make_342 (by unfold I32; omega) ?_
            refine V_icmp_ne (pc := 343) dL_make_343 (tgt := 362) rfl (fun h343 => ?_) (fun h343 => ?_)
            · skip
              refine V_bipush (pc := 362) dL_make_362 (by unfold I32; omega) (by decide) ?_
              refine V_iast (pc := 364) dL_make_364 hI10.2.1.1 (by omega) ?_
              refine V_ld (pc := 365) dL_make_365 (v := vr (mN m)) rfl rfl ?_
              refine V_iconst (pc := 367) dL_make_367 (by unfold I32; omega) ?_
              refine V_ld (pc := 368) dL_make_368 (v := vr (mN m)) rfl rfl ?_
              refine V_iconst (pc := 370) dL_make_370 (by unfold I32; omega) ?_
              refine V_ialdv (pc := 371) dL_make_371 (v := 100) hI10.2.1.1 (by omega) (by first | rfl | (simp only [mI_setI, up2]; repeat (first | rfl | rw [if_neg (by omega)] | rw [if_pos (by omega)]))) (fun g371 => ?_)
              refine V_if_ne (pc := 372) dL_make_372 (tgt := 379) rfl (fun _ => ?_) (fun h_ => absurd h_ (by decide))
              refine V_ld (pc := 379) dL_make_379 (v := vr (mN m)) rfl rfl ?_
              refine V_iconst (pc := 381) dL_make_381 (by unfold I32; omega) ?_
              refine V_ialdv (pc := 382) dL_make_382 (v := 100) hI10.2.1.1 (by omega) (by first | rfl | (simp only [mI_setI, up2]; repeat (first | rfl | rw [if_neg (by omega)] | rw [if_pos (by omega)]))) (fun g382 => ?_)
              refine V_iast (pc := 383) dL_make_383 hI10.2.1.1 (by omega) ?_
              refine V_ld (pc := 384) dL_make_384 (v := vr (mN m)) rfl rfl ?_
              refine V_iconst (pc := 386) dL_make_386 (by unfold I32; omega) ?_
              refine V_ld (pc := 387) dL_make_387 (v := vr SC) rfl rfl ?_
              refine V_ld (pc := 388) dL_make_388 (v := vi a) rfl rfl ?_
              refine V_iconst (pc := 389) dL_make_389 (by unfold I32; omega) ?_
              refine V_iadd (pc := 390) dL_make_390 (by unfold I32 at *; omega) ?_
              refine V_iconst (pc := 391) dL_make_391 (by unfold I32; omega) ?_
              refine V_callS (pc := 392) dL_make_392 (F' := 1) (As := [vr SC, vi (a + 5), vi 3]) (st := [vi 4, vr (mN m)]) cw_RL_17 rfl rfl (Nat.le_of_ble_eq_true rfl) (by omega) (w_pick  (setI (setI (setI (setI mm10 (mN m) 5 1) (mN m) 2 0) (mN m) 3 100) (mN m) 3 100) (a + 5) 3   (by omega)) ?_
              rintro _ _ ⟨x392, rfl, hx392, rfl⟩ ok392 le392
              refine V_if_ne (pc := 395) dL_make_395 (tgt := 402) rfl (fun h395 => ?_) (fun h395 => ?_)
              · skip
                refine V_iconst (pc := 402) dL_make_402 (by unfold I32; omega) ?_
                refine V_iast (pc := 403) dL_make_403 hI10.2.1.1 (by omega) ?_
                refine V_mem (m' := (setI (setI (setI (setI (setI mm10 (mN m) 5 1) (mN m) 2 0) (mN m) 3 100) (mN m) 3 100) (mN m) 4 1)) rfl ?_
                have hI41 := (((((hI10.w (k := 5) (v := 1)).w (k := 2) (v := 0)).w (k := 3) (v := 100)).w (k := 3) (v := 100)).w (k := 4) (v := 1))
                have n41 : mN (setI (setI (setI (setI (setI mm10 (mN m) 5 1) (mN m) 2 0) (mN m) 3 100) (mN m) 3 100) (mN m) 4 1) = mN mm10 := by simp only [mN_sI]
                have z41 : mZ (setI (setI (setI (setI (setI mm10 (mN m) 5 1) (mN m) 2 0) (mN m) 3 100) (mN m) 3 100) (mN m) 4 1) = mZ mm10 := by simp only [mZ_sI]
                generalize (setI (setI (setI (setI (setI mm10 (mN m) 5 1) (mN m) 2 0) (mN m) 3 100) (mN m) 3 100) (mN m) 4 1) = mm41 at hI41 n41 z41 ⊢
                refine V_ls (ls' := [(2, vr tt), (5, vi 69), (6, vr (mN m))]) (by intro q_ h_; simp only [List.mem_cons, List.not_mem_nil, or_false] at h_ ⊢; rcases h_ with rfl | rfl | rfl <;> simp) ?_
                exact L_mkEnd hI41 (by omega) (by omega) (TO.rep hs rfl (show QB 0 100 1 from by unfold QB; omega) rfl (by omega) tk0) (by omega) (by omega)
              · skip
                refine V_iconst (pc := 398) dL_make_398 (by unfold I32; omega) ?_
                refine V_goto (pc := 399) dL_make_399 (tgt := 403) rfl ?_
                refine V_iast (pc := 403) dL_make_403 hI10.2.1.1 (by omega) ?_
                refine V_mem (m' := (setI (setI (setI (setI (setI mm10 (mN m) 5 1) (mN m) 2 0) (mN m) 3 100) (mN m) 3 100) (mN m) 4 0)) rfl ?_
                have hI42 := (((((hI10.w (k := 5) (v := 1)).w (k := 2) (v := 0)).w (k := 3) (v := 100)).w (k := 3) (v := 100)).w (k := 4) (v := 0))
                have n42 : mN (setI (setI (setI (setI (setI mm10 (mN m) 5 1) (mN m) 2 0) (mN m) 3 100) (mN m) 3 100) (mN m) 4 0) = mN mm10 := by simp only [mN_sI]
                have z42 : mZ (setI (setI (setI (setI (setI mm10 (mN m) 5 1) (mN m) 2 0) (mN m) 3 100) (mN m) 3 100) (mN m) 4 0) = mZ mm10 := by simp only [mZ_sI]
                generalize (setI (setI (setI (setI (setI mm10 (mN m) 5 1) (mN m) 2 0) (mN m) 3 100) (mN m) 3 100) (mN m) 4 0) = mm42 at hI42 n42 z42 ⊢
                refine V_ls (ls' := [(2, vr tt), (5, vi 69), (6, vr (mN m))]) (by intro q_ h_; simp only [List.mem_cons, List.not_mem_nil, or_false] at h_ ⊢; rcases h_ with rfl | rfl | rfl <;> simp) ?_
                exact L_mkEnd hI42 (by omega) (by omega) (TO.rep hs rfl (show QB 0 100 0 from by unfold QB; omega) rfl (by omega) tk0) (by omega) (by omega)
            · skip
              refine V_ld (pc := 346) dL_make_346 (v := vr (mN m)) rfl rfl ?_
              refine V_iconst (pc := 348) dL_make_348 (by unfold I32; omega) ?_
              refine V_ialdv (pc := 349) dL_make_349 (v := 0) hI10.2.1.1 (by omega) (by first | rfl | (simp only [mI_setI, up2]; repeat (first | rfl | rw [if_neg (by omega)] | rw [if_pos (by omega)]))) (fun g349 => ?_)
              refine V_ld (pc := 350) dL_make_350 (v := vr SC) rfl rfl ?_
              refine V_ld (pc := 351) dL_make_351 (v := vi a) rfl rfl ?_
              refine V_iconst (pc := 352) dL_make_352 (by unfold I32; omega) ?_
              refine V_iadd (pc := 353) dL_make_353 (by unfold I32 at *; omega) ?_
              refine V_iconst (pc := 354) dL_make_354 (by unfold I32; omega) ?_
              refine V_callS (pc := 355) dL_make_355 (F' := 1) (As := [vr SC, vi (a + 4), vi 3]) (st := [vi 0, vi 3, vr (mN m)]) cw_RL_17 rfl rfl (Nat.le_of_ble_eq_true rfl) (by omega) (w_pick  (setI (setI mm10 (mN m) 5 1) (mN m) 2 0) (a + 4) 3   (by omega)) ?_
              rintro _ _ ⟨x355, rfl, hx355, rfl⟩ ok355 le355
              refine V_iadd (pc := 358) dL_make_358 (by unfold I32 at *; omega) ?_
              refine V_goto (pc := 359) dL_make_359 (tgt := 364) rfl ?_
              refine V_iast (pc := 364) dL_make_364 hI10.2.1.1 (by omega) ?_
              refine V_ld (pc := 365) dL_make_365 (v := vr (mN m)) rfl rfl ?_
              refine V_iconst (pc := 367) dL_make_367 (by unfold I32; omega) ?_
              refine V_ld (pc := 368) dL_make_368 (v := vr (mN m)) rfl rfl ?_
              refine V_iconst (pc := 370) dL_make_370 (by unfold I32; omega) ?_
              refine V_ialdv (pc := 371) dL_make_371 (v := 0 + x355) hI10.2.1.1 (by omega) (by first | rfl | (simp only [mI_setI, up2]; repeat (first | rfl | rw [if_neg (by omega)] | rw [if_pos (by omega)]))) (fun g371 => ?_)
              refine V_if_ne (pc := 372) dL_make_372 (tgt := 379) rfl (fun h372 => ?_) (fun h372 => ?_)
              · skip
                refine V_ld (pc := 379) dL_make_379 (v := vr (mN m)) rfl rfl ?_
                refine V_iconst (pc := 381) dL_make_381 (by unfold I32; omega) ?_
                refine V_ialdv (pc := 382) dL_make_382 (v := 0 + x355) hI10.2.1.1 (by omega) (by first | rfl | (simp only [mI_setI, up2]; repeat (first | rfl | rw [if_neg (by omega)] | rw [if_pos (by omega)]))) (fun g382 => ?_)
                refine V_iast (pc := 383) dL_make_383 hI10.2.1.1 (by omega) ?_
                refine V_ld (pc := 384) dL_make_384 (v := vr (mN m)) rfl rfl ?_
                refine V_iconst (pc := 386) dL_make_386 (by unfold I32; omega) ?_
                refine V_ld (pc := 387) dL_make_387 (v := vr SC) rfl rfl ?_
                refine V_ld (pc := 388) dL_make_388 (v := vi a) rfl rfl ?_
                refine V_iconst (pc := 389) dL_make_389 (by unfold I32; omega) ?_
                refine V_iadd (pc := 390) dL_make_390 (by unfold I32 at *; omega) ?_
                refine V_iconst (pc := 391) dL_make_391 (by unfold I32; omega) ?_
                refine V_callS (pc := 392) dL_make_392 (F' := 1) (As := [vr SC, vi (a + 5), vi 3]) (st := [vi 4, vr (mN m)]) cw_RL_17 rfl rfl (Nat.le_of_ble_eq_true rfl) (by omega) (w_pick  (setI (setI (setI (setI mm10 (mN m) 5 1) (mN m) 2 0) (mN m) 3 (0 + x355)) (mN m) 3 (0 + x355)) (a + 5) 3   (by omega)) ?_
                rintro _ _ ⟨x392, rfl, hx392, rfl⟩ ok392 le392
                refine V_if_ne (pc := 395) dL_make_395 (tgt := 402) rfl (fun h395 => ?_) (fun h395 => ?_)
                · skip
                  refine V_iconst (pc := 402) dL_make_402 (by unfold I32; omega) ?_
                  refine V_iast (pc := 403) dL_make_403 hI10.2.1.1 (by omega) ?_
                  refine V_mem (m' := (setI (setI (setI (setI (setI mm10 (mN m) 5 1) (mN m) 2 0) (mN m) 3 (0 + x355)) (mN m) 3 (0 + x355)) (mN m) 4 1)) rfl ?_
                  have hI43 := (((((hI10.w (k := 5) (v := 1)).w (k := 2) (v := 0)).w (k := 3) (v := (0 + x355))).w (k := 3) (v := (0 + x355))).w (k := 4) (v := 1))
                  have n43 : mN (setI (setI (setI (setI (setI mm10 (mN m) 5 1) (mN m) 2 0) (mN m) 3 (0 + x355)) (mN m) 3 (0 + x355)) (mN m) 4 1) = mN mm10 := by simp only [mN_sI]
                  have z43 : mZ (setI (setI (setI (setI (setI mm10 (mN m) 5 1) (mN m) 2 0) (mN m) 3 (0 + x355)) (mN m) 3 (0 + x355)) (mN m) 4 1) = mZ mm10 := by simp only [mZ_sI]
                  generalize (setI (setI (setI (setI (setI mm10 (mN m) 5 1) (mN m) 2 0) (mN m) 3 (0 + x355)) (mN m) 3 (0 + x355)) (mN m) 4 1) = mm43 at hI43 n43 z43 ⊢
                  refine V_ls (ls' := [(2, vr tt), (5, vi 69), (6, vr (mN m))]) (by intro q_ h_; simp only [List.mem_cons, List.not_mem_nil, or_false] at h_ ⊢; rcases h_ with rfl | rfl | rfl <;> simp) ?_
                  exact L_mkEnd hI43 (by omega) (by omega) (TO.rep hs rfl (show QB 0 (0 + x355) 1 from by unfold QB; omega) rfl (by omega) tk0) (by omega) (by omega)
                · skip
                  refine V_iconst (pc := 398) dL_make_398 (by unfold I32; omega) ?_
                  refine V_goto (pc := 399) dL_make_399 (tgt := 403) rfl ?_
                  refine V_iast (pc := 403) dL_make_403 hI10.2.1.1 (by omega) ?_
                  refine V_mem (m' := (setI (setI (setI (setI (setI mm10 (mN m) 5 1) (mN m) 2 0) (mN m) 3 (0 + x355)) (mN m) 3 (0 + x355)) (mN m) 4 0)) rfl ?_
                  have hI44 := (((((hI10.w (k := 5) (v := 1)).w (k := 2) (v := 0)).w (k := 3) (v := (0 + x355))).w (k := 3) (v := (0 + x355))).w (k := 4) (v := 0))
                  have n44 : mN (setI (setI (setI (setI (setI mm10 (mN m) 5 1) (mN m) 2 0) (mN m) 3 (0 + x355)) (mN m) 3 (0 + x355)) (mN m) 4 0) = mN mm10 := by simp only [mN_sI]
                  have z44 : mZ (setI (setI (setI (setI (setI mm10 (mN m) 5 1) (mN m) 2 0) (mN m) 3 (0 + x355)) (mN m) 3 (0 + x355)) (mN m) 4 0) = mZ mm10 := by simp only [mZ_sI]
                  generalize (setI (setI (setI (setI (setI mm10 (mN m) 5 1) (mN m) 2 0) (mN m) 3 (0 + x355)) (mN m) 3 (0 + x355)) (mN m) 4 0) = mm44 at hI44 n44 z44 ⊢
                  refine V_ls (ls' := [(2, vr tt), (5, vi 69), (6, vr (mN m))]) (by intro q_ h_; simp only [List.mem_cons, List.not_mem_nil, or_false] at h_ ⊢; rcases h_ with rfl | rfl | rfl <;> simp) ?_
                  exact L_mkEnd hI44 (by omega) (by omega) (TO.rep hs rfl (show QB 0 (0 + x355) 0 from by unfold QB; omega) rfl (by omega) tk0) (by omega) (by omega)
              · skip
                refine V_iconst (pc := 375) dL_make_375 (by unfold I32; omega) ?_
                refine V_goto (pc := 376) dL_make_376 (tgt := 383) rfl ?_
                refine V_iast (pc := 383) dL_make_383 hI10.2.1.1 (by omega) ?_
                refine V_ld (pc := 384) dL_make_384 (v := vr (mN m)) rfl rfl ?_
                refine V_iconst (pc := 386) dL_make_386 (by unfold I32; omega) ?_
                refine V_ld (pc := 387) dL_make_387 (v := vr SC) rfl rfl ?_
                refine V_ld (pc := 388) dL_make_388 (v := vi a) rfl rfl ?_
                refine V_iconst (pc := 389) dL_make_389 (by unfold I32; omega) ?_
                refine V_iadd (pc := 390) dL_make_390 (by unfold I32 at *; omega) ?_
                refine V_iconst (pc := 391) dL_make_391 (by unfold I32; omega) ?_
                refine V_callS (pc := 392) dL_make_392 (F' := 1) (As := [vr SC, vi (a + 5), vi 3]) (st := [vi 4, vr (mN m)]) cw_RL_17 rfl rfl (Nat.le_of_ble_eq_true rfl) (by omega) (w_pick  (setI (setI (setI (setI mm10 (mN m) 5 1) (mN m) 2 0) (mN m) 3 (0 + x355)) (mN m) 3 1) (a + 5) 3   (by omega)) ?_
                rintro _ _ ⟨x392, rfl, hx392, rfl⟩ ok392 le392
                refine V_if_ne (pc := 395) dL_make_395 (tgt := 402) rfl (fun h395 => ?_) (fun h395 => ?_)
                · skip
                  refine V_iconst (pc := 402) dL_make_402 (by unfold I32; omega) ?_
                  refine V_iast (pc := 403) dL_make_403 hI10.2.1.1 (by omega) ?_
                  refine V_mem (m' := (setI (setI (setI (setI (setI mm10 (mN m) 5 1) (mN m) 2 0) (mN m) 3 (0 + x355)) (mN m) 3 1) (mN m) 4 1)) rfl ?_
                  have hI45 := (((((hI10.w (k := 5) (v := 1)).w (k := 2) (v := 0)).w (k := 3) (v := (0 + x355))).w (k := 3) (v := 1)).w (k := 4) (v := 1))
                  have n45 : mN (setI (setI (setI (setI (setI mm10 (mN m) 5 1) (mN m) 2 0) (mN m) 3 (0 + x355)) (mN m) 3 1) (mN m) 4 1) = mN mm10 := by simp only [mN_sI]
                  have z45 : mZ (setI (setI (setI (setI (setI mm10 (mN m) 5 1) (mN m) 2 0) (mN m) 3 (0 + x355)) (mN m) 3 1) (mN m) 4 1) = mZ mm10 := by simp only [mZ_sI]
                  generalize (setI (setI (setI (setI (setI mm10 (mN m) 5 1) (mN m) 2 0) (mN m) 3 (0 + x355)) (mN m) 3 1) (mN m) 4 1) = mm45 at hI45 n45 z45 ⊢
                  refine V_ls (ls' := [(2, vr tt), (5, vi 69), (6, vr (mN m))]) (by intro q_ h_; simp only [List.mem_cons, List.not_mem_nil, or_false] at h_ ⊢; rcases h_ with rfl | rfl | rfl <;> simp) ?_
                  exact L_mkEnd hI45 (by omega) (by omega) (TO.rep hs rfl (show QB 0 1 1 from by unfold QB; omega) rfl (by omega) tk0) (by omega) (by omega)
                · skip
                  refine V_iconst (pc := 398) dL_make_398 (by unfold I32; omega) ?_
                  refine V_goto (pc := 399) dL_make_399 (tgt := 403) rfl ?_
                  refine V_iast (pc := 403) dL_make_403 hI10.2.1.1 (by omega) ?_
                  refine V_mem (m' := (setI (setI (setI (setI (setI mm10 (mN m) 5 1) (mN m) 2 0) (mN m) 3 (0 + x355)) (mN m) 3 1) (mN m) 4 0)) rfl ?_
                  have hI46 := (((((hI10.w (k := 5) (v := 1)).w (k := 2) (v := 0)).w (k := 3) (v := (0 + x355))).w (k := 3) (v := 1)).w (k := 4) (v := 0))
                  have n46 : mN (setI (setI (setI (setI (setI mm10 (mN m) 5 1) (mN m) 2 0) (mN m) 3 (0 + x355)) (mN m) 3 1) (mN m) 4 0) = mN mm10 := by simp only [mN_sI]
                  have z46 : mZ (setI (setI (setI (setI (setI mm10 (mN m) 5 1) (mN m) 2 0) (mN m) 3 (0 + x355)) (mN m) 3 1) (mN m) 4 0) = mZ mm10 := by simp only [mZ_sI]
                  generalize (setI (setI (setI (setI (setI mm10 (mN m) 5 1) (mN m) 2 0) (mN m) 3 (0 + x355)) (mN m) 3 1) (mN m) 4 0) = mm46 at hI46 n46 z46 ⊢
                  refine V_ls (ls' := [(2, vr tt), (5, vi 69), (6, vr (mN m))]) (by intro q_ h_; simp only [List.mem_cons, List.not_mem_nil, or_false] at h_ ⊢; rcases h_ with rfl | rfl | rfl <;> simp) ?_
                  exact L_mkEnd hI46 (by omega) (by omega) (TO.rep hs rfl (show QB 0 1 0 from by unfold QB; omega) rfl (by omega) tk0) (by omega) (by omega)
          · skip
            refine V_iconst (pc := 336) dL_make_336 (by unfold I32; omega) ?_
            refine V_goto (pc := 337) dL_make_337 (tgt := 364) rfl ?_
            refine V_iast (pc := 364) dL_make_364 hI10.2.1.1 (by omega) ?_
            refine V_ld (pc := 365) dL_make_365 (v := vr (mN m)) rfl rfl ?_
            refine V_iconst (pc := 367) dL_make_367 (by unfold I32; omega) ?_
            refine V_ld (pc := 368) dL_make_368 (v := vr (mN m)) rfl rfl ?_
            refine V_iconst (pc := 370) dL_make_370 (by unfold I32; omega) ?_
            refine V_ialdv (pc := 371) dL_make_371 (v := 1) hI10.2.1.1 (by omega) (by first | rfl | (simp only [mI_setI, up2]; repeat (first | rfl | rw [if_neg (by omega)] | rw [if_pos (by omega)]))) (fun g371 => ?_)
            refine V_if_ne (pc := 372) dL_make_372 (tgt := 379) rfl (fun _ => ?_) (fun h_ => absurd h_ (by decide))
            refine V_ld (pc := 379) dL_make_379 (v := vr (mN m)) rfl rfl ?_
            refine V_iconst (pc := 381) dL_make_381 (by unfold I32; omega) ?_
            refine V_ialdv (pc := 382) dL_make_382 (v := 1) hI10.2.1.1 (by omega) (by first | rfl | (simp only [mI_setI, up2]; repeat (first | rfl | rw [if_neg (by omega)] | rw [if_pos (by omega)]))) (fun g382 => ?_)
            refine V_iast (pc := 383) dL_make_383 hI10.2.1.1 (by omega) ?_
            refine V_ld (pc := 384) dL_make_384 (v := vr (mN m)) rfl rfl ?_
            refine V_iconst (pc := 386) dL_make_386 (by unfold I32; omega) ?_
            refine V_ld (pc := 387) dL_make_387 (v := vr SC) rfl rfl ?_
            refine V_ld (pc := 388) dL_make_388 (v := vi a) rfl rfl ?_
            refine V_iconst (pc := 389) dL_make_389 (by unfold I32; omega) ?_
            refine V_iadd (pc := 390) dL_make_390 (by unfold I32 at *; omega) ?_
            refine V_iconst (pc := 391) dL_make_391 (by unfold I32; omega) ?_
            refine V_callS (pc := 392) dL_make_392 (F' := 1) (As := [vr SC, vi (a + 5), vi 3]) (st := [vi 4, vr (mN m)]) cw_RL_17 rfl rfl (Nat.le_of_ble_eq_true rfl) (by omega) (w_pick  (setI (setI (setI (setI mm10 (mN m) 5 1) (mN m) 2 0) (mN m) 3 1) (mN m) 3 1) (a + 5) 3   (by omega)) ?_
            rintro _ _ ⟨x392, rfl, hx392, rfl⟩ ok392 le392
            refine V_if_ne (pc := 395) dL_make_395 (tgt := 402) rfl (fun h395 => ?_) (fun h395 => ?_)
            · skip
              refine V_iconst (pc := 402) dL_make_402 (by unfold I32; omega) ?_
              refine V_iast (pc := 403) dL_make_403 hI10.2.1.1 (by omega) ?_
              refine V_mem (m' := (setI (setI (setI (setI (setI mm10 (mN m) 5 1) (mN m) 2 0) (mN m) 3 1) (mN m) 3 1) (mN m) 4 1)) rfl ?_
              have hI47 := (((((hI10.w (k := 5) (v := 1)).w (k := 2) (v := 0)).w (k := 3) (v := 1)).w (k := 3) (v := 1)).w (k := 4) (v := 1))
              have n47 : mN (setI (setI (setI (setI (setI mm10 (mN m) 5 1) (mN m) 2 0) (mN m) 3 1) (mN m) 3 1) (mN m) 4 1) = mN mm10 := by simp only [mN_sI]
              have z47 : mZ (setI (setI (setI (setI (setI mm10 (mN m) 5 1) (mN m) 2 0) (mN m) 3 1) (mN m) 3 1) (mN m) 4 1) = mZ mm10 := by simp only [mZ_sI]
              generalize (setI (setI (setI (setI (setI mm10 (mN m) 5 1) (mN m) 2 0) (mN m) 3 1) (mN m) 3 1) (mN m) 4 1) = mm47 at hI47 n47 z47 ⊢
              refine V_ls (ls' := [(2, vr tt), (5, vi 69), (6, vr (mN m))]) (by intro q_ h_; simp only [List.mem_cons, List.not_mem_nil, or_false] at h_ ⊢; rcases h_ with rfl | rfl | rfl <;> simp) ?_
              exact L_mkEnd hI47 (by omega) (by omega) (TO.rep hs rfl (show QB 0 1 1 from by unfold QB; omega) rfl (by omega) tk0) (by omega) (by omega)
            · skip
              refine V_iconst (pc := 398) dL_make_398 (by unfold I32; omega) ?_
              refine V_goto (pc := 399) dL_make_399 (tgt := 403) rfl ?_
              refine V_iast (pc := 403) dL_make_403 hI10.2.1.1 (by omega) ?_
              refine V_mem (m' := (setI (setI (setI (setI (setI mm10 (mN m) 5 1) (mN m) 2 0) (mN m) 3 1) (mN m) 3 1) (mN m) 4 0)) rfl ?_
              have hI48 := (((((hI10.w (k := 5) (v := 1)).w (k := 2) (v := 0)).w (k := 3) (v := 1)).w (k := 3) (v := 1)).w (k := 4) (v := 0))
              have n48 : mN (setI (setI (setI (setI (setI mm10 (mN m) 5 1) (mN m) 2 0) (mN m) 3 1) (mN m) 3 1) (mN m) 4 0) = mN mm10 := by simp only [mN_sI]
              have z48 : mZ (setI (setI (setI (setI (setI mm10 (mN m) 5 1) (mN m) 2 0) (mN m) 3 1) (mN m) 3 1) (mN m) 4 0) = mZ mm10 := by simp only [mZ_sI]
              generalize (setI (setI (setI (setI (setI mm10 (mN m) 5 1) (mN m) 2 0) (mN m) 3 1) (mN m) 3 1) (mN m) 4 0) = mm48 at hI48 n48 z48 ⊢
              refine V_ls (ls' := [(2, vr tt), (5, vi 69), (6, vr (mN m))]) (by intro q_ h_; simp only [List.mem_cons, List.not_mem_nil, or_false] at h_ ⊢; rcases h_ with rfl | rfl | rfl <;> simp) ?_
              exact L_mkEnd hI48 (by omega) (by omega) (TO.rep hs rfl (show QB 0 1 0 from by unfold QB; omega) rfl (by omega) tk0) (by omega) (by omega)
        · skip
          refine V_bipush (pc := 325) dL_make_325 (by unfold I32; omega) (by decide) ?_
          refine V_goto (pc := 327) dL_make_327 (tgt := 364) rfl ?_
          refine V_iast (pc := 364) dL_make_364 hI10.2.1.1 (by omega) ?_
          refine V_ld (pc := 365) dL_make_365 (v := vr (mN m)) rfl rfl ?_
          refine V_iconst (pc := 367) dL_make_367 (by unfold I32; omega) ?_
          refine V_ld (pc := 368) dL_make_368 (v := vr (mN m)) rfl rfl ?_
          refine V_iconst (pc := 370) dL_make_370 (by unfold I32; omega) ?_
          refine V_ialdv (pc := 371) dL_make_371 (v := 100) hI10.2.1.1 (by omega) (by first | rfl | (simp only [mI_setI, up2]; repeat (first | rfl | rw [if_neg (by omega)] | rw [if_pos (by omega)]))) (fun g371 => ?_)
          refine V_if_ne (pc := 372) dL_make_372 (tgt := 379) rfl (fun _ => ?_) (fun h_ => absurd h_ (by decide))
          refine V_ld (pc := 379) dL_make_379 (v := vr (mN m)) rfl rfl ?_
          refine V_iconst (pc := 381) dL_make_381 (by unfold I32; omega) ?_
          refine V_ialdv (pc := 382) dL_make_382 (v := 100) hI10.2.1.1 (by omega) (by first | rfl | (simp only [mI_setI, up2]; repeat (first | rfl | rw [if_neg (by omega)] | rw [if_pos (by omega)]))) (fun g382 => ?_)
          refine V_iast (pc := 383) dL_make_383 hI10.2.1.1 (by omega) ?_
          refine V_ld (pc := 384) dL_make_384 (v := vr (mN m)) rfl rfl ?_
          refine V_iconst (pc := 386) dL_make_386 (by unfold I32; omega) ?_
          refine V_ld (pc := 387) dL_make_387 (v := vr SC) rfl rfl ?_
          refine V_ld (pc := 388) dL_make_388 (v := vi a) rfl rfl ?_
          refine V_iconst (pc := 389) dL_make_389 (by unfold I32; omega) ?_
          refine V_iadd (pc := 390) dL_make_390 (by unfold I32 at *; omega) ?_
          refine V_iconst (pc := 391) dL_make_391 (by unfold I32; omega) ?_
          refine V_callS (pc := 392) dL_make_392 (F' := 1) (As := [vr SC, vi (a + 5), vi 3]) (st := [vi 4, vr (mN m)]) cw_RL_17 rfl rfl (Nat.le_of_ble_eq_true rfl) (by omega) (w_pick  (setI (setI (setI (setI mm10 (mN m) 5 1) (mN m) 2 0) (mN m) 3 100) (mN m) 3 100) (a + 5) 3   (by omega)) ?_
          rintro _ _ ⟨x392, rfl, hx392, rfl⟩ ok392 le392
          refine V_if_ne (pc := 395) dL_make_395 (tgt := 402) rfl (fun h395 => ?_) (fun h395 => ?_)
          · skip
            refine V_iconst (pc := 402) dL_make_402 (by unfold I32; omega) ?_
            refine V_iast (pc := 403) dL_make_403 hI10.2.1.1 (by omega) ?_
            refine V_mem (m' := (setI (setI (setI (setI (setI mm10 (mN m) 5 1) (mN m) 2 0) (mN m) 3 100) (mN m) 3 100) (mN m) 4 1)) rfl ?_
            have hI49 := (((((hI10.w (k := 5) (v := 1)).w (k := 2) (v := 0)).w (k := 3) (v := 100)).w (k := 3) (v := 100)).w (k := 4) (v := 1))
            have n49 : mN (setI (setI (setI (setI (setI mm10 (mN m) 5 1) (mN m) 2 0) (mN m) 3 100) (mN m) 3 100) (mN m) 4 1) = mN mm10 := by simp only [mN_sI]
            have z49 : mZ (setI (setI (setI (setI (setI mm10 (mN m) 5 1) (mN m) 2 0) (mN m) 3 100) (mN m) 3 100) (mN m) 4 1) = mZ mm10 := by simp only [mZ_sI]
            generalize (setI (setI (setI (setI (setI mm10 (mN m) 5 1) (mN m) 2 0) (mN m) 3 100) (mN m) 3 100) (mN m) 4 1) = mm49 at hI49 n49 z49 ⊢
            refine V_ls (ls' := [(2, vr tt), (5, vi 69), (6, vr (mN m))]) (by intro q_ h_; simp only [List.mem_cons, List.not_mem_nil, or_false] at h_ ⊢; rcases h_ with rfl | rfl | rfl <;> simp) ?_
            exact L_mkEnd hI49 (by omega) (by omega) (TO.rep hs rfl (show QB 0 100 1 from by unfold QB; omega) rfl (by omega) tk0) (by omega) (by omega)
          · skip
            refine V_iconst (pc := 398) dL_make_398 (by unfold I32; omega) ?_
            refine V_goto (pc := 399) dL_make_399 (tgt := 403) rfl ?_
            refine V_iast (pc := 403) dL_make_403 hI10.2.1.1 (by omega) ?_
            refine V_mem (m' := (setI (setI (setI (setI (setI mm10 (mN m) 5 1) (mN m) 2 0) (mN m) 3 100) (mN m) 3 100) (mN m) 4 0)) rfl ?_
            have hI50 := (((((hI10.w (k := 5) (v := 1)).w (k := 2) (v := 0)).w (k := 3) (v := 100)).w (k := 3) (v := 100)).w (k := 4) (v := 0))
            have n50 : mN (setI (setI (setI (setI (setI mm10 (mN m) 5 1) (mN m) 2 0) (mN m) 3 100) (mN m) 3 100) (mN m) 4 0) = mN mm10 := by simp only [mN_sI]
            have z50 : mZ (setI (setI (setI (setI (setI mm10 (mN m) 5 1) (mN m) 2 0) (mN m) 3 100) (mN m) 3 100) (mN m) 4 0) = mZ mm10 := by simp only [mZ_sI]
            generalize (setI (setI (setI (setI (setI mm10 (mN m) 5 1) (mN m) 2 0) (mN m) 3 100) (mN m) 3 100) (mN m) 4 0) = mm50 at hI50 n50 z50 ⊢
            refine V_ls (ls' := [(2, vr tt), (5, vi 69), (6, vr (mN m))]) (by intro q_ h_; simp only [List.mem_cons, List.not_mem_nil, or_false] at h_ ⊢; rcases h_ with rfl | rfl | rfl <;> simp) ?_
            exact L_mkEnd hI50 (by omega) (by omega) (TO.rep hs rfl (show QB 0 100 0 from by unfold QB; omega) rfl (by omega) tk0) (by omega) (by omega)

