/-! THE LAW: its body, over any script -/
def μL (L : Nat) (xs : Nat → Int) : MI := (RL, cL_law, 4, some .boolean, yL_law, some (L, xs))
theorem cmpI_self {x : Int} : cmpI x x = 0 := by
  unfold cmpI
  rw [if_neg (by omega), if_pos rfl]
def lpost : Option AV → Mem → Prop := fun r _ => r = some (vi 1)

theorem law_c0 {L : Nat} {xs : Nat → Int} {m0 : Mem} {post : Option AV → Mem → Prop} {tt : Nat} {m : Mem} {i : Int} (hi : 0 ≤ i ∧ i + 6 ≤ (L : Int) ∧ L ≤ 3072) (hI : Inv tt m) (ht : tt ≤ 512) (kx : ∀ m2, Inv (tt + 1) m2 → V (μL L xs) 2048 m0 post 1255 [(3, vi i), (2, vr 30), (1, vr 0), (0, vr SC)] [] m2) : V (μL L xs) 2048 m0 post 188 [(3, vi i), (2, vr 30), (1, vr 0), (0, vr SC)] [] m := by
  obtain ⟨P, hC, hN⟩ := op_row hI (xs (i + 1).toNat) (xs (i + 2).toNat)
  have hL := hI.1.2.1
  refine V_ld (pc := 188) dL_law_188 (v := vr 0) rfl rfl ?_
  refine V_ld (pc := 189) dL_law_189 (v := vr SC) rfl rfl ?_
  refine V_ld (pc := 190) dL_law_190 (v := vi i) rfl rfl ?_
  refine V_iconst (pc := 191) dL_law_191 (by unfold I32; omega) ?_
  refine V_iadd (pc := 192) dL_law_192 (by unfold I32; omega) ?_
  refine V_sld (pc := 193) dL_law_193 (L := L) (xs := xs) rfl ⟨by omega, by omega⟩ ?_
  refine V_ld (pc := 194) dL_law_194 (v := vr SC) rfl rfl ?_
  refine V_ld (pc := 195) dL_law_195 (v := vi i) rfl rfl ?_
  refine V_iconst (pc := 196) dL_law_196 (by unfold I32; omega) ?_
  refine V_iadd (pc := 197) dL_law_197 (by unfold I32; omega) ?_
  refine V_sld (pc := 198) dL_law_198 (L := L) (xs := xs) rfl ⟨by omega, by omega⟩ ?_
  refine V_callV (pc := 199) dL_law_199 (F' := 3) (As := [vi (xs (i + 1).toNat), vi (xs (i + 2).toNat)]) (st := []) cw_RL_13 rfl rfl hL.t0 (by decide) (Nat.le_of_ble_eq_true rfl) (by omega) hC ?_
  rintro _ m1 ⟨x, rfl, hx⟩ ok1 le1
  obtain ⟨h30, Q, hR, hE⟩ := hN x m1 hx
  refine V_ld (pc := 202) dL_law_202 (v := vr 30) rfl rfl ?_
  refine V_ld (pc := 203) dL_law_203 (v := vr SC) rfl rfl ?_
  refine V_ld (pc := 204) dL_law_204 (v := vi i) rfl rfl ?_
  refine V_iconst (pc := 205) dL_law_205 (by unfold I32; omega) ?_
  refine V_iadd (pc := 206) dL_law_206 (by unfold I32; omega) ?_
  refine V_sld (pc := 207) dL_law_207 (L := L) (xs := xs) rfl ⟨by omega, by omega⟩ ?_
  refine V_ld (pc := 208) dL_law_208 (v := vr SC) rfl rfl ?_
  refine V_ld (pc := 209) dL_law_209 (v := vi i) rfl rfl ?_
  refine V_iconst (pc := 210) dL_law_210 (by unfold I32; omega) ?_
  refine V_iadd (pc := 211) dL_law_211 (by unfold I32; omega) ?_
  refine V_sld (pc := 212) dL_law_212 (L := L) (xs := xs) rfl ⟨by omega, by omega⟩ ?_
  refine V_callV (pc := 213) dL_law_213 (F' := 3) (As := [vi (xs (i + 1).toNat), vi (xs (i + 2).toNat)]) (st := [vi x]) cw_RL_17 rfl rfl h30 (by decide) (Nat.le_of_ble_eq_true rfl) (by omega) hR ?_
  rintro _ m2 ⟨y, rfl, hy⟩ ok2 le2
  obtain ⟨e, hI2⟩ := hE y m2 hy
  exact V_icmp_eq (pc := 216) dL_law_216 (tgt := 1255) rfl (fun _ => kx m2 hI2) (fun h => absurd e.symm h)

theorem law_c1 {L : Nat} {xs : Nat → Int} {m0 : Mem} {post : Option AV → Mem → Prop} {tt : Nat} {m : Mem} {i : Int} (hi : 0 ≤ i ∧ i + 6 ≤ (L : Int) ∧ L ≤ 3072) (hI : Inv tt m) (ht : tt ≤ 512) (kx : ∀ m2, Inv (tt + 1) m2 → V (μL L xs) 2048 m0 post 1255 [(3, vi i), (2, vr 30), (1, vr 0), (0, vr SC)] [] m2) : V (μL L xs) 2048 m0 post 221 [(3, vi i), (2, vr 30), (1, vr 0), (0, vr SC)] [] m := by
  obtain ⟨P, hC, hN⟩ := op_set hI (xs (i + 1).toNat) (xs (i + 2).toNat) (xs (i + 3).toNat)
  have hL := hI.1.2.1
  refine V_ld (pc := 221) dL_law_221 (v := vr 0) rfl rfl ?_
  refine V_ld (pc := 222) dL_law_222 (v := vr SC) rfl rfl ?_
  refine V_ld (pc := 223) dL_law_223 (v := vi i) rfl rfl ?_
  refine V_iconst (pc := 224) dL_law_224 (by unfold I32; omega) ?_
  refine V_iadd (pc := 225) dL_law_225 (by unfold I32; omega) ?_
  refine V_sld (pc := 226) dL_law_226 (L := L) (xs := xs) rfl ⟨by omega, by omega⟩ ?_
  refine V_ld (pc := 227) dL_law_227 (v := vr SC) rfl rfl ?_
  refine V_ld (pc := 228) dL_law_228 (v := vi i) rfl rfl ?_
  refine V_iconst (pc := 229) dL_law_229 (by unfold I32; omega) ?_
  refine V_iadd (pc := 230) dL_law_230 (by unfold I32; omega) ?_
  refine V_sld (pc := 231) dL_law_231 (L := L) (xs := xs) rfl ⟨by omega, by omega⟩ ?_
  refine V_ld (pc := 232) dL_law_232 (v := vr SC) rfl rfl ?_
  refine V_ld (pc := 233) dL_law_233 (v := vi i) rfl rfl ?_
  refine V_iconst (pc := 234) dL_law_234 (by unfold I32; omega) ?_
  refine V_iadd (pc := 235) dL_law_235 (by unfold I32; omega) ?_
  refine V_sld (pc := 236) dL_law_236 (L := L) (xs := xs) rfl ⟨by omega, by omega⟩ ?_
  refine V_callV (pc := 237) dL_law_237 (F' := 3) (As := [vi (xs (i + 1).toNat), vi (xs (i + 2).toNat), vi (xs (i + 3).toNat)]) (st := []) cw_RL_18 rfl rfl hL.t0 (by decide) (Nat.le_of_ble_eq_true rfl) (by omega) hC ?_
  rintro _ m1 ⟨x, rfl, hx⟩ ok1 le1
  obtain ⟨h30, Q, hR, hE⟩ := hN x m1 hx
  refine V_ld (pc := 240) dL_law_240 (v := vr 30) rfl rfl ?_
  refine V_ld (pc := 241) dL_law_241 (v := vr SC) rfl rfl ?_
  refine V_ld (pc := 242) dL_law_242 (v := vi i) rfl rfl ?_
  refine V_iconst (pc := 243) dL_law_243 (by unfold I32; omega) ?_
  refine V_iadd (pc := 244) dL_law_244 (by unfold I32; omega) ?_
  refine V_sld (pc := 245) dL_law_245 (L := L) (xs := xs) rfl ⟨by omega, by omega⟩ ?_
  refine V_ld (pc := 246) dL_law_246 (v := vr SC) rfl rfl ?_
  refine V_ld (pc := 247) dL_law_247 (v := vi i) rfl rfl ?_
  refine V_iconst (pc := 248) dL_law_248 (by unfold I32; omega) ?_
  refine V_iadd (pc := 249) dL_law_249 (by unfold I32; omega) ?_
  refine V_sld (pc := 250) dL_law_250 (L := L) (xs := xs) rfl ⟨by omega, by omega⟩ ?_
  refine V_ld (pc := 251) dL_law_251 (v := vr SC) rfl rfl ?_
  refine V_ld (pc := 252) dL_law_252 (v := vi i) rfl rfl ?_
  refine V_iconst (pc := 253) dL_law_253 (by unfold I32; omega) ?_
  refine V_iadd (pc := 254) dL_law_254 (by unfold I32; omega) ?_
  refine V_sld (pc := 255) dL_law_255 (L := L) (xs := xs) rfl ⟨by omega, by omega⟩ ?_
  refine V_callV (pc := 256) dL_law_256 (F' := 3) (As := [vi (xs (i + 1).toNat), vi (xs (i + 2).toNat), vi (xs (i + 3).toNat)]) (st := [vi x]) cw_RL_22 rfl rfl h30 (by decide) (Nat.le_of_ble_eq_true rfl) (by omega) hR ?_
  rintro _ m2 ⟨y, rfl, hy⟩ ok2 le2
  obtain ⟨e, hI2⟩ := hE y m2 hy
  exact V_icmp_eq (pc := 259) dL_law_259 (tgt := 1255) rfl (fun _ => kx m2 hI2) (fun h => absurd e.symm h)

theorem law_c2 {L : Nat} {xs : Nat → Int} {m0 : Mem} {post : Option AV → Mem → Prop} {tt : Nat} {m : Mem} {i : Int} (hi : 0 ≤ i ∧ i + 6 ≤ (L : Int) ∧ L ≤ 3072) (hI : Inv tt m) (ht : tt ≤ 512) (kx : ∀ m2, Inv (tt + 1) m2 → V (μL L xs) 2048 m0 post 1255 [(3, vi i), (2, vr 30), (1, vr 0), (0, vr SC)] [] m2) : V (μL L xs) 2048 m0 post 264 [(3, vi i), (2, vr 30), (1, vr 0), (0, vr SC)] [] m := by
  obtain ⟨P, hC, hN⟩ := op_drop hI 
  have hL := hI.1.2.1
  refine V_ld (pc := 264) dL_law_264 (v := vr 0) rfl rfl ?_
  refine V_callV (pc := 265) dL_law_265 (F' := 1) (As := []) (st := []) cw_RL_23 rfl rfl hL.t0 (by decide) (Nat.le_of_ble_eq_true rfl) (by omega) hC ?_
  rintro _ m1 ⟨x, rfl, hx⟩ ok1 le1
  obtain ⟨h30, Q, hR, hE⟩ := hN x m1 hx
  refine V_ld (pc := 268) dL_law_268 (v := vr 30) rfl rfl ?_
  refine V_callV (pc := 269) dL_law_269 (F' := 2) (As := []) (st := [vi x]) cw_RL_27 rfl rfl h30 (by decide) (Nat.le_of_ble_eq_true rfl) (by omega) hR ?_
  rintro _ m2 ⟨y, rfl, hy⟩ ok2 le2
  obtain ⟨e, hI2⟩ := hE y m2 hy
  exact V_icmp_eq (pc := 272) dL_law_272 (tgt := 1255) rfl (fun _ => kx m2 hI2) (fun h => absurd e.symm h)

theorem law_c3 {L : Nat} {xs : Nat → Int} {m0 : Mem} {post : Option AV → Mem → Prop} {tt : Nat} {m : Mem} {i : Int} (hi : 0 ≤ i ∧ i + 6 ≤ (L : Int) ∧ L ≤ 3072) (hI : Inv tt m) (ht : tt ≤ 512) (kx : ∀ m2, Inv (tt + 1) m2 → V (μL L xs) 2048 m0 post 1255 [(3, vi i), (2, vr 30), (1, vr 0), (0, vr SC)] [] m2) : V (μL L xs) 2048 m0 post 277 [(3, vi i), (2, vr 30), (1, vr 0), (0, vr SC)] [] m := by
  obtain ⟨P, hC, hN⟩ := op_cell hI (xs (i + 1).toNat) (xs (i + 2).toNat)
  have hL := hI.1.2.1
  refine V_ld (pc := 277) dL_law_277 (v := vr 0) rfl rfl ?_
  refine V_ld (pc := 278) dL_law_278 (v := vr SC) rfl rfl ?_
  refine V_ld (pc := 279) dL_law_279 (v := vi i) rfl rfl ?_
  refine V_iconst (pc := 280) dL_law_280 (by unfold I32; omega) ?_
  refine V_iadd (pc := 281) dL_law_281 (by unfold I32; omega) ?_
  refine V_sld (pc := 282) dL_law_282 (L := L) (xs := xs) rfl ⟨by omega, by omega⟩ ?_
  refine V_ld (pc := 283) dL_law_283 (v := vr SC) rfl rfl ?_
  refine V_ld (pc := 284) dL_law_284 (v := vi i) rfl rfl ?_
  refine V_iconst (pc := 285) dL_law_285 (by unfold I32; omega) ?_
  refine V_iadd (pc := 286) dL_law_286 (by unfold I32; omega) ?_
  refine V_sld (pc := 287) dL_law_287 (L := L) (xs := xs) rfl ⟨by omega, by omega⟩ ?_
  refine V_callV (pc := 288) dL_law_288 (F' := 2) (As := [vi (xs (i + 1).toNat), vi (xs (i + 2).toNat)]) (st := []) cw_RL_28 rfl rfl hL.t0 (by decide) (Nat.le_of_ble_eq_true rfl) (by omega) hC ?_
  rintro _ m1 ⟨x, rfl, hx⟩ ok1 le1
  obtain ⟨h30, Q, hR, hE⟩ := hN x m1 hx
  refine V_ld (pc := 291) dL_law_291 (v := vr 30) rfl rfl ?_
  refine V_ld (pc := 292) dL_law_292 (v := vr SC) rfl rfl ?_
  refine V_ld (pc := 293) dL_law_293 (v := vi i) rfl rfl ?_
  refine V_iconst (pc := 294) dL_law_294 (by unfold I32; omega) ?_
  refine V_iadd (pc := 295) dL_law_295 (by unfold I32; omega) ?_
  refine V_sld (pc := 296) dL_law_296 (L := L) (xs := xs) rfl ⟨by omega, by omega⟩ ?_
  refine V_ld (pc := 297) dL_law_297 (v := vr SC) rfl rfl ?_
  refine V_ld (pc := 298) dL_law_298 (v := vi i) rfl rfl ?_
  refine V_iconst (pc := 299) dL_law_299 (by unfold I32; omega) ?_
  refine V_iadd (pc := 300) dL_law_300 (by unfold I32; omega) ?_
  refine V_sld (pc := 301) dL_law_301 (L := L) (xs := xs) rfl ⟨by omega, by omega⟩ ?_
  refine V_callV (pc := 302) dL_law_302 (F' := 3) (As := [vi (xs (i + 1).toNat), vi (xs (i + 2).toNat)]) (st := [vi x]) cw_RL_31 rfl rfl h30 (by decide) (Nat.le_of_ble_eq_true rfl) (by omega) hR ?_
  rintro _ m2 ⟨y, rfl, hy⟩ ok2 le2
  obtain ⟨e, hI2⟩ := hE y m2 hy
  exact V_icmp_eq (pc := 305) dL_law_305 (tgt := 1255) rfl (fun _ => kx m2 hI2) (fun h => absurd e.symm h)

theorem law_c4 {L : Nat} {xs : Nat → Int} {m0 : Mem} {post : Option AV → Mem → Prop} {tt : Nat} {m : Mem} {i : Int} (hi : 0 ≤ i ∧ i + 6 ≤ (L : Int) ∧ L ≤ 3072) (hI : Inv tt m) (ht : tt ≤ 512) (kx : ∀ m2, Inv (tt + 1) m2 → V (μL L xs) 2048 m0 post 1255 [(3, vi i), (2, vr 30), (1, vr 0), (0, vr SC)] [] m2) : V (μL L xs) 2048 m0 post 310 [(3, vi i), (2, vr 30), (1, vr 0), (0, vr SC)] [] m := by
  obtain ⟨P, hC, hN⟩ := op_feed hI (xs (i + 1).toNat)
  have hL := hI.1.2.1
  refine V_ld (pc := 310) dL_law_310 (v := vr 0) rfl rfl ?_
  refine V_ld (pc := 311) dL_law_311 (v := vr SC) rfl rfl ?_
  refine V_ld (pc := 312) dL_law_312 (v := vi i) rfl rfl ?_
  refine V_iconst (pc := 313) dL_law_313 (by unfold I32; omega) ?_
  refine V_iadd (pc := 314) dL_law_314 (by unfold I32; omega) ?_
  refine V_sld (pc := 315) dL_law_315 (L := L) (xs := xs) rfl ⟨by omega, by omega⟩ ?_
  refine V_callV (pc := 316) dL_law_316 (F' := 1) (As := [vi (xs (i + 1).toNat)]) (st := []) cw_RL_32 rfl rfl hL.t0 (by decide) (Nat.le_of_ble_eq_true rfl) (by omega) hC ?_
  rintro _ m1 ⟨x, rfl, hx⟩ ok1 le1
  obtain ⟨h30, Q, hR, hE⟩ := hN x m1 hx
  refine V_ld (pc := 319) dL_law_319 (v := vr 30) rfl rfl ?_
  refine V_ld (pc := 320) dL_law_320 (v := vr SC) rfl rfl ?_
  refine V_ld (pc := 321) dL_law_321 (v := vi i) rfl rfl ?_
  refine V_iconst (pc := 322) dL_law_322 (by unfold I32; omega) ?_
  refine V_iadd (pc := 323) dL_law_323 (by unfold I32; omega) ?_
  refine V_sld (pc := 324) dL_law_324 (L := L) (xs := xs) rfl ⟨by omega, by omega⟩ ?_
  refine V_callV (pc := 325) dL_law_325 (F' := 1) (As := [vi (xs (i + 1).toNat)]) (st := [vi x]) cw_RL_36 rfl rfl h30 (by decide) (Nat.le_of_ble_eq_true rfl) (by omega) hR ?_
  rintro _ m2 ⟨y, rfl, hy⟩ ok2 le2
  obtain ⟨e, hI2⟩ := hE y m2 hy
  exact V_icmp_eq (pc := 328) dL_law_328 (tgt := 1255) rfl (fun _ => kx m2 hI2) (fun h => absurd e.symm h)

theorem law_c5 {L : Nat} {xs : Nat → Int} {m0 : Mem} {post : Option AV → Mem → Prop} {tt : Nat} {m : Mem} {i : Int} (hi : 0 ≤ i ∧ i + 6 ≤ (L : Int) ∧ L ≤ 3072) (hI : Inv tt m) (ht : tt ≤ 512) (kx : ∀ m2, Inv (tt + 1) m2 → V (μL L xs) 2048 m0 post 1255 [(3, vi i), (2, vr 30), (1, vr 0), (0, vr SC)] [] m2) : V (μL L xs) 2048 m0 post 333 [(3, vi i), (2, vr 30), (1, vr 0), (0, vr SC)] [] m := by
  obtain ⟨P, hC, hN⟩ := op_clear hI 
  have hL := hI.1.2.1
  refine V_ld (pc := 333) dL_law_333 (v := vr 0) rfl rfl ?_
  refine V_callV (pc := 334) dL_law_334 (F' := 1) (As := []) (st := []) cw_RL_37 rfl rfl hL.t0 (by decide) (Nat.le_of_ble_eq_true rfl) (by omega) hC ?_
  rintro _ m1 ⟨x, rfl, hx⟩ ok1 le1
  obtain ⟨h30, Q, hR, hE⟩ := hN x m1 hx
  refine V_ld (pc := 337) dL_law_337 (v := vr 30) rfl rfl ?_
  refine V_callV (pc := 338) dL_law_338 (F' := 1) (As := []) (st := [vi x]) cw_RL_40 rfl rfl h30 (by decide) (Nat.le_of_ble_eq_true rfl) (by omega) hR ?_
  rintro _ m2 ⟨y, rfl, hy⟩ ok2 le2
  obtain ⟨e, hI2⟩ := hE y m2 hy
  exact V_icmp_eq (pc := 341) dL_law_341 (tgt := 1255) rfl (fun _ => kx m2 hI2) (fun h => absurd e.symm h)

theorem law_c6 {L : Nat} {xs : Nat → Int} {m0 : Mem} {post : Option AV → Mem → Prop} {tt : Nat} {m : Mem} {i : Int} (hi : 0 ≤ i ∧ i + 6 ≤ (L : Int) ∧ L ≤ 3072) (hI : Inv tt m) (ht : tt ≤ 512) (kx : ∀ m2, Inv (tt + 1) m2 → V (μL L xs) 2048 m0 post 1255 [(3, vi i), (2, vr 30), (1, vr 0), (0, vr SC)] [] m2) : V (μL L xs) 2048 m0 post 346 [(3, vi i), (2, vr 30), (1, vr 0), (0, vr SC)] [] m := by
  obtain ⟨P, hC, hN⟩ := op_pattern hI ht 
  have hL := hI.1.2.1
  refine V_ld (pc := 346) dL_law_346 (v := vr 0) rfl rfl ?_
  refine V_callV (pc := 347) dL_law_347 (F' := 34) (As := []) (st := []) cw_RL_41 rfl rfl hL.t0 (by decide) (Nat.le_of_ble_eq_true rfl) (by omega) hC ?_
  rintro _ m1 ⟨x, rfl, hx⟩ ok1 le1
  obtain ⟨h30, Q, hR, hE⟩ := hN x m1 hx
  refine V_ld (pc := 350) dL_law_350 (v := vr 30) rfl rfl ?_
  refine V_callV (pc := 351) dL_law_351 (F' := 32) (As := []) (st := [vi x]) cw_RL_44 rfl rfl h30 (by decide) (Nat.le_of_ble_eq_true rfl) (by omega) hR ?_
  rintro _ m2 ⟨y, rfl, hy⟩ ok2 le2
  obtain ⟨e, hI2⟩ := hE y m2 hy
  exact V_icmp_eq (pc := 354) dL_law_354 (tgt := 1255) rfl (fun _ => kx m2 hI2) (fun h => absurd e.symm h)

theorem law_c7 {L : Nat} {xs : Nat → Int} {m0 : Mem} {post : Option AV → Mem → Prop} {tt : Nat} {m : Mem} {i : Int} (hi : 0 ≤ i ∧ i + 6 ≤ (L : Int) ∧ L ≤ 3072) (hI : Inv tt m) (ht : tt ≤ 512) (kx : ∀ m2, Inv (tt + 1) m2 → V (μL L xs) 2048 m0 post 1255 [(3, vi i), (2, vr 30), (1, vr 0), (0, vr SC)] [] m2) : V (μL L xs) 2048 m0 post 359 [(3, vi i), (2, vr 30), (1, vr 0), (0, vr SC)] [] m := by
  obtain ⟨P, hC, hN⟩ := op_define hI ht 
  have hL := hI.1.2.1
  refine V_ld (pc := 359) dL_law_359 (v := vr 0) rfl rfl ?_
  refine V_callV (pc := 360) dL_law_360 (F' := 22) (As := []) (st := []) cw_RL_45 rfl rfl hL.t0 (by decide) (Nat.le_of_ble_eq_true rfl) (by omega) hC ?_
  rintro _ m1 ⟨x, rfl, hx⟩ ok1 le1
  obtain ⟨h30, Q, hR, hE⟩ := hN x m1 hx
  refine V_ld (pc := 363) dL_law_363 (v := vr 30) rfl rfl ?_
  refine V_callV (pc := 364) dL_law_364 (F' := 20) (As := []) (st := [vi x]) cw_RL_48 rfl rfl h30 (by decide) (Nat.le_of_ble_eq_true rfl) (by omega) hR ?_
  rintro _ m2 ⟨y, rfl, hy⟩ ok2 le2
  obtain ⟨e, hI2⟩ := hE y m2 hy
  exact V_icmp_eq (pc := 367) dL_law_367 (tgt := 1255) rfl (fun _ => kx m2 hI2) (fun h => absurd e.symm h)

theorem law_c8 {L : Nat} {xs : Nat → Int} {m0 : Mem} {post : Option AV → Mem → Prop} {tt : Nat} {m : Mem} {i : Int} (hi : 0 ≤ i ∧ i + 6 ≤ (L : Int) ∧ L ≤ 3072) (hI : Inv tt m) (ht : tt ≤ 512) (kx : ∀ m2, Inv (tt + 1) m2 → V (μL L xs) 2048 m0 post 1255 [(3, vi i), (2, vr 30), (1, vr 0), (0, vr SC)] [] m2) : V (μL L xs) 2048 m0 post 372 [(3, vi i), (2, vr 30), (1, vr 0), (0, vr SC)] [] m := by
  obtain ⟨P, hC, hN⟩ := op_part hI (xs (i + 1).toNat) (xs (i + 2).toNat)
  have hL := hI.1.2.1
  refine V_ld (pc := 372) dL_law_372 (v := vr 0) rfl rfl ?_
  refine V_ld (pc := 373) dL_law_373 (v := vr SC) rfl rfl ?_
  refine V_ld (pc := 374) dL_law_374 (v := vi i) rfl rfl ?_
  refine V_iconst (pc := 375) dL_law_375 (by unfold I32; omega) ?_
  refine V_iadd (pc := 376) dL_law_376 (by unfold I32; omega) ?_
  refine V_sld (pc := 377) dL_law_377 (L := L) (xs := xs) rfl ⟨by omega, by omega⟩ ?_
  refine V_ld (pc := 378) dL_law_378 (v := vr SC) rfl rfl ?_
  refine V_ld (pc := 379) dL_law_379 (v := vi i) rfl rfl ?_
  refine V_iconst (pc := 380) dL_law_380 (by unfold I32; omega) ?_
  refine V_iadd (pc := 381) dL_law_381 (by unfold I32; omega) ?_
  refine V_sld (pc := 382) dL_law_382 (L := L) (xs := xs) rfl ⟨by omega, by omega⟩ ?_
  refine V_callV (pc := 383) dL_law_383 (F' := 1) (As := [vi (xs (i + 1).toNat), vi (xs (i + 2).toNat)]) (st := []) cw_RL_49 rfl rfl hL.t0 (by decide) (Nat.le_of_ble_eq_true rfl) (by omega) hC ?_
  rintro _ m1 ⟨x, rfl, hx⟩ ok1 le1
  obtain ⟨h30, Q, hR, hE⟩ := hN x m1 hx
  refine V_ld (pc := 386) dL_law_386 (v := vr 30) rfl rfl ?_
  refine V_ld (pc := 387) dL_law_387 (v := vr SC) rfl rfl ?_
  refine V_ld (pc := 388) dL_law_388 (v := vi i) rfl rfl ?_
  refine V_iconst (pc := 389) dL_law_389 (by unfold I32; omega) ?_
  refine V_iadd (pc := 390) dL_law_390 (by unfold I32; omega) ?_
  refine V_sld (pc := 391) dL_law_391 (L := L) (xs := xs) rfl ⟨by omega, by omega⟩ ?_
  refine V_ld (pc := 392) dL_law_392 (v := vr SC) rfl rfl ?_
  refine V_ld (pc := 393) dL_law_393 (v := vi i) rfl rfl ?_
  refine V_iconst (pc := 394) dL_law_394 (by unfold I32; omega) ?_
  refine V_iadd (pc := 395) dL_law_395 (by unfold I32; omega) ?_
  refine V_sld (pc := 396) dL_law_396 (L := L) (xs := xs) rfl ⟨by omega, by omega⟩ ?_
  refine V_callV (pc := 397) dL_law_397 (F' := 33) (As := [vi (xs (i + 1).toNat), vi (xs (i + 2).toNat)]) (st := [vi x]) cw_RL_52 rfl rfl h30 (by decide) (Nat.le_of_ble_eq_true rfl) (by omega) hR ?_
  rintro _ m2 ⟨y, rfl, hy⟩ ok2 le2
  obtain ⟨e, hI2⟩ := hE y m2 hy
  exact V_icmp_eq (pc := 400) dL_law_400 (tgt := 1255) rfl (fun _ => kx m2 hI2) (fun h => absurd e.symm h)

theorem law_c9 {L : Nat} {xs : Nat → Int} {m0 : Mem} {post : Option AV → Mem → Prop} {tt : Nat} {m : Mem} {i : Int} (hi : 0 ≤ i ∧ i + 6 ≤ (L : Int) ∧ L ≤ 3072) (hI : Inv tt m) (ht : tt ≤ 512) (kx : ∀ m2, Inv (tt + 1) m2 → V (μL L xs) 2048 m0 post 1255 [(3, vi i), (2, vr 30), (1, vr 0), (0, vr SC)] [] m2) : V (μL L xs) 2048 m0 post 405 [(3, vi i), (2, vr 30), (1, vr 0), (0, vr SC)] [] m := by
  obtain ⟨P, hC, hN⟩ := op_spell hI 
  have hL := hI.1.2.1
  refine V_ld (pc := 405) dL_law_405 (v := vr 0) rfl rfl ?_
  refine V_callV (pc := 406) dL_law_406 (F' := 52) (As := []) (st := []) cw_RL_53 rfl rfl hL.t0 (by decide) (Nat.le_of_ble_eq_true rfl) (by omega) hC ?_
  rintro _ m1 ⟨x, rfl, hx⟩ ok1 le1
  obtain ⟨h30, Q, hR, hE⟩ := hN x m1 hx
  refine V_ld (pc := 409) dL_law_409 (v := vr 30) rfl rfl ?_
  refine V_callV (pc := 410) dL_law_410 (F' := 33) (As := []) (st := [vi x]) cw_RL_56 rfl rfl h30 (by decide) (Nat.le_of_ble_eq_true rfl) (by omega) hR ?_
  rintro _ m2 ⟨y, rfl, hy⟩ ok2 le2
  obtain ⟨e, hI2⟩ := hE y m2 hy
  exact V_icmp_eq (pc := 413) dL_law_413 (tgt := 1255) rfl (fun _ => kx m2 hI2) (fun h => absurd e.symm h)

theorem law_c10 {L : Nat} {xs : Nat → Int} {m0 : Mem} {post : Option AV → Mem → Prop} {tt : Nat} {m : Mem} {i : Int} (hi : 0 ≤ i ∧ i + 6 ≤ (L : Int) ∧ L ≤ 3072) (hI : Inv tt m) (ht : tt ≤ 512) (kx : ∀ m2, Inv (tt + 1) m2 → V (μL L xs) 2048 m0 post 1255 [(3, vi i), (2, vr 30), (1, vr 0), (0, vr SC)] [] m2) : V (μL L xs) 2048 m0 post 418 [(3, vi i), (2, vr 30), (1, vr 0), (0, vr SC)] [] m := by
  obtain ⟨P, hC, hN⟩ := op_paper hI (xs (i + 1).toNat)
  have hL := hI.1.2.1
  refine V_ld (pc := 418) dL_law_418 (v := vr 0) rfl rfl ?_
  refine V_ld (pc := 419) dL_law_419 (v := vr SC) rfl rfl ?_
  refine V_ld (pc := 420) dL_law_420 (v := vi i) rfl rfl ?_
  refine V_iconst (pc := 421) dL_law_421 (by unfold I32; omega) ?_
  refine V_iadd (pc := 422) dL_law_422 (by unfold I32; omega) ?_
  refine V_sld (pc := 423) dL_law_423 (L := L) (xs := xs) rfl ⟨by omega, by omega⟩ ?_
  refine V_callV (pc := 424) dL_law_424 (F' := 1) (As := [vi (xs (i + 1).toNat)]) (st := []) cw_RL_57 rfl rfl hL.t0 (by decide) (Nat.le_of_ble_eq_true rfl) (by omega) hC ?_
  rintro _ m1 ⟨x, rfl, hx⟩ ok1 le1
  obtain ⟨h30, Q, hR, hE⟩ := hN x m1 hx
  refine V_ld (pc := 427) dL_law_427 (v := vr 30) rfl rfl ?_
  refine V_ld (pc := 428) dL_law_428 (v := vr SC) rfl rfl ?_
  refine V_ld (pc := 429) dL_law_429 (v := vi i) rfl rfl ?_
  refine V_iconst (pc := 430) dL_law_430 (by unfold I32; omega) ?_
  refine V_iadd (pc := 431) dL_law_431 (by unfold I32; omega) ?_
  refine V_sld (pc := 432) dL_law_432 (L := L) (xs := xs) rfl ⟨by omega, by omega⟩ ?_
  refine V_callV (pc := 433) dL_law_433 (F' := 1) (As := [vi (xs (i + 1).toNat)]) (st := [vi x]) cw_RL_60 rfl rfl h30 (by decide) (Nat.le_of_ble_eq_true rfl) (by omega) hR ?_
  rintro _ m2 ⟨y, rfl, hy⟩ ok2 le2
  obtain ⟨e, hI2⟩ := hE y m2 hy
  exact V_icmp_eq (pc := 436) dL_law_436 (tgt := 1255) rfl (fun _ => kx m2 hI2) (fun h => absurd e.symm h)

theorem law_c11 {L : Nat} {xs : Nat → Int} {m0 : Mem} {post : Option AV → Mem → Prop} {tt : Nat} {m : Mem} {i : Int} (hi : 0 ≤ i ∧ i + 6 ≤ (L : Int) ∧ L ≤ 3072) (hI : Inv tt m) (ht : tt ≤ 512) (kx : ∀ m2, Inv (tt + 1) m2 → V (μL L xs) 2048 m0 post 1255 [(3, vi i), (2, vr 30), (1, vr 0), (0, vr SC)] [] m2) : V (μL L xs) 2048 m0 post 441 [(3, vi i), (2, vr 30), (1, vr 0), (0, vr SC)] [] m := by
  obtain ⟨P, hC, hN⟩ := op_mode hI (xs (i + 1).toNat) (xs (i + 2).toNat)
  have hL := hI.1.2.1
  refine V_ld (pc := 441) dL_law_441 (v := vr 0) rfl rfl ?_
  refine V_ld (pc := 442) dL_law_442 (v := vr SC) rfl rfl ?_
  refine V_ld (pc := 443) dL_law_443 (v := vi i) rfl rfl ?_
  refine V_iconst (pc := 444) dL_law_444 (by unfold I32; omega) ?_
  refine V_iadd (pc := 445) dL_law_445 (by unfold I32; omega) ?_
  refine V_sld (pc := 446) dL_law_446 (L := L) (xs := xs) rfl ⟨by omega, by omega⟩ ?_
  refine V_ld (pc := 447) dL_law_447 (v := vr SC) rfl rfl ?_
  refine V_ld (pc := 448) dL_law_448 (v := vi i) rfl rfl ?_
  refine V_iconst (pc := 449) dL_law_449 (by unfold I32; omega) ?_
  refine V_iadd (pc := 450) dL_law_450 (by unfold I32; omega) ?_
  refine V_sld (pc := 451) dL_law_451 (L := L) (xs := xs) rfl ⟨by omega, by omega⟩ ?_
  refine V_callV (pc := 452) dL_law_452 (F' := 1) (As := [vi (xs (i + 1).toNat), vi (xs (i + 2).toNat)]) (st := []) cw_RL_61 rfl rfl hL.t0 (by decide) (Nat.le_of_ble_eq_true rfl) (by omega) hC ?_
  rintro _ m1 ⟨x, rfl, hx⟩ ok1 le1
  obtain ⟨h30, Q, hR, hE⟩ := hN x m1 hx
  refine V_ld (pc := 455) dL_law_455 (v := vr 30) rfl rfl ?_
  refine V_ld (pc := 456) dL_law_456 (v := vr SC) rfl rfl ?_
  refine V_ld (pc := 457) dL_law_457 (v := vi i) rfl rfl ?_
  refine V_iconst (pc := 458) dL_law_458 (by unfold I32; omega) ?_
  refine V_iadd (pc := 459) dL_law_459 (by unfold I32; omega) ?_
  refine V_sld (pc := 460) dL_law_460 (L := L) (xs := xs) rfl ⟨by omega, by omega⟩ ?_
  refine V_ld (pc := 461) dL_law_461 (v := vr SC) rfl rfl ?_
  refine V_ld (pc := 462) dL_law_462 (v := vi i) rfl rfl ?_
  refine V_iconst (pc := 463) dL_law_463 (by unfold I32; omega) ?_
  refine V_iadd (pc := 464) dL_law_464 (by unfold I32; omega) ?_
  refine V_sld (pc := 465) dL_law_465 (L := L) (xs := xs) rfl ⟨by omega, by omega⟩ ?_
  refine V_callV (pc := 466) dL_law_466 (F' := 1) (As := [vi (xs (i + 1).toNat), vi (xs (i + 2).toNat)]) (st := [vi x]) cw_RL_64 rfl rfl h30 (by decide) (Nat.le_of_ble_eq_true rfl) (by omega) hR ?_
  rintro _ m2 ⟨y, rfl, hy⟩ ok2 le2
  obtain ⟨e, hI2⟩ := hE y m2 hy
  exact V_icmp_eq (pc := 469) dL_law_469 (tgt := 1255) rfl (fun _ => kx m2 hI2) (fun h => absurd e.symm h)

theorem law_c12 {L : Nat} {xs : Nat → Int} {m0 : Mem} {post : Option AV → Mem → Prop} {tt : Nat} {m : Mem} {i : Int} (hi : 0 ≤ i ∧ i + 6 ≤ (L : Int) ∧ L ≤ 3072) (hI : Inv tt m) (ht : tt ≤ 512) (kx : ∀ m2, Inv (tt + 1) m2 → V (μL L xs) 2048 m0 post 1255 [(3, vi i), (2, vr 30), (1, vr 0), (0, vr SC)] [] m2) : V (μL L xs) 2048 m0 post 474 [(3, vi i), (2, vr 30), (1, vr 0), (0, vr SC)] [] m := by
  obtain ⟨P, hC, hN⟩ := op_empties hI (xs (i + 1).toNat)
  have hL := hI.1.2.1
  refine V_ld (pc := 474) dL_law_474 (v := vr 0) rfl rfl ?_
  refine V_ld (pc := 475) dL_law_475 (v := vr SC) rfl rfl ?_
  refine V_ld (pc := 476) dL_law_476 (v := vi i) rfl rfl ?_
  refine V_iconst (pc := 477) dL_law_477 (by unfold I32; omega) ?_
  refine V_iadd (pc := 478) dL_law_478 (by unfold I32; omega) ?_
  refine V_sld (pc := 479) dL_law_479 (L := L) (xs := xs) rfl ⟨by omega, by omega⟩ ?_
  refine V_callV (pc := 480) dL_law_480 (F' := 0) (As := [vi (xs (i + 1).toNat)]) (st := []) cw_RL_65 rfl rfl hL.t0 (by decide) (Nat.le_of_ble_eq_true rfl) (by omega) hC ?_
  rintro _ m1 ⟨x, rfl, hx⟩ ok1 le1
  obtain ⟨h30, Q, hR, hE⟩ := hN x m1 hx
  refine V_ld (pc := 483) dL_law_483 (v := vr 30) rfl rfl ?_
  refine V_ld (pc := 484) dL_law_484 (v := vr SC) rfl rfl ?_
  refine V_ld (pc := 485) dL_law_485 (v := vi i) rfl rfl ?_
  refine V_iconst (pc := 486) dL_law_486 (by unfold I32; omega) ?_
  refine V_iadd (pc := 487) dL_law_487 (by unfold I32; omega) ?_
  refine V_sld (pc := 488) dL_law_488 (L := L) (xs := xs) rfl ⟨by omega, by omega⟩ ?_
  refine V_callV (pc := 489) dL_law_489 (F' := 1) (As := [vi (xs (i + 1).toNat)]) (st := [vi x]) cw_RL_68 rfl rfl h30 (by decide) (Nat.le_of_ble_eq_true rfl) (by omega) hR ?_
  rintro _ m2 ⟨y, rfl, hy⟩ ok2 le2
  obtain ⟨e, hI2⟩ := hE y m2 hy
  exact V_icmp_eq (pc := 492) dL_law_492 (tgt := 1255) rfl (fun _ => kx m2 hI2) (fun h => absurd e.symm h)

theorem law_c13 {L : Nat} {xs : Nat → Int} {m0 : Mem} {post : Option AV → Mem → Prop} {tt : Nat} {m : Mem} {i : Int} (hi : 0 ≤ i ∧ i + 6 ≤ (L : Int) ∧ L ≤ 3072) (hI : Inv tt m) (ht : tt ≤ 512) (kx : ∀ m2, Inv (tt + 1) m2 → V (μL L xs) 2048 m0 post 1255 [(3, vi i), (2, vr 30), (1, vr 0), (0, vr SC)] [] m2) : V (μL L xs) 2048 m0 post 497 [(3, vi i), (2, vr 30), (1, vr 0), (0, vr SC)] [] m := by
  obtain ⟨P, hC, hN⟩ := op_may hI (xs (i + 1).toNat)
  have hL := hI.1.2.1
  refine V_ld (pc := 497) dL_law_497 (v := vr 0) rfl rfl ?_
  refine V_ld (pc := 498) dL_law_498 (v := vr SC) rfl rfl ?_
  refine V_ld (pc := 499) dL_law_499 (v := vi i) rfl rfl ?_
  refine V_iconst (pc := 500) dL_law_500 (by unfold I32; omega) ?_
  refine V_iadd (pc := 501) dL_law_501 (by unfold I32; omega) ?_
  refine V_sld (pc := 502) dL_law_502 (L := L) (xs := xs) rfl ⟨by omega, by omega⟩ ?_
  refine V_callV (pc := 503) dL_law_503 (F' := 0) (As := [vi (xs (i + 1).toNat)]) (st := []) cw_RL_69 rfl rfl hL.t0 (by decide) (Nat.le_of_ble_eq_true rfl) (by omega) hC ?_
  rintro _ m1 ⟨x, rfl, hx⟩ ok1 le1
  obtain ⟨h30, Q, hR, hE⟩ := hN x m1 hx
  refine V_ld (pc := 506) dL_law_506 (v := vr 30) rfl rfl ?_
  refine V_ld (pc := 507) dL_law_507 (v := vr SC) rfl rfl ?_
  refine V_ld (pc := 508) dL_law_508 (v := vi i) rfl rfl ?_
  refine V_iconst (pc := 509) dL_law_509 (by unfold I32; omega) ?_
  refine V_iadd (pc := 510) dL_law_510 (by unfold I32; omega) ?_
  refine V_sld (pc := 511) dL_law_511 (L := L) (xs := xs) rfl ⟨by omega, by omega⟩ ?_
  refine V_callV (pc := 512) dL_law_512 (F' := 1) (As := [vi (xs (i + 1).toNat)]) (st := [vi x]) cw_RL_72 rfl rfl h30 (by decide) (Nat.le_of_ble_eq_true rfl) (by omega) hR ?_
  rintro _ m2 ⟨y, rfl, hy⟩ ok2 le2
  obtain ⟨e, hI2⟩ := hE y m2 hy
  exact V_icmp_eq (pc := 515) dL_law_515 (tgt := 1255) rfl (fun _ => kx m2 hI2) (fun h => absurd e.symm h)

theorem law_c14 {L : Nat} {xs : Nat → Int} {m0 : Mem} {post : Option AV → Mem → Prop} {tt : Nat} {m : Mem} {i : Int} (hi : 0 ≤ i ∧ i + 6 ≤ (L : Int) ∧ L ≤ 3072) (hI : Inv tt m) (ht : tt ≤ 512) (kx : ∀ m2, Inv (tt + 1) m2 → V (μL L xs) 2048 m0 post 1255 [(3, vi i), (2, vr 30), (1, vr 0), (0, vr SC)] [] m2) : V (μL L xs) 2048 m0 post 520 [(3, vi i), (2, vr 30), (1, vr 0), (0, vr SC)] [] m := by
  obtain ⟨P, hC, hN⟩ := op_holds hI (xs (i + 1).toNat) (xs (i + 2).toNat)
  have hL := hI.1.2.1
  refine V_ld (pc := 520) dL_law_520 (v := vr 0) rfl rfl ?_
  refine V_ld (pc := 521) dL_law_521 (v := vr SC) rfl rfl ?_
  refine V_ld (pc := 522) dL_law_522 (v := vi i) rfl rfl ?_
  refine V_iconst (pc := 523) dL_law_523 (by unfold I32; omega) ?_
  refine V_iadd (pc := 524) dL_law_524 (by unfold I32; omega) ?_
  refine V_sld (pc := 525) dL_law_525 (L := L) (xs := xs) rfl ⟨by omega, by omega⟩ ?_
  refine V_ld (pc := 526) dL_law_526 (v := vr SC) rfl rfl ?_
  refine V_ld (pc := 527) dL_law_527 (v := vi i) rfl rfl ?_
  refine V_iconst (pc := 528) dL_law_528 (by unfold I32; omega) ?_
  refine V_iadd (pc := 529) dL_law_529 (by unfold I32; omega) ?_
  refine V_sld (pc := 530) dL_law_530 (L := L) (xs := xs) rfl ⟨by omega, by omega⟩ ?_
  refine V_callV (pc := 531) dL_law_531 (F' := 6) (As := [vi (xs (i + 1).toNat), vi (xs (i + 2).toNat)]) (st := []) cw_RL_73 rfl rfl hL.t0 (by decide) (Nat.le_of_ble_eq_true rfl) (by omega) hC ?_
  rintro _ m1 ⟨x, rfl, hx⟩ ok1 le1
  obtain ⟨h30, Q, hR, hE⟩ := hN x m1 hx
  refine V_ld (pc := 534) dL_law_534 (v := vr 30) rfl rfl ?_
  refine V_ld (pc := 535) dL_law_535 (v := vr SC) rfl rfl ?_
  refine V_ld (pc := 536) dL_law_536 (v := vi i) rfl rfl ?_
  refine V_iconst (pc := 537) dL_law_537 (by unfold I32; omega) ?_
  refine V_iadd (pc := 538) dL_law_538 (by unfold I32; omega) ?_
  refine V_sld (pc := 539) dL_law_539 (L := L) (xs := xs) rfl ⟨by omega, by omega⟩ ?_
  refine V_ld (pc := 540) dL_law_540 (v := vr SC) rfl rfl ?_
  refine V_ld (pc := 541) dL_law_541 (v := vi i) rfl rfl ?_
  refine V_iconst (pc := 542) dL_law_542 (by unfold I32; omega) ?_
  refine V_iadd (pc := 543) dL_law_543 (by unfold I32; omega) ?_
  refine V_sld (pc := 544) dL_law_544 (L := L) (xs := xs) rfl ⟨by omega, by omega⟩ ?_
  refine V_callV (pc := 545) dL_law_545 (F' := 21) (As := [vi (xs (i + 1).toNat), vi (xs (i + 2).toNat)]) (st := [vi x]) cw_RL_76 rfl rfl h30 (by decide) (Nat.le_of_ble_eq_true rfl) (by omega) hR ?_
  rintro _ m2 ⟨y, rfl, hy⟩ ok2 le2
  obtain ⟨e, hI2⟩ := hE y m2 hy
  exact V_icmp_eq (pc := 548) dL_law_548 (tgt := 1255) rfl (fun _ => kx m2 hI2) (fun h => absurd e.symm h)

theorem law_c15 {L : Nat} {xs : Nat → Int} {m0 : Mem} {post : Option AV → Mem → Prop} {tt : Nat} {m : Mem} {i : Int} (hi : 0 ≤ i ∧ i + 6 ≤ (L : Int) ∧ L ≤ 3072) (hI : Inv tt m) (ht : tt ≤ 512) (kx : ∀ m2, Inv (tt + 1) m2 → V (μL L xs) 2048 m0 post 1255 [(3, vi i), (2, vr 30), (1, vr 0), (0, vr SC)] [] m2) : V (μL L xs) 2048 m0 post 553 [(3, vi i), (2, vr 30), (1, vr 0), (0, vr SC)] [] m := by
  obtain ⟨P, hC, hN⟩ := op_first hI ht (xs (i + 1).toNat)
  have hL := hI.1.2.1
  refine V_ld (pc := 553) dL_law_553 (v := vr 0) rfl rfl ?_
  refine V_ld (pc := 554) dL_law_554 (v := vr SC) rfl rfl ?_
  refine V_ld (pc := 555) dL_law_555 (v := vi i) rfl rfl ?_
  refine V_iconst (pc := 556) dL_law_556 (by unfold I32; omega) ?_
  refine V_iadd (pc := 557) dL_law_557 (by unfold I32; omega) ?_
  refine V_sld (pc := 558) dL_law_558 (L := L) (xs := xs) rfl ⟨by omega, by omega⟩ ?_
  refine V_callV (pc := 559) dL_law_559 (F' := 8) (As := [vi (xs (i + 1).toNat)]) (st := []) cw_RL_77 rfl rfl hL.t0 (by decide) (Nat.le_of_ble_eq_true rfl) (by omega) hC ?_
  rintro _ m1 ⟨x, rfl, hx⟩ ok1 le1
  obtain ⟨h30, Q, hR, hE⟩ := hN x m1 hx
  refine V_ld (pc := 562) dL_law_562 (v := vr 30) rfl rfl ?_
  refine V_ld (pc := 563) dL_law_563 (v := vr SC) rfl rfl ?_
  refine V_ld (pc := 564) dL_law_564 (v := vi i) rfl rfl ?_
  refine V_iconst (pc := 565) dL_law_565 (by unfold I32; omega) ?_
  refine V_iadd (pc := 566) dL_law_566 (by unfold I32; omega) ?_
  refine V_sld (pc := 567) dL_law_567 (L := L) (xs := xs) rfl ⟨by omega, by omega⟩ ?_
  refine V_callV (pc := 568) dL_law_568 (F' := 34) (As := [vi (xs (i + 1).toNat)]) (st := [vi x]) cw_RL_80 rfl rfl h30 (by decide) (Nat.le_of_ble_eq_true rfl) (by omega) hR ?_
  rintro _ m2 ⟨y, rfl, hy⟩ ok2 le2
  obtain ⟨e, hI2⟩ := hE y m2 hy
  exact V_icmp_eq (pc := 571) dL_law_571 (tgt := 1255) rfl (fun _ => kx m2 hI2) (fun h => absurd e.symm h)

theorem law_c16 {L : Nat} {xs : Nat → Int} {m0 : Mem} {post : Option AV → Mem → Prop} {tt : Nat} {m : Mem} {i : Int} (hi : 0 ≤ i ∧ i + 6 ≤ (L : Int) ∧ L ≤ 3072) (hI : Inv tt m) (ht : tt ≤ 512) (kx : ∀ m2, Inv (tt + 1) m2 → V (μL L xs) 2048 m0 post 1255 [(3, vi i), (2, vr 30), (1, vr 0), (0, vr SC)] [] m2) : V (μL L xs) 2048 m0 post 576 [(3, vi i), (2, vr 30), (1, vr 0), (0, vr SC)] [] m := by
  obtain ⟨P, hC, hN⟩ := op_tries hI ht (xs (i + 1).toNat)
  have hL := hI.1.2.1
  refine V_ld (pc := 576) dL_law_576 (v := vr 0) rfl rfl ?_
  refine V_ld (pc := 577) dL_law_577 (v := vr SC) rfl rfl ?_
  refine V_ld (pc := 578) dL_law_578 (v := vi i) rfl rfl ?_
  refine V_iconst (pc := 579) dL_law_579 (by unfold I32; omega) ?_
  refine V_iadd (pc := 580) dL_law_580 (by unfold I32; omega) ?_
  refine V_sld (pc := 581) dL_law_581 (L := L) (xs := xs) rfl ⟨by omega, by omega⟩ ?_
  refine V_callV (pc := 582) dL_law_582 (F' := 8) (As := [vi (xs (i + 1).toNat)]) (st := []) cw_RL_81 rfl rfl hL.t0 (by decide) (Nat.le_of_ble_eq_true rfl) (by omega) hC ?_
  rintro _ m1 ⟨x, rfl, hx⟩ ok1 le1
  obtain ⟨h30, Q, hR, hE⟩ := hN x m1 hx
  refine V_ld (pc := 585) dL_law_585 (v := vr 30) rfl rfl ?_
  refine V_ld (pc := 586) dL_law_586 (v := vr SC) rfl rfl ?_
  refine V_ld (pc := 587) dL_law_587 (v := vi i) rfl rfl ?_
  refine V_iconst (pc := 588) dL_law_588 (by unfold I32; omega) ?_
  refine V_iadd (pc := 589) dL_law_589 (by unfold I32; omega) ?_
  refine V_sld (pc := 590) dL_law_590 (L := L) (xs := xs) rfl ⟨by omega, by omega⟩ ?_
  refine V_callV (pc := 591) dL_law_591 (F' := 34) (As := [vi (xs (i + 1).toNat)]) (st := [vi x]) cw_RL_84 rfl rfl h30 (by decide) (Nat.le_of_ble_eq_true rfl) (by omega) hR ?_
  rintro _ m2 ⟨y, rfl, hy⟩ ok2 le2
  obtain ⟨e, hI2⟩ := hE y m2 hy
  exact V_icmp_eq (pc := 594) dL_law_594 (tgt := 1255) rfl (fun _ => kx m2 hI2) (fun h => absurd e.symm h)

theorem law_c17 {L : Nat} {xs : Nat → Int} {m0 : Mem} {post : Option AV → Mem → Prop} {tt : Nat} {m : Mem} {i : Int} (hi : 0 ≤ i ∧ i + 6 ≤ (L : Int) ∧ L ≤ 3072) (hI : Inv tt m) (ht : tt ≤ 512) (kx : ∀ m2, Inv (tt + 1) m2 → V (μL L xs) 2048 m0 post 1255 [(3, vi i), (2, vr 30), (1, vr 0), (0, vr SC)] [] m2) : V (μL L xs) 2048 m0 post 599 [(3, vi i), (2, vr 30), (1, vr 0), (0, vr SC)] [] m := by
  obtain ⟨P, hC, hN⟩ := op_way hI ht (xs (i + 1).toNat) (xs (i + 2).toNat)
  have hL := hI.1.2.1
  refine V_ld (pc := 599) dL_law_599 (v := vr 0) rfl rfl ?_
  refine V_ld (pc := 600) dL_law_600 (v := vr SC) rfl rfl ?_
  refine V_ld (pc := 601) dL_law_601 (v := vi i) rfl rfl ?_
  refine V_iconst (pc := 602) dL_law_602 (by unfold I32; omega) ?_
  refine V_iadd (pc := 603) dL_law_603 (by unfold I32; omega) ?_
  refine V_sld (pc := 604) dL_law_604 (L := L) (xs := xs) rfl ⟨by omega, by omega⟩ ?_
  refine V_ld (pc := 605) dL_law_605 (v := vr SC) rfl rfl ?_
  refine V_ld (pc := 606) dL_law_606 (v := vi i) rfl rfl ?_
  refine V_iconst (pc := 607) dL_law_607 (by unfold I32; omega) ?_
  refine V_iadd (pc := 608) dL_law_608 (by unfold I32; omega) ?_
  refine V_sld (pc := 609) dL_law_609 (L := L) (xs := xs) rfl ⟨by omega, by omega⟩ ?_
  refine V_callV (pc := 610) dL_law_610 (F' := 8) (As := [vi (xs (i + 1).toNat), vi (xs (i + 2).toNat)]) (st := []) cw_RL_85 rfl rfl hL.t0 (by decide) (Nat.le_of_ble_eq_true rfl) (by omega) hC ?_
  rintro _ m1 ⟨x, rfl, hx⟩ ok1 le1
  obtain ⟨h30, Q, hR, hE⟩ := hN x m1 hx
  refine V_ld (pc := 613) dL_law_613 (v := vr 30) rfl rfl ?_
  refine V_ld (pc := 614) dL_law_614 (v := vr SC) rfl rfl ?_
  refine V_ld (pc := 615) dL_law_615 (v := vi i) rfl rfl ?_
  refine V_iconst (pc := 616) dL_law_616 (by unfold I32; omega) ?_
  refine V_iadd (pc := 617) dL_law_617 (by unfold I32; omega) ?_
  refine V_sld (pc := 618) dL_law_618 (L := L) (xs := xs) rfl ⟨by omega, by omega⟩ ?_
  refine V_ld (pc := 619) dL_law_619 (v := vr SC) rfl rfl ?_
  refine V_ld (pc := 620) dL_law_620 (v := vi i) rfl rfl ?_
  refine V_iconst (pc := 621) dL_law_621 (by unfold I32; omega) ?_
  refine V_iadd (pc := 622) dL_law_622 (by unfold I32; omega) ?_
  refine V_sld (pc := 623) dL_law_623 (L := L) (xs := xs) rfl ⟨by omega, by omega⟩ ?_
  refine V_callV (pc := 624) dL_law_624 (F' := 34) (As := [vi (xs (i + 1).toNat), vi (xs (i + 2).toNat)]) (st := [vi x]) cw_RL_88 rfl rfl h30 (by decide) (Nat.le_of_ble_eq_true rfl) (by omega) hR ?_
  rintro _ m2 ⟨y, rfl, hy⟩ ok2 le2
  obtain ⟨e, hI2⟩ := hE y m2 hy
  exact V_icmp_eq (pc := 627) dL_law_627 (tgt := 1255) rfl (fun _ => kx m2 hI2) (fun h => absurd e.symm h)

theorem law_c18 {L : Nat} {xs : Nat → Int} {m0 : Mem} {post : Option AV → Mem → Prop} {tt : Nat} {m : Mem} {i : Int} (hi : 0 ≤ i ∧ i + 6 ≤ (L : Int) ∧ L ≤ 3072) (hI : Inv tt m) (ht : tt ≤ 512) (kx : ∀ m2, Inv (tt + 1) m2 → V (μL L xs) 2048 m0 post 1255 [(3, vi i), (2, vr 30), (1, vr 0), (0, vr SC)] [] m2) : V (μL L xs) 2048 m0 post 632 [(3, vi i), (2, vr 30), (1, vr 0), (0, vr SC)] [] m := by
  obtain ⟨P, hC, hN⟩ := op_ways hI ht (xs (i + 1).toNat)
  have hL := hI.1.2.1
  refine V_ld (pc := 632) dL_law_632 (v := vr 0) rfl rfl ?_
  refine V_ld (pc := 633) dL_law_633 (v := vr SC) rfl rfl ?_
  refine V_ld (pc := 634) dL_law_634 (v := vi i) rfl rfl ?_
  refine V_iconst (pc := 635) dL_law_635 (by unfold I32; omega) ?_
  refine V_iadd (pc := 636) dL_law_636 (by unfold I32; omega) ?_
  refine V_sld (pc := 637) dL_law_637 (L := L) (xs := xs) rfl ⟨by omega, by omega⟩ ?_
  refine V_callV (pc := 638) dL_law_638 (F' := 8) (As := [vi (xs (i + 1).toNat)]) (st := []) cw_RL_89 rfl rfl hL.t0 (by decide) (Nat.le_of_ble_eq_true rfl) (by omega) hC ?_
  rintro _ m1 ⟨x, rfl, hx⟩ ok1 le1
  obtain ⟨h30, Q, hR, hE⟩ := hN x m1 hx
  refine V_ld (pc := 641) dL_law_641 (v := vr 30) rfl rfl ?_
  refine V_ld (pc := 642) dL_law_642 (v := vr SC) rfl rfl ?_
  refine V_ld (pc := 643) dL_law_643 (v := vi i) rfl rfl ?_
  refine V_iconst (pc := 644) dL_law_644 (by unfold I32; omega) ?_
  refine V_iadd (pc := 645) dL_law_645 (by unfold I32; omega) ?_
  refine V_sld (pc := 646) dL_law_646 (L := L) (xs := xs) rfl ⟨by omega, by omega⟩ ?_
  refine V_callV (pc := 647) dL_law_647 (F' := 34) (As := [vi (xs (i + 1).toNat)]) (st := [vi x]) cw_RL_92 rfl rfl h30 (by decide) (Nat.le_of_ble_eq_true rfl) (by omega) hR ?_
  rintro _ m2 ⟨y, rfl, hy⟩ ok2 le2
  obtain ⟨e, hI2⟩ := hE y m2 hy
  exact V_icmp_eq (pc := 650) dL_law_650 (tgt := 1255) rfl (fun _ => kx m2 hI2) (fun h => absurd e.symm h)

theorem law_c19 {L : Nat} {xs : Nat → Int} {m0 : Mem} {post : Option AV → Mem → Prop} {tt : Nat} {m : Mem} {i : Int} (hi : 0 ≤ i ∧ i + 6 ≤ (L : Int) ∧ L ≤ 3072) (hI : Inv tt m) (ht : tt ≤ 512) (kx : ∀ m2, Inv (tt + 1) m2 → V (μL L xs) 2048 m0 post 1255 [(3, vi i), (2, vr 30), (1, vr 0), (0, vr SC)] [] m2) : V (μL L xs) 2048 m0 post 655 [(3, vi i), (2, vr 30), (1, vr 0), (0, vr SC)] [] m := by
  obtain ⟨P, hC, hN⟩ := op_spans hI ht (xs (i + 1).toNat) (xs (i + 2).toNat)
  have hL := hI.1.2.1
  refine V_ld (pc := 655) dL_law_655 (v := vr 0) rfl rfl ?_
  refine V_ld (pc := 656) dL_law_656 (v := vr SC) rfl rfl ?_
  refine V_ld (pc := 657) dL_law_657 (v := vi i) rfl rfl ?_
  refine V_iconst (pc := 658) dL_law_658 (by unfold I32; omega) ?_
  refine V_iadd (pc := 659) dL_law_659 (by unfold I32; omega) ?_
  refine V_sld (pc := 660) dL_law_660 (L := L) (xs := xs) rfl ⟨by omega, by omega⟩ ?_
  refine V_ld (pc := 661) dL_law_661 (v := vr SC) rfl rfl ?_
  refine V_ld (pc := 662) dL_law_662 (v := vi i) rfl rfl ?_
  refine V_iconst (pc := 663) dL_law_663 (by unfold I32; omega) ?_
  refine V_iadd (pc := 664) dL_law_664 (by unfold I32; omega) ?_
  refine V_sld (pc := 665) dL_law_665 (L := L) (xs := xs) rfl ⟨by omega, by omega⟩ ?_
  refine V_callV (pc := 666) dL_law_666 (F' := 8) (As := [vi (xs (i + 1).toNat), vi (xs (i + 2).toNat)]) (st := []) cw_RL_93 rfl rfl hL.t0 (by decide) (Nat.le_of_ble_eq_true rfl) (by omega) hC ?_
  rintro _ m1 ⟨x, rfl, hx⟩ ok1 le1
  obtain ⟨h30, Q, hR, hE⟩ := hN x m1 hx
  refine V_ld (pc := 669) dL_law_669 (v := vr 30) rfl rfl ?_
  refine V_ld (pc := 670) dL_law_670 (v := vr SC) rfl rfl ?_
  refine V_ld (pc := 671) dL_law_671 (v := vi i) rfl rfl ?_
  refine V_iconst (pc := 672) dL_law_672 (by unfold I32; omega) ?_
  refine V_iadd (pc := 673) dL_law_673 (by unfold I32; omega) ?_
  refine V_sld (pc := 674) dL_law_674 (L := L) (xs := xs) rfl ⟨by omega, by omega⟩ ?_
  refine V_ld (pc := 675) dL_law_675 (v := vr SC) rfl rfl ?_
  refine V_ld (pc := 676) dL_law_676 (v := vi i) rfl rfl ?_
  refine V_iconst (pc := 677) dL_law_677 (by unfold I32; omega) ?_
  refine V_iadd (pc := 678) dL_law_678 (by unfold I32; omega) ?_
  refine V_sld (pc := 679) dL_law_679 (L := L) (xs := xs) rfl ⟨by omega, by omega⟩ ?_
  refine V_callV (pc := 680) dL_law_680 (F' := 34) (As := [vi (xs (i + 1).toNat), vi (xs (i + 2).toNat)]) (st := [vi x]) cw_RL_96 rfl rfl h30 (by decide) (Nat.le_of_ble_eq_true rfl) (by omega) hR ?_
  rintro _ m2 ⟨y, rfl, hy⟩ ok2 le2
  obtain ⟨e, hI2⟩ := hE y m2 hy
  exact V_icmp_eq (pc := 683) dL_law_683 (tgt := 1255) rfl (fun _ => kx m2 hI2) (fun h => absurd e.symm h)

theorem law_c20 {L : Nat} {xs : Nat → Int} {m0 : Mem} {post : Option AV → Mem → Prop} {tt : Nat} {m : Mem} {i : Int} (hi : 0 ≤ i ∧ i + 6 ≤ (L : Int) ∧ L ≤ 3072) (hI : Inv tt m) (ht : tt ≤ 512) (kx : ∀ m2, Inv (tt + 1) m2 → V (μL L xs) 2048 m0 post 1255 [(3, vi i), (2, vr 30), (1, vr 0), (0, vr SC)] [] m2) : V (μL L xs) 2048 m0 post 688 [(3, vi i), (2, vr 30), (1, vr 0), (0, vr SC)] [] m := by
  obtain ⟨P, hC, hN⟩ := op_fits hI ht (xs (i + 1).toNat) (xs (i + 2).toNat)
  have hL := hI.1.2.1
  refine V_ld (pc := 688) dL_law_688 (v := vr 0) rfl rfl ?_
  refine V_ld (pc := 689) dL_law_689 (v := vr SC) rfl rfl ?_
  refine V_ld (pc := 690) dL_law_690 (v := vi i) rfl rfl ?_
  refine V_iconst (pc := 691) dL_law_691 (by unfold I32; omega) ?_
  refine V_iadd (pc := 692) dL_law_692 (by unfold I32; omega) ?_
  refine V_sld (pc := 693) dL_law_693 (L := L) (xs := xs) rfl ⟨by omega, by omega⟩ ?_
  refine V_ld (pc := 694) dL_law_694 (v := vr SC) rfl rfl ?_
  refine V_ld (pc := 695) dL_law_695 (v := vi i) rfl rfl ?_
  refine V_iconst (pc := 696) dL_law_696 (by unfold I32; omega) ?_
  refine V_iadd (pc := 697) dL_law_697 (by unfold I32; omega) ?_
  refine V_sld (pc := 698) dL_law_698 (L := L) (xs := xs) rfl ⟨by omega, by omega⟩ ?_
  refine V_callV (pc := 699) dL_law_699 (F' := 8) (As := [vi (xs (i + 1).toNat), vi (xs (i + 2).toNat)]) (st := []) cw_RL_97 rfl rfl hL.t0 (by decide) (Nat.le_of_ble_eq_true rfl) (by omega) hC ?_
  rintro _ m1 ⟨x, rfl, hx⟩ ok1 le1
  obtain ⟨h30, Q, hR, hE⟩ := hN x m1 hx
  refine V_ld (pc := 702) dL_law_702 (v := vr 30) rfl rfl ?_
  refine V_ld (pc := 703) dL_law_703 (v := vr SC) rfl rfl ?_
  refine V_ld (pc := 704) dL_law_704 (v := vi i) rfl rfl ?_
  refine V_iconst (pc := 705) dL_law_705 (by unfold I32; omega) ?_
  refine V_iadd (pc := 706) dL_law_706 (by unfold I32; omega) ?_
  refine V_sld (pc := 707) dL_law_707 (L := L) (xs := xs) rfl ⟨by omega, by omega⟩ ?_
  refine V_ld (pc := 708) dL_law_708 (v := vr SC) rfl rfl ?_
  refine V_ld (pc := 709) dL_law_709 (v := vi i) rfl rfl ?_
  refine V_iconst (pc := 710) dL_law_710 (by unfold I32; omega) ?_
  refine V_iadd (pc := 711) dL_law_711 (by unfold I32; omega) ?_
  refine V_sld (pc := 712) dL_law_712 (L := L) (xs := xs) rfl ⟨by omega, by omega⟩ ?_
  refine V_callV (pc := 713) dL_law_713 (F' := 34) (As := [vi (xs (i + 1).toNat), vi (xs (i + 2).toNat)]) (st := [vi x]) cw_RL_100 rfl rfl h30 (by decide) (Nat.le_of_ble_eq_true rfl) (by omega) hR ?_
  rintro _ m2 ⟨y, rfl, hy⟩ ok2 le2
  obtain ⟨e, hI2⟩ := hE y m2 hy
  exact V_icmp_eq (pc := 716) dL_law_716 (tgt := 1255) rfl (fun _ => kx m2 hI2) (fun h => absurd e.symm h)

theorem law_c21 {L : Nat} {xs : Nat → Int} {m0 : Mem} {post : Option AV → Mem → Prop} {tt : Nat} {m : Mem} {i : Int} (hi : 0 ≤ i ∧ i + 6 ≤ (L : Int) ∧ L ≤ 3072) (hI : Inv tt m) (ht : tt ≤ 512) (kx : ∀ m2, Inv (tt + 1) m2 → V (μL L xs) 2048 m0 post 1255 [(3, vi i), (2, vr 30), (1, vr 0), (0, vr SC)] [] m2) : V (μL L xs) 2048 m0 post 721 [(3, vi i), (2, vr 30), (1, vr 0), (0, vr SC)] [] m := by
  obtain ⟨P, hC, hN⟩ := op_run hI ht 
  have hL := hI.1.2.1
  refine V_ld (pc := 721) dL_law_721 (v := vr 0) rfl rfl ?_
  refine V_callV (pc := 722) dL_law_722 (F' := 9) (As := []) (st := []) cw_RL_101 rfl rfl hL.t0 (by decide) (Nat.le_of_ble_eq_true rfl) (by omega) hC ?_
  rintro _ m1 ⟨x, rfl, hx⟩ ok1 le1
  obtain ⟨h30, Q, hR, hE⟩ := hN x m1 hx
  refine V_ld (pc := 725) dL_law_725 (v := vr 30) rfl rfl ?_
  refine V_callV (pc := 726) dL_law_726 (F' := 35) (As := []) (st := [vi x]) cw_RL_104 rfl rfl h30 (by decide) (Nat.le_of_ble_eq_true rfl) (by omega) hR ?_
  rintro _ m2 ⟨y, rfl, hy⟩ ok2 le2
  obtain ⟨e, hI2⟩ := hE y m2 hy
  exact V_icmp_eq (pc := 729) dL_law_729 (tgt := 1255) rfl (fun _ => kx m2 hI2) (fun h => absurd e.symm h)

theorem law_c22 {L : Nat} {xs : Nat → Int} {m0 : Mem} {post : Option AV → Mem → Prop} {tt : Nat} {m : Mem} {i : Int} (hi : 0 ≤ i ∧ i + 6 ≤ (L : Int) ∧ L ≤ 3072) (hI : Inv tt m) (ht : tt ≤ 512) (kx : ∀ m2, Inv (tt + 1) m2 → V (μL L xs) 2048 m0 post 1255 [(3, vi i), (2, vr 30), (1, vr 0), (0, vr SC)] [] m2) : V (μL L xs) 2048 m0 post 734 [(3, vi i), (2, vr 30), (1, vr 0), (0, vr SC)] [] m := by
  obtain ⟨P, hC, hN⟩ := op_match hI (xs (i + 1).toNat) (xs (i + 2).toNat)
  have hL := hI.1.2.1
  refine V_ld (pc := 734) dL_law_734 (v := vr 0) rfl rfl ?_
  refine V_ld (pc := 735) dL_law_735 (v := vr SC) rfl rfl ?_
  refine V_ld (pc := 736) dL_law_736 (v := vi i) rfl rfl ?_
  refine V_iconst (pc := 737) dL_law_737 (by unfold I32; omega) ?_
  refine V_iadd (pc := 738) dL_law_738 (by unfold I32; omega) ?_
  refine V_sld (pc := 739) dL_law_739 (L := L) (xs := xs) rfl ⟨by omega, by omega⟩ ?_
  refine V_ld (pc := 740) dL_law_740 (v := vr SC) rfl rfl ?_
  refine V_ld (pc := 741) dL_law_741 (v := vi i) rfl rfl ?_
  refine V_iconst (pc := 742) dL_law_742 (by unfold I32; omega) ?_
  refine V_iadd (pc := 743) dL_law_743 (by unfold I32; omega) ?_
  refine V_sld (pc := 744) dL_law_744 (L := L) (xs := xs) rfl ⟨by omega, by omega⟩ ?_
  refine V_callV (pc := 745) dL_law_745 (F' := 4) (As := [vi (xs (i + 1).toNat), vi (xs (i + 2).toNat)]) (st := []) cw_RL_105 rfl rfl hL.t0 (by decide) (Nat.le_of_ble_eq_true rfl) (by omega) hC ?_
  rintro _ m1 ⟨x, rfl, hx⟩ ok1 le1
  obtain ⟨h30, Q, hR, hE⟩ := hN x m1 hx
  refine V_ld (pc := 748) dL_law_748 (v := vr 30) rfl rfl ?_
  refine V_ld (pc := 749) dL_law_749 (v := vr SC) rfl rfl ?_
  refine V_ld (pc := 750) dL_law_750 (v := vi i) rfl rfl ?_
  refine V_iconst (pc := 751) dL_law_751 (by unfold I32; omega) ?_
  refine V_iadd (pc := 752) dL_law_752 (by unfold I32; omega) ?_
  refine V_sld (pc := 753) dL_law_753 (L := L) (xs := xs) rfl ⟨by omega, by omega⟩ ?_
  refine V_ld (pc := 754) dL_law_754 (v := vr SC) rfl rfl ?_
  refine V_ld (pc := 755) dL_law_755 (v := vi i) rfl rfl ?_
  refine V_iconst (pc := 756) dL_law_756 (by unfold I32; omega) ?_
  refine V_iadd (pc := 757) dL_law_757 (by unfold I32; omega) ?_
  refine V_sld (pc := 758) dL_law_758 (L := L) (xs := xs) rfl ⟨by omega, by omega⟩ ?_
  refine V_callV (pc := 759) dL_law_759 (F' := 2) (As := [vi (xs (i + 1).toNat), vi (xs (i + 2).toNat)]) (st := [vi x]) cw_RL_108 rfl rfl h30 (by decide) (Nat.le_of_ble_eq_true rfl) (by omega) hR ?_
  rintro _ m2 ⟨y, rfl, hy⟩ ok2 le2
  obtain ⟨e, hI2⟩ := hE y m2 hy
  exact V_icmp_eq (pc := 762) dL_law_762 (tgt := 1255) rfl (fun _ => kx m2 hI2) (fun h => absurd e.symm h)

theorem law_c23 {L : Nat} {xs : Nat → Int} {m0 : Mem} {post : Option AV → Mem → Prop} {tt : Nat} {m : Mem} {i : Int} (hi : 0 ≤ i ∧ i + 6 ≤ (L : Int) ∧ L ≤ 3072) (hI : Inv tt m) (ht : tt ≤ 512) (kx : ∀ m2, Inv (tt + 1) m2 → V (μL L xs) 2048 m0 post 1255 [(3, vi i), (2, vr 30), (1, vr 0), (0, vr SC)] [] m2) : V (μL L xs) 2048 m0 post 767 [(3, vi i), (2, vr 30), (1, vr 0), (0, vr SC)] [] m := by
  obtain ⟨P, hC, hN⟩ := op_label hI (xs (i + 1).toNat) (xs (i + 2).toNat)
  have hL := hI.1.2.1
  refine V_ld (pc := 767) dL_law_767 (v := vr 0) rfl rfl ?_
  refine V_ld (pc := 768) dL_law_768 (v := vr SC) rfl rfl ?_
  refine V_ld (pc := 769) dL_law_769 (v := vi i) rfl rfl ?_
  refine V_iconst (pc := 770) dL_law_770 (by unfold I32; omega) ?_
  refine V_iadd (pc := 771) dL_law_771 (by unfold I32; omega) ?_
  refine V_sld (pc := 772) dL_law_772 (L := L) (xs := xs) rfl ⟨by omega, by omega⟩ ?_
  refine V_ld (pc := 773) dL_law_773 (v := vr SC) rfl rfl ?_
  refine V_ld (pc := 774) dL_law_774 (v := vi i) rfl rfl ?_
  refine V_iconst (pc := 775) dL_law_775 (by unfold I32; omega) ?_
  refine V_iadd (pc := 776) dL_law_776 (by unfold I32; omega) ?_
  refine V_sld (pc := 777) dL_law_777 (L := L) (xs := xs) rfl ⟨by omega, by omega⟩ ?_
  refine V_callV (pc := 778) dL_law_778 (F' := 4) (As := [vi (xs (i + 1).toNat), vi (xs (i + 2).toNat)]) (st := []) cw_RL_109 rfl rfl hL.t0 (by decide) (Nat.le_of_ble_eq_true rfl) (by omega) hC ?_
  rintro _ m1 ⟨x, rfl, hx⟩ ok1 le1
  obtain ⟨h30, Q, hR, hE⟩ := hN x m1 hx
  refine V_ld (pc := 781) dL_law_781 (v := vr 30) rfl rfl ?_
  refine V_ld (pc := 782) dL_law_782 (v := vr SC) rfl rfl ?_
  refine V_ld (pc := 783) dL_law_783 (v := vi i) rfl rfl ?_
  refine V_iconst (pc := 784) dL_law_784 (by unfold I32; omega) ?_
  refine V_iadd (pc := 785) dL_law_785 (by unfold I32; omega) ?_
  refine V_sld (pc := 786) dL_law_786 (L := L) (xs := xs) rfl ⟨by omega, by omega⟩ ?_
  refine V_ld (pc := 787) dL_law_787 (v := vr SC) rfl rfl ?_
  refine V_ld (pc := 788) dL_law_788 (v := vi i) rfl rfl ?_
  refine V_iconst (pc := 789) dL_law_789 (by unfold I32; omega) ?_
  refine V_iadd (pc := 790) dL_law_790 (by unfold I32; omega) ?_
  refine V_sld (pc := 791) dL_law_791 (L := L) (xs := xs) rfl ⟨by omega, by omega⟩ ?_
  refine V_callV (pc := 792) dL_law_792 (F' := 2) (As := [vi (xs (i + 1).toNat), vi (xs (i + 2).toNat)]) (st := [vi x]) cw_RL_112 rfl rfl h30 (by decide) (Nat.le_of_ble_eq_true rfl) (by omega) hR ?_
  rintro _ m2 ⟨y, rfl, hy⟩ ok2 le2
  obtain ⟨e, hI2⟩ := hE y m2 hy
  exact V_icmp_eq (pc := 795) dL_law_795 (tgt := 1255) rfl (fun _ => kx m2 hI2) (fun h => absurd e.symm h)

theorem law_c24 {L : Nat} {xs : Nat → Int} {m0 : Mem} {post : Option AV → Mem → Prop} {tt : Nat} {m : Mem} {i : Int} (hi : 0 ≤ i ∧ i + 6 ≤ (L : Int) ∧ L ≤ 3072) (hI : Inv tt m) (ht : tt ≤ 512) (kx : ∀ m2, Inv (tt + 1) m2 → V (μL L xs) 2048 m0 post 1255 [(3, vi i), (2, vr 30), (1, vr 0), (0, vr SC)] [] m2) : V (μL L xs) 2048 m0 post 800 [(3, vi i), (2, vr 30), (1, vr 0), (0, vr SC)] [] m := by
  obtain ⟨P, hC, hN⟩ := op_measure hI (xs (i + 1).toNat) (xs (i + 2).toNat) (xs (i + 3).toNat) (xs (i + 4).toNat)
  have hL := hI.1.2.1
  refine V_ld (pc := 800) dL_law_800 (v := vr 0) rfl rfl ?_
  refine V_ld (pc := 801) dL_law_801 (v := vr SC) rfl rfl ?_
  refine V_ld (pc := 802) dL_law_802 (v := vi i) rfl rfl ?_
  refine V_iconst (pc := 803) dL_law_803 (by unfold I32; omega) ?_
  refine V_iadd (pc := 804) dL_law_804 (by unfold I32; omega) ?_
  refine V_sld (pc := 805) dL_law_805 (L := L) (xs := xs) rfl ⟨by omega, by omega⟩ ?_
  refine V_ld (pc := 806) dL_law_806 (v := vr SC) rfl rfl ?_
  refine V_ld (pc := 807) dL_law_807 (v := vi i) rfl rfl ?_
  refine V_iconst (pc := 808) dL_law_808 (by unfold I32; omega) ?_
  refine V_iadd (pc := 809) dL_law_809 (by unfold I32; omega) ?_
  refine V_sld (pc := 810) dL_law_810 (L := L) (xs := xs) rfl ⟨by omega, by omega⟩ ?_
  refine V_ld (pc := 811) dL_law_811 (v := vr SC) rfl rfl ?_
  refine V_ld (pc := 812) dL_law_812 (v := vi i) rfl rfl ?_
  refine V_iconst (pc := 813) dL_law_813 (by unfold I32; omega) ?_
  refine V_iadd (pc := 814) dL_law_814 (by unfold I32; omega) ?_
  refine V_sld (pc := 815) dL_law_815 (L := L) (xs := xs) rfl ⟨by omega, by omega⟩ ?_
  refine V_ld (pc := 816) dL_law_816 (v := vr SC) rfl rfl ?_
  refine V_ld (pc := 817) dL_law_817 (v := vi i) rfl rfl ?_
  refine V_iconst (pc := 818) dL_law_818 (by unfold I32; omega) ?_
  refine V_iadd (pc := 819) dL_law_819 (by unfold I32; omega) ?_
  refine V_sld (pc := 820) dL_law_820 (L := L) (xs := xs) rfl ⟨by omega, by omega⟩ ?_
  refine V_callV (pc := 821) dL_law_821 (F' := 4) (As := [vi (xs (i + 1).toNat), vi (xs (i + 2).toNat), vi (xs (i + 3).toNat), vi (xs (i + 4).toNat)]) (st := []) cw_RL_113 rfl rfl hL.t0 (by decide) (Nat.le_of_ble_eq_true rfl) (by omega) hC ?_
  rintro _ m1 ⟨x, rfl, hx⟩ ok1 le1
  obtain ⟨h30, Q, hR, hE⟩ := hN x m1 hx
  refine V_ld (pc := 824) dL_law_824 (v := vr 30) rfl rfl ?_
  refine V_ld (pc := 825) dL_law_825 (v := vr SC) rfl rfl ?_
  refine V_ld (pc := 826) dL_law_826 (v := vi i) rfl rfl ?_
  refine V_iconst (pc := 827) dL_law_827 (by unfold I32; omega) ?_
  refine V_iadd (pc := 828) dL_law_828 (by unfold I32; omega) ?_
  refine V_sld (pc := 829) dL_law_829 (L := L) (xs := xs) rfl ⟨by omega, by omega⟩ ?_
  refine V_ld (pc := 830) dL_law_830 (v := vr SC) rfl rfl ?_
  refine V_ld (pc := 831) dL_law_831 (v := vi i) rfl rfl ?_
  refine V_iconst (pc := 832) dL_law_832 (by unfold I32; omega) ?_
  refine V_iadd (pc := 833) dL_law_833 (by unfold I32; omega) ?_
  refine V_sld (pc := 834) dL_law_834 (L := L) (xs := xs) rfl ⟨by omega, by omega⟩ ?_
  refine V_ld (pc := 835) dL_law_835 (v := vr SC) rfl rfl ?_
  refine V_ld (pc := 836) dL_law_836 (v := vi i) rfl rfl ?_
  refine V_iconst (pc := 837) dL_law_837 (by unfold I32; omega) ?_
  refine V_iadd (pc := 838) dL_law_838 (by unfold I32; omega) ?_
  refine V_sld (pc := 839) dL_law_839 (L := L) (xs := xs) rfl ⟨by omega, by omega⟩ ?_
  refine V_ld (pc := 840) dL_law_840 (v := vr SC) rfl rfl ?_
  refine V_ld (pc := 841) dL_law_841 (v := vi i) rfl rfl ?_
  refine V_iconst (pc := 842) dL_law_842 (by unfold I32; omega) ?_
  refine V_iadd (pc := 843) dL_law_843 (by unfold I32; omega) ?_
  refine V_sld (pc := 844) dL_law_844 (L := L) (xs := xs) rfl ⟨by omega, by omega⟩ ?_
  refine V_callV (pc := 845) dL_law_845 (F' := 2) (As := [vi (xs (i + 1).toNat), vi (xs (i + 2).toNat), vi (xs (i + 3).toNat), vi (xs (i + 4).toNat)]) (st := [vl x]) cw_RL_117 rfl rfl h30 (by decide) (Nat.le_of_ble_eq_true rfl) (by omega) hR ?_
  rintro _ m2 ⟨y, rfl, hy⟩ ok2 le2
  obtain ⟨e, hI2⟩ := hE y m2 hy
  refine V_lcmp (pc := 848) dL_law_848  ?_
  exact V_if_eq (pc := 849) dL_law_849 (tgt := 1255) rfl (fun _ => kx m2 hI2) (fun h => absurd (by rw [e]; exact cmpI_self) h)

theorem law_c25 {L : Nat} {xs : Nat → Int} {m0 : Mem} {post : Option AV → Mem → Prop} {tt : Nat} {m : Mem} {i : Int} (hi : 0 ≤ i ∧ i + 6 ≤ (L : Int) ∧ L ≤ 3072) (hI : Inv tt m) (ht : tt ≤ 512) (kx : ∀ m2, Inv (tt + 1) m2 → V (μL L xs) 2048 m0 post 1255 [(3, vi i), (2, vr 30), (1, vr 0), (0, vr SC)] [] m2) : V (μL L xs) 2048 m0 post 854 [(3, vi i), (2, vr 30), (1, vr 0), (0, vr SC)] [] m := by
  obtain ⟨P, hC, hN⟩ := op_covered hI (xs (i + 1).toNat)
  have hL := hI.1.2.1
  refine V_ld (pc := 854) dL_law_854 (v := vr 0) rfl rfl ?_
  refine V_ld (pc := 855) dL_law_855 (v := vr SC) rfl rfl ?_
  refine V_ld (pc := 856) dL_law_856 (v := vi i) rfl rfl ?_
  refine V_iconst (pc := 857) dL_law_857 (by unfold I32; omega) ?_
  refine V_iadd (pc := 858) dL_law_858 (by unfold I32; omega) ?_
  refine V_sld (pc := 859) dL_law_859 (L := L) (xs := xs) rfl ⟨by omega, by omega⟩ ?_
  refine V_callV (pc := 860) dL_law_860 (F' := 4) (As := [vi (xs (i + 1).toNat)]) (st := []) cw_RL_118 rfl rfl hL.t0 (by decide) (Nat.le_of_ble_eq_true rfl) (by omega) hC ?_
  rintro _ m1 ⟨x, rfl, hx⟩ ok1 le1
  obtain ⟨h30, Q, hR, hE⟩ := hN x m1 hx
  refine V_ld (pc := 863) dL_law_863 (v := vr 30) rfl rfl ?_
  refine V_ld (pc := 864) dL_law_864 (v := vr SC) rfl rfl ?_
  refine V_ld (pc := 865) dL_law_865 (v := vi i) rfl rfl ?_
  refine V_iconst (pc := 866) dL_law_866 (by unfold I32; omega) ?_
  refine V_iadd (pc := 867) dL_law_867 (by unfold I32; omega) ?_
  refine V_sld (pc := 868) dL_law_868 (L := L) (xs := xs) rfl ⟨by omega, by omega⟩ ?_
  refine V_callV (pc := 869) dL_law_869 (F' := 3) (As := [vi (xs (i + 1).toNat)]) (st := [vi x]) cw_RL_121 rfl rfl h30 (by decide) (Nat.le_of_ble_eq_true rfl) (by omega) hR ?_
  rintro _ m2 ⟨y, rfl, hy⟩ ok2 le2
  obtain ⟨e, hI2⟩ := hE y m2 hy
  exact V_icmp_eq (pc := 872) dL_law_872 (tgt := 1255) rfl (fun _ => kx m2 hI2) (fun h => absurd e.symm h)

theorem law_c26 {L : Nat} {xs : Nat → Int} {m0 : Mem} {post : Option AV → Mem → Prop} {tt : Nat} {m : Mem} {i : Int} (hi : 0 ≤ i ∧ i + 6 ≤ (L : Int) ∧ L ≤ 3072) (hI : Inv tt m) (ht : tt ≤ 512) (kx : ∀ m2, Inv (tt + 1) m2 → V (μL L xs) 2048 m0 post 1255 [(3, vi i), (2, vr 30), (1, vr 0), (0, vr SC)] [] m2) : V (μL L xs) 2048 m0 post 877 [(3, vi i), (2, vr 30), (1, vr 0), (0, vr SC)] [] m := by
  obtain ⟨P, hC, hN⟩ := op_told hI (xs (i + 1).toNat)
  have hL := hI.1.2.1
  refine V_ld (pc := 877) dL_law_877 (v := vr 0) rfl rfl ?_
  refine V_ld (pc := 878) dL_law_878 (v := vr SC) rfl rfl ?_
  refine V_ld (pc := 879) dL_law_879 (v := vi i) rfl rfl ?_
  refine V_iconst (pc := 880) dL_law_880 (by unfold I32; omega) ?_
  refine V_iadd (pc := 881) dL_law_881 (by unfold I32; omega) ?_
  refine V_sld (pc := 882) dL_law_882 (L := L) (xs := xs) rfl ⟨by omega, by omega⟩ ?_
  refine V_callV (pc := 883) dL_law_883 (F' := 4) (As := [vi (xs (i + 1).toNat)]) (st := []) cw_RL_122 rfl rfl hL.t0 (by decide) (Nat.le_of_ble_eq_true rfl) (by omega) hC ?_
  rintro _ m1 ⟨x, rfl, hx⟩ ok1 le1
  obtain ⟨h30, Q, hR, hE⟩ := hN x m1 hx
  refine V_ld (pc := 886) dL_law_886 (v := vr 30) rfl rfl ?_
  refine V_ld (pc := 887) dL_law_887 (v := vr SC) rfl rfl ?_
  refine V_ld (pc := 888) dL_law_888 (v := vi i) rfl rfl ?_
  refine V_iconst (pc := 889) dL_law_889 (by unfold I32; omega) ?_
  refine V_iadd (pc := 890) dL_law_890 (by unfold I32; omega) ?_
  refine V_sld (pc := 891) dL_law_891 (L := L) (xs := xs) rfl ⟨by omega, by omega⟩ ?_
  refine V_callV (pc := 892) dL_law_892 (F' := 33) (As := [vi (xs (i + 1).toNat)]) (st := [vi x]) cw_RL_125 rfl rfl h30 (by decide) (Nat.le_of_ble_eq_true rfl) (by omega) hR ?_
  rintro _ m2 ⟨y, rfl, hy⟩ ok2 le2
  obtain ⟨e, hI2⟩ := hE y m2 hy
  exact V_icmp_eq (pc := 895) dL_law_895 (tgt := 1255) rfl (fun _ => kx m2 hI2) (fun h => absurd e.symm h)

theorem law_c27 {L : Nat} {xs : Nat → Int} {m0 : Mem} {post : Option AV → Mem → Prop} {tt : Nat} {m : Mem} {i : Int} (hi : 0 ≤ i ∧ i + 6 ≤ (L : Int) ∧ L ≤ 3072) (hI : Inv tt m) (ht : tt ≤ 512) (kx : ∀ m2, Inv (tt + 1) m2 → V (μL L xs) 2048 m0 post 1255 [(3, vi i), (2, vr 30), (1, vr 0), (0, vr SC)] [] m2) : V (μL L xs) 2048 m0 post 900 [(3, vi i), (2, vr 30), (1, vr 0), (0, vr SC)] [] m := by
  obtain ⟨P, hC, hN⟩ := op_list hI (xs (i + 1).toNat) (xs (i + 2).toNat)
  have hL := hI.1.2.1
  refine V_ld (pc := 900) dL_law_900 (v := vr 0) rfl rfl ?_
  refine V_ld (pc := 901) dL_law_901 (v := vr SC) rfl rfl ?_
  refine V_ld (pc := 902) dL_law_902 (v := vi i) rfl rfl ?_
  refine V_iconst (pc := 903) dL_law_903 (by unfold I32; omega) ?_
  refine V_iadd (pc := 904) dL_law_904 (by unfold I32; omega) ?_
  refine V_sld (pc := 905) dL_law_905 (L := L) (xs := xs) rfl ⟨by omega, by omega⟩ ?_
  refine V_ld (pc := 906) dL_law_906 (v := vr SC) rfl rfl ?_
  refine V_ld (pc := 907) dL_law_907 (v := vi i) rfl rfl ?_
  refine V_iconst (pc := 908) dL_law_908 (by unfold I32; omega) ?_
  refine V_iadd (pc := 909) dL_law_909 (by unfold I32; omega) ?_
  refine V_sld (pc := 910) dL_law_910 (L := L) (xs := xs) rfl ⟨by omega, by omega⟩ ?_
  refine V_callV (pc := 911) dL_law_911 (F' := 2) (As := [vi (xs (i + 1).toNat), vi (xs (i + 2).toNat)]) (st := []) cw_RL_126 rfl rfl hL.t0 (by decide) (Nat.le_of_ble_eq_true rfl) (by omega) hC ?_
  rintro _ m1 ⟨x, rfl, hx⟩ ok1 le1
  obtain ⟨h30, Q, hR, hE⟩ := hN x m1 hx
  refine V_ld (pc := 914) dL_law_914 (v := vr 30) rfl rfl ?_
  refine V_ld (pc := 915) dL_law_915 (v := vr SC) rfl rfl ?_
  refine V_ld (pc := 916) dL_law_916 (v := vi i) rfl rfl ?_
  refine V_iconst (pc := 917) dL_law_917 (by unfold I32; omega) ?_
  refine V_iadd (pc := 918) dL_law_918 (by unfold I32; omega) ?_
  refine V_sld (pc := 919) dL_law_919 (L := L) (xs := xs) rfl ⟨by omega, by omega⟩ ?_
  refine V_ld (pc := 920) dL_law_920 (v := vr SC) rfl rfl ?_
  refine V_ld (pc := 921) dL_law_921 (v := vi i) rfl rfl ?_
  refine V_iconst (pc := 922) dL_law_922 (by unfold I32; omega) ?_
  refine V_iadd (pc := 923) dL_law_923 (by unfold I32; omega) ?_
  refine V_sld (pc := 924) dL_law_924 (L := L) (xs := xs) rfl ⟨by omega, by omega⟩ ?_
  refine V_callV (pc := 925) dL_law_925 (F' := 2) (As := [vi (xs (i + 1).toNat), vi (xs (i + 2).toNat)]) (st := [vi x]) cw_RL_129 rfl rfl h30 (by decide) (Nat.le_of_ble_eq_true rfl) (by omega) hR ?_
  rintro _ m2 ⟨y, rfl, hy⟩ ok2 le2
  obtain ⟨e, hI2⟩ := hE y m2 hy
  exact V_icmp_eq (pc := 928) dL_law_928 (tgt := 1255) rfl (fun _ => kx m2 hI2) (fun h => absurd e.symm h)

theorem law_c28 {L : Nat} {xs : Nat → Int} {m0 : Mem} {post : Option AV → Mem → Prop} {tt : Nat} {m : Mem} {i : Int} (hi : 0 ≤ i ∧ i + 6 ≤ (L : Int) ∧ L ≤ 3072) (hI : Inv tt m) (ht : tt ≤ 512) (kx : ∀ m2, Inv (tt + 1) m2 → V (μL L xs) 2048 m0 post 1255 [(3, vi i), (2, vr 30), (1, vr 0), (0, vr SC)] [] m2) : V (μL L xs) 2048 m0 post 933 [(3, vi i), (2, vr 30), (1, vr 0), (0, vr SC)] [] m := by
  obtain ⟨P, hC, hN⟩ := op_put hI (xs (i + 1).toNat) (xs (i + 2).toNat) (or64 (shl64 (xs (i + 3).toNat) 32) (and64 (xs (i + 4).toNat) 4294967295))
  have hL := hI.1.2.1
  refine V_ld (pc := 933) dL_law_933 (v := vr 0) rfl rfl ?_
  refine V_ld (pc := 934) dL_law_934 (v := vr SC) rfl rfl ?_
  refine V_ld (pc := 935) dL_law_935 (v := vi i) rfl rfl ?_
  refine V_iconst (pc := 936) dL_law_936 (by unfold I32; omega) ?_
  refine V_iadd (pc := 937) dL_law_937 (by unfold I32; omega) ?_
  refine V_sld (pc := 938) dL_law_938 (L := L) (xs := xs) rfl ⟨by omega, by omega⟩ ?_
  refine V_ld (pc := 939) dL_law_939 (v := vr SC) rfl rfl ?_
  refine V_ld (pc := 940) dL_law_940 (v := vi i) rfl rfl ?_
  refine V_iconst (pc := 941) dL_law_941 (by unfold I32; omega) ?_
  refine V_iadd (pc := 942) dL_law_942 (by unfold I32; omega) ?_
  refine V_sld (pc := 943) dL_law_943 (L := L) (xs := xs) rfl ⟨by omega, by omega⟩ ?_
  refine V_ld (pc := 944) dL_law_944 (v := vr SC) rfl rfl ?_
  refine V_ld (pc := 945) dL_law_945 (v := vi i) rfl rfl ?_
  refine V_iconst (pc := 946) dL_law_946 (by unfold I32; omega) ?_
  refine V_iadd (pc := 947) dL_law_947 (by unfold I32; omega) ?_
  refine V_sld (pc := 948) dL_law_948 (L := L) (xs := xs) rfl ⟨by omega, by omega⟩ ?_
  refine V_i2l (pc := 949) dL_law_949  ?_
  refine V_bipush (pc := 950) dL_law_950 (by unfold I32; omega) (by decide) ?_
  refine V_lshl (pc := 952) dL_law_952  ?_
  refine V_ld (pc := 953) dL_law_953 (v := vr SC) rfl rfl ?_
  refine V_ld (pc := 954) dL_law_954 (v := vi i) rfl rfl ?_
  refine V_iconst (pc := 955) dL_law_955 (by unfold I32; omega) ?_
  refine V_iadd (pc := 956) dL_law_956 (by unfold I32; omega) ?_
  refine V_sld (pc := 957) dL_law_957 (L := L) (xs := xs) rfl ⟨by omega, by omega⟩ ?_
  refine V_i2l (pc := 958) dL_law_958  ?_
  refine V_ldc2 (pc := 959) dL_law_959 (x := 4294967295) kl_RL_130 (by unfold I64; omega) rfl ?_
  refine V_land (pc := 962) dL_law_962  ?_
  refine V_lor (pc := 963) dL_law_963  ?_
  refine V_callV (pc := 964) dL_law_964 (F' := 3) (As := [vi (xs (i + 1).toNat), vi (xs (i + 2).toNat), vl (or64 (shl64 (xs (i + 3).toNat) 32) (and64 (xs (i + 4).toNat) 4294967295))]) (st := []) cw_RL_132 rfl rfl hL.t0 (by decide) (Nat.le_of_ble_eq_true rfl) (by omega) hC ?_
  rintro _ m1 ⟨x, rfl, hx⟩ ok1 le1
  obtain ⟨h30, Q, hR, hE⟩ := hN x m1 hx
  refine V_ld (pc := 967) dL_law_967 (v := vr 30) rfl rfl ?_
  refine V_ld (pc := 968) dL_law_968 (v := vr SC) rfl rfl ?_
  refine V_ld (pc := 969) dL_law_969 (v := vi i) rfl rfl ?_
  refine V_iconst (pc := 970) dL_law_970 (by unfold I32; omega) ?_
  refine V_iadd (pc := 971) dL_law_971 (by unfold I32; omega) ?_
  refine V_sld (pc := 972) dL_law_972 (L := L) (xs := xs) rfl ⟨by omega, by omega⟩ ?_
  refine V_ld (pc := 973) dL_law_973 (v := vr SC) rfl rfl ?_
  refine V_ld (pc := 974) dL_law_974 (v := vi i) rfl rfl ?_
  refine V_iconst (pc := 975) dL_law_975 (by unfold I32; omega) ?_
  refine V_iadd (pc := 976) dL_law_976 (by unfold I32; omega) ?_
  refine V_sld (pc := 977) dL_law_977 (L := L) (xs := xs) rfl ⟨by omega, by omega⟩ ?_
  refine V_ld (pc := 978) dL_law_978 (v := vr SC) rfl rfl ?_
  refine V_ld (pc := 979) dL_law_979 (v := vi i) rfl rfl ?_
  refine V_iconst (pc := 980) dL_law_980 (by unfold I32; omega) ?_
  refine V_iadd (pc := 981) dL_law_981 (by unfold I32; omega) ?_
  refine V_sld (pc := 982) dL_law_982 (L := L) (xs := xs) rfl ⟨by omega, by omega⟩ ?_
  refine V_i2l (pc := 983) dL_law_983  ?_
  refine V_bipush (pc := 984) dL_law_984 (by unfold I32; omega) (by decide) ?_
  refine V_lshl (pc := 986) dL_law_986  ?_
  refine V_ld (pc := 987) dL_law_987 (v := vr SC) rfl rfl ?_
  refine V_ld (pc := 988) dL_law_988 (v := vi i) rfl rfl ?_
  refine V_iconst (pc := 989) dL_law_989 (by unfold I32; omega) ?_
  refine V_iadd (pc := 990) dL_law_990 (by unfold I32; omega) ?_
  refine V_sld (pc := 991) dL_law_991 (L := L) (xs := xs) rfl ⟨by omega, by omega⟩ ?_
  refine V_i2l (pc := 992) dL_law_992  ?_
  refine V_ldc2 (pc := 993) dL_law_993 (x := 4294967295) kl_RL_130 (by unfold I64; omega) rfl ?_
  refine V_land (pc := 996) dL_law_996  ?_
  refine V_lor (pc := 997) dL_law_997  ?_
  refine V_callV (pc := 998) dL_law_998 (F' := 2) (As := [vi (xs (i + 1).toNat), vi (xs (i + 2).toNat), vl (or64 (shl64 (xs (i + 3).toNat) 32) (and64 (xs (i + 4).toNat) 4294967295))]) (st := [vi x]) cw_RL_136 rfl rfl h30 (by decide) (Nat.le_of_ble_eq_true rfl) (by omega) hR ?_
  rintro _ m2 ⟨y, rfl, hy⟩ ok2 le2
  obtain ⟨e, hI2⟩ := hE y m2 hy
  exact V_icmp_eq (pc := 1001) dL_law_1001 (tgt := 1255) rfl (fun _ => kx m2 hI2) (fun h => absurd e.symm h)

theorem law_c29 {L : Nat} {xs : Nat → Int} {m0 : Mem} {post : Option AV → Mem → Prop} {tt : Nat} {m : Mem} {i : Int} (hi : 0 ≤ i ∧ i + 6 ≤ (L : Int) ∧ L ≤ 3072) (hI : Inv tt m) (ht : tt ≤ 512) (kx : ∀ m2, Inv (tt + 1) m2 → V (μL L xs) 2048 m0 post 1255 [(3, vi i), (2, vr 30), (1, vr 0), (0, vr SC)] [] m2) : V (μL L xs) 2048 m0 post 1006 [(3, vi i), (2, vr 30), (1, vr 0), (0, vr SC)] [] m := by
  obtain ⟨P, hC, hN⟩ := op_get hI (xs (i + 1).toNat) (xs (i + 2).toNat)
  have hL := hI.1.2.1
  refine V_ld (pc := 1006) dL_law_1006 (v := vr 0) rfl rfl ?_
  refine V_ld (pc := 1007) dL_law_1007 (v := vr SC) rfl rfl ?_
  refine V_ld (pc := 1008) dL_law_1008 (v := vi i) rfl rfl ?_
  refine V_iconst (pc := 1009) dL_law_1009 (by unfold I32; omega) ?_
  refine V_iadd (pc := 1010) dL_law_1010 (by unfold I32; omega) ?_
  refine V_sld (pc := 1011) dL_law_1011 (L := L) (xs := xs) rfl ⟨by omega, by omega⟩ ?_
  refine V_ld (pc := 1012) dL_law_1012 (v := vr SC) rfl rfl ?_
  refine V_ld (pc := 1013) dL_law_1013 (v := vi i) rfl rfl ?_
  refine V_iconst (pc := 1014) dL_law_1014 (by unfold I32; omega) ?_
  refine V_iadd (pc := 1015) dL_law_1015 (by unfold I32; omega) ?_
  refine V_sld (pc := 1016) dL_law_1016 (L := L) (xs := xs) rfl ⟨by omega, by omega⟩ ?_
  refine V_callV (pc := 1017) dL_law_1017 (F' := 3) (As := [vi (xs (i + 1).toNat), vi (xs (i + 2).toNat)]) (st := []) cw_RL_137 rfl rfl hL.t0 (by decide) (Nat.le_of_ble_eq_true rfl) (by omega) hC ?_
  rintro _ m1 ⟨x, rfl, hx⟩ ok1 le1
  obtain ⟨h30, Q, hR, hE⟩ := hN x m1 hx
  refine V_ld (pc := 1020) dL_law_1020 (v := vr 30) rfl rfl ?_
  refine V_ld (pc := 1021) dL_law_1021 (v := vr SC) rfl rfl ?_
  refine V_ld (pc := 1022) dL_law_1022 (v := vi i) rfl rfl ?_
  refine V_iconst (pc := 1023) dL_law_1023 (by unfold I32; omega) ?_
  refine V_iadd (pc := 1024) dL_law_1024 (by unfold I32; omega) ?_
  refine V_sld (pc := 1025) dL_law_1025 (L := L) (xs := xs) rfl ⟨by omega, by omega⟩ ?_
  refine V_ld (pc := 1026) dL_law_1026 (v := vr SC) rfl rfl ?_
  refine V_ld (pc := 1027) dL_law_1027 (v := vi i) rfl rfl ?_
  refine V_iconst (pc := 1028) dL_law_1028 (by unfold I32; omega) ?_
  refine V_iadd (pc := 1029) dL_law_1029 (by unfold I32; omega) ?_
  refine V_sld (pc := 1030) dL_law_1030 (L := L) (xs := xs) rfl ⟨by omega, by omega⟩ ?_
  refine V_callV (pc := 1031) dL_law_1031 (F' := 2) (As := [vi (xs (i + 1).toNat), vi (xs (i + 2).toNat)]) (st := [vl x]) cw_RL_141 rfl rfl h30 (by decide) (Nat.le_of_ble_eq_true rfl) (by omega) hR ?_
  rintro _ m2 ⟨y, rfl, hy⟩ ok2 le2
  obtain ⟨e, hI2⟩ := hE y m2 hy
  refine V_lcmp (pc := 1034) dL_law_1034  ?_
  exact V_if_eq (pc := 1035) dL_law_1035 (tgt := 1255) rfl (fun _ => kx m2 hI2) (fun h => absurd (by rw [e]; exact cmpI_self) h)

theorem law_c30 {L : Nat} {xs : Nat → Int} {m0 : Mem} {post : Option AV → Mem → Prop} {tt : Nat} {m : Mem} {i : Int} (hi : 0 ≤ i ∧ i + 6 ≤ (L : Int) ∧ L ≤ 3072) (hI : Inv tt m) (ht : tt ≤ 512) (kx : ∀ m2, Inv (tt + 1) m2 → V (μL L xs) 2048 m0 post 1255 [(3, vi i), (2, vr 30), (1, vr 0), (0, vr SC)] [] m2) : V (μL L xs) 2048 m0 post 1040 [(3, vi i), (2, vr 30), (1, vr 0), (0, vr SC)] [] m := by
  obtain ⟨P, hC, hN⟩ := op_move hI (xs (i + 1).toNat) (xs (i + 2).toNat) (xs (i + 3).toNat) (xs (i + 4).toNat) (xs (i + 5).toNat)
  have hL := hI.1.2.1
  refine V_ld (pc := 1040) dL_law_1040 (v := vr 0) rfl rfl ?_
  refine V_ld (pc := 1041) dL_law_1041 (v := vr SC) rfl rfl ?_
  refine V_ld (pc := 1042) dL_law_1042 (v := vi i) rfl rfl ?_
  refine V_iconst (pc := 1043) dL_law_1043 (by unfold I32; omega) ?_
  refine V_iadd (pc := 1044) dL_law_1044 (by unfold I32; omega) ?_
  refine V_sld (pc := 1045) dL_law_1045 (L := L) (xs := xs) rfl ⟨by omega, by omega⟩ ?_
  refine V_ld (pc := 1046) dL_law_1046 (v := vr SC) rfl rfl ?_
  refine V_ld (pc := 1047) dL_law_1047 (v := vi i) rfl rfl ?_
  refine V_iconst (pc := 1048) dL_law_1048 (by unfold I32; omega) ?_
  refine V_iadd (pc := 1049) dL_law_1049 (by unfold I32; omega) ?_
  refine V_sld (pc := 1050) dL_law_1050 (L := L) (xs := xs) rfl ⟨by omega, by omega⟩ ?_
  refine V_ld (pc := 1051) dL_law_1051 (v := vr SC) rfl rfl ?_
  refine V_ld (pc := 1052) dL_law_1052 (v := vi i) rfl rfl ?_
  refine V_iconst (pc := 1053) dL_law_1053 (by unfold I32; omega) ?_
  refine V_iadd (pc := 1054) dL_law_1054 (by unfold I32; omega) ?_
  refine V_sld (pc := 1055) dL_law_1055 (L := L) (xs := xs) rfl ⟨by omega, by omega⟩ ?_
  refine V_ld (pc := 1056) dL_law_1056 (v := vr SC) rfl rfl ?_
  refine V_ld (pc := 1057) dL_law_1057 (v := vi i) rfl rfl ?_
  refine V_iconst (pc := 1058) dL_law_1058 (by unfold I32; omega) ?_
  refine V_iadd (pc := 1059) dL_law_1059 (by unfold I32; omega) ?_
  refine V_sld (pc := 1060) dL_law_1060 (L := L) (xs := xs) rfl ⟨by omega, by omega⟩ ?_
  refine V_ld (pc := 1061) dL_law_1061 (v := vr SC) rfl rfl ?_
  refine V_ld (pc := 1062) dL_law_1062 (v := vi i) rfl rfl ?_
  refine V_iconst (pc := 1063) dL_law_1063 (by unfold I32; omega) ?_
  refine V_iadd (pc := 1064) dL_law_1064 (by unfold I32; omega) ?_
  refine V_sld (pc := 1065) dL_law_1065 (L := L) (xs := xs) rfl ⟨by omega, by omega⟩ ?_
  refine V_callV (pc := 1066) dL_law_1066 (F' := 2) (As := [vi (xs (i + 1).toNat), vi (xs (i + 2).toNat), vi (xs (i + 3).toNat), vi (xs (i + 4).toNat), vi (xs (i + 5).toNat)]) (st := []) cw_RL_142 rfl rfl hL.t0 (by decide) (Nat.le_of_ble_eq_true rfl) (by omega) hC ?_
  rintro _ m1 ⟨x, rfl, hx⟩ ok1 le1
  obtain ⟨h30, Q, hR, hE⟩ := hN x m1 hx
  refine V_ld (pc := 1069) dL_law_1069 (v := vr 30) rfl rfl ?_
  refine V_ld (pc := 1070) dL_law_1070 (v := vr SC) rfl rfl ?_
  refine V_ld (pc := 1071) dL_law_1071 (v := vi i) rfl rfl ?_
  refine V_iconst (pc := 1072) dL_law_1072 (by unfold I32; omega) ?_
  refine V_iadd (pc := 1073) dL_law_1073 (by unfold I32; omega) ?_
  refine V_sld (pc := 1074) dL_law_1074 (L := L) (xs := xs) rfl ⟨by omega, by omega⟩ ?_
  refine V_ld (pc := 1075) dL_law_1075 (v := vr SC) rfl rfl ?_
  refine V_ld (pc := 1076) dL_law_1076 (v := vi i) rfl rfl ?_
  refine V_iconst (pc := 1077) dL_law_1077 (by unfold I32; omega) ?_
  refine V_iadd (pc := 1078) dL_law_1078 (by unfold I32; omega) ?_
  refine V_sld (pc := 1079) dL_law_1079 (L := L) (xs := xs) rfl ⟨by omega, by omega⟩ ?_
  refine V_ld (pc := 1080) dL_law_1080 (v := vr SC) rfl rfl ?_
  refine V_ld (pc := 1081) dL_law_1081 (v := vi i) rfl rfl ?_
  refine V_iconst (pc := 1082) dL_law_1082 (by unfold I32; omega) ?_
  refine V_iadd (pc := 1083) dL_law_1083 (by unfold I32; omega) ?_
  refine V_sld (pc := 1084) dL_law_1084 (L := L) (xs := xs) rfl ⟨by omega, by omega⟩ ?_
  refine V_ld (pc := 1085) dL_law_1085 (v := vr SC) rfl rfl ?_
  refine V_ld (pc := 1086) dL_law_1086 (v := vi i) rfl rfl ?_
  refine V_iconst (pc := 1087) dL_law_1087 (by unfold I32; omega) ?_
  refine V_iadd (pc := 1088) dL_law_1088 (by unfold I32; omega) ?_
  refine V_sld (pc := 1089) dL_law_1089 (L := L) (xs := xs) rfl ⟨by omega, by omega⟩ ?_
  refine V_ld (pc := 1090) dL_law_1090 (v := vr SC) rfl rfl ?_
  refine V_ld (pc := 1091) dL_law_1091 (v := vi i) rfl rfl ?_
  refine V_iconst (pc := 1092) dL_law_1092 (by unfold I32; omega) ?_
  refine V_iadd (pc := 1093) dL_law_1093 (by unfold I32; omega) ?_
  refine V_sld (pc := 1094) dL_law_1094 (L := L) (xs := xs) rfl ⟨by omega, by omega⟩ ?_
  refine V_callV (pc := 1095) dL_law_1095 (F' := 2) (As := [vi (xs (i + 1).toNat), vi (xs (i + 2).toNat), vi (xs (i + 3).toNat), vi (xs (i + 4).toNat), vi (xs (i + 5).toNat)]) (st := [vi x]) cw_RL_146 rfl rfl h30 (by decide) (Nat.le_of_ble_eq_true rfl) (by omega) hR ?_
  rintro _ m2 ⟨y, rfl, hy⟩ ok2 le2
  obtain ⟨e, hI2⟩ := hE y m2 hy
  exact V_icmp_eq (pc := 1098) dL_law_1098 (tgt := 1255) rfl (fun _ => kx m2 hI2) (fun h => absurd e.symm h)

theorem law_c31 {L : Nat} {xs : Nat → Int} {m0 : Mem} {post : Option AV → Mem → Prop} {tt : Nat} {m : Mem} {i : Int} (hi : 0 ≤ i ∧ i + 6 ≤ (L : Int) ∧ L ≤ 3072) (hI : Inv tt m) (ht : tt ≤ 512) (kx : ∀ m2, Inv (tt + 1) m2 → V (μL L xs) 2048 m0 post 1255 [(3, vi i), (2, vr 30), (1, vr 0), (0, vr SC)] [] m2) : V (μL L xs) 2048 m0 post 1103 [(3, vi i), (2, vr 30), (1, vr 0), (0, vr SC)] [] m := by
  obtain ⟨P, hC, hN⟩ := op_lay hI (xs (i + 1).toNat) (xs (i + 2).toNat) (xs (i + 3).toNat) (xs (i + 4).toNat) (xs (i + 5).toNat)
  have hL := hI.1.2.1
  refine V_ld (pc := 1103) dL_law_1103 (v := vr 0) rfl rfl ?_
  refine V_ld (pc := 1104) dL_law_1104 (v := vr SC) rfl rfl ?_
  refine V_ld (pc := 1105) dL_law_1105 (v := vi i) rfl rfl ?_
  refine V_iconst (pc := 1106) dL_law_1106 (by unfold I32; omega) ?_
  refine V_iadd (pc := 1107) dL_law_1107 (by unfold I32; omega) ?_
  refine V_sld (pc := 1108) dL_law_1108 (L := L) (xs := xs) rfl ⟨by omega, by omega⟩ ?_
  refine V_ld (pc := 1109) dL_law_1109 (v := vr SC) rfl rfl ?_
  refine V_ld (pc := 1110) dL_law_1110 (v := vi i) rfl rfl ?_
  refine V_iconst (pc := 1111) dL_law_1111 (by unfold I32; omega) ?_
  refine V_iadd (pc := 1112) dL_law_1112 (by unfold I32; omega) ?_
  refine V_sld (pc := 1113) dL_law_1113 (L := L) (xs := xs) rfl ⟨by omega, by omega⟩ ?_
  refine V_ld (pc := 1114) dL_law_1114 (v := vr SC) rfl rfl ?_
  refine V_ld (pc := 1115) dL_law_1115 (v := vi i) rfl rfl ?_
  refine V_iconst (pc := 1116) dL_law_1116 (by unfold I32; omega) ?_
  refine V_iadd (pc := 1117) dL_law_1117 (by unfold I32; omega) ?_
  refine V_sld (pc := 1118) dL_law_1118 (L := L) (xs := xs) rfl ⟨by omega, by omega⟩ ?_
  refine V_ld (pc := 1119) dL_law_1119 (v := vr SC) rfl rfl ?_
  refine V_ld (pc := 1120) dL_law_1120 (v := vi i) rfl rfl ?_
  refine V_iconst (pc := 1121) dL_law_1121 (by unfold I32; omega) ?_
  refine V_iadd (pc := 1122) dL_law_1122 (by unfold I32; omega) ?_
  refine V_sld (pc := 1123) dL_law_1123 (L := L) (xs := xs) rfl ⟨by omega, by omega⟩ ?_
  refine V_ld (pc := 1124) dL_law_1124 (v := vr SC) rfl rfl ?_
  refine V_ld (pc := 1125) dL_law_1125 (v := vi i) rfl rfl ?_
  refine V_iconst (pc := 1126) dL_law_1126 (by unfold I32; omega) ?_
  refine V_iadd (pc := 1127) dL_law_1127 (by unfold I32; omega) ?_
  refine V_sld (pc := 1128) dL_law_1128 (L := L) (xs := xs) rfl ⟨by omega, by omega⟩ ?_
  refine V_callV (pc := 1129) dL_law_1129 (F' := 5) (As := [vi (xs (i + 1).toNat), vi (xs (i + 2).toNat), vi (xs (i + 3).toNat), vi (xs (i + 4).toNat), vi (xs (i + 5).toNat)]) (st := []) cw_RL_147 rfl rfl hL.t0 (by decide) (Nat.le_of_ble_eq_true rfl) (by omega) hC ?_
  rintro _ m1 ⟨x, rfl, hx⟩ ok1 le1
  obtain ⟨h30, Q, hR, hE⟩ := hN x m1 hx
  refine V_ld (pc := 1132) dL_law_1132 (v := vr 30) rfl rfl ?_
  refine V_ld (pc := 1133) dL_law_1133 (v := vr SC) rfl rfl ?_
  refine V_ld (pc := 1134) dL_law_1134 (v := vi i) rfl rfl ?_
  refine V_iconst (pc := 1135) dL_law_1135 (by unfold I32; omega) ?_
  refine V_iadd (pc := 1136) dL_law_1136 (by unfold I32; omega) ?_
  refine V_sld (pc := 1137) dL_law_1137 (L := L) (xs := xs) rfl ⟨by omega, by omega⟩ ?_
  refine V_ld (pc := 1138) dL_law_1138 (v := vr SC) rfl rfl ?_
  refine V_ld (pc := 1139) dL_law_1139 (v := vi i) rfl rfl ?_
  refine V_iconst (pc := 1140) dL_law_1140 (by unfold I32; omega) ?_
  refine V_iadd (pc := 1141) dL_law_1141 (by unfold I32; omega) ?_
  refine V_sld (pc := 1142) dL_law_1142 (L := L) (xs := xs) rfl ⟨by omega, by omega⟩ ?_
  refine V_ld (pc := 1143) dL_law_1143 (v := vr SC) rfl rfl ?_
  refine V_ld (pc := 1144) dL_law_1144 (v := vi i) rfl rfl ?_
  refine V_iconst (pc := 1145) dL_law_1145 (by unfold I32; omega) ?_
  refine V_iadd (pc := 1146) dL_law_1146 (by unfold I32; omega) ?_
  refine V_sld (pc := 1147) dL_law_1147 (L := L) (xs := xs) rfl ⟨by omega, by omega⟩ ?_
  refine V_ld (pc := 1148) dL_law_1148 (v := vr SC) rfl rfl ?_
  refine V_ld (pc := 1149) dL_law_1149 (v := vi i) rfl rfl ?_
  refine V_iconst (pc := 1150) dL_law_1150 (by unfold I32; omega) ?_
  refine V_iadd (pc := 1151) dL_law_1151 (by unfold I32; omega) ?_
  refine V_sld (pc := 1152) dL_law_1152 (L := L) (xs := xs) rfl ⟨by omega, by omega⟩ ?_
  refine V_ld (pc := 1153) dL_law_1153 (v := vr SC) rfl rfl ?_
  refine V_ld (pc := 1154) dL_law_1154 (v := vi i) rfl rfl ?_
  refine V_iconst (pc := 1155) dL_law_1155 (by unfold I32; omega) ?_
  refine V_iadd (pc := 1156) dL_law_1156 (by unfold I32; omega) ?_
  refine V_sld (pc := 1157) dL_law_1157 (L := L) (xs := xs) rfl ⟨by omega, by omega⟩ ?_
  refine V_callV (pc := 1158) dL_law_1158 (F' := 5) (As := [vi (xs (i + 1).toNat), vi (xs (i + 2).toNat), vi (xs (i + 3).toNat), vi (xs (i + 4).toNat), vi (xs (i + 5).toNat)]) (st := [vi x]) cw_RL_150 rfl rfl h30 (by decide) (Nat.le_of_ble_eq_true rfl) (by omega) hR ?_
  rintro _ m2 ⟨y, rfl, hy⟩ ok2 le2
  obtain ⟨e, hI2⟩ := hE y m2 hy
  exact V_icmp_eq (pc := 1161) dL_law_1161 (tgt := 1255) rfl (fun _ => kx m2 hI2) (fun h => absurd e.symm h)

theorem law_c32 {L : Nat} {xs : Nat → Int} {m0 : Mem} {post : Option AV → Mem → Prop} {tt : Nat} {m : Mem} {i : Int} (hi : 0 ≤ i ∧ i + 6 ≤ (L : Int) ∧ L ≤ 3072) (hI : Inv tt m) (ht : tt ≤ 512) (kx : ∀ m2, Inv (tt + 1) m2 → V (μL L xs) 2048 m0 post 1255 [(3, vi i), (2, vr 30), (1, vr 0), (0, vr SC)] [] m2) : V (μL L xs) 2048 m0 post 1166 [(3, vi i), (2, vr 30), (1, vr 0), (0, vr SC)] [] m := by
  obtain ⟨P, hC, hN⟩ := op_judge hI (xs (i + 1).toNat) (xs (i + 2).toNat) (xs (i + 3).toNat) (xs (i + 4).toNat) (xs (i + 5).toNat)
  have hL := hI.1.2.1
  refine V_ld (pc := 1166) dL_law_1166 (v := vr 0) rfl rfl ?_
  refine V_ld (pc := 1167) dL_law_1167 (v := vr SC) rfl rfl ?_
  refine V_ld (pc := 1168) dL_law_1168 (v := vi i) rfl rfl ?_
  refine V_iconst (pc := 1169) dL_law_1169 (by unfold I32; omega) ?_
  refine V_iadd (pc := 1170) dL_law_1170 (by unfold I32; omega) ?_
  refine V_sld (pc := 1171) dL_law_1171 (L := L) (xs := xs) rfl ⟨by omega, by omega⟩ ?_
  refine V_ld (pc := 1172) dL_law_1172 (v := vr SC) rfl rfl ?_
  refine V_ld (pc := 1173) dL_law_1173 (v := vi i) rfl rfl ?_
  refine V_iconst (pc := 1174) dL_law_1174 (by unfold I32; omega) ?_
  refine V_iadd (pc := 1175) dL_law_1175 (by unfold I32; omega) ?_
  refine V_sld (pc := 1176) dL_law_1176 (L := L) (xs := xs) rfl ⟨by omega, by omega⟩ ?_
  refine V_ld (pc := 1177) dL_law_1177 (v := vr SC) rfl rfl ?_
  refine V_ld (pc := 1178) dL_law_1178 (v := vi i) rfl rfl ?_
  refine V_iconst (pc := 1179) dL_law_1179 (by unfold I32; omega) ?_
  refine V_iadd (pc := 1180) dL_law_1180 (by unfold I32; omega) ?_
  refine V_sld (pc := 1181) dL_law_1181 (L := L) (xs := xs) rfl ⟨by omega, by omega⟩ ?_
  refine V_ld (pc := 1182) dL_law_1182 (v := vr SC) rfl rfl ?_
  refine V_ld (pc := 1183) dL_law_1183 (v := vi i) rfl rfl ?_
  refine V_iconst (pc := 1184) dL_law_1184 (by unfold I32; omega) ?_
  refine V_iadd (pc := 1185) dL_law_1185 (by unfold I32; omega) ?_
  refine V_sld (pc := 1186) dL_law_1186 (L := L) (xs := xs) rfl ⟨by omega, by omega⟩ ?_
  refine V_ld (pc := 1187) dL_law_1187 (v := vr SC) rfl rfl ?_
  refine V_ld (pc := 1188) dL_law_1188 (v := vi i) rfl rfl ?_
  refine V_iconst (pc := 1189) dL_law_1189 (by unfold I32; omega) ?_
  refine V_iadd (pc := 1190) dL_law_1190 (by unfold I32; omega) ?_
  refine V_sld (pc := 1191) dL_law_1191 (L := L) (xs := xs) rfl ⟨by omega, by omega⟩ ?_
  refine V_callV (pc := 1192) dL_law_1192 (F' := 5) (As := [vi (xs (i + 1).toNat), vi (xs (i + 2).toNat), vi (xs (i + 3).toNat), vi (xs (i + 4).toNat), vi (xs (i + 5).toNat)]) (st := []) cw_RL_151 rfl rfl hL.t0 (by decide) (Nat.le_of_ble_eq_true rfl) (by omega) hC ?_
  rintro _ m1 ⟨x, rfl, hx⟩ ok1 le1
  obtain ⟨h30, Q, hR, hE⟩ := hN x m1 hx
  refine V_ld (pc := 1195) dL_law_1195 (v := vr 30) rfl rfl ?_
  refine V_ld (pc := 1196) dL_law_1196 (v := vr SC) rfl rfl ?_
  refine V_ld (pc := 1197) dL_law_1197 (v := vi i) rfl rfl ?_
  refine V_iconst (pc := 1198) dL_law_1198 (by unfold I32; omega) ?_
  refine V_iadd (pc := 1199) dL_law_1199 (by unfold I32; omega) ?_
  refine V_sld (pc := 1200) dL_law_1200 (L := L) (xs := xs) rfl ⟨by omega, by omega⟩ ?_
  refine V_ld (pc := 1201) dL_law_1201 (v := vr SC) rfl rfl ?_
  refine V_ld (pc := 1202) dL_law_1202 (v := vi i) rfl rfl ?_
  refine V_iconst (pc := 1203) dL_law_1203 (by unfold I32; omega) ?_
  refine V_iadd (pc := 1204) dL_law_1204 (by unfold I32; omega) ?_
  refine V_sld (pc := 1205) dL_law_1205 (L := L) (xs := xs) rfl ⟨by omega, by omega⟩ ?_
  refine V_ld (pc := 1206) dL_law_1206 (v := vr SC) rfl rfl ?_
  refine V_ld (pc := 1207) dL_law_1207 (v := vi i) rfl rfl ?_
  refine V_iconst (pc := 1208) dL_law_1208 (by unfold I32; omega) ?_
  refine V_iadd (pc := 1209) dL_law_1209 (by unfold I32; omega) ?_
  refine V_sld (pc := 1210) dL_law_1210 (L := L) (xs := xs) rfl ⟨by omega, by omega⟩ ?_
  refine V_ld (pc := 1211) dL_law_1211 (v := vr SC) rfl rfl ?_
  refine V_ld (pc := 1212) dL_law_1212 (v := vi i) rfl rfl ?_
  refine V_iconst (pc := 1213) dL_law_1213 (by unfold I32; omega) ?_
  refine V_iadd (pc := 1214) dL_law_1214 (by unfold I32; omega) ?_
  refine V_sld (pc := 1215) dL_law_1215 (L := L) (xs := xs) rfl ⟨by omega, by omega⟩ ?_
  refine V_ld (pc := 1216) dL_law_1216 (v := vr SC) rfl rfl ?_
  refine V_ld (pc := 1217) dL_law_1217 (v := vi i) rfl rfl ?_
  refine V_iconst (pc := 1218) dL_law_1218 (by unfold I32; omega) ?_
  refine V_iadd (pc := 1219) dL_law_1219 (by unfold I32; omega) ?_
  refine V_sld (pc := 1220) dL_law_1220 (L := L) (xs := xs) rfl ⟨by omega, by omega⟩ ?_
  refine V_callV (pc := 1221) dL_law_1221 (F' := 5) (As := [vi (xs (i + 1).toNat), vi (xs (i + 2).toNat), vi (xs (i + 3).toNat), vi (xs (i + 4).toNat), vi (xs (i + 5).toNat)]) (st := [vi x]) cw_RL_154 rfl rfl h30 (by decide) (Nat.le_of_ble_eq_true rfl) (by omega) hR ?_
  rintro _ m2 ⟨y, rfl, hy⟩ ok2 le2
  obtain ⟨e, hI2⟩ := hE y m2 hy
  exact V_icmp_eq (pc := 1224) dL_law_1224 (tgt := 1255) rfl (fun _ => kx m2 hI2) (fun h => absurd e.symm h)

theorem law_c33 {L : Nat} {xs : Nat → Int} {m0 : Mem} {post : Option AV → Mem → Prop} {tt : Nat} {m : Mem} {i : Int} (hi : 0 ≤ i ∧ i + 6 ≤ (L : Int) ∧ L ≤ 3072) (hI : Inv tt m) (ht : tt ≤ 512) (kx : ∀ m2, Inv (tt + 1) m2 → V (μL L xs) 2048 m0 post 1255 [(3, vi i), (2, vr 30), (1, vr 0), (0, vr SC)] [] m2) : V (μL L xs) 2048 m0 post 1229 [(3, vi i), (2, vr 30), (1, vr 0), (0, vr SC)] [] m := by
  obtain ⟨P, hC, hN⟩ := op_image hI ht 
  have hL := hI.1.2.1
  refine V_ld (pc := 1229) dL_law_1229 (v := vr 0) rfl rfl ?_
  refine V_callV (pc := 1230) dL_law_1230 (F' := 4) (As := []) (st := []) cw_RL_155 rfl rfl hL.t0 (by decide) (Nat.le_of_ble_eq_true rfl) (by omega) hC ?_
  rintro _ m1 ⟨x, rfl, hx⟩ ok1 le1
  obtain ⟨h30, Q, hR, hE⟩ := hN x m1 hx
  refine V_ld (pc := 1233) dL_law_1233 (v := vr 30) rfl rfl ?_
  refine V_callV (pc := 1234) dL_law_1234 (F' := 1) (As := []) (st := [vi x]) cw_RL_158 rfl rfl h30 (by decide) (Nat.le_of_ble_eq_true rfl) (by omega) hR ?_
  rintro _ m2 ⟨y, rfl, hy⟩ ok2 le2
  obtain ⟨e, hI2⟩ := hE y m2 hy
  exact V_icmp_eq (pc := 1237) dL_law_1237 (tgt := 1255) rfl (fun _ => kx m2 hI2) (fun h => absurd e.symm h)

theorem law_c34 {L : Nat} {xs : Nat → Int} {m0 : Mem} {post : Option AV → Mem → Prop} {tt : Nat} {m : Mem} {i : Int} (hi : 0 ≤ i ∧ i + 6 ≤ (L : Int) ∧ L ≤ 3072) (hI : Inv tt m) (ht : tt ≤ 512) (kx : ∀ m2, Inv (tt + 1) m2 → V (μL L xs) 2048 m0 post 1255 [(3, vi i), (2, vr 30), (1, vr 0), (0, vr SC)] [] m2) : V (μL L xs) 2048 m0 post 1242 [(3, vi i), (2, vr 30), (1, vr 0), (0, vr SC)] [] m := by
  obtain ⟨P, hC, hN⟩ := op_undo hI ht 
  have hL := hI.1.2.1
  refine V_ld (pc := 1242) dL_law_1242 (v := vr 0) rfl rfl ?_
  refine V_callV (pc := 1243) dL_law_1243 (F' := 3) (As := []) (st := []) cw_RL_159 rfl rfl hL.t0 (by decide) (Nat.le_of_ble_eq_true rfl) (by omega) hC ?_
  rintro _ m1 ⟨x, rfl, hx⟩ ok1 le1
  obtain ⟨h30, Q, hR, hE⟩ := hN x m1 hx
  refine V_ld (pc := 1246) dL_law_1246 (v := vr 30) rfl rfl ?_
  refine V_callV (pc := 1247) dL_law_1247 (F' := 1) (As := []) (st := [vi x]) cw_RL_162 rfl rfl h30 (by decide) (Nat.le_of_ble_eq_true rfl) (by omega) hR ?_
  rintro _ m2 ⟨y, rfl, hy⟩ ok2 le2
  obtain ⟨e, hI2⟩ := hE y m2 hy
  exact V_icmp_eq (pc := 1250) dL_law_1250 (tgt := 1255) rfl (fun _ => kx m2 hI2) (fun h => absurd e.symm h)

theorem law_loop {L : Nat} {xs : Nat → Int} {m0 : Mem} (hL : L ≤ 3072) : ∀ (d tt : Nat) (m : Mem), Inv tt m → tt ≤ 512 → L ≤ 6 * tt + 6 * d → V (μL L xs) 2048 m0 lpost 18 [(3, vi ((6 * tt : Nat) : Int)), (2, vr 30), (1, vr 0), (0, vr SC)] [] m := by
  intro d
  induction d with
  | zero =>
    intro tt m hI ht hd
    refine V_ld (pc := 18) dL_law_18 (v := vi ((6 * tt : Nat) : Int)) rfl rfl ?_
    refine V_ld (pc := 19) dL_law_19 (v := vr SC) rfl rfl ?_
    refine V_slen (pc := 20) dL_law_20 (L := L) (xs := xs) rfl (fun _ => ?_)
    refine V_bipush (pc := 21) dL_law_21 (by unfold I32; omega) (by decide) ?_
    refine V_isub (pc := 23) dL_law_23 (by unfold I32; omega) ?_
    refine V_icmp_gt (pc := 24) dL_law_24 (tgt := 1261) rfl (fun _ => ?_) (fun h => absurd (by omega) h)
    refine V_iconst (pc := 1261) dL_law_1261 (by unfold I32; omega) ?_
    exact V_ret (pc := 1262) (r := some (vi 1)) dL_law_1262 (Or.inr rfl) rfl
  | succ d ih =>
    intro tt m hI ht hd
    refine V_ld (pc := 18) dL_law_18 (v := vi ((6 * tt : Nat) : Int)) rfl rfl ?_
    refine V_ld (pc := 19) dL_law_19 (v := vr SC) rfl rfl ?_
    refine V_slen (pc := 20) dL_law_20 (L := L) (xs := xs) rfl (fun _ => ?_)
    refine V_bipush (pc := 21) dL_law_21 (by unfold I32; omega) (by decide) ?_
    refine V_isub (pc := 23) dL_law_23 (by unfold I32; omega) ?_
    refine V_icmp_gt (pc := 24) dL_law_24 (tgt := 1261) rfl (fun _ => ?_) (fun hgt => ?_)
    · refine V_iconst (pc := 1261) dL_law_1261 (by unfold I32; omega) ?_
      exact V_ret (pc := 1262) (r := some (vi 1)) dL_law_1262 (Or.inr rfl) rfl
    have kx : ∀ m2, Inv (tt + 1) m2 → V (μL L xs) 2048 m0 lpost 1255 [(3, vi ((6 * tt : Nat) : Int)), (2, vr 30), (1, vr 0), (0, vr SC)] [] m2 := fun m2 hI2 => by
      refine V_iinc (pc := 1255) (x := ((6 * tt : Nat) : Int)) (ls' := [(3, vi (((6 * tt : Nat) : Int) + 6)), (2, vr 30), (1, vr 0), (0, vr SC)]) dL_law_1255 rfl (by unfold I32; omega) (Nat.le_of_ble_eq_true rfl) rfl ?_
      refine V_goto (pc := 1258) dL_law_1258 (tgt := 18) rfl ?_
      rw [show ((6 * tt : Nat) : Int) + 6 = ((6 * (tt + 1) : Nat) : Int) by omega]
      exact ih (tt + 1) m2 hI2 (by omega) (by omega)
    refine V_ld (pc := 27) dL_law_27 (v := vr SC) rfl rfl ?_
    refine V_ld (pc := 28) dL_law_28 (v := vi ((6 * tt : Nat) : Int)) rfl rfl ?_
    refine V_sld (pc := 29) dL_law_29 (L := L) (xs := xs) rfl ⟨by omega, by omega⟩ ?_
    refine V_bipush (pc := 30) dL_law_30 (by unfold I32; omega) (by decide) ?_
    refine V_iand (pc := 32) dL_law_32 ?_
    clear ih
    generalize hx : and32 (xs ((6 * tt : Nat) : Int).toNat) 63 = x
    clear hx
    by_cases h0 : x = 0
    · refine V_tsIn (pc := 33) dL_law_33 (cx := 0) (off := 155) (tgt := 188) h0 (by omega) rfl rfl ?_
      exact law_c0 ⟨by omega, by omega, hL⟩ hI ht kx
    by_cases h1 : x = 1
    · refine V_tsIn (pc := 33) dL_law_33 (cx := 1) (off := 188) (tgt := 221) h1 (by omega) rfl rfl ?_
      exact law_c1 ⟨by omega, by omega, hL⟩ hI ht kx
    by_cases h2 : x = 2
    · refine V_tsIn (pc := 33) dL_law_33 (cx := 2) (off := 231) (tgt := 264) h2 (by omega) rfl rfl ?_
      exact law_c2 ⟨by omega, by omega, hL⟩ hI ht kx
    by_cases h3 : x = 3
    · refine V_tsIn (pc := 33) dL_law_33 (cx := 3) (off := 244) (tgt := 277) h3 (by omega) rfl rfl ?_
      exact law_c3 ⟨by omega, by omega, hL⟩ hI ht kx
    by_cases h4 : x = 4
    · refine V_tsIn (pc := 33) dL_law_33 (cx := 4) (off := 277) (tgt := 310) h4 (by omega) rfl rfl ?_
      exact law_c4 ⟨by omega, by omega, hL⟩ hI ht kx
    by_cases h5 : x = 5
    · refine V_tsIn (pc := 33) dL_law_33 (cx := 5) (off := 300) (tgt := 333) h5 (by omega) rfl rfl ?_
      exact law_c5 ⟨by omega, by omega, hL⟩ hI ht kx
    by_cases h6 : x = 6
    · refine V_tsIn (pc := 33) dL_law_33 (cx := 6) (off := 313) (tgt := 346) h6 (by omega) rfl rfl ?_
      exact law_c6 ⟨by omega, by omega, hL⟩ hI ht kx
    by_cases h7 : x = 7
    · refine V_tsIn (pc := 33) dL_law_33 (cx := 7) (off := 326) (tgt := 359) h7 (by omega) rfl rfl ?_
      exact law_c7 ⟨by omega, by omega, hL⟩ hI ht kx
    by_cases h8 : x = 8
    · refine V_tsIn (pc := 33) dL_law_33 (cx := 8) (off := 339) (tgt := 372) h8 (by omega) rfl rfl ?_
      exact law_c8 ⟨by omega, by omega, hL⟩ hI ht kx
    by_cases h9 : x = 9
    · refine V_tsIn (pc := 33) dL_law_33 (cx := 9) (off := 372) (tgt := 405) h9 (by omega) rfl rfl ?_
      exact law_c9 ⟨by omega, by omega, hL⟩ hI ht kx
    by_cases h10 : x = 10
    · refine V_tsIn (pc := 33) dL_law_33 (cx := 10) (off := 385) (tgt := 418) h10 (by omega) rfl rfl ?_
      exact law_c10 ⟨by omega, by omega, hL⟩ hI ht kx
    by_cases h11 : x = 11
    · refine V_tsIn (pc := 33) dL_law_33 (cx := 11) (off := 408) (tgt := 441) h11 (by omega) rfl rfl ?_
      exact law_c11 ⟨by omega, by omega, hL⟩ hI ht kx
    by_cases h12 : x = 12
    · refine V_tsIn (pc := 33) dL_law_33 (cx := 12) (off := 441) (tgt := 474) h12 (by omega) rfl rfl ?_
      exact law_c12 ⟨by omega, by omega, hL⟩ hI ht kx
    by_cases h13 : x = 13
    · refine V_tsIn (pc := 33) dL_law_33 (cx := 13) (off := 464) (tgt := 497) h13 (by omega) rfl rfl ?_
      exact law_c13 ⟨by omega, by omega, hL⟩ hI ht kx
    by_cases h14 : x = 14
    · refine V_tsIn (pc := 33) dL_law_33 (cx := 14) (off := 487) (tgt := 520) h14 (by omega) rfl rfl ?_
      exact law_c14 ⟨by omega, by omega, hL⟩ hI ht kx
    by_cases h15 : x = 15
    · refine V_tsIn (pc := 33) dL_law_33 (cx := 15) (off := 520) (tgt := 553) h15 (by omega) rfl rfl ?_
      exact law_c15 ⟨by omega, by omega, hL⟩ hI ht kx
    by_cases h16 : x = 16
    · refine V_tsIn (pc := 33) dL_law_33 (cx := 16) (off := 543) (tgt := 576) h16 (by omega) rfl rfl ?_
      exact law_c16 ⟨by omega, by omega, hL⟩ hI ht kx
    by_cases h17 : x = 17
    · refine V_tsIn (pc := 33) dL_law_33 (cx := 17) (off := 566) (tgt := 599) h17 (by omega) rfl rfl ?_
      exact law_c17 ⟨by omega, by omega, hL⟩ hI ht kx
    by_cases h18 : x = 18
    · refine V_tsIn (pc := 33) dL_law_33 (cx := 18) (off := 599) (tgt := 632) h18 (by omega) rfl rfl ?_
      exact law_c18 ⟨by omega, by omega, hL⟩ hI ht kx
    by_cases h19 : x = 19
    · refine V_tsIn (pc := 33) dL_law_33 (cx := 19) (off := 622) (tgt := 655) h19 (by omega) rfl rfl ?_
      exact law_c19 ⟨by omega, by omega, hL⟩ hI ht kx
    by_cases h20 : x = 20
    · refine V_tsIn (pc := 33) dL_law_33 (cx := 20) (off := 655) (tgt := 688) h20 (by omega) rfl rfl ?_
      exact law_c20 ⟨by omega, by omega, hL⟩ hI ht kx
    by_cases h21 : x = 21
    · refine V_tsIn (pc := 33) dL_law_33 (cx := 21) (off := 688) (tgt := 721) h21 (by omega) rfl rfl ?_
      exact law_c21 ⟨by omega, by omega, hL⟩ hI ht kx
    by_cases h22 : x = 22
    · refine V_tsIn (pc := 33) dL_law_33 (cx := 22) (off := 701) (tgt := 734) h22 (by omega) rfl rfl ?_
      exact law_c22 ⟨by omega, by omega, hL⟩ hI ht kx
    by_cases h23 : x = 23
    · refine V_tsIn (pc := 33) dL_law_33 (cx := 23) (off := 734) (tgt := 767) h23 (by omega) rfl rfl ?_
      exact law_c23 ⟨by omega, by omega, hL⟩ hI ht kx
    by_cases h24 : x = 24
    · refine V_tsIn (pc := 33) dL_law_33 (cx := 24) (off := 767) (tgt := 800) h24 (by omega) rfl rfl ?_
      exact law_c24 ⟨by omega, by omega, hL⟩ hI ht kx
    by_cases h25 : x = 25
    · refine V_tsIn (pc := 33) dL_law_33 (cx := 25) (off := 821) (tgt := 854) h25 (by omega) rfl rfl ?_
      exact law_c25 ⟨by omega, by omega, hL⟩ hI ht kx
    by_cases h26 : x = 26
    · refine V_tsIn (pc := 33) dL_law_33 (cx := 26) (off := 844) (tgt := 877) h26 (by omega) rfl rfl ?_
      exact law_c26 ⟨by omega, by omega, hL⟩ hI ht kx
    by_cases h27 : x = 27
    · refine V_tsIn (pc := 33) dL_law_33 (cx := 27) (off := 867) (tgt := 900) h27 (by omega) rfl rfl ?_
      exact law_c27 ⟨by omega, by omega, hL⟩ hI ht kx
    by_cases h28 : x = 28
    · refine V_tsIn (pc := 33) dL_law_33 (cx := 28) (off := 900) (tgt := 933) h28 (by omega) rfl rfl ?_
      exact law_c28 ⟨by omega, by omega, hL⟩ hI ht kx
    by_cases h29 : x = 29
    · refine V_tsIn (pc := 33) dL_law_33 (cx := 29) (off := 973) (tgt := 1006) h29 (by omega) rfl rfl ?_
      exact law_c29 ⟨by omega, by omega, hL⟩ hI ht kx
    by_cases h30 : x = 30
    · refine V_tsIn (pc := 33) dL_law_33 (cx := 30) (off := 1007) (tgt := 1040) h30 (by omega) rfl rfl ?_
      exact law_c30 ⟨by omega, by omega, hL⟩ hI ht kx
    by_cases h31 : x = 31
    · refine V_tsIn (pc := 33) dL_law_33 (cx := 31) (off := 1070) (tgt := 1103) h31 (by omega) rfl rfl ?_
      exact law_c31 ⟨by omega, by omega, hL⟩ hI ht kx
    by_cases h32 : x = 32
    · refine V_tsIn (pc := 33) dL_law_33 (cx := 32) (off := 1133) (tgt := 1166) h32 (by omega) rfl rfl ?_
      exact law_c32 ⟨by omega, by omega, hL⟩ hI ht kx
    by_cases h33 : x = 33
    · refine V_tsIn (pc := 33) dL_law_33 (cx := 33) (off := 1196) (tgt := 1229) h33 (by omega) rfl rfl ?_
      exact law_c33 ⟨by omega, by omega, hL⟩ hI ht kx
    by_cases h34 : x = 34
    · refine V_tsIn (pc := 33) dL_law_33 (cx := 34) (off := 1209) (tgt := 1242) h34 (by omega) rfl rfl ?_
      exact law_c34 ⟨by omega, by omega, hL⟩ hI ht kx
    refine V_tsOut (pc := 33) dL_law_33 (tgt := 1255) (by omega) rfl ?_
    exact kx m hI.tick

theorem law_all {L : Nat} {xs : Nat → Int} {m0 : Mem} (hL : L ≤ 3072) (h0 : St m0 0 0 [] [] []) : V (μL L xs) 2048 m0 lpost 0 [(0, vr SC)] [] m0 := by
  refine V_newv (pc := 0) 0 h0.1 dL_law_0 nw_RL_7 (by unfold NN; omega) (by rw [h0.2.1]; unfold ZZ; omega) ?_
  have h1 := h0.new 10 7 1 7 rfl rfl rfl rfl
  generalize newO m0 10 7 = m1 at h1 ⊢
  refine V_dup (pc := 3) dL_law_3 rfl ?_
  refine V_callI (pc := 4) dL_law_4 (F' := 4) (As := []) (st := [vr 0]) cw_RL_9 rfl rfl (Nat.le_of_ble_eq_true rfl) (by omega) (c_init10 m1 h1) ?_
  rintro _ m2 ⟨rfl, h2⟩ ok2 le2
  refine V_st (pc := 7) dL_law_7 (ls' := [(1, vr 0), (0, vr SC)]) rfl (Nat.le_of_ble_eq_true rfl) rfl ?_
  refine V_newv (pc := 8) 30 h2.1 dL_law_8 nw_RL_10 (by unfold NN; omega) (by rw [h2.2.1]; unfold ZZ; omega) ?_
  have h3 := h2.new 11 53 31 3450 rfl rfl rfl rfl
  generalize newO m2 11 53 = m3 at h3 ⊢
  refine V_dup (pc := 11) dL_law_11 rfl ?_
  refine V_callI (pc := 12) dL_law_12 (F' := 1) (As := []) (st := [vr 30]) cw_RL_12 rfl rfl (Nat.le_of_ble_eq_true rfl) (by omega) (c_init11 m3 h3) ?_
  rintro _ m4 ⟨rfl, h4⟩ ok4 le4
  refine V_st (pc := 15) dL_law_15 (ls' := [(2, vr 30), (1, vr 0), (0, vr SC)]) rfl (Nat.le_of_ble_eq_true rfl) rfl ?_
  refine V_iconst (pc := 16) dL_law_16 (by unfold I32; omega) ?_
  refine V_st (pc := 17) dL_law_17 (ls' := [(3, vi 0), (2, vr 30), (1, vr 0), (0, vr SC)]) rfl (Nat.le_of_ble_eq_true rfl) rfl ?_
  exact law_loop hL L 0 m4 (init_inv h4) (Nat.zero_le _) (by omega)
