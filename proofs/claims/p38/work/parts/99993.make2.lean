/-! THE LAW'S make(), 2 -/
theorem mN_sI {m : Mem} {o k : Nat} {v : Int} : mN (setI m o k v) = mN m := rfl
theorem mZ_sI {m : Mem} {o k : Nat} {v : Int} : mZ (setI m o k v) = mZ m := rfl
theorem szF_pos (f : Nat) : 1 ≤ szF f := by cases f <;> unfold szF <;> omega
theorem TO.leaf {V : Nat → Nat → Int} {R : Nat → Int} {f lo : Nat} (h5 : R 5 = 0) (h0 : (R 0 = 0 ∧ 0 ≤ R 1 ∧ R 1 ≤ 2) ∨ R 0 = 1 ∨ R 0 = 2) : TO (rowV V lo R) f lo lo := by
  have h : lfR (rowV V lo R) lo := by unfold lfR; rw [rowV_n, rowV_n, rowV_n]; exact ⟨h5, h0⟩
  cases f with
  | zero => exact ⟨rfl, h⟩
  | succ f => exact Or.inl ⟨rfl, h⟩
theorem TO.rep {V : Nat → Nat → Int} {R : Nat → Int} {f lo a : Nat} (h0 : R 0 = 5) (h5 : R 5 = 1) (hQ : QB (R 2) (R 3) (R 4)) (h6 : R 6 = (a : Int)) (ha : lo ≤ a) (hT : TO V f lo a) : TO (rowV V (a + 1) R) (f + 1) lo (a + 1) :=
  Or.inr (Or.inl ⟨rowV_n.trans h0, rowV_n.trans h5, by rw [rowV_n, rowV_n, rowV_n]; exact hQ, a, rfl, rowV_n.trans h6, ha, hT.cong fun q _ h2 => rowV_ne (by omega)⟩)
theorem TO.two {V : Nat → Nat → Int} {R : Nat → Int} {f lo a b : Nat} (h0 : R 0 = 3 ∨ R 0 = 4 ∨ R 0 = 6) (h5 : R 5 = 2) (h6 : R 6 = (a : Int)) (h7 : R 7 = (b : Int)) (ha : lo ≤ a) (hb : a + 1 ≤ b) (hT : TO V f lo a) (hT2 : TO V f (a + 1) b) : TO (rowV V (b + 1) R) (f + 1) lo (b + 1) :=
  Or.inr (Or.inr (Or.inl ⟨by unfold sgR; rw [rowV_n]; exact h0, rowV_n.trans h5, a, b, rfl, rowV_n.trans h6, rowV_n.trans h7, ha, hb, hT.cong fun q _ h2 => rowV_ne (by omega), hT2.cong fun q _ h2 => rowV_ne (by omega)⟩))
theorem TO.three {V : Nat → Nat → Int} {R : Nat → Int} {f lo a b c : Nat} (h0 : R 0 = 3 ∨ R 0 = 4 ∨ R 0 = 6) (h5 : R 5 = 3) (h6 : R 6 = (a : Int)) (h7 : R 7 = (b : Int)) (h8 : R 8 = (c : Int)) (ha : lo ≤ a) (hb : a + 1 ≤ b) (hc : b + 1 ≤ c) (hT : TO V f lo a) (hT2 : TO V f (a + 1) b) (hT3 : TO V f (b + 1) c) : TO (rowV V (c + 1) R) (f + 1) lo (c + 1) :=
  Or.inr (Or.inr (Or.inr ⟨by unfold sgR; rw [rowV_n]; exact h0, rowV_n.trans h5, a, b, c, rfl, rowV_n.trans h6, rowV_n.trans h7, rowV_n.trans h8, ha, hb, hc, hT.cong fun q _ h2 => rowV_ne (by omega), hT2.cong fun q _ h2 => rowV_ne (by omega), hT3.cong fun q _ h2 => rowV_ne (by omega)⟩))
theorem MkI.ini {m : Mem} {tt qc cnt : Nat} {V : Nat → Nat → Int} (h : TbM m tt qc cnt V) : MkI m (newO m 20 10) tt qc cnt cnt V V (fun _ => 0) := by
  have hk : ∀ o, o < mN m → mT (newO m 20 10) o = mT m o ∧ (∀ k, mI (newO m 20 10) o k = mI m o k) ∧ ∀ k, mR (newO m 20 10) o k = mR m o k := fun o ho => ⟨mT_newN (by omega), fun k => mI_newN (by omega), fun k => if_neg (by omega)⟩
  exact ⟨h.mv (Nat.le_succ _) hk, ⟨if_pos rfl, Nat.le_refl _⟩, fun c _ => if_pos rfl, ⟨Nat.le_succ _, fun o ho _ _ => hk o ho⟩, fun j hj => (hk tt h.2.1.1).2.2 j, ⟨Nat.le_refl _, fun j x a b _ => by omega⟩, h, fun _ _ => rfl⟩

set_option maxHeartbeats 16000000 in
theorem L_mkSg {f : Nat} (ih : ∀ (qc cnt : Nat) (V : Nat → Nat → Int) (m : Mem) (a : Int) (tt : Nat) (d : Int) (hT : TbM m tt qc cnt V) (hd : d + ((f : Nat) : Int) = 3 ∧ 0 ≤ d) (ha : 0 ≤ a ∧ a ≤ 20000 + 300 * d) (hc : cnt + szF (f) ≤ 69) (hr : mN m + szF (f) ≤ NN ∧ mZ m + 10 * szF (f) ≤ ZZ), Ct μL_make (f + 2) [vr SC, vi a, vr tt, vi d] m (ri fun x_ m' => (True) ∧ MdP m tt qc (f) cnt V x_ m')) {qc cnt tt : Nat} {V : Nat → Nat → Int} {m mm : Mem} {a d n : Int} {R : Nat → Int} (hI : MkI m mm tt qc cnt cnt V V R) (hs : R 0 = 3 ∨ R 0 = 4 ∨ R 0 = 6) (hR5 : R 5 = 0) (hd : d + ((f + 1 : Nat) : Int) = 3 ∧ 0 ≤ d) (ha : 0 ≤ a ∧ a ≤ 20000 + 300 * d) (hc : cnt + szF (f + 1) ≤ 69) (hr : mN m + szF (f + 1) ≤ NN ∧ mZ m + 10 * szF (f + 1) ≤ ZZ) (hn : 2 ≤ n ∧ n ≤ 3) (hN : mN mm = mN m + 1) (hZ : mZ mm = mZ m + 10) : _root_.Jvm.Pilot.@@N@@.V μL_make (f + 1 + 2) m (ri fun x_ m' => (True) ∧ MdP m tt qc (f + 1) cnt V x_ m') 197 [(0, vr SC), (1, vi a), (2, vr tt), (3, vi d), (5, vi 69), (6, vr (mN m))] [vi n] mm := by
    have hs1 : szF (f + 1) = 1 + 3 * szF f := rfl
    have hsp := szF_pos f
    refine V_st (pc := 197) dL_make_197 (ls' := [(7, vi n), (0, vr SC), (1, vi a), (2, vr tt), (3, vi d), (5, vi 69), (6, vr (mN m))]) rfl (Nat.le_of_ble_eq_true rfl) rfl ?_
    refine V_iconst (pc := 199) dL_make_199 (by unfold I32; omega) ?_
    refine V_st (pc := 200) dL_make_200 (ls' := [(8, vi 0), (7, vi n), (0, vr SC), (1, vi a), (2, vr tt), (3, vi d), (5, vi 69), (6, vr (mN m))]) rfl (Nat.le_of_ble_eq_true rfl) rfl ?_
    skip
    refine V_ld (pc := 202) dL_make_202 (v := vi 0) rfl rfl ?_
    refine V_ld (pc := 204) dL_make_204 (v := vi n) rfl rfl ?_
    refine V_icmp_ge (pc := 206) dL_make_206 (tgt := 254) rfl (fun h206 => ?_) (fun h206 => ?_)
    · skip
      exfalso; omega
    · skip
      skip
      refine V_ld (pc := 209) dL_make_209 (v := vr SC) rfl rfl ?_
      refine V_ld (pc := 210) dL_make_210 (v := vi a) rfl rfl ?_
      refine V_bipush (pc := 211) dL_make_211 (by unfold I32; omega) (by decide) ?_
      refine V_iadd (pc := 213) dL_make_213 (by unfold I32 at *; omega) ?_
      refine V_bipush (pc := 214) dL_make_214 (by unfold I32; omega) (by decide) ?_
      refine V_ld (pc := 216) dL_make_216 (v := vi 0) rfl rfl ?_
      refine V_imul (pc := 218) dL_make_218 (by unfold I32 at *; omega) ?_
      refine V_ld (pc := 219) dL_make_219 (v := vi d) rfl rfl ?_
      refine V_iconst (pc := 220) dL_make_220 (by unfold I32; omega) ?_
      refine V_iadd (pc := 221) dL_make_221 (by unfold I32 at *; omega) ?_
      refine V_imul (pc := 222) dL_make_222 (by unfold I32 at *; omega) ?_
      refine V_iadd (pc := 223) dL_make_223 (by unfold I32 at *; omega) ?_
      refine V_bipush (pc := 224) dL_make_224 (by unfold I32; omega) (by decide) ?_
      refine V_ld (pc := 226) dL_make_226 (v := vi d) rfl rfl ?_
      refine V_imul (pc := 227) dL_make_227 (by unfold I32 at *; omega) ?_
      refine V_iadd (pc := 228) dL_make_228 (by unfold I32 at *; omega) ?_
      refine V_ld (pc := 229) dL_make_229 (v := vr tt) rfl rfl ?_
      refine V_ld (pc := 230) dL_make_230 (v := vi d) rfl rfl ?_
      refine V_iconst (pc := 231) dL_make_231 (by unfold I32; omega) ?_
      refine V_iadd (pc := 232) dL_make_232 (by unfold I32 at *; omega) ?_
      skip
      refine V_callS (pc := 233) dL_make_233 (F' := f + 2) (As := [vr SC, vi (((a + 7) + ((43 * 0) * (d + 1))) + (11 * d)), vr tt, vi (d + 1)]) (st := []) cw_RL_106 rfl rfl (Nat.le_of_ble_eq_true rfl) (by omega) (ih qc cnt V mm (((a + 7) + ((43 * 0) * (d + 1))) + (11 * d)) tt (d + 1)   hI.1 (by omega) (by omega) (by omega) (by omega)) ?_
      rintro _ mk0 ⟨xk0, rfl, -, hk0⟩ ok233 le233
      obtain ⟨Vk0, pk0, hxk0, lk0, rk0, hIk0, tk0, ek0, nk0, zk0⟩ := hI.kid hk0
      subst hxk0
      refine V_st (pc := 236) dL_make_236 (ls' := [(9, vi ((pk0 : Nat) : Int)), (8, vi 0), (7, vi n), (0, vr SC), (1, vi a), (2, vr tt), (3, vi d), (5, vi 69), (6, vr (mN m))]) rfl (Nat.le_of_ble_eq_true rfl) rfl ?_
      refine V_ld (pc := 238) dL_make_238 (v := vr (mN m)) rfl rfl ?_
      refine V_bipush (pc := 240) dL_make_240 (by unfold I32; omega) (by decide) ?_
      refine V_ld (pc := 242) dL_make_242 (v := vi 0) rfl rfl ?_
      refine V_iadd (pc := 244) dL_make_244 (by unfold I32 at *; omega) ?_
      refine V_ld (pc := 245) dL_make_245 (v := vi ((pk0 : Nat) : Int)) rfl rfl ?_
      refine V_iast (pc := 247) dL_make_247 hIk0.2.1.1 (by omega) ?_
      refine V_mem (m' := (setI mk0 (mN m) 6 ((pk0 : Nat) : Int))) rfl ?_
      have hI2 := (hIk0.w (k := 6) (v := ((pk0 : Nat) : Int)))
      have n2 : mN (setI mk0 (mN m) 6 ((pk0 : Nat) : Int)) = mN mk0 := by simp only [mN_sI]
      have z2 : mZ (setI mk0 (mN m) 6 ((pk0 : Nat) : Int)) = mZ mk0 := by simp only [mZ_sI]
      generalize (setI mk0 (mN m) 6 ((pk0 : Nat) : Int)) = mm2 at hI2 n2 z2 ⊢
      refine V_iinc (pc := 248) dL_make_248 (x := 0) (ls' := [(8, vi (0 + 1)), (9, vi ((pk0 : Nat) : Int)), (7, vi n), (0, vr SC), (1, vi a), (2, vr tt), (3, vi d), (5, vi 69), (6, vr (mN m))]) rfl (by unfold I32 at *; omega) (Nat.le_of_ble_eq_true rfl) rfl ?_
      refine V_goto (pc := 251) dL_make_251 (tgt := 202) rfl ?_
      rw [show ((0 : Int) + 1) = 1 from by decide]
      refine V_ld (pc := 202) dL_make_202 (v := vi 1) rfl rfl ?_
      refine V_ld (pc := 204) dL_make_204 (v := vi n) rfl rfl ?_
      refine V_icmp_ge (pc := 206) dL_make_206 (tgt := 254) rfl (fun h206 => ?_) (fun h206 => ?_)
      · skip
        exfalso; omega
      · skip
        skip
        refine V_ld (pc := 209) dL_make_209 (v := vr SC) rfl rfl ?_
        refine V_ld (pc := 210) dL_make_210 (v := vi a) rfl rfl ?_
        refine V_bipush (pc := 211) dL_make_211 (by unfold I32; omega) (by decide) ?_
        refine V_iadd (pc := 213) dL_make_213 (by unfold I32 at *; omega) ?_
        refine V_bipush (pc := 214) dL_make_214 (by unfold I32; omega) (by decide) ?_
        refine V_ld (pc := 216) dL_make_216 (v := vi 1) rfl rfl ?_
        refine V_imul (pc := 218) dL_make_218 (by unfold I32 at *; omega) ?_
        refine V_ld (pc := 219) dL_make_219 (v := vi d) rfl rfl ?_
        refine V_iconst (pc := 220) dL_make_220 (by unfold I32; omega) ?_
        refine V_iadd (pc := 221) dL_make_221 (by unfold I32 at *; omega) ?_
        refine V_imul (pc := 222) dL_make_222 (by unfold I32 at *; omega) ?_
        refine V_iadd (pc := 223) dL_make_223 (by unfold I32 at *; omega) ?_
        refine V_bipush (pc := 224) dL_make_224 (by unfold I32; omega) (by decide) ?_
        refine V_ld (pc := 226) dL_make_226 (v := vi d) rfl rfl ?_
        refine V_imul (pc := 227) dL_make_227 (by unfold I32 at *; omega) ?_
        refine V_iadd (pc := 228) dL_make_228 (by unfold I32 at *; omega) ?_
        refine V_ld (pc := 229) dL_make_229 (v := vr tt) rfl rfl ?_
        refine V_ld (pc := 230) dL_make_230 (v := vi d) rfl rfl ?_
        refine V_iconst (pc := 231) dL_make_231 (by unfold I32; omega) ?_
        refine V_iadd (pc := 232) dL_make_232 (by unfold I32 at *; omega) ?_
        skip
        refine V_callS (pc := 233) dL_make_233 (F' := f + 2) (As := [vr SC, vi (((a + 7) + ((43 * 1) * (d + 1))) + (11 * d)), vr tt, vi (d + 1)]) (st := []) cw_RL_106 rfl rfl (Nat.le_of_ble_eq_true rfl) (by omega) (ih qc (pk0 + 1) Vk0 mm2 (((a + 7) + ((43 * 1) * (d + 1))) + (11 * d)) tt (d + 1)   hI2.1 (by omega) (by omega) (by omega) (by omega)) ?_
        rintro _ mk1 ⟨xk1, rfl, -, hk1⟩ ok233 le233
        obtain ⟨Vk1, pk1, hxk1, lk1, rk1, hIk1, tk1, ek1, nk1, zk1⟩ := hI2.kid hk1
        subst hxk1
        refine V_st (pc := 236) dL_make_236 (ls' := [(9, vi ((pk1 : Nat) : Int)), (8, vi 1), (7, vi n), (0, vr SC), (1, vi a), (2, vr tt), (3, vi d), (5, vi 69), (6, vr (mN m))]) rfl (Nat.le_of_ble_eq_true rfl) rfl ?_
        refine V_ld (pc := 238) dL_make_238 (v := vr (mN m)) rfl rfl ?_
        refine V_bipush (pc := 240) dL_make_240 (by unfold I32; omega) (by decide) ?_
        refine V_ld (pc := 242) dL_make_242 (v := vi 1) rfl rfl ?_
        refine V_iadd (pc := 244) dL_make_244 (by unfold I32 at *; omega) ?_
        refine V_ld (pc := 245) dL_make_245 (v := vi ((pk1 : Nat) : Int)) rfl rfl ?_
        refine V_iast (pc := 247) dL_make_247 hIk1.2.1.1 (by omega) ?_
        refine V_mem (m' := (setI mk1 (mN m) 7 ((pk1 : Nat) : Int))) rfl ?_
        have hI4 := (hIk1.w (k := 7) (v := ((pk1 : Nat) : Int)))
        have n4 : mN (setI mk1 (mN m) 7 ((pk1 : Nat) : Int)) = mN mk1 := by simp only [mN_sI]
        have z4 : mZ (setI mk1 (mN m) 7 ((pk1 : Nat) : Int)) = mZ mk1 := by simp only [mZ_sI]
        generalize (setI mk1 (mN m) 7 ((pk1 : Nat) : Int)) = mm4 at hI4 n4 z4 ⊢
        refine V_iinc (pc := 248) dL_make_248 (x := 1) (ls' := [(8, vi (1 + 1)), (9, vi ((pk1 : Nat) : Int)), (7, vi n), (0, vr SC), (1, vi a), (2, vr tt), (3, vi d), (5, vi 69), (6, vr (mN m))]) rfl (by unfold I32 at *; omega) (Nat.le_of_ble_eq_true rfl) rfl ?_
        refine V_goto (pc := 251) dL_make_251 (tgt := 202) rfl ?_
        rw [show ((1 : Int) + 1) = 2 from by decide]
        refine V_ld (pc := 202) dL_make_202 (v := vi 2) rfl rfl ?_
        refine V_ld (pc := 204) dL_make_204 (v := vi n) rfl rfl ?_
        refine V_icmp_ge (pc := 206) dL_make_206 (tgt := 254) rfl (fun h206 => ?_) (fun h206 => ?_)
        · skip
          skip
          refine V_ld (pc := 254) dL_make_254 (v := vr (mN m)) rfl rfl ?_
          refine V_iconst (pc := 256) dL_make_256 (by unfold I32; omega) ?_
          refine V_ld (pc := 257) dL_make_257 (v := vi n) rfl rfl ?_
          refine V_iast (pc := 259) dL_make_259 hI4.2.1.1 (by omega) ?_
          refine V_ld (pc := 260) dL_make_260 (v := vr (mN m)) rfl rfl ?_
          refine V_iconst (pc := 262) dL_make_262 (by unfold I32; omega) ?_
          refine V_ialdv (pc := 263) dL_make_263 (v := R 0) hI4.2.1.1 (by omega) (by first | exact (hI4.2.2.1 0 (by decide)) | (simp only [mI_setI, up2]; repeat (first | exact (hI4.2.2.1 0 (by decide)) | rw [if_neg (by omega)]))) (fun g263 => ?_)
          refine V_iconst (pc := 264) dL_make_264 (by unfold I32; omega) ?_
          refine V_icmp_ne (pc := 265) dL_make_265 (tgt := 404) rfl (fun h265 => ?_) (fun h265 => ?_)
          · skip
            refine V_mem (m' := (setI mm4 (mN m) 5 n)) rfl ?_
            have hI5 := (hI4.w (k := 5) (v := n))
            have n5 : mN (setI mm4 (mN m) 5 n) = mN mm4 := by simp only [mN_sI]
            have z5 : mZ (setI mm4 (mN m) 5 n) = mZ mm4 := by simp only [mZ_sI]
            generalize (setI mm4 (mN m) 5 n) = mm5 at hI5 n5 z5 ⊢
            refine V_ls (ls' := [(2, vr tt), (5, vi 69), (6, vr (mN m))]) (by intro q_ h_; simp only [List.mem_cons, List.not_mem_nil, or_false] at h_ ⊢; rcases h_ with rfl | rfl | rfl <;> simp) ?_
            exact L_mkEnd hI5 (by omega) (by omega) (TO.two hs (show n = 2 from by omega) rfl rfl (by omega) (by omega) (tk0.cong fun q_ _ h_ => ek1 q_ (by omega)) tk1) (by omega) (by omega)
          · skip
            exfalso; omega
        · skip
          skip
          refine V_ld (pc := 209) dL_make_209 (v := vr SC) rfl rfl ?_
          refine V_ld (pc := 210) dL_make_210 (v := vi a) rfl rfl ?_
          refine V_bipush (pc := 211) dL_make_211 (by unfold I32; omega) (by decide) ?_
          refine V_iadd (pc := 213) dL_make_213 (by unfold I32 at *; omega) ?_
          refine V_bipush (pc := 214) dL_make_214 (by unfold I32; omega) (by decide) ?_
          refine V_ld (pc := 216) dL_make_216 (v := vi 2) rfl rfl ?_
          refine V_imul (pc := 218) dL_make_218 (by unfold I32 at *; omega) ?_
          refine V_ld (pc := 219) dL_make_219 (v := vi d) rfl rfl ?_
          refine V_iconst (pc := 220) dL_make_220 (by unfold I32; omega) ?_
          refine V_iadd (pc := 221) dL_make_221 (by unfold I32 at *; omega) ?_
          refine V_imul (pc := 222) dL_make_222 (by unfold I32 at *; omega) ?_
          refine V_iadd (pc := 223) dL_make_223 (by unfold I32 at *; omega) ?_
          refine V_bipush (pc := 224) dL_make_224 (by unfold I32; omega) (by decide) ?_
          refine V_ld (pc := 226) dL_make_226 (v := vi d) rfl rfl ?_
          refine V_imul (pc := 227) dL_make_227 (by unfold I32 at *; omega) ?_
          refine V_iadd (pc := 228) dL_make_228 (by unfold I32 at *; omega) ?_
          refine V_ld (pc := 229) dL_make_229 (v := vr tt) rfl rfl ?_
          refine V_ld (pc := 230) dL_make_230 (v := vi d) rfl rfl ?_
          refine V_iconst (pc := 231) dL_make_231 (by unfold I32; omega) ?_
          refine V_iadd (pc := 232) dL_make_232 (by unfold I32 at *; omega) ?_
          skip
          refine V_callS (pc := 233) dL_make_233 (F' := f + 2) (As := [vr SC, vi (((a + 7) + ((43 * 2) * (d + 1))) + (11 * d)), vr tt, vi (d + 1)]) (st := []) cw_RL_106 rfl rfl (Nat.le_of_ble_eq_true rfl) (by omega) (ih qc (pk1 + 1) Vk1 mm4 (((a + 7) + ((43 * 2) * (d + 1))) + (11 * d)) tt (d + 1)   hI4.1 (by omega) (by omega) (by omega) (by omega)) ?_
          rintro _ mk2 ⟨xk2, rfl, -, hk2⟩ ok233 le233
          obtain ⟨Vk2, pk2, hxk2, lk2, rk2, hIk2, tk2, ek2, nk2, zk2⟩ := hI4.kid hk2
          subst hxk2
          refine V_st (pc := 236) dL_make_236 (ls' := [(9, vi ((pk2 : Nat) : Int)), (8, vi 2), (7, vi n), (0, vr SC), (1, vi a), (2, vr tt), (3, vi d), (5, vi 69), (6, vr (mN m))]) rfl (Nat.le_of_ble_eq_true rfl) rfl ?_
          refine V_ld (pc := 238) dL_make_238 (v := vr (mN m)) rfl rfl ?_
          refine V_bipush (pc := 240) dL_make_240 (by unfold I32; omega) (by decide) ?_
          refine V_ld (pc := 242) dL_make_242 (v := vi 2) rfl rfl ?_
          refine V_iadd (pc := 244) dL_make_244 (by unfold I32 at *; omega) ?_
          refine V_ld (pc := 245) dL_make_245 (v := vi ((pk2 : Nat) : Int)) rfl rfl ?_
          refine V_iast (pc := 247) dL_make_247 hIk2.2.1.1 (by omega) ?_
          refine V_mem (m' := (setI mk2 (mN m) 8 ((pk2 : Nat) : Int))) rfl ?_
          have hI7 := (hIk2.w (k := 8) (v := ((pk2 : Nat) : Int)))
          have n7 : mN (setI mk2 (mN m) 8 ((pk2 : Nat) : Int)) = mN mk2 := by simp only [mN_sI]
          have z7 : mZ (setI mk2 (mN m) 8 ((pk2 : Nat) : Int)) = mZ mk2 := by simp only [mZ_sI]
          generalize (setI mk2 (mN m) 8 ((pk2 : Nat) : Int)) = mm7 at hI7 n7 z7 ⊢
          refine V_iinc (pc := 248) dL_make_248 (x := 2) (ls' := [(8, vi (2 + 1)), (9, vi ((pk2 : Nat) : Int)), (7, vi n), (0, vr SC), (1, vi a), (2, vr tt), (3, vi d), (5, vi 69), (6, vr (mN m))]) rfl (by unfold I32 at *; omega) (Nat.le_of_ble_eq_true rfl) rfl ?_
          refine V_goto (pc := 251) dL_make_251 (tgt := 202) rfl ?_
          rw [show ((2 : Int) + 1) = 3 from by decide]
          refine V_ld (pc := 202) dL_make_202 (v := vi 3) rfl rfl ?_
          refine V_ld (pc := 204) dL_make_204 (v := vi n) rfl rfl ?_
          refine V_icmp_ge (pc := 206) dL_make_206 (tgt := 254) rfl (fun h206 => ?_) (fun h206 => ?_)
          · skip
            skip
            refine V_ld (pc := 254) dL_make_254 (v := vr (mN m)) rfl rfl ?_
            refine V_iconst (pc := 256) dL_make_256 (by unfold I32; omega) ?_
            refine V_ld (pc := 257) dL_make_257 (v := vi n) rfl rfl ?_
            refine V_iast (pc := 259) dL_make_259 hI7.2.1.1 (by omega) ?_
            refine V_ld (pc := 260) dL_make_260 (v := vr (mN m)) rfl rfl ?_
            refine V_iconst (pc := 262) dL_make_262 (by unfold I32; omega) ?_
            refine V_ialdv (pc := 263) dL_make_263 (v := R 0) hI7.2.1.1 (by omega) (by first | exact (hI7.2.2.1 0 (by decide)) | (simp only [mI_setI, up2]; repeat (first | exact (hI7.2.2.1 0 (by decide)) | rw [if_neg (by omega)]))) (fun g263 => ?_)
            refine V_iconst (pc := 264) dL_make_264 (by unfold I32; omega) ?_
            refine V_icmp_ne (pc := 265) dL_make_265 (tgt := 404) rfl (fun h265 => ?_) (fun h265 => ?_)
            · skip
              refine V_mem (m' := (setI mm7 (mN m) 5 n)) rfl ?_
              have hI8 := (hI7.w (k := 5) (v := n))
              have n8 : mN (setI mm7 (mN m) 5 n) = mN mm7 := by simp only [mN_sI]
              have z8 : mZ (setI mm7 (mN m) 5 n) = mZ mm7 := by simp only [mZ_sI]
              generalize (setI mm7 (mN m) 5 n) = mm8 at hI8 n8 z8 ⊢
              refine V_ls (ls' := [(2, vr tt), (5, vi 69), (6, vr (mN m))]) (by intro q_ h_; simp only [List.mem_cons, List.not_mem_nil, or_false] at h_ ⊢; rcases h_ with rfl | rfl | rfl <;> simp) ?_
              exact L_mkEnd hI8 (by omega) (by omega) (TO.three hs (show n = 3 from by omega) rfl rfl rfl (by omega) (by omega) (by omega) (tk0.cong fun q_ _ h_ => (ek2 q_ (by omega)).trans (ek1 q_ (by omega))) (tk1.cong fun q_ _ h_ => ek2 q_ (by omega)) tk2) (by omega) (by omega)
            · skip
              exfalso; omega
          · skip
            exfalso; omega

