/-! ROWS OF THE WALK, 7: rows of references copied; the law's script -/
section ROWS7
variable {μ : MI} {F : Nat} {m0 : Mem} {post : Option AV → Mem → Prop} {pc : Nat} {ls : AL} {st : List AV} {m : Mem}
theorem V_acopyR {a b na nb idx : Nat} {sp dp n : Int} (hd : decode (μc μ) pc = .ok (.invokestatic idx, 3)) (hw : acD (μo μ) idx) (ha : mT m a = (23, na)) (hb : mT m b = (23, nb)) (h1 : 0 ≤ sp) (h2 : 0 ≤ dp) (h3 : 0 ≤ n) (h4 : sp + n ≤ na) (h5 : dp + n ≤ nb) (hel : ∀ k o', mR m a k = some o' → mT m o' = (0, 1)) (hF : 0 < F) (hs : (st.map ac).sum ≤ 8) (next : V μ F m0 post (pc + 3) ls st (cpyR m a sp.toNat b dp.toNat n.toNat)) : V μ F m0 post pc ls (vi n :: vi dp :: vr b :: vi sp :: vr a :: st) m := by
  intro p l e R s mm args below meth c' G ad0 ad H locs la Q C K RR RT RL hls hst hla
  have hM := RL.2.2.2.1
  have hn32 : I32 n := hst (vi n) (by simp)
  have hd32 : I32 dp := hst (vi dp) (by simp)
  have hs32 : I32 sp := hst (vi sp) (by simp)
  have hla' := ok_lt hM ha ⟨by omega, by omega, by omega⟩ (hst (vr a) (by simp))
  have hlb := ok_lt hM hb ⟨by omega, by omega, by omega⟩ (hst (vr b) (by simp))
  have hst' : ∀ v ∈ st, okv (mN m) v := stT (stT (stT (stT (stT hst))))
  have nn : ∀ {x : Int}, I32 x → 0 ≤ x → ¬ Int32.ofInt x < 0 := fun hx h0 => by rw [show (0 : Int32) = Int32.ofInt 0 from rfl, i32_lt hx i32_0]; omega
  have hea := wsM_get (G := G) (ad := ad) hla'
  have heb := wsM_get (G := G) (ad := ad) hlb
  have hloc : ((st.map (cv ad)).map fun v => v.category).sum + (nativeFrameWords "java/lang/System" "arraycopy" 5 + 11) ≤ R.locals := by
    rw [catS]
    have := RR.2.1
    have : nativeFrameWords "java/lang/System" "arraycopy" 5 = 7 := by decide +kernel
    omega
  rw [ent_23 ha] at hea
  rw [ent_23 hb] at heb
  refine va_copyq C.1 C.2.1 (C.2.2.1.trans hla.1.symm) C.2.2.2.1 (C.2.2.2.2.1 _ hw.1) (C.2.2.2.2.1 _ hw.2.1) (C.2.2.2.2.1 _ hw.2.2.1) (C.2.2.2.2.1 _ hw.2.2.2) K.1 RL.1 RL.2.1 RL.2.2.1 a b 3 3 (C := RX0) hea heb rfl rfl (nn hs32 h1) (nn hd32 h2) (nn hn32 h3) (by rw [i32_tn hs32, i32_tn hn32]; omega) (by rw [i32_tn hd32, i32_tn hn32]; omega) (fun i _ y hy => ?_) (fun comp c0 e1 e2 => ?_) (Nat.le_trans hF RR.1) hloc hd ?_
  · cases hk : mR m a ((Int32.ofInt sp).toNatClampNeg + i) with
    | none => rw [hk] at hy; cases hy
    | some o' =>
      rw [hk] at hy
      cases Option.some.inj hy
      have h0 := ok_lt hM (hel _ _ hk) ⟨by decide, by decide, by decide⟩ (hM.2.1 a _ o' hla' hk)
      have he := wsM_get (G := G) (ad := ad) h0
      rw [ent_obj (hel _ _ hk) (by decide)] at he
      exact va_recv (ci := 0) (q := (RX0, TX0, 1)) K.1 RL.1 rfl he
  · rw [e1] at e2
    cases Option.some.inj e2
    exact va_asg _ _
  · rw [i32_tn hs32, i32_tn hd32, i32_tn hn32]
    have e2 : ent G ad (cpyR m a sp.toNat b dp.toNat n.toNat) b = .inl (G.2 3, nb, .inr (.inr (.inr (.inr (va_cpy (fun j => (mR m a j).map ad) (fun j => (mR m b j).map ad) sp.toNat dp.toNat n.toNat))))) := by
      rw [ent_23 (m := cpyR m a sp.toNat b dp.toNat n.toNat) hb]
      refine congrArg (fun f => (.inl (G.2 3, nb, .inr (.inr (.inr (.inr f)))) : va_E)) (funext fun j => ?_)
      show (if b = b ∧ dp.toNat ≤ j ∧ j < dp.toNat + n.toNat then mR m a (sp.toNat + (j - dp.toNat)) else mR m b j).map ad = _
      unfold va_cpy
      by_cases h : dp.toNat ≤ j ∧ j < dp.toNat + n.toNat
      · rw [if_pos ⟨rfl, h⟩, if_pos h]
      · rw [if_neg (fun e => h e.2), if_neg h]
    exact fun H1 locs1 hP hD hS => next p l e R s mm args below meth c' G ad0 ad H1 locs1 la Q C K RR RT (Rl_put (m' := cpyR m a sp.toNat b dp.toNat n.toNat) RL rfl rfl rfl (fun _ _ => rfl) (fun _ _ _ => rfl) (fun q hq j => if_neg (fun e => hq e.1)) e2 (okM_cpyR hM hla' hlb) hP hD hS) hls hst' hla
theorem V_slen (hd : decode (μc μ) pc = .ok (.arraylength, 1)) (next : (mS m).1 ≤ 260 → V μ F m0 post (pc + 1) ls (vi ((mS m).1 : Int) :: st) m) : V μ F m0 post pc ls (vr SC :: st) m := by
  intro p l e R s mm args below meth c' G ad0 ad H locs la Q C K RR RT RL hls hst hla
  have hL := RL.2.2.2.1.2.2.2.2.2.1
  exact va_tlen C.1 C.2.1 RL.2.2.2.2.2.2.2.1.1 RL.2.2.1 (v := Int32.ofInt ((mS m).1 : Int)) Int32.ofInt_eq_ofNat.symm hd (next hL p l e R s mm args below meth c' G ad0 ad H locs la Q C K RR RT RL hls (st1 hst (v := vi ((mS m).1 : Int)) (by show I32 _; unfold I32; omega)) hla)
theorem V_sld {i : Int} (hd : decode (μc μ) pc = .ok (.iaload, 1)) (hi : 0 ≤ i ∧ i < (mS m).1) (next : V μ F m0 post (pc + 1) ls (vi ((mS m).2 i.toNat) :: st) m) : V μ F m0 post pc ls (vi i :: vr SC :: st) m := by
  intro p l e R s mm args below meth c' G ad0 ad H locs la Q C K RR RT RL hls hst hla
  have hi32 : I32 i := hst _ List.mem_cons_self
  refine va_ti C.1 C.2.1 RL.2.2.2.2.2.2.2.1.1 RL.2.2.1 (vpin hi32 hi) (v := .int (Int32.ofInt ((mS m).2 i.toNat))) (by rw [i32_tn hi32]) hd ?_
  exact next p l e R s mm args below meth c' G ad0 ad H locs la Q C K RR RT RL hls (st2 hst (v := vi ((mS m).2 i.toNat)) (RL.2.2.2.1.2.2.2.2.2.2 _)) hla
def csnD (own : String) (idx n : Nat) (μ' : MI) (host : String) : Prop := (Cond.code (μy μ') (μc μ') (μn μ') (μr μ') ∈ lwg ∧ (own, idx, μy μ', host) ∈ lwx ∧ Cond.initialized (μy μ').cls ∈ lwg) ∧ ((μy μ').cls ≠ "java/lang/invoke/MethodHandle" ∧ (μy μ').cls ≠ "java/lang/invoke/VarHandle" ∧ (parseMethodDescriptor (μy μ').desc).map (fun d => d.parameters.length) = some n) ∧ μn μ' ≤ 22 ∧ Cond.static (μy μ') ∈ lwg
theorem V_callSN {μ' : MI} {F' idx n : Nat} {host : String} {As : List AV} {post' : Option AV → Mem → Prop} {stk : List AV} (hd : decode (μc μ) pc = .ok (.invokestatic idx, 3)) (hw : csnD (μo μ) idx n μ' host) (hstk : stk = As.reverse ++ st) (hn : As.length = n) (hs : (st.map ac).sum ≤ 8) (hF : F' < F)
    (hC : Ct μ' F' As m post') (next : ∀ r m', post' r m' → okM m' → (mN m ≤ mN m' ∧ mS m' = mS m) → V μ F m0 post (pc + 3) ls (r.toList ++ st) m') : V μ F m0 post pc ls stk m := by
  intro p l e R s mm args below meth c' G ad0 ad H locs la Q C K RR RT RL hls hst hla
  subst hstk
  obtain ⟨⟨w1, w2, w3⟩, w4, w5, w6⟩ := hw
  have hM := RL.2.2.2.1
  have hargs : ∀ v ∈ As, okv (mN m) v := fun v hv => hst v (List.mem_append_left _ (List.mem_reverse.mpr hv))
  have hst' : ∀ v ∈ st, okv (mN m) v := fun v hv => hst v (List.mem_append_right _ hv)
  have nw : va_Nw (.methodLinkNest (μo μ) idx (μy μ') host) s := K.2.1 _ w2
  exact V_after (post' := post') C K RR RT RL hls hst' hla next (va_runSN (host := host) (As := As.map (cv ad)) (n := n) ⟨C.1, C.2.1, C.2.2.1, C.2.2.2.1, C.2.2.2.2.1⟩ (hC hM hargs l G ad H.size (tot H)) ⟨va_cnB n C.2.2.2.2.1 (lwg_good w1) rfl rfl rfl nw (C.2.2.2.2.1 _ w3) w4 (roomC RR hF w5), C.2.2.2.2.1 _ w6, trivial⟩ ⟨blind, fun U hU hW => ⟨rfl, Pa_of RL K hU hW⟩⟩ rfl (by rw [List.length_map]; exact hn) hla.1 (by rw [List.map_append, List.map_reverse]) (lv_room (by rw [catS]; exact hs)) hd (roomS RL RR))
end ROWS7
