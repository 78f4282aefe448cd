/-! spell(): the reference writes a part -/
def brS (b : Int) (l : List Int) : List Int := (if b = 1 then [40] else []) ++ (l ++ (if b = 1 then [41] else []))
theorem brS_if {c : Prop} [Decidable c] {l : List Int} : brS (if c then 1 else 0) l = (if c then [40] else []) ++ (l ++ (if c then [41] else [])) := by
  by_cases h : c
  · rw [if_pos h, if_pos h, if_pos h]; rfl
  · rw [if_neg h, if_neg h, if_neg h]; rfl
/-- r kids are left, from k on -/
def KidO (T : Tb) (p : Int) (r : Nat) (k : Int) : Prop := (r = 0 ∧ k = -5) ∨ ∃ l, Pth T ((0 : Nat) : Int) p r k l ∧ T l.toNat 8 = -5
theorem KidO.z {T : Tb} {p k : Int} (h : KidO T p 0 k) : k = -5 := h.elim (fun h => h.2) (fun ⟨_, h, _⟩ => h.elim)
theorem KidO.s {T : Tb} {p k : Int} {r : Nat} (h : KidO T p (r + 1) k) : 0 ≤ k ∧ k < p ∧ KidO T p r (T k.toNat 8) := by
  rcases h with h | ⟨l, hP, h8⟩
  · exact absurd h.1 (by omega)
  · have hb := Pth.bd hP
    refine ⟨by omega, by omega, ?_⟩
    cases r with
    | zero =>
      obtain ⟨rfl, -⟩ := hP
      exact Or.inl ⟨rfl, h8⟩
    | succ r => exact Or.inr ⟨l, hP.2.2.2, h8⟩
def sgS (o : Int) : Int := if o = 4 then 124 else if o = 6 then 44 else 0
theorem sgS_sep (o : Int) : sepS o = if sgS o = 0 then [] else [sgS o] := by
  unfold sepS sgS
  by_cases h4 : o = 4
  · rw [if_pos h4, if_pos h4]; rfl
  · rw [if_neg h4, if_neg h4]
    by_cases h6 : o = 6
    · rw [if_pos h6, if_pos h6]; rfl
    · rw [if_neg h6, if_neg h6]; rfl

theorem smC_nn {F : Tb} {o a b : Int} (h : ∀ x : Nat, (x : Int) < b → 0 ≤ F x 11) (ha : 0 ≤ a) : ∀ {q : Nat} {k l : Int}, Pth F a b q k l → 0 ≤ smC F o q k
  | 0, _, _, h => h.elim
  | 1, k, l, hP => by
    obtain ⟨rfl, h1, h2⟩ := hP
    have := h k.toNat (by omega)
    show 0 ≤ F k.toNat 11 + (if needB o (F k.toNat 0) then 2 else 0) + 0
    split <;> omega
  | q + 2, k, l, hP => by
    obtain ⟨h1, h2, h3, h4⟩ := hP
    have i := smC_nn (o := o) h ha h4
    have := h k.toNat (by omega)
    show 0 ≤ F k.toNat 11 + (if needB o (F k.toNat 0) then 2 else 0) + smC F o (q + 1) (F k.toNat 8)
    split <;> omega
theorem t11_n {T : Tb} {c : Nat} (hW : WfT T 0 c) : ∀ (d p : Nat), p < c → p < d → 0 ≤ T p 11
  | 0, p, _, h => by omega
  | d + 1, p, hp, h => by
    rcases hW p (Nat.zero_le _) hp with e | e
    · have := e.2.2.2.2.2.2; omega
    · obtain ⟨q, l, i1, i2, i3, i4, i5, i6, i7, i8, i9, i10, i11, i12⟩ := e
      have s := smC_nn (F := T) (o := T p 0) (b := (p : Int)) (fun x hx => t11_n hW d x (by omega) (by omega)) (Int.le_refl _) i4
      have ql := qLen_p (lo := T p 3) (hi := T p 4) (mo := T p 5)
      have x : 0 ≤ exL (T p 0) q (T p 3) (T p 4) (T p 5) := by
        unfold exL
        split
        · omega
        · split
          · omega
          · split <;> omega
      omega
theorem t11_p {T : Tb} {c p : Nat} (hW : WfT T 0 c) (hp : p < c) : 0 ≤ T p 11 := t11_n hW (p + 1) p hp (by omega)

def CRs (T : Tb) (c f : Nat) : Prop := ∀ (m : Mem) (p : Int) (b : Int)   (hL : Lay (mT m) (mR m)) (hT : RTab (mI m) T c) (hp : 0 ≤ p ∧ p < (c : Int) ∧ c ≤ 240) (hb : b = 0 ∨ b = 1) (hh : T p.toNat 10 < (f : Int)) (hr : 0 ≤ mI m 30 22 ∧ mI m 30 22 + T p.toNat 11 + 2 * b ≤ 120), Ct μX11_spells (f + 3) [vr 30, vi p, vi b] m (rv fun m' => apM 30 22 44 m (brS b (splF T f p.toNat)) = m')

set_option maxHeartbeats 16000000 in
theorem L_rsp {F : Nat} {m0 m : Mem} {post : Option AV → Mem → Prop} {c f : Nat} {T : Tb} {p b : Int} (hF : f + 3 < F) (hL : Lay (mT m) (mR m)) (hT : RTab (mI m) T c) (hp : 0 ≤ p ∧ p < (c : Int) ∧ c ≤ 240) (hW : WfT T 0 c) (hsub : CRs T c f) (h0 : 0 ≤ mI m 30 22) : ∀ (r i : Nat) (k s : Int) (w : List Int), KidO T p r k → (r = 0 ∨ mxC T 10 r k < (f : Int)) → s = (if i = 0 then 0 else sgS (T p.toNat 0)) → mI m 30 22 + (w.length : Int) + (((kidS T (splF T f) (T p.toNat 0) (decide (i = 0)) r k).length : Nat) : Int) ≤ 120 → (∀ s', V μX11_spells F m0 post 281 [(4, vi (-5)), (3, vi s'), (0, vr 30), (1, vi p), (2, vi b)] [] (apM 30 22 44 m (w ++ (kidS T (splF T f) (T p.toNat 0) (decide (i = 0)) r k)))) → V μX11_spells F m0 post 112 [(4, vi k), (3, vi s), (0, vr 30), (1, vi p), (2, vi b)] [] (apM 30 22 44 m w) := by
  intro r
  induction r with
  | zero =>
    intro i k s w hP hm hs hr kx
    obtain rfl : k = -5 := hP.z
    refine V_ld (pc := 112) dX11_spells_112 (v := vi (-5)) rfl rfl ?_
    refine V_if_lt (pc := 114) dX11_spells_114 (tgt := 281) rfl (fun _ => ?_) (fun h_ => absurd h_ (by decide))
    have h_ := kx s
    rw [show w ++ kidS T (splF T f) (T p.toNat 0) (decide (i = 0)) 0 (-5) = w from List.append_nil w] at h_
    skip
    exact h_
  | succ r ih =>
    intro i k s w hP hm hs hr kx
    obtain ⟨hk0, hkp, hP2⟩ := hP.s
    have hqp := (hT p.toNat (by omega)).1
    have hqk := (hT k.toNat (by omega)).1
    have hqk8 := (hT k.toNat (by omega)).2.2.2.2.2.2.2.2
    have hm' : max (T k.toNat 10) (mxC T 10 r (T k.toNat 8)) < (f : Int) := hm.resolve_left (by omega)
    have hdec : decide (i + 1 = 0) = false := decide_eq_false (by omega)
    have hKS : kidS T (splF T f) (T p.toNat 0) (decide (i = 0)) (r + 1) k = (if i = 0 then [] else sepS (T p.toNat 0)) ++ ((if needB (T p.toNat 0) (T k.toNat 0) then [40] else []) ++ (splF T f k.toNat ++ ((if needB (T p.toNat 0) (T k.toNat 0) then [41] else []) ++ kidS T (splF T f) (T p.toNat 0) false r (T k.toNat 8)))) := by
      show (if decide (i = 0) = true then [] else sepS (T p.toNat 0)) ++ _ = _
      by_cases c : i = 0
      · rw [if_pos (decide_eq_true c), if_pos c]
      · rw [if_neg (by rw [decide_eq_false c]; decide), if_neg c]
    have hlen := splF_len hW f k.toNat (by omega) (by omega)
    rw [hKS] at hr
    simp only [List.length_append, Int.natCast_add] at hr
    have hl1 : (((if i = 0 then [] else sepS (T p.toNat 0)).length : Nat) : Int) = if i = 0 then 0 else if sgS (T p.toNat 0) = 0 then 0 else 1 := by
      rw [sgS_sep]
      by_cases c1 : i = 0
      · rw [if_pos c1, if_pos c1]; rfl
      · rw [if_neg c1, if_neg c1]
        by_cases c2 : sgS (T p.toNat 0) = 0
        · rw [if_pos c2, if_pos c2]; rfl
        · rw [if_neg c2, if_neg c2]; rfl
    have hl2 : ∀ x : Int, (((if needB (T p.toNat 0) (T k.toNat 0) then [x] else []).length : Nat) : Int) = if needB (T p.toNat 0) (T k.toNat 0) then 1 else 0 := fun x => by
      by_cases c : needB (T p.toNat 0) (T k.toNat 0)
      · rw [if_pos c, if_pos c]; rfl
      · rw [if_neg c, if_neg c]; rfl
    have hr2 := hr
    rw [hl1, hl2, hl2] at hr2
    have hsz : (i = 0 ∧ s = 0) ∨ (i ≠ 0 ∧ s = sgS (T p.toNat 0)) := by
      by_cases c : i = 0
      · rw [if_pos c] at hs; exact Or.inl ⟨c, hs⟩
      · rw [if_neg c] at hs; exact Or.inr ⟨c, hs⟩
    have hr1 : mI m 30 22 + (w.length : Int) + T k.toNat 11 + (if s = 0 then 0 else 1) + (if needB (T p.toNat 0) (T k.toNat 0) then 2 else 0) ≤ 120 := by
      rcases hsz with ⟨c, e⟩ | ⟨c, e⟩
      · rw [if_pos c] at hr2
        rw [if_pos e]
        split at hr2 <;> rename_i hx <;> (first | rw [if_pos hx] | rw [if_neg hx]) <;> omega
      · rw [if_neg c, ← e] at hr2
        split at hr2 <;> rename_i hx <;> (first | rw [if_pos hx] | rw [if_neg hx]) <;> split at hr2 <;> rename_i hy <;> (first | rw [if_pos hy] | rw [if_neg hy]) <;> omega
    obtain ⟨nb, hnb⟩ : ∃ nb : Int, (if needB (T p.toNat 0) (T k.toNat 0) then 1 else 0) = nb := ⟨_, rfl⟩
    have hrs : mI m 30 22 + (w.length : Int) ≤ 120 ∧ (s ≠ 0 → mI m 30 22 + (w.length : Int) + 1 + T k.toNat 11 + 2 * nb ≤ 120) ∧ (s = 0 → mI m 30 22 + (w.length : Int) + T k.toNat 11 + 2 * nb ≤ 120) ∧ (nb = 0 ∨ nb = 1) ∧ 0 ≤ T k.toNat 11 := by
      have t11 := t11_p hW (p := k.toNat) (by clear hr hr2 hr1 hl1 hl2 hs hsz hm hm'; omega)
      clear hr hr2 hl1 hl2 hs hsz hm hm'
      split at hr1 <;> rename_i hx <;> split at hr1 <;> rename_i hy <;> (first | rw [if_pos hy] at hnb | rw [if_neg hy] at hnb) <;> omega
    have hrU := fun (_ : Unit) => hr
    have hsU := fun (_ : Unit) => hsz
    have hnU := fun (_ : Unit) => hnb
    have hm2 : T k.toNat 10 < (f : Int) ∧ mxC T 10 r (T k.toNat 8) < (f : Int) := by clear hr hr2 hr1 hl1 hl2 hs hsz hnb hrs hrU hsU hnU hlen; omega
    clear hr hr2 hr1 hl1 hl2 hs hsz hnb hm hm'
    refine V_ld (pc := 112) dX11_spells_112 (v := vi k) rfl rfl ?_
    refine V_if_lt (pc := 114) dX11_spells_114 (tgt := 281) rfl (fun h114 => ?_) (fun h114 => ?_)
    · skip
      exfalso; omega
    · skip
      refine V_ld (pc := 117) dX11_spells_117 (v := vi s) rfl rfl ?_
      refine V_if_eq (pc := 118) dX11_spells_118 (tgt := 126) rfl (fun h118 => ?_) (fun h118 => ?_)
      · skip
        suffices k159_ : V μX11_spells F m0 post 159 [(4, vi k), (3, vi (sgS (T p.toNat 0))), (0, vr 30), (1, vi p), (2, vi b)] [] (apM 30 22 44 m w) by
          refine V_ld (pc := 126) dX11_spells_126 (v := vr 30) rfl rfl ?_
          refine V_getRv (pc := 127) dX11_spells_127 (o' := 35) fw_RX11_24 rfl hL.t30 hL.r30_10 ?_
          refine V_ld (pc := 130) dX11_spells_130 (v := vi p) rfl rfl ?_
          refine V_ialdv (pc := 131) dX11_spells_131 (v := (T p.toNat 0)) hL.t35 (by omega) ((apM_ne (by omega) (by omega)).trans hqp) (fun g131 => ?_)
          refine V_iconst (pc := 132) dX11_spells_132 (by unfold I32; omega) ?_
          refine V_icmp_ne (pc := 133) dX11_spells_133 (tgt := 141) rfl (fun h133 => ?_) (fun h133 => ?_)
          · skip
            refine V_ld (pc := 141) dX11_spells_141 (v := vr 30) rfl rfl ?_
            refine V_getRv (pc := 142) dX11_spells_142 (o' := 35) fw_RX11_24 rfl hL.t30 hL.r30_10 ?_
            refine V_ld (pc := 145) dX11_spells_145 (v := vi p) rfl rfl ?_
            refine V_ialdv (pc := 146) dX11_spells_146 (v := (T p.toNat 0)) hL.t35 (by omega) ((apM_ne (by omega) (by omega)).trans hqp) (fun g146 => ?_)
            refine V_bipush (pc := 147) dX11_spells_147 (by unfold I32; omega) (by decide) ?_
            refine V_icmp_ne (pc := 149) dX11_spells_149 (tgt := 157) rfl (fun h149 => ?_) (fun h149 => ?_)
            · skip
              refine V_iconst (pc := 157) dX11_spells_157 (by unfold I32; omega) ?_
              refine V_st (pc := 158) dX11_spells_158 (ls' := [(3, vi 0), (4, vi k), (0, vr 30), (1, vi p), (2, vi b)]) rfl (Nat.le_of_ble_eq_true rfl) rfl ?_
              have e_ : sgS (T p.toNat 0) = 0 := by
                unfold sgS
                first
                  | (rw [if_pos (by omega)])
                  | (rw [if_neg (by omega), if_pos (by omega)])
                  | (rw [if_neg (by omega), if_neg (by omega)])
              rw [e_] at k159_
              refine V_ls (ls' := [(4, vi k), (3, vi 0), (0, vr 30), (1, vi p), (2, vi b)]) (by intro q_ h_; simp only [List.mem_cons, List.not_mem_nil, or_false] at h_ ⊢; rcases h_ with rfl | rfl | rfl | rfl | rfl <;> simp) ?_
              exact k159_
            · skip
              refine V_bipush (pc := 152) dX11_spells_152 (by unfold I32; omega) (by decide) ?_
              refine V_goto (pc := 154) dX11_spells_154 (tgt := 158) rfl ?_
              refine V_st (pc := 158) dX11_spells_158 (ls' := [(3, vi 44), (4, vi k), (0, vr 30), (1, vi p), (2, vi b)]) rfl (Nat.le_of_ble_eq_true rfl) rfl ?_
              have e_ : sgS (T p.toNat 0) = 44 := by
                unfold sgS
                first
                  | (rw [if_pos (by omega)])
                  | (rw [if_neg (by omega), if_pos (by omega)])
                  | (rw [if_neg (by omega), if_neg (by omega)])
              rw [e_] at k159_
              refine V_ls (ls' := [(4, vi k), (3, vi 44), (0, vr 30), (1, vi p), (2, vi b)]) (by intro q_ h_; simp only [List.mem_cons, List.not_mem_nil, or_false] at h_ ⊢; rcases h_ with rfl | rfl | rfl | rfl | rfl <;> simp) ?_
              exact k159_
          · skip
            refine V_bipush (pc := 136) dX11_spells_136 (by unfold I32; omega) (by decide) ?_
            refine V_goto (pc := 138) dX11_spells_138 (tgt := 158) rfl ?_
            refine V_st (pc := 158) dX11_spells_158 (ls' := [(3, vi 124), (4, vi k), (0, vr 30), (1, vi p), (2, vi b)]) rfl (Nat.le_of_ble_eq_true rfl) rfl ?_
            have e_ : sgS (T p.toNat 0) = 124 := by
              unfold sgS
              first
                | (rw [if_pos (by omega)])
                | (rw [if_neg (by omega), if_pos (by omega)])
                | (rw [if_neg (by omega), if_neg (by omega)])
            rw [e_] at k159_
            refine V_ls (ls' := [(4, vi k), (3, vi 124), (0, vr 30), (1, vi p), (2, vi b)]) (by intro q_ h_; simp only [List.mem_cons, List.not_mem_nil, or_false] at h_ ⊢; rcases h_ with rfl | rfl | rfl | rfl | rfl <;> simp) ?_
            exact k159_
        suffices k266_ : V μX11_spells F m0 post 266 [(4, vi k), (3, vi (sgS (T p.toNat 0))), (0, vr 30), (1, vi p), (2, vi b)] [vi nb, vi k, vr 30] (apM 30 22 44 m w) by
          refine V_ld (pc := 159) dX11_spells_159 (v := vr 30) rfl rfl ?_
          refine V_getRv (pc := 160) dX11_spells_160 (o' := 35) fw_RX11_24 rfl hL.t30 hL.r30_10 ?_
          refine V_ld (pc := 163) dX11_spells_163 (v := vi k) rfl rfl ?_
          refine V_ialdv (pc := 165) dX11_spells_165 (v := (T k.toNat 0)) hL.t35 (by omega) ((apM_ne (by omega) (by omega)).trans hqk) (fun g165 => ?_)
          refine V_iconst (pc := 166) dX11_spells_166 (by unfold I32; omega) ?_
          refine V_icmp_eq (pc := 167) dX11_spells_167 (tgt := 181) rfl (fun h167 => ?_) (fun h167 => ?_)
          · skip
            refine V_iconst (pc := 181) dX11_spells_181 (by unfold I32; omega) ?_
            refine V_goto (pc := 182) dX11_spells_182 (tgt := 186) rfl ?_
            refine V_st (pc := 186) dX11_spells_186 (ls' := [(5, vi 1), (4, vi k), (3, vi (sgS (T p.toNat 0))), (0, vr 30), (1, vi p), (2, vi b)]) rfl (Nat.le_of_ble_eq_true rfl) rfl ?_
            refine V_ld (pc := 188) dX11_spells_188 (v := vr 30) rfl rfl ?_
            refine V_ld (pc := 189) dX11_spells_189 (v := vi k) rfl rfl ?_
            refine V_ld (pc := 191) dX11_spells_191 (v := vr 30) rfl rfl ?_
            refine V_getRv (pc := 192) dX11_spells_192 (o' := 35) fw_RX11_24 rfl hL.t30 hL.r30_10 ?_
            refine V_ld (pc := 195) dX11_spells_195 (v := vi p) rfl rfl ?_
            refine V_ialdv (pc := 196) dX11_spells_196 (v := (T p.toNat 0)) hL.t35 (by omega) ((apM_ne (by omega) (by omega)).trans hqp) (fun g196 => ?_)
            refine V_iconst (pc := 197) dX11_spells_197 (by unfold I32; omega) ?_
            refine V_icmp_ne (pc := 198) dX11_spells_198 (tgt := 225) rfl (fun h198 => ?_) (fun h198 => ?_)
            · skip
              refine V_ld (pc := 225) dX11_spells_225 (v := vr 30) rfl rfl ?_
              refine V_getRv (pc := 226) dX11_spells_226 (o' := 35) fw_RX11_24 rfl hL.t30 hL.r30_10 ?_
              refine V_ld (pc := 229) dX11_spells_229 (v := vi p) rfl rfl ?_
              refine V_ialdv (pc := 230) dX11_spells_230 (v := (T p.toNat 0)) hL.t35 (by omega) ((apM_ne (by omega) (by omega)).trans hqp) (fun g230 => ?_)
              refine V_iconst (pc := 231) dX11_spells_231 (by unfold I32; omega) ?_
              refine V_icmp_ne (pc := 232) dX11_spells_232 (tgt := 240) rfl (fun h232 => ?_) (fun h232 => ?_)
              · skip
                refine V_ld (pc := 240) dX11_spells_240 (v := vr 30) rfl rfl ?_
                refine V_getRv (pc := 241) dX11_spells_241 (o' := 35) fw_RX11_24 rfl hL.t30 hL.r30_10 ?_
                refine V_ld (pc := 244) dX11_spells_244 (v := vi p) rfl rfl ?_
                refine V_ialdv (pc := 245) dX11_spells_245 (v := (T p.toNat 0)) hL.t35 (by omega) ((apM_ne (by omega) (by omega)).trans hqp) (fun g245 => ?_)
                refine V_iconst (pc := 246) dX11_spells_246 (by unfold I32; omega) ?_
                refine V_icmp_ne (pc := 247) dX11_spells_247 (tgt := 265) rfl (fun h247 => ?_) (fun h247 => ?_)
                · skip
                  refine V_iconst (pc := 265) dX11_spells_265 (by unfold I32; omega) ?_
                  have e_ : nb = 0 := by
                    rw [← hnU ()]
                    first | exact if_pos (by omega) | exact if_neg (by omega)
                  rw [e_] at k266_
                  refine V_ls (ls' := [(4, vi k), (3, vi (sgS (T p.toNat 0))), (0, vr 30), (1, vi p), (2, vi b)]) (by intro q_ h_; simp only [List.mem_cons, List.not_mem_nil, or_false] at h_ ⊢; rcases h_ with rfl | rfl | rfl | rfl | rfl <;> simp) ?_
                  exact k266_
                · skip
                  refine V_ld (pc := 250) dX11_spells_250 (v := vr 30) rfl rfl ?_
                  refine V_getRv (pc := 251) dX11_spells_251 (o' := 35) fw_RX11_24 rfl hL.t30 hL.r30_10 ?_
                  refine V_ld (pc := 254) dX11_spells_254 (v := vi k) rfl rfl ?_
                  refine V_ialdv (pc := 256) dX11_spells_256 (v := (T k.toNat 0)) hL.t35 (by omega) ((apM_ne (by omega) (by omega)).trans hqk) (fun g256 => ?_)
                  refine V_iconst (pc := 257) dX11_spells_257 (by unfold I32; omega) ?_
                  refine V_icmp_ne (pc := 258) dX11_spells_258 (tgt := 265) rfl (fun h258 => ?_) (fun h258 => ?_)
                  · skip
                    refine V_iconst (pc := 265) dX11_spells_265 (by unfold I32; omega) ?_
                    have e_ : nb = 0 := by
                      rw [← hnU ()]
                      first | exact if_pos (by omega) | exact if_neg (by omega)
                    rw [e_] at k266_
                    refine V_ls (ls' := [(4, vi k), (3, vi (sgS (T p.toNat 0))), (0, vr 30), (1, vi p), (2, vi b)]) (by intro q_ h_; simp only [List.mem_cons, List.not_mem_nil, or_false] at h_ ⊢; rcases h_ with rfl | rfl | rfl | rfl | rfl <;> simp) ?_
                    exact k266_
                  · skip
                    refine V_iconst (pc := 261) dX11_spells_261 (by unfold I32; omega) ?_
                    refine V_goto (pc := 262) dX11_spells_262 (tgt := 266) rfl ?_
                    have e_ : nb = 1 := by
                      rw [← hnU ()]
                      first | exact if_pos (by omega) | exact if_neg (by omega)
                    rw [e_] at k266_
                    refine V_ls (ls' := [(4, vi k), (3, vi (sgS (T p.toNat 0))), (0, vr 30), (1, vi p), (2, vi b)]) (by intro q_ h_; simp only [List.mem_cons, List.not_mem_nil, or_false] at h_ ⊢; rcases h_ with rfl | rfl | rfl | rfl | rfl <;> simp) ?_
                    exact k266_
              · skip
                refine V_ld (pc := 235) dX11_spells_235 (v := vi 1) rfl rfl ?_
                refine V_goto (pc := 237) dX11_spells_237 (tgt := 266) rfl ?_
                have e_ : nb = 1 := by
                  rw [← hnU ()]
                  first | exact if_pos (by omega) | exact if_neg (by omega)
                rw [e_] at k266_
                refine V_ls (ls' := [(4, vi k), (3, vi (sgS (T p.toNat 0))), (0, vr 30), (1, vi p), (2, vi b)]) (by intro q_ h_; simp only [List.mem_cons, List.not_mem_nil, or_false] at h_ ⊢; rcases h_ with rfl | rfl | rfl | rfl | rfl <;> simp) ?_
                exact k266_
            · skip
              refine V_ld (pc := 201) dX11_spells_201 (v := vi 1) rfl rfl ?_
              refine V_if_ne (pc := 203) dX11_spells_203 (tgt := 217) rfl (fun _ => ?_) (fun h_ => absurd h_ (by decide))
              refine V_iconst (pc := 217) dX11_spells_217 (by unfold I32; omega) ?_
              refine V_goto (pc := 218) dX11_spells_218 (tgt := 266) rfl ?_
              have e_ : nb = 1 := by
                rw [← hnU ()]
                first | exact if_pos (by omega) | exact if_neg (by omega)
              rw [e_] at k266_
              refine V_ls (ls' := [(4, vi k), (3, vi (sgS (T p.toNat 0))), (0, vr 30), (1, vi p), (2, vi b)]) (by intro q_ h_; simp only [List.mem_cons, List.not_mem_nil, or_false] at h_ ⊢; rcases h_ with rfl | rfl | rfl | rfl | rfl <;> simp) ?_
              exact k266_
          · skip
            refine V_ld (pc := 170) dX11_spells_170 (v := vr 30) rfl rfl ?_
            refine V_getRv (pc := 171) dX11_spells_171 (o' := 35) fw_RX11_24 rfl hL.t30 hL.r30_10 ?_
            refine V_ld (pc := 174) dX11_spells_174 (v := vi k) rfl rfl ?_
            refine V_ialdv (pc := 176) dX11_spells_176 (v := (T k.toNat 0)) hL.t35 (by omega) ((apM_ne (by omega) (by omega)).trans hqk) (fun g176 => ?_)
            refine V_iconst (pc := 177) dX11_spells_177 (by unfold I32; omega) ?_
            refine V_icmp_ne (pc := 178) dX11_spells_178 (tgt := 185) rfl (fun h178 => ?_) (fun h178 => ?_)
            · skip
              refine V_iconst (pc := 185) dX11_spells_185 (by unfold I32; omega) ?_
              refine V_st (pc := 186) dX11_spells_186 (ls' := [(5, vi 0), (4, vi k), (3, vi (sgS (T p.toNat 0))), (0, vr 30), (1, vi p), (2, vi b)]) rfl (Nat.le_of_ble_eq_true rfl) rfl ?_
              refine V_ld (pc := 188) dX11_spells_188 (v := vr 30) rfl rfl ?_
              refine V_ld (pc := 189) dX11_spells_189 (v := vi k) rfl rfl ?_
              refine V_ld (pc := 191) dX11_spells_191 (v := vr 30) rfl rfl ?_
              refine V_getRv (pc := 192) dX11_spells_192 (o' := 35) fw_RX11_24 rfl hL.t30 hL.r30_10 ?_
              refine V_ld (pc := 195) dX11_spells_195 (v := vi p) rfl rfl ?_
              refine V_ialdv (pc := 196) dX11_spells_196 (v := (T p.toNat 0)) hL.t35 (by omega) ((apM_ne (by omega) (by omega)).trans hqp) (fun g196 => ?_)
              refine V_iconst (pc := 197) dX11_spells_197 (by unfold I32; omega) ?_
              refine V_icmp_ne (pc := 198) dX11_spells_198 (tgt := 225) rfl (fun h198 => ?_) (fun h198 => ?_)
              · skip
                refine V_ld (pc := 225) dX11_spells_225 (v := vr 30) rfl rfl ?_
                refine V_getRv (pc := 226) dX11_spells_226 (o' := 35) fw_RX11_24 rfl hL.t30 hL.r30_10 ?_
                refine V_ld (pc := 229) dX11_spells_229 (v := vi p) rfl rfl ?_
                refine V_ialdv (pc := 230) dX11_spells_230 (v := (T p.toNat 0)) hL.t35 (by omega) ((apM_ne (by omega) (by omega)).trans hqp) (fun g230 => ?_)
                refine V_iconst (pc := 231) dX11_spells_231 (by unfold I32; omega) ?_
                refine V_icmp_ne (pc := 232) dX11_spells_232 (tgt := 240) rfl (fun h232 => ?_) (fun h232 => ?_)
                · skip
                  refine V_ld (pc := 240) dX11_spells_240 (v := vr 30) rfl rfl ?_
                  refine V_getRv (pc := 241) dX11_spells_241 (o' := 35) fw_RX11_24 rfl hL.t30 hL.r30_10 ?_
                  refine V_ld (pc := 244) dX11_spells_244 (v := vi p) rfl rfl ?_
                  refine V_ialdv (pc := 245) dX11_spells_245 (v := (T p.toNat 0)) hL.t35 (by omega) ((apM_ne (by omega) (by omega)).trans hqp) (fun g245 => ?_)
                  refine V_iconst (pc := 246) dX11_spells_246 (by unfold I32; omega) ?_
                  refine V_icmp_ne (pc := 247) dX11_spells_247 (tgt := 265) rfl (fun h247 => ?_) (fun h247 => ?_)
                  · skip
                    refine V_iconst (pc := 265) dX11_spells_265 (by unfold I32; omega) ?_
                    have e_ : nb = 0 := by
                      rw [← hnU ()]
                      first | exact if_pos (by omega) | exact if_neg (by omega)
                    rw [e_] at k266_
                    refine V_ls (ls' := [(4, vi k), (3, vi (sgS (T p.toNat 0))), (0, vr 30), (1, vi p), (2, vi b)]) (by intro q_ h_; simp only [List.mem_cons, List.not_mem_nil, or_false] at h_ ⊢; rcases h_ with rfl | rfl | rfl | rfl | rfl <;> simp) ?_
                    exact k266_
                  · skip
                    refine V_ld (pc := 250) dX11_spells_250 (v := vr 30) rfl rfl ?_
                    refine V_getRv (pc := 251) dX11_spells_251 (o' := 35) fw_RX11_24 rfl hL.t30 hL.r30_10 ?_
                    refine V_ld (pc := 254) dX11_spells_254 (v := vi k) rfl rfl ?_
                    refine V_ialdv (pc := 256) dX11_spells_256 (v := (T k.toNat 0)) hL.t35 (by omega) ((apM_ne (by omega) (by omega)).trans hqk) (fun g256 => ?_)
                    refine V_iconst (pc := 257) dX11_spells_257 (by unfold I32; omega) ?_
                    refine V_icmp_ne (pc := 258) dX11_spells_258 (tgt := 265) rfl (fun h258 => ?_) (fun h258 => ?_)
                    · skip
                      refine V_iconst (pc := 265) dX11_spells_265 (by unfold I32; omega) ?_
                      have e_ : nb = 0 := by
                        rw [← hnU ()]
                        first | exact if_pos (by omega) | exact if_neg (by omega)
                      rw [e_] at k266_
                      refine V_ls (ls' := [(4, vi k), (3, vi (sgS (T p.toNat 0))), (0, vr 30), (1, vi p), (2, vi b)]) (by intro q_ h_; simp only [List.mem_cons, List.not_mem_nil, or_false] at h_ ⊢; rcases h_ with rfl | rfl | rfl | rfl | rfl <;> simp) ?_
                      exact k266_
                    · skip
                      refine V_iconst (pc := 261) dX11_spells_261 (by unfold I32; omega) ?_
                      refine V_goto (pc := 262) dX11_spells_262 (tgt := 266) rfl ?_
                      have e_ : nb = 1 := by
                        rw [← hnU ()]
                        first | exact if_pos (by omega) | exact if_neg (by omega)
                      rw [e_] at k266_
                      refine V_ls (ls' := [(4, vi k), (3, vi (sgS (T p.toNat 0))), (0, vr 30), (1, vi p), (2, vi b)]) (by intro q_ h_; simp only [List.mem_cons, List.not_mem_nil, or_false] at h_ ⊢; rcases h_ with rfl | rfl | rfl | rfl | rfl <;> simp) ?_
                      exact k266_
                · skip
                  refine V_ld (pc := 235) dX11_spells_235 (v := vi 0) rfl rfl ?_
                  refine V_goto (pc := 237) dX11_spells_237 (tgt := 266) rfl ?_
                  have e_ : nb = 0 := by
                    rw [← hnU ()]
                    first | exact if_pos (by omega) | exact if_neg (by omega)
                  rw [e_] at k266_
                  refine V_ls (ls' := [(4, vi k), (3, vi (sgS (T p.toNat 0))), (0, vr 30), (1, vi p), (2, vi b)]) (by intro q_ h_; simp only [List.mem_cons, List.not_mem_nil, or_false] at h_ ⊢; rcases h_ with rfl | rfl | rfl | rfl | rfl <;> simp) ?_
                  exact k266_
              · skip
                refine V_ld (pc := 201) dX11_spells_201 (v := vi 0) rfl rfl ?_
                refine V_if_ne (pc := 203) dX11_spells_203 (tgt := 217) rfl (fun h_ => absurd h_ (by decide)) (fun _ => ?_)
                refine V_ld (pc := 206) dX11_spells_206 (v := vr 30) rfl rfl ?_
                refine V_getRv (pc := 207) dX11_spells_207 (o' := 35) fw_RX11_24 rfl hL.t30 hL.r30_10 ?_
                refine V_ld (pc := 210) dX11_spells_210 (v := vi k) rfl rfl ?_
                refine V_ialdv (pc := 212) dX11_spells_212 (v := (T k.toNat 0)) hL.t35 (by omega) ((apM_ne (by omega) (by omega)).trans hqk) (fun g212 => ?_)
                refine V_iconst (pc := 213) dX11_spells_213 (by unfold I32; omega) ?_
                refine V_icmp_ne (pc := 214) dX11_spells_214 (tgt := 221) rfl (fun h214 => ?_) (fun h214 => ?_)
                · skip
                  refine V_iconst (pc := 221) dX11_spells_221 (by unfold I32; omega) ?_
                  refine V_goto (pc := 222) dX11_spells_222 (tgt := 266) rfl ?_
                  have e_ : nb = 0 := by
                    rw [← hnU ()]
                    first | exact if_pos (by omega) | exact if_neg (by omega)
                  rw [e_] at k266_
                  refine V_ls (ls' := [(4, vi k), (3, vi (sgS (T p.toNat 0))), (0, vr 30), (1, vi p), (2, vi b)]) (by intro q_ h_; simp only [List.mem_cons, List.not_mem_nil, or_false] at h_ ⊢; rcases h_ with rfl | rfl | rfl | rfl | rfl <;> simp) ?_
                  exact k266_
                · skip
                  refine V_iconst (pc := 217) dX11_spells_217 (by unfold I32; omega) ?_
                  refine V_goto (pc := 218) dX11_spells_218 (tgt := 266) rfl ?_
                  have e_ : nb = 1 := by
                    rw [← hnU ()]
                    first | exact if_pos (by omega) | exact if_neg (by omega)
                  rw [e_] at k266_
                  refine V_ls (ls' := [(4, vi k), (3, vi (sgS (T p.toNat 0))), (0, vr 30), (1, vi p), (2, vi b)]) (by intro q_ h_; simp only [List.mem_cons, List.not_mem_nil, or_false] at h_ ⊢; rcases h_ with rfl | rfl | rfl | rfl | rfl <;> simp) ?_
                  exact k266_
            · skip
              refine V_iconst (pc := 181) dX11_spells_181 (by unfold I32; omega) ?_
              refine V_goto (pc := 182) dX11_spells_182 (tgt := 186) rfl ?_
              refine V_st (pc := 186) dX11_spells_186 (ls' := [(5, vi 1), (4, vi k), (3, vi (sgS (T p.toNat 0))), (0, vr 30), (1, vi p), (2, vi b)]) rfl (Nat.le_of_ble_eq_true rfl) rfl ?_
              refine V_ld (pc := 188) dX11_spells_188 (v := vr 30) rfl rfl ?_
              refine V_ld (pc := 189) dX11_spells_189 (v := vi k) rfl rfl ?_
              refine V_ld (pc := 191) dX11_spells_191 (v := vr 30) rfl rfl ?_
              refine V_getRv (pc := 192) dX11_spells_192 (o' := 35) fw_RX11_24 rfl hL.t30 hL.r30_10 ?_
              refine V_ld (pc := 195) dX11_spells_195 (v := vi p) rfl rfl ?_
              refine V_ialdv (pc := 196) dX11_spells_196 (v := (T p.toNat 0)) hL.t35 (by omega) ((apM_ne (by omega) (by omega)).trans hqp) (fun g196 => ?_)
              refine V_iconst (pc := 197) dX11_spells_197 (by unfold I32; omega) ?_
              refine V_icmp_ne (pc := 198) dX11_spells_198 (tgt := 225) rfl (fun h198 => ?_) (fun h198 => ?_)
              · skip
                refine V_ld (pc := 225) dX11_spells_225 (v := vr 30) rfl rfl ?_
                refine V_getRv (pc := 226) dX11_spells_226 (o' := 35) fw_RX11_24 rfl hL.t30 hL.r30_10 ?_
                refine V_ld (pc := 229) dX11_spells_229 (v := vi p) rfl rfl ?_
                refine V_ialdv (pc := 230) dX11_spells_230 (v := (T p.toNat 0)) hL.t35 (by omega) ((apM_ne (by omega) (by omega)).trans hqp) (fun g230 => ?_)
                refine V_iconst (pc := 231) dX11_spells_231 (by unfold I32; omega) ?_
                refine V_icmp_ne (pc := 232) dX11_spells_232 (tgt := 240) rfl (fun h232 => ?_) (fun h232 => ?_)
                · skip
                  refine V_ld (pc := 240) dX11_spells_240 (v := vr 30) rfl rfl ?_
                  refine V_getRv (pc := 241) dX11_spells_241 (o' := 35) fw_RX11_24 rfl hL.t30 hL.r30_10 ?_
                  refine V_ld (pc := 244) dX11_spells_244 (v := vi p) rfl rfl ?_
                  refine V_ialdv (pc := 245) dX11_spells_245 (v := (T p.toNat 0)) hL.t35 (by omega) ((apM_ne (by omega) (by omega)).trans hqp) (fun g245 => ?_)
                  refine V_iconst (pc := 246) dX11_spells_246 (by unfold I32; omega) ?_
                  refine V_icmp_ne (pc := 247) dX11_spells_247 (tgt := 265) rfl (fun h247 => ?_) (fun h247 => ?_)
                  · skip
                    refine V_iconst (pc := 265) dX11_spells_265 (by unfold I32; omega) ?_
                    have e_ : nb = 0 := by
                      rw [← hnU ()]
                      first | exact if_pos (by omega) | exact if_neg (by omega)
                    rw [e_] at k266_
                    refine V_ls (ls' := [(4, vi k), (3, vi (sgS (T p.toNat 0))), (0, vr 30), (1, vi p), (2, vi b)]) (by intro q_ h_; simp only [List.mem_cons, List.not_mem_nil, or_false] at h_ ⊢; rcases h_ with rfl | rfl | rfl | rfl | rfl <;> simp) ?_
                    exact k266_
                  · skip
                    refine V_ld (pc := 250) dX11_spells_250 (v := vr 30) rfl rfl ?_
                    refine V_getRv (pc := 251) dX11_spells_251 (o' := 35) fw_RX11_24 rfl hL.t30 hL.r30_10 ?_
                    refine V_ld (pc := 254) dX11_spells_254 (v := vi k) rfl rfl ?_
                    refine V_ialdv (pc := 256) dX11_spells_256 (v := (T k.toNat 0)) hL.t35 (by omega) ((apM_ne (by omega) (by omega)).trans hqk) (fun g256 => ?_)
                    refine V_iconst (pc := 257) dX11_spells_257 (by unfold I32; omega) ?_
                    refine V_icmp_ne (pc := 258) dX11_spells_258 (tgt := 265) rfl (fun h258 => ?_) (fun h258 => ?_)
                    · skip
                      refine V_iconst (pc := 265) dX11_spells_265 (by unfold I32; omega) ?_
                      have e_ : nb = 0 := by
                        rw [← hnU ()]
                        first | exact if_pos (by omega) | exact if_neg (by omega)
                      rw [e_] at k266_
                      refine V_ls (ls' := [(4, vi k), (3, vi (sgS (T p.toNat 0))), (0, vr 30), (1, vi p), (2, vi b)]) (by intro q_ h_; simp only [List.mem_cons, List.not_mem_nil, or_false] at h_ ⊢; rcases h_ with rfl | rfl | rfl | rfl | rfl <;> simp) ?_
                      exact k266_
                    · skip
                      refine V_iconst (pc := 261) dX11_spells_261 (by unfold I32; omega) ?_
                      refine V_goto (pc := 262) dX11_spells_262 (tgt := 266) rfl ?_
                      have e_ : nb = 1 := by
                        rw [← hnU ()]
                        first | exact if_pos (by omega) | exact if_neg (by omega)
                      rw [e_] at k266_
                      refine V_ls (ls' := [(4, vi k), (3, vi (sgS (T p.toNat 0))), (0, vr 30), (1, vi p), (2, vi b)]) (by intro q_ h_; simp only [List.mem_cons, List.not_mem_nil, or_false] at h_ ⊢; rcases h_ with rfl | rfl | rfl | rfl | rfl <;> simp) ?_
                      exact k266_
                · skip
                  refine V_ld (pc := 235) dX11_spells_235 (v := vi 1) rfl rfl ?_
                  refine V_goto (pc := 237) dX11_spells_237 (tgt := 266) rfl ?_
                  have e_ : nb = 1 := by
                    rw [← hnU ()]
                    first | exact if_pos (by omega) | exact if_neg (by omega)
                  rw [e_] at k266_
                  refine V_ls (ls' := [(4, vi k), (3, vi (sgS (T p.toNat 0))), (0, vr 30), (1, vi p), (2, vi b)]) (by intro q_ h_; simp only [List.mem_cons, List.not_mem_nil, or_false] at h_ ⊢; rcases h_ with rfl | rfl | rfl | rfl | rfl <;> simp) ?_
                  exact k266_
              · skip
                refine V_ld (pc := 201) dX11_spells_201 (v := vi 1) rfl rfl ?_
                refine V_if_ne (pc := 203) dX11_spells_203 (tgt := 217) rfl (fun _ => ?_) (fun h_ => absurd h_ (by decide))
                refine V_iconst (pc := 217) dX11_spells_217 (by unfold I32; omega) ?_
                refine V_goto (pc := 218) dX11_spells_218 (tgt := 266) rfl ?_
                have e_ : nb = 1 := by
                  rw [← hnU ()]
                  first | exact if_pos (by omega) | exact if_neg (by omega)
                rw [e_] at k266_
                refine V_ls (ls' := [(4, vi k), (3, vi (sgS (T p.toNat 0))), (0, vr 30), (1, vi p), (2, vi b)]) (by intro q_ h_; simp only [List.mem_cons, List.not_mem_nil, or_false] at h_ ⊢; rcases h_ with rfl | rfl | rfl | rfl | rfl <;> simp) ?_
                exact k266_
        refine V_callV (pc := 266) dX11_spells_266 (F' := (f + 3)) (As := [vi k, vi nb]) (st := []) cw_RX11_206 rfl rfl hL.t30 (by decide) (Nat.le_of_ble_eq_true rfl) (by omega) (hsub  (apM 30 22 44 m w) k nb   (by first | assumption | omega) (fun p_ hp_ => by have h_ := hT p_ hp_; (repeat rw [apM_ne (by omega) (by omega)]); exact h_) ⟨by omega, by omega, hp.2.2⟩ hrs.2.2.2.1 hm2.1 (by (try simp only [apM_sz, List.length_append, List.length_cons, List.length_nil]); omega)) ?_
        rintro _ _ ⟨rfl, rfl⟩ ok266 le266
        refine V_ld (pc := 269) dX11_spells_269 (v := vr 30) rfl rfl ?_
        refine V_getRv (pc := 270) dX11_spells_270 (o' := 42) fw_RX11_45 rfl hL.t30 hL.r30_17 ?_
        refine V_ld (pc := 273) dX11_spells_273 (v := vi k) rfl rfl ?_
        refine V_ialdv (pc := 275) dX11_spells_275 (v := (T k.toNat 8)) hL.t42 (by omega) ((apM_ne (by omega) (by omega)).trans ((apM_ne (by omega) (by omega)).trans hqk8)) (fun g275 => ?_)
        refine V_st (pc := 276) dX11_spells_276 (ls' := [(4, vi (T k.toNat 8)), (3, vi (sgS (T p.toNat 0))), (0, vr 30), (1, vi p), (2, vi b)]) rfl (Nat.le_of_ble_eq_true rfl) rfl ?_
        refine V_goto (pc := 278) dX11_spells_278 (tgt := 112) rfl ?_
        have hsz := hsU ()
        have hr := hrU ()
        have e1 : (if i = 0 then [] else sepS (T p.toNat 0)) = ([] : List Int) := by
          rw [sgS_sep]
          rcases hsz with ⟨ci, e_⟩ | ⟨ci, e_⟩
          · rw [if_pos ci]
            first | done | rfl | (exfalso; omega)
          · rw [if_neg ci, ← e_]
            first | exact if_pos (by omega) | exact if_neg (by omega)
        have e2 : sgS (T p.toNat 0) = (if i + 1 = 0 then 0 else sgS (T p.toNat 0)) := (if_neg (by omega)).symm
        skip
        repeat rw [apM_app]
        rw [e1] at hKS hr
        refine ih (i + 1) (T k.toNat 8) _ _ hP2 (Or.inr hm2.2) e2 ?_ (fun s' => ?_)
        · rw [hdec, ← hnU (), brS_if]
          clear hrs hm2
          simp only [List.length_append, List.length_cons, List.length_nil] at hr ⊢
          omega
        · have h_ := kx s'
          rw [hKS] at h_
          rw [hdec, ← hnU (), brS_if]
          simpa only [List.append_assoc, List.cons_append, List.nil_append, List.append_nil] using h_
      · skip
        refine V_ld (pc := 121) dX11_spells_121 (v := vr 30) rfl rfl ?_
        refine V_ld (pc := 122) dX11_spells_122 (v := vi s) rfl rfl ?_
        refine V_callV (pc := 123) dX11_spells_123 (F' := 0) (As := [vi s]) (st := []) cw_RX11_203 rfl rfl hL.t30 (by decide) (Nat.le_of_ble_eq_true rfl) (by omega) (r_wr1  (apM 30 22 44 m w) s   (by first | assumption | omega) (by (try simp only [apM_sz, List.length_append, List.length_cons, List.length_nil]); omega)) ?_
        rintro _ _ ⟨rfl, rfl⟩ ok123 le123
        suffices k159_ : V μX11_spells F m0 post 159 [(4, vi k), (3, vi (sgS (T p.toNat 0))), (0, vr 30), (1, vi p), (2, vi b)] [] (apM 30 22 44 (apM 30 22 44 m w) [s]) by
          refine V_ld (pc := 126) dX11_spells_126 (v := vr 30) rfl rfl ?_
          refine V_getRv (pc := 127) dX11_spells_127 (o' := 35) fw_RX11_24 rfl hL.t30 hL.r30_10 ?_
          refine V_ld (pc := 130) dX11_spells_130 (v := vi p) rfl rfl ?_
          refine V_ialdv (pc := 131) dX11_spells_131 (v := (T p.toNat 0)) hL.t35 (by omega) ((apM_ne (by omega) (by omega)).trans ((apM_ne (by omega) (by omega)).trans hqp)) (fun g131 => ?_)
          refine V_iconst (pc := 132) dX11_spells_132 (by unfold I32; omega) ?_
          refine V_icmp_ne (pc := 133) dX11_spells_133 (tgt := 141) rfl (fun h133 => ?_) (fun h133 => ?_)
          · skip
            refine V_ld (pc := 141) dX11_spells_141 (v := vr 30) rfl rfl ?_
            refine V_getRv (pc := 142) dX11_spells_142 (o' := 35) fw_RX11_24 rfl hL.t30 hL.r30_10 ?_
            refine V_ld (pc := 145) dX11_spells_145 (v := vi p) rfl rfl ?_
            refine V_ialdv (pc := 146) dX11_spells_146 (v := (T p.toNat 0)) hL.t35 (by omega) ((apM_ne (by omega) (by omega)).trans ((apM_ne (by omega) (by omega)).trans hqp)) (fun g146 => ?_)
            refine V_bipush (pc := 147) dX11_spells_147 (by unfold I32; omega) (by decide) ?_
            refine V_icmp_ne (pc := 149) dX11_spells_149 (tgt := 157) rfl (fun h149 => ?_) (fun h149 => ?_)
            · skip
              refine V_iconst (pc := 157) dX11_spells_157 (by unfold I32; omega) ?_
              refine V_st (pc := 158) dX11_spells_158 (ls' := [(3, vi 0), (4, vi k), (0, vr 30), (1, vi p), (2, vi b)]) rfl (Nat.le_of_ble_eq_true rfl) rfl ?_
              have e_ : sgS (T p.toNat 0) = 0 := by
                unfold sgS
                first
                  | (rw [if_pos (by omega)])
                  | (rw [if_neg (by omega), if_pos (by omega)])
                  | (rw [if_neg (by omega), if_neg (by omega)])
              rw [e_] at k159_
              refine V_ls (ls' := [(4, vi k), (3, vi 0), (0, vr 30), (1, vi p), (2, vi b)]) (by intro q_ h_; simp only [List.mem_cons, List.not_mem_nil, or_false] at h_ ⊢; rcases h_ with rfl | rfl | rfl | rfl | rfl <;> simp) ?_
              exact k159_
            · skip
              refine V_bipush (pc := 152) dX11_spells_152 (by unfold I32; omega) (by decide) ?_
              refine V_goto (pc := 154) dX11_spells_154 (tgt := 158) rfl ?_
              refine V_st (pc := 158) dX11_spells_158 (ls' := [(3, vi 44), (4, vi k), (0, vr 30), (1, vi p), (2, vi b)]) rfl (Nat.le_of_ble_eq_true rfl) rfl ?_
              have e_ : sgS (T p.toNat 0) = 44 := by
                unfold sgS
                first
                  | (rw [if_pos (by omega)])
                  | (rw [if_neg (by omega), if_pos (by omega)])
                  | (rw [if_neg (by omega), if_neg (by omega)])
              rw [e_] at k159_
              refine V_ls (ls' := [(4, vi k), (3, vi 44), (0, vr 30), (1, vi p), (2, vi b)]) (by intro q_ h_; simp only [List.mem_cons, List.not_mem_nil, or_false] at h_ ⊢; rcases h_ with rfl | rfl | rfl | rfl | rfl <;> simp) ?_
              exact k159_
          · skip
            refine V_bipush (pc := 136) dX11_spells_136 (by unfold I32; omega) (by decide) ?_
            refine V_goto (pc := 138) dX11_spells_138 (tgt := 158) rfl ?_
            refine V_st (pc := 158) dX11_spells_158 (ls' := [(3, vi 124), (4, vi k), (0, vr 30), (1, vi p), (2, vi b)]) rfl (Nat.le_of_ble_eq_true rfl) rfl ?_
            have e_ : sgS (T p.toNat 0) = 124 := by
              unfold sgS
              first
                | (rw [if_pos (by omega)])
                | (rw [if_neg (by omega), if_pos (by omega)])
                | (rw [if_neg (by omega), if_neg (by omega)])
            rw [e_] at k159_
            refine V_ls (ls' := [(4, vi k), (3, vi 124), (0, vr 30), (1, vi p), (2, vi b)]) (by intro q_ h_; simp only [List.mem_cons, List.not_mem_nil, or_false] at h_ ⊢; rcases h_ with rfl | rfl | rfl | rfl | rfl <;> simp) ?_
            exact k159_
        suffices k266_ : V μX11_spells F m0 post 266 [(4, vi k), (3, vi (sgS (T p.toNat 0))), (0, vr 30), (1, vi p), (2, vi b)] [vi nb, vi k, vr 30] (apM 30 22 44 (apM 30 22 44 m w) [s]) by
          refine V_ld (pc := 159) dX11_spells_159 (v := vr 30) rfl rfl ?_
          refine V_getRv (pc := 160) dX11_spells_160 (o' := 35) fw_RX11_24 rfl hL.t30 hL.r30_10 ?_
          refine V_ld (pc := 163) dX11_spells_163 (v := vi k) rfl rfl ?_
          refine V_ialdv (pc := 165) dX11_spells_165 (v := (T k.toNat 0)) hL.t35 (by omega) ((apM_ne (by omega) (by omega)).trans ((apM_ne (by omega) (by omega)).trans hqk)) (fun g165 => ?_)
          refine V_iconst (pc := 166) dX11_spells_166 (by unfold I32; omega) ?_
          refine V_icmp_eq (pc := 167) dX11_spells_167 (tgt := 181) rfl (fun h167 => ?_) (fun h167 => ?_)
          · skip
            refine V_iconst (pc := 181) dX11_spells_181 (by unfold I32; omega) ?_
            refine V_goto (pc := 182) dX11_spells_182 (tgt := 186) rfl ?_
            refine V_st (pc := 186) dX11_spells_186 (ls' := [(5, vi 1), (4, vi k), (3, vi (sgS (T p.toNat 0))), (0, vr 30), (1, vi p), (2, vi b)]) rfl (Nat.le_of_ble_eq_true rfl) rfl ?_
            refine V_ld (pc := 188) dX11_spells_188 (v := vr 30) rfl rfl ?_
            refine V_ld (pc := 189) dX11_spells_189 (v := vi k) rfl rfl ?_
            refine V_ld (pc := 191) dX11_spells_191 (v := vr 30) rfl rfl ?_
            refine V_getRv (pc := 192) dX11_spells_192 (o' := 35) fw_RX11_24 rfl hL.t30 hL.r30_10 ?_
            refine V_ld (pc := 195) dX11_spells_195 (v := vi p) rfl rfl ?_
            refine V_ialdv (pc := 196) dX11_spells_196 (v := (T p.toNat 0)) hL.t35 (by omega) ((apM_ne (by omega) (by omega)).trans ((apM_ne (by omega) (by omega)).trans hqp)) (fun g196 => ?_)
            refine V_iconst (pc := 197) dX11_spells_197 (by unfold I32; omega) ?_
            refine V_icmp_ne (pc := 198) dX11_spells_198 (tgt := 225) rfl (fun h198 => ?_) (fun h198 => ?_)
            · skip
              refine V_ld (pc := 225) dX11_spells_225 (v := vr 30) rfl rfl ?_
              refine V_getRv (pc := 226) dX11_spells_226 (o' := 35) fw_RX11_24 rfl hL.t30 hL.r30_10 ?_
              refine V_ld (pc := 229) dX11_spells_229 (v := vi p) rfl rfl ?_
              refine V_ialdv (pc := 230) dX11_spells_230 (v := (T p.toNat 0)) hL.t35 (by omega) ((apM_ne (by omega) (by omega)).trans ((apM_ne (by omega) (by omega)).trans hqp)) (fun g230 => ?_)
              refine V_iconst (pc := 231) dX11_spells_231 (by unfold I32; omega) ?_
              refine V_icmp_ne (pc := 232) dX11_spells_232 (tgt := 240) rfl (fun h232 => ?_) (fun h232 => ?_)
              · skip
                refine V_ld (pc := 240) dX11_spells_240 (v := vr 30) rfl rfl ?_
                refine V_getRv (pc := 241) dX11_spells_241 (o' := 35) fw_RX11_24 rfl hL.t30 hL.r30_10 ?_
                refine V_ld (pc := 244) dX11_spells_244 (v := vi p) rfl rfl ?_
                refine V_ialdv (pc := 245) dX11_spells_245 (v := (T p.toNat 0)) hL.t35 (by omega) ((apM_ne (by omega) (by omega)).trans ((apM_ne (by omega) (by omega)).trans hqp)) (fun g245 => ?_)
                refine V_iconst (pc := 246) dX11_spells_246 (by unfold I32; omega) ?_
                refine V_icmp_ne (pc := 247) dX11_spells_247 (tgt := 265) rfl (fun h247 => ?_) (fun h247 => ?_)
                · skip
                  refine V_iconst (pc := 265) dX11_spells_265 (by unfold I32; omega) ?_
                  have e_ : nb = 0 := by
                    rw [← hnU ()]
                    first | exact if_pos (by omega) | exact if_neg (by omega)
                  rw [e_] at k266_
                  refine V_ls (ls' := [(4, vi k), (3, vi (sgS (T p.toNat 0))), (0, vr 30), (1, vi p), (2, vi b)]) (by intro q_ h_; simp only [List.mem_cons, List.not_mem_nil, or_false] at h_ ⊢; rcases h_ with rfl | rfl | rfl | rfl | rfl <;> simp) ?_
                  exact k266_
                · skip
                  refine V_ld (pc := 250) dX11_spells_250 (v := vr 30) rfl rfl ?_
                  refine V_getRv (pc := 251) dX11_spells_251 (o' := 35) fw_RX11_24 rfl hL.t30 hL.r30_10 ?_
                  refine V_ld (pc := 254) dX11_spells_254 (v := vi k) rfl rfl ?_
                  refine V_ialdv (pc := 256) dX11_spells_256 (v := (T k.toNat 0)) hL.t35 (by omega) ((apM_ne (by omega) (by omega)).trans ((apM_ne (by omega) (by omega)).trans hqk)) (fun g256 => ?_)
                  refine V_iconst (pc := 257) dX11_spells_257 (by unfold I32; omega) ?_
                  refine V_icmp_ne (pc := 258) dX11_spells_258 (tgt := 265) rfl (fun h258 => ?_) (fun h258 => ?_)
                  · skip
                    refine V_iconst (pc := 265) dX11_spells_265 (by unfold I32; omega) ?_
                    have e_ : nb = 0 := by
                      rw [← hnU ()]
                      first | exact if_pos (by omega) | exact if_neg (by omega)
                    rw [e_] at k266_
                    refine V_ls (ls' := [(4, vi k), (3, vi (sgS (T p.toNat 0))), (0, vr 30), (1, vi p), (2, vi b)]) (by intro q_ h_; simp only [List.mem_cons, List.not_mem_nil, or_false] at h_ ⊢; rcases h_ with rfl | rfl | rfl | rfl | rfl <;> simp) ?_
                    exact k266_
                  · skip
                    refine V_iconst (pc := 261) dX11_spells_261 (by unfold I32; omega) ?_
                    refine V_goto (pc := 262) dX11_spells_262 (tgt := 266) rfl ?_
                    have e_ : nb = 1 := by
                      rw [← hnU ()]
                      first | exact if_pos (by omega) | exact if_neg (by omega)
                    rw [e_] at k266_
                    refine V_ls (ls' := [(4, vi k), (3, vi (sgS (T p.toNat 0))), (0, vr 30), (1, vi p), (2, vi b)]) (by intro q_ h_; simp only [List.mem_cons, List.not_mem_nil, or_false] at h_ ⊢; rcases h_ with rfl | rfl | rfl | rfl | rfl <;> simp) ?_
                    exact k266_
              · skip
                refine V_ld (pc := 235) dX11_spells_235 (v := vi 1) rfl rfl ?_
                refine V_goto (pc := 237) dX11_spells_237 (tgt := 266) rfl ?_
                have e_ : nb = 1 := by
                  rw [← hnU ()]
                  first | exact if_pos (by omega) | exact if_neg (by omega)
                rw [e_] at k266_
                refine V_ls (ls' := [(4, vi k), (3, vi (sgS (T p.toNat 0))), (0, vr 30), (1, vi p), (2, vi b)]) (by intro q_ h_; simp only [List.mem_cons, List.not_mem_nil, or_false] at h_ ⊢; rcases h_ with rfl | rfl | rfl | rfl | rfl <;> simp) ?_
                exact k266_
            · skip
              refine V_ld (pc := 201) dX11_spells_201 (v := vi 1) rfl rfl ?_
              refine V_if_ne (pc := 203) dX11_spells_203 (tgt := 217) rfl (fun _ => ?_) (fun h_ => absurd h_ (by decide))
              refine V_iconst (pc := 217) dX11_spells_217 (by unfold I32; omega) ?_
              refine V_goto (pc := 218) dX11_spells_218 (tgt := 266) rfl ?_
              have e_ : nb = 1 := by
                rw [← hnU ()]
                first | exact if_pos (by omega) | exact if_neg (by omega)
              rw [e_] at k266_
              refine V_ls (ls' := [(4, vi k), (3, vi (sgS (T p.toNat 0))), (0, vr 30), (1, vi p), (2, vi b)]) (by intro q_ h_; simp only [List.mem_cons, List.not_mem_nil, or_false] at h_ ⊢; rcases h_ with rfl | rfl | rfl | rfl | rfl <;> simp) ?_
              exact k266_
          · skip
            refine V_ld (pc := 170) dX11_spells_170 (v := vr 30) rfl rfl ?_
            refine V_getRv (pc := 171) dX11_spells_171 (o' := 35) fw_RX11_24 rfl hL.t30 hL.r30_10 ?_
            refine V_ld (pc := 174) dX11_spells_174 (v := vi k) rfl rfl ?_
            refine V_ialdv (pc := 176) dX11_spells_176 (v := (T k.toNat 0)) hL.t35 (by omega) ((apM_ne (by omega) (by omega)).trans ((apM_ne (by omega) (by omega)).trans hqk)) (fun g176 => ?_)
            refine V_iconst (pc := 177) dX11_spells_177 (by unfold I32; omega) ?_
            refine V_icmp_ne (pc := 178) dX11_spells_178 (tgt := 185) rfl (fun h178 => ?_) (fun h178 => ?_)
            · skip
              refine V_iconst (pc := 185) dX11_spells_185 (by unfold I32; omega) ?_
              refine V_st (pc := 186) dX11_spells_186 (ls' := [(5, vi 0), (4, vi k), (3, vi (sgS (T p.toNat 0))), (0, vr 30), (1, vi p), (2, vi b)]) rfl (Nat.le_of_ble_eq_true rfl) rfl ?_
              refine V_ld (pc := 188) dX11_spells_188 (v := vr 30) rfl rfl ?_
              refine V_ld (pc := 189) dX11_spells_189 (v := vi k) rfl rfl ?_
              refine V_ld (pc := 191) dX11_spells_191 (v := vr 30) rfl rfl ?_
              refine V_getRv (pc := 192) dX11_spells_192 (o' := 35) fw_RX11_24 rfl hL.t30 hL.r30_10 ?_
              refine V_ld (pc := 195) dX11_spells_195 (v := vi p) rfl rfl ?_
              refine V_ialdv (pc := 196) dX11_spells_196 (v := (T p.toNat 0)) hL.t35 (by omega) ((apM_ne (by omega) (by omega)).trans ((apM_ne (by omega) (by omega)).trans hqp)) (fun g196 => ?_)
              refine V_iconst (pc := 197) dX11_spells_197 (by unfold I32; omega) ?_
              refine V_icmp_ne (pc := 198) dX11_spells_198 (tgt := 225) rfl (fun h198 => ?_) (fun h198 => ?_)
              · skip
                refine V_ld (pc := 225) dX11_spells_225 (v := vr 30) rfl rfl ?_
                refine V_getRv (pc := 226) dX11_spells_226 (o' := 35) fw_RX11_24 rfl hL.t30 hL.r30_10 ?_
                refine V_ld (pc := 229) dX11_spells_229 (v := vi p) rfl rfl ?_
                refine V_ialdv (pc := 230) dX11_spells_230 (v := (T p.toNat 0)) hL.t35 (by omega) ((apM_ne (by omega) (by omega)).trans ((apM_ne (by omega) (by omega)).trans hqp)) (fun g230 => ?_)
                refine V_iconst (pc := 231) dX11_spells_231 (by unfold I32; omega) ?_
                refine V_icmp_ne (pc := 232) dX11_spells_232 (tgt := 240) rfl (fun h232 => ?_) (fun h232 => ?_)
                · skip
                  refine V_ld (pc := 240) dX11_spells_240 (v := vr 30) rfl rfl ?_
                  refine V_getRv (pc := 241) dX11_spells_241 (o' := 35) fw_RX11_24 rfl hL.t30 hL.r30_10 ?_
                  refine V_ld (pc := 244) dX11_spells_244 (v := vi p) rfl rfl ?_
                  refine V_ialdv (pc := 245) dX11_spells_245 (v := (T p.toNat 0)) hL.t35 (by omega) ((apM_ne (by omega) (by omega)).trans ((apM_ne (by omega) (by omega)).trans hqp)) (fun g245 => ?_)
                  refine V_iconst (pc := 246) dX11_spells_246 (by unfold I32; omega) ?_
                  refine V_icmp_ne (pc := 247) dX11_spells_247 (tgt := 265) rfl (fun h247 => ?_) (fun h247 => ?_)
                  · skip
                    refine V_iconst (pc := 265) dX11_spells_265 (by unfold I32; omega) ?_
                    have e_ : nb = 0 := by
                      rw [← hnU ()]
                      first | exact if_pos (by omega) | exact if_neg (by omega)
                    rw [e_] at k266_
                    refine V_ls (ls' := [(4, vi k), (3, vi (sgS (T p.toNat 0))), (0, vr 30), (1, vi p), (2, vi b)]) (by intro q_ h_; simp only [List.mem_cons, List.not_mem_nil, or_false] at h_ ⊢; rcases h_ with rfl | rfl | rfl | rfl | rfl <;> simp) ?_
                    exact k266_
                  · skip
                    refine V_ld (pc := 250) dX11_spells_250 (v := vr 30) rfl rfl ?_
                    refine V_getRv (pc := 251) dX11_spells_251 (o' := 35) fw_RX11_24 rfl hL.t30 hL.r30_10 ?_
                    refine V_ld (pc := 254) dX11_spells_254 (v := vi k) rfl rfl ?_
                    refine V_ialdv (pc := 256) dX11_spells_256 (v := (T k.toNat 0)) hL.t35 (by omega) ((apM_ne (by omega) (by omega)).trans ((apM_ne (by omega) (by omega)).trans hqk)) (fun g256 => ?_)
                    refine V_iconst (pc := 257) dX11_spells_257 (by unfold I32; omega) ?_
                    refine V_icmp_ne (pc := 258) dX11_spells_258 (tgt := 265) rfl (fun h258 => ?_) (fun h258 => ?_)
                    · skip
                      refine V_iconst (pc := 265) dX11_spells_265 (by unfold I32; omega) ?_
                      have e_ : nb = 0 := by
                        rw [← hnU ()]
                        first | exact if_pos (by omega) | exact if_neg (by omega)
                      rw [e_] at k266_
                      refine V_ls (ls' := [(4, vi k), (3, vi (sgS (T p.toNat 0))), (0, vr 30), (1, vi p), (2, vi b)]) (by intro q_ h_; simp only [List.mem_cons, List.not_mem_nil, or_false] at h_ ⊢; rcases h_ with rfl | rfl | rfl | rfl | rfl <;> simp) ?_
                      exact k266_
                    · skip
                      refine V_iconst (pc := 261) dX11_spells_261 (by unfold I32; omega) ?_
                      refine V_goto (pc := 262) dX11_spells_262 (tgt := 266) rfl ?_
                      have e_ : nb = 1 := by
                        rw [← hnU ()]
                        first | exact if_pos (by omega) | exact if_neg (by omega)
                      rw [e_] at k266_
                      refine V_ls (ls' := [(4, vi k), (3, vi (sgS (T p.toNat 0))), (0, vr 30), (1, vi p), (2, vi b)]) (by intro q_ h_; simp only [List.mem_cons, List.not_mem_nil, or_false] at h_ ⊢; rcases h_ with rfl | rfl | rfl | rfl | rfl <;> simp) ?_
                      exact k266_
                · skip
                  refine V_ld (pc := 235) dX11_spells_235 (v := vi 0) rfl rfl ?_
                  refine V_goto (pc := 237) dX11_spells_237 (tgt := 266) rfl ?_
                  have e_ : nb = 0 := by
                    rw [← hnU ()]
                    first | exact if_pos (by omega) | exact if_neg (by omega)
                  rw [e_] at k266_
                  refine V_ls (ls' := [(4, vi k), (3, vi (sgS (T p.toNat 0))), (0, vr 30), (1, vi p), (2, vi b)]) (by intro q_ h_; simp only [List.mem_cons, List.not_mem_nil, or_false] at h_ ⊢; rcases h_ with rfl | rfl | rfl | rfl | rfl <;> simp) ?_
                  exact k266_
              · skip
                refine V_ld (pc := 201) dX11_spells_201 (v := vi 0) rfl rfl ?_
                refine V_if_ne (pc := 203) dX11_spells_203 (tgt := 217) rfl (fun h_ => absurd h_ (by decide)) (fun _ => ?_)
                refine V_ld (pc := 206) dX11_spells_206 (v := vr 30) rfl rfl ?_
                refine V_getRv (pc := 207) dX11_spells_207 (o' := 35) fw_RX11_24 rfl hL.t30 hL.r30_10 ?_
                refine V_ld (pc := 210) dX11_spells_210 (v := vi k) rfl rfl ?_
                refine V_ialdv (pc := 212) dX11_spells_212 (v := (T k.toNat 0)) hL.t35 (by omega) ((apM_ne (by omega) (by omega)).trans ((apM_ne (by omega) (by omega)).trans hqk)) (fun g212 => ?_)
                refine V_iconst (pc := 213) dX11_spells_213 (by unfold I32; omega) ?_
                refine V_icmp_ne (pc := 214) dX11_spells_214 (tgt := 221) rfl (fun h214 => ?_) (fun h214 => ?_)
                · skip
                  refine V_iconst (pc := 221) dX11_spells_221 (by unfold I32; omega) ?_
                  refine V_goto (pc := 222) dX11_spells_222 (tgt := 266) rfl ?_
                  have e_ : nb = 0 := by
                    rw [← hnU ()]
                    first | exact if_pos (by omega) | exact if_neg (by omega)
                  rw [e_] at k266_
                  refine V_ls (ls' := [(4, vi k), (3, vi (sgS (T p.toNat 0))), (0, vr 30), (1, vi p), (2, vi b)]) (by intro q_ h_; simp only [List.mem_cons, List.not_mem_nil, or_false] at h_ ⊢; rcases h_ with rfl | rfl | rfl | rfl | rfl <;> simp) ?_
                  exact k266_
                · skip
                  refine V_iconst (pc := 217) dX11_spells_217 (by unfold I32; omega) ?_
                  refine V_goto (pc := 218) dX11_spells_218 (tgt := 266) rfl ?_
                  have e_ : nb = 1 := by
                    rw [← hnU ()]
                    first | exact if_pos (by omega) | exact if_neg (by omega)
                  rw [e_] at k266_
                  refine V_ls (ls' := [(4, vi k), (3, vi (sgS (T p.toNat 0))), (0, vr 30), (1, vi p), (2, vi b)]) (by intro q_ h_; simp only [List.mem_cons, List.not_mem_nil, or_false] at h_ ⊢; rcases h_ with rfl | rfl | rfl | rfl | rfl <;> simp) ?_
                  exact k266_
            · skip
              refine V_iconst (pc := 181) dX11_spells_181 (by unfold I32; omega) ?_
              refine V_goto (pc := 182) dX11_spells_182 (tgt := 186) rfl ?_
              refine V_st (pc := 186) dX11_spells_186 (ls' := [(5, vi 1), (4, vi k), (3, vi (sgS (T p.toNat 0))), (0, vr 30), (1, vi p), (2, vi b)]) rfl (Nat.le_of_ble_eq_true rfl) rfl ?_
              refine V_ld (pc := 188) dX11_spells_188 (v := vr 30) rfl rfl ?_
              refine V_ld (pc := 189) dX11_spells_189 (v := vi k) rfl rfl ?_
              refine V_ld (pc := 191) dX11_spells_191 (v := vr 30) rfl rfl ?_
              refine V_getRv (pc := 192) dX11_spells_192 (o' := 35) fw_RX11_24 rfl hL.t30 hL.r30_10 ?_
              refine V_ld (pc := 195) dX11_spells_195 (v := vi p) rfl rfl ?_
              refine V_ialdv (pc := 196) dX11_spells_196 (v := (T p.toNat 0)) hL.t35 (by omega) ((apM_ne (by omega) (by omega)).trans ((apM_ne (by omega) (by omega)).trans hqp)) (fun g196 => ?_)
              refine V_iconst (pc := 197) dX11_spells_197 (by unfold I32; omega) ?_
              refine V_icmp_ne (pc := 198) dX11_spells_198 (tgt := 225) rfl (fun h198 => ?_) (fun h198 => ?_)
              · skip
                refine V_ld (pc := 225) dX11_spells_225 (v := vr 30) rfl rfl ?_
                refine V_getRv (pc := 226) dX11_spells_226 (o' := 35) fw_RX11_24 rfl hL.t30 hL.r30_10 ?_
                refine V_ld (pc := 229) dX11_spells_229 (v := vi p) rfl rfl ?_
                refine V_ialdv (pc := 230) dX11_spells_230 (v := (T p.toNat 0)) hL.t35 (by omega) ((apM_ne (by omega) (by omega)).trans ((apM_ne (by omega) (by omega)).trans hqp)) (fun g230 => ?_)
                refine V_iconst (pc := 231) dX11_spells_231 (by unfold I32; omega) ?_
                refine V_icmp_ne (pc := 232) dX11_spells_232 (tgt := 240) rfl (fun h232 => ?_) (fun h232 => ?_)
                · skip
                  refine V_ld (pc := 240) dX11_spells_240 (v := vr 30) rfl rfl ?_
                  refine V_getRv (pc := 241) dX11_spells_241 (o' := 35) fw_RX11_24 rfl hL.t30 hL.r30_10 ?_
                  refine V_ld (pc := 244) dX11_spells_244 (v := vi p) rfl rfl ?_
                  refine V_ialdv (pc := 245) dX11_spells_245 (v := (T p.toNat 0)) hL.t35 (by omega) ((apM_ne (by omega) (by omega)).trans ((apM_ne (by omega) (by omega)).trans hqp)) (fun g245 => ?_)
                  refine V_iconst (pc := 246) dX11_spells_246 (by unfold I32; omega) ?_
                  refine V_icmp_ne (pc := 247) dX11_spells_247 (tgt := 265) rfl (fun h247 => ?_) (fun h247 => ?_)
                  · skip
                    refine V_iconst (pc := 265) dX11_spells_265 (by unfold I32; omega) ?_
                    have e_ : nb = 0 := by
                      rw [← hnU ()]
                      first | exact if_pos (by omega) | exact if_neg (by omega)
                    rw [e_] at k266_
                    refine V_ls (ls' := [(4, vi k), (3, vi (sgS (T p.toNat 0))), (0, vr 30), (1, vi p), (2, vi b)]) (by intro q_ h_; simp only [List.mem_cons, List.not_mem_nil, or_false] at h_ ⊢; rcases h_ with rfl | rfl | rfl | rfl | rfl <;> simp) ?_
                    exact k266_
                  · skip
                    refine V_ld (pc := 250) dX11_spells_250 (v := vr 30) rfl rfl ?_
                    refine V_getRv (pc := 251) dX11_spells_251 (o' := 35) fw_RX11_24 rfl hL.t30 hL.r30_10 ?_
                    refine V_ld (pc := 254) dX11_spells_254 (v := vi k) rfl rfl ?_
                    refine V_ialdv (pc := 256) dX11_spells_256 (v := (T k.toNat 0)) hL.t35 (by omega) ((apM_ne (by omega) (by omega)).trans ((apM_ne (by omega) (by omega)).trans hqk)) (fun g256 => ?_)
                    refine V_iconst (pc := 257) dX11_spells_257 (by unfold I32; omega) ?_
                    refine V_icmp_ne (pc := 258) dX11_spells_258 (tgt := 265) rfl (fun h258 => ?_) (fun h258 => ?_)
                    · skip
                      refine V_iconst (pc := 265) dX11_spells_265 (by unfold I32; omega) ?_
                      have e_ : nb = 0 := by
                        rw [← hnU ()]
                        first | exact if_pos (by omega) | exact if_neg (by omega)
                      rw [e_] at k266_
                      refine V_ls (ls' := [(4, vi k), (3, vi (sgS (T p.toNat 0))), (0, vr 30), (1, vi p), (2, vi b)]) (by intro q_ h_; simp only [List.mem_cons, List.not_mem_nil, or_false] at h_ ⊢; rcases h_ with rfl | rfl | rfl | rfl | rfl <;> simp) ?_
                      exact k266_
                    · skip
                      refine V_iconst (pc := 261) dX11_spells_261 (by unfold I32; omega) ?_
                      refine V_goto (pc := 262) dX11_spells_262 (tgt := 266) rfl ?_
                      have e_ : nb = 1 := by
                        rw [← hnU ()]
                        first | exact if_pos (by omega) | exact if_neg (by omega)
                      rw [e_] at k266_
                      refine V_ls (ls' := [(4, vi k), (3, vi (sgS (T p.toNat 0))), (0, vr 30), (1, vi p), (2, vi b)]) (by intro q_ h_; simp only [List.mem_cons, List.not_mem_nil, or_false] at h_ ⊢; rcases h_ with rfl | rfl | rfl | rfl | rfl <;> simp) ?_
                      exact k266_
                · skip
                  refine V_ld (pc := 235) dX11_spells_235 (v := vi 1) rfl rfl ?_
                  refine V_goto (pc := 237) dX11_spells_237 (tgt := 266) rfl ?_
                  have e_ : nb = 1 := by
                    rw [← hnU ()]
                    first | exact if_pos (by omega) | exact if_neg (by omega)
                  rw [e_] at k266_
                  refine V_ls (ls' := [(4, vi k), (3, vi (sgS (T p.toNat 0))), (0, vr 30), (1, vi p), (2, vi b)]) (by intro q_ h_; simp only [List.mem_cons, List.not_mem_nil, or_false] at h_ ⊢; rcases h_ with rfl | rfl | rfl | rfl | rfl <;> simp) ?_
                  exact k266_
              · skip
                refine V_ld (pc := 201) dX11_spells_201 (v := vi 1) rfl rfl ?_
                refine V_if_ne (pc := 203) dX11_spells_203 (tgt := 217) rfl (fun _ => ?_) (fun h_ => absurd h_ (by decide))
                refine V_iconst (pc := 217) dX11_spells_217 (by unfold I32; omega) ?_
                refine V_goto (pc := 218) dX11_spells_218 (tgt := 266) rfl ?_
                have e_ : nb = 1 := by
                  rw [← hnU ()]
                  first | exact if_pos (by omega) | exact if_neg (by omega)
                rw [e_] at k266_
                refine V_ls (ls' := [(4, vi k), (3, vi (sgS (T p.toNat 0))), (0, vr 30), (1, vi p), (2, vi b)]) (by intro q_ h_; simp only [List.mem_cons, List.not_mem_nil, or_false] at h_ ⊢; rcases h_ with rfl | rfl | rfl | rfl | rfl <;> simp) ?_
                exact k266_
        refine V_callV (pc := 266) dX11_spells_266 (F' := (f + 3)) (As := [vi k, vi nb]) (st := []) cw_RX11_206 rfl rfl hL.t30 (by decide) (Nat.le_of_ble_eq_true rfl) (by omega) (hsub  (apM 30 22 44 (apM 30 22 44 m w) [s]) k nb   (by first | assumption | omega) (fun p_ hp_ => by have h_ := hT p_ hp_; (repeat rw [apM_ne (by omega) (by omega)]); exact h_) ⟨by omega, by omega, hp.2.2⟩ hrs.2.2.2.1 hm2.1 (by (try simp only [apM_sz, List.length_append, List.length_cons, List.length_nil]); omega)) ?_
        rintro _ _ ⟨rfl, rfl⟩ ok266 le266
        refine V_ld (pc := 269) dX11_spells_269 (v := vr 30) rfl rfl ?_
        refine V_getRv (pc := 270) dX11_spells_270 (o' := 42) fw_RX11_45 rfl hL.t30 hL.r30_17 ?_
        refine V_ld (pc := 273) dX11_spells_273 (v := vi k) rfl rfl ?_
        refine V_ialdv (pc := 275) dX11_spells_275 (v := (T k.toNat 8)) hL.t42 (by omega) ((apM_ne (by omega) (by omega)).trans ((apM_ne (by omega) (by omega)).trans ((apM_ne (by omega) (by omega)).trans hqk8))) (fun g275 => ?_)
        refine V_st (pc := 276) dX11_spells_276 (ls' := [(4, vi (T k.toNat 8)), (3, vi (sgS (T p.toNat 0))), (0, vr 30), (1, vi p), (2, vi b)]) rfl (Nat.le_of_ble_eq_true rfl) rfl ?_
        refine V_goto (pc := 278) dX11_spells_278 (tgt := 112) rfl ?_
        have hsz := hsU ()
        have hr := hrU ()
        have e1 : (if i = 0 then [] else sepS (T p.toNat 0)) = [s] := by
          rw [sgS_sep]
          rcases hsz with ⟨ci, e_⟩ | ⟨ci, e_⟩
          · rw [if_pos ci]
            first | done | rfl | (exfalso; omega)
          · rw [if_neg ci, ← e_]
            first | exact if_pos (by omega) | exact if_neg (by omega)
        have e2 : sgS (T p.toNat 0) = (if i + 1 = 0 then 0 else sgS (T p.toNat 0)) := (if_neg (by omega)).symm
        skip
        repeat rw [apM_app]
        rw [e1] at hKS hr
        refine ih (i + 1) (T k.toNat 8) _ _ hP2 (Or.inr hm2.2) e2 ?_ (fun s' => ?_)
        · rw [hdec, ← hnU (), brS_if]
          clear hrs hm2
          simp only [List.length_append, List.length_cons, List.length_nil] at hr ⊢
          omega
        · have h_ := kx s'
          rw [hKS] at h_
          rw [hdec, ← hnU (), brS_if]
          simpa only [List.append_assoc, List.cons_append, List.nil_append, List.append_nil] using h_
