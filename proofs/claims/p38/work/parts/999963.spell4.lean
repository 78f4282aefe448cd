/-! THE LAW'S spelled(), 3: the loop, the whole -/
set_option maxHeartbeats 4000000 in
theorem L_spL {F f : Nat} {m0 : Mem} {post : Option AV → Mem → Prop} {M0 : Mem} {tt q p n qc cnt : Nat} {V : Nat → Nat → Int} (hF : f + 7 < F) (ih : ∀ (qc : Nat) (cnt : Nat) (lo : Nat) (a : Nat) (V : Nat → Nat → Int) (m : Mem) (tt : Nat)   (hT : TbM m tt qc cnt V) (ha : a < cnt ∧ cnt ≤ 70) (hTO : TO V (f) lo a) (hr : mN m + sN (f) ≤ NN ∧ mZ m + sZ (f) ≤ ZZ), Ct μL_spelled (f + 7) [vr tt, vi ((a : Nat) : Int)] m (rq fun x_ m' => (True) ∧ ∃ o_, x_ = some o_ ∧ StrO m' (mN m') o_ (spT V (f) a) ∧ Kp (mN m) m m' ∧ mN m ≤ mN m' ∧ mN m' ≤ mN m + sN (f) ∧ mZ m' ≤ mZ m + sZ (f))) (hT : TbM M0 tt qc cnt V) (hq : q < mN M0) (hn : n ≤ 3 ∧ V p 5 = (n : Int)) (h1 : V p 0 = 0 → 0 ≤ V p 1 ∧ V p 1 ≤ 2) (hk : ∀ j, j < n → ∃ a lo : Nat, V p (6 + j) = (a : Int) ∧ a < cnt ∧ TO V f lo a) (hc70 : cnt ≤ 70) (hG : tL f ≤ 300) (hr : mN M0 + 3 * (sN f + 20) ≤ NN ∧ mZ M0 + 3 * (sZ f + 130 + 10 * (3 * tL f + 18) + 8 * tL f) ≤ ZZ)
    (kx : ∀ (M : Mem) (T : Nat), Kp (mN M0) M0 M → mN M0 ≤ mN M ∧ mN M ≤ mN M0 + n * (sN f + 20) → mZ M ≤ mZ M0 + n * (sZ f + 130 + 10 * (3 * tL f + 18) + 8 * tL f) → SpW M q (mN M) T (V p) (kidT V (spT V f) p n) → _root_.Jvm.Pilot.@@N@@.V μL_spelled F m0 post 293 [(3, vr T), (2, vr q), (0, vr tt), (1, vi ((p : Nat) : Int))] [] M) : ∀ (dd j : Nat) (M : Mem) (T : Nat), dd + j = n → Kp (mN M0) M0 M → mN M0 ≤ mN M ∧ mN M ≤ mN M0 + j * (sN f + 20) → mZ M ≤ mZ M0 + j * (sZ f + 130 + 10 * (3 * tL f + 18) + 8 * tL f) → SpW M q (mN M) T (V p) (kidT V (spT V f) p j) → _root_.Jvm.Pilot.@@N@@.V μL_spelled F m0 post 81 [(4, vi ((j : Nat) : Int)), (3, vr T), (2, vr q), (0, vr tt), (1, vi ((p : Nat) : Int))] [] M := by
  intro dd
  induction dd with
  | zero =>
    intro j M T hi hKp hN hZ hW
    obtain rfl : n = j := by omega
    have kM0 : Kp (mN M) M M := Kp.rf
    have e0_ : ([] : List Int).length = 0 := rfl
    refine V_ld (pc := 81) dL_spelled_81 (v := vi ((n : Nat) : Int)) rfl rfl ?_
    refine V_ld (pc := 83) dL_spelled_83 (v := vr q) rfl rfl ?_
    refine V_iconst (pc := 84) dL_spelled_84 (by unfold I32; omega) ?_
    refine V_ialdv (pc := 85) dL_spelled_85 (v := ((n : Nat) : Int)) hW.1 (by omega) ((hW.2.1 5 (by decide)).trans hn.2) (fun g85 => ?_)
    refine V_icmp_ge (pc := 86) dL_spelled_86 (tgt := 293) rfl (fun h86 => ?_) (fun h86 => ?_)
    · skip
      refine V_ls (ls' := [(3, vr T), (2, vr q), (0, vr tt), (1, vi ((p : Nat) : Int))]) (by intro q_ h_; simp only [List.mem_cons, List.not_mem_nil, or_false] at h_ ⊢; rcases h_ with rfl | rfl | rfl | rfl <;> simp) ?_
      exact kx M T hKp hN hZ hW
    · skip
      exfalso; omega
  | succ dd ih2 =>
    intro j M T hi hKp hN hZ hW
    have kM0 : Kp (mN M) M M := Kp.rf
    have e0_ : ([] : List Int).length = 0 := rfl
    refine V_ld (pc := 81) dL_spelled_81 (v := vi ((j : Nat) : Int)) rfl rfl ?_
    refine V_ld (pc := 83) dL_spelled_83 (v := vr q) rfl rfl ?_
    refine V_iconst (pc := 84) dL_spelled_84 (by unfold I32; omega) ?_
    refine V_ialdv (pc := 85) dL_spelled_85 (v := ((n : Nat) : Int)) hW.1 (by omega) ((hW.2.1 5 (by decide)).trans hn.2) (fun g85 => ?_)
    refine V_icmp_ge (pc := 86) dL_spelled_86 (tgt := 293) rfl (fun h86 => ?_) (fun h86 => ?_)
    · skip
      exfalso; omega
    · skip
      skip
      obtain ⟨a, lo, ha1, ha2, hTO⟩ := hk j (by omega)
      have sh := kid_sh (g := spT V f) (G := tL f) h1 j (fun i hi => by
        obtain ⟨a', lo', e1, e2, e3⟩ := hk i (by omega)
        rw [e1, Int.toNat_natCast]; exact sp_sh f lo' a' e3)
      have lw := sh.1
      have j3 : j * (tL f + 3) ≤ 2 * (tL f + 3) := Nat.mul_le_mul_right _ (by omega)
      have j4 : j * (sN f + 20) ≤ 2 * (sN f + 20) := Nat.mul_le_mul_right _ (by omega)
      have j5 : j * (sZ f + 130 + 10 * (3 * tL f + 18) + 8 * tL f) ≤ 2 * (sZ f + 130 + 10 * (3 * tL f + 18) + 8 * tL f) := Nat.mul_le_mul_right _ (by omega)
      have s4 := Nat.succ_mul j (sN f + 20)
      have s5 := Nat.succ_mul j (sZ f + 130 + 10 * (3 * tL f + 18) + 8 * tL f)
      rw [Nat.succ_eq_add_one] at s4 s5
      have sa := sp_sh f lo a hTO
      refine L_spK hF (hT.mv (by omega) fun o_ ho_ => hKp o_ (Or.inl ho_)) hW (by omega) (by omega) ⟨ha1, ha2, hc70⟩ hTO ⟨sa.1, by omega⟩ ih (by omega) ⟨by omega, by omega⟩ fun m' T' k1 k2 k3 k4 => ?_
      refine V_iinc (pc := 287) dL_spelled_287 (x := ((j : Nat) : Int)) (ls' := [(4, vi (((j : Nat) : Int) + 1)), (3, vr T'), (2, vr q), (0, vr tt), (1, vi ((p : Nat) : Int))]) rfl (by unfold I32 at *; omega) (Nat.le_of_ble_eq_true rfl) rfl ?_
      refine V_goto (pc := 290) dL_spelled_290 (tgt := 81) rfl ?_
      skip
      have ek : kidT V (spT V f) p (j + 1) = kidT V (spT V f) p j ++ sepT (V p 0) j ++ brkT (V p 0) (V a 0) (spT V f a) := by
        show kidT V (spT V f) p j ++ sepT (V p 0) j ++ brkT (V p 0) (V (V p (6 + j)).toNat 0) (spT V f (V p (6 + j)).toNat) = _
        rw [ha1, Int.toNat_natCast]
      have h_ := ih2 (j + 1) m' T' (by omega) (hKp.tr (k1.le (by omega))) ⟨by omega, by omega⟩ (by omega) ⟨(k1 q (Or.inl (by omega))).1.trans hW.1, fun c hc => ((k1 q (Or.inl (by omega))).2.1 c).trans (hW.2.1 c hc), by rw [ek]; exact k4⟩
      rw [show ((j + 1 : Nat) : Int) = (j : Int) + 1 by omega] at h_
      exact h_
set_option maxHeartbeats 4000000 in
theorem w_spelled0 (qc : Nat) (cnt : Nat) (lo : Nat) (a : Nat) (V : Nat → Nat → Int) (m : Mem) (tt : Nat)   (hT : TbM m tt qc cnt V) (ha : a < cnt ∧ cnt ≤ 70) (hTO : TO V (0) lo a) (hr : mN m + sN (0) ≤ NN ∧ mZ m + sZ (0) ≤ ZZ) : Ct μL_spelled (0 + 7) [vr tt, vi ((a : Nat) : Int)] m (rq fun x_ m' => (True) ∧ ∃ o_, x_ = some o_ ∧ StrO m' (mN m') o_ (spT V (0) a) ∧ Kp (mN m) m m' ∧ mN m ≤ mN m' ∧ mN m' ≤ mN m + sN (0) ∧ mZ m' ≤ mZ m + sZ (0)) := by
  obtain ⟨n, hg⟩ := hTO.gen
  have hs := hg.sp
  obtain ⟨h1, h2, h3, h4, h5, h6⟩ := hg
  have hn : n = 0 ∧ V a 0 ≤ 2 := by
    rcases h6 with h6 | ⟨f', e, -⟩
    · exact h6
    · omega
  obtain rfl : n = 0 := hn.1
  have e0 : sN 0 = 50 := rfl
  have z0 : sZ 0 = 400 := rfl
  have hd := (hd_sh1 (s := V a 0) (c := V a 1) h4 hn.2).1
  refine Ct_of_V rfl (by decide) rfl (Nat.le_of_ble_eq_true rfl) ?_
  show _root_.Jvm.Pilot.@@N@@.V μL_spelled (0 + 7) m _ 0 [(0, vr tt), (1, vi ((a : Nat) : Int))] [] m
  refine L_spH (by omega) hT ha h4 ⟨by omega, by omega⟩ fun M T q k1 k2 k3 hW k5 => ?_
  have hF : 6 < 0 + 7 := by omega
  refine V_ld (pc := 81) dL_spelled_81 (v := vi ((0 : Nat) : Int)) rfl rfl ?_
  refine V_ld (pc := 83) dL_spelled_83 (v := vr q) rfl rfl ?_
  refine V_iconst (pc := 84) dL_spelled_84 (by unfold I32; omega) ?_
  refine V_ialdv (pc := 85) dL_spelled_85 (v := ((0 : Nat) : Int)) hW.1 (by omega) ((hW.2.1 5 (by decide)).trans h2) (fun g85 => ?_)
  refine V_icmp_ge (pc := 86) dL_spelled_86 (tgt := 293) rfl (fun h86 => ?_) (fun h86 => ?_)
  · skip
    refine V_ls (ls' := [(3, vr T), (2, vr q), (0, vr tt), (1, vi ((a : Nat) : Int))]) (by intro q_ h_; simp only [List.mem_cons, List.not_mem_nil, or_false] at h_ ⊢; rcases h_ with rfl | rfl | rfl | rfl <;> simp) ?_
    refine L_spF (by omega) hW (by omega) h5 (by omega) ⟨by omega, by omega⟩ fun m' o i1 i2 i3 i4 => ?_
    refine ⟨trivial, o, rfl, by rw [hs]; exact i4, k1.tr (i1.le (by omega)), by omega, by omega, by omega⟩
  · skip
    exfalso; omega
set_option maxHeartbeats 4000000 in
theorem w_spelledS {f : Nat} (hG : tL f ≤ 300) (ih : ∀ (qc : Nat) (cnt : Nat) (lo : Nat) (a : Nat) (V : Nat → Nat → Int) (m : Mem) (tt : Nat)   (hT : TbM m tt qc cnt V) (ha : a < cnt ∧ cnt ≤ 70) (hTO : TO V (f) lo a) (hr : mN m + sN (f) ≤ NN ∧ mZ m + sZ (f) ≤ ZZ), Ct μL_spelled (f + 7) [vr tt, vi ((a : Nat) : Int)] m (rq fun x_ m' => (True) ∧ ∃ o_, x_ = some o_ ∧ StrO m' (mN m') o_ (spT V (f) a) ∧ Kp (mN m) m m' ∧ mN m ≤ mN m' ∧ mN m' ≤ mN m + sN (f) ∧ mZ m' ≤ mZ m + sZ (f))) (qc : Nat) (cnt : Nat) (lo : Nat) (a : Nat) (V : Nat → Nat → Int) (m : Mem) (tt : Nat)   (hT : TbM m tt qc cnt V) (ha : a < cnt ∧ cnt ≤ 70) (hTO : TO V (f + 1) lo a) (hr : mN m + sN (f + 1) ≤ NN ∧ mZ m + sZ (f + 1) ≤ ZZ) : Ct μL_spelled (f + 1 + 7) [vr tt, vi ((a : Nat) : Int)] m (rq fun x_ m' => (True) ∧ ∃ o_, x_ = some o_ ∧ StrO m' (mN m') o_ (spT V (f + 1) a) ∧ Kp (mN m) m m' ∧ mN m ≤ mN m' ∧ mN m' ≤ mN m + sN (f + 1) ∧ mZ m' ≤ mZ m + sZ (f + 1)) := by
  obtain ⟨n, hg⟩ := hTO.gen
  have hs := hg.sp
  obtain ⟨h1, h2, h3, h4, h5, h6⟩ := hg
  have hk : ∀ j, j < n → ∃ a' lo : Nat, V a (6 + j) = (a' : Int) ∧ a' < cnt ∧ TO V f lo a' := fun j hj => by
    rcases h6 with ⟨h6, -⟩ | ⟨f', e, h6⟩
    · omega
    · obtain rfl : f = f' := by omega
      obtain ⟨a', lo, e1, e2, e3⟩ := h6 j hj
      exact ⟨a', lo, e1, by omega, e3⟩
  have e0 : sN (f + 1) = 3 * sN f + 100 := rfl
  have e1 : tL (f + 1) = 3 * tL f + 18 := rfl
  have z0 : sZ (f + 1) = 3 * sZ f + 600 + 60 * tL (f + 1) := rfl
  have sh := kid_sh (g := spT V f) (G := tL f) h4 n (fun i hi => by
    obtain ⟨a', lo', e1, e2, e3⟩ := hk i (by omega)
    rw [e1, Int.toNat_natCast]; exact sp_sh f lo' a' e3)
  have lw := sh.1
  have j3 : n * (tL f + 3) ≤ 3 * (tL f + 3) := Nat.mul_le_mul_right _ h1
  have j4 : n * (sN f + 20) ≤ 3 * (sN f + 20) := Nat.mul_le_mul_right _ h1
  have j5 : n * (sZ f + 130 + 10 * (3 * tL f + 18) + 8 * tL f) ≤ 3 * (sZ f + 130 + 10 * (3 * tL f + 18) + 8 * tL f) := Nat.mul_le_mul_right _ h1
  refine Ct_of_V rfl (by decide) rfl (Nat.le_of_ble_eq_true rfl) ?_
  show _root_.Jvm.Pilot.@@N@@.V μL_spelled (f + 1 + 7) m _ 0 [(0, vr tt), (1, vi ((a : Nat) : Int))] [] m
  refine L_spH (by omega) hT ha h4 ⟨by omega, by omega⟩ fun M1 T1 q k1 k2 k3 k4 k5 => ?_
  refine L_spL (n := n) (by omega) ih (hT.mv (by omega) fun o_ ho_ => k1 o_ (Or.inl ho_)) (by omega) ⟨h1, h2⟩ h4 hk ha.2 hG ⟨by omega, by omega⟩ (fun M T j1 j2 j6 hW => ?_) n 0 M1 T1 (by omega) Kp.rf ⟨by omega, by omega⟩ (by omega) k4
  refine L_spF (by omega) hW (by omega) h5 (by omega) ⟨by omega, by omega⟩ fun m' o i1 i2 i3 i4 => ?_
  refine ⟨trivial, o, rfl, by rw [hs]; exact i4, (k1.tr (j1.le (by omega))).tr (i1.le (by omega)), by omega, by omega, by omega⟩
theorem tL_mono : tL 0 = 1 ∧ tL 1 = 21 ∧ tL 2 = 81 ∧ tL 3 = 261 := ⟨rfl, rfl, rfl, rfl⟩
theorem w_spelled3 (qc : Nat) (cnt : Nat) (lo : Nat) (a : Nat) (V : Nat → Nat → Int) (m : Mem) (tt : Nat)   (hT : TbM m tt qc cnt V) (ha : a < cnt ∧ cnt ≤ 70) (hTO : TO V (3) lo a) (hr : mN m + sN (3) ≤ NN ∧ mZ m + sZ (3) ≤ ZZ) : Ct μL_spelled (3 + 7) [vr tt, vi ((a : Nat) : Int)] m (rq fun x_ m' => (True) ∧ ∃ o_, x_ = some o_ ∧ StrO m' (mN m') o_ (spT V (3) a) ∧ Kp (mN m) m m' ∧ mN m ≤ mN m' ∧ mN m' ≤ mN m + sN (3) ∧ mZ m' ≤ mZ m + sZ (3)) :=
  w_spelledS (by decide) (w_spelledS (by decide) (w_spelledS (by decide) w_spelled0)) qc cnt lo a V m tt hT ha hTO hr
