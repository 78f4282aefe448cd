/-! THE START, 2 -/
/-- where what lies outside lies -/
def adO (b : Nat) (adK adV : Nat → Nat) (t1 t2 t3 : Nat) (o : Nat) : Nat := if o = SC then b else if o < SC + 49 then (if (o - SC) % 2 = 1 then adK ((o - SC - 1) / 2) else adV ((o - SC - 2) / 2)) else if o = SC + 49 then t1 else if o = SC + 50 then t2 else t3
theorem adO_K {b t1 t2 t3 i : Nat} {adK adV : Nat → Nat} (h : i < 24) : adO b adK adV t1 t2 t3 (kS i) = adK i := by
  unfold adO kS
  rw [if_neg (by omega), if_pos (by omega), if_pos (by omega), show (SC + 2 * i + 1 - SC - 1) / 2 = i by omega]
theorem adO_V {b t1 t2 t3 i : Nat} {adK adV : Nat → Nat} (h : i < 24) : adO b adK adV t1 t2 t3 (kB i) = adV i := by
  unfold adO kB
  rw [if_neg (by omega), if_pos (by omega), if_neg (by omega), show (SC + 2 * i + 2 - SC - 2) / 2 = i by omega]
theorem out_start {s : State} {b L : Nat} {xs : Nat → Int32} {A : Nat → Prop} (hts : ∀ w ∈ lw_tbl, w.before #[Value.ref b] s = true) (hgv : (Jvm.Cond.and given_1 narrow_1).before #[Value.ref b] s = true) (hX : va_X b L xs s s.heap) (hA : ∀ a : Nat, a < s.heap.size → ¬ A a) :
    ∃ ad : Nat → Nat, ad SC = b ∧ Out A ad (L, fun j => (xs j).toInt) s := by
  have hs : ∀ c ∈ flG, c.before #[Value.ref b] s = true := flat_of_before _ hgv
  obtain ⟨adK, adV, hS, hE⟩ := vk_Sof (args := #[Value.ref b]) (s := s) (N := 24) (tm := tmS) (len := litL) (byt := litV) (A := A) st_n (fun i hi => hs _ (st_ex i hi)) (fun i hi => hs _ (st_co i hi)) (fun i hi => hs _ (st_ar i hi)) (fun i hi => hs _ (st_le i hi)) (fun i hi j hj => hs _ (st_el i hi j hj)) (fun i j hi hj hij => (st_ne i hi j hj hij).imp (hs _) (hs _)) hA
  obtain ⟨q1, q2, q3, q4, q5, q6⟩ := st_1
  obtain ⟨⟨p1, p2, p3, p4⟩, p5, p6, p7⟩ := st_2
  obtain ⟨t1, e1, T1⟩ := va_Tof (args := #[Value.ref b]) (s := s) (tm := .static RJ6 "DigitOnes" "[B") (ty := .byte) (N := 100) (f := fun j => .int (Int32.ofInt (outI (SC + 49) j))) (A := A) (by decide) (hs _ q1) (va_eqt (hs _ q2)) (fun j hj => va_eqt (hs _ (st_d1 j hj))) hA
  obtain ⟨t2, e2, T2⟩ := va_Tof (args := #[Value.ref b]) (s := s) (tm := .static RJ6 "DigitTens" "[B") (ty := .byte) (N := 100) (f := fun j => .int (Int32.ofInt (outI (SC + 50) j))) (A := A) (by decide) (hs _ q3) (va_eqt (hs _ q4)) (fun j hj => va_eqt (hs _ (st_d2 j hj))) hA
  have Z1 := va_Zref (A := A) (hts _ p1) (hts _ p5) e1 hA
  have Z2 := va_Zref (A := A) (hts _ p2) (hts _ p5) e2 hA
  have Z0 := va_Zof (A := A) (hts _ p3) (hts _ p6) (va_eqt (hs _ q5)) hA
  have Zq := va_Zqof (A := A) (hts _ p4) (hts _ p7) (hs _ q6) hA
  obtain ⟨t3, h3⟩ : ∃ t3 : Nat, va_Z "jdk/internal/util/Preconditions" "SIOOBE_FORMATTER" "Ljava/util/function/BiFunction;" .null A s s.heap ∨ va_Z "jdk/internal/util/Preconditions" "SIOOBE_FORMATTER" "Ljava/util/function/BiFunction;" (.ref t3) A s s.heap := by
    rcases Zq with h | ⟨t, h⟩
    · exact ⟨0, Or.inl h⟩
    · exact ⟨t, Or.inr h⟩
  have a0 : adO b adK adV t1 t2 t3 SC = b := if_pos rfl
  have a49 : adO b adK adV t1 t2 t3 (SC + 49) = t1 := by
    unfold adO; rw [if_neg (by omega), if_neg (by omega), if_pos rfl]
  have a50 : adO b adK adV t1 t2 t3 (SC + 50) = t2 := by
    unfold adO; rw [if_neg (by omega), if_neg (by omega), if_neg (by omega), if_pos rfl]
  have a51 : adO b adK adV t1 t2 t3 (SC + 51) = t3 := by
    unfold adO; rw [if_neg (by omega), if_neg (by omega), if_neg (by omega), if_neg (by omega)]
  refine ⟨adO b adK adV t1 t2 t3, a0, ?_, hS.ext (fun i hi => adO_K hi) (fun i hi => adO_V hi), fun i hi => ?_, Z0, by rw [a49]; exact Z1, by rw [a50]; exact Z2, by rw [a49]; exact T1, by rw [a50]; exact T2, ?_⟩
  · rw [a0]
    obtain ⟨cell, c1, c2, c3, c4, c5⟩ := hX
    have hfun : (fun j => Value.int (Int32.ofInt ((xs j).toInt))) = fun j => Value.int (xs j) := funext fun j => by rw [Int32.ofInt_toInt]
    show va_T .int b L (fun j => Value.int (Int32.ofInt ((xs j).toInt))) A s s.heap
    rw [hfun]
    exact ⟨cell, c1, c2, c3, Nat.le_of_eq c4.symm, by rw [c4], c5, hA b (Array.getElem?_eq_some_iff.mp c1).1⟩
  · rw [adO_K hi]
    exact vk_R.of (hts _ (st_R i hi)) (hE i hi)
  · rcases h3 with h | h
    · exact ⟨none, Or.inl rfl, h⟩
    · refine ⟨some (SC + 51), Or.inr rfl, ?_⟩
      show va_Z _ _ _ (va_rf (some (adO b adK adV t1 t2 t3 (SC + 51)))) A s s.heap
      rw [a51]
      exact h
/-- the memory at the law's start: what lies outside alone -/
def memO (S : Nat × (Nat → Int)) : Mem := (fun o => if o < 1000 then (0, 0) else outT S o, fun o k => if o < 1000 then 0 else outI o k, fun o k => if o < 1000 then none else outR o k, 0, 0, S)
theorem memO_ok {S : Nat × (Nat → Int)} (h1 : S.1 ≤ 260) (h2 : ∀ j, I32 (S.2 j)) : okM (memO S) := ⟨fun o k ho => absurd ho (Nat.not_lt_zero _), fun o k o' ho => absurd ho (Nat.not_lt_zero _), Nat.zero_le _, Nat.zero_le _, fun o ho => by
  have hn : ¬ o < 1000 := by unfold isOut SC at ho; omega
  exact ⟨if_neg hn, fun k => if_neg hn, fun k => if_neg hn⟩, h1, h2⟩
theorem memO_St {S : Nat × (Nat → Int)} : St (memO S) 0 0 [] [] [] := ⟨rfl, rfl, fun o ho => absurd ho (Nat.not_lt_zero _), fun o k ho => if_pos ho, fun o k ho => if_pos ho⟩
