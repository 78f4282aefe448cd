/-! THE CLAIM OUT OF ONE WALK OF THE LAW'S BODY. Your part is whole_start (and what it stands on); all else here is the same for every law, but numbers. -/
def R_law : String := "RowPatternsLaw"
def lw_P (b : Addr) (xs : List Int32) (args : Array Value) (s : State) : Prop := args = #[.ref b] ∧ s.IntsAt b xs ∧ xs.length ≤ 260 ∧ (Jvm.Cond.and given_1 narrow_1).before args s = true
def lw_Q (_ : Array Value) (s : State) (o : Outcome) (t : State) : Prop := o = .returned (some (.int 1)) ∧ Framed s o t [] 600000 7302250
def lw_Z (below : List Frame) (a : Array Value) (s : State) : State → Prop := fun t => ∃ o, t.status = .running ∧ Ended t below o ∧ lw_Q a s o t
/-- the law's own end, with 1 on the stack, nothing written that was there before, its room as the claim has it -/
theorem lw_ret {p : Program} {l : Launch} {e : Env} {s : State} {m : MethodId} {below : List Frame} {meth : Method} {c : Code} {b : Nat} (hx : p.tables.exec = Jvm.exec) (hb : c.code = code) (hr : meth.sig.returnType = ret) (hlocks : meth.locks = false) {pc : Nat} {H : Heap} {ls : Array Slot} (hdg : decode code pc = .ok (.ireturn, 1)) : W p l e room_1 s m #[Value.ref b] below meth c H [] 600000 7302250 (lw_Z below #[Value.ref b] s) (F0 m pc ls [.int 1]) := by
  intro T hT X
  obtain ⟨fs, hret, hrun, hended, hW, hframe⟩ := X.leave (v := some (.int 1)) (hlocks := hlocks) (fun h => by rw [hr] at h; cases h)
  have hmeth' : T.vm.method? m = some meth := X.method'
  refine ⟨T.setFrames fs, ?_, .returned (some (.int 1)), hrun, hended, rfl, ⟨_, rfl⟩, hW, hframe⟩
  jvm_step X.here [X.here.top, hx, hb, hdg, hmeth', hr, ret, narrow_b1]
  (try refine ⟨rfl, ?_⟩); (try refine ⟨rfl, ?_⟩)
  first | (intro acts; rw [hret _ acts rfl rfl rfl]) | rw [hret _ _ rfl rfl rfl]
  exact Steps.refl _
/-- what holds at the law's entry: the machine, the code, the tables' words (any of lw_tbl by 'hts w (by decide +kernel)'), the script of L ints xs at the cell b, what the Statement gives of the start (any of its parts by flat_of_before) -/
def lw_At (p : Program) (s : State) (m : MethodId) (meth : Method) (c : Code) (b L : Nat) (xs : Nat → Int32) : Prop :=
  p.tables.exec = Jvm.exec ∧ c.code = code ∧ meth.sig.returnType = ret ∧ c.maxLocals = 18 ∧ s.vm.findClass R_law = some m.cls ∧ (∀ w ∈ lw_tbl, w.before #[Value.ref b] s = true) ∧ va_X b L xs s s.heap ∧ b < s.heap.size ∧ meth.locks = false ∧ (Jvm.Cond.and given_1 narrow_1).before #[Value.ref b] s = true ∧ meth.name = "law"

/-- what the tables say of classes and rows -/
theorem law_known {s : State} {A : Array Value} (hts : ∀ w ∈ lw_tb2, w.before A s = true) : ∃ G : AG, Kn G s := by
  have htg : ∀ w ∈ lwg, w.before A s = true := fun w hw => hts w (List.mem_filter.mp hw).1
  have hall : ∀ k : Nat, ∃ p : ClassId × (Nat → Nat), ∀ q : vw_C, clsL[k]? = some q → u_Kn s q.1 q.2.1 q.2.2 p.1 p.2 := fun k => by
    match k with
    | 0 =>
      obtain ⟨c, q, h⟩ := u_known (C := RX0) (T := TX0) (N := 1) (n := 1) htg coi0 (htg _ w_928)
      exact ⟨(c, q), fun q hq => by cases hq; exact h⟩
    | 1 =>
      obtain ⟨c, q, h⟩ := u_known (C := RX1) (T := TX1) (N := 7) (n := 7) htg coi1 (htg _ w_837)
      exact ⟨(c, q), fun q hq => by cases hq; exact h⟩
    | 2 =>
      obtain ⟨c, q, h⟩ := u_known (C := RX2) (T := TX2) (N := 2) (n := 2) htg coi2 (htg _ w_235)
      exact ⟨(c, q), fun q hq => by cases hq; exact h⟩
    | 3 =>
      obtain ⟨c, q, h⟩ := u_known (C := RX3) (T := TX3) (N := 4) (n := 4) htg coi3 (htg _ w_105)
      exact ⟨(c, q), fun q hq => by cases hq; exact h⟩
    | 4 =>
      obtain ⟨c, q, h⟩ := u_known (C := RX4) (T := TX4) (N := 2) (n := 2) htg coi4 (htg _ w_999)
      exact ⟨(c, q), fun q hq => by cases hq; exact h⟩
    | 5 =>
      obtain ⟨c, q, h⟩ := u_known (C := RX5) (T := TX5) (N := 4) (n := 4) htg coi5 (htg _ w_993)
      exact ⟨(c, q), fun q hq => by cases hq; exact h⟩
    | 6 =>
      obtain ⟨c, q, h⟩ := u_known (C := RX6) (T := TX6) (N := 14) (n := 14) htg coi6 (htg _ w_161)
      exact ⟨(c, q), fun q hq => by cases hq; exact h⟩
    | 7 =>
      obtain ⟨c, q, h⟩ := u_known (C := RX7) (T := TX7) (N := 8) (n := 8) htg coi7 (htg _ w_81)
      exact ⟨(c, q), fun q hq => by cases hq; exact h⟩
    | 8 =>
      obtain ⟨c, q, h⟩ := u_known (C := RX8) (T := TX8) (N := 2) (n := 2) htg coi8 (htg _ w_87)
      exact ⟨(c, q), fun q hq => by cases hq; exact h⟩
    | 9 =>
      obtain ⟨c, q, h⟩ := u_known (C := RX9) (T := TX9) (N := 2) (n := 2) htg coi9 (htg _ w_216)
      exact ⟨(c, q), fun q hq => by cases hq; exact h⟩
    | 10 =>
      obtain ⟨c, q, h⟩ := u_known (C := RX10) (T := TX10) (N := 7) (n := 7) htg coi10 (htg _ w_73)
      exact ⟨(c, q), fun q hq => by cases hq; exact h⟩
    | 11 =>
      obtain ⟨c, q, h⟩ := u_known (C := RJ0) (T := TJ0) (N := 4) (n := 4) htg coi11 (htg _ w_751)
      exact ⟨(c, q), fun q hq => by cases hq; exact h⟩
    | 12 =>
      obtain ⟨c, q, h⟩ := u_known (C := RJ4) (T := TJ4) (N := 4) (n := 4) htg coi12 (htg _ w_567)
      exact ⟨(c, q), fun q hq => by cases hq; exact h⟩
    | k + 13 =>
      obtain ⟨c, q, h⟩ := u_known (C := RX0) (T := TX0) (N := 1) (n := 1) htg coi0 (htg _ w_928)
      exact ⟨(c, q), fun q hq => by simp at hq⟩
  obtain ⟨f, hf⟩ : ∃ f : Nat → ClassId × (Nat → Nat), ∀ k q, clsL[k]? = some q → u_Kn s q.1 q.2.1 q.2.2 (f k).1 (f k).2 := Classical.axiomOfChoice hall
  obtain ⟨a0, ka0, cm0, f0, g0, e0⟩ := Cond.arrayClass_spec (htg _ wa_int)
  obtain ⟨a1, ka1, cm1, f1, g1, e1⟩ := Cond.arrayClass_spec (htg _ wa_long)
  obtain ⟨a4, ka4, cm4, f4, g4, e4⟩ := Cond.arrayClass_spec (htg _ wa_byte)
  obtain ⟨cm2, a2, ka2, p1, p2, p3, p4, p5⟩ := Cond.arrayOver_spec (args := A) (va_AO.use (va_AO.of (hts _ wa_2)))
  obtain ⟨cm3, a3, ka3, q1, q2, q3, q4, q5⟩ := Cond.arrayOver_spec (args := A) (va_AO.use (va_AO.of (hts _ wa_0)))
  obtain ⟨cm6, a6, ka6, r1, r2, r3, r4, r5⟩ := Cond.arrayOver_spec (args := A) (va_AO.use (va_AO.of (hts _ wa_11)))
  have hai : AOI s := hts _ wa_ii
  obtain ⟨cm5, a5, ka5, t1, t2, t3, t4, t5⟩ := arrayOverA_spec (args := #[]) (first := s) (s := s) (o := none) (idx := []) hai
  refine ⟨((fun k => (f k).1, fun k => (f k).2), fun k => match k with | 0 => a0 | 1 => a1 | 2 => a2 | 3 => a3 | 4 => a4 | 5 => a5 | _ => a6), ⟨fun k q hq => hf k q hq, fun k q hq => ?_⟩, ⟨fun q hq => va_Nw.of rfl (hts _ (lwx_in q hq)), va_AO.of (hts _ wa_2), va_AO.of (hts _ wa_0), hai, va_AO.of (hts _ wa_11), va_Nw.of rfl (hts _ wa_nc)⟩⟩
  match k, hq with
  | 0, hq => cases hq; exact ⟨fun n z => ⟨fun k h => (by cases h), ka0, g0, cm0, e0⟩, f0⟩
  | 1, hq => cases hq; exact ⟨fun n z => ⟨fun k h => (by cases h), ka1, g1, cm1, e1⟩, f1⟩
  | 2, hq => cases hq; exact ⟨fun n z => ⟨fun k h => (by cases h), ka2, p3, cm2, p4⟩, ka2, cm2, p3, p4, p1, p5⟩
  | 3, hq => cases hq; exact ⟨fun n z => ⟨fun k h => (by cases h), ka3, q3, cm3, q4⟩, ka3, cm3, q3, q4, q1, q5⟩
  | 4, hq => cases hq; exact ⟨fun n z => ⟨fun k h => (by cases h), ka4, g4, cm4, e4⟩, f4⟩
  | 5, hq => cases hq; exact ⟨fun n z => ⟨fun k h => (by cases h), ka5, t3, cm5, t4⟩, t5⟩
  | 6, hq => cases hq; exact ⟨fun n z => ⟨fun k h => (by cases h), ka6, r3, cm6, r4⟩, ka6, cm6, r3, r4, r1, r5⟩
  | k + 7, hq => simp [tysL] at hq
set_option maxHeartbeats 4000000 in
theorem whole_start {p : Program} {e : Env} {s : State} {m : MethodId} {below : List Frame} {meth : Method} {c : Code} (l : Launch) (hflags : l.flags = flags0) {b L : Nat} {xs : Nat → Int32} (hL : L ≤ 260) (C0 : lw_At p s m meth c b L xs) : W p l e room_1 s m #[Value.ref b] below meth c s.heap [] 0 0 (lw_Z below #[Value.ref b] s) (entryFrame m ([Value.ref b] : List Value).toArray 18) := by
  obtain ⟨hx, hb, hr, hml, hown, hts, hX, hbl, hlocks, hgv, hname⟩ := id C0
  have ht2 := hts2 hts
  obtain ⟨G, hK⟩ := law_known ht2
  have hl := lv_entry ([.ref b]) (n := 18) (Nat.le_of_ble_eq_true rfl)
  rw [lg_entry_eq]
  generalize (lg_sl ([.ref b]) ++ List.replicate (18 - (lg_sl ([.ref b])).length) Slot.unset).toArray = la at hl ⊢
  have hl : lv_has la 18 [(0, .ref b)] := hl
  have hA : ∀ (ad : Nat → Nat) (a : Nat), a < s.heap.size → ¬ Aof ad 0 s.heap.size a := fun ad a ha h => by
    rcases h with ⟨o, ho, _⟩ | h
    · exact absurd ho (Nat.not_lt_zero _)
    · omega
  have hAe : ∀ ad ad' : Nat → Nat, Aof ad 0 s.heap.size = Aof ad' 0 s.heap.size := fun ad ad' => funext fun q => propext ⟨fun h => h.imp (fun ⟨o, ho, _⟩ => absurd ho (Nat.not_lt_zero _)) id, fun h => h.imp (fun ⟨o, ho, _⟩ => absurd ho (Nat.not_lt_zero _)) id⟩
  obtain ⟨ad, hb0, hOut⟩ := out_start (A := Aof (fun _ => 0) 0 s.heap.size) hts hgv hX (hA _)
  rw [hAe (fun _ => 0) ad] at hOut
  have hv := law_all (memO_St (S := (L, fun j => (xs j).toInt)))
  have C : Cx μL_law p s m #[Value.ref b] meth c := ⟨hx, hb, hml, hown, fun w hw => ht2 w (List.mem_filter.mp hw).1, hr.trans rfl, hlocks, hname⟩
  have RR : RoomOK room_1 2048 (memO (L, fun j => (xs j).toInt)) := ⟨Nat.le_of_ble_eq_true rfl, Nat.le_of_ble_eq_true rfl, rfl, rfl⟩
  have RL : Rl μL_law G s (memO (L, fun j => (xs j).toInt)) (memO (L, fun j => (xs j).toInt)) ad ad s.heap [] := by
    refine ⟨fun k q h => ?_, ⟨fun i j p q h => ?_, fun k q h => ?_⟩, va_S.rf, memO_ok hL (fun j => ⟨Int32.le_toInt _, Int32.toInt_lt _⟩), Nat.le_refl _, Nat.le_refl _, fun _ _ => rfl, hOut, rfl⟩
    · have h : ([] : va_W)[k]? = some q := h
      simp at h
    · have h : ([] : va_W)[i]? = some p := h
      simp at h
    · have h : ([] : va_W)[k]? = some q := h
      simp at h
  have RT : RetOK μL_law lpost p l e room_1 s m #[Value.ref b] below meth c G (memO (L, fun j => (xs j).toInt)) ad (lw_Z below #[Value.ref b] s) := by
    intro pc la r m' ad' H locs hd hrk hvv RL' hpost
    cases hpost
    obtain ⟨r1, r2, r3, r4, r5, r6, r7, r8⟩ := RL'
    refine va_forget (fun q hq => ?_) ?_
    · rcases r3.2.2 q hq with ⟨o, ho, _⟩ | h
      · exact absurd ho (Nat.not_lt_zero _)
      · exact h
    · refine W.widen (k := 600000) (n := 7302250) ?_ ?_ ?_
      · have := r4.2.2.1; unfold NN at this; omega
      · have := r4.2.2.2.1; unfold ZZ at this; omega
      · exact lw_ret hx hb hr hlocks hd
  have h1 := hv p l e room_1 s m #[Value.ref b] below meth c G ad ad s.heap [] la (lw_Z below #[Value.ref b] s) C hK RR RT RL (fun q hq => by
    rw [List.mem_singleton] at hq
    subst hq
    exact Or.inr isOut_SC) (fun _ hv => by cases hv) (by
    show lv_has la 18 [(0, .ref (ad SC))]
    rw [hb0]; exact hl)
  unfold WT at h1
  rw [Nat.sub_self, Nat.sub_self] at h1
  exact h1

set_option maxHeartbeats 4000000 in
theorem lw_walk (l : Launch) (hflags : l.flags = flags0) (b : Addr) (xs : List Int32) : MetFree l x (headSpec (Jvm.Cond.code x code maxLocals ret :: tables_1) room_1) (lw_P b xs) (fun _ _ _ _ _ => True) lw_Q := by
  refine MetFree.of_bodyS (code := code) (maxLocals := maxLocals) (ret := ret) (by decide) ?_ ?_
  · intro args s m h hn
    obtain ⟨meth, c, h1, h2, h3, h4, h5, h6, -, -⟩ := Cond.code_spec hn (atoms_spec (ws := Jvm.Cond.code x code maxLocals ret :: tables_1) h _ List.mem_cons_self)
    exact ⟨meth, c, h1, h2, h3, h4, h5, h6⟩
  · intro p e s m args below meth c s₁ B hml0 hP _
    obtain ⟨rfl, hx, hbd, hgv⟩ := hP
    obtain ⟨scr, harrAt, hlist, hof, hsmall⟩ := hx
    obtain ⟨hcb, hkn, -, -⟩ := State.arrayAt?_spec harrAt
    have hown : s.vm.findClass R_law = some m.cls := findClass_of_methodNamed B.named
    have hts0 : ∀ c ∈ (Jvm.Cond.code x code maxLocals ret :: tables_1), c.before #[Value.ref b] s = true := atoms_spec (ws := Jvm.Cond.code x code maxLocals ret :: tables_1) B.pre
    have hts : ∀ w ∈ lw_tbl, w.before #[Value.ref b] s = true := k2_hts_sels lw_privs (fun w hw => hts0 w (List.mem_cons_of_mem _ hw)) lw_privs_ok
    have hml : c.maxLocals = 18 := B.maxLocals_eq (hts0 _ List.mem_cons_self)
    have X₀ : Stand p l e room_1 s m #[Value.ref b] below meth c s₁ [] 0 0 := Stand.of_body B
    have hh0 : s₁.heap = s.heap := by rw [B.state]; rfl
    have hsz : scr.slots.size = xs.length := by rw [← Array.length_toList, hlist, List.length_map]
    have hval : ∀ j : Nat, j < xs.length → scr.slots[j]? = some (.int (xs.getD j 0)) := fun j hj => by
      rw [← Array.getElem?_toList, hlist]
      simp [hj]
    have hbl : b < s.heap.size := (Array.getElem?_eq_some_iff.mp hcb).1
    have hX : va_X b xs.length (fun j => xs.getD j 0) s s.heap := ⟨scr, hcb, hof, hkn, hsz, hval⟩
    have K : W p l e room_1 s m #[Value.ref b] below meth c s₁.heap [] 0 0 (lw_Z below #[Value.ref b] s) (entryFrame m ([Value.ref b] : List Value).toArray 18) := by
      rw [hh0]
      exact whole_start l hflags hbd ⟨B.exec, B.bytes, B.returns, hml, hown, hts, hX, hbl, B.notSynchronized, hgv, (name_of_methodNamed B.named B.method).1⟩
    obtain ⟨t, a1, o, b1, b2, b3⟩ := K s₁ rfl X₀
    exact ⟨t, o, a1, b1, b2, b3⟩
theorem lw_pre_spec {args : Array Value} {s : State} (h : (Jvm.Cond.and given_1 narrow_1).before args s = true) (hr : rest_1_c.before args s = true) : ∃ (b : Addr) (xs : List Int32), lw_P b xs args s := by
  have hs := flat_of_before _ h
  have hq := flat_of_before _ hr
  have hc : (Cond.count 1).before args s = true := hs _ (by decide +kernel)
  have harr : (Cond.arrayOf (.arg 0) .int).before args s = true := hs _ (by decide +kernel)
  have hle : (Cond.le (.length (.arg 0)) (.int 260)).before args s = true := hs _ (by decide +kernel)
  have hlen : (Cond.isInt (.length (.arg 0))).before args s = true := hq _ (by decide +kernel)
  have hall : (Cond.all (.arg 0) (.isInt (.elem (.arg 0) (.index 0)))).before args s = true := hq _ (by decide +kernel)
  obtain ⟨b, xs, hb, hx⟩ := State.ints_of_pre rfl harr hlen hall
  have hsm : xs.length < 2 ^ 31 := hx.choose_spec.2.2.2
  have hev : (Term.length (.arg 0)).eval args s none [] s = some (.int xs.length.toInt32) := hx.length_eval hb
  have hv := Cond.le_ints hev (show (Term.int 260).eval args s none [] s = some (.int 260) from rfl)
  have hd : xs.length.toInt32 ≤ 260 := by
    simpa [Cond.before, Cond.holds, hv] using hle
  have hN : xs.length ≤ 260 := (Int32.ofNat_le_ofNat hsm (by decide)).mp (show Int32.ofNat xs.length ≤ Int32.ofNat 260 from hd)
  exact ⟨b, xs, Cond.one_arg hc (show args[0]? = some (.ref b) from hb), hx, hN, h⟩
theorem lw_comes (l : Launch) (hflags : l.flags = flags0) : Comes l x (Jvm.Cond.code x code maxLocals ret :: tables_1) room_1 (fun tb e args s => Calls_1 tb e args s ∧ rest_1 tb e args s ∧ Pre_1 tb e args s)
    (fun _ _ args s o t => lw_Q args s o t) := by
  intro p e ha hc hk s m args below hf hfit hheap happ hpre
  obtain ⟨b, xs, hP⟩ := lw_pre_spec hpre.2.2 hpre.2.1
  obtain ⟨k, o, h1, h2, h3, hQ⟩ := lw_walk l hflags b xs p e ha hc hk s m args below hf ((Spec.applies_iff_loose hf).mp happ).1 hP trivial
  exact ⟨k, o, h1, h2, h3, hQ⟩
theorem lw_frame {s t : State} {o : Outcome} {args : Array Value} (h : Framed s o t [] 600000 7302250) :
    Framed s o t (fieldLocs frame_1_writes args s ++ arrayLocs frame_1_arrays args s ++ staticLocs frame_1_statics s) 600000 7302250 := h
theorem lw_limb (L : Cond) (hL : ∀ (args : Array Value) (s t : State), L.after args s (.returned (some (.int 1))) t = true) :
    ArmFor flags0 classFile x code maxLocals ret World_1 tables_1 room_1 Calls_1 rest_1 Pre_1
      (fun tb e a s o t => postC L tb e a s o t ∧ Framed s o t (fieldLocs frame_1_writes a s ++ arrayLocs frame_1_arrays a s ++ staticLocs frame_1_statics s) 600000 7302250) := by
  intro l hflags _ _ p e ha hc hk s m args below hf hfit hheap happ hpre
  obtain ⟨k, o, h1, h2, h3, rfl, hF⟩ := lw_comes l hflags p e ha hc hk s m args below hf hfit hheap happ hpre
  exact ⟨k, _, h1, h2, h3, hL args s _, lw_frame hF⟩
theorem i_vc : Claimed_1_1 ∧ Claimed_1_2 := ⟨lw_limb limb_1_1 (fun args s t => by simp [limb_1_1, Cond.after, Cond.holds, Cond.value]), lw_limb limb_1_2 (fun args s t => Cond.after_iff.mpr (by
  first | (rw [show limb_1_2 = Cond.eq .result (.int 1) from rfl, Cond.eq_ints (x := 1) (y := 1) rfl rfl]; simp; done) | (simp [limb_1_2, Cond.value, Term.eval]; done)))⟩
