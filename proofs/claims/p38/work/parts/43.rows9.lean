/-! ROWS 9: new objects by their number -/
section ROWS9
variable {μ : MI} {F : Nat} {m0 : Mem} {post : Option AV → Mem → Prop} {pc : Nat} {ls : AL} {st : List AV} {m : Mem}
theorem V_newv {idx c N : Nat} (o : Nat) (ho : mN m = o) (hd : decode (μc μ) pc = .ok (.new idx, 3)) (hw : NW (μo μ) idx c N) (hn : o + 1 ≤ NN) (hz : mZ m + N ≤ ZZ) (next : V μ F m0 post (pc + 3) ls (vr o :: st) (newO m c N)) : V μ F m0 post pc ls st m := by
  subst ho
  exact V_new hd hw hn hz next
theorem V_newIv {n : Int} {N : Nat} (o : Nat) (ho : mN m = o) (hN : n.toNat = N) (hd : decode (μc μ) pc = .ok (.newarray .int, 2)) (hn : o + 1 ≤ NN) (hz : mZ m + N ≤ ZZ) (h0 : 0 ≤ n) (h1 : n ≤ 1000000) (ha : Cond.arrayClass .int ∈ lwg) (next : V μ F m0 post (pc + 2) ls (vr o :: st) (newO m 20 N)) : V μ F m0 post pc ls (vi n :: st) m := by
  subst ho; subst hN
  exact V_newI hd hn hz h0 h1 ha next
theorem V_newLv {n : Int} {N : Nat} (o : Nat) (ho : mN m = o) (hN : n.toNat = N) (hd : decode (μc μ) pc = .ok (.newarray .long, 2)) (hn : o + 1 ≤ NN) (hz : mZ m + N ≤ ZZ) (h0 : 0 ≤ n) (h1 : n ≤ 1000000) (ha : Cond.arrayClass .long ∈ lwg) (next : V μ F m0 post (pc + 2) ls (vr o :: st) (newO m 21 N)) : V μ F m0 post pc ls (vi n :: st) m := by
  subst ho; subst hN
  exact V_newL hd hn hz h0 h1 ha next
theorem V_newQv {n : Int} {N idx c : Nat} {Cn : String} (o : Nat) (ho : mN m = o) (hN : n.toNat = N) (hd : decode (μc μ) pc = .ok (.anewarray idx, 3)) (hn : o + 1 ≤ NN) (hz : mZ m + N ≤ ZZ) (h0 : 0 ≤ n) (h1 : n ≤ 1000000) (hc : (c = 22 ∧ Cn = RX2) ∨ (c = 23 ∧ Cn = RX0)) (hl : Cond.classLink (μo μ) idx Cn ∈ lwg) (next : V μ F m0 post (pc + 3) ls (vr o :: st) (newO m c N)) : V μ F m0 post pc ls (vi n :: st) m := by
  subst ho; subst hN
  exact V_newQ hd hn hz h0 h1 hc hl next
end ROWS9
theorem mT_news {M : Mem} {c n q : Nat} (hq : mN M = q) : mT (newO M c n) q = (c, n) := if_pos hq.symm
theorem mT_newne {M : Mem} {c n o : Nat} (q : Nat) (hq : mN M = q) (h : o ≠ q) : mT (newO M c n) o = mT M o := if_neg (fun e => h (e.trans hq))
theorem mI_news {M : Mem} {c n q k : Nat} (hq : mN M = q) : mI (newO M c n) q k = 0 := if_pos hq.symm
theorem mI_newne {M : Mem} {c n o k : Nat} (q : Nat) (hq : mN M = q) (h : o ≠ q) : mI (newO M c n) o k = mI M o k := if_neg (fun e => h (e.trans hq))
theorem mR_news {M : Mem} {c n q k : Nat} (hq : mN M = q) : mR (newO M c n) q k = none := if_pos hq.symm
theorem mR_newne {M : Mem} {c n o k : Nat} (q : Nat) (hq : mN M = q) (h : o ≠ q) : mR (newO M c n) o k = mR M o k := if_neg (fun e => h (e.trans hq))
theorem mR_setne {M : Mem} {o k o' k' : Nat} {v : Option Nat} (h : o' ≠ o ∨ k' ≠ k) : mR (setR M o k v) o' k' = mR M o' k' := if_neg (fun e => h.elim (fun h => h e.1) (fun h => h e.2))
theorem mR_sets {M : Mem} {o k : Nat} {v : Option Nat} : mR (setR M o k v) o k = v := if_pos ⟨rfl, rfl⟩
theorem mI_setne {M : Mem} {o k o' k' : Nat} {v : Int} (h : o' ≠ o ∨ k' ≠ k) : mI (setI M o k v) o' k' = mI M o' k' := if_neg (fun e => h.elim (fun h => h e.1) (fun h => h e.2))
theorem mI_sets {M : Mem} {o k : Nat} {v : Int} : mI (setI M o k v) o k = v := if_pos ⟨rfl, rfl⟩
def Ext (m m' : Mem) : Prop := mN m ≤ mN m' ∧ mZ m ≤ mZ m' ∧ ∀ o, o < mN m → mT m' o = mT m o ∧ (∀ k, mR m' o k = mR m o k) ∧ ∀ k, mI m' o k = mI m o k
theorem Ext.rf {m : Mem} : Ext m m := ⟨Nat.le_refl _, Nat.le_refl _, fun _ _ => ⟨rfl, fun _ => rfl, fun _ => rfl⟩⟩
theorem Ext.tr {m m1 m2 : Mem} (h : Ext m m1) (h2 : Ext m1 m2) : Ext m m2 := ⟨Nat.le_trans h.1 h2.1, Nat.le_trans h.2.1 h2.2.1, fun o ho => by
  have a := h.2.2 o ho
  have b := h2.2.2 o (Nat.lt_of_lt_of_le ho h.1)
  exact ⟨b.1.trans a.1, fun k => (b.2.1 k).trans (a.2.1 k), fun k => (b.2.2 k).trans (a.2.2 k)⟩⟩
theorem Ext.new {m : Mem} {c n : Nat} : Ext m (newO m c n) := ⟨Nat.le_succ _, Nat.le_add_right _ _, fun o ho => ⟨if_neg (Nat.ne_of_lt ho), fun _ => if_neg (Nat.ne_of_lt ho), fun _ => if_neg (Nat.ne_of_lt ho)⟩⟩
theorem Ext.setI {m m' : Mem} {o k : Nat} {v : Int} (h : Ext m m') (ho : mN m ≤ o) : Ext m (setI m' o k v) := ⟨h.1, h.2.1, fun q hq => ⟨(h.2.2 q hq).1, (h.2.2 q hq).2.1, fun k' => (if_neg (fun e => by omega)).trans ((h.2.2 q hq).2.2 k')⟩⟩
theorem Ext.setR {m m' : Mem} {o k : Nat} {v : Option Nat} (h : Ext m m') (ho : mN m ≤ o) : Ext m (setR m' o k v) := ⟨h.1, h.2.1, fun q hq => ⟨(h.2.2 q hq).1, fun k' => (if_neg (fun e => by omega)).trans ((h.2.2 q hq).2.1 k'), (h.2.2 q hq).2.2⟩⟩
theorem Lay.ext {m m' : Mem} (h : Lay (mT m) (mR m)) (hn : 59 ≤ mN m) (he : Ext m m') : Lay (mT m') (mR m') := by
  refine ⟨fun p hp => ?_, fun p hp => ?_⟩
  · have hl : p.1 < 59 := by
      have : ∀ q ∈ layT, q.1 < 59 := by decide
      exact this p hp
    rw [(he.2.2 p.1 (by omega)).1]
    exact h.1 p hp
  · have hl : p.1.1 < 59 := by
      have : ∀ q ∈ layR, q.1.1 < 59 := by decide
      exact this p hp
    rw [(he.2.2 p.1.1 (by omega)).2.1]
    exact h.2 p hp
