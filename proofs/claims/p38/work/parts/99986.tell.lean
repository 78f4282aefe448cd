/-! THE TELLING OF CONDITIONS: how the class reads them -/
def jnC : List (Nat × Nat) → List Int
  | [] => []
  | [p] => (65 + (p.1 : Int)) :: 61 :: cT p.2
  | p :: q :: r => (65 + (p.1 : Int)) :: 61 :: (cT p.2 ++ 59 :: jnC (q :: r))
theorem jnC_app (ps : List (Nat × Nat)) (p : Nat × Nat) : jnC (ps ++ [p]) = jnC ps ++ ((if ps = [] then [] else [59]) ++ ((65 + (p.1 : Int)) :: 61 :: cT p.2)) := by
  match ps with
  | [] => rfl
  | [a] => 
    show (65 + (a.1 : Int)) :: 61 :: (cT a.2 ++ 59 :: jnC [p]) = ((65 + (a.1 : Int)) :: 61 :: cT a.2) ++ _
    rw [if_neg (by intro e; cases e)]
    rfl
  | a :: b :: r =>
    have ih := jnC_app (b :: r) p
    rw [if_neg (by intro e; cases e)] at ih ⊢
    show (65 + (a.1 : Int)) :: 61 :: (cT a.2 ++ 59 :: jnC ((b :: r) ++ [p])) = ((65 + (a.1 : Int)) :: 61 :: (cT a.2 ++ 59 :: jnC (b :: r))) ++ _
    rw [ih]
    simp [List.append_assoc]
def lastM : List (Int × Option (List Int)) → Int → Option (Option (List Int))
  | [], _ => none
  | p :: r, w => match lastM r w with
    | some q => some q
    | none => if p.1 = w then some p.2 else none
theorem lastM_app (L : List (Int × Option (List Int))) (p : Int × Option (List Int)) (w : Int) : lastM (L ++ [p]) w = if p.1 = w then some p.2 else lastM L w := by
  induction L with
  | nil => rfl
  | cons a L ih =>
    show (match lastM (L ++ [p]) w with | some q => some q | none => if a.1 = w then some a.2 else none) = _
    rw [ih]
    by_cases c : p.1 = w
    · rw [if_pos c, if_pos c]
    · rw [if_neg c, if_neg c]; rfl
theorem lastP_M (L : List DPt) (w : Int) : (lastP L w).map (fun p => p.2.2.2) = lastM (L.map fun p => (p.1, p.2.2.2)) w := by
  induction L with
  | nil => rfl
  | cons a L ih =>
    show (match lastP L w with | some q => some q | none => if a.1 = w then some a else none).map _ = (match lastM (L.map fun p => (p.1, p.2.2.2)) w with | some q => some q | none => if a.1 = w then some a.2.2.2 else none)
    rw [← ih]
    cases lastP L w with
    | some q => rfl
    | none =>
      show (if a.1 = w then some a else none).map _ = if a.1 = w then some a.2.2.2 else none
      by_cases c : a.1 = w
      · rw [if_pos c, if_pos c]; rfl
      · rw [if_neg c, if_neg c]; rfl
theorem getD_drop {l : List Int} {b k : Nat} : l.getD (b + k) 0 = (l.drop b).getD k 0 := by
  rw [List.getD_eq_getElem?_getD, List.getD_eq_getElem?_getD, List.getElem?_drop]
/-- one part, behind b -/
theorem dR_one {l w r : List Int} {b k : Nat} {q : Nat} (hd : l.drop b = (65 + (k : Int)) :: 61 :: (cT q ++ r)) (hk : k < 26) (hq : q < 8) (hr : r = [] ∨ ∃ r', r = 59 :: r') :
    dR (fun j => l.getD j 0) l.length (true, b) = ((cL q), (eitL (cTx q) (cT q).length 4 (true, 0)).2.1, (true, b + 2 + (cT q).length)) ∧ dPt (fun j => l.getD j 0) l.length (true, b) = ((k : Int), b + 2, b + 2 + (cT q).length, some (cL q)) ∧ l.length = b + 2 + (cT q).length + r.length := by
  obtain ⟨c1, c2, c3, c4, c5⟩ := cT_read hq
  have hlen : l.length = b + 2 + (cT q).length + r.length := by
    have := congrArg List.length hd
    simp only [List.length_drop, List.length_cons, List.length_append] at this
    omega
  have g : ∀ j, l.getD (b + j) 0 = ((65 + (k : Int)) :: 61 :: (cT q ++ r)).getD j 0 := fun j => by rw [getD_drop, hd]
  have g0 : l.getD b 0 = 65 + (k : Int) := g 0
  have g1 : l.getD (b + 1) 0 = 61 := g 1
  have g2 : ∀ j, j < (cT q).length → l.getD (b + 2 + j) 0 = (cT q).getD j 0 := fun j hj => by
    rw [show b + 2 + j = b + (j + 2) by omega, g (j + 2)]
    show (cT q ++ r).getD j 0 = _
    rw [List.getD_eq_getElem?_getD, List.getElem?_append_left hj, ← List.getD_eq_getElem?_getD]
  have hin : ∀ j, j < (cT q).length → (cT q).getD j 0 ∈ cT q := fun j hj => by
    rw [List.getD_eq_getElem?_getD, List.getElem?_eq_getElem hj]
    exact List.getElem_mem _
  have hS : Sub (fun j => l.getD j 0) l.length (b + 2) (cTx q) (cT q).length := by
    refine ⟨fun j hj => (g2 j hj).symm, by omega, fun h => ?_⟩
    rcases hr with rfl | ⟨r', rfl⟩
    · rw [List.length_nil] at hlen; omega
    · show l.getD (b + 2 + (cT q).length) 0 = 59
      rw [show b + 2 + (cT q).length = b + ((cT q).length + 2) by omega, g]
      show (cT q ++ 59 :: r').getD (cT q).length 0 = 59
      rw [List.getD_eq_getElem?_getD, List.getElem?_append_right (Nat.le_refl _), Nat.sub_self]
      rfl
  have a0 : ccS (fun j => l.getD j 0) l.length (true, b) = 65 + (k : Int) := by
    unfold ccS
    rw [if_pos ⟨rfl, show b < l.length by omega, show l.getD b 0 ≠ 59 by omega⟩]
    exact g0
  have e1 : dS1 (fun j => l.getD j 0) l.length (true, b) = (true, b + 1) := by
    unfold dS1
    rw [if_pos (by omega)]
    rfl
  have a1 : ccS (fun j => l.getD j 0) l.length (true, b + 1) = 61 := by
    unfold ccS
    rw [if_pos ⟨rfl, show b + 1 < l.length by omega, show l.getD (b + 1) 0 ≠ 59 by omega⟩]
    exact g1
  have e2 : dS2 (fun j => l.getD j 0) l.length (true, b) = (true, b + 2) := by
    unfold dS2
    rw [e1]
    unfold cTake
    rw [if_pos a1]
    rfl
  have a2 : ¬ ccS (fun j => l.getD j 0) l.length (true, b + 2) = -1 := by
    have h0 := c5 _ (hin 0 (by omega))
    have := g2 0 (by omega)
    rw [Nat.add_zero] at this
    unfold ccS
    rw [if_pos ⟨rfl, show b + 2 < l.length by omega, show l.getD (b + 2) 0 ≠ 59 by rw [this]; exact h0.2.2⟩]
    show ¬ l.getD (b + 2) 0 = -1
    rw [this]
    omega
  have e3 : eitL (fun j => l.getD j 0) l.length 4 (true, b + 2) = ((cL q), (eitL (cTx q) (cT q).length 4 (true, 0)).2.1, (true, b + 2 + (cT q).length)) := by
    have := eitL_sh hS 4 (S := (true, 0)) (Nat.zero_le _)
    have z : shS (b + 2) (true, 0) = (true, b + 2) := rfl
    rw [z] at this
    rw [this]
    unfold shR
    rw [c1, c2]
    rfl
  have e4 : dR (fun j => l.getD j 0) l.length (true, b) = ((cL q), (eitL (cTx q) (cT q).length 4 (true, 0)).2.1, (true, b + 2 + (cT q).length)) := by
    unfold dR
    rw [e2, if_neg a2, e3]
  refine ⟨e4, ?_, hlen⟩
  unfold dPt
  rw [a0, e2, e4, if_neg a2]
  have : (65 + (k : Int)) - 65 = (k : Int) := by omega
  rw [this]
theorem defL_rd (l : List Int) : ∀ (ps : List (Nat × Nat)) (b f : Nat), ps ≠ [] → l.drop b = jnC ps → (∀ p ∈ ps, p.1 < 26 ∧ p.2 < 8) → ps.length ≤ f → (defL (fun j => l.getD j 0) l.length f (true, b)).2 = (true, l.length) ∧ (defL (fun j => l.getD j 0) l.length f (true, b)).1.map (fun p => (p.1, p.2.2.2)) = ps.map fun p => ((p.1 : Int), some (cL p.2))
  | [], _, _, h, _, _, _ => absurd rfl h
  | [p], b, f, _, hd, hp, hf => by
    match f, hf with
    | f + 1, _ =>
      have h1 := hp p (List.mem_singleton.mpr rfl)
      obtain ⟨e1, e2, e3⟩ := dR_one (r := []) (w := []) (hd.trans (by show _ = (65 + (p.1 : Int)) :: 61 :: (cT p.2 ++ []); rw [List.append_nil]; rfl)) h1.1 h1.2 (Or.inl rfl)
      have e4 : defL (fun j => l.getD j 0) l.length (f + 1) (true, b) = ([dPt (fun j => l.getD j 0) l.length (true, b)], (true, b + 2 + (cT p.2).length)) := by
        show (if _ = true then (if _ then _ else _) else _) = _
        rw [e1, if_pos rfl, if_neg (fun z => by have z1 := z.2.1; rw [List.length_nil] at e3; show False; have z2 : b + 2 + (cT p.2).length < l.length := z1; omega)]
      rw [e4, e2]
      rw [List.length_nil, Nat.add_zero] at e3
      rw [e3]
      exact ⟨rfl, rfl⟩
  | p :: q :: r, b, f, _, hd, hp, hf => by
    match f, hf with
    | f + 1, hf =>
      have h1 := hp p List.mem_cons_self
      obtain ⟨e1, e2, e3⟩ := dR_one (r := 59 :: jnC (q :: r)) (w := []) hd h1.1 h1.2 (Or.inr ⟨_, rfl⟩)
      rw [List.length_cons] at e3
      have hd2 : l.drop (b + 2 + (cT p.2).length + 1) = jnC (q :: r) := by
        rw [show b + 2 + (cT p.2).length + 1 = b + ((cT p.2).length + 3) by omega, ← List.drop_drop, hd]
        show ((cT p.2 ++ 59 :: jnC (q :: r)).drop ((cT p.2).length + 1)) = _
        simp [List.drop_append]
      have hn : dNx (fun j => l.getD j 0) l.length (true, b + 2 + (cT p.2).length) := by
        refine ⟨rfl, by show b + 2 + (cT p.2).length < l.length; omega, ?_⟩
        show l.getD (b + 2 + (cT p.2).length) 0 = 59
        rw [show b + 2 + (cT p.2).length = b + ((cT p.2).length + 2) by omega, getD_drop, hd]
        show (cT p.2 ++ 59 :: jnC (q :: r)).getD (cT p.2).length 0 = 59
        rw [List.getD_eq_getElem?_getD, List.getElem?_append_right (Nat.le_refl _), Nat.sub_self]
        rfl
      have ih := defL_rd l (q :: r) (b + 2 + (cT p.2).length + 1) f (by intro e; cases e) hd2 (fun x hx => hp x (List.mem_cons_of_mem _ hx)) (by simp only [List.length_cons] at hf ⊢; omega)
      have e4 : defL (fun j => l.getD j 0) l.length (f + 1) (true, b) = (dPt (fun j => l.getD j 0) l.length (true, b) :: (defL (fun j => l.getD j 0) l.length f (true, b + 2 + (cT p.2).length + 1)).1, (defL (fun j => l.getD j 0) l.length f (true, b + 2 + (cT p.2).length + 1)).2) := by
        show (if _ = true then (if _ then _ else _) else _) = _
        rw [e1, if_pos rfl, if_pos hn]
        rfl
      rw [e4, e2]
      refine ⟨ih.1, ?_⟩
      show ((p.1 : Int), some (cL p.2)) :: _ = ((p.1 : Int), some (cL p.2)) :: _
      rw [ih.2]
