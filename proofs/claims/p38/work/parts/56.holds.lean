/-! holds(): class and reference ask a condition at a row -/
def HasC (m : Mem) (c : Nat) (cd : List Int) : Prop := ∃ A, mT m c = (0, 1) ∧ mR m c 0 = some A ∧ mT m A = (20, cd.length) ∧ 59 ≤ c ∧ 59 ≤ A ∧ c < mN m ∧ A < mN m ∧ (∀ k x, cd[k]? = some x → mI m A k = x) ∧ okL cd ∧ cd.length ≤ 120
def CdAt (m : Mem) (arr w : Nat) (q : Option (List Int)) : Prop := match q with
  | none => mR m arr w = none
  | some cd => ∃ c, mR m arr w = some c ∧ HasC m c cd
def cdV (e : CEnv) (q : Option (List Int)) : Int := match q with
  | none => 1
  | some cd => if and64 (runL e cd 0) 1 = 1 then 1 else 0
theorem HasC.fr {m m' : Mem} {c : Nat} {cd : List Int} (h : HasC m c cd) (hN : mN m ≤ mN m') (hT : ∀ o, 59 ≤ o → o < mN m → mT m' o = mT m o) (hR : ∀ o k, 59 ≤ o → o < mN m → mR m' o k = mR m o k) (hI : ∀ o k, 59 ≤ o → o < mN m → mT m o ≠ (9, 9) → mI m' o k = mI m o k) : HasC m' c cd := by
  obtain ⟨A, h1, h2, h3, h4, h5, h6, h7, h8, h9⟩ := h
  exact ⟨A, (hT c h4 h6).trans h1, (hR c 0 h4 h6).trans h2, (hT A h5 h7).trans h3, h4, h5, by omega, by omega, fun k x hx => (hI A k h5 h7 (by rw [h3]; intro e; cases e)).trans (h8 k x hx), h9⟩

def envH (I : Nat → Nat → Int) (fro row w : Int) : CEnv := (fro, row, fun k => up2 (I) 45 row.toNat w 45 k, I 31 64, fun k => I 31 k)
def RFh (row : Int) (I I' : Nat → Nat → Int) : Prop := ∀ o k, o ≠ 34 → ¬ (o = 45 ∧ k = row.toNat) → ¬ (o = 30 ∧ (k = 6 ∨ k = 7 ∨ k = 8 ∨ k = 24 ∨ k = 25 ∨ k = 26 ∨ k = 27)) → I' o k = I o k
def CdTx (I : Nat → Nat → Int) (arr w : Nat) (tx : Nat → Int) (n : Nat) : Prop := I arr (186 + 121 * w) = (n : Int) ∧ n ≤ 120 ∧ ∀ k, k < n → I arr (187 + 121 * w + k) = tx k ∧ 1 ≤ tx k ∧ tx k ≤ 127
def cdR (e : CEnv) (tx : Nat → Int) (n : Nat) : Int := if n = 0 then 1 else bI ((eitL tx n 4 (true, 0)).2.1 e)

