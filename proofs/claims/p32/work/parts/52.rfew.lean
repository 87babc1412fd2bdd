/-! contracts: the reference's fewest -/
/-- the reference's row -/
def RW (M : mj_M) (r : Nat → Nat) : Prop := ∀ c, c < 6 → M 33 66 0 c = iI (r c : Int)
theorem LD_fr {M M' : mj_M} {i : Nat} {A : lA} (h : LD M i A) (e : M' i = M i) : LD M' i A := fun t c j ht ho => by rw [e]; exact h t c j ht ho
/-- the next row, or none -/
def TN (A : lA) (r : Nat → Nat) (k : Nat) (M M' : mj_M) (b : Int) : Prop := fr [33] M M' ∧ ((b = 0 ∧ ∀ q, vr A q k → ¬ Lx r q) ∨ (b = 1 ∧ ∃ r', RW M' r' ∧ vr A r' k ∧ Lx r r' ∧ ∀ q, vr A q k → Lx r q → ¬ Lx q r'))
