/-! the reference's row of numbers -/
theorem ll_0 : lN 0 = lI 0 := rfl
theorem ll_1 : lN 1 = lI 1 := rfl
theorem ll_2 : lN 2 = lI 2 := rfl
theorem ll_3 : lN 3 = lI 3 := rfl
theorem ll_4 : lN 4 = lI 4 := rfl
theorem ll_5 : lN 5 = lI 5 := rfl
theorem ll_8 : lN 8 = lI 8 := rfl
theorem ll_9 : lN 9 = lI 9 := rfl
theorem ll_12 : lN 12 = lI 12 := rfl
theorem ll_24 : lN 24 = lI 24 := rfl
theorem ll_60 : lN 60 = lI 60 := rfl
theorem ll_99 : lN 99 = lI 99 := rfl
theorem ll_999 : lN 999 = lI 999 := rfl
theorem ll_32 : lN 32 = lI 32 := rfl
theorem ll_126 : lN 126 = lI 126 := rfl
theorem lI_neg (a : Int) : -lI a = lI (-a) := (Int64.ofInt_neg _).symm
theorem bo01 {C : Prop} [Decidable C] : iI (if C then 0 else 1) = 0 ∨ iI (if C then 0 else 1) = 1 := by
  split
  · exact Or.inl rfl
  · exact Or.inr rfl
theorem bo10 {C : Prop} [Decidable C] : iI (if C then 1 else 0) = 0 ∨ iI (if C then 1 else 0) = 1 := by
  split
  · exact Or.inr rfl
  · exact Or.inl rfl
/-! contracts: the reference's hour -/
/-- a cloud is let go, up to a village -/
def lg (A : lA) (c k : Nat) : lA := fun t i j => if t = 4 ∧ i = c ∧ j < k then 0 else A t i j
theorem lg_0 {A : lA} {c : Nat} : lg A c 0 = A := by
  funext t i j
  exact if_neg (by omega)
theorem lg_s {A : lA} {c k : Nat} : lu (lg A c k) 4 c k 0 = lg A c (k + 1) := by
  funext t i j
  unfold lu lg
  by_cases h1 : t = 4 ∧ i = c ∧ j = k
  · rw [if_pos h1, if_pos (by omega)]
  · rw [if_neg h1]
    by_cases h4 : t = 4 ∧ i = c ∧ j < k
    · rw [if_pos h4, if_pos (by omega)]
    · rw [if_neg h4, if_neg (by omega)]
