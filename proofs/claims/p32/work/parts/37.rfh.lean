/-! contracts: the reference's hour -/
def lsh (A : lA) (c k : Nat) : lA := fun t i j => if t = 6 ∧ i = 0 ∧ j < k then A 6 0 j - A 4 c j else A t i j
theorem lsh_0 {A : lA} {c : Nat} : lsh A c 0 = A := by
  funext t i j
  exact if_neg (by omega)
theorem lsh_s {A : lA} {c k : Nat} : lu (lsh A c k) 6 0 k (A 6 0 k - A 4 c k) = lsh A c (k + 1) := by
  funext t i j
  unfold lu lsh
  by_cases h1 : t = 6 ∧ i = 0 ∧ j = k
  · rw [if_pos h1, if_pos (by omega), h1.2.2]
  · rw [if_neg h1]
    by_cases h4 : t = 6 ∧ i = 0 ∧ j < k
    · rw [if_pos h4, if_pos (by omega)]
    · rw [if_neg h4, if_neg (by omega)]
theorem lsh_ls {A : lA} (hA : LI A) {c : Nat} (hc : c < 6) : lg (lsh A c (nV A)) c 4 = ls A c := by
  have h2 := hA.nv
  funext t i j
  unfold lg lsh ls
  by_cases h1 : t = 4 ∧ i = c ∧ j < 4
  · rw [if_pos h1, if_neg (by omega)]
    by_cases h3 : j < nV A
    · rw [if_pos ⟨h1.1, h1.2.1, h3⟩]
    · rw [if_neg (fun z => h3 z.2.2), h1.1, h1.2.1, hA.s0 hc h1.2.2 (by omega)]
  · rw [if_neg h1]
    by_cases h4 : t = 6 ∧ i = 0 ∧ j < nV A
    · rw [if_pos h4, if_pos h4]
    · rw [if_neg h4, if_neg h4, if_neg (by omega)]
