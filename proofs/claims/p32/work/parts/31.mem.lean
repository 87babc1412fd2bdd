/-! lands by Ints -/
abbrev lA : Type := Nat → Nat → Nat → Int
def lu (A : lA) (t c j : Nat) (v : Int) : lA := fun t' c' j' => if t' = t ∧ c' = c ∧ j' = j then v else A t' c' j'
def mj_ld (M : mj_M) (i : Nat) (A : lA) : mj_M := fun i' t c j => if i' = i ∧ t < 10 then iI (A t c j) else M i' t c j
theorem ld_rd {M : mj_M} {i t c j : Nat} {A : lA} (ht : t < 10) : mj_ld M i A i t c j = iI (A t c j) := if_pos ⟨rfl, ht⟩
theorem ld_ne {M : mj_M} {i k t c j : Nat} {A : lA} (h : k ≠ i) : mj_ld M i A k t c j = M k t c j := if_neg fun z => h z.1
theorem ld_hi {M : mj_M} {i k t c j : Nat} {A : lA} (h : 10 ≤ t) : mj_ld M i A k t c j = M k t c j := if_neg fun z => Nat.not_lt.mpr h z.2
theorem ld_wl {M : mj_M} {i t c j : Nat} {A : lA} {v : Int} (ht : t < 10) : mj_wl (mj_ld M i A) (i, t, c, j) (iI v) = mj_ld M i (lu A t c j v) := by
  funext i' t' c' j'
  unfold mj_wl mj_up mj_us mj_ld lu
  dsimp only
  by_cases h : i' = i
  · rw [if_pos h]
    by_cases g : t' = t ∧ c' = c ∧ j' = j
    · rw [if_pos g, if_pos ⟨h, by omega⟩, if_pos g]
    · rw [if_neg g, if_neg g, h]
  · rw [if_neg h, if_neg fun z => h z.1, if_neg fun z => h z.1]
theorem ld_ld {M : mj_M} {i : Nat} {A B : lA} : mj_ld (mj_ld M i A) i B = mj_ld M i B := by
  funext i' t c j
  unfold mj_ld
  split
  · rfl
  · rfl
theorem ld_cm {M : mj_M} {i k : Nat} {A B : lA} (h : i ≠ k) : mj_ld (mj_ld M i A) k B = mj_ld (mj_ld M k B) i A := by
  funext i' t c j
  unfold mj_ld
  by_cases g : i' = k ∧ t < 10
  · rw [if_pos g, if_neg (fun z => h (z.1.symm.trans g.1)), if_pos g]
  · rw [if_neg g, if_neg g]
theorem ld_wn {M : mj_M} {i k t c j : Nat} {A : lA} {v : Int32} (h : k ≠ i ∨ 10 ≤ t) : mj_wl (mj_ld M i A) (k, t, c, j) v = mj_ld (mj_wl M (k, t, c, j) v) i A := by
  funext i' t' c' j'
  unfold mj_wl mj_up mj_us mj_ld
  dsimp only
  by_cases g : i' = k
  · rw [if_pos g]
    by_cases g2 : t' = t ∧ c' = c ∧ j' = j
    · rw [if_pos g2, if_neg (fun z => by omega), if_pos g, if_pos g2]
    · rw [if_neg g2]
      by_cases g3 : i' = i ∧ t' < 10
      · rw [if_pos g3, if_pos ⟨by omega, g3.2⟩]
      · rw [if_neg g3, if_neg (fun z => g3 ⟨by omega, z.2⟩), if_pos g, if_neg g2]
  · rw [if_neg g]
    by_cases g3 : i' = i ∧ t' < 10
    · rw [if_pos g3, if_pos g3]
    · rw [if_neg g3, if_neg g3, if_neg g]
def LD (M : mj_M) (i : Nat) (A : lA) : Prop := ∀ t c j : Nat, t < 10 → mj_ok t c j = true → M i t c j = iI (A t c j)
theorem LD.eq {M : mj_M} {i : Nat} {A : lA} (h : LD M i A) : mj_eq M (mj_ld M i A) := fun i' t c j ho => by
  unfold mj_ld
  split
  · next z => rw [z.1]; exact h t c j z.2 ho
  · rfl
theorem LD.ld {M : mj_M} {i : Nat} {A : lA} : LD (mj_ld M i A) i A := fun t c j ht _ => ld_rd ht
theorem LD.ne {M : mj_M} {i k : Nat} {A B : lA} (h : LD M i A) (g : i ≠ k) : LD (mj_ld M k B) i A := fun t c j ht ho => (ld_ne g).trans (h t c j ht ho)
theorem ld_ok {M : mj_M} {i : Nat} {A B : lA} (h : ∀ t c j : Nat, t < 10 → mj_ok t c j = true → A t c j = B t c j) : mj_eq (mj_ld M i A) (mj_ld M i B) := fun i' t c j ho => by
  unfold mj_ld
  split
  · next z => rw [h t c j z.2 ho]
  · rfl
/-- what never changes: the static rows -/
def mj_sM (M : mj_M) : Prop := (∀ j, j < 4 → M 40 80 0 j = mj_Wt j) ∧ (∀ j, j < 4 → M 40 81 0 j = mj_Rn j)
theorem mj_sM.ld {M : mj_M} {i : Nat} {A : lA} (h : mj_sM M) (hi : i < 40) : mj_sM (mj_ld M i A) := ⟨fun j hj => (ld_ne (by omega)).trans (h.1 j hj), fun j hj => (ld_ne (by omega)).trans (h.2 j hj)⟩
/-! calls of a truth value -/
theorem iI_b {C : Prop} [Decidable C] : (iI (if C then 1 else 0) = 0) = ¬ C := by
  by_cases h : C
  · rw [if_pos h]
    exact propext ⟨fun z => absurd z (by decide), fun z => absurd h z⟩
  · rw [if_neg h]
    exact propext ⟨fun _ => h, fun _ => rfl⟩
theorem bo_cb {C : Prop} [Decidable C] {S : Int32 → mj_M → Prop} {A B : mj_M → Prop} {N : mj_M} (h : S (iI (if C then 1 else 0)) N) (a : C → A N) (b : ¬ C → B N) : ∃ (y : Int32) (M1 : mj_M), S y M1 ∧ (¬ y = 0 → A M1) ∧ (¬ ¬ y = 0 → B M1) :=
  ⟨_, _, h, fun z => a (by rw [iI_b] at z; exact Classical.not_not.mp z), fun z => b (by rw [iI_b] at z; exact Classical.not_not.mp z)⟩
theorem bo_cn {C : Prop} [Decidable C] {S : Int32 → mj_M → Prop} {A B : mj_M → Prop} {N : mj_M} (h : S (iI (if C then 1 else 0)) N) (a : C → A N) (b : ¬ C → B N) : ∃ (y : Int32) (M1 : mj_M), S y M1 ∧ (y = 0 → B M1) ∧ (¬ y = 0 → A M1) :=
  ⟨_, _, h, fun z => b (by rw [iI_b] at z; exact z), fun z => a (by rw [iI_b] at z; exact Classical.not_not.mp z)⟩
/-- the end: the answer and the memory -/
theorem fi_i {v r : Int32} {M N : mj_M} (h : v = r) (e : mj_eq M N) : (some (mj_i v) : Option mj_V) = some (mj_i r) ∧ mj_eq M N := ⟨by rw [h], e⟩
theorem fi_n {M N : mj_M} (e : mj_eq M N) : (none : Option mj_V) = none ∧ mj_eq M N := ⟨rfl, e⟩
/-- a loop, from its end back -/
theorem lp_dn {Q : Nat → Prop} {n : Nat} (h0 : Q n) (hs : ∀ k, k < n → Q (k + 1) → Q k) : ∀ k, k ≤ n → Q k := by
  intro k hk
  obtain ⟨m, rfl⟩ : ∃ m, n = k + m := ⟨n - k, by omega⟩
  clear hk
  induction m generalizing k with
  | zero => exact h0
  | succ m ih => exact hs k (by omega) (ih (k + 1) (by rw [show k + 1 + m = k + (m + 1) by omega]; exact h0) (fun j hj => hs j (by omega)))
