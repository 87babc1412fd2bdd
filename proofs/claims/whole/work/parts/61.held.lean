/-! rows of villages: codes, digits, the next one -/
def dgt (c k v : Nat) : Nat := (c / 7 ^ (k - 1 - v)) % 7
def cd7 (ph : Nat → Nat) : Nat → Nat
  | 0 => 0
  | k + 1 => 7 * cd7 ph k + ph k
theorem dgt_lt (c k v : Nat) : dgt c k v < 7 := Nat.mod_lt _ (by decide)
theorem dgt_s {c k v : Nat} (h : v < k) : dgt c (k + 1) v = dgt (c / 7) k v := by
  unfold dgt
  rw [Nat.div_div_eq_div_mul, show 7 * 7 ^ (k - 1 - v) = 7 ^ (k + 1 - 1 - v) by
    rw [show k + 1 - 1 - v = (k - 1 - v) + 1 by omega, Nat.pow_succ]
    omega]
theorem dgt_0 {c k : Nat} : dgt c (k + 1) k = c % 7 := by
  unfold dgt
  rw [show k + 1 - 1 - k = 0 by omega, Nat.pow_zero, Nat.div_one]
theorem cd7_lt {ph : Nat → Nat} : ∀ k, (∀ v, v < k → ph v < 7) → cd7 ph k < 7 ^ k
  | 0, _ => by
    show 0 < 7 ^ 0
    decide
  | k + 1, h => by
    have ih := cd7_lt k (fun v hv => h v (by omega))
    have := h k (by omega)
    show 7 * cd7 ph k + ph k < 7 ^ (k + 1)
    rw [Nat.pow_succ]
    omega
theorem dgt_cd {ph : Nat → Nat} : ∀ k, (∀ v, v < k → ph v < 7) → ∀ v, v < k → dgt (cd7 ph k) k v = ph v
  | 0, _, v, hv => absurd hv (Nat.not_lt_zero v)
  | k + 1, h, v, hv => by
    have hk := h k (by omega)
    have e : cd7 ph (k + 1) = 7 * cd7 ph k + ph k := rfl
    by_cases g : v = k
    · subst g
      rw [dgt_0, e]
      omega
    · rw [dgt_s (by omega), e, show (7 * cd7 ph k + ph k) / 7 = cd7 ph k by omega]
      exact dgt_cd k (fun v hv => h v (by omega)) v (by omega)
theorem cd7_c {p q : Nat → Nat} : ∀ k, (∀ v, v < k → p v = q v) → cd7 p k = cd7 q k
  | 0, _ => rfl
  | k + 1, h => by
    show 7 * cd7 p k + p k = 7 * cd7 q k + q k
    rw [cd7_c k (fun v hv => h v (by omega)), h k (by omega)]
abbrev vld (A : lA) (k c : Nat) : Prop := ∀ v, v < k → ch A (dgt c k v)
theorem vld_s {A : lA} {k c : Nat} (h : vld A (k + 1) c) : vld A k (c / 7) ∧ ch A (c % 7) :=
  ⟨fun v hv => by rw [← dgt_s hv]; exact h v (by omega), by rw [← dgt_0 (k := k)]; exact h k (by omega)⟩
theorem cd_next {A : lA} {ph ph' : Nat → Nat} {p x' f : Nat} (e : ∀ v, v < p → ph' v = ph v) (e1 : ph' p = x') (hx : ph p < x') (hx7 : x' < 7) (hg : ∀ y, ph p < y → y < x' → ¬ ch A y) (hf7 : f < 7) (hg0 : ∀ y, y < f → ¬ ch A y) : ∀ k, p < k → (∀ v, p < v → v < k → ph v = 6 ∧ ph' v = f) → cd7 ph k < cd7 ph' k ∧ ∀ c, cd7 ph k < c → c < cd7 ph' k → ¬ vld A k c
  | 0, h, _ => absurd h (Nat.not_lt_zero p)
  | k + 1, h, h6 => by
    have a1 : cd7 ph (k + 1) = 7 * cd7 ph k + ph k := rfl
    have a2 : cd7 ph' (k + 1) = 7 * cd7 ph' k + ph' k := rfl
    by_cases g : k = p
    · subst g
      have a3 : cd7 ph' k = cd7 ph k := cd7_c k e
      rw [a1, a2, a3, e1]
      refine ⟨by omega, fun c h1 h2 hv => ?_⟩
      exact hg (c % 7) (by omega) (by omega) (vld_s hv).2
    · obtain ⟨i1, i2⟩ := cd_next e e1 hx hx7 hg hf7 hg0 k (by omega) (fun v h1 h2 => h6 v h1 (by omega))
      obtain ⟨b1, b2⟩ := h6 k (by omega) (by omega)
      rw [a1, a2, b1, b2]
      refine ⟨by omega, fun c h1 h2 hv => ?_⟩
      obtain ⟨v1, v2⟩ := vld_s hv
      by_cases g2 : c / 7 = cd7 ph' k
      · exact hg0 (c % 7) (by omega) v2
      · exact i2 (c / 7) (by omega) (by omega) v1
theorem cd_last {ph : Nat → Nat} : ∀ k, (∀ v, v < k → ph v = 6) → cd7 ph k + 1 = 7 ^ k
  | 0, _ => rfl
  | k + 1, h => by
    have ih := cd_last k (fun v hv => h v (by omega))
    have := h k (by omega)
    show 7 * cd7 ph k + ph k + 1 = 7 ^ (k + 1)
    rw [Nat.pow_succ]
    omega
theorem cd_first {A : lA} {f : Nat} (hf : f < 7) (hg0 : ∀ y, y < f → ¬ ch A y) : ∀ k c, c < cd7 (fun _ => f) k → ¬ vld A k c
  | 0, c, h => absurd h (Nat.not_lt_zero c)
  | k + 1, c, h => fun hv => by
    have a1 : cd7 (fun _ => f) (k + 1) = 7 * cd7 (fun _ => f) k + f := rfl
    obtain ⟨v1, v2⟩ := vld_s hv
    by_cases g : c / 7 < cd7 (fun _ => f) k
    · exact cd_first hf hg0 k (c / 7) g v1
    · exact hg0 (c % 7) (by omega) v2
theorem cn_sur {A : lA} : ∀ n i, i < cn A n → ∃ x, x < n ∧ ch A x ∧ cn A x = i
  | 0, i, h => absurd h (Nat.not_lt_zero i)
  | n + 1, i, h => by
    by_cases g : ch A n
    · rw [cn_y g] at h
      by_cases e : i = cn A n
      · exact ⟨n, by omega, g, e.symm⟩
      · obtain ⟨x, h1, h2, h3⟩ := cn_sur (A := A) n i (by omega)
        exact ⟨x, by omega, h2, h3⟩
    · rw [cn_n g] at h
      obtain ⟨x, h1, h2, h3⟩ := cn_sur n i h
      exact ⟨x, by omega, h2, h3⟩
/-! counting codes -/
def cP (H : Nat → Bool) : Nat → Nat
  | 0 => 0
  | c + 1 => cP H c + if H c = true then 1 else 0
def fP (H : Nat → Bool) : Nat → Nat
  | 0 => 0
  | c + 1 => if cP H c = 0 ∧ H c = true then c else fP H c
theorem cP_le {H : Nat → Bool} : ∀ c, cP H c ≤ c
  | 0 => Nat.le_refl 0
  | c + 1 => by
    have := cP_le (H := H) c
    show cP H c + (if H c = true then 1 else 0) ≤ c + 1
    split <;> omega
theorem cP_y {H : Nat → Bool} {c : Nat} (h : H c = true) : cP H (c + 1) = cP H c + 1 := by
  show cP H c + (if H c = true then 1 else 0) = _
  rw [if_pos h]
theorem cP_n {H : Nat → Bool} {c : Nat} (h : ¬ H c = true) : cP H (c + 1) = cP H c ∧ fP H (c + 1) = fP H c := by
  refine ⟨?_, if_neg (fun z => h z.2)⟩
  show cP H c + (if H c = true then 1 else 0) = _
  rw [if_neg h]
  rfl
theorem cP_gap {H : Nat → Bool} {a : Nat} : ∀ b, a ≤ b → (∀ c, a ≤ c → c < b → ¬ H c = true) → cP H b = cP H a ∧ fP H b = fP H a
  | 0, h, _ => by rw [show a = 0 by omega]; exact ⟨rfl, rfl⟩
  | b + 1, h, g => by
    by_cases e : a = b + 1
    · rw [e]; exact ⟨rfl, rfl⟩
    · have ih := cP_gap b (by omega) (fun c h1 h2 => g c h1 (by omega))
      have := cP_n (g b (by omega) (by omega))
      exact ⟨this.1.trans ih.1, this.2.trans ih.2⟩
theorem fP_lt {H : Nat → Bool} : ∀ c, cP H c ≠ 0 → fP H c < c
  | 0, h => absurd rfl h
  | c + 1, h => by
    have e : fP H (c + 1) = if cP H c = 0 ∧ H c = true then c else fP H c := rfl
    rw [e]
    split
    · omega
    · next g =>
      have : cP H c ≠ 0 := fun z => by
        by_cases g2 : H c = true
        · exact g ⟨z, g2⟩
        · rw [(cP_n g2).1] at h
          exact h z
      have := fP_lt c this
      omega
/-! sets of a row -/
def sB (ph : Nat → Nat) : Nat → Nat → Nat
  | 0, _ => 0
  | k + 1, c => sB ph k c ||| if c = ph k then 1 <<< k else 0
theorem sB_lt {ph : Nat → Nat} {c : Nat} : ∀ k, sB ph k c < 2 ^ k
  | 0 => by
    show 0 < 2 ^ 0
    decide
  | k + 1 => by
    have ih := sB_lt (ph := ph) (c := c) k
    show sB ph k c ||| (if c = ph k then 1 <<< k else 0) < 2 ^ (k + 1)
    have hp : 2 ^ (k + 1) = 2 * 2 ^ k := by rw [Nat.pow_succ]; omega
    refine Nat.or_lt_two_pow (by omega) ?_
    split
    · rw [Nat.one_shiftLeft]
      omega
    · omega
theorem sB_bit {ph : Nat → Nat} {c j : Nat} : ∀ k, (sB ph k c).testBit j = true ↔ j < k ∧ ph j = c
  | 0 => by
    show (0 : Nat).testBit j = true ↔ _
    rw [Nat.zero_testBit]
    exact ⟨fun h => absurd h (by decide), fun h => absurd h.1 (Nat.not_lt_zero j)⟩
  | k + 1 => by
    show (sB ph k c ||| (if c = ph k then 1 <<< k else 0)).testBit j = true ↔ _
    rw [Nat.testBit_or, Bool.or_eq_true, sB_bit k]
    by_cases g : c = ph k
    · rw [if_pos g, Nat.one_shiftLeft, Nat.testBit_two_pow, decide_eq_true_eq]
      constructor
      · intro h
        rcases h with h | h
        · exact ⟨by omega, h.2⟩
        · subst h
          exact ⟨by omega, g.symm⟩
      · intro h
        by_cases e : k = j
        · exact Or.inr e
        · exact Or.inl ⟨by omega, h.2⟩
    · rw [if_neg g, Nat.zero_testBit]
      constructor
      · intro h
        rcases h with h | h
        · exact ⟨by omega, h.2⟩
        · exact absurd h (by decide)
      · intro h
        refine Or.inl ⟨?_, h.2⟩
        by_cases e : j = k
        · subst e
          exact absurd h.2.symm g
        · omega
theorem sB_sub {ph : Nat → Nat} {c k : Nat} : sB ph k c &&& (1 <<< k - 1) = sB ph k c := by
  rw [Nat.one_shiftLeft, Nat.and_two_pow_sub_one_eq_mod]
  exact Nat.mod_eq_of_lt (sB_lt k)
theorem sB_16 {ph : Nat → Nat} {c k : Nat} (hk : k ≤ 4) : sB ph k c < 16 := by
  have h := sB_lt (ph := ph) (c := c) k
  have h2 : 2 ^ k ≤ 2 ^ 4 := Nat.pow_le_pow_right (by decide) hk
  have h3 : (2 : Nat) ^ 4 = 16 := by decide
  omega
theorem sB_c {p q : Nat → Nat} {c : Nat} : ∀ k, (∀ v, v < k → p v = q v) → sB p k c = sB q k c
  | 0, _ => rfl
  | k + 1, h => by
    show sB p k c ||| (if c = p k then 1 <<< k else 0) = sB q k c ||| (if c = q k then 1 <<< k else 0)
    rw [sB_c k (fun v hv => h v (by omega)), h k (by omega)]
theorem LL_bit {k j : Nat} : (1 <<< k - 1 : Nat).testBit j = true ↔ j < k := by
  rw [Nat.one_shiftLeft, Nat.testBit_two_pow_sub_one, decide_eq_true_eq]
theorem LL_16 {k : Nat} (hk : k ≤ 4) : (1 <<< k - 1 : Nat) < 16 := by
  have : ∀ k : Fin 5, (1 <<< k.val - 1 : Nat) < 16 := by decide
  exact this ⟨k, by omega⟩
/-- is a row as told -/
abbrev Hk (A : lA) (n : Nat) (S F : Nat → Int) (m i : Nat) (it : Nat → Int) (k c : Nat) : Prop := vld A k c ∧ ∀ v, v < k → A 8 0 v + gsum A (1 <<< k - 1) n S F m (sB (dgt c k) k) v 6 = it (i + v)
def hB (A : lA) (n : Nat) (S F : Nat → Int) (m i : Nat) (it : Nat → Int) (k : Nat) : Nat → Bool := fun c => decide (Hk A n S F m i it k c)
theorem hB_t {A : lA} {n m i k c : Nat} {S F it : Nat → Int} : hB A n S F m i it k c = true ↔ Hk A n S F m i it k c := decide_eq_true_iff
