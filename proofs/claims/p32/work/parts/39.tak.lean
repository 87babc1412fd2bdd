/-! contracts: copies of lands and winds; a cloud followed -/
theorem cp_ld {M : mj_M} {i0 i1 t c n : Nat} {A B : lA} (ht : t < 10) (hi : i1 ≠ i0) (src : ∀ j, j < n → M i1 t c j = iI (A t c j)) : mj_cp (mj_ld M i0 B) (i1, t, c) (i0, t, c) 0 0 n = mj_ld M i0 (fun t' c' j => if t' = t ∧ c' = c ∧ j < n then A t' c' j else B t' c' j) := by
  funext i' t' c' j
  unfold mj_cp mj_up
  dsimp only
  by_cases h : i' = i0
  · subst h
    rw [if_pos rfl]
    by_cases g : t' = t ∧ c' = c ∧ j < n
    · obtain ⟨g1, g2, g3⟩ := g
      subst g1
      subst g2
      rw [if_pos ⟨rfl, rfl, Nat.zero_le _, by omega⟩, ld_rd ht, if_pos ⟨rfl, rfl, g3⟩, ld_ne hi]
      have := src (0 + (j - 0)) (by omega)
      rw [this]
      congr 2
      omega
    · rw [if_neg (fun z => g ⟨z.1, z.2.1, by omega⟩)]
      unfold mj_ld
      by_cases h2 : i' = i' ∧ t' < 10
      · rw [if_pos h2, if_pos h2]
        dsimp only
        rw [if_neg g]
      · rw [if_neg h2, if_neg h2]
  · rw [if_neg h, ld_ne h, ld_ne h]
/-- a cloud's numbers taken from another land -/
def tk (B A : lA) (c : Nat) : lA := fun t i j => if ((t = 1 ∨ t = 2 ∨ t = 3) ∧ i = 0 ∧ j = c) ∨ (t = 4 ∧ i = c) then A t i j else B t i j
def tks (B A : lA) : Nat → lA
  | 0 => B
  | k + 1 => tk (tks B A k) A k
theorem zN0 : (nI 0).toNatClampNeg = 0 := rfl
theorem zN4 : (nI 4).toNatClampNeg = 4 := rfl
theorem zN12 : (nI 12).toNatClampNeg = 12 := rfl
theorem zN25 : (nI 25).toNatClampNeg = 25 := rfl
theorem tn0 : (0 : Int).toNat = 0 := rfl
theorem tn4 : (4 : Int).toNat = 4 := rfl
theorem tn12 : (12 : Int).toNat = 12 := rfl
theorem tn25 : (25 : Int).toNat = 25 := rfl
theorem ok0 {c j : Nat} (h : mj_ok 0 c j = true) : c = 0 ∧ j < 4 := by
  have h2 : (c == 0 && Nat.blt j 4) = true := h
  rw [Bool.and_eq_true, beq_iff_eq] at h2
  exact ⟨h2.1, Nat.le_of_ble_eq_true h2.2⟩
theorem ok1 {c j : Nat} (h : mj_ok 1 c j = true) : c = 0 ∧ j < 6 := by
  have h2 : (c == 0 && Nat.blt j 6) = true := h
  rw [Bool.and_eq_true, beq_iff_eq] at h2
  exact ⟨h2.1, Nat.le_of_ble_eq_true h2.2⟩
theorem ok2 {c j : Nat} (h : mj_ok 2 c j = true) : c = 0 ∧ j < 6 := by
  have h2 : (c == 0 && Nat.blt j 6) = true := h
  rw [Bool.and_eq_true, beq_iff_eq] at h2
  exact ⟨h2.1, Nat.le_of_ble_eq_true h2.2⟩
theorem ok3 {c j : Nat} (h : mj_ok 3 c j = true) : c = 0 ∧ j < 6 := by
  have h2 : (c == 0 && Nat.blt j 6) = true := h
  rw [Bool.and_eq_true, beq_iff_eq] at h2
  exact ⟨h2.1, Nat.le_of_ble_eq_true h2.2⟩
theorem ok5 {c j : Nat} (h : mj_ok 5 c j = true) : c = 0 ∧ j < 4 := by
  have h2 : (c == 0 && Nat.blt j 4) = true := h
  rw [Bool.and_eq_true, beq_iff_eq] at h2
  exact ⟨h2.1, Nat.le_of_ble_eq_true h2.2⟩
theorem ok6 {c j : Nat} (h : mj_ok 6 c j = true) : c = 0 ∧ j < 4 := by
  have h2 : (c == 0 && Nat.blt j 4) = true := h
  rw [Bool.and_eq_true, beq_iff_eq] at h2
  exact ⟨h2.1, Nat.le_of_ble_eq_true h2.2⟩
theorem ok7 {c j : Nat} (h : mj_ok 7 c j = true) : c = 0 ∧ j < 4 := by
  have h2 : (c == 0 && Nat.blt j 4) = true := h
  rw [Bool.and_eq_true, beq_iff_eq] at h2
  exact ⟨h2.1, Nat.le_of_ble_eq_true h2.2⟩
theorem ok8 {c j : Nat} (h : mj_ok 8 c j = true) : c = 0 ∧ j < 4 := by
  have h2 : (c == 0 && Nat.blt j 4) = true := h
  rw [Bool.and_eq_true, beq_iff_eq] at h2
  exact ⟨h2.1, Nat.le_of_ble_eq_true h2.2⟩
theorem ok9 {c j : Nat} (h : mj_ok 9 c j = true) : c = 0 ∧ j < 25 := by
  have h2 : (c == 0 && Nat.blt j 25) = true := h
  rw [Bool.and_eq_true, beq_iff_eq] at h2
  exact ⟨h2.1, Nat.le_of_ble_eq_true h2.2⟩
theorem okc {c j : Nat} (h : mj_ok 4 c j = true) : c < 6 ∧ j < 4 := by
  have h2 : (Nat.blt c 6 && Nat.blt j 4) = true := h
  rw [Bool.and_eq_true] at h2
  exact ⟨Nat.le_of_ble_eq_true h2.1, Nat.le_of_ble_eq_true h2.2⟩
theorem sp_takeCloud {d i0 i1 c : Nat} (hd : 2 ≤ d) {A B : lA} {M : mj_M} (hc : c < 6) (hi : i1 ≠ i0) (src : ∀ t c j, t < 10 → M i1 t c j = iI (A t c j)) : mj_Sp d 27 [mj_r (i0, 0, 0), mj_r (i1, 0, 0), mj_i (iI (c : Int))] (mj_ld M i0 B) none (mj_ld M i0 (tk B A c)) := by
  have r1 : ∀ (B : lA) (c : Nat), mj_ld M i0 B i1 1 0 c = iI (A 1 0 c) := fun B c => (ld_ne hi).trans (src _ _ _ (by decide))
  have r2 : ∀ (B : lA) (c : Nat), mj_ld M i0 B i1 2 0 c = iI (A 2 0 c) := fun B c => (ld_ne hi).trans (src _ _ _ (by decide))
  have r3 : ∀ (B : lA) (c : Nat), mj_ld M i0 B i1 3 0 c = iI (A 3 0 c) := fun B c => (ld_ne hi).trans (src _ _ _ (by decide))
  refine en_La_takeCloud (k := 1) hd fun e he P hP hQ => rg_La_takeCloud_0 hP ?_
  simp (disch := omega) only [nl_0, nl_1, nl_2, nl_3, nl_4, nl_5, nl_6, nl_7, nl_8, nl_9, nl_10, nl_11, nl_12, nl_13, nl_14, nl_15, nl_16, nl_17, nl_18, nl_19, nl_20, nl_21, nl_22, nl_23, nl_24, nl_25, nl_26, nl_27, nl_28, nl_31, nl_32, nl_42, nl_44, nl_46, nl_48, nl_49, nl_50, nl_51, nl_60, nl_75, nl_76, nl_99, nl_100, nl_108, nl_114, nl_117, nl_126, nl_255, nl_999, nl_2401, nl_9999, nl_12345, nl_65536, nl_1000000, nl_1103515245, nl_2147483647, iI_0, iI_neg, iI_add, iI_sub, iI_mul, iI_div, iI_mod, iI_lt, iI_le, iI_eq, iI_nat, iI_vp, ld_rd, ld_wl, lu_s, lu_t, lu_c, lu_j, forall_eq, Int.toNat_natCast, true_and, and_true, not_true, not_false_iff, Classical.not_not, forall_const, iI_inj, r1, r2, r3]
  refine ⟨by omega, by omega, by omega, by omega, by decide, by decide, ?_⟩
  rw [tn0, tn4, cp_ld (by decide) hi (fun j _ => src 4 c j (by decide))]
  refine ld_ok fun t' c' j ht ho => ?_
  have hj : t' = 4 → j < 4 := fun e => by subst e; exact (okc ho).2
  unfold tk lu
  by_cases h4 : t' = 4 ∧ c' = c ∧ j < 4
  · rw [if_pos h4, if_pos (Or.inr ⟨h4.1, h4.2.1⟩)]
  · rw [if_neg h4]
    by_cases h3 : t' = 3 ∧ c' = 0 ∧ j = c
    · rw [if_pos h3, if_pos (by omega), h3.1, h3.2.1, h3.2.2]
    · rw [if_neg h3]
      by_cases h2 : t' = 2 ∧ c' = 0 ∧ j = c
      · rw [if_pos h2, if_pos (by omega), h2.1, h2.2.1, h2.2.2]
      · rw [if_neg h2]
        by_cases h1 : t' = 1 ∧ c' = 0 ∧ j = c
        · rw [if_pos h1, if_pos (by omega), h1.1, h1.2.1, h1.2.2]
        · rw [if_neg h1, if_neg (by omega)]
def wcp (M : mj_M) (q p : Nat) : mj_M := fun i t c j => if i = p ∧ c = 0 ∧ (((t = 11 ∨ t = 12) ∧ j < 12) ∨ (t = 10 ∧ j = 0)) then M q t c j else M i t c j
theorem sp_wtake {d p q : Nat} (hd : 2 ≤ d) {M : mj_M} (hpq : q ≠ p) : mj_Sp d 60 [mj_r (p, 10, 0), mj_r (q, 10, 0)] M none (wcp M q p) := by
  refine en_Wi_takeAll (k := 1) hd fun e he P hP hQ => rg_Wi_takeAll_0 hP ?_
  refine ⟨by omega, by decide, by decide, by decide, by decide, by decide, fun M1 e1 => ⟨by omega, by decide, by decide, by decide, by decide, by decide, fun M2 e2 M3 e3 => fi_n (mj_eq.of ?_)⟩⟩
  subst e1
  subst e2
  rw [e3, zN0, zN12]
  funext i t c j
  unfold mj_wl mj_cp mj_up mj_us wcp
  dsimp only
  by_cases hi : i = p
  · subst hi
    by_cases h1 : t = 10 ∧ c = 0 ∧ j = 0
    · rw [if_pos rfl, if_pos h1, if_neg hpq, if_neg hpq, if_pos (by omega), h1.1, h1.2.1, h1.2.2]
    · rw [if_pos rfl, if_neg h1, if_pos rfl]
      by_cases h2 : t = 12 ∧ c = 0 ∧ 0 ≤ j ∧ j < 0 + 12
      · rw [if_pos h2, if_neg hpq, if_pos (by omega), h2.1, h2.2.1]
        congr 1
        omega
      · rw [if_neg h2, if_pos rfl]
        by_cases h3 : t = 11 ∧ c = 0 ∧ 0 ≤ j ∧ j < 0 + 12
        · rw [if_pos h3, if_pos (by omega), h3.1, h3.2.1]
          congr 1
          omega
        · rw [if_neg h3, if_neg (by omega)]
  · rw [if_neg hi, if_neg hi, if_neg hi, if_neg (fun z => hi z.1)]
theorem wcp_ne {M : mj_M} {q p i : Nat} (h : i ≠ p) : wcp M q p i = M i := by
  funext t c j
  exact if_neg (fun z => h z.1)
theorem wcp_ld {M : mj_M} {q p i : Nat} {A : lA} : wcp (mj_ld M i A) q p = mj_ld (wcp M q p) i A := by
  funext i' t c j
  unfold wcp
  by_cases h : i' = p ∧ c = 0 ∧ (((t = 11 ∨ t = 12) ∧ j < 12) ∨ (t = 10 ∧ j = 0))
  · rw [if_pos h, ld_hi (by omega), ld_hi (by omega), if_pos h]
  · rw [if_neg h]
    by_cases h2 : i' = i ∧ t < 10
    · obtain ⟨h3, h4⟩ := h2
      subst h3
      rw [ld_rd h4, ld_rd h4]
    · unfold mj_ld
      rw [if_neg h2, if_neg h2]
      dsimp only
      rw [if_neg h]
theorem WD.cp {M : mj_M} {q p n : Nat} {S F : Nat → Int} (h : WD M q n S F) : WD (wcp M q p) p n S F := by
  have h2 := h.2.1
  refine ⟨?_, h2, fun j hj => ⟨?_, ?_, (h.2.2 j hj).2.2⟩⟩
  · unfold wcp
    rw [if_pos ⟨rfl, rfl, Or.inr ⟨rfl, rfl⟩⟩]
    exact h.1
  · unfold wcp
    rw [if_pos ⟨rfl, rfl, Or.inl ⟨Or.inl rfl, by omega⟩⟩]
    exact (h.2.2 j hj).1
  · unfold wcp
    rw [if_pos ⟨rfl, rfl, Or.inl ⟨Or.inr rfl, by omega⟩⟩]
    exact (h.2.2 j hj).2.1
theorem tks_at {B A : lA} : ∀ k t i j, tks B A k t i j = if ((t = 1 ∨ t = 2 ∨ t = 3) ∧ i = 0 ∧ j < k) ∨ (t = 4 ∧ i < k) then A t i j else B t i j
  | 0, t, i, j => by rw [if_neg (by omega)]; rfl
  | k + 1, t, i, j => by
    show tk (tks B A k) A k t i j = _
    unfold tk
    rw [tks_at k t i j]
    by_cases h : ((t = 1 ∨ t = 2 ∨ t = 3) ∧ i = 0 ∧ j = k) ∨ (t = 4 ∧ i = k)
    · rw [if_pos h, if_pos (by omega)]
    · rw [if_neg h]
      by_cases h2 : ((t = 1 ∨ t = 2 ∨ t = 3) ∧ i = 0 ∧ j < k) ∨ (t = 4 ∧ i < k)
      · rw [if_pos h2, if_pos (by omega)]
      · rw [if_neg h2, if_neg (by omega)]
theorem sp_takeAll {d i0 i1 : Nat} (hd : 3 ≤ d) {A B : lA} {M : mj_M} (hi : i1 ≠ i0) (src : ∀ t c j, t < 10 → M i1 t c j = iI (A t c j)) : mj_Sp d 26 [mj_r (i0, 0, 0), mj_r (i1, 0, 0)] (mj_ld M i0 B) none (mj_ld (wcp M (20 + i1) (20 + i0)) i0 A) := by
  have r0 : ∀ (B : lA) (j : Nat), mj_ld M i0 B i1 0 0 j = iI (A 0 0 j) := fun B j => (ld_ne hi).trans (src _ _ _ (by decide))
  refine en_La_takeAll (k := 2) hd fun e he P hP hQ => rg_La_takeAll_0 hP ?_
  simp (disch := omega) only [nl_0, nl_1, nl_2, nl_3, nl_4, nl_5, nl_6, nl_7, nl_8, nl_9, nl_10, nl_11, nl_12, nl_13, nl_14, nl_15, nl_16, nl_17, nl_18, nl_19, nl_20, nl_21, nl_22, nl_23, nl_24, nl_25, nl_26, nl_27, nl_28, nl_31, nl_32, nl_42, nl_44, nl_46, nl_48, nl_49, nl_50, nl_51, nl_60, nl_75, nl_76, nl_99, nl_100, nl_108, nl_114, nl_117, nl_126, nl_255, nl_999, nl_2401, nl_9999, nl_12345, nl_65536, nl_1000000, nl_1103515245, nl_2147483647, iI_0, iI_neg, iI_add, iI_sub, iI_mul, iI_div, iI_mod, iI_lt, iI_le, iI_eq, iI_nat, iI_vp, ld_rd, ld_wl, lu_s, lu_t, lu_c, lu_j, forall_eq, Int.toNat_natCast, true_and, and_true, not_true, not_false_iff, Classical.not_not, forall_const, iI_inj, r0]
  have hB0 : ∀ j, j < 4 → lu (lu (lu (lu B 0 0 0 (A 0 0 0)) 0 0 1 (A 0 0 1)) 0 0 2 (A 0 0 2)) 0 0 3 (A 0 0 3) 0 0 j = A 0 0 j := by
    intro j hj
    have : j = 0 ∨ j = 1 ∨ j = 2 ∨ j = 3 := by omega
    rcases this with h | h | h | h <;> subst h <;> rfl
  generalize lu (lu (lu (lu B 0 0 0 (A 0 0 0)) 0 0 1 (A 0 0 1)) 0 0 2 (A 0 0 2)) 0 0 3 (A 0 0 3) = B0 at hB0 ⊢
  refine lp_dn (Q := fun k => P 34 [some (mj_r (i0, 0, 0)), some (mj_r (i1, 0, 0)), some (mj_i (iI (k : Int)))] [] (mj_ld M i0 (tks B0 A k))) (n := 6) ?_ (fun k hk ih => ?_) 0 (Nat.zero_le _)
  · refine rg_La_takeAll_34 hP ⟨fun z => ?_, fun z => ?_⟩
    · refine ⟨by omega, by decide, by decide, by decide, by decide, by decide, fun M1 e1 => ?_⟩
      rw [zN0, zN4, cp_ld (by decide) hi (fun j _ => src _ _ _ (by decide))] at e1
      subst e1
      refine ⟨by omega, by decide, by decide, by decide, by decide, by decide, fun M2 e2 => ?_⟩
      rw [zN0, zN4, cp_ld (by decide) hi (fun j _ => src _ _ _ (by decide))] at e2
      subst e2
      refine ⟨by omega, by decide, by decide, by decide, by decide, by decide, fun M3 e3 => ?_⟩
      rw [zN0, zN4, cp_ld (by decide) hi (fun j _ => src _ _ _ (by decide))] at e3
      subst e3
      refine ⟨by omega, by decide, by decide, by decide, by decide, by decide, fun M4 e4 => ?_⟩
      rw [zN0, zN4, cp_ld (by decide) hi (fun j _ => src _ _ _ (by decide))] at e4
      subst e4
      refine ⟨by omega, by decide, by decide, by decide, by decide, by decide, fun M5 e5 => ?_⟩
      rw [zN0, zN25, cp_ld (by decide) hi (fun j _ => src _ _ _ (by decide))] at e5
      subst e5
      refine ⟨_, sp_wtake (by omega) (by omega), fi_n ?_⟩
      rw [wcp_ld]
      refine ld_ok fun t c j ht ho => ?_
      rw [tks_at]
      have : t = 0 ∨ t = 1 ∨ t = 2 ∨ t = 3 ∨ t = 4 ∨ t = 5 ∨ t = 6 ∨ t = 7 ∨ t = 8 ∨ t = 9 := by omega
      rcases this with h | h | h | h | h | h | h | h | h | h <;> subst h
      · have g := ok0 ho
        rw [if_neg (by omega), if_neg (by omega), if_neg (by omega), if_neg (by omega), if_neg (by omega), if_neg (by omega), g.1]
        exact hB0 j g.2
      · have g := ok1 ho
        rw [if_neg (by omega), if_neg (by omega), if_neg (by omega), if_neg (by omega), if_neg (by omega), if_pos (by omega)]
      · have g := ok2 ho
        rw [if_neg (by omega), if_neg (by omega), if_neg (by omega), if_neg (by omega), if_neg (by omega), if_pos (by omega)]
      · have g := ok3 ho
        rw [if_neg (by omega), if_neg (by omega), if_neg (by omega), if_neg (by omega), if_neg (by omega), if_pos (by omega)]
      · have g := okc ho
        rw [if_neg (by omega), if_neg (by omega), if_neg (by omega), if_neg (by omega), if_neg (by omega), if_pos (by omega)]
      · have g := ok5 ho
        rw [if_neg (by omega), if_neg (by omega), if_neg (by omega), if_neg (by omega), if_pos (by omega)]
      · have g := ok6 ho
        rw [if_neg (by omega), if_neg (by omega), if_neg (by omega), if_pos (by omega)]
      · have g := ok7 ho
        rw [if_neg (by omega), if_neg (by omega), if_pos (by omega)]
      · have g := ok8 ho
        rw [if_neg (by omega), if_pos (by omega)]
      · have g := ok9 ho
        rw [if_pos (by omega)]
    · simp (disch := omega) only [nl_0, nl_1, nl_2, nl_3, nl_4, nl_5, nl_6, nl_7, nl_8, nl_9, nl_10, nl_11, nl_12, nl_13, nl_14, nl_15, nl_16, nl_17, nl_18, nl_19, nl_20, nl_21, nl_22, nl_23, nl_24, nl_25, nl_26, nl_27, nl_28, nl_31, nl_32, nl_42, nl_44, nl_46, nl_48, nl_49, nl_50, nl_51, nl_60, nl_75, nl_76, nl_99, nl_100, nl_108, nl_114, nl_117, nl_126, nl_255, nl_999, nl_2401, nl_9999, nl_12345, nl_65536, nl_1000000, nl_1103515245, nl_2147483647, iI_0, iI_neg, iI_add, iI_sub, iI_mul, iI_div, iI_mod, iI_lt, iI_le, iI_eq, iI_nat, iI_vp, ld_rd, ld_wl, lu_s, lu_t, lu_c, lu_j, forall_eq, Int.toNat_natCast, true_and, and_true, not_true, not_false_iff, Classical.not_not, forall_const, iI_inj] at z
      omega
  · refine rg_La_takeAll_34 hP ⟨fun z => ?_, fun z => ⟨_, sp_takeCloud (by omega) hk hi src, ?_⟩⟩
    · simp (disch := omega) only [nl_0, nl_1, nl_2, nl_3, nl_4, nl_5, nl_6, nl_7, nl_8, nl_9, nl_10, nl_11, nl_12, nl_13, nl_14, nl_15, nl_16, nl_17, nl_18, nl_19, nl_20, nl_21, nl_22, nl_23, nl_24, nl_25, nl_26, nl_27, nl_28, nl_31, nl_32, nl_42, nl_44, nl_46, nl_48, nl_49, nl_50, nl_51, nl_60, nl_75, nl_76, nl_99, nl_100, nl_108, nl_114, nl_117, nl_126, nl_255, nl_999, nl_2401, nl_9999, nl_12345, nl_65536, nl_1000000, nl_1103515245, nl_2147483647, iI_0, iI_neg, iI_add, iI_sub, iI_mul, iI_div, iI_mod, iI_lt, iI_le, iI_eq, iI_nat, iI_vp, ld_rd, ld_wl, lu_s, lu_t, lu_c, lu_j, forall_eq, Int.toNat_natCast, true_and, and_true, not_true, not_false_iff, Classical.not_not, forall_const, iI_inj] at z
      omega
    · simp (disch := omega) only [nl_0, nl_1, nl_2, nl_3, nl_4, nl_5, nl_6, nl_7, nl_8, nl_9, nl_10, nl_11, nl_12, nl_13, nl_14, nl_15, nl_16, nl_17, nl_18, nl_19, nl_20, nl_21, nl_22, nl_23, nl_24, nl_25, nl_26, nl_27, nl_28, nl_31, nl_32, nl_42, nl_44, nl_46, nl_48, nl_49, nl_50, nl_51, nl_60, nl_75, nl_76, nl_99, nl_100, nl_108, nl_114, nl_117, nl_126, nl_255, nl_999, nl_2401, nl_9999, nl_12345, nl_65536, nl_1000000, nl_1103515245, nl_2147483647, iI_0, iI_neg, iI_add, iI_sub, iI_mul, iI_div, iI_mod, iI_lt, iI_le, iI_eq, iI_nat, iI_vp, ld_rd, ld_wl, lu_s, lu_t, lu_c, lu_j, forall_eq, Int.toNat_natCast, true_and, and_true, not_true, not_false_iff, Classical.not_not, forall_const, iI_inj]
      exact ih
theorem sp_start {d i0 i1 : Nat} (hd : 4 ≤ d) {A B : lA} {M : mj_M} (hi : i1 ≠ i0) (src : ∀ t c j, t < 10 → M i1 t c j = iI (A t c j)) : mj_Sp d 24 [mj_r (i0, 20, 0), mj_r (i1, 0, 0)] (mj_ld M i0 B) none (mj_ld (wcp M (20 + i1) (20 + i0)) i0 A) := by
  refine en_Fo_start (k := 3) hd fun e he P hP hQ => rg_Fo_start_0 hP ⟨_, sp_takeAll (by omega) hi src, by (first | exact mj_eq.rf | exact fi_n mj_eq.rf | exact fi_i rfl mj_eq.rf | exact rfl)⟩
/-- a cloud followed alone -/
def fo (A : lA) (n : Nat) (S F : Nat → Int) (c : Nat) : Nat → lA
  | 0 => A
  | k + 1 => rn (mv (fo A n S F c k) c (wS n S (A 0 0 2 + k)) (wS n F (A 0 0 2 + k))) c
theorem fo_LI {A : lA} {n c : Nat} {S F : Nat → Int} (h : LI A) (hc : c < 6) : ∀ k, LI (fo A n S F c k)
  | 0 => h
  | k + 1 => ((fo_LI h hc k).k_mv hc _ _).k_rn hc
theorem fo_lo {A : lA} {n c : Nat} {S F : Nat → Int} {t i j : Nat} (h : t = 0 ∨ t = 1 ∨ t = 5 ∨ t = 7) : ∀ k, fo A n S F c k t i j = A t i j
  | 0 => rfl
  | k + 1 => by
    show rn (mv _ _ _ _) _ t i j = _
    rw [rn_lo (by omega), mv_lo (by omega), fo_lo h k]
theorem sp_follow {d i c m n : Nat} (hd : 5 ≤ d) {A : lA} {M : mj_M} {S F : Nat → Int} (hM : mj_sM M) (hi : i < 20) (hA : LI A) (hc : c < nC A) (hW : WD M (20 + i) n S F) (hh : 0 ≤ A 0 0 2 ∧ A 0 0 2 ≤ 100000) (hm : m ≤ 1000) : mj_Sp d 25 [mj_r (i, 20, 0), mj_i (iI (c : Int)), mj_i (iI (m : Int))] (mj_ld M i A) none (mj_ld M i (fo A n S F c m)) := by
  have h1 := hA.nc
  refine en_Fo_follow (k := 4) hd fun e he P hP hQ => rg_Fo_follow_0 hP ?_
  refine lp_dn (Q := fun k => ∀ o4, P 2 [some (mj_r (i, 20, 0)), some (mj_i (iI (c : Int))), some (mj_i (iI (m : Int))), some (mj_i (iI (k : Int))), o4] [] (mj_ld M i (fo A n S F c k))) (n := m) (fun o4 => ?_) (fun k hk ih o4 => ?_) 0 (Nat.zero_le _) none
  · refine rg_Fo_follow_2 hP ⟨fun z => by (first | exact mj_eq.rf | exact fi_n mj_eq.rf | exact fi_i rfl mj_eq.rf | exact rfl), fun z => ?_⟩
    simp (disch := omega) only [nl_0, nl_1, nl_2, nl_3, nl_4, nl_5, nl_6, nl_7, nl_8, nl_9, nl_10, nl_11, nl_12, nl_13, nl_14, nl_15, nl_16, nl_17, nl_18, nl_19, nl_20, nl_21, nl_22, nl_23, nl_24, nl_25, nl_26, nl_27, nl_28, nl_31, nl_32, nl_42, nl_44, nl_46, nl_48, nl_49, nl_50, nl_51, nl_60, nl_75, nl_76, nl_99, nl_100, nl_108, nl_114, nl_117, nl_126, nl_255, nl_999, nl_2401, nl_9999, nl_12345, nl_65536, nl_1000000, nl_1103515245, nl_2147483647, iI_0, iI_neg, iI_add, iI_sub, iI_mul, iI_div, iI_mod, iI_lt, iI_le, iI_eq, iI_nat, iI_vp, ld_rd, ld_wl, lu_s, lu_t, lu_c, lu_j, forall_eq, Int.toNat_natCast, true_and, and_true, not_true, not_false_iff, Classical.not_not, forall_const, iI_inj] at z
    omega
  · have hB : LI (fo A n S F c k) := fo_LI hA (by omega) k
    have eh : fo A n S F c k 0 0 2 = A 0 0 2 := fo_lo (by omega) k
    have en : nC (fo A n S F c k) = nC A := by unfold nC; rw [fo_lo (by omega)]
    have e1 : fo A n S F c (k + 1) = rn (mv (fo A n S F c k) c (wS n S (A 0 0 2 + k)) (wS n F (A 0 0 2 + k))) c := rfl
    rw [e1] at ih
    have hr := wS_r hW (A 0 0 2 + k)
    generalize fo A n S F c k = B at hB ih eh en ⊢
    refine rg_Fo_follow_2 hP ⟨fun z => ?_, fun z => ?_⟩
    · simp (disch := omega) only [nl_0, nl_1, nl_2, nl_3, nl_4, nl_5, nl_6, nl_7, nl_8, nl_9, nl_10, nl_11, nl_12, nl_13, nl_14, nl_15, nl_16, nl_17, nl_18, nl_19, nl_20, nl_21, nl_22, nl_23, nl_24, nl_25, nl_26, nl_27, nl_28, nl_31, nl_32, nl_42, nl_44, nl_46, nl_48, nl_49, nl_50, nl_51, nl_60, nl_75, nl_76, nl_99, nl_100, nl_108, nl_114, nl_117, nl_126, nl_255, nl_999, nl_2401, nl_9999, nl_12345, nl_65536, nl_1000000, nl_1103515245, nl_2147483647, iI_0, iI_neg, iI_add, iI_sub, iI_mul, iI_div, iI_mod, iI_lt, iI_le, iI_eq, iI_nat, iI_vp, ld_rd, ld_wl, lu_s, lu_t, lu_c, lu_j, forall_eq, Int.toNat_natCast, true_and, and_true, not_true, not_false_iff, Classical.not_not, forall_const, iI_inj] at z
      omega
    · simp (disch := omega) only [nl_0, nl_1, nl_2, nl_3, nl_4, nl_5, nl_6, nl_7, nl_8, nl_9, nl_10, nl_11, nl_12, nl_13, nl_14, nl_15, nl_16, nl_17, nl_18, nl_19, nl_20, nl_21, nl_22, nl_23, nl_24, nl_25, nl_26, nl_27, nl_28, nl_31, nl_32, nl_42, nl_44, nl_46, nl_48, nl_49, nl_50, nl_51, nl_60, nl_75, nl_76, nl_99, nl_100, nl_108, nl_114, nl_117, nl_126, nl_255, nl_999, nl_2401, nl_9999, nl_12345, nl_65536, nl_1000000, nl_1103515245, nl_2147483647, iI_0, iI_neg, iI_add, iI_sub, iI_mul, iI_div, iI_mod, iI_lt, iI_le, iI_eq, iI_nat, iI_vp, ld_rd, ld_wl, lu_s, lu_t, lu_c, lu_j, forall_eq, Int.toNat_natCast, true_and, and_true, not_true, not_false_iff, Classical.not_not, forall_const, iI_inj, eh]
      refine ⟨_, _, sp_sideIn (by omega) hW.ld (by omega), _, _, sp_forceIn (by omega) hW.ld (by omega), _, sp_move (by omega) hM (by omega) hB (by omega) hr.1 hr.2, _, _, sp_rain (by omega) hM (by omega) (hB.k_mv (by omega) _ _) ?_, ?_⟩
      · show c < (mv _ _ _ _ 0 0 0).toNat
        rw [mv_lo (by omega)]
        show c < nC B
        omega
      · exact ih _
