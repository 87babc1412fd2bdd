/-! contracts: the image -/
abbrev lc : Type := Nat × Nat × Nat × Nat
def sr (l : lc) : lc := (l.1 - 2, l.2)
def gL (M : mj_M) (l : lc) : Int32 := M l.1 l.2.1 l.2.2.1 l.2.2.2
theorem sr_1 {l : lc} : (sr l).1 = l.1 - 2 := rfl
theorem gL_s {M : mj_M} {l : lc} {v : Int32} : gL (mj_wl M l v) l = v := wl_s
theorem gL_n {M : mj_M} {l l' : lc} {v : Int32} (h : l' ≠ l) : gL (mj_wl M l v) l' = gL M l' := by
  refine wl_n ?_
  by_cases h1 : l'.1 = l.1
  · by_cases h2 : l'.2.1 = l.2.1
    · by_cases h3 : l'.2.2.1 = l.2.2.1
      · by_cases h4 : l'.2.2.2 = l.2.2.2
        · exact absurd (Prod.ext h1 (Prod.ext h2 (Prod.ext h3 h4))) h
        · exact Or.inr (Or.inr (Or.inr h4))
      · exact Or.inr (Or.inr (Or.inl h3))
    · exact Or.inr (Or.inl h2)
  · exact Or.inl h1
theorem il_p (j : Nat) : (mj_iloc 16 j).1 = 16 ∨ (mj_iloc 16 j).1 = 36 := by
  unfold mj_iloc
  repeat' split
  all_goals first | exact Or.inl rfl | exact Or.inr rfl
theorem fr_gL {M N : mj_M} {ps : List Nat} {l : lc} (h : fr ps M N) (g : l.1 ∉ ps) : gL N l = gL M l := by
  unfold gL
  rw [h _ g]
theorem fr.wL {ps : List Nat} {N N' : mj_M} (h : fr ps N N') {l : lc} {v : Int32} (hp : l.1 ∈ ps) : fr ps N (mj_wl N' l v) := h.wl hp
/-- laid in the image, so far -/
def DN (M N : mj_M) (b : Nat) : Prop := fr [16, 36] M N ∧ ∀ j, j < b → gL N (mj_iloc 16 j) = gL M (sr (mj_iloc 16 j))
theorem DN.up {M N : mj_M} {b : Nat} (h : DN M N b) {v : Int32} (hv : v = gL N (sr (mj_iloc 16 b))) : DN M (mj_wl N (mj_iloc 16 b) v) (b + 1) := by
  have e : gL N (sr (mj_iloc 16 b)) = gL M (sr (mj_iloc 16 b)) := by
    refine fr_gL h.1 ?_
    rw [sr_1]
    rcases il_p b with g | g <;> rw [g] <;> decide
  refine ⟨h.1.wL (by rcases il_p b with g | g <;> rw [g] <;> decide), fun j hj => ?_⟩
  by_cases g : mj_iloc 16 j = mj_iloc 16 b
  · rw [g, gL_s, hv, e]
  · rw [gL_n g]
    refine h.2 j ?_
    by_cases e2 : j = b
    · exact absurd (by rw [e2]) g
    · omega
/-- taken from the image, so far -/
def DG (M N : mj_M) (b : Nat) : Prop := fr [14, 34] M N ∧ ∀ j, j < b → gL N (sr (mj_iloc 16 j)) = gL M (mj_iloc 16 j)
theorem DG.up {M N : mj_M} {b : Nat} (h : DG M N b) {v : Int32} (hv : v = gL N (mj_iloc 16 b)) : DG M (mj_wl N (sr (mj_iloc 16 b)) v) (b + 1) := by
  have e : gL N (mj_iloc 16 b) = gL M (mj_iloc 16 b) := by
    refine fr_gL h.1 ?_
    rcases il_p b with g | g <;> rw [g] <;> decide
  refine ⟨h.1.wL (by rw [sr_1]; rcases il_p b with g | g <;> rw [g] <;> decide), fun j hj => ?_⟩
  by_cases g : mj_iloc 16 j = mj_iloc 16 b
  · rw [g, gL_s, hv, e]
  · have g2 : sr (mj_iloc 16 j) ≠ sr (mj_iloc 16 b) := fun z => g (by
      unfold sr at z
      have z1 := congrArg (fun l : lc => l.1) z
      have z2 := congrArg (fun l : lc => l.2) z
      dsimp only at z1 z2
      refine Prod.ext ?_ z2
      rcases il_p j with a | a <;> rcases il_p b with c | c <;> rw [a, c] at z1 ⊢ <;> omega)
    rw [gL_n g2]
    refine h.2 j ?_
    by_cases e2 : j = b
    · exact absurd (by rw [e2]) g
    · omega
theorem sp_lay {q : mj_Id} {n b : Nat} {M N : mj_M} (hi : mj_ia q.2.1 = true) (hl : ∀ M, mj_len M q = n) (hb : b + n ≤ 111) (ha : ∀ k, k < n → mj_aloc q k = sr (mj_iloc 16 (b + k))) (h : DN M N b) : ∃ N', (∀ d, 1 ≤ d → mj_Sp d 134 [mj_r (30, 60, 0), mj_r q, mj_i (iI (b : Int))] N (some (mj_i (iI ((b + n : Nat) : Int)))) N') ∧ DN M N' (b + n) := by
  have main : ∀ k, k ≤ n → ∀ N1, DN M N1 (b + k) → ∃ N', Rn mj_c134 0 2 [some (mj_r (30, 60, 0)), some (mj_r q), some (mj_i (iI (b : Int))), some (mj_i (iI (k : Int)))] N1 (some (mj_i (iI ((b + n : Nat) : Int)))) N' ∧ DN M N' (b + n) := by
    refine lp_dn (Q := fun k => ∀ N1, DN M N1 (b + k) → ∃ N', Rn mj_c134 0 2 [some (mj_r (30, 60, 0)), some (mj_r q), some (mj_i (iI (b : Int))), some (mj_i (iI (k : Int)))] N1 (some (mj_i (iI ((b + n : Nat) : Int)))) N' ∧ DN M N' (b + n)) (n := n) (fun N1 h1 => ?_) (fun k hk ih N1 h1 => ?_)
    · refine ⟨N1, fun e he P hP hQ => rg_m_lay_2 hP ⟨hi, fun z => ⟨hi, ?_⟩, fun z => ?_⟩, h1⟩
      · rw [hl]
        show some (mj_i (iI (b : Int) + iI (n : Int))) = _ ∧ _
        rw [iI_add, show ((b : Int) + (n : Int)) = ((b + n : Nat) : Int) by omega]
        (first | exact mj_eq.rf | exact fi_n mj_eq.rf | exact fi_i rfl mj_eq.rf | exact rfl)
      · rw [hl] at z
        exact absurd (Int32.le_refl _) z
    · obtain ⟨N', hr, h'⟩ := ih _ (h1.up rfl)
      refine ⟨N', fun e he P hP hQ => rg_m_lay_2 hP ⟨hi, fun z => ?_, fun z => ?_⟩, h'⟩
      · rw [hl] at z
        have : (iI (n : Int) ≤ iI (k : Int)) := z
        simp (disch := omega) only [nl_0, nl_1, nl_2, nl_3, nl_4, nl_5, nl_6, nl_7, nl_8, nl_9, nl_10, nl_11, nl_12, nl_13, nl_14, nl_15, nl_16, nl_17, nl_18, nl_19, nl_20, nl_21, nl_22, nl_23, nl_24, nl_25, nl_26, nl_27, nl_28, nl_31, nl_32, nl_42, nl_44, nl_46, nl_48, nl_49, nl_50, nl_51, nl_60, nl_75, nl_76, nl_99, nl_100, nl_108, nl_114, nl_117, nl_126, nl_255, nl_999, nl_2401, nl_9999, nl_12345, nl_65536, nl_1000000, nl_1103515245, nl_2147483647, iI_0, iI_neg, iI_add, iI_sub, iI_mul, iI_div, iI_mod, iI_lt, iI_le, iI_eq, iI_nat, iI_vp, ld_rd, ld_wl, lu_s, lu_t, lu_c, lu_j, forall_eq, Int.toNat_natCast, true_and, and_true, not_true, not_false_iff, Classical.not_not, forall_const, iI_inj] at this
        omega
      · have := hr e he P hP hQ
        have e2 : (b : Int) + (k : Int) = ((b + k : Nat) : Int) := by omega
        have e3 : (k : Int) + 1 = ((k + 1 : Nat) : Int) := by omega
        have e4 : mj_wr N1 (16, 62, 0) (b + k) (mj_rd N1 q k) = mj_wl N1 (mj_iloc 16 (b + k)) (gL N1 (sr (mj_iloc 16 (b + k)))) := by
          unfold mj_wr mj_rd gL
          rw [ha k hk]
          rfl
        rw [hl]
        simp (disch := omega) only [nl_0, nl_1, nl_2, nl_3, nl_4, nl_5, nl_6, nl_7, nl_8, nl_9, nl_10, nl_11, nl_12, nl_13, nl_14, nl_15, nl_16, nl_17, nl_18, nl_19, nl_20, nl_21, nl_22, nl_23, nl_24, nl_25, nl_26, nl_27, nl_28, nl_31, nl_32, nl_42, nl_44, nl_46, nl_48, nl_49, nl_50, nl_51, nl_60, nl_75, nl_76, nl_99, nl_100, nl_108, nl_114, nl_117, nl_126, nl_255, nl_999, nl_2401, nl_9999, nl_12345, nl_65536, nl_1000000, nl_1103515245, nl_2147483647, iI_0, iI_neg, iI_add, iI_sub, iI_mul, iI_div, iI_mod, iI_lt, iI_le, iI_eq, iI_nat, iI_vp, ld_rd, ld_wl, lu_s, lu_t, lu_c, lu_j, forall_eq, Int.toNat_natCast, true_and, and_true, not_true, not_false_iff, Classical.not_not, forall_const, iI_inj, e2, e3, e4]
        exact this
  obtain ⟨N', hr, h'⟩ := main 0 (Nat.zero_le _) N h
  refine ⟨N', fun d hd => en_m_lay (k := 0) hd fun e he P hP hQ => rg_m_lay_0 hP ?_, h'⟩
  have := hr e he P hP hQ
  simp (disch := omega) only [nl_0, nl_1, nl_2, nl_3, nl_4, nl_5, nl_6, nl_7, nl_8, nl_9, nl_10, nl_11, nl_12, nl_13, nl_14, nl_15, nl_16, nl_17, nl_18, nl_19, nl_20, nl_21, nl_22, nl_23, nl_24, nl_25, nl_26, nl_27, nl_28, nl_31, nl_32, nl_42, nl_44, nl_46, nl_48, nl_49, nl_50, nl_51, nl_60, nl_75, nl_76, nl_99, nl_100, nl_108, nl_114, nl_117, nl_126, nl_255, nl_999, nl_2401, nl_9999, nl_12345, nl_65536, nl_1000000, nl_1103515245, nl_2147483647, iI_0, iI_neg, iI_add, iI_sub, iI_mul, iI_div, iI_mod, iI_lt, iI_le, iI_eq, iI_nat, iI_vp, ld_rd, ld_wl, lu_s, lu_t, lu_c, lu_j, forall_eq, Int.toNat_natCast, true_and, and_true, not_true, not_false_iff, Classical.not_not, forall_const, iI_inj]
  exact this
theorem sp_gives {q : mj_Id} {n b : Nat} {M N : mj_M} (hi : mj_ia q.2.1 = true) (h80 : Nat.blt q.2.1 80 = true) (hl : ∀ M, mj_len M q = n) (hb : b + n ≤ 111) (ha : ∀ k, k < n → mj_aloc q k = sr (mj_iloc 16 (b + k))) (h : DG M N b) : ∃ N', (∀ d, 1 ≤ d → mj_Sp d 135 [mj_r (30, 60, 0), mj_i (iI (b : Int)), mj_r q] N (some (mj_i (iI ((b + n : Nat) : Int)))) N') ∧ DG M N' (b + n) := by
  have main : ∀ k, k ≤ n → ∀ N1, DG M N1 (b + k) → ∃ N', Rn mj_c135 0 2 [some (mj_r (30, 60, 0)), some (mj_i (iI (b : Int))), some (mj_r q), some (mj_i (iI (k : Int)))] N1 (some (mj_i (iI ((b + n : Nat) : Int)))) N' ∧ DG M N' (b + n) := by
    refine lp_dn (Q := fun k => ∀ N1, DG M N1 (b + k) → ∃ N', Rn mj_c135 0 2 [some (mj_r (30, 60, 0)), some (mj_i (iI (b : Int))), some (mj_r q), some (mj_i (iI (k : Int)))] N1 (some (mj_i (iI ((b + n : Nat) : Int)))) N' ∧ DG M N' (b + n)) (n := n) (fun N1 h1 => ?_) (fun k hk ih N1 h1 => ?_)
    · refine ⟨N1, fun e he P hP hQ => rg_m_gives_2 hP ⟨hi, fun z => ⟨hi, ?_⟩, fun z => ?_⟩, h1⟩
      · rw [hl]
        show some (mj_i (iI (b : Int) + iI (n : Int))) = _ ∧ _
        rw [iI_add, show ((b : Int) + (n : Int)) = ((b + n : Nat) : Int) by omega]
        (first | exact mj_eq.rf | exact fi_n mj_eq.rf | exact fi_i rfl mj_eq.rf | exact rfl)
      · rw [hl] at z
        exact absurd (Int32.le_refl _) z
    · obtain ⟨N', hr, h'⟩ := ih _ (h1.up rfl)
      refine ⟨N', fun e he P hP hQ => rg_m_gives_2 hP ⟨hi, fun z => ?_, fun z => ?_⟩, h'⟩
      · rw [hl] at z
        have : (iI (n : Int) ≤ iI (k : Int)) := z
        simp (disch := omega) only [nl_0, nl_1, nl_2, nl_3, nl_4, nl_5, nl_6, nl_7, nl_8, nl_9, nl_10, nl_11, nl_12, nl_13, nl_14, nl_15, nl_16, nl_17, nl_18, nl_19, nl_20, nl_21, nl_22, nl_23, nl_24, nl_25, nl_26, nl_27, nl_28, nl_31, nl_32, nl_42, nl_44, nl_46, nl_48, nl_49, nl_50, nl_51, nl_60, nl_75, nl_76, nl_99, nl_100, nl_108, nl_114, nl_117, nl_126, nl_255, nl_999, nl_2401, nl_9999, nl_12345, nl_65536, nl_1000000, nl_1103515245, nl_2147483647, iI_0, iI_neg, iI_add, iI_sub, iI_mul, iI_div, iI_mod, iI_lt, iI_le, iI_eq, iI_nat, iI_vp, ld_rd, ld_wl, lu_s, lu_t, lu_c, lu_j, forall_eq, Int.toNat_natCast, true_and, and_true, not_true, not_false_iff, Classical.not_not, forall_const, iI_inj] at this
        omega
      · have := hr e he P hP hQ
        have e2 : (b : Int) + (k : Int) = ((b + k : Nat) : Int) := by omega
        have e3 : (k : Int) + 1 = ((k + 1 : Nat) : Int) := by omega
        have e4 : mj_wr N1 q k (mj_rd N1 (16, 62, 0) (b + k)) = mj_wl N1 (sr (mj_iloc 16 (b + k))) (gL N1 (mj_iloc 16 (b + k))) := by
          unfold mj_wr mj_rd gL
          rw [ha k hk]
          rfl
        rw [hl]
        simp (disch := omega) only [nl_0, nl_1, nl_2, nl_3, nl_4, nl_5, nl_6, nl_7, nl_8, nl_9, nl_10, nl_11, nl_12, nl_13, nl_14, nl_15, nl_16, nl_17, nl_18, nl_19, nl_20, nl_21, nl_22, nl_23, nl_24, nl_25, nl_26, nl_27, nl_28, nl_31, nl_32, nl_42, nl_44, nl_46, nl_48, nl_49, nl_50, nl_51, nl_60, nl_75, nl_76, nl_99, nl_100, nl_108, nl_114, nl_117, nl_126, nl_255, nl_999, nl_2401, nl_9999, nl_12345, nl_65536, nl_1000000, nl_1103515245, nl_2147483647, iI_0, iI_neg, iI_add, iI_sub, iI_mul, iI_div, iI_mod, iI_lt, iI_le, iI_eq, iI_nat, iI_vp, ld_rd, ld_wl, lu_s, lu_t, lu_c, lu_j, forall_eq, Int.toNat_natCast, true_and, and_true, not_true, not_false_iff, Classical.not_not, forall_const, iI_inj, e2, e3, e4]
        exact ⟨h80, this⟩
  obtain ⟨N', hr, h'⟩ := main 0 (Nat.zero_le _) N h
  refine ⟨N', fun d hd => en_m_gives (k := 0) hd fun e he P hP hQ => rg_m_gives_0 hP ?_, h'⟩
  have := hr e he P hP hQ
  simp (disch := omega) only [nl_0, nl_1, nl_2, nl_3, nl_4, nl_5, nl_6, nl_7, nl_8, nl_9, nl_10, nl_11, nl_12, nl_13, nl_14, nl_15, nl_16, nl_17, nl_18, nl_19, nl_20, nl_21, nl_22, nl_23, nl_24, nl_25, nl_26, nl_27, nl_28, nl_31, nl_32, nl_42, nl_44, nl_46, nl_48, nl_49, nl_50, nl_51, nl_60, nl_75, nl_76, nl_99, nl_100, nl_108, nl_114, nl_117, nl_126, nl_255, nl_999, nl_2401, nl_9999, nl_12345, nl_65536, nl_1000000, nl_1103515245, nl_2147483647, iI_0, iI_neg, iI_add, iI_sub, iI_mul, iI_div, iI_mod, iI_lt, iI_le, iI_eq, iI_nat, iI_vp, ld_rd, ld_wl, lu_s, lu_t, lu_c, lu_j, forall_eq, Int.toNat_natCast, true_and, and_true, not_true, not_false_iff, Classical.not_not, forall_const, iI_inj]
  exact this
theorem al_1 : ∀ k : Nat, k < 76 → mj_aloc (14, 61, 0) k = sr (mj_iloc 16 (0 + k)) := fun k hk => by
  unfold mj_iloc
  rw [if_pos (show 0 + k < 76 by omega), Nat.zero_add]
  rfl
theorem al_2 : ∀ k : Nat, k < 4 → mj_aloc (14, 5, 0) k = sr (mj_iloc 16 (76 + k)) := fun k hk => by
  unfold mj_iloc
  rw [if_neg (by omega), if_pos (by omega), show 76 + k - 76 = k by omega]
  rfl
theorem al_3 : ∀ k : Nat, k < 4 → mj_aloc (14, 7, 0) k = sr (mj_iloc 16 (80 + k)) := fun k hk => by
  unfold mj_iloc
  rw [if_neg (by omega), if_neg (by omega), if_pos (by omega), show 80 + k - 80 = k by omega]
  rfl
theorem al_4 : ∀ k : Nat, k < 12 → mj_aloc (34, 11, 0) k = sr (mj_iloc 16 (84 + k)) := fun k hk => by
  unfold mj_iloc
  rw [if_neg (by omega), if_neg (by omega), if_neg (by omega), if_pos (by omega), show 84 + k - 84 = k by omega]
  rfl
theorem al_5 : ∀ k : Nat, k < 12 → mj_aloc (34, 12, 0) k = sr (mj_iloc 16 (96 + k)) := fun k hk => by
  unfold mj_iloc
  rw [if_neg (by omega), if_neg (by omega), if_neg (by omega), if_neg (by omega), if_pos (by omega), show 96 + k - 96 = k by omega]
  rfl
theorem il_of {t c j : Nat} (ht : t < 10) (ho : mj_ok t c j = true) : (t = 0 ∧ c = 0 ∧ j = 3) ∨ ∃ k, k < 111 ∧ mj_iloc 16 k = (16, t, c, j) := by
  have go : (∃ k, k < 76 ∧ mj_nloc k = (t, c, j)) → ∃ k, k < 111 ∧ mj_iloc 16 k = (16, t, c, j) := fun ⟨k, hk, e⟩ => ⟨k, by omega, by unfold mj_iloc; rw [if_pos hk, e]⟩
  have : t = 0 ∨ t = 1 ∨ t = 2 ∨ t = 3 ∨ t = 4 ∨ t = 5 ∨ t = 6 ∨ t = 7 ∨ t = 8 ∨ t = 9 := by omega
  rcases this with e | e | e | e | e | e | e | e | e | e <;> subst e
  · have g := ok0 ho
    have : j = 0 ∨ j = 1 ∨ j = 2 ∨ j = 3 := by omega
    rcases this with e | e | e | e <;> subst e
    · exact Or.inr ⟨108, by decide, by rw [g.1]; rfl⟩
    · exact Or.inr ⟨109, by decide, by rw [g.1]; rfl⟩
    · exact Or.inr (go (nl_of (by omega)))
    · exact Or.inl ⟨rfl, g.1, rfl⟩
  · have g := ok1 ho
    exact Or.inr (go (nl_of (by omega)))
  · have g := ok2 ho
    exact Or.inr (go (nl_of (by omega)))
  · have g := ok3 ho
    exact Or.inr (go (nl_of (by omega)))
  · have g := okc ho
    exact Or.inr (go (nl_of (by omega)))
  · have g := ok5 ho
    exact Or.inr ⟨76 + j, by omega, by
      unfold mj_iloc
      rw [if_neg (by omega), if_pos (by omega), show 76 + j - 76 = j by omega, g.1]⟩
  · have g := ok6 ho
    exact Or.inr (go (nl_of (by omega)))
  · have g := ok7 ho
    exact Or.inr ⟨80 + j, by omega, by
      unfold mj_iloc
      rw [if_neg (by omega), if_neg (by omega), if_pos (by omega), show 80 + j - 80 = j by omega, g.1]⟩
  · have g := ok8 ho
    exact Or.inr (go (nl_of (by omega)))
  · have g := ok9 ho
    exact Or.inr (go (nl_of (by omega)))
theorem il_s {j : Nat} (h : j < 12) : mj_iloc 16 (84 + j) = (36, 11, 0, j) := by
  unfold mj_iloc
  rw [if_neg (by omega), if_neg (by omega), if_neg (by omega), if_pos (by omega), show 84 + j - 84 = j by omega]
theorem il_f {j : Nat} (h : j < 12) : mj_iloc 16 (96 + j) = (36, 12, 0, j) := by
  unfold mj_iloc
  rw [if_neg (by omega), if_neg (by omega), if_neg (by omega), if_neg (by omega), if_pos (by omega), show 96 + j - 96 = j by omega]
theorem m_image {A : lA} {M : mj_M} (hA : LD M 14 A) : ∃ M', (∀ d, 2 ≤ d → mj_Sp d 136 [mj_r (30, 60, 0)] M (some (mj_i (iI 1))) M') ∧ fr [16, 31, 36] M M' ∧ LD M' 16 A ∧ M' 31 63 0 0 = iI 1 ∧ ∀ n S F, WD M 34 n S F → WD M' 36 n S F := by
  obtain ⟨N1, sp1, h1⟩ := sp_lay (q := (14, 61, 0)) (n := 76) (b := 0) (M := M) rfl (fun _ => rfl) (by decide) al_1 ⟨fr.r0, fun j hj => absurd hj (by omega)⟩
  obtain ⟨N2, sp2, h2⟩ := sp_lay (q := (14, 5, 0)) (n := 4) rfl (fun _ => rfl) (by decide) al_2 h1
  obtain ⟨N3, sp3, h3⟩ := sp_lay (q := (14, 7, 0)) (n := 4) rfl (fun _ => rfl) (by decide) al_3 h2
  obtain ⟨N4, sp4, h4⟩ := sp_lay (q := (34, 11, 0)) (n := 12) rfl (fun _ => rfl) (by decide) al_4 h3
  obtain ⟨N5, sp5, h5⟩ := sp_lay (q := (34, 12, 0)) (n := 12) rfl (fun _ => rfl) (by decide) al_5 h4
  have h6 := ((h5.up (b := 108) rfl).up (b := 109) rfl).up (b := 110) rfl
  generalize eN : mj_wl _ (mj_iloc 16 110) _ = N8 at h6
  have hw : ∀ n S F, WD M 34 n S F → WD N8 36 n S F := fun n S F hW => by
    refine ⟨(h6.2 110 (by decide)).trans hW.1, hW.2.1, fun j hj => ?_⟩
    have h12 := hW.2.1
    have g := hW.2.2 j hj
    have a1 := h6.2 (84 + j) (by omega)
    have a2 := h6.2 (96 + j) (by omega)
    rw [il_s (by omega)] at a1
    rw [il_f (by omega)] at a2
    exact ⟨a1.trans g.1, a2.trans g.2.1, g.2.2⟩
  have h14 : N8 14 0 0 3 = iI (A 0 0 3) := by
    rw [h6.1 14 (by decide)]
    exact hA 0 0 3 (by decide) rfl
  refine ⟨mj_wl (mj_wl N8 (31, 63, 0, 0) (iI 1)) (16, 0, 0, 3) (iI (A 0 0 3)), fun d hd => en_m_image (k := 1) hd fun e he P hP hQ => rg_m_image_0 hP ⟨_, _, sp1 e he, _, _, sp2 e he, _, _, sp3 e he, _, _, sp4 e he, _, _, sp5 e he, ?_⟩, ?_, fun t c j ht ho => ?_, ?_, fun n S F hW => ?_⟩
  · refine ⟨(iI_in (by decide) (by decide) (by decide) : vp_in (iI 108) 111), fun M11 e11 => ⟨(iI_in (by decide) (by decide) (by decide) : vp_in (iI 109) 111), fun M12 e12 => ⟨(iI_in (by decide) (by decide) (by decide) : vp_in (iI 110) 111), fun M13 e13 => ?_⟩⟩⟩
    have e : M13 = N8 := by
      rw [e13, e12, e11, ← eN]
      rfl
    rw [e]
    intro M14 e14 M15 e15
    have e16 : M14 14 0 0 3 = iI (A 0 0 3) := by rw [e14, wl_n (by omega), h14]
    rw [e15, e16, e14]
    (first | exact mj_eq.rf | exact fi_n mj_eq.rf | exact fi_i rfl mj_eq.rf | exact rfl)
  · have f1 : fr [16, 31, 36] M N8 := fun i hi => h6.1 i (fun z => hi (by
      rcases List.mem_cons.mp z with z | z
      · rw [z]; decide
      · rw [List.mem_singleton.mp z]; decide))
    exact (f1.wl (by decide)).wl (by decide)
  · by_cases g : t = 0 ∧ c = 0 ∧ j = 3
    · rw [g.1, g.2.1, g.2.2, wl_s]
    · rw [wl_n (by omega), wl_n (by omega)]
      rcases il_of ht ho with g2 | ⟨k, hk, e⟩
      · exact absurd g2 g
      · have a := h6.2 k hk
        rw [e] at a
        exact a.trans (hA t c j ht ho)
  · rw [wl_n (by omega), wl_s]
  · exact ((hw n S F hW).wl (by decide)).wl (by decide)
theorem m_restore {B : lA} {M : mj_M} (hB : LD M 16 B) (hf : M 31 63 0 0 = iI 1) : ∃ M', (∀ d, 2 ≤ d → mj_Sp d 137 [mj_r (30, 60, 0)] M (some (mj_i (iI 1))) M') ∧ fr [14, 34] M M' ∧ LD M' 14 B ∧ ∀ n S F, WD M 36 n S F → WD M' 34 n S F := by
  obtain ⟨N1, sp1, h1⟩ := sp_gives (q := (14, 61, 0)) (n := 76) (b := 0) (M := M) rfl rfl (fun _ => rfl) (by decide) al_1 ⟨fr.r0, fun j hj => absurd hj (by omega)⟩
  obtain ⟨N2, sp2, h2⟩ := sp_gives (q := (14, 5, 0)) (n := 4) rfl rfl (fun _ => rfl) (by decide) al_2 h1
  obtain ⟨N3, sp3, h3⟩ := sp_gives (q := (14, 7, 0)) (n := 4) rfl rfl (fun _ => rfl) (by decide) al_3 h2
  obtain ⟨N4, sp4, h4⟩ := sp_gives (q := (34, 11, 0)) (n := 12) rfl rfl (fun _ => rfl) (by decide) al_4 h3
  obtain ⟨N5, sp5, h5⟩ := sp_gives (q := (34, 12, 0)) (n := 12) rfl rfl (fun _ => rfl) (by decide) al_5 h4
  have h6 := ((h5.up (b := 108) rfl).up (b := 109) rfl).up (b := 110) rfl
  generalize eN : mj_wl _ (sr (mj_iloc 16 110)) _ = N8 at h6
  have hw : ∀ n S F, WD M 36 n S F → WD N8 34 n S F := fun n S F hW => by
    refine ⟨(h6.2 110 (by decide)).trans hW.1, hW.2.1, fun j hj => ?_⟩
    have h12 := hW.2.1
    have g := hW.2.2 j hj
    have a1 := h6.2 (84 + j) (by omega)
    have a2 := h6.2 (96 + j) (by omega)
    rw [il_s (by omega)] at a1
    rw [il_f (by omega)] at a2
    exact ⟨a1.trans g.1, a2.trans g.2.1, g.2.2⟩
  have h16 : N8 16 0 0 3 = iI (B 0 0 3) := by
    rw [h6.1 16 (by decide)]
    exact hB 0 0 3 (by decide) rfl
  refine ⟨mj_wl N8 (14, 0, 0, 3) (iI (B 0 0 3)), fun d hd => en_m_restore (k := 1) hd fun e he P hP hQ => rg_m_restore_0 hP ⟨fun _ => ⟨_, _, sp1 e he, _, _, sp2 e he, _, _, sp3 e he, _, _, sp4 e he, _, _, sp5 e he, ?_⟩, fun z => ?_⟩, h6.1.wl (by decide), fun t c j ht ho => ?_, fun n S F hW => (hw n S F hW).wl (by decide)⟩
  · refine ⟨(iI_in (by decide) (by decide) (by decide) : vp_in (iI 108) 111), fun M11 e11 => ⟨(iI_in (by decide) (by decide) (by decide) : vp_in (iI 109) 111), fun M12 e12 => ⟨(iI_in (by decide) (by decide) (by decide) : vp_in (iI 110) 111), fun M13 e13 => ?_⟩⟩⟩
    have e : M13 = N8 := by
      rw [e13, e12, e11, ← eN]
      rfl
    rw [e]
    intro M14 e14
    rw [e14, h16]
    (first | exact mj_eq.rf | exact fi_n mj_eq.rf | exact fi_i rfl mj_eq.rf | exact rfl)
  · rw [hf] at z
    exact absurd (by decide) z
  · by_cases g : t = 0 ∧ c = 0 ∧ j = 3
    · rw [g.1, g.2.1, g.2.2, wl_s]
    · rw [wl_n (by omega)]
      rcases il_of ht ho with g2 | ⟨k, hk, e⟩
      · exact absurd g2 g
      · have a := h6.2 k hk
        rw [e] at a
        exact a.trans (hB t c j ht ho)
theorem m_norest {M : mj_M} (hf : M 31 63 0 0 = iI 0) (d : Nat) (hd : 1 ≤ d) : mj_Sp d 137 [mj_r (30, 60, 0)] M (some (mj_i (iI (-4)))) M := by
  refine en_m_restore (k := 0) hd fun e he P hP hQ => rg_m_restore_0 hP ⟨fun z => absurd hf z, fun _ => ?_⟩
  (first | exact mj_eq.rf | exact fi_n mj_eq.rf | exact fi_i rfl mj_eq.rf | exact rfl)
theorem c_image {A : lA} {M : mj_M} : ∃ M', (∀ d, 4 ≤ d → mj_Sp d 21 [mj_r (13, 50, 0)] (mj_ld M 0 A) (some (mj_i (iI 1))) M') ∧ fr [1, 13, 21] (mj_ld M 0 A) M' ∧ LD M' 1 A ∧ M' 13 50 0 0 = iI 1 ∧ ∀ n S F, WD M 20 n S F → WD M' 21 n S F := by
  have e0 : mj_ld (mj_ld M 0 A) 1 (lT (mj_ld M 0 A) 1) = mj_ld M 0 A := ld_self
  have sp : ∀ d, 3 ≤ d → mj_Sp d 35 [mj_r (1, 0, 0), mj_r (0, 0, 0)] (mj_ld M 0 A) none (mj_ld (wcp (mj_ld M 0 A) 20 21) 1 A) := fun d hd => by
    have := sp_takeAll (i0 := 1) (i1 := 0) (A := A) (B := lT (mj_ld M 0 A) 1) (M := mj_ld M 0 A) hd (by decide) (fun t c j ht => ld_rd ht)
    rw [e0] at this
    exact this
  have fw : fr [1, 13, 21] (mj_ld M 0 A) (wcp (mj_ld M 0 A) 20 21) := fun i hi => wcp_ne (fun e => hi (by rw [e]; decide))
  have fl : fr [1, 13, 21] (wcp (mj_ld M 0 A) 20 21) (mj_ld (wcp (mj_ld M 0 A) 20 21) 1 A) := fun i hi => ld_p (fun e => hi (by rw [e]; decide))
  refine ⟨mj_wl (mj_ld (wcp (mj_ld M 0 A) 20 21) 1 A) (13, 50, 0, 0) (iI 1), fun d hd => en_C_image (k := 3) hd fun e he P hP hQ => rg_C_image_0 hP ⟨_, sp e he, fun M2 e2 => ?_⟩, (fw.tr fl).wl (by decide), fun t c j ht ho => ?_, wl_s, fun n S F hW => ?_⟩
  · rw [e2]
    (first | exact mj_eq.rf | exact fi_n mj_eq.rf | exact fi_i rfl mj_eq.rf | exact rfl)
  · rw [wl_n (by omega), ld_rd ht]
  · refine WD.wl ?_ (by decide)
    exact (WD.cp hW.ld).ld
theorem c_restore {A B : lA} {M : mj_M} (hf : M 13 50 0 0 = iI 1) : ∃ M', (∀ d, 4 ≤ d → mj_Sp d 22 [mj_r (13, 50, 0)] (mj_ld (mj_ld M 1 B) 0 A) (some (mj_i (iI 1))) M') ∧ fr [0, 20] (mj_ld (mj_ld M 1 B) 0 A) M' ∧ LD M' 0 B ∧ ∀ n S F, WD M 21 n S F → WD M' 20 n S F := by
  have sp : ∀ d, 3 ≤ d → mj_Sp d 35 [mj_r (0, 0, 0), mj_r (1, 0, 0)] (mj_ld (mj_ld M 1 B) 0 A) none (mj_ld (wcp (mj_ld M 1 B) 21 20) 0 B) := fun d hd => sp_takeAll hd (by decide) (fun t c j ht => ld_rd ht)
  refine ⟨mj_ld (wcp (mj_ld M 1 B) 21 20) 0 B, fun d hd => en_C_restore (k := 3) hd fun e he P hP hQ => rg_C_restore_0 hP ⟨fun _ => ⟨_, sp e he, by (first | exact mj_eq.rf | exact fi_n mj_eq.rf | exact fi_i rfl mj_eq.rf | exact rfl)⟩, fun z => ?_⟩, fun i hi => ?_, LD.ld, fun n S F hW => ?_⟩
  · have h2 : mj_ld (mj_ld M 1 B) 0 A 13 50 0 0 = iI 1 := by rw [ld_ne (by decide), ld_ne (by decide), hf]
    rw [h2] at z
    exact absurd (by decide) z
  · rw [ld_p (i := 0) (fun e => hi (by rw [e]; decide)), wcp_ne (fun e => hi (by rw [e]; decide))]
    exact (ld_p (fun e => hi (by rw [e]; decide))).symm
  · exact (WD.cp hW.ld).ld
theorem c_norest {M : mj_M} (hf : M 13 50 0 0 = iI 0) (d : Nat) (hd : 1 ≤ d) : mj_Sp d 22 [mj_r (13, 50, 0)] M (some (mj_i (iI (-4)))) M := by
  refine en_C_restore (k := 0) hd fun e he P hP hQ => rg_C_restore_0 hP ⟨fun z => absurd hf z, fun _ => ?_⟩
  (first | exact mj_eq.rf | exact fi_n mj_eq.rf | exact fi_i rfl mj_eq.rf | exact rfl)
