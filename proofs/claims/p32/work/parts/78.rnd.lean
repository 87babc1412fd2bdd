/-! a round of the law -/
/-- who is away already -/
def LG (L : Nat) (xs : Nat → Int32) (A : lA) (n : Nat) (S F : Nat → Int) (x4 x5 x6 x7 x8 x9 : Int32) (o12 o13 o14 o15 o16 : Option mj_V) (k : Nat) (ls : mj_L) (M : mj_M) : Prop := ST L xs M A n S F ∧ ∃ g : Nat, BG A g k ∧ ls = [some (mj_r (41, 82, 0)), some (mj_r (13, 50, 0)), some (mj_r (17, 73, 0)), some (mj_i (iI 1)), some (mj_i x4), some (mj_i x5), some (mj_i x6), some (mj_i x7), some (mj_i x8), some (mj_i x9), some (mj_i (iI ((g : Int)))), some (mj_i (iI ((k : Int)))), o12, o13, o14, o15, o16]
theorem rd_gone {d : Nat} (hd : 6 ≤ d) {L : Nat} {xs : Nat → Int32} {M : mj_M} {A : lA} {n : Nat} {S F : Nat → Int} {x4 x5 x6 x7 x8 x9 : Int32} {o12 o13 o14 o15 o16 : Option mj_V} (hS : ST L xs M A n S F) : ∃ (g : Nat) (M' : mj_M), Go mj_c70 d 143 [some (mj_r (41, 82, 0)), some (mj_r (13, 50, 0)), some (mj_r (17, 73, 0)), some (mj_i (iI 1)), some (mj_i x4), some (mj_i x5), some (mj_i x6), some (mj_i x7), some (mj_i x8), some (mj_i x9), some (mj_i (iI (0))), some (mj_i (iI (0))), o12, o13, o14, o15, o16] [] M 197 [some (mj_r (41, 82, 0)), some (mj_r (13, 50, 0)), some (mj_r (17, 73, 0)), some (mj_i (iI 1)), some (mj_i x4), some (mj_i x5), some (mj_i x6), some (mj_i x7), some (mj_i x8), some (mj_i x9), some (mj_i (iI ((g : Int)))), some (mj_i (iI (((nC A : Nat) : Int)))), o12, o13, o14, o15, o16] [] M' ∧ BG A g (nC A) ∧ ST L xs M' A n S F := by
  have hn := hS.2.2.1.li.nc
  have hov := ov_nn (A := A) (nC A)
  have hvc := v_count (A := A) (n := n)
  have step : ∀ (k : Nat) (ls : mj_L) (M : mj_M), k < nC A → LG L xs A n S F x4 x5 x6 x7 x8 x9 o12 o13 o14 o15 o16 k ls M → ∃ ls' M', Go mj_c70 d 143 ls [] M 143 ls' [] M' ∧ LG L xs A n S F x4 x5 x6 x7 x8 x9 o12 o13 o14 o15 o16 (k + 1) ls' M' := fun k ls M hk ⟨hS, g, hB, e⟩ => by
    subst e
    have hvt := v_told hS.2.2.1.li hk
    have hkd := hS.2.2.1.li.kd (c := k) (by omega)
    have hfd := hS.2.2.1.li.fd (c := k) (by omega)
    have e1 : (k : Int) + 1 = ((k + 1 : Nat) : Int) := by omega
    obtain ⟨M1, s1, f1, h1⟩ := q_count (d := d) (by omega) hS (w := 0) (by unfold iR; omega)
    obtain ⟨M2, s2, f2, h2⟩ := q_told (d := d) (by omega) h1 (c := k) (w := 0) (by unfold iR; omega) (by unfold iR; omega)
    obtain ⟨M3, s3, f3, h3⟩ := q_told (d := d) (by omega) h2 (c := k) (w := 1) (by unfold iR; omega) (by unfold iR; omega)
    rw [hvc.1] at s1
    rw [hvt.1] at s2
    rw [hvt.2.1] at s3
    by_cases g25 : A 2 0 k = 25
    · refine ⟨_, M3, fun P R hP hQ hend => rg_L_law_143 hP ⟨_, _, s1, ?_⟩, h3, _, hB.y (by omega) g25, rfl⟩
      simp (disch := omega) only [nl_0, nl_1, nl_2, nl_3, nl_4, nl_5, nl_6, nl_7, nl_8, nl_9, nl_10, nl_11, nl_12, nl_13, nl_14, nl_15, nl_16, nl_17, nl_18, nl_19, nl_20, nl_21, nl_22, nl_23, nl_24, nl_25, nl_26, nl_27, nl_28, nl_31, nl_32, nl_42, nl_44, nl_46, nl_48, nl_49, nl_50, nl_51, nl_60, nl_75, nl_76, nl_99, nl_100, nl_108, nl_114, nl_117, nl_126, nl_255, nl_999, nl_2401, nl_9999, nl_12345, nl_65536, nl_1000000, nl_1103515245, nl_2147483647, nl_30, nl_55, nl_107, nl_200, nl_512, nl_15485957, iI_0, iI_neg, iI_add, iI_sub, iI_mul, iI_div, iI_mod, iI_lt, iI_le, iI_eq, iI_nat, iI_vp, ld_rd, ld_wl, lu_s, lu_t, lu_c, lu_j, forall_eq, Int.toNat_natCast, true_and, and_true, not_true, not_false_iff, Classical.not_not, forall_const, iI_inj]
      refine ⟨fun c => by omega, fun _ => ⟨_, _, s2, ?_⟩⟩
      simp (disch := omega) only [nl_0, nl_1, nl_2, nl_3, nl_4, nl_5, nl_6, nl_7, nl_8, nl_9, nl_10, nl_11, nl_12, nl_13, nl_14, nl_15, nl_16, nl_17, nl_18, nl_19, nl_20, nl_21, nl_22, nl_23, nl_24, nl_25, nl_26, nl_27, nl_28, nl_31, nl_32, nl_42, nl_44, nl_46, nl_48, nl_49, nl_50, nl_51, nl_60, nl_75, nl_76, nl_99, nl_100, nl_108, nl_114, nl_117, nl_126, nl_255, nl_999, nl_2401, nl_9999, nl_12345, nl_65536, nl_1000000, nl_1103515245, nl_2147483647, nl_30, nl_55, nl_107, nl_200, nl_512, nl_15485957, iI_0, iI_neg, iI_add, iI_sub, iI_mul, iI_div, iI_mod, iI_lt, iI_le, iI_eq, iI_nat, iI_vp, ld_rd, ld_wl, lu_s, lu_t, lu_c, lu_j, forall_eq, Int.toNat_natCast, true_and, and_true, not_true, not_false_iff, Classical.not_not, forall_const, iI_inj]
      refine ⟨fun c => by omega, fun _ => ⟨_, _, s3, ?_⟩⟩
      simp (disch := omega) only [nl_0, nl_1, nl_2, nl_3, nl_4, nl_5, nl_6, nl_7, nl_8, nl_9, nl_10, nl_11, nl_12, nl_13, nl_14, nl_15, nl_16, nl_17, nl_18, nl_19, nl_20, nl_21, nl_22, nl_23, nl_24, nl_25, nl_26, nl_27, nl_28, nl_31, nl_32, nl_42, nl_44, nl_46, nl_48, nl_49, nl_50, nl_51, nl_60, nl_75, nl_76, nl_99, nl_100, nl_108, nl_114, nl_117, nl_126, nl_255, nl_999, nl_2401, nl_9999, nl_12345, nl_65536, nl_1000000, nl_1103515245, nl_2147483647, nl_30, nl_55, nl_107, nl_200, nl_512, nl_15485957, iI_0, iI_neg, iI_add, iI_sub, iI_mul, iI_div, iI_mod, iI_lt, iI_le, iI_eq, iI_nat, iI_vp, ld_rd, ld_wl, lu_s, lu_t, lu_c, lu_j, forall_eq, Int.toNat_natCast, true_and, and_true, not_true, not_false_iff, Classical.not_not, forall_const, iI_inj]
      refine ⟨fun c => absurd g25 c, fun _ => rg_L_law_188 hP ?_⟩
      have hb := bi_or ⟨g, hB.1⟩ ⟨k, by omega⟩
      dsimp only at hb
      rw [hb]
      simp (disch := omega) only [nl_0, nl_1, nl_2, nl_3, nl_4, nl_5, nl_6, nl_7, nl_8, nl_9, nl_10, nl_11, nl_12, nl_13, nl_14, nl_15, nl_16, nl_17, nl_18, nl_19, nl_20, nl_21, nl_22, nl_23, nl_24, nl_25, nl_26, nl_27, nl_28, nl_31, nl_32, nl_42, nl_44, nl_46, nl_48, nl_49, nl_50, nl_51, nl_60, nl_75, nl_76, nl_99, nl_100, nl_108, nl_114, nl_117, nl_126, nl_255, nl_999, nl_2401, nl_9999, nl_12345, nl_65536, nl_1000000, nl_1103515245, nl_2147483647, nl_30, nl_55, nl_107, nl_200, nl_512, nl_15485957, iI_0, iI_neg, iI_add, iI_sub, iI_mul, iI_div, iI_mod, iI_lt, iI_le, iI_eq, iI_nat, iI_vp, ld_rd, ld_wl, lu_s, lu_t, lu_c, lu_j, forall_eq, Int.toNat_natCast, true_and, and_true, not_true, not_false_iff, Classical.not_not, forall_const, iI_inj, e1]
      exact hend
    · refine ⟨_, M3, fun P R hP hQ hend => rg_L_law_143 hP ⟨_, _, s1, ?_⟩, h3, _, hB.n g25, rfl⟩
      simp (disch := omega) only [nl_0, nl_1, nl_2, nl_3, nl_4, nl_5, nl_6, nl_7, nl_8, nl_9, nl_10, nl_11, nl_12, nl_13, nl_14, nl_15, nl_16, nl_17, nl_18, nl_19, nl_20, nl_21, nl_22, nl_23, nl_24, nl_25, nl_26, nl_27, nl_28, nl_31, nl_32, nl_42, nl_44, nl_46, nl_48, nl_49, nl_50, nl_51, nl_60, nl_75, nl_76, nl_99, nl_100, nl_108, nl_114, nl_117, nl_126, nl_255, nl_999, nl_2401, nl_9999, nl_12345, nl_65536, nl_1000000, nl_1103515245, nl_2147483647, nl_30, nl_55, nl_107, nl_200, nl_512, nl_15485957, iI_0, iI_neg, iI_add, iI_sub, iI_mul, iI_div, iI_mod, iI_lt, iI_le, iI_eq, iI_nat, iI_vp, ld_rd, ld_wl, lu_s, lu_t, lu_c, lu_j, forall_eq, Int.toNat_natCast, true_and, and_true, not_true, not_false_iff, Classical.not_not, forall_const, iI_inj]
      refine ⟨fun c => by omega, fun _ => ⟨_, _, s2, ?_⟩⟩
      simp (disch := omega) only [nl_0, nl_1, nl_2, nl_3, nl_4, nl_5, nl_6, nl_7, nl_8, nl_9, nl_10, nl_11, nl_12, nl_13, nl_14, nl_15, nl_16, nl_17, nl_18, nl_19, nl_20, nl_21, nl_22, nl_23, nl_24, nl_25, nl_26, nl_27, nl_28, nl_31, nl_32, nl_42, nl_44, nl_46, nl_48, nl_49, nl_50, nl_51, nl_60, nl_75, nl_76, nl_99, nl_100, nl_108, nl_114, nl_117, nl_126, nl_255, nl_999, nl_2401, nl_9999, nl_12345, nl_65536, nl_1000000, nl_1103515245, nl_2147483647, nl_30, nl_55, nl_107, nl_200, nl_512, nl_15485957, iI_0, iI_neg, iI_add, iI_sub, iI_mul, iI_div, iI_mod, iI_lt, iI_le, iI_eq, iI_nat, iI_vp, ld_rd, ld_wl, lu_s, lu_t, lu_c, lu_j, forall_eq, Int.toNat_natCast, true_and, and_true, not_true, not_false_iff, Classical.not_not, forall_const, iI_inj]
      refine ⟨fun c => by omega, fun _ => ⟨_, _, s3, ?_⟩⟩
      simp (disch := omega) only [nl_0, nl_1, nl_2, nl_3, nl_4, nl_5, nl_6, nl_7, nl_8, nl_9, nl_10, nl_11, nl_12, nl_13, nl_14, nl_15, nl_16, nl_17, nl_18, nl_19, nl_20, nl_21, nl_22, nl_23, nl_24, nl_25, nl_26, nl_27, nl_28, nl_31, nl_32, nl_42, nl_44, nl_46, nl_48, nl_49, nl_50, nl_51, nl_60, nl_75, nl_76, nl_99, nl_100, nl_108, nl_114, nl_117, nl_126, nl_255, nl_999, nl_2401, nl_9999, nl_12345, nl_65536, nl_1000000, nl_1103515245, nl_2147483647, nl_30, nl_55, nl_107, nl_200, nl_512, nl_15485957, iI_0, iI_neg, iI_add, iI_sub, iI_mul, iI_div, iI_mod, iI_lt, iI_le, iI_eq, iI_nat, iI_vp, ld_rd, ld_wl, lu_s, lu_t, lu_c, lu_j, forall_eq, Int.toNat_natCast, true_and, and_true, not_true, not_false_iff, Classical.not_not, forall_const, iI_inj]
      refine ⟨fun _ => rg_L_law_188 hP ?_, fun c => absurd c g25⟩
      have hb := bi_o0 ⟨g, hB.1⟩
      dsimp only at hb
      rw [hb]
      simp (disch := omega) only [nl_0, nl_1, nl_2, nl_3, nl_4, nl_5, nl_6, nl_7, nl_8, nl_9, nl_10, nl_11, nl_12, nl_13, nl_14, nl_15, nl_16, nl_17, nl_18, nl_19, nl_20, nl_21, nl_22, nl_23, nl_24, nl_25, nl_26, nl_27, nl_28, nl_31, nl_32, nl_42, nl_44, nl_46, nl_48, nl_49, nl_50, nl_51, nl_60, nl_75, nl_76, nl_99, nl_100, nl_108, nl_114, nl_117, nl_126, nl_255, nl_999, nl_2401, nl_9999, nl_12345, nl_65536, nl_1000000, nl_1103515245, nl_2147483647, nl_30, nl_55, nl_107, nl_200, nl_512, nl_15485957, iI_0, iI_neg, iI_add, iI_sub, iI_mul, iI_div, iI_mod, iI_lt, iI_le, iI_eq, iI_nat, iI_vp, ld_rd, ld_wl, lu_s, lu_t, lu_c, lu_j, forall_eq, Int.toNat_natCast, true_and, and_true, not_true, not_false_iff, Classical.not_not, forall_const, iI_inj, e1]
      exact hend
  obtain ⟨ls, M1, g1, hS1, g, hB, rfl⟩ := go_lp (d := d) (pc := 143) (n := nC A) (I := LG L xs A n S F x4 x5 x6 x7 x8 x9 o12 o13 o14 o15 o16) step (nC A) 0 _ M (by omega) ⟨hS, 0, ⟨by decide, fun c hc => by simp⟩, rfl⟩
  obtain ⟨M2, s2, f2, h2⟩ := q_count (d := d) (by omega) hS1 (w := 0) (by unfold iR; omega)
  rw [hvc.1] at s2
  by_cases c : ov A (nC A) + 6 ≤ (nC A : Int)
  · refine ⟨g, M2, g1.tr (fun P R hP hQ hend => rg_L_law_143 hP ⟨_, _, s2, ?_⟩), hB, h2⟩
    simp (disch := omega) only [nl_0, nl_1, nl_2, nl_3, nl_4, nl_5, nl_6, nl_7, nl_8, nl_9, nl_10, nl_11, nl_12, nl_13, nl_14, nl_15, nl_16, nl_17, nl_18, nl_19, nl_20, nl_21, nl_22, nl_23, nl_24, nl_25, nl_26, nl_27, nl_28, nl_31, nl_32, nl_42, nl_44, nl_46, nl_48, nl_49, nl_50, nl_51, nl_60, nl_75, nl_76, nl_99, nl_100, nl_108, nl_114, nl_117, nl_126, nl_255, nl_999, nl_2401, nl_9999, nl_12345, nl_65536, nl_1000000, nl_1103515245, nl_2147483647, nl_30, nl_55, nl_107, nl_200, nl_512, nl_15485957, iI_0, iI_neg, iI_add, iI_sub, iI_mul, iI_div, iI_mod, iI_lt, iI_le, iI_eq, iI_nat, iI_vp, ld_rd, ld_wl, lu_s, lu_t, lu_c, lu_j, forall_eq, Int.toNat_natCast, true_and, and_true, not_true, not_false_iff, Classical.not_not, forall_const, iI_inj]
    exact ⟨fun _ => hend, fun z => absurd c z⟩
  · obtain ⟨M3, s3, f3, h3⟩ := q_told (d := d) (by omega) h2 (c := (nC A : Int)) (w := 0) (by unfold iR; omega) (by unfold iR; omega)
    rw [v_told0 hS.2.2.1.li (Nat.le_refl _)] at s3
    refine ⟨g, M3, g1.tr (fun P R hP hQ hend => rg_L_law_143 hP ⟨_, _, s2, ?_⟩), hB, h3⟩
    simp (disch := omega) only [nl_0, nl_1, nl_2, nl_3, nl_4, nl_5, nl_6, nl_7, nl_8, nl_9, nl_10, nl_11, nl_12, nl_13, nl_14, nl_15, nl_16, nl_17, nl_18, nl_19, nl_20, nl_21, nl_22, nl_23, nl_24, nl_25, nl_26, nl_27, nl_28, nl_31, nl_32, nl_42, nl_44, nl_46, nl_48, nl_49, nl_50, nl_51, nl_60, nl_75, nl_76, nl_99, nl_100, nl_108, nl_114, nl_117, nl_126, nl_255, nl_999, nl_2401, nl_9999, nl_12345, nl_65536, nl_1000000, nl_1103515245, nl_2147483647, nl_30, nl_55, nl_107, nl_200, nl_512, nl_15485957, iI_0, iI_neg, iI_add, iI_sub, iI_mul, iI_div, iI_mod, iI_lt, iI_le, iI_eq, iI_nat, iI_vp, ld_rd, ld_wl, lu_s, lu_t, lu_c, lu_j, forall_eq, Int.toNat_natCast, true_and, and_true, not_true, not_false_iff, Classical.not_not, forall_const, iI_inj]
    refine ⟨fun z => absurd z c, fun _ => ⟨_, _, s3, ?_⟩⟩
    simp (disch := omega) only [nl_0, nl_1, nl_2, nl_3, nl_4, nl_5, nl_6, nl_7, nl_8, nl_9, nl_10, nl_11, nl_12, nl_13, nl_14, nl_15, nl_16, nl_17, nl_18, nl_19, nl_20, nl_21, nl_22, nl_23, nl_24, nl_25, nl_26, nl_27, nl_28, nl_31, nl_32, nl_42, nl_44, nl_46, nl_48, nl_49, nl_50, nl_51, nl_60, nl_75, nl_76, nl_99, nl_100, nl_108, nl_114, nl_117, nl_126, nl_255, nl_999, nl_2401, nl_9999, nl_12345, nl_65536, nl_1000000, nl_1103515245, nl_2147483647, nl_30, nl_55, nl_107, nl_200, nl_512, nl_15485957, iI_0, iI_neg, iI_add, iI_sub, iI_mul, iI_div, iI_mod, iI_lt, iI_le, iI_eq, iI_nat, iI_vp, ld_rd, ld_wl, lu_s, lu_t, lu_c, lu_j, forall_eq, Int.toNat_natCast, true_and, and_true, not_true, not_false_iff, Classical.not_not, forall_const, iI_inj]
    exact ⟨fun _ => hend, fun z => by omega⟩
theorem an3 {z : Int} (h : 0 ≤ z) (h2 : z < 2147483648) : (iI z &&& iI 3) = iI (z % 4) := by
  apply Int32.toBitVec_inj.mp
  rw [Int32.toBitVec_and]
  have e : ∀ n : Nat, n < 2147483648 → (iI (n : Int)).toBitVec = BitVec.ofNat 32 n := fun n hn => by
    rw [← iI_nI]
    rfl
  obtain ⟨n, rfl⟩ := nat_iR h
  rw [show (n : Int) % 4 = ((n % 4 : Nat) : Int) by omega, e n (by omega), e (n % 4) (by omega)]
  show BitVec.ofNat 32 n &&& BitVec.ofNat 32 3 = BitVec.ofNat 32 (n % 4)
  rw [← BitVec.ofNat_and]
  congr 1
  exact Nat.and_two_pow_sub_one_eq_mod n 2
theorem s_split_1 {A : lA} {c w : Int} (h : 0 ≤ A 0 0 0) : (-3 ≤ (s_split A c w).1 ∧ (s_split A c w).1 < 0) ∨ ((s_split A c w).1 = A 0 0 0 ∧ nC (s_split A c w).2 = nC A + 1 ∧ (s_split A c w).2 3 0 (nC A) = w ∧ ∀ v, v < 4 → (s_split A c w).2 4 (nC A) v = 0) := by
  unfold s_split
  split
  · exact Or.inl ⟨by show (-3 : Int) ≤ -1; decide, by show (-1 : Int) < 0; decide⟩
  · split
    · exact Or.inl ⟨by show (-3 : Int) ≤ -2; decide, by show (-2 : Int) < 0; decide⟩
    · split
      · exact Or.inl ⟨by show (-3 : Int) ≤ -3; decide, by show (-3 : Int) < 0; decide⟩
      · refine Or.inr ⟨rfl, ?_, ?_, fun v hv => ?_⟩
        · show nC (ac _ _ _ _) = nC A + 1
          have : ac (lu A 3 0 c.toNat (A 3 0 c.toNat - w)) (A 1 0 c.toNat) (A 2 0 c.toNat) w 0 0 0 = A 0 0 0 + 1 := lu_s
          unfold nC
          rw [this]
          omega
        · show ac _ _ _ _ 3 0 (nC A) = w
          rw [ac_at.2.2]
          exact if_pos rfl
        · show ac _ _ _ _ 4 (nC A) v = 0
          rw [ac_4]
          exact if_pos ⟨rfl, hv⟩
theorem s_join_r {A : lA} (h : LI A) (a b : Int) : -2 ≤ (s_join A a b).1 ∧ (s_join A a b).1 ≤ 999 := by
  have hn := h.nc
  unfold s_join
  split
  · exact ⟨by show (-2 : Int) ≤ -1; decide, by show (-1 : Int) ≤ 999; decide⟩
  · split
    · exact ⟨by show (-2 : Int) ≤ -2; decide, by show (-2 : Int) ≤ 999; decide⟩
    · have hwa := h.wa (c := a.toNat) (by omega)
      have hwb := h.wa (c := b.toNat) (by omega)
      show -2 ≤ jm A a.toNat b.toNat ∧ jm A a.toNat b.toNat ≤ 999
      unfold jm
      split <;> omega
theorem s_salt_r {A : lA} (h : LI A) (c : Int) : -2 ≤ (s_salt A c).1 ∧ (s_salt A c).1 ≤ 3 := by
  have hn := h.nc
  unfold s_salt
  split
  · exact ⟨by show (-2 : Int) ≤ -1; decide, by show (-1 : Int) ≤ 3; decide⟩
  · split
    · exact ⟨by show (-2 : Int) ≤ -2; decide, by show (-2 : Int) ≤ 3; decide⟩
    · have := h.kd (c := c.toNat) (by omega)
      exact ⟨by show -2 ≤ A 1 0 c.toNat; omega, this.2⟩
theorem join_nC {A : lA} (a b : Int) : nC (s_join A a b).2 = nC A ∧ (s_join A a b).2 0 0 2 = A 0 0 2 := by
  unfold s_join
  split
  · exact ⟨rfl, rfl⟩
  · split
    · exact ⟨rfl, rfl⟩
    · refine ⟨?_, ?_⟩
      · show nC (jn A a.toNat b.toNat) = nC A
        unfold nC
        rw [jn_lo (t := 0) (by decide)]
      · show jn A a.toNat b.toNat 0 0 2 = A 0 0 2
        exact jn_lo (by decide)
theorem split_h {A : lA} (c w : Int) : (s_split A c w).2 0 0 2 = A 0 0 2 := by
  unfold s_split
  split
  · rfl
  · split
    · rfl
    · split
      · rfl
      · show ac (lu A 3 0 c.toNat (A 3 0 c.toNat - w)) (A 1 0 c.toNat) (A 2 0 c.toNat) w 0 0 2 = A 0 0 2
        rw [ac_lo (by omega)]
        rfl
theorem salt_h {A : lA} (c : Int) : (s_salt A c).2 0 0 2 = A 0 0 2 ∧ nC (s_salt A c).2 = nC A := by
  unfold s_salt
  split
  · exact ⟨rfl, rfl⟩
  · split
    · exact ⟨rfl, rfl⟩
    · exact ⟨rfl, rfl⟩
/-- what passes in a round -/
theorem rd_op {d : Nat} (hd : 6 ≤ d) {L : Nat} {xs : Nat → Int32} {M : mj_M} {A : lA} {n : Nat} {S F : Nat → Int} {x4 x5 x6 x7 x8 x10 x11 : Int32} {x : Int} {o12 o13 o14 o15 o16 : Option mj_V} (hS : ST L xs M A n S F) (hX : LX A) (hh : A 0 0 2 + 5 ≤ 9999) (ht : tot A ≤ 1200) (hx : 0 ≤ x ∧ x < 2147483648) :
    ∃ (g : Int) (A' : lA) (M' : mj_M) (p13 p14 p15 : Option mj_V), Go mj_c70 d 197 [some (mj_r (41, 82, 0)), some (mj_r (13, 50, 0)), some (mj_r (17, 73, 0)), some (mj_i (iI 1)), some (mj_i x4), some (mj_i x5), some (mj_i x6), some (mj_i x7), some (mj_i x8), some (mj_i (iI (x))), some (mj_i x10), some (mj_i x11), o12, o13, o14, o15, o16] [] M 391 [some (mj_r (41, 82, 0)), some (mj_r (13, 50, 0)), some (mj_r (17, 73, 0)), some (mj_i (iI 1)), some (mj_i x4), some (mj_i x5), some (mj_i x6), some (mj_i x7), some (mj_i x8), some (mj_i (iI (x))), some (mj_i x10), some (mj_i (iI (ft A))), some (mj_i (iI (g))), p13, p14, p15, o16] [] M' ∧ SR A A' g ∧ ST L xs M' A' n S F ∧ nC A ≤ nC A' ∧ A' 0 0 2 ≤ A 0 0 2 + 5 := by
  have hJ := hX.1
  have hn := hJ.li.nc
  have hft := ft_nn hX.2.2.2
  have hsw := sw_nn hJ.li
  have htt : tot A = sm (A 3 0) (nC A) + ft A := rfl
  have hvc := v_count (A := A) (n := n)
  have hh0 := hJ.ho
  have h2 := shr_r hx.1 2
  have h5 := shr_r hx.1 5
  have h9 := shr_r hx.1 9
  have h11 := shr_r hx.1 11
  have n2 : (2 : Int).toNat = 2 := rfl
  have n5 : (5 : Int).toNat = 5 := rfl
  have n9 : (9 : Int).toNat = 9 := rfl
  have n11 : (11 : Int).toNat = 11 := rfl
  have k2 : iI x >>> (iI 2 &&& 31) = iI (shr x 2) := iI_shr hx.1 hx.2 (by omega) (by omega)
  have k5 : iI x >>> (iI 5 &&& 31) = iI (shr x 5) := iI_shr hx.1 hx.2 (by omega) (by omega)
  have k9 : iI x >>> (iI 9 &&& 31) = iI (shr x 9) := iI_shr hx.1 hx.2 (by omega) (by omega)
  have k11 : iI x >>> (iI 11 &&& 31) = iI (shr x 11) := iI_shr hx.1 hx.2 (by omega) (by omega)
  have ka : (iI x &&& iI 3) = iI (x % 4) := an3 hx.1 hx.2
  obtain ⟨M1, s1, f1, h1⟩ := q_count (d := d) (by omega) hS (w := 6) (by unfold iR; omega)
  rw [hvc.2.2.2.2] at s1
  by_cases c1 : x % 4 < 2
  · -- it passes
    have ep : s_pass A n S F (1 + shr x 2 % 5) = (gsu A n S F (1 + shr x 2 % 5).toNat, gs A n S F (1 + shr x 2 % 5).toNat) := by
      unfold s_pass
      rw [if_neg (by omega), if_neg (by omega)]
    have cp := c_pass (M := M1) (d := d) (by omega) (m := 1 + shr x 2 % 5) (by unfold iR; omega) h1.1.1 h1.2.2.1 h1.2.2.2.1
    rw [ep] at cp
    have hsr := gs_SR hX (n := n) (S := S) (F := F) (1 + shr x 2 % 5).toNat (by omega)
    have hgh := gs_h (A := A) (n := n) (S := S) (F := F) (1 + shr x 2 % 5).toNat
    obtain ⟨M2, s2, f2, h2'⟩ := st_call h1 hsr.1.1 cp
    refine ⟨_, _, M2, o13, o14, o15, fun P R hP hQ hend => rg_L_law_197 hP ⟨_, _, s1, ?_⟩, hsr, h2', by rw [gs_nC]; omega, by omega⟩
    simp (disch := omega) only [nl_0, nl_1, nl_2, nl_3, nl_4, nl_5, nl_6, nl_7, nl_8, nl_9, nl_10, nl_11, nl_12, nl_13, nl_14, nl_15, nl_16, nl_17, nl_18, nl_19, nl_20, nl_21, nl_22, nl_23, nl_24, nl_25, nl_26, nl_27, nl_28, nl_31, nl_32, nl_42, nl_44, nl_46, nl_48, nl_49, nl_50, nl_51, nl_60, nl_75, nl_76, nl_99, nl_100, nl_108, nl_114, nl_117, nl_126, nl_255, nl_999, nl_2401, nl_9999, nl_12345, nl_65536, nl_1000000, nl_1103515245, nl_2147483647, nl_30, nl_55, nl_107, nl_200, nl_512, nl_15485957, iI_0, iI_neg, iI_add, iI_sub, iI_mul, iI_div, iI_mod, iI_lt, iI_le, iI_eq, iI_nat, iI_vp, ld_rd, ld_wl, lu_s, lu_t, lu_c, lu_j, forall_eq, Int.toNat_natCast, true_and, and_true, not_true, not_false_iff, Classical.not_not, forall_const, iI_inj, ka, k2]
    exact ⟨fun z => by omega, fun _ => ⟨by omega, _, _, s2, hend⟩⟩
  · by_cases c2 : x % 4 = 2
    · -- two are joined
      obtain ⟨g, hsr, hneg⟩ := join_SR hX (shr x 2 % 6) (shr x 5 % 6)
      have hjn := join_nC (A := A) (shr x 2 % 6) (shr x 5 % 6)
      have hjr := s_join_r hJ.li (shr x 2 % 6) (shr x 5 % 6)
      obtain ⟨M2, s2, f2, h2'⟩ := st_call h1 hsr.1.1 (c_join (M := M1) (d := d) (by omega) (a := shr x 2 % 6) (b := shr x 5 % 6) (by unfold iR; omega) (by unfold iR; omega) hJ.li)
      by_cases c3 : 0 ≤ (s_join A (shr x 2 % 6) (shr x 5 % 6)).1
      · obtain ⟨M3, s3, f3, h3⟩ := q_count (d := d) (by omega) h2' (w := 6) (by unfold iR; omega)
        rw [(v_count (A := (s_join A (shr x 2 % 6) (shr x 5 % 6)).2) (n := n)).2.2.2.2] at s3
        have eg : ft (s_join A (shr x 2 % 6) (shr x 5 % 6)).2 - ft A = g := by
          have := hsr.2.2.2.1
          omega
        refine ⟨g, _, M3, some (mj_i (iI (shr x 2 % 6))), some (mj_i (iI (shr x 5 % 6))), some (mj_i (iI g)), fun P R hP hQ hend => rg_L_law_197 hP ⟨_, _, s1, ?_⟩, hsr, h3, by rw [hjn.1]; omega, by rw [hjn.2]; omega⟩
        simp (disch := omega) only [nl_0, nl_1, nl_2, nl_3, nl_4, nl_5, nl_6, nl_7, nl_8, nl_9, nl_10, nl_11, nl_12, nl_13, nl_14, nl_15, nl_16, nl_17, nl_18, nl_19, nl_20, nl_21, nl_22, nl_23, nl_24, nl_25, nl_26, nl_27, nl_28, nl_31, nl_32, nl_42, nl_44, nl_46, nl_48, nl_49, nl_50, nl_51, nl_60, nl_75, nl_76, nl_99, nl_100, nl_108, nl_114, nl_117, nl_126, nl_255, nl_999, nl_2401, nl_9999, nl_12345, nl_65536, nl_1000000, nl_1103515245, nl_2147483647, nl_30, nl_55, nl_107, nl_200, nl_512, nl_15485957, iI_0, iI_neg, iI_add, iI_sub, iI_mul, iI_div, iI_mod, iI_lt, iI_le, iI_eq, iI_nat, iI_vp, ld_rd, ld_wl, lu_s, lu_t, lu_c, lu_j, forall_eq, Int.toNat_natCast, true_and, and_true, not_true, not_false_iff, Classical.not_not, forall_const, iI_inj, ka, k2, k5]
        refine ⟨fun _ => ⟨fun z => absurd c2 z, fun _ => ⟨by omega, by omega, _, _, s2, ?_⟩⟩, fun z => by omega⟩
        simp (disch := omega) only [nl_0, nl_1, nl_2, nl_3, nl_4, nl_5, nl_6, nl_7, nl_8, nl_9, nl_10, nl_11, nl_12, nl_13, nl_14, nl_15, nl_16, nl_17, nl_18, nl_19, nl_20, nl_21, nl_22, nl_23, nl_24, nl_25, nl_26, nl_27, nl_28, nl_31, nl_32, nl_42, nl_44, nl_46, nl_48, nl_49, nl_50, nl_51, nl_60, nl_75, nl_76, nl_99, nl_100, nl_108, nl_114, nl_117, nl_126, nl_255, nl_999, nl_2401, nl_9999, nl_12345, nl_65536, nl_1000000, nl_1103515245, nl_2147483647, nl_30, nl_55, nl_107, nl_200, nl_512, nl_15485957, iI_0, iI_neg, iI_add, iI_sub, iI_mul, iI_div, iI_mod, iI_lt, iI_le, iI_eq, iI_nat, iI_vp, ld_rd, ld_wl, lu_s, lu_t, lu_c, lu_j, forall_eq, Int.toNat_natCast, true_and, and_true, not_true, not_false_iff, Classical.not_not, forall_const, iI_inj]
        refine ⟨fun _ => ⟨_, _, s3, rg_L_law_283 hP ?_⟩, fun z => absurd c3 z⟩
        simp (disch := omega) only [nl_0, nl_1, nl_2, nl_3, nl_4, nl_5, nl_6, nl_7, nl_8, nl_9, nl_10, nl_11, nl_12, nl_13, nl_14, nl_15, nl_16, nl_17, nl_18, nl_19, nl_20, nl_21, nl_22, nl_23, nl_24, nl_25, nl_26, nl_27, nl_28, nl_31, nl_32, nl_42, nl_44, nl_46, nl_48, nl_49, nl_50, nl_51, nl_60, nl_75, nl_76, nl_99, nl_100, nl_108, nl_114, nl_117, nl_126, nl_255, nl_999, nl_2401, nl_9999, nl_12345, nl_65536, nl_1000000, nl_1103515245, nl_2147483647, nl_30, nl_55, nl_107, nl_200, nl_512, nl_15485957, iI_0, iI_neg, iI_add, iI_sub, iI_mul, iI_div, iI_mod, iI_lt, iI_le, iI_eq, iI_nat, iI_vp, ld_rd, ld_wl, lu_s, lu_t, lu_c, lu_j, forall_eq, Int.toNat_natCast, true_and, and_true, not_true, not_false_iff, Classical.not_not, forall_const, iI_inj, eg]
        exact hend
      · have eg := hneg (by omega)
        subst eg
        refine ⟨0, _, M2, some (mj_i (iI (shr x 2 % 6))), some (mj_i (iI (shr x 5 % 6))), some (mj_i (iI 0)), fun P R hP hQ hend => rg_L_law_197 hP ⟨_, _, s1, ?_⟩, hsr, h2', by rw [hjn.1]; omega, by rw [hjn.2]; omega⟩
        simp (disch := omega) only [nl_0, nl_1, nl_2, nl_3, nl_4, nl_5, nl_6, nl_7, nl_8, nl_9, nl_10, nl_11, nl_12, nl_13, nl_14, nl_15, nl_16, nl_17, nl_18, nl_19, nl_20, nl_21, nl_22, nl_23, nl_24, nl_25, nl_26, nl_27, nl_28, nl_31, nl_32, nl_42, nl_44, nl_46, nl_48, nl_49, nl_50, nl_51, nl_60, nl_75, nl_76, nl_99, nl_100, nl_108, nl_114, nl_117, nl_126, nl_255, nl_999, nl_2401, nl_9999, nl_12345, nl_65536, nl_1000000, nl_1103515245, nl_2147483647, nl_30, nl_55, nl_107, nl_200, nl_512, nl_15485957, iI_0, iI_neg, iI_add, iI_sub, iI_mul, iI_div, iI_mod, iI_lt, iI_le, iI_eq, iI_nat, iI_vp, ld_rd, ld_wl, lu_s, lu_t, lu_c, lu_j, forall_eq, Int.toNat_natCast, true_and, and_true, not_true, not_false_iff, Classical.not_not, forall_const, iI_inj, ka, k2, k5]
        refine ⟨fun _ => ⟨fun z => absurd c2 z, fun _ => ⟨by omega, by omega, _, _, s2, ?_⟩⟩, fun z => by omega⟩
        simp (disch := omega) only [nl_0, nl_1, nl_2, nl_3, nl_4, nl_5, nl_6, nl_7, nl_8, nl_9, nl_10, nl_11, nl_12, nl_13, nl_14, nl_15, nl_16, nl_17, nl_18, nl_19, nl_20, nl_21, nl_22, nl_23, nl_24, nl_25, nl_26, nl_27, nl_28, nl_31, nl_32, nl_42, nl_44, nl_46, nl_48, nl_49, nl_50, nl_51, nl_60, nl_75, nl_76, nl_99, nl_100, nl_108, nl_114, nl_117, nl_126, nl_255, nl_999, nl_2401, nl_9999, nl_12345, nl_65536, nl_1000000, nl_1103515245, nl_2147483647, nl_30, nl_55, nl_107, nl_200, nl_512, nl_15485957, iI_0, iI_neg, iI_add, iI_sub, iI_mul, iI_div, iI_mod, iI_lt, iI_le, iI_eq, iI_nat, iI_vp, ld_rd, ld_wl, lu_s, lu_t, lu_c, lu_j, forall_eq, Int.toNat_natCast, true_and, and_true, not_true, not_false_iff, Classical.not_not, forall_const, iI_inj]
        exact ⟨fun z => absurd z c3, fun _ => rg_L_law_283 hP hend⟩
    · -- one is split, and perhaps one salted
      have hsr := split_SR hX (shr x 2 % 6) (1 + shr x 5 % 9)
      have hsp := s_split_1 (A := A) (c := shr x 2 % 6) (w := 1 + shr x 5 % 9) hJ.li.1
      have hsh := split_h (A := A) (shr x 2 % 6) (1 + shr x 5 % 9)
      obtain ⟨M2, s2, f2, h2'⟩ := st_call h1 hsr.1.1 (c_split (M := M1) (d := d) (by omega) (c := shr x 2 % 6) (w := 1 + shr x 5 % 9) (by unfold iR; omega) (by unfold iR; omega) hJ.li)
      generalize hr : (s_split A (shr x 2 % 6) (1 + shr x 5 % 9)).1 = r at s2 hsp
      generalize hB : (s_split A (shr x 2 % 6) (1 + shr x 5 % 9)).2 = B at s2 hsp hsr hsh h2'
      have hnB : nC A ≤ nC B ∧ -3 ≤ r ∧ r ≤ 6 := by
        rcases hsp with z | z
        · refine ⟨?_, by omega, by omega⟩
          have hn' := hsr.1.1.li.nc
          have : nC A ≤ nC B := by
            rw [← hB, ← Nat.not_lt]
            intro h
            revert h
            have : (s_split A (shr x 2 % 6) (1 + shr x 5 % 9)).1 < 0 → nC (s_split A (shr x 2 % 6) (1 + shr x 5 % 9)).2 = nC A := by
              unfold s_split
              split
              · exact fun _ => rfl
              · split
                · exact fun _ => rfl
                · split
                  · exact fun _ => rfl
                  · intro z
                    have z : A 0 0 0 < 0 := z
                    omega
            rw [this (by rw [hr]; exact z.2)]
            omega
          exact this
        · omega
      -- up to the salting
      have gA : ∃ M3, ST L xs M3 B n S F ∧ Go mj_c70 d 197 [some (mj_r (41, 82, 0)), some (mj_r (13, 50, 0)), some (mj_r (17, 73, 0)), some (mj_i (iI 1)), some (mj_i x4), some (mj_i x5), some (mj_i x6), some (mj_i x7), some (mj_i x8), some (mj_i (iI (x))), some (mj_i x10), some (mj_i x11), o12, o13, o14, o15, o16] [] M 348 [some (mj_r (41, 82, 0)), some (mj_r (13, 50, 0)), some (mj_r (17, 73, 0)), some (mj_i (iI 1)), some (mj_i x4), some (mj_i x5), some (mj_i x6), some (mj_i x7), some (mj_i x8), some (mj_i (iI (x))), some (mj_i x10), some (mj_i (iI (ft A))), some (mj_i (iI (0))), some (mj_i (iI (r))), o14, o15, o16] [] M3 := by
        rcases hsp with z | ⟨z1, z2, z3, z4⟩
        · refine ⟨M2, h2', fun P R hP hQ hend => rg_L_law_197 hP ⟨_, _, s1, ?_⟩⟩
          simp (disch := omega) only [nl_0, nl_1, nl_2, nl_3, nl_4, nl_5, nl_6, nl_7, nl_8, nl_9, nl_10, nl_11, nl_12, nl_13, nl_14, nl_15, nl_16, nl_17, nl_18, nl_19, nl_20, nl_21, nl_22, nl_23, nl_24, nl_25, nl_26, nl_27, nl_28, nl_31, nl_32, nl_42, nl_44, nl_46, nl_48, nl_49, nl_50, nl_51, nl_60, nl_75, nl_76, nl_99, nl_100, nl_108, nl_114, nl_117, nl_126, nl_255, nl_999, nl_2401, nl_9999, nl_12345, nl_65536, nl_1000000, nl_1103515245, nl_2147483647, nl_30, nl_55, nl_107, nl_200, nl_512, nl_15485957, iI_0, iI_neg, iI_add, iI_sub, iI_mul, iI_div, iI_mod, iI_lt, iI_le, iI_eq, iI_nat, iI_vp, ld_rd, ld_wl, lu_s, lu_t, lu_c, lu_j, forall_eq, Int.toNat_natCast, true_and, and_true, not_true, not_false_iff, Classical.not_not, forall_const, iI_inj, ka, k2, k5]
          refine ⟨fun _ => ⟨fun _ => ⟨by omega, by omega, _, _, s2, ?_⟩, fun z => by omega⟩, fun z => by omega⟩
          simp (disch := omega) only [nl_0, nl_1, nl_2, nl_3, nl_4, nl_5, nl_6, nl_7, nl_8, nl_9, nl_10, nl_11, nl_12, nl_13, nl_14, nl_15, nl_16, nl_17, nl_18, nl_19, nl_20, nl_21, nl_22, nl_23, nl_24, nl_25, nl_26, nl_27, nl_28, nl_31, nl_32, nl_42, nl_44, nl_46, nl_48, nl_49, nl_50, nl_51, nl_60, nl_75, nl_76, nl_99, nl_100, nl_108, nl_114, nl_117, nl_126, nl_255, nl_999, nl_2401, nl_9999, nl_12345, nl_65536, nl_1000000, nl_1103515245, nl_2147483647, nl_30, nl_55, nl_107, nl_200, nl_512, nl_15485957, iI_0, iI_neg, iI_add, iI_sub, iI_mul, iI_div, iI_mod, iI_lt, iI_le, iI_eq, iI_nat, iI_vp, ld_rd, ld_wl, lu_s, lu_t, lu_c, lu_j, forall_eq, Int.toNat_natCast, true_and, and_true, not_true, not_false_iff, Classical.not_not, forall_const, iI_inj]
          exact ⟨fun _ => hend, fun z => by omega⟩
        · have er : r = (nC A : Int) := by omega
          subst er
          have hvt := v_told hsr.1.1.li (c := nC A) (by omega)
          obtain ⟨M3, s3, f3, h3⟩ := q_told (d := d) (by omega) h2' (c := (nC A : Int)) (w := 2) (by unfold iR; omega) (by unfold iR; omega)
          obtain ⟨M4, s4, f4, h4⟩ := q_told (d := d) (by omega) h3 (c := (nC A : Int)) (w := 3) (by unfold iR; omega) (by unfold iR; omega)
          rw [hvt.2.2.1, z3] at s3
          have e4 : sm (B 4 (nC A)) 4 = 0 := by
            show (0 : Int) + B 4 (nC A) 0 + B 4 (nC A) 1 + B 4 (nC A) 2 + B 4 (nC A) 3 = 0
            rw [z4 0 (by decide), z4 1 (by decide), z4 2 (by decide), z4 3 (by decide)]
            rfl
          rw [hvt.2.2.2, e4] at s4
          refine ⟨M4, h4, fun P R hP hQ hend => rg_L_law_197 hP ⟨_, _, s1, ?_⟩⟩
          simp (disch := omega) only [nl_0, nl_1, nl_2, nl_3, nl_4, nl_5, nl_6, nl_7, nl_8, nl_9, nl_10, nl_11, nl_12, nl_13, nl_14, nl_15, nl_16, nl_17, nl_18, nl_19, nl_20, nl_21, nl_22, nl_23, nl_24, nl_25, nl_26, nl_27, nl_28, nl_31, nl_32, nl_42, nl_44, nl_46, nl_48, nl_49, nl_50, nl_51, nl_60, nl_75, nl_76, nl_99, nl_100, nl_108, nl_114, nl_117, nl_126, nl_255, nl_999, nl_2401, nl_9999, nl_12345, nl_65536, nl_1000000, nl_1103515245, nl_2147483647, nl_30, nl_55, nl_107, nl_200, nl_512, nl_15485957, iI_0, iI_neg, iI_add, iI_sub, iI_mul, iI_div, iI_mod, iI_lt, iI_le, iI_eq, iI_nat, iI_vp, ld_rd, ld_wl, lu_s, lu_t, lu_c, lu_j, forall_eq, Int.toNat_natCast, true_and, and_true, not_true, not_false_iff, Classical.not_not, forall_const, iI_inj, ka, k2, k5]
          refine ⟨fun _ => ⟨fun _ => ⟨by omega, by omega, _, _, s2, ?_⟩, fun z => by omega⟩, fun z => by omega⟩
          simp (disch := omega) only [nl_0, nl_1, nl_2, nl_3, nl_4, nl_5, nl_6, nl_7, nl_8, nl_9, nl_10, nl_11, nl_12, nl_13, nl_14, nl_15, nl_16, nl_17, nl_18, nl_19, nl_20, nl_21, nl_22, nl_23, nl_24, nl_25, nl_26, nl_27, nl_28, nl_31, nl_32, nl_42, nl_44, nl_46, nl_48, nl_49, nl_50, nl_51, nl_60, nl_75, nl_76, nl_99, nl_100, nl_108, nl_114, nl_117, nl_126, nl_255, nl_999, nl_2401, nl_9999, nl_12345, nl_65536, nl_1000000, nl_1103515245, nl_2147483647, nl_30, nl_55, nl_107, nl_200, nl_512, nl_15485957, iI_0, iI_neg, iI_add, iI_sub, iI_mul, iI_div, iI_mod, iI_lt, iI_le, iI_eq, iI_nat, iI_vp, ld_rd, ld_wl, lu_s, lu_t, lu_c, lu_j, forall_eq, Int.toNat_natCast, true_and, and_true, not_true, not_false_iff, Classical.not_not, forall_const, iI_inj]
          refine ⟨fun z => by omega, fun _ => ⟨_, _, s3, ?_⟩⟩
          simp (disch := omega) only [nl_0, nl_1, nl_2, nl_3, nl_4, nl_5, nl_6, nl_7, nl_8, nl_9, nl_10, nl_11, nl_12, nl_13, nl_14, nl_15, nl_16, nl_17, nl_18, nl_19, nl_20, nl_21, nl_22, nl_23, nl_24, nl_25, nl_26, nl_27, nl_28, nl_31, nl_32, nl_42, nl_44, nl_46, nl_48, nl_49, nl_50, nl_51, nl_60, nl_75, nl_76, nl_99, nl_100, nl_108, nl_114, nl_117, nl_126, nl_255, nl_999, nl_2401, nl_9999, nl_12345, nl_65536, nl_1000000, nl_1103515245, nl_2147483647, nl_30, nl_55, nl_107, nl_200, nl_512, nl_15485957, iI_0, iI_neg, iI_add, iI_sub, iI_mul, iI_div, iI_mod, iI_lt, iI_le, iI_eq, iI_nat, iI_vp, ld_rd, ld_wl, lu_s, lu_t, lu_c, lu_j, forall_eq, Int.toNat_natCast, true_and, and_true, not_true, not_false_iff, Classical.not_not, forall_const, iI_inj]
          refine ⟨by omega, fun z => (by first | exact z.elim | exact absurd rfl z | exact absurd z (by decide) | (exfalso; omega)), _, _, s4, ?_⟩
          simp (disch := omega) only [nl_0, nl_1, nl_2, nl_3, nl_4, nl_5, nl_6, nl_7, nl_8, nl_9, nl_10, nl_11, nl_12, nl_13, nl_14, nl_15, nl_16, nl_17, nl_18, nl_19, nl_20, nl_21, nl_22, nl_23, nl_24, nl_25, nl_26, nl_27, nl_28, nl_31, nl_32, nl_42, nl_44, nl_46, nl_48, nl_49, nl_50, nl_51, nl_60, nl_75, nl_76, nl_99, nl_100, nl_108, nl_114, nl_117, nl_126, nl_255, nl_999, nl_2401, nl_9999, nl_12345, nl_65536, nl_1000000, nl_1103515245, nl_2147483647, nl_30, nl_55, nl_107, nl_200, nl_512, nl_15485957, iI_0, iI_neg, iI_add, iI_sub, iI_mul, iI_div, iI_mod, iI_lt, iI_le, iI_eq, iI_nat, iI_vp, ld_rd, ld_wl, lu_s, lu_t, lu_c, lu_j, forall_eq, Int.toNat_natCast, true_and, and_true, not_true, not_false_iff, Classical.not_not, forall_const, iI_inj]
          exact ⟨fun z => (by first | exact z.elim | exact absurd rfl z | exact absurd z (by decide) | (exfalso; omega)), hend⟩
      obtain ⟨M3, h3, g3⟩ := gA
      by_cases c5 : 0 < shr x 9 % 4
      · refine ⟨0, B, M3, some (mj_i (iI r)), o14, o15, g3.tr (fun P R hP hQ hend => rg_L_law_348 hP (rg_L_law_353 hP ?_)), hsr, h3, hnB.1, by omega⟩
        simp (disch := omega) only [nl_0, nl_1, nl_2, nl_3, nl_4, nl_5, nl_6, nl_7, nl_8, nl_9, nl_10, nl_11, nl_12, nl_13, nl_14, nl_15, nl_16, nl_17, nl_18, nl_19, nl_20, nl_21, nl_22, nl_23, nl_24, nl_25, nl_26, nl_27, nl_28, nl_31, nl_32, nl_42, nl_44, nl_46, nl_48, nl_49, nl_50, nl_51, nl_60, nl_75, nl_76, nl_99, nl_100, nl_108, nl_114, nl_117, nl_126, nl_255, nl_999, nl_2401, nl_9999, nl_12345, nl_65536, nl_1000000, nl_1103515245, nl_2147483647, nl_30, nl_55, nl_107, nl_200, nl_512, nl_15485957, iI_0, iI_neg, iI_add, iI_sub, iI_mul, iI_div, iI_mod, iI_lt, iI_le, iI_eq, iI_nat, iI_vp, ld_rd, ld_wl, lu_s, lu_t, lu_c, lu_j, forall_eq, Int.toNat_natCast, true_and, and_true, not_true, not_false_iff, Classical.not_not, forall_const, iI_inj, k9, k11]
        refine ⟨fun z => (by first | exact z.elim | exact absurd rfl z | exact absurd z (by decide) | (exfalso; omega)), fun _ => ⟨by omega, fun _ => rg_L_law_385 hP (rg_L_law_390 hP hend), fun z => absurd c5 z⟩⟩
      · have hsl := salt_SR hsr.1 (shr x 11 % 6)
        have hslh := salt_h (A := B) (shr x 11 % 6)
        have hslr := s_salt_r hsr.1.1.li (shr x 11 % 6)
        obtain ⟨M4, s4, f4, h4⟩ := st_call h3 hsl.1.1 (c_salt (M := M3) (d := d) (by omega) (c := shr x 11 % 6) (by unfold iR; omega) hsr.1.1.li)
        refine ⟨0, _, M4, some (mj_i (iI r)), o14, o15, g3.tr (fun P R hP hQ hend => rg_L_law_348 hP (rg_L_law_353 hP ?_)), ?_, h4, by rw [hslh.2]; exact hnB.1, by rw [hslh.1]; omega⟩
        · simp (disch := omega) only [nl_0, nl_1, nl_2, nl_3, nl_4, nl_5, nl_6, nl_7, nl_8, nl_9, nl_10, nl_11, nl_12, nl_13, nl_14, nl_15, nl_16, nl_17, nl_18, nl_19, nl_20, nl_21, nl_22, nl_23, nl_24, nl_25, nl_26, nl_27, nl_28, nl_31, nl_32, nl_42, nl_44, nl_46, nl_48, nl_49, nl_50, nl_51, nl_60, nl_75, nl_76, nl_99, nl_100, nl_108, nl_114, nl_117, nl_126, nl_255, nl_999, nl_2401, nl_9999, nl_12345, nl_65536, nl_1000000, nl_1103515245, nl_2147483647, nl_30, nl_55, nl_107, nl_200, nl_512, nl_15485957, iI_0, iI_neg, iI_add, iI_sub, iI_mul, iI_div, iI_mod, iI_lt, iI_le, iI_eq, iI_nat, iI_vp, ld_rd, ld_wl, lu_s, lu_t, lu_c, lu_j, forall_eq, Int.toNat_natCast, true_and, and_true, not_true, not_false_iff, Classical.not_not, forall_const, iI_inj, k9, k11]
          refine ⟨fun z => (by first | exact z.elim | exact absurd rfl z | exact absurd z (by decide) | (exfalso; omega)), fun _ => ⟨by omega, fun z => absurd z c5, fun _ => ⟨by omega, _, _, s4, ?_⟩⟩⟩
          simp (disch := omega) only [nl_0, nl_1, nl_2, nl_3, nl_4, nl_5, nl_6, nl_7, nl_8, nl_9, nl_10, nl_11, nl_12, nl_13, nl_14, nl_15, nl_16, nl_17, nl_18, nl_19, nl_20, nl_21, nl_22, nl_23, nl_24, nl_25, nl_26, nl_27, nl_28, nl_31, nl_32, nl_42, nl_44, nl_46, nl_48, nl_49, nl_50, nl_51, nl_60, nl_75, nl_76, nl_99, nl_100, nl_108, nl_114, nl_117, nl_126, nl_255, nl_999, nl_2401, nl_9999, nl_12345, nl_65536, nl_1000000, nl_1103515245, nl_2147483647, nl_30, nl_55, nl_107, nl_200, nl_512, nl_15485957, iI_0, iI_neg, iI_add, iI_sub, iI_mul, iI_div, iI_mod, iI_lt, iI_le, iI_eq, iI_nat, iI_vp, ld_rd, ld_wl, lu_s, lu_t, lu_c, lu_j, forall_eq, Int.toNat_natCast, true_and, and_true, not_true, not_false_iff, Classical.not_not, forall_const, iI_inj]
          exact ⟨fun z => by omega, fun _ => rg_L_law_385 hP (rg_L_law_390 hP hend)⟩
        · have := hsr.tr hsl hnB.1
          exact this
