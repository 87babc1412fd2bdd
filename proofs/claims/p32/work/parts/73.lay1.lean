/-! the clouds are laid -/
theorem ac_at {A : lA} {k f w : Int} {j : Nat} : ac A k f w 1 0 j = (if j = nC A then k else A 1 0 j) ∧ ac A k f w 2 0 j = (if j = nC A then f else A 2 0 j) ∧ ac A k f w 3 0 j = (if j = nC A then w else A 3 0 j) := by
  unfold ac
  by_cases g : j = nC A
  · subst g
    rw [if_pos rfl, if_pos rfl, if_pos rfl]
    exact ⟨by rw [lu_t (by decide), lg_t (by decide), lu_t (by decide), lu_t (by decide), lu_s], by rw [lu_t (by decide), lg_t (by decide), lu_t (by decide), lu_s], by rw [lu_t (by decide), lg_t (by decide), lu_s]⟩
  · rw [if_neg g, if_neg g, if_neg g]
    exact ⟨by rw [lu_t (by decide), lg_t (by decide), lu_t (by decide), lu_t (by decide), lu_j g], by rw [lu_t (by decide), lg_t (by decide), lu_t (by decide), lu_j g, lu_t (by decide)], by rw [lu_t (by decide), lg_t (by decide), lu_j g, lu_t (by decide), lu_t (by decide)]⟩
/-- the row w tells the clouds -/
def KL (A : lA) (M : mj_M) : Prop := ∀ j, j < nC A → M 17 73 0 j = iI (A 2 0 j) ∧ M 17 73 0 (6 + j) = iI (A 3 0 j) ∧ M 17 73 0 (12 + j) = iI (A 1 0 j) ∧ A 2 0 j ≤ 24 ∧ 1 ≤ A 3 0 j ∧ A 3 0 j ≤ 200
/-- nothing has fallen yet -/
def FR (A : lA) : Prop := (∀ f, f < 25 → A 9 0 f = 0) ∧ (∀ v, v < 4 → A 8 0 v = 0) ∧ A 0 0 2 = 0 ∧ A 0 0 3 = 1
theorem KL.pe {A : lA} {M M' : mj_M} (h : KL A M) (e : M' 17 = M 17) : KL A M' := by
  unfold KL
  rw [e]
  exact h
def LC (L : Nat) (xs : Nat → Int32) (n : Nat) (S F : Nat → Int) (M0 : mj_M) (k : Nat) (ls : mj_L) (M : mj_M) : Prop := (∃ o5, ls = [some (mj_r (13, 50, 0)), some (mj_r (41, 82, 0)), some (mj_r (17, 73, 0)), some (mj_i (iI 1)), some (mj_i (iI (k : Int))), o5, none, none, none]) ∧ fr [0, 17] M0 M ∧ ∃ A, ST L xs M A n S F ∧ nC A = k ∧ nV A = 0 ∧ KL A M ∧ FR A
theorem ly_c1 {d : Nat} (hd : 6 ≤ d) {L : Nat} {xs : Nat → Int32} {n : Nat} {S F : Nat → Int} {M0 : mj_M} (k : Nat) (ls : mj_L) (M : mj_M) (hk : k < (gN L xs).toNat) (h : LC L xs n S F M0 k ls M) : ∃ ls' M', Go mj_c68 d 154 ls [] M 154 ls' [] M' ∧ LC L xs n S F M0 (k + 1) ls' M' := by
  obtain ⟨⟨o5, rfl⟩, f0, A, hS, hc, hv, hK, hF⟩ := h
  have hN := gN_r L xs
  have hX := hS.1
  have hnc := hS.2.2.1.li.nc
  have e3 : 3 + (k : Int) % 3 = ((3 + k % 3 : Nat) : Int) := by omega
  have e1 : (k : Int) + 1 = ((k + 1 : Nat) : Int) := by omega
  have e6 : (6 + (k : Int)).toNat = 6 + k := by omega
  have e12 : (12 + (k : Int)).toNat = 12 + k := by omega
  have hs := sc_r L xs (3 + k % 3)
  have hx := shr_r hs.1 (13 * ((k : Int) / 3)).toNat
  generalize hxd : shr (sc L xs (3 + k % 3)) (13 * ((k : Int) / 3)).toNat = x at hx
  have hx5 := shr_r (z := x) (by omega) 5
  have hx10 := shr_r (z := x) (by omega) 10
  obtain ⟨q, hq1, hq2, g1⟩ : ∃ q : Int, 0 < q ∧ q ≤ 200 ∧ Go mj_c68 d 154 [some (mj_r (13, 50, 0)), some (mj_r (41, 82, 0)), some (mj_r (17, 73, 0)), some (mj_i (iI 1)), some (mj_i (iI (k : Int))), o5, none, none, none] [] M 222 [some (mj_r (13, 50, 0)), some (mj_r (41, 82, 0)), some (mj_r (17, 73, 0)), some (mj_i (iI 1)), some (mj_i (iI (k : Int))), some (mj_i (iI x)), none, none, none] [mj_i (iI q), mj_i (iI (shr x 5)), mj_i (iI 1), mj_i (iI (6 + (k : Int))), mj_r (17, 73, 0)] (mj_wl M (17, 73, 0, k) (iI (x % 25))) := by
    by_cases g : (iI x &&& iI 1) = iI 0
    · refine ⟨30, by omega, by omega, fun P R hP hQ hend => rg_L_lays_154 hP ⟨_, _, sp_clouds (by omega) hX, ?_⟩⟩
      simp (disch := omega) only [nl_0, nl_1, nl_2, nl_3, nl_4, nl_5, nl_6, nl_7, nl_8, nl_9, nl_10, nl_11, nl_12, nl_13, nl_14, nl_15, nl_16, nl_17, nl_18, nl_19, nl_20, nl_21, nl_22, nl_23, nl_24, nl_25, nl_26, nl_27, nl_28, nl_31, nl_32, nl_42, nl_44, nl_46, nl_48, nl_49, nl_50, nl_51, nl_60, nl_75, nl_76, nl_99, nl_100, nl_108, nl_114, nl_117, nl_126, nl_255, nl_999, nl_2401, nl_9999, nl_12345, nl_65536, nl_1000000, nl_1103515245, nl_2147483647, nl_30, nl_55, nl_107, nl_200, nl_512, nl_15485957, iI_0, iI_neg, iI_add, iI_sub, iI_mul, iI_div, iI_mod, iI_lt, iI_le, iI_eq, iI_nat, iI_vp, ld_rd, ld_wl, lu_s, lu_t, lu_c, lu_j, forall_eq, Int.toNat_natCast, true_and, and_true, not_true, not_false_iff, Classical.not_not, forall_const, iI_inj]
      refine ⟨fun c => by omega, fun c => ⟨fun z => (by first | exact z.elim | exact absurd rfl z | exact absurd z (by decide) | (exfalso; omega)), fun _ => ⟨by omega, ?_⟩⟩⟩
      rw [e3]
      refine ⟨_, _, sp_cell (by omega) hX (by omega), by omega, ?_⟩
      rw [iI_shr (z := sc L xs (3 + k % 3)) (s := 13 * ((k : Int) / 3)) (by omega) (by omega) (by omega) (by omega), hxd, iI_shr (z := x) (s := 5) (by omega) (by omega) (by omega) (by omega), show (5 : Int).toNat = 5 from rfl]
      simp (disch := omega) only [nl_0, nl_1, nl_2, nl_3, nl_4, nl_5, nl_6, nl_7, nl_8, nl_9, nl_10, nl_11, nl_12, nl_13, nl_14, nl_15, nl_16, nl_17, nl_18, nl_19, nl_20, nl_21, nl_22, nl_23, nl_24, nl_25, nl_26, nl_27, nl_28, nl_31, nl_32, nl_42, nl_44, nl_46, nl_48, nl_49, nl_50, nl_51, nl_60, nl_75, nl_76, nl_99, nl_100, nl_108, nl_114, nl_117, nl_126, nl_255, nl_999, nl_2401, nl_9999, nl_12345, nl_65536, nl_1000000, nl_1103515245, nl_2147483647, nl_30, nl_55, nl_107, nl_200, nl_512, nl_15485957, iI_0, iI_neg, iI_add, iI_sub, iI_mul, iI_div, iI_mod, iI_lt, iI_le, iI_eq, iI_nat, iI_vp, ld_rd, ld_wl, lu_s, lu_t, lu_c, lu_j, forall_eq, Int.toNat_natCast, true_and, and_true, not_true, not_false_iff, Classical.not_not, forall_const, iI_inj]
      refine ⟨by omega, fun z => absurd g z, fun _ => hend⟩
    · refine ⟨200, by omega, by omega, fun P R hP hQ hend => rg_L_lays_154 hP ⟨_, _, sp_clouds (by omega) hX, ?_⟩⟩
      simp (disch := omega) only [nl_0, nl_1, nl_2, nl_3, nl_4, nl_5, nl_6, nl_7, nl_8, nl_9, nl_10, nl_11, nl_12, nl_13, nl_14, nl_15, nl_16, nl_17, nl_18, nl_19, nl_20, nl_21, nl_22, nl_23, nl_24, nl_25, nl_26, nl_27, nl_28, nl_31, nl_32, nl_42, nl_44, nl_46, nl_48, nl_49, nl_50, nl_51, nl_60, nl_75, nl_76, nl_99, nl_100, nl_108, nl_114, nl_117, nl_126, nl_255, nl_999, nl_2401, nl_9999, nl_12345, nl_65536, nl_1000000, nl_1103515245, nl_2147483647, nl_30, nl_55, nl_107, nl_200, nl_512, nl_15485957, iI_0, iI_neg, iI_add, iI_sub, iI_mul, iI_div, iI_mod, iI_lt, iI_le, iI_eq, iI_nat, iI_vp, ld_rd, ld_wl, lu_s, lu_t, lu_c, lu_j, forall_eq, Int.toNat_natCast, true_and, and_true, not_true, not_false_iff, Classical.not_not, forall_const, iI_inj]
      refine ⟨fun c => by omega, fun c => ⟨fun z => (by first | exact z.elim | exact absurd rfl z | exact absurd z (by decide) | (exfalso; omega)), fun _ => ⟨by omega, ?_⟩⟩⟩
      rw [e3]
      refine ⟨_, _, sp_cell (by omega) hX (by omega), by omega, ?_⟩
      rw [iI_shr (z := sc L xs (3 + k % 3)) (s := 13 * ((k : Int) / 3)) (by omega) (by omega) (by omega) (by omega), hxd, iI_shr (z := x) (s := 5) (by omega) (by omega) (by omega) (by omega), show (5 : Int).toNat = 5 from rfl]
      simp (disch := omega) only [nl_0, nl_1, nl_2, nl_3, nl_4, nl_5, nl_6, nl_7, nl_8, nl_9, nl_10, nl_11, nl_12, nl_13, nl_14, nl_15, nl_16, nl_17, nl_18, nl_19, nl_20, nl_21, nl_22, nl_23, nl_24, nl_25, nl_26, nl_27, nl_28, nl_31, nl_32, nl_42, nl_44, nl_46, nl_48, nl_49, nl_50, nl_51, nl_60, nl_75, nl_76, nl_99, nl_100, nl_108, nl_114, nl_117, nl_126, nl_255, nl_999, nl_2401, nl_9999, nl_12345, nl_65536, nl_1000000, nl_1103515245, nl_2147483647, nl_30, nl_55, nl_107, nl_200, nl_512, nl_15485957, iI_0, iI_neg, iI_add, iI_sub, iI_mul, iI_div, iI_mod, iI_lt, iI_le, iI_eq, iI_nat, iI_vp, ld_rd, ld_wl, lu_s, lu_t, lu_c, lu_j, forall_eq, Int.toNat_natCast, true_and, and_true, not_true, not_false_iff, Classical.not_not, forall_const, iI_inj]
      refine ⟨by omega, fun _ => hend, fun z => absurd z g⟩
  have hm1 : 0 ≤ shr x 5 % q := Int.emod_nonneg _ (by omega)
  have hm2 : shr x 5 % q < q := Int.emod_lt_of_pos _ hq1
  generalize hM2 : mj_wl (mj_wl (mj_wl M (17, 73, 0, k) (iI (x % 25))) (17, 73, 0, 6 + k) (iI (1 + shr x 5 % q))) (17, 73, 0, 12 + k) (iI (shr x 10 % 4)) = M2
  have f2 : fr [17] M M2 := by
    rw [← hM2]
    exact ((fr.r0.wl (by decide)).wl (by decide)).wl (by decide)
  have r0 : M2 17 73 0 k = iI (x % 25) := by rw [← hM2, wl_n (by omega), wl_n (by omega), wl_s]
  have r6 : M2 17 73 0 (6 + k) = iI (1 + shr x 5 % q) := by rw [← hM2, wl_n (by omega), wl_s]
  have r12 : M2 17 73 0 (12 + k) = iI (shr x 10 % 4) := by rw [← hM2, wl_s]
  have rn : ∀ j, j ≠ k → j ≠ 6 + k → j ≠ 12 + k → M2 17 73 0 j = M 17 73 0 j := fun j h1 h2 h3 => by rw [← hM2, wl_n (by omega), wl_n (by omega), wl_n (by omega)]
  have hS2 : ST L xs M2 A n S F := hS.mo f2 (by decide)
  have es : s_cloud A (shr x 10 % 4) (x % 25) (1 + shr x 5 % q) = (A 0 0 0, ac A (shr x 10 % 4) (x % 25) (1 + shr x 5 % q)) := by
    unfold s_cloud
    rw [if_neg (by omega), if_neg (by omega)]
  have hcl := c_cloud (d := d) (by omega) (A := A) (M := M2) (k := shr x 10 % 4) (f := x % 25) (w := 1 + shr x 5 % q) (by unfold iR; omega) (by unfold iR; omega) (by unfold iR; omega) hS2.2.2.1.li
  rw [es] at hcl
  obtain ⟨M3, s3, f3, hS3⟩ := st_call hS2 (ac_LJ hS2.2.2.1 (by omega) (by omega) (by omega) (by omega)) hcl
  have g2 : Go mj_c68 d 222 [some (mj_r (13, 50, 0)), some (mj_r (41, 82, 0)), some (mj_r (17, 73, 0)), some (mj_i (iI 1)), some (mj_i (iI (k : Int))), some (mj_i (iI x)), none, none, none] [mj_i (iI q), mj_i (iI (shr x 5)), mj_i (iI 1), mj_i (iI (6 + (k : Int))), mj_r (17, 73, 0)] (mj_wl M (17, 73, 0, k) (iI (x % 25))) 154 [some (mj_r (13, 50, 0)), some (mj_r (41, 82, 0)), some (mj_r (17, 73, 0)), some (mj_i (iI 1)), some (mj_i (iI ((k + 1 : Nat) : Int))), some (mj_i (iI x)), none, none, none] [] M3 := fun P R hP hQ hend => rg_L_lays_222 hP (by
    rw [nl_10, iI_shr (z := x) (s := 10) (by omega) (by omega) (by omega) (by omega), show (10 : Int).toNat = 10 from rfl]
    simp (disch := omega) only [nl_0, nl_1, nl_2, nl_3, nl_4, nl_5, nl_6, nl_7, nl_8, nl_9, nl_10, nl_11, nl_12, nl_13, nl_14, nl_15, nl_16, nl_17, nl_18, nl_19, nl_20, nl_21, nl_22, nl_23, nl_24, nl_25, nl_26, nl_27, nl_28, nl_31, nl_32, nl_42, nl_44, nl_46, nl_48, nl_49, nl_50, nl_51, nl_60, nl_75, nl_76, nl_99, nl_100, nl_108, nl_114, nl_117, nl_126, nl_255, nl_999, nl_2401, nl_9999, nl_12345, nl_65536, nl_1000000, nl_1103515245, nl_2147483647, nl_30, nl_55, nl_107, nl_200, nl_512, nl_15485957, iI_0, iI_neg, iI_add, iI_sub, iI_mul, iI_div, iI_mod, iI_lt, iI_le, iI_eq, iI_nat, iI_vp, ld_rd, ld_wl, lu_s, lu_t, lu_c, lu_j, forall_eq, Int.toNat_natCast, true_and, and_true, not_true, not_false_iff, Classical.not_not, forall_const, iI_inj, e6, e12, hM2, r0, r6, r12]
    refine ⟨by omega, by omega, _, _, s3, ?_⟩
    simp (disch := omega) only [nl_0, nl_1, nl_2, nl_3, nl_4, nl_5, nl_6, nl_7, nl_8, nl_9, nl_10, nl_11, nl_12, nl_13, nl_14, nl_15, nl_16, nl_17, nl_18, nl_19, nl_20, nl_21, nl_22, nl_23, nl_24, nl_25, nl_26, nl_27, nl_28, nl_31, nl_32, nl_42, nl_44, nl_46, nl_48, nl_49, nl_50, nl_51, nl_60, nl_75, nl_76, nl_99, nl_100, nl_108, nl_114, nl_117, nl_126, nl_255, nl_999, nl_2401, nl_9999, nl_12345, nl_65536, nl_1000000, nl_1103515245, nl_2147483647, nl_30, nl_55, nl_107, nl_200, nl_512, nl_15485957, iI_0, iI_neg, iI_add, iI_sub, iI_mul, iI_div, iI_mod, iI_lt, iI_le, iI_eq, iI_nat, iI_vp, ld_rd, ld_wl, lu_s, lu_t, lu_c, lu_j, forall_eq, Int.toNat_natCast, true_and, and_true, not_true, not_false_iff, Classical.not_not, forall_const, iI_inj]
    refine ⟨fun z => by omega, fun _ => rg_L_lays_271 hP ?_⟩
    simp (disch := omega) only [nl_0, nl_1, nl_2, nl_3, nl_4, nl_5, nl_6, nl_7, nl_8, nl_9, nl_10, nl_11, nl_12, nl_13, nl_14, nl_15, nl_16, nl_17, nl_18, nl_19, nl_20, nl_21, nl_22, nl_23, nl_24, nl_25, nl_26, nl_27, nl_28, nl_31, nl_32, nl_42, nl_44, nl_46, nl_48, nl_49, nl_50, nl_51, nl_60, nl_75, nl_76, nl_99, nl_100, nl_108, nl_114, nl_117, nl_126, nl_255, nl_999, nl_2401, nl_9999, nl_12345, nl_65536, nl_1000000, nl_1103515245, nl_2147483647, nl_30, nl_55, nl_107, nl_200, nl_512, nl_15485957, iI_0, iI_neg, iI_add, iI_sub, iI_mul, iI_div, iI_mod, iI_lt, iI_le, iI_eq, iI_nat, iI_vp, ld_rd, ld_wl, lu_s, lu_t, lu_c, lu_j, forall_eq, Int.toNat_natCast, true_and, and_true, not_true, not_false_iff, Classical.not_not, forall_const, iI_inj, e1]
    exact hend)
  refine ⟨_, M3, g1.tr g2, ⟨_, rfl⟩, (f0.tr (f2.mo_ (by decide))).tr (f3.mo_ (by decide)), _, hS3, by rw [ac_nC hS.2.2.1.li]; omega, ?_, ?_, ?_⟩
  · unfold nV
    rw [ac_lo (by omega)]
    exact hv
  · intro j hj
    rw [ac_nC hS.2.2.1.li] at hj
    rw [f3 17 (by decide), ac_at.1, ac_at.2.1, ac_at.2.2]
    by_cases ej : j = nC A
    · have ek : j = k := by omega
      rw [if_pos ej, if_pos ej, if_pos ej, ek, r0, r6, r12]
      exact ⟨rfl, rfl, rfl, by omega, by omega, by omega⟩
    · rw [if_neg ej, if_neg ej, if_neg ej, rn j (by omega) (by omega) (by omega), rn (6 + j) (by omega) (by omega) (by omega), rn (12 + j) (by omega) (by omega) (by omega)]
      exact hK j (by omega)
  · refine ⟨fun f hf => by rw [ac_lo (by omega)]; exact hF.1 f hf, fun v hv => by rw [ac_lo (by omega)]; exact hF.2.1 v hv, by rw [ac_lo (by omega)]; exact hF.2.2.1, by rw [ac_lo (by omega)]; exact hF.2.2.2⟩
theorem ly_c {d : Nat} (hd : 6 ≤ d) {L : Nat} {xs : Nat → Int32} {n : Nat} {S F : Nat → Int} {M : mj_M} {A : lA} {o5 : Option mj_V} (hS : ST L xs M A n S F) (hc : nC A = 0) (hv : nV A = 0) (hF : FR A) : ∃ o5' M' A', Go mj_c68 d 154 [some (mj_r (13, 50, 0)), some (mj_r (41, 82, 0)), some (mj_r (17, 73, 0)), some (mj_i (iI 1)), some (mj_i (iI 0)), o5, none, none, none] [] M 281 [some (mj_r (13, 50, 0)), some (mj_r (41, 82, 0)), some (mj_r (17, 73, 0)), some (mj_i (iI 1)), some (mj_i (iI 0)), o5', none, none, none] [] M' ∧ fr [0, 17] M M' ∧ ST L xs M' A' n S F ∧ (nC A' : Int) = gN L xs ∧ nV A' = 0 ∧ KL A' M' ∧ FR A' := by
  have hN := gN_r L xs
  obtain ⟨ls, M1, g1, ⟨o5', rfl⟩, f1, A1, hS1, hc1, hv1, hK1, hF1⟩ := go_lp (d := d) (pc := 154) (n := (gN L xs).toNat) (I := LC L xs n S F M) (ly_c1 hd) (gN L xs).toNat 0 [some (mj_r (13, 50, 0)), some (mj_r (41, 82, 0)), some (mj_r (17, 73, 0)), some (mj_i (iI 1)), some (mj_i (iI ((0 : Nat) : Int))), o5, none, none, none] M (by omega) ⟨⟨o5, rfl⟩, fr.r0, A, hS, hc, hv, fun j hj => by omega, hF⟩
  refine ⟨o5', M1, A1, Go.tr g1 (fun P R hP hQ hend => rg_L_lays_154 hP ⟨_, _, sp_clouds (by omega) hS1.1, ?_⟩), f1, hS1, by omega, hv1, hK1, hF1⟩
  simp (disch := omega) only [nl_0, nl_1, nl_2, nl_3, nl_4, nl_5, nl_6, nl_7, nl_8, nl_9, nl_10, nl_11, nl_12, nl_13, nl_14, nl_15, nl_16, nl_17, nl_18, nl_19, nl_20, nl_21, nl_22, nl_23, nl_24, nl_25, nl_26, nl_27, nl_28, nl_31, nl_32, nl_42, nl_44, nl_46, nl_48, nl_49, nl_50, nl_51, nl_60, nl_75, nl_76, nl_99, nl_100, nl_108, nl_114, nl_117, nl_126, nl_255, nl_999, nl_2401, nl_9999, nl_12345, nl_65536, nl_1000000, nl_1103515245, nl_2147483647, nl_30, nl_55, nl_107, nl_200, nl_512, nl_15485957, iI_0, iI_neg, iI_add, iI_sub, iI_mul, iI_div, iI_mod, iI_lt, iI_le, iI_eq, iI_nat, iI_vp, ld_rd, ld_wl, lu_s, lu_t, lu_c, lu_j, forall_eq, Int.toNat_natCast, true_and, and_true, not_true, not_false_iff, Classical.not_not, forall_const, iI_inj]
  exact ⟨fun _ => rg_L_lays_278 hP hend, fun c => by omega⟩
