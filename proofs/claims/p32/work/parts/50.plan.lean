/-! contracts: the table, the row, the plan -/
/-- the table's rows from c on are known -/
def MI (N0 : mj_M) (g : Nat → Nat → Int) (has : Nat) (N : mj_M) (c k : Nat) : Prop := fr [11] N0 N ∧ (∀ c' s', N 11 24 c' s' = N0 11 24 c' s') ∧ (∀ c', c < c' → c' ≤ 6 → ∀ k', k' ≤ has → N 11 26 c' k' = iI (mo g c' k')) ∧ (∀ j, N 11 26 6 j = N0 11 26 6 j) ∧ ∀ k', k' < k → N 11 26 c k' = iI (mo g c k')
theorem MI.wr {N0 N : mj_M} {g : Nat → Nat → Int} {has c k : Nat} (h : MI N0 g has N c k) (hc : c < 6) {x : Int32} : MI N0 g has (mj_wl N (11, 26, c, k) x) c k := by
  refine ⟨h.1.wl (by decide), fun c' s' => by rw [wl_n (by omega)]; exact h.2.1 c' s', fun c' h1 h2 k' hk' => by rw [wl_n (by omega)]; exact h.2.2.1 c' h1 h2 k' hk', fun j => by rw [wl_n (by omega)]; exact h.2.2.2.1 j, fun k' hk' => by rw [wl_n (by omega)]; exact h.2.2.2.2 k' hk'⟩
theorem sp_learnMost {has : Nat} {g : Nat → Nat → Int} {N0 : mj_M} (hs : has ≤ 9) (hg : ∀ c s, c < 6 → s ≤ has → N0 11 24 c s = iI (g c s)) (hz : ∀ j, j < 10 → N0 11 26 6 j = 0) (hr : ∀ c s, c < 6 → -1000000 ≤ g c s ∧ g c s ≤ 60) : ∃ N', (∀ d, 2 ≤ d → mj_Sp d 50 [mj_r (11, 21, 0), mj_i (iI (has : Int))] N0 none N') ∧ fr [11] N0 N' ∧ (∀ c' s', N' 11 24 c' s' = N0 11 24 c' s') ∧ (∀ j, N' 11 26 6 j = N0 11 26 6 j) ∧ ∀ c, c < 6 → ∀ k, k ≤ has → N' 11 26 c k = iI (mo g c k) := by
  have outer : ∀ j : Nat, j ≤ 6 → ∀ N o3 o4, fr [11] N0 N ∧ (∀ c' s', N 11 24 c' s' = N0 11 24 c' s') ∧ (∀ c', 6 - j ≤ c' → c' ≤ 6 → ∀ k', k' ≤ has → N 11 26 c' k' = iI (mo g c' k')) ∧ (∀ j, N 11 26 6 j = N0 11 26 6 j) → ∃ N', (fr [11] N0 N' ∧ (∀ c' s', N' 11 24 c' s' = N0 11 24 c' s') ∧ (∀ j, N' 11 26 6 j = N0 11 26 6 j) ∧ ∀ c, c < 6 → ∀ k, k ≤ has → N' 11 26 c k = iI (mo g c k)) ∧ Rn mj_c50 1 2 [some (mj_r (11, 21, 0)), some (mj_i (iI (has : Int))), some (mj_i (iI (5 - (j : Int)))), o3, o4] N none N' := by
    refine lp_dn (Q := fun j => ∀ N o3 o4, fr [11] N0 N ∧ (∀ c' s', N 11 24 c' s' = N0 11 24 c' s') ∧ (∀ c', 6 - j ≤ c' → c' ≤ 6 → ∀ k', k' ≤ has → N 11 26 c' k' = iI (mo g c' k')) ∧ (∀ j, N 11 26 6 j = N0 11 26 6 j) → ∃ N', (fr [11] N0 N' ∧ (∀ c' s', N' 11 24 c' s' = N0 11 24 c' s') ∧ (∀ j, N' 11 26 6 j = N0 11 26 6 j) ∧ ∀ c, c < 6 → ∀ k, k ≤ has → N' 11 26 c k = iI (mo g c k)) ∧ Rn mj_c50 1 2 [some (mj_r (11, 21, 0)), some (mj_i (iI (has : Int))), some (mj_i (iI (5 - (j : Int)))), o3, o4] N none N') (n := 6) (fun N o3 o4 hN => ?_) (fun j hj ih N o3 o4 hN => ?_)
    · refine ⟨N, ⟨hN.1, hN.2.1, hN.2.2.2, fun c hc k hk => hN.2.2.1 c (by omega) (by omega) k hk⟩, fun e he P hP hQ => rg_Su_learnMost_2 hP ⟨fun z => by (first | exact mj_eq.rf | exact fi_n mj_eq.rf | exact fi_i rfl mj_eq.rf | exact rfl), fun z => ?_⟩⟩
      simp (disch := omega) only [nl_0, nl_1, nl_2, nl_3, nl_4, nl_5, nl_6, nl_7, nl_8, nl_9, nl_10, nl_11, nl_12, nl_13, nl_14, nl_15, nl_16, nl_17, nl_18, nl_19, nl_20, nl_21, nl_22, nl_23, nl_24, nl_25, nl_26, nl_27, nl_28, nl_31, nl_32, nl_42, nl_44, nl_46, nl_48, nl_49, nl_50, nl_51, nl_60, nl_75, nl_76, nl_99, nl_100, nl_108, nl_114, nl_117, nl_126, nl_255, nl_999, nl_2401, nl_9999, nl_12345, nl_65536, nl_1000000, nl_1103515245, nl_2147483647, iI_0, iI_neg, iI_add, iI_sub, iI_mul, iI_div, iI_mod, iI_lt, iI_le, iI_eq, iI_nat, iI_vp, ld_rd, ld_wl, lu_s, lu_t, lu_c, lu_j, forall_eq, Int.toNat_natCast, true_and, and_true, not_true, not_false_iff, Classical.not_not, forall_const, iI_inj] at z
      omega
    · obtain ⟨c, hc, ec⟩ : ∃ c : Nat, c < 6 ∧ j = 5 - c := ⟨5 - j, by omega, by omega⟩
      have ec2 : (5 : Int) - (j : Int) = (c : Int) := by omega
      have ec3 : (5 : Int) - ((j + 1 : Nat) : Int) = (c : Int) - 1 := by omega
      rw [ec2]
      rw [ec3] at ih
      have mid : ∀ k, k ≤ has + 1 → ∀ N o4, MI N0 g has N c k → ∃ N', (fr [11] N0 N' ∧ (∀ c' s', N' 11 24 c' s' = N0 11 24 c' s') ∧ (∀ j, N' 11 26 6 j = N0 11 26 6 j) ∧ ∀ c, c < 6 → ∀ k, k ≤ has → N' 11 26 c k = iI (mo g c k)) ∧ Rn mj_c50 1 8 [some (mj_r (11, 21, 0)), some (mj_i (iI (has : Int))), some (mj_i (iI (c : Int))), some (mj_i (iI (k : Int))), o4] N none N' := by
        refine lp_dn (Q := fun k => ∀ N o4, MI N0 g has N c k → ∃ N', (fr [11] N0 N' ∧ (∀ c' s', N' 11 24 c' s' = N0 11 24 c' s') ∧ (∀ j, N' 11 26 6 j = N0 11 26 6 j) ∧ ∀ c, c < 6 → ∀ k, k ≤ has → N' 11 26 c k = iI (mo g c k)) ∧ Rn mj_c50 1 8 [some (mj_r (11, 21, 0)), some (mj_i (iI (has : Int))), some (mj_i (iI (c : Int))), some (mj_i (iI (k : Int))), o4] N none N') (n := has + 1) (fun N o4 hM => ?_) (fun k hk ih2 N o4 hM => ?_)
        · obtain ⟨N', hG, hR⟩ := ih N (some (mj_i (iI ((has + 1 : Nat) : Int)))) o4 ⟨hM.1, hM.2.1, fun c' h1 h2 k' hk' => by
            by_cases e : c' = c
            · subst e; exact hM.2.2.2.2 k' (by omega)
            · exact hM.2.2.1 c' (by omega) h2 k' hk', hM.2.2.2.1⟩
          refine ⟨N', hG, fun e he P hP hQ => rg_Su_learnMost_8 hP ⟨fun z => ?_, fun z => ?_⟩⟩
          · simp (disch := omega) only [nl_0, nl_1, nl_2, nl_3, nl_4, nl_5, nl_6, nl_7, nl_8, nl_9, nl_10, nl_11, nl_12, nl_13, nl_14, nl_15, nl_16, nl_17, nl_18, nl_19, nl_20, nl_21, nl_22, nl_23, nl_24, nl_25, nl_26, nl_27, nl_28, nl_31, nl_32, nl_42, nl_44, nl_46, nl_48, nl_49, nl_50, nl_51, nl_60, nl_75, nl_76, nl_99, nl_100, nl_108, nl_114, nl_117, nl_126, nl_255, nl_999, nl_2401, nl_9999, nl_12345, nl_65536, nl_1000000, nl_1103515245, nl_2147483647, iI_0, iI_neg, iI_add, iI_sub, iI_mul, iI_div, iI_mod, iI_lt, iI_le, iI_eq, iI_nat, iI_vp, ld_rd, ld_wl, lu_s, lu_t, lu_c, lu_j, forall_eq, Int.toNat_natCast, true_and, and_true, not_true, not_false_iff, Classical.not_not, forall_const, iI_inj]
            exact hR e he P hP hQ
          · simp (disch := omega) only [nl_0, nl_1, nl_2, nl_3, nl_4, nl_5, nl_6, nl_7, nl_8, nl_9, nl_10, nl_11, nl_12, nl_13, nl_14, nl_15, nl_16, nl_17, nl_18, nl_19, nl_20, nl_21, nl_22, nl_23, nl_24, nl_25, nl_26, nl_27, nl_28, nl_31, nl_32, nl_42, nl_44, nl_46, nl_48, nl_49, nl_50, nl_51, nl_60, nl_75, nl_76, nl_99, nl_100, nl_108, nl_114, nl_117, nl_126, nl_255, nl_999, nl_2401, nl_9999, nl_12345, nl_65536, nl_1000000, nl_1103515245, nl_2147483647, iI_0, iI_neg, iI_add, iI_sub, iI_mul, iI_div, iI_mod, iI_lt, iI_le, iI_eq, iI_nat, iI_vp, ld_rd, ld_wl, lu_s, lu_t, lu_c, lu_j, forall_eq, Int.toNat_natCast, true_and, and_true, not_true, not_false_iff, Classical.not_not, forall_const, iI_inj] at z
            omega
        · have em : mo g c k = mxs (fun s => g c s + mo g (c + 1) (k - s)) (k + 1) := mo_s hc
          have inner : ∀ s, s ≤ k + 1 → ∀ N, MI N0 g has N c k → N 11 26 c k = iI (mxs (fun s => g c s + mo g (c + 1) (k - s)) s) → ∃ N', (fr [11] N0 N' ∧ (∀ c' s', N' 11 24 c' s' = N0 11 24 c' s') ∧ (∀ j, N' 11 26 6 j = N0 11 26 6 j) ∧ ∀ c, c < 6 → ∀ k, k ≤ has → N' 11 26 c k = iI (mo g c k)) ∧ Rn mj_c50 1 26 [some (mj_r (11, 21, 0)), some (mj_i (iI (has : Int))), some (mj_i (iI (c : Int))), some (mj_i (iI (k : Int))), some (mj_i (iI (s : Int)))] N none N' := by
            refine lp_dn (Q := fun s => ∀ N, MI N0 g has N c k → N 11 26 c k = iI (mxs (fun s => g c s + mo g (c + 1) (k - s)) s) → ∃ N', (fr [11] N0 N' ∧ (∀ c' s', N' 11 24 c' s' = N0 11 24 c' s') ∧ (∀ j, N' 11 26 6 j = N0 11 26 6 j) ∧ ∀ c, c < 6 → ∀ k, k ≤ has → N' 11 26 c k = iI (mo g c k)) ∧ Rn mj_c50 1 26 [some (mj_r (11, 21, 0)), some (mj_i (iI (has : Int))), some (mj_i (iI (c : Int))), some (mj_i (iI (k : Int))), some (mj_i (iI (s : Int)))] N none N') (n := k + 1) (fun N hM hv => ?_) (fun s hs ih3 N hM hv => ?_)
            · obtain ⟨N', hG, hR⟩ := ih2 N (some (mj_i (iI ((k + 1 : Nat) : Int)))) ⟨hM.1, hM.2.1, hM.2.2.1, hM.2.2.2.1, fun k' hk' => by
                by_cases e : k' = k
                · subst e; rw [em]; exact hv
                · exact hM.2.2.2.2 k' (by omega)⟩
              refine ⟨N', hG, fun e he P hP hQ => rg_Su_learnMost_26 hP ⟨fun z => ?_, fun z => ?_⟩⟩
              · simp (disch := omega) only [nl_0, nl_1, nl_2, nl_3, nl_4, nl_5, nl_6, nl_7, nl_8, nl_9, nl_10, nl_11, nl_12, nl_13, nl_14, nl_15, nl_16, nl_17, nl_18, nl_19, nl_20, nl_21, nl_22, nl_23, nl_24, nl_25, nl_26, nl_27, nl_28, nl_31, nl_32, nl_42, nl_44, nl_46, nl_48, nl_49, nl_50, nl_51, nl_60, nl_75, nl_76, nl_99, nl_100, nl_108, nl_114, nl_117, nl_126, nl_255, nl_999, nl_2401, nl_9999, nl_12345, nl_65536, nl_1000000, nl_1103515245, nl_2147483647, iI_0, iI_neg, iI_add, iI_sub, iI_mul, iI_div, iI_mod, iI_lt, iI_le, iI_eq, iI_nat, iI_vp, ld_rd, ld_wl, lu_s, lu_t, lu_c, lu_j, forall_eq, Int.toNat_natCast, true_and, and_true, not_true, not_false_iff, Classical.not_not, forall_const, iI_inj]
                exact hR e he P hP hQ
              · simp (disch := omega) only [nl_0, nl_1, nl_2, nl_3, nl_4, nl_5, nl_6, nl_7, nl_8, nl_9, nl_10, nl_11, nl_12, nl_13, nl_14, nl_15, nl_16, nl_17, nl_18, nl_19, nl_20, nl_21, nl_22, nl_23, nl_24, nl_25, nl_26, nl_27, nl_28, nl_31, nl_32, nl_42, nl_44, nl_46, nl_48, nl_49, nl_50, nl_51, nl_60, nl_75, nl_76, nl_99, nl_100, nl_108, nl_114, nl_117, nl_126, nl_255, nl_999, nl_2401, nl_9999, nl_12345, nl_65536, nl_1000000, nl_1103515245, nl_2147483647, iI_0, iI_neg, iI_add, iI_sub, iI_mul, iI_div, iI_mod, iI_lt, iI_le, iI_eq, iI_nat, iI_vp, ld_rd, ld_wl, lu_s, lu_t, lu_c, lu_j, forall_eq, Int.toNat_natCast, true_and, and_true, not_true, not_false_iff, Classical.not_not, forall_const, iI_inj] at z
                omega
            · have r1 : N 11 24 c s = iI (g c s) := by rw [hM.2.1]; exact hg c s hc (by omega)
              have r2 : N 11 26 (c + 1) (k - s) = iI (mo g (c + 1) (k - s)) := hM.2.2.1 (c + 1) (by omega) (by omega) (k - s) (by omega)
              have t1 : ((c : Int) + 1).toNat = c + 1 := by omega
              have t2 : ((k : Int) - (s : Int)).toNat = k - s := by omega
              have b1 := hr c s hc
              have b2 := mo_r (g := g) (fun c s hc => (hr c s hc).2) (6 - (c + 1)) (c + 1) (k - s) (by omega)
              have b3 := mxs_r (f := fun s => g c s + mo g (c + 1) (k - s)) (b := 420) (by decide) s (fun s' hs' => by
                have := (hr c s' hc).2
                have := (mo_r (g := g) (fun c s hc => (hr c s hc).2) (6 - (c + 1)) (c + 1) (k - s') (by omega)).2
                show g c s' + mo g (c + 1) (k - s') ≤ 420
                omega)
              have e3 : mxs (fun s => g c s + mo g (c + 1) (k - s)) (s + 1) = if mxs (fun s => g c s + mo g (c + 1) (k - s)) s < g c s + mo g (c + 1) (k - s) then g c s + mo g (c + 1) (k - s) else mxs (fun s => g c s + mo g (c + 1) (k - s)) s := rfl
              obtain ⟨N', hG, hR⟩ := ih3 (mj_wl N (11, 26, c, k) (iI (mxs (fun s => g c s + mo g (c + 1) (k - s)) (s + 1)))) (hM.wr hc) wl_s
              refine ⟨N', hG, fun e he P hP hQ => rg_Su_learnMost_26 hP ⟨fun z => ?_, fun z => ?_⟩⟩
              · simp (disch := omega) only [nl_0, nl_1, nl_2, nl_3, nl_4, nl_5, nl_6, nl_7, nl_8, nl_9, nl_10, nl_11, nl_12, nl_13, nl_14, nl_15, nl_16, nl_17, nl_18, nl_19, nl_20, nl_21, nl_22, nl_23, nl_24, nl_25, nl_26, nl_27, nl_28, nl_31, nl_32, nl_42, nl_44, nl_46, nl_48, nl_49, nl_50, nl_51, nl_60, nl_75, nl_76, nl_99, nl_100, nl_108, nl_114, nl_117, nl_126, nl_255, nl_999, nl_2401, nl_9999, nl_12345, nl_65536, nl_1000000, nl_1103515245, nl_2147483647, iI_0, iI_neg, iI_add, iI_sub, iI_mul, iI_div, iI_mod, iI_lt, iI_le, iI_eq, iI_nat, iI_vp, ld_rd, ld_wl, lu_s, lu_t, lu_c, lu_j, forall_eq, Int.toNat_natCast, true_and, and_true, not_true, not_false_iff, Classical.not_not, forall_const, iI_inj] at z
                omega
              · simp (disch := omega) only [nl_0, nl_1, nl_2, nl_3, nl_4, nl_5, nl_6, nl_7, nl_8, nl_9, nl_10, nl_11, nl_12, nl_13, nl_14, nl_15, nl_16, nl_17, nl_18, nl_19, nl_20, nl_21, nl_22, nl_23, nl_24, nl_25, nl_26, nl_27, nl_28, nl_31, nl_32, nl_42, nl_44, nl_46, nl_48, nl_49, nl_50, nl_51, nl_60, nl_75, nl_76, nl_99, nl_100, nl_108, nl_114, nl_117, nl_126, nl_255, nl_999, nl_2401, nl_9999, nl_12345, nl_65536, nl_1000000, nl_1103515245, nl_2147483647, iI_0, iI_neg, iI_add, iI_sub, iI_mul, iI_div, iI_mod, iI_lt, iI_le, iI_eq, iI_nat, iI_vp, ld_rd, ld_wl, lu_s, lu_t, lu_c, lu_j, forall_eq, Int.toNat_natCast, true_and, and_true, not_true, not_false_iff, Classical.not_not, forall_const, iI_inj, t1, t2, r1, r2, hv, iI_if, ← e3]
                exact ⟨by omega, hR e he P hP hQ⟩
          obtain ⟨N', hG, hR⟩ := inner 0 (by omega) (mj_wl N (11, 26, c, k) (iI (-1000000))) (hM.wr hc) wl_s
          refine ⟨N', hG, fun e he P hP hQ => rg_Su_learnMost_8 hP ⟨fun z => ?_, fun z => ?_⟩⟩
          · simp (disch := omega) only [nl_0, nl_1, nl_2, nl_3, nl_4, nl_5, nl_6, nl_7, nl_8, nl_9, nl_10, nl_11, nl_12, nl_13, nl_14, nl_15, nl_16, nl_17, nl_18, nl_19, nl_20, nl_21, nl_22, nl_23, nl_24, nl_25, nl_26, nl_27, nl_28, nl_31, nl_32, nl_42, nl_44, nl_46, nl_48, nl_49, nl_50, nl_51, nl_60, nl_75, nl_76, nl_99, nl_100, nl_108, nl_114, nl_117, nl_126, nl_255, nl_999, nl_2401, nl_9999, nl_12345, nl_65536, nl_1000000, nl_1103515245, nl_2147483647, iI_0, iI_neg, iI_add, iI_sub, iI_mul, iI_div, iI_mod, iI_lt, iI_le, iI_eq, iI_nat, iI_vp, ld_rd, ld_wl, lu_s, lu_t, lu_c, lu_j, forall_eq, Int.toNat_natCast, true_and, and_true, not_true, not_false_iff, Classical.not_not, forall_const, iI_inj] at z
            omega
          · simp (disch := omega) only [nl_0, nl_1, nl_2, nl_3, nl_4, nl_5, nl_6, nl_7, nl_8, nl_9, nl_10, nl_11, nl_12, nl_13, nl_14, nl_15, nl_16, nl_17, nl_18, nl_19, nl_20, nl_21, nl_22, nl_23, nl_24, nl_25, nl_26, nl_27, nl_28, nl_31, nl_32, nl_42, nl_44, nl_46, nl_48, nl_49, nl_50, nl_51, nl_60, nl_75, nl_76, nl_99, nl_100, nl_108, nl_114, nl_117, nl_126, nl_255, nl_999, nl_2401, nl_9999, nl_12345, nl_65536, nl_1000000, nl_1103515245, nl_2147483647, iI_0, iI_neg, iI_add, iI_sub, iI_mul, iI_div, iI_mod, iI_lt, iI_le, iI_eq, iI_nat, iI_vp, ld_rd, ld_wl, lu_s, lu_t, lu_c, lu_j, forall_eq, Int.toNat_natCast, true_and, and_true, not_true, not_false_iff, Classical.not_not, forall_const, iI_inj]
            exact hR e he P hP hQ
      obtain ⟨N', hG, hR⟩ := mid 0 (by omega) N o4 ⟨hN.1, hN.2.1, fun c' h1 h2 k' hk' => hN.2.2.1 c' (by omega) h2 k' hk', hN.2.2.2, fun k' hk' => absurd hk' (Nat.not_lt_zero k')⟩
      refine ⟨N', hG, fun e he P hP hQ => rg_Su_learnMost_2 hP ⟨fun z => ?_, fun z => ?_⟩⟩
      · simp (disch := omega) only [nl_0, nl_1, nl_2, nl_3, nl_4, nl_5, nl_6, nl_7, nl_8, nl_9, nl_10, nl_11, nl_12, nl_13, nl_14, nl_15, nl_16, nl_17, nl_18, nl_19, nl_20, nl_21, nl_22, nl_23, nl_24, nl_25, nl_26, nl_27, nl_28, nl_31, nl_32, nl_42, nl_44, nl_46, nl_48, nl_49, nl_50, nl_51, nl_60, nl_75, nl_76, nl_99, nl_100, nl_108, nl_114, nl_117, nl_126, nl_255, nl_999, nl_2401, nl_9999, nl_12345, nl_65536, nl_1000000, nl_1103515245, nl_2147483647, iI_0, iI_neg, iI_add, iI_sub, iI_mul, iI_div, iI_mod, iI_lt, iI_le, iI_eq, iI_nat, iI_vp, ld_rd, ld_wl, lu_s, lu_t, lu_c, lu_j, forall_eq, Int.toNat_natCast, true_and, and_true, not_true, not_false_iff, Classical.not_not, forall_const, iI_inj] at z
        omega
      · simp (disch := omega) only [nl_0, nl_1, nl_2, nl_3, nl_4, nl_5, nl_6, nl_7, nl_8, nl_9, nl_10, nl_11, nl_12, nl_13, nl_14, nl_15, nl_16, nl_17, nl_18, nl_19, nl_20, nl_21, nl_22, nl_23, nl_24, nl_25, nl_26, nl_27, nl_28, nl_31, nl_32, nl_42, nl_44, nl_46, nl_48, nl_49, nl_50, nl_51, nl_60, nl_75, nl_76, nl_99, nl_100, nl_108, nl_114, nl_117, nl_126, nl_255, nl_999, nl_2401, nl_9999, nl_12345, nl_65536, nl_1000000, nl_1103515245, nl_2147483647, iI_0, iI_neg, iI_add, iI_sub, iI_mul, iI_div, iI_mod, iI_lt, iI_le, iI_eq, iI_nat, iI_vp, ld_rd, ld_wl, lu_s, lu_t, lu_c, lu_j, forall_eq, Int.toNat_natCast, true_and, and_true, not_true, not_false_iff, Classical.not_not, forall_const, iI_inj]
        exact hR e he P hP hQ
  obtain ⟨N', hG, hR⟩ := outer 0 (by decide) N0 none none ⟨fr.r0, fun _ _ => rfl, fun c' h1 h2 k' hk' => by
    have : c' = 6 := by omega
    subst this
    rw [hz k' (by omega), mo_6]
    rfl, fun _ => rfl⟩
  exact ⟨N', fun d hd => en_Su_learnMost (k := 1) hd fun e he P hP hQ => rg_Su_learnMost_0 hP (hR e he P hP hQ), hG⟩
/-- what the row and the table rest on -/
def TB (N : mj_M) (g : Nat → Nat → Int) (has : Nat) : Prop := (∀ c s, c < 6 → s ≤ has → N 11 24 c s = iI (g c s)) ∧ ∀ c, c ≤ 6 → ∀ k, k ≤ has → N 11 26 c k = iI (mo g c k)
theorem sp_fewestOn {has c left : Nat} {g : Nat → Nat → Int} {N : mj_M} {miss : Int} (hN : TB N g has) (hc : c < 6) (hl : left ≤ has) (h9 : has ≤ 9) (hr : ∀ c s, c < 6 → -1000000 ≤ g c s ∧ g c s ≤ 60) (hm : -100000000 ≤ miss ∧ miss ≤ 100000000) : ∃ s : Nat, s ≤ left ∧ (∀ s' : Nat, s' < s → g c s' + mo g (c + 1) (left - s') < miss) ∧ (s < left → miss ≤ g c s + mo g (c + 1) (left - s)) ∧ ∀ d, 1 ≤ d → mj_Sp d 52 [mj_r (11, 21, 0), mj_i (iI (c : Int)), mj_i (iI (left : Int)), mj_i (iI miss)] N (some (mj_i (iI (s : Int)))) N := by
  have key : ∀ s, s ≤ left → (∀ s' : Nat, s' < s → g c s' + mo g (c + 1) (left - s') < miss) → ∃ t : Nat, t ≤ left ∧ (∀ s' : Nat, s' < t → g c s' + mo g (c + 1) (left - s') < miss) ∧ (t < left → miss ≤ g c t + mo g (c + 1) (left - t)) ∧ Rn mj_c52 0 3 [some (mj_r (11, 21, 0)), some (mj_i (iI (c : Int))), some (mj_i (iI (left : Int))), some (mj_i (iI miss)), some (mj_i (iI (s : Int)))] N (some (mj_i (iI (t : Int)))) N := by
    refine lp_dn (Q := fun s => (∀ s' : Nat, s' < s → g c s' + mo g (c + 1) (left - s') < miss) → ∃ t : Nat, t ≤ left ∧ (∀ s' : Nat, s' < t → g c s' + mo g (c + 1) (left - s') < miss) ∧ (t < left → miss ≤ g c t + mo g (c + 1) (left - t)) ∧ Rn mj_c52 0 3 [some (mj_r (11, 21, 0)), some (mj_i (iI (c : Int))), some (mj_i (iI (left : Int))), some (mj_i (iI miss)), some (mj_i (iI (s : Int)))] N (some (mj_i (iI (t : Int)))) N) (n := left) (fun hs => ?_) (fun s hs ih hs2 => ?_)
    · refine ⟨left, Nat.le_refl _, hs, fun h => absurd h (Nat.lt_irrefl _), fun e he P hP hQ => rg_Su_fewestOn_3 hP ⟨fun z => by (first | exact mj_eq.rf | exact fi_n mj_eq.rf | exact fi_i rfl mj_eq.rf | exact rfl), fun z => ?_⟩⟩
      simp (disch := omega) only [nl_0, nl_1, nl_2, nl_3, nl_4, nl_5, nl_6, nl_7, nl_8, nl_9, nl_10, nl_11, nl_12, nl_13, nl_14, nl_15, nl_16, nl_17, nl_18, nl_19, nl_20, nl_21, nl_22, nl_23, nl_24, nl_25, nl_26, nl_27, nl_28, nl_31, nl_32, nl_42, nl_44, nl_46, nl_48, nl_49, nl_50, nl_51, nl_60, nl_75, nl_76, nl_99, nl_100, nl_108, nl_114, nl_117, nl_126, nl_255, nl_999, nl_2401, nl_9999, nl_12345, nl_65536, nl_1000000, nl_1103515245, nl_2147483647, iI_0, iI_neg, iI_add, iI_sub, iI_mul, iI_div, iI_mod, iI_lt, iI_le, iI_eq, iI_nat, iI_vp, ld_rd, ld_wl, lu_s, lu_t, lu_c, lu_j, forall_eq, Int.toNat_natCast, true_and, and_true, not_true, not_false_iff, Classical.not_not, forall_const, iI_inj] at z
      omega
    · have r1 : N 11 24 c s = iI (g c s) := hN.1 c s hc (by omega)
      have r2 : N 11 26 (c + 1) (left - s) = iI (mo g (c + 1) (left - s)) := hN.2 (c + 1) (by omega) (left - s) (by omega)
      have t1 : ((c : Int) + 1).toNat = c + 1 := by omega
      have t2 : ((left : Int) - (s : Int)).toNat = left - s := by omega
      have b1 := hr c s hc
      have b2 := mo_r (g := g) (fun c s hc => (hr c s hc).2) (6 - (c + 1)) (c + 1) (left - s) (by omega)
      by_cases g1 : miss ≤ g c s + mo g (c + 1) (left - s)
      · refine ⟨s, by omega, hs2, fun _ => g1, fun e he P hP hQ => rg_Su_fewestOn_3 hP ⟨fun z => ?_, fun z => ?_⟩⟩
        · simp (disch := omega) only [nl_0, nl_1, nl_2, nl_3, nl_4, nl_5, nl_6, nl_7, nl_8, nl_9, nl_10, nl_11, nl_12, nl_13, nl_14, nl_15, nl_16, nl_17, nl_18, nl_19, nl_20, nl_21, nl_22, nl_23, nl_24, nl_25, nl_26, nl_27, nl_28, nl_31, nl_32, nl_42, nl_44, nl_46, nl_48, nl_49, nl_50, nl_51, nl_60, nl_75, nl_76, nl_99, nl_100, nl_108, nl_114, nl_117, nl_126, nl_255, nl_999, nl_2401, nl_9999, nl_12345, nl_65536, nl_1000000, nl_1103515245, nl_2147483647, iI_0, iI_neg, iI_add, iI_sub, iI_mul, iI_div, iI_mod, iI_lt, iI_le, iI_eq, iI_nat, iI_vp, ld_rd, ld_wl, lu_s, lu_t, lu_c, lu_j, forall_eq, Int.toNat_natCast, true_and, and_true, not_true, not_false_iff, Classical.not_not, forall_const, iI_inj] at z
          omega
        · simp (disch := omega) only [nl_0, nl_1, nl_2, nl_3, nl_4, nl_5, nl_6, nl_7, nl_8, nl_9, nl_10, nl_11, nl_12, nl_13, nl_14, nl_15, nl_16, nl_17, nl_18, nl_19, nl_20, nl_21, nl_22, nl_23, nl_24, nl_25, nl_26, nl_27, nl_28, nl_31, nl_32, nl_42, nl_44, nl_46, nl_48, nl_49, nl_50, nl_51, nl_60, nl_75, nl_76, nl_99, nl_100, nl_108, nl_114, nl_117, nl_126, nl_255, nl_999, nl_2401, nl_9999, nl_12345, nl_65536, nl_1000000, nl_1103515245, nl_2147483647, iI_0, iI_neg, iI_add, iI_sub, iI_mul, iI_div, iI_mod, iI_lt, iI_le, iI_eq, iI_nat, iI_vp, ld_rd, ld_wl, lu_s, lu_t, lu_c, lu_j, forall_eq, Int.toNat_natCast, true_and, and_true, not_true, not_false_iff, Classical.not_not, forall_const, iI_inj, t1, t2, r1, r2]
          exact ⟨fun z => by omega, fun z => by (first | exact mj_eq.rf | exact fi_n mj_eq.rf | exact fi_i rfl mj_eq.rf | exact rfl)⟩
      · obtain ⟨t, h1, h2, h3, hR⟩ := ih fun s' hs' => by
          by_cases e : s' = s
          · subst e; omega
          · exact hs2 s' (by omega)
        refine ⟨t, h1, h2, h3, fun e he P hP hQ => rg_Su_fewestOn_3 hP ⟨fun z => ?_, fun z => ?_⟩⟩
        · simp (disch := omega) only [nl_0, nl_1, nl_2, nl_3, nl_4, nl_5, nl_6, nl_7, nl_8, nl_9, nl_10, nl_11, nl_12, nl_13, nl_14, nl_15, nl_16, nl_17, nl_18, nl_19, nl_20, nl_21, nl_22, nl_23, nl_24, nl_25, nl_26, nl_27, nl_28, nl_31, nl_32, nl_42, nl_44, nl_46, nl_48, nl_49, nl_50, nl_51, nl_60, nl_75, nl_76, nl_99, nl_100, nl_108, nl_114, nl_117, nl_126, nl_255, nl_999, nl_2401, nl_9999, nl_12345, nl_65536, nl_1000000, nl_1103515245, nl_2147483647, iI_0, iI_neg, iI_add, iI_sub, iI_mul, iI_div, iI_mod, iI_lt, iI_le, iI_eq, iI_nat, iI_vp, ld_rd, ld_wl, lu_s, lu_t, lu_c, lu_j, forall_eq, Int.toNat_natCast, true_and, and_true, not_true, not_false_iff, Classical.not_not, forall_const, iI_inj] at z
          omega
        · simp (disch := omega) only [nl_0, nl_1, nl_2, nl_3, nl_4, nl_5, nl_6, nl_7, nl_8, nl_9, nl_10, nl_11, nl_12, nl_13, nl_14, nl_15, nl_16, nl_17, nl_18, nl_19, nl_20, nl_21, nl_22, nl_23, nl_24, nl_25, nl_26, nl_27, nl_28, nl_31, nl_32, nl_42, nl_44, nl_46, nl_48, nl_49, nl_50, nl_51, nl_60, nl_75, nl_76, nl_99, nl_100, nl_108, nl_114, nl_117, nl_126, nl_255, nl_999, nl_2401, nl_9999, nl_12345, nl_65536, nl_1000000, nl_1103515245, nl_2147483647, iI_0, iI_neg, iI_add, iI_sub, iI_mul, iI_div, iI_mod, iI_lt, iI_le, iI_eq, iI_nat, iI_vp, ld_rd, ld_wl, lu_s, lu_t, lu_c, lu_j, forall_eq, Int.toNat_natCast, true_and, and_true, not_true, not_false_iff, Classical.not_not, forall_const, iI_inj, t1, t2, r1, r2]
          exact ⟨fun z => hR e he P hP hQ, fun z => by omega⟩
  obtain ⟨t, h1, h2, h3, hR⟩ := key 0 (Nat.zero_le _) (fun s' h => absurd h (Nat.not_lt_zero s'))
  exact ⟨t, h1, h2, h3, fun d hd => en_Su_fewestOn (k := 0) hd fun e he P hP hQ => rg_Su_fewestOn_0 hP (hR e he P hP hQ)⟩
theorem sp_layFirstRow {has k : Nat} {g : Nat → Nat → Int} {N0 : mj_M} {miss : Int} (hN : TB N0 g has) (hk : k ≤ has) (h9 : has ≤ 9) (hr : ∀ c s, c < 6 → -1000000 ≤ g c s ∧ g c s ≤ 60) (hm : -1000000 ≤ miss ∧ miss ≤ 1000000) : ∃ (N' : mj_M) (r : Nat → Nat), (∀ d, 2 ≤ d → mj_Sp d 51 [mj_r (11, 21, 0), mj_i (iI (k : Int)), mj_i (iI miss)] N0 none N') ∧ fr [11] N0 N' ∧ (∀ j, N' 11 26 6 j = N0 11 26 6 j) ∧ (∀ c, c < 6 → N' 11 27 0 c = iI (r c : Int)) ∧ ∀ c, c < 6 → gr g k miss r c := by
  have key : ∀ c, c ≤ 6 → ∀ N (r : Nat → Nat) o6, fr [11] N0 N → (∀ t c' s', t = 24 ∨ t = 26 → N 11 t c' s' = N0 11 t c' s') → (∀ c', c' < c → N 11 27 0 c' = iI (r c' : Int)) → (∀ c', c' < c → gr g k miss r c') → 0 ≤ (k : Int) - sn r c → (-1000000 - 60 * (c : Int) ≤ miss - sm (fun c => g c (r c)) c ∧ miss - sm (fun c => g c (r c)) c ≤ 1000000 + 1000000 * (c : Int)) → ∃ (N' : mj_M) (r' : Nat → Nat), (fr [11] N0 N' ∧ (∀ j, N' 11 26 6 j = N0 11 26 6 j) ∧ (∀ c, c < 6 → N' 11 27 0 c = iI (r' c : Int)) ∧ ∀ c, c < 6 → gr g k miss r' c) ∧ Rn mj_c51 1 8 [some (mj_r (11, 21, 0)), some (mj_i (iI (k : Int))), some (mj_i (iI miss)), some (mj_i (iI ((k : Int) - sn r c))), some (mj_i (iI (miss - sm (fun c => g c (r c)) c))), some (mj_i (iI (c : Int))), o6] N none N' := by
    refine lp_dn (Q := fun c => ∀ N (r : Nat → Nat) o6, fr [11] N0 N → (∀ t c' s', t = 24 ∨ t = 26 → N 11 t c' s' = N0 11 t c' s') → (∀ c', c' < c → N 11 27 0 c' = iI (r c' : Int)) → (∀ c', c' < c → gr g k miss r c') → 0 ≤ (k : Int) - sn r c → (-1000000 - 60 * (c : Int) ≤ miss - sm (fun c => g c (r c)) c ∧ miss - sm (fun c => g c (r c)) c ≤ 1000000 + 1000000 * (c : Int)) → ∃ (N' : mj_M) (r' : Nat → Nat), (fr [11] N0 N' ∧ (∀ j, N' 11 26 6 j = N0 11 26 6 j) ∧ (∀ c, c < 6 → N' 11 27 0 c = iI (r' c : Int)) ∧ ∀ c, c < 6 → gr g k miss r' c) ∧ Rn mj_c51 1 8 [some (mj_r (11, 21, 0)), some (mj_i (iI (k : Int))), some (mj_i (iI miss)), some (mj_i (iI ((k : Int) - sn r c))), some (mj_i (iI (miss - sm (fun c => g c (r c)) c))), some (mj_i (iI (c : Int))), o6] N none N') (n := 6) (fun N r o6 h1 h2 h3 h4 h5 h6 => ?_) (fun c hc ih N r o6 h1 h2 h3 h4 h5 h6 => ?_)
    · refine ⟨N, r, ⟨h1, fun j => h2 26 6 j (by omega), h3, h4⟩, fun e he P hP hQ => rg_Su_layFirstRow_8 hP ⟨fun z => by (first | exact mj_eq.rf | exact fi_n mj_eq.rf | exact fi_i rfl mj_eq.rf | exact rfl), fun z => ?_⟩⟩
      simp (disch := omega) only [nl_0, nl_1, nl_2, nl_3, nl_4, nl_5, nl_6, nl_7, nl_8, nl_9, nl_10, nl_11, nl_12, nl_13, nl_14, nl_15, nl_16, nl_17, nl_18, nl_19, nl_20, nl_21, nl_22, nl_23, nl_24, nl_25, nl_26, nl_27, nl_28, nl_31, nl_32, nl_42, nl_44, nl_46, nl_48, nl_49, nl_50, nl_51, nl_60, nl_75, nl_76, nl_99, nl_100, nl_108, nl_114, nl_117, nl_126, nl_255, nl_999, nl_2401, nl_9999, nl_12345, nl_65536, nl_1000000, nl_1103515245, nl_2147483647, iI_0, iI_neg, iI_add, iI_sub, iI_mul, iI_div, iI_mod, iI_lt, iI_le, iI_eq, iI_nat, iI_vp, ld_rd, ld_wl, lu_s, lu_t, lu_c, lu_j, forall_eq, Int.toNat_natCast, true_and, and_true, not_true, not_false_iff, Classical.not_not, forall_const, iI_inj] at z
      omega
    · obtain ⟨left, el⟩ : ∃ left : Nat, (k : Int) - sn r c = left := ⟨((k : Int) - sn r c).toNat, nat_of h5⟩
      have hs0 : 0 ≤ sn r c := sn_mono (r := r) (a := 0) c (by omega)
      have hTB : TB N g has := ⟨fun c s hc hs => by rw [h2 _ _ _ (by omega)]; exact hN.1 c s hc hs, fun c hc k hk => by rw [h2 _ _ _ (by omega)]; exact hN.2 c hc k hk⟩
      obtain ⟨s, q1, q2, q3, hS⟩ := sp_fewestOn (left := left) (miss := miss - sm (fun c => g c (r c)) c) hTB hc (by omega) h9 hr (by omega)
      have b1 := hr c s hc
      -- the row with this number
      have u1 : ∀ c', c' < c → (fun j => if j = c then s else r j) c' = r c' := fun c' h => if_neg (by omega)
      have u2 : (fun j => if j = c then s else r j) c = s := if_pos rfl
      generalize (fun j => if j = c then s else r j) = r2 at u1 u2
      have v1 : sn r2 c = sn r c := sn_c u1
      have v2 : sm (fun c => g c (r2 c)) c = sm (fun c => g c (r c)) c := sm_c c (fun j hj => by rw [u1 j hj])
      have w1 : sn r2 (c + 1) = sn r c + s := by rw [sn_s, v1, u2]
      have w2 : sm (fun c => g c (r2 c)) (c + 1) = sm (fun c => g c (r c)) c + g c s := by
        show sm (fun c => g c (r2 c)) c + g c (r2 c) = _
        rw [v2, u2]
      have r1 : N 11 24 c s = iI (g c s) := hTB.1 c s hc (by omega)
      obtain ⟨N', r', hG, hR⟩ := ih (mj_wl N (11, 27, 0, c) (iI (s : Int))) r2 (some (mj_i (iI (s : Int)))) (h1.wl (by decide)) (fun t c' s' ht => by rw [wl_n (by omega)]; exact h2 t c' s' ht) (fun c' hc' => by
        by_cases e : c' = c
        · subst e; rw [wl_s, u2]
        · rw [wl_n (by omega), u1 c' (by omega)]; exact h3 c' (by omega)) (fun c' hc' => by
        by_cases e : c' = c
        · subst e
          unfold gr
          rw [u2, v1, v2, el]
          refine ⟨by omega, fun s' hs' => ?_, fun h => ?_⟩
          · have t2 : ((left : Int) - (s' : Int)).toNat = left - s' := by omega
            rw [t2]
            exact q2 s' hs'
          · have t2 : ((left : Int) - (s : Int)).toNat = left - s := by omega
            rw [t2]
            exact q3 (by omega)
        · have hold := h4 c' (by omega)
          unfold gr at hold ⊢
          have e1 : sn r2 c' = sn r c' := sn_c fun j hj => u1 j (by omega)
          have e2 : sm (fun c => g c (r2 c)) c' = sm (fun c => g c (r c)) c' := sm_c c' (fun j hj => by rw [u1 j (by omega)])
          rw [e1, e2, u1 c' (by omega)]
          exact hold) (by rw [w1]; omega) (by rw [w2]; omega)
      rw [w1, w2, show (k : Int) - (sn r c + (s : Int)) = (left : Int) - s by omega, show miss - (sm (fun c => g c (r c)) c + g c s) = miss - sm (fun c => g c (r c)) c - g c s by omega] at hR
      refine ⟨N', r', hG, fun e he P hP hQ => rg_Su_layFirstRow_8 hP ⟨fun z => ?_, fun z => ?_⟩⟩
      · simp (disch := omega) only [nl_0, nl_1, nl_2, nl_3, nl_4, nl_5, nl_6, nl_7, nl_8, nl_9, nl_10, nl_11, nl_12, nl_13, nl_14, nl_15, nl_16, nl_17, nl_18, nl_19, nl_20, nl_21, nl_22, nl_23, nl_24, nl_25, nl_26, nl_27, nl_28, nl_31, nl_32, nl_42, nl_44, nl_46, nl_48, nl_49, nl_50, nl_51, nl_60, nl_75, nl_76, nl_99, nl_100, nl_108, nl_114, nl_117, nl_126, nl_255, nl_999, nl_2401, nl_9999, nl_12345, nl_65536, nl_1000000, nl_1103515245, nl_2147483647, iI_0, iI_neg, iI_add, iI_sub, iI_mul, iI_div, iI_mod, iI_lt, iI_le, iI_eq, iI_nat, iI_vp, ld_rd, ld_wl, lu_s, lu_t, lu_c, lu_j, forall_eq, Int.toNat_natCast, true_and, and_true, not_true, not_false_iff, Classical.not_not, forall_const, iI_inj] at z
        omega
      · rw [el]
        refine ⟨_, _, hS e he, ?_⟩
        simp (disch := omega) only [nl_0, nl_1, nl_2, nl_3, nl_4, nl_5, nl_6, nl_7, nl_8, nl_9, nl_10, nl_11, nl_12, nl_13, nl_14, nl_15, nl_16, nl_17, nl_18, nl_19, nl_20, nl_21, nl_22, nl_23, nl_24, nl_25, nl_26, nl_27, nl_28, nl_31, nl_32, nl_42, nl_44, nl_46, nl_48, nl_49, nl_50, nl_51, nl_60, nl_75, nl_76, nl_99, nl_100, nl_108, nl_114, nl_117, nl_126, nl_255, nl_999, nl_2401, nl_9999, nl_12345, nl_65536, nl_1000000, nl_1103515245, nl_2147483647, iI_0, iI_neg, iI_add, iI_sub, iI_mul, iI_div, iI_mod, iI_lt, iI_le, iI_eq, iI_nat, iI_vp, ld_rd, ld_wl, lu_s, lu_t, lu_c, lu_j, forall_eq, Int.toNat_natCast, true_and, and_true, not_true, not_false_iff, Classical.not_not, forall_const, iI_inj]
        rw [wl_n (by omega), r1]
        simp (disch := omega) only [nl_0, nl_1, nl_2, nl_3, nl_4, nl_5, nl_6, nl_7, nl_8, nl_9, nl_10, nl_11, nl_12, nl_13, nl_14, nl_15, nl_16, nl_17, nl_18, nl_19, nl_20, nl_21, nl_22, nl_23, nl_24, nl_25, nl_26, nl_27, nl_28, nl_31, nl_32, nl_42, nl_44, nl_46, nl_48, nl_49, nl_50, nl_51, nl_60, nl_75, nl_76, nl_99, nl_100, nl_108, nl_114, nl_117, nl_126, nl_255, nl_999, nl_2401, nl_9999, nl_12345, nl_65536, nl_1000000, nl_1103515245, nl_2147483647, iI_0, iI_neg, iI_add, iI_sub, iI_mul, iI_div, iI_mod, iI_lt, iI_le, iI_eq, iI_nat, iI_vp, ld_rd, ld_wl, lu_s, lu_t, lu_c, lu_j, forall_eq, Int.toNat_natCast, true_and, and_true, not_true, not_false_iff, Classical.not_not, forall_const, iI_inj]
        exact hR e he P hP hQ
  obtain ⟨N', r', hG, hR⟩ := key 0 (by decide) N0 (fun _ => 0) none fr.r0 (fun _ _ _ _ => rfl) (fun c' h => absurd h (Nat.not_lt_zero c')) (fun c' h => absurd h (Nat.not_lt_zero c')) (by show (0 : Int) ≤ (k : Int) - 0; omega) (by show -1000000 - 60 * ((0 : Nat) : Int) ≤ miss - 0 ∧ miss - 0 ≤ 1000000 + 1000000 * ((0 : Nat) : Int); omega)
  have e1 : (k : Int) - sn (fun _ => 0) 0 = k := Int.sub_zero _
  have e2 : miss - sm (fun c => g c ((fun _ => 0) c)) 0 = miss := Int.sub_zero _
  rw [e1, e2] at hR
  exact ⟨N', r', fun d hd => en_Su_layFirstRow (k := 1) hd fun e he P hP hQ => rg_Su_layFirstRow_0 hP (hR e he P hP hQ), hG⟩
