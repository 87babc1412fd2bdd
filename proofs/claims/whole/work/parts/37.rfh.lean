/-! contracts: the reference's hour -/
def lsh (A : lA) (c k : Nat) : lA := fun t i j => if t = 6 ∧ i = 0 ∧ j < k then A 6 0 j - A 4 c j else A t i j
theorem lsh_0 {A : lA} {c : Nat} : lsh A c 0 = A := by
  funext t i j
  exact if_neg (by omega)
theorem lsh_s {A : lA} {c k : Nat} : lu (lsh A c k) 6 0 k (A 6 0 k - A 4 c k) = lsh A c (k + 1) := by
  funext t i j
  unfold lu lsh
  by_cases h1 : t = 6 ∧ i = 0 ∧ j = k
  · rw [if_pos h1, if_pos (by omega), h1.2.2]
  · rw [if_neg h1]
    by_cases h4 : t = 6 ∧ i = 0 ∧ j < k
    · rw [if_pos h4, if_pos (by omega)]
    · rw [if_neg h4, if_neg (by omega)]
theorem lsh_ls {A : lA} (hA : LI A) {c : Nat} (hc : c < 6) : lg (lsh A c (nV A)) c 4 = ls A c := by
  have h2 := hA.nv
  funext t i j
  unfold lg lsh ls
  by_cases h1 : t = 4 ∧ i = c ∧ j < 4
  · rw [if_pos h1, if_neg (by omega)]
    by_cases h3 : j < nV A
    · rw [if_pos ⟨h1.1, h1.2.1, h3⟩]
    · rw [if_neg (fun z => h3 z.2.2), h1.1, h1.2.1, hA.s0 hc h1.2.2 (by omega)]
  · rw [if_neg h1]
    by_cases h4 : t = 6 ∧ i = 0 ∧ j < nV A
    · rw [if_pos h4, if_pos h4]
    · rw [if_neg h4, if_neg h4, if_neg (by omega)]
theorem sp_mmoves {d c : Nat} (hd : 3 ≤ d) {A : lA} {M : mj_M} {s f : Int} (hA : LI A) (hc : c < 6) (h25 : A 2 0 c ≠ 25) (hs : 0 ≤ s ∧ s ≤ 3) (hf : 0 ≤ f ∧ f ≤ 3) : mj_Sp d 116 [mj_r (30, 60, 0), mj_i (iI (c : Int)), mj_i (iI s), mj_i (iI f)] (mj_ld M 14 A) none (mj_ld M 14 (mv A c s f)) := by
  have h2 := hA.nv
  have hk := hA.kd hc
  have hfd := hA.fd hc
  have hpl := pp_lt (s := A 4 c) (nV A)
  have hw := wt_r (A 1 0 c)
  have hp0 := pm_nn (s := A 4 c) (nV A)
  have hp9 : pm (A 4 c) (nV A) ≤ 9 := pm_le (by decide) _ (fun j hj => (hA.st hc (by omega)).2)
  have hs0 : 0 ≤ sm (A 4 c) 4 := sm_nn 4 (fun j hj => (hA.st hc hj).1)
  have hs9 := sm_le (s := A 4 c) (b := 9) 4 (fun j hj => (hA.st hc hj).2)
  have hh := hA.hm (v := pp (A 4 c) (nV A)) (by omega)
  have hn0 : 0 ≤ f * wt (A 1 0 c) := Int.mul_nonneg hf.1 (by omega)
  have hn1 : f * wt (A 1 0 c) ≤ 3 * 2 := Int.mul_le_mul hf.2 hw.2 (by omega) (by omega)
  have tb := bs_r (f := A 2 0 c) (s := s) hfd.1 (by omega)
  refine en_m_moves (k := 2) hd fun e he P hP hQ => rg_m_moves_0 hP ?_
  have lose2 : ∀ o9 x4 x5 x6 x7, mv A c s f = ls (lu A 2 0 c 25) c → P 192 [some (mj_r (30, 60, 0)), some (mj_i (iI (c : Int))), some (mj_i (iI s)), some (mj_i (iI f)), some (mj_i x4), some (mj_i x5), some (mj_i x6), some (mj_i x7), some (mj_i (iI 0)), o9] [] (mj_ld M 14 (lu A 2 0 c 25)) := by
    intro o9 x4 x5 x6 x7 hm
    have hB : LI (lu A 2 0 c 25) := hA.l2 (by omega)
    have hBv : nV (lu A 2 0 c 25) = nV A := rfl
    have r3 : ∀ k, lsh (lu A 2 0 c 25) c k 0 0 1 = (nV A : Int) := fun k => h2.1
    have r1 : ∀ k, lsh (lu A 2 0 c 25) c k 6 0 k = lu A 2 0 c 25 6 0 k := fun k => if_neg (by omega)
    have r2 : ∀ k, lsh (lu A 2 0 c 25) c k 4 c k = lu A 2 0 c 25 4 c k := fun k => if_neg (by omega)
    generalize lu A 2 0 c 25 = B at *
    have e0 : mj_ld M 14 B = mj_ld M 14 (lsh B c 0) := by rw [lsh_0]
    rw [e0]
    refine lp_dn (Q := fun k => P 192 [some (mj_r (30, 60, 0)), some (mj_i (iI (c : Int))), some (mj_i (iI s)), some (mj_i (iI f)), some (mj_i x4), some (mj_i x5), some (mj_i x6), some (mj_i x7), some (mj_i (iI (k : Int))), o9] [] (mj_ld M 14 (lsh B c k))) (n := nV A) ?_ (fun k hk ih => ?_) 0 (Nat.zero_le _)
    · refine rg_m_moves_192 hP ⟨fun z => ⟨_, sp_letGo (by omega) hc, fi_n (mj_eq.of ?_)⟩, fun z => ?_⟩
      · rw [hm, ← hBv, lsh_ls hB hc]
      · simp (disch := omega) only [nl_0, nl_1, nl_2, nl_3, nl_4, nl_5, nl_6, nl_7, nl_8, nl_9, nl_10, nl_11, nl_12, nl_13, nl_14, nl_15, nl_16, nl_17, nl_18, nl_19, nl_20, nl_21, nl_22, nl_23, nl_24, nl_25, nl_26, nl_27, nl_28, nl_31, nl_32, nl_42, nl_44, nl_46, nl_48, nl_49, nl_50, nl_51, nl_60, nl_75, nl_76, nl_99, nl_100, nl_108, nl_114, nl_117, nl_126, nl_255, nl_999, nl_2401, nl_9999, nl_12345, nl_65536, nl_1000000, nl_1103515245, nl_2147483647, iI_0, iI_neg, iI_add, iI_sub, iI_mul, iI_div, iI_mod, iI_lt, iI_le, iI_eq, iI_nat, iI_vp, ld_rd, ld_wl, lu_s, lu_t, lu_c, lu_j, forall_eq, Int.toNat_natCast, true_and, and_true, not_true, not_false_iff, Classical.not_not, forall_const, iI_inj, r3] at z
        omega
    · refine rg_m_moves_192 hP ?_
      simp (disch := omega) only [nl_0, nl_1, nl_2, nl_3, nl_4, nl_5, nl_6, nl_7, nl_8, nl_9, nl_10, nl_11, nl_12, nl_13, nl_14, nl_15, nl_16, nl_17, nl_18, nl_19, nl_20, nl_21, nl_22, nl_23, nl_24, nl_25, nl_26, nl_27, nl_28, nl_31, nl_32, nl_42, nl_44, nl_46, nl_48, nl_49, nl_50, nl_51, nl_60, nl_75, nl_76, nl_99, nl_100, nl_108, nl_114, nl_117, nl_126, nl_255, nl_999, nl_2401, nl_9999, nl_12345, nl_65536, nl_1000000, nl_1103515245, nl_2147483647, iI_0, iI_neg, iI_add, iI_sub, iI_mul, iI_div, iI_mod, iI_lt, iI_le, iI_eq, iI_nat, iI_vp, ld_rd, ld_wl, lu_s, lu_t, lu_c, lu_j, forall_eq, Int.toNat_natCast, true_and, and_true, not_true, not_false_iff, Classical.not_not, forall_const, iI_inj, r3, nd, nw, nlH, nlh, r1, r2, lsh_s]
      exact ⟨fun c => by omega, fun c => ih⟩
  have rest : ∀ x4, x4 = f * wt (A 1 0 c) → P 38 [some (mj_r (30, 60, 0)), some (mj_i (iI (c : Int))), some (mj_i (iI s)), some (mj_i (iI f)), some (mj_i (iI x4)), some (mj_i (iI (sm (A 4 c) 4))), some (mj_i (iI 0)), some (mj_i (iI 0)), some (mj_i (iI 0)), none] [] (mj_ld M 14 A) := by
    intro x4 e4
    refine lp_dn (Q := fun k => ∀ o9, P 38 [some (mj_r (30, 60, 0)), some (mj_i (iI (c : Int))), some (mj_i (iI s)), some (mj_i (iI f)), some (mj_i (iI x4)), some (mj_i (iI (sm (A 4 c) 4))), some (mj_i (iI (pm (A 4 c) k))), some (mj_i (iI (pp (A 4 c) k : Int))), some (mj_i (iI (k : Int))), o9] [] (mj_ld M 14 A)) (n := nV A) ?_ (fun k hk ih o9 => ?_) 0 (Nat.zero_le _) none
    · intro o9
      refine rg_m_moves_38 hP ⟨fun z => ?_, fun z => ?_⟩
      · clear z
        subst e4
        simp (disch := omega) only [nl_0, nl_1, nl_2, nl_3, nl_4, nl_5, nl_6, nl_7, nl_8, nl_9, nl_10, nl_11, nl_12, nl_13, nl_14, nl_15, nl_16, nl_17, nl_18, nl_19, nl_20, nl_21, nl_22, nl_23, nl_24, nl_25, nl_26, nl_27, nl_28, nl_31, nl_32, nl_42, nl_44, nl_46, nl_48, nl_49, nl_50, nl_51, nl_60, nl_75, nl_76, nl_99, nl_100, nl_108, nl_114, nl_117, nl_126, nl_255, nl_999, nl_2401, nl_9999, nl_12345, nl_65536, nl_1000000, nl_1103515245, nl_2147483647, iI_0, iI_neg, iI_add, iI_sub, iI_mul, iI_div, iI_mod, iI_lt, iI_le, iI_eq, iI_nat, iI_vp, ld_rd, ld_wl, lu_s, lu_t, lu_c, lu_j, forall_eq, Int.toNat_natCast, true_and, and_true, not_true, not_false_iff, Classical.not_not, forall_const, iI_inj, nd, nw, nlf]
        by_cases g1 : 0 < pm (A 4 c) (nV A) ∧ sm (A 4 c) 4 - pm (A 4 c) (nV A) + f * wt (A 1 0 c) ≤ pm (A 4 c) (nV A)
        · have em : mv A c s f = lu A 2 0 c (tw (A 2 0 c) (A 5 0 (pp (A 4 c) (nV A)))) := by
            unfold mv
            rw [if_neg h25, if_pos g1]
          refine ⟨fun z => by omega, fun z => ⟨fun z2 => by omega, fun z2 => ⟨_, _, sp_mtowards (by omega) (by omega) (by omega), ?_⟩⟩⟩
          simp (disch := omega) only [nl_0, nl_1, nl_2, nl_3, nl_4, nl_5, nl_6, nl_7, nl_8, nl_9, nl_10, nl_11, nl_12, nl_13, nl_14, nl_15, nl_16, nl_17, nl_18, nl_19, nl_20, nl_21, nl_22, nl_23, nl_24, nl_25, nl_26, nl_27, nl_28, nl_31, nl_32, nl_42, nl_44, nl_46, nl_48, nl_49, nl_50, nl_51, nl_60, nl_75, nl_76, nl_99, nl_100, nl_108, nl_114, nl_117, nl_126, nl_255, nl_999, nl_2401, nl_9999, nl_12345, nl_65536, nl_1000000, nl_1103515245, nl_2147483647, iI_0, iI_neg, iI_add, iI_sub, iI_mul, iI_div, iI_mod, iI_lt, iI_le, iI_eq, iI_nat, iI_vp, ld_rd, ld_wl, lu_s, lu_t, lu_c, lu_j, forall_eq, Int.toNat_natCast, true_and, and_true, not_true, not_false_iff, Classical.not_not, forall_const, iI_inj, nd, nw, nlf]
          rw [em]
          (first | exact mj_eq.rf | exact fi_n mj_eq.rf | exact fi_i rfl mj_eq.rf | exact rfl)
        · by_cases g2 : sm (A 4 c) 4 < f * wt (A 1 0 c)
          · have em : mv A c s f = if bs (A 2 0 c) s = 25 then ls (lu A 2 0 c 25) c else lu A 2 0 c (bs (A 2 0 c) s) := by
              unfold mv
              rw [if_neg h25, if_neg g1, if_pos g2]
            refine ⟨fun z => ⟨fun z3 => by omega, fun z3 => ?_⟩, fun z => ⟨fun z2 => ⟨fun z3 => by omega, fun z3 => ?_⟩, fun z2 => by omega⟩⟩
            · refine ⟨_, _, sp_mnext (by omega) (by omega) hs, ?_⟩
              simp (disch := omega) only [nl_0, nl_1, nl_2, nl_3, nl_4, nl_5, nl_6, nl_7, nl_8, nl_9, nl_10, nl_11, nl_12, nl_13, nl_14, nl_15, nl_16, nl_17, nl_18, nl_19, nl_20, nl_21, nl_22, nl_23, nl_24, nl_25, nl_26, nl_27, nl_28, nl_31, nl_32, nl_42, nl_44, nl_46, nl_48, nl_49, nl_50, nl_51, nl_60, nl_75, nl_76, nl_99, nl_100, nl_108, nl_114, nl_117, nl_126, nl_255, nl_999, nl_2401, nl_9999, nl_12345, nl_65536, nl_1000000, nl_1103515245, nl_2147483647, iI_0, iI_neg, iI_add, iI_sub, iI_mul, iI_div, iI_mod, iI_lt, iI_le, iI_eq, iI_nat, iI_vp, ld_rd, ld_wl, lu_s, lu_t, lu_c, lu_j, forall_eq, Int.toNat_natCast, true_and, and_true, not_true, not_false_iff, Classical.not_not, forall_const, iI_inj, nd, nw, nlf]
              refine ⟨fun z4 => ?_, fun z4 => ?_⟩
              · rw [em, if_neg z4]
                (first | exact mj_eq.rf | exact fi_n mj_eq.rf | exact fi_i rfl mj_eq.rf | exact rfl)
              · rw [z4]
                exact lose2 _ _ _ _ _ (by rw [em, if_pos z4])
            · refine ⟨_, _, sp_mnext (by omega) (by omega) hs, ?_⟩
              simp (disch := omega) only [nl_0, nl_1, nl_2, nl_3, nl_4, nl_5, nl_6, nl_7, nl_8, nl_9, nl_10, nl_11, nl_12, nl_13, nl_14, nl_15, nl_16, nl_17, nl_18, nl_19, nl_20, nl_21, nl_22, nl_23, nl_24, nl_25, nl_26, nl_27, nl_28, nl_31, nl_32, nl_42, nl_44, nl_46, nl_48, nl_49, nl_50, nl_51, nl_60, nl_75, nl_76, nl_99, nl_100, nl_108, nl_114, nl_117, nl_126, nl_255, nl_999, nl_2401, nl_9999, nl_12345, nl_65536, nl_1000000, nl_1103515245, nl_2147483647, iI_0, iI_neg, iI_add, iI_sub, iI_mul, iI_div, iI_mod, iI_lt, iI_le, iI_eq, iI_nat, iI_vp, ld_rd, ld_wl, lu_s, lu_t, lu_c, lu_j, forall_eq, Int.toNat_natCast, true_and, and_true, not_true, not_false_iff, Classical.not_not, forall_const, iI_inj, nd, nw, nlf]
              refine ⟨fun z4 => ?_, fun z4 => ?_⟩
              · rw [em, if_neg z4]
                (first | exact mj_eq.rf | exact fi_n mj_eq.rf | exact fi_i rfl mj_eq.rf | exact rfl)
              · rw [z4]
                exact lose2 _ _ _ _ _ (by rw [em, if_pos z4])
          · have em : mv A c s f = A := by
              unfold mv
              rw [if_neg h25, if_neg g1, if_neg g2]
            rw [em]
            refine ⟨fun z => ⟨fun z3 => by (first | exact mj_eq.rf | exact fi_n mj_eq.rf | exact fi_i rfl mj_eq.rf | exact rfl), fun z3 => by omega⟩, fun z => ⟨fun z2 => ⟨fun z3 => by (first | exact mj_eq.rf | exact fi_n mj_eq.rf | exact fi_i rfl mj_eq.rf | exact rfl), fun z3 => by omega⟩, fun z2 => by omega⟩⟩
      · simp (disch := omega) only [nl_0, nl_1, nl_2, nl_3, nl_4, nl_5, nl_6, nl_7, nl_8, nl_9, nl_10, nl_11, nl_12, nl_13, nl_14, nl_15, nl_16, nl_17, nl_18, nl_19, nl_20, nl_21, nl_22, nl_23, nl_24, nl_25, nl_26, nl_27, nl_28, nl_31, nl_32, nl_42, nl_44, nl_46, nl_48, nl_49, nl_50, nl_51, nl_60, nl_75, nl_76, nl_99, nl_100, nl_108, nl_114, nl_117, nl_126, nl_255, nl_999, nl_2401, nl_9999, nl_12345, nl_65536, nl_1000000, nl_1103515245, nl_2147483647, iI_0, iI_neg, iI_add, iI_sub, iI_mul, iI_div, iI_mod, iI_lt, iI_le, iI_eq, iI_nat, iI_vp, ld_rd, ld_wl, lu_s, lu_t, lu_c, lu_j, forall_eq, Int.toNat_natCast, true_and, and_true, not_true, not_false_iff, Classical.not_not, forall_const, iI_inj, h2.1] at z
        omega
    · have hsk := hA.st (v := k) hc (by omega)
      have hpk0 := pm_nn (s := A 4 c) k
      have hpk9 : pm (A 4 c) k ≤ 9 := pm_le (by decide) _ (fun j hj => (hA.st hc (by omega)).2)
      have e1 : pm (A 4 c) (k + 1) = if pm (A 4 c) k < A 4 c k then A 4 c k else pm (A 4 c) k := rfl
      have e2 : pp (A 4 c) (k + 1) = if pm (A 4 c) k < A 4 c k then k else pp (A 4 c) k := rfl
      refine rg_m_moves_38 hP ?_
      simp (disch := omega) only [nl_0, nl_1, nl_2, nl_3, nl_4, nl_5, nl_6, nl_7, nl_8, nl_9, nl_10, nl_11, nl_12, nl_13, nl_14, nl_15, nl_16, nl_17, nl_18, nl_19, nl_20, nl_21, nl_22, nl_23, nl_24, nl_25, nl_26, nl_27, nl_28, nl_31, nl_32, nl_42, nl_44, nl_46, nl_48, nl_49, nl_50, nl_51, nl_60, nl_75, nl_76, nl_99, nl_100, nl_108, nl_114, nl_117, nl_126, nl_255, nl_999, nl_2401, nl_9999, nl_12345, nl_65536, nl_1000000, nl_1103515245, nl_2147483647, iI_0, iI_neg, iI_add, iI_sub, iI_mul, iI_div, iI_mod, iI_lt, iI_le, iI_eq, iI_nat, iI_vp, ld_rd, ld_wl, lu_s, lu_t, lu_c, lu_j, forall_eq, Int.toNat_natCast, true_and, and_true, not_true, not_false_iff, Classical.not_not, forall_const, iI_inj, h2.1, nd, nlh]
      refine ⟨fun z => by omega, fun z => ⟨fun z2 => ⟨fun z3 => ?_, fun z3 => by omega⟩, fun z2 => ⟨fun z3 => by omega, fun z3 => ?_⟩⟩⟩
      · rw [e1, e2, if_neg (by omega), if_neg (by omega)] at ih
        exact ih _
      · rw [e1, e2, if_pos (by omega), if_pos (by omega)] at ih
        exact ih _
  simp (disch := omega) only [nl_0, nl_1, nl_2, nl_3, nl_4, nl_5, nl_6, nl_7, nl_8, nl_9, nl_10, nl_11, nl_12, nl_13, nl_14, nl_15, nl_16, nl_17, nl_18, nl_19, nl_20, nl_21, nl_22, nl_23, nl_24, nl_25, nl_26, nl_27, nl_28, nl_31, nl_32, nl_42, nl_44, nl_46, nl_48, nl_49, nl_50, nl_51, nl_60, nl_75, nl_76, nl_99, nl_100, nl_108, nl_114, nl_117, nl_126, nl_255, nl_999, nl_2401, nl_9999, nl_12345, nl_65536, nl_1000000, nl_1103515245, nl_2147483647, iI_0, iI_neg, iI_add, iI_sub, iI_mul, iI_div, iI_mod, iI_lt, iI_le, iI_eq, iI_nat, iI_vp, ld_rd, ld_wl, lu_s, lu_t, lu_c, lu_j, forall_eq, Int.toNat_natCast, true_and, and_true, not_true, not_false_iff, Classical.not_not, forall_const, iI_inj, nd, nlk]
  refine ⟨fun z => ⟨_, _, sp_mStrings (by omega) hA hc, ?_⟩, fun z => ⟨_, _, sp_mStrings (by omega) hA hc, ?_⟩⟩
  · exact rest _ (by unfold wt; rw [if_neg z])
  · exact rest _ (by unfold wt; rw [if_pos z])
