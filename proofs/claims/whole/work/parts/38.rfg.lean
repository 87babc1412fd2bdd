/-! contracts: the reference's hour, whole -/
theorem mv_25 {A : lA} {c : Nat} {s f : Int} (h : A 2 0 c = 25) : mv A c s f = A := if_pos h
theorem rn_25 {A : lA} {c : Nat} (h : A 2 0 c = 25) : rn A c = A := if_pos h
theorem rf_25 {A : lA} {c : Nat} (h : A 2 0 c = 25) : rf A c = 0 := if_pos h
theorem sp_mhour {d : Nat} (hd : 4 ≤ d) {A : lA} {M : mj_M} {s f : Int} (hA : LI A) (gs : 0 ≤ s ∧ s ≤ 3) (gf : 0 ≤ f ∧ f ≤ 3) : mj_Sp d 117 [mj_r (30, 60, 0), mj_i (iI s), mj_i (iI f)] (mj_ld M 14 A) (some (mj_i (iI (hfl A s f)))) (mj_ld M 14 (hr A s f)) := by
  have h1 := hA.nc
  have n1 : ∀ n, mvs A s f n 0 0 0 = (nC A : Int) := fun n => (mvs_lo (by omega) n).trans h1.1
  have n2 : ∀ n, rns (mvs A s f (nC A)) n 0 0 0 = (nC A : Int) := fun n => (rns_lo (by omega) n).trans (n1 _)
  have n3 : rns (mvs A s f (nC A)) (nC A) 0 0 2 = A 0 0 2 := (rns_lo (by omega) _).trans (mvs_lo (by omega) _)
  refine en_m_hour (k := 3) hd fun e he P hP hQ => rg_m_hour_0 hP ?_
  refine lp_dn (Q := fun k => P 2 [some (mj_r (30, 60, 0)), some (mj_i (iI s)), some (mj_i (iI f)), some (mj_i (iI (k : Int))), none, none, none, none] [] (mj_ld M 14 (mvs A s f k))) (n := nC A) ?_ (fun k hk ih => ?_) 0 (Nat.zero_le _)
  · refine rg_m_hour_2 hP ⟨fun z => ?_, fun z => ?_⟩
    · clear z
      refine lp_dn (Q := fun k => ∀ o5 o6 o7, P 36 [some (mj_r (30, 60, 0)), some (mj_i (iI s)), some (mj_i (iI f)), some (mj_i (iI (rsu (mvs A s f (nC A)) k))), some (mj_i (iI (k : Int))), o5, o6, o7] [] (mj_ld M 14 (rns (mvs A s f (nC A)) k))) (n := nC A) ?_ (fun k hk ih o5 o6 o7 => ?_) 0 (Nat.zero_le _) none none none
      · intro o5 o6 o7
        refine rg_m_hour_36 hP ⟨fun z => ?_, fun z => ?_⟩
        · clear z
          simp (disch := omega) only [nl_0, nl_1, nl_2, nl_3, nl_4, nl_5, nl_6, nl_7, nl_8, nl_9, nl_10, nl_11, nl_12, nl_13, nl_14, nl_15, nl_16, nl_17, nl_18, nl_19, nl_20, nl_21, nl_22, nl_23, nl_24, nl_25, nl_26, nl_27, nl_28, nl_31, nl_32, nl_42, nl_44, nl_46, nl_48, nl_49, nl_50, nl_51, nl_60, nl_75, nl_76, nl_99, nl_100, nl_108, nl_114, nl_117, nl_126, nl_255, nl_999, nl_2401, nl_9999, nl_12345, nl_65536, nl_1000000, nl_1103515245, nl_2147483647, iI_0, iI_neg, iI_add, iI_sub, iI_mul, iI_div, iI_mod, iI_lt, iI_le, iI_eq, iI_nat, iI_vp, ld_rd, ld_wl, lu_s, lu_t, lu_c, lu_j, forall_eq, Int.toNat_natCast, true_and, and_true, not_true, not_false_iff, Classical.not_not, forall_const, iI_inj, nd, nw, nlT, n3]
          (first | exact mj_eq.rf | exact fi_n mj_eq.rf | exact fi_i rfl mj_eq.rf | exact rfl)
        · simp (disch := omega) only [nl_0, nl_1, nl_2, nl_3, nl_4, nl_5, nl_6, nl_7, nl_8, nl_9, nl_10, nl_11, nl_12, nl_13, nl_14, nl_15, nl_16, nl_17, nl_18, nl_19, nl_20, nl_21, nl_22, nl_23, nl_24, nl_25, nl_26, nl_27, nl_28, nl_31, nl_32, nl_42, nl_44, nl_46, nl_48, nl_49, nl_50, nl_51, nl_60, nl_75, nl_76, nl_99, nl_100, nl_108, nl_114, nl_117, nl_126, nl_255, nl_999, nl_2401, nl_9999, nl_12345, nl_65536, nl_1000000, nl_1103515245, nl_2147483647, iI_0, iI_neg, iI_add, iI_sub, iI_mul, iI_div, iI_mod, iI_lt, iI_le, iI_eq, iI_nat, iI_vp, ld_rd, ld_wl, lu_s, lu_t, lu_c, lu_j, forall_eq, Int.toNat_natCast, true_and, and_true, not_true, not_false_iff, Classical.not_not, forall_const, iI_inj, n2] at z
          omega
      · have hB : LI (rns (mvs A s f (nC A)) k) := rns_LI (mvs_LI hA s f _ h1.2) k (by omega)
        have hBn := n2 k
        have e1 : rns (mvs A s f (nC A)) (k + 1) = rn (rns (mvs A s f (nC A)) k) k := rfl
        have e2 : rsu (mvs A s f (nC A)) (k + 1) = rsu (mvs A s f (nC A)) k + rf (rns (mvs A s f (nC A)) k) k := rfl
        rw [e1, e2] at ih
        generalize rns (mvs A s f (nC A)) k = B at hB hBn ih ⊢
        have hk6 : k < 6 := by omega
        have hkd := hB.kd hk6
        have hfd := hB.fd hk6
        have hwa := hB.wa hk6
        have hw := rk_r (B 1 0 k)
        have hrv := rv_lt B k
        have hnv := hB.nv
        refine rg_m_hour_36 hP ⟨fun z => ?_, fun z => ⟨_, _, sp_mOver (by omega) (by omega) hB, ?_⟩⟩
        · simp (disch := omega) only [nl_0, nl_1, nl_2, nl_3, nl_4, nl_5, nl_6, nl_7, nl_8, nl_9, nl_10, nl_11, nl_12, nl_13, nl_14, nl_15, nl_16, nl_17, nl_18, nl_19, nl_20, nl_21, nl_22, nl_23, nl_24, nl_25, nl_26, nl_27, nl_28, nl_31, nl_32, nl_42, nl_44, nl_46, nl_48, nl_49, nl_50, nl_51, nl_60, nl_75, nl_76, nl_99, nl_100, nl_108, nl_114, nl_117, nl_126, nl_255, nl_999, nl_2401, nl_9999, nl_12345, nl_65536, nl_1000000, nl_1103515245, nl_2147483647, iI_0, iI_neg, iI_add, iI_sub, iI_mul, iI_div, iI_mod, iI_lt, iI_le, iI_eq, iI_nat, iI_vp, ld_rd, ld_wl, lu_s, lu_t, lu_c, lu_j, forall_eq, Int.toNat_natCast, true_and, and_true, not_true, not_false_iff, Classical.not_not, forall_const, iI_inj, hBn] at z
          omega
        · clear z
          simp only [Int.toNat_natCast]
          by_cases c2 : B 2 0 k = 25
          · rw [rn_25 c2, rf_25 c2, Int.add_zero] at ih
            rw [if_neg (fun z => z c2)]
            refine ⟨fun z => ?_, fun z => absurd rfl z⟩
            simp (disch := omega) only [nl_0, nl_1, nl_2, nl_3, nl_4, nl_5, nl_6, nl_7, nl_8, nl_9, nl_10, nl_11, nl_12, nl_13, nl_14, nl_15, nl_16, nl_17, nl_18, nl_19, nl_20, nl_21, nl_22, nl_23, nl_24, nl_25, nl_26, nl_27, nl_28, nl_31, nl_32, nl_42, nl_44, nl_46, nl_48, nl_49, nl_50, nl_51, nl_60, nl_75, nl_76, nl_99, nl_100, nl_108, nl_114, nl_117, nl_126, nl_255, nl_999, nl_2401, nl_9999, nl_12345, nl_65536, nl_1000000, nl_1103515245, nl_2147483647, iI_0, iI_neg, iI_add, iI_sub, iI_mul, iI_div, iI_mod, iI_lt, iI_le, iI_eq, iI_nat, iI_vp, ld_rd, ld_wl, lu_s, lu_t, lu_c, lu_j, forall_eq, Int.toNat_natCast, true_and, and_true, not_true, not_false_iff, Classical.not_not, forall_const, iI_inj]
            exact ih _ _ _
          · rw [if_pos c2]
            refine ⟨fun z => absurd z (by decide), fun z => ?_⟩
            clear z
            have hfin : ∀ r, r = rf B k → ∀ o5 o6 o7, P 36 [some (mj_r (30, 60, 0)), some (mj_i (iI s)), some (mj_i (iI f)), some (mj_i (iI (rsu (mvs A s f (nC A)) k + r))), some (mj_i (iI ((k : Int) + 1))), o5, o6, o7] [] (mj_ld M 14 (rn B k)) := by
              intro r er o5 o6 o7
              rw [er]
              exact ih _ _ _
            have hr := rf_r hB hk6
            have hL : LI (lu (lu B 3 0 k (B 3 0 k - rf B k)) 9 0 (B 2 0 k).toNat (B 9 0 (B 2 0 k).toNat + rf B k)) := (hB.l3 (by omega)).hi (by decide)
            have hv : vl (lu (lu B 3 0 k (B 3 0 k - rf B k)) 9 0 (B 2 0 k).toNat (B 9 0 (B 2 0 k).toNat + rf B k) 5 0) (B 2 0 k) (nV (lu (lu B 3 0 k (B 3 0 k - rf B k)) 9 0 (B 2 0 k).toNat (B 9 0 (B 2 0 k).toNat + rf B k))) = rv B k := rfl
            have er : rf B k = if B 3 0 k < rk (B 1 0 k) then B 3 0 k else rk (B 1 0 k) := if_neg c2
            have en : rn B k = if 0 ≤ rv B k ∧ B 1 0 k ≠ 3 then lu (lu (lu B 3 0 k (B 3 0 k - rf B k)) 9 0 (B 2 0 k).toNat (B 9 0 (B 2 0 k).toNat + rf B k)) 8 0 (rv B k).toNat (B 8 0 (rv B k).toNat + rf B k) else lu (lu B 3 0 k (B 3 0 k - rf B k)) 9 0 (B 2 0 k).toNat (B 9 0 (B 2 0 k).toNat + rf B k) := if_neg c2
            simp (disch := omega) only [nl_0, nl_1, nl_2, nl_3, nl_4, nl_5, nl_6, nl_7, nl_8, nl_9, nl_10, nl_11, nl_12, nl_13, nl_14, nl_15, nl_16, nl_17, nl_18, nl_19, nl_20, nl_21, nl_22, nl_23, nl_24, nl_25, nl_26, nl_27, nl_28, nl_31, nl_32, nl_42, nl_44, nl_46, nl_48, nl_49, nl_50, nl_51, nl_60, nl_75, nl_76, nl_99, nl_100, nl_108, nl_114, nl_117, nl_126, nl_255, nl_999, nl_2401, nl_9999, nl_12345, nl_65536, nl_1000000, nl_1103515245, nl_2147483647, iI_0, iI_neg, iI_add, iI_sub, iI_mul, iI_div, iI_mod, iI_lt, iI_le, iI_eq, iI_nat, iI_vp, ld_rd, ld_wl, lu_s, lu_t, lu_c, lu_j, forall_eq, Int.toNat_natCast, true_and, and_true, not_true, not_false_iff, Classical.not_not, forall_const, iI_inj, nd, nlf, nlk, nlw]
            refine ⟨_, _, sp_mrains (by omega) hkd, ?_⟩
            simp (disch := omega) only [nl_0, nl_1, nl_2, nl_3, nl_4, nl_5, nl_6, nl_7, nl_8, nl_9, nl_10, nl_11, nl_12, nl_13, nl_14, nl_15, nl_16, nl_17, nl_18, nl_19, nl_20, nl_21, nl_22, nl_23, nl_24, nl_25, nl_26, nl_27, nl_28, nl_31, nl_32, nl_42, nl_44, nl_46, nl_48, nl_49, nl_50, nl_51, nl_60, nl_75, nl_76, nl_99, nl_100, nl_108, nl_114, nl_117, nl_126, nl_255, nl_999, nl_2401, nl_9999, nl_12345, nl_65536, nl_1000000, nl_1103515245, nl_2147483647, iI_0, iI_neg, iI_add, iI_sub, iI_mul, iI_div, iI_mod, iI_lt, iI_le, iI_eq, iI_nat, iI_vp, ld_rd, ld_wl, lu_s, lu_t, lu_c, lu_j, forall_eq, Int.toNat_natCast, true_and, and_true, not_true, not_false_iff, Classical.not_not, forall_const, iI_inj, nd, nlf, nlk, nlw, nw, nlF]
            refine ⟨fun z => ?_, fun z => ?_⟩
            · have e3 : B 3 0 k = rf B k := by omega
              have hz : B 3 0 k - B 3 0 k = B 3 0 k - rf B k := by rw [← e3]
              have hz2 : B 9 0 (B 2 0 k).toNat + B 3 0 k = B 9 0 (B 2 0 k).toNat + rf B k := by rw [← e3]
              rw [hz, hz2]
              refine ⟨_, _, sp_mVin (by omega) (by omega) hL, ?_⟩
              rw [hv]
              simp (disch := omega) only [nl_0, nl_1, nl_2, nl_3, nl_4, nl_5, nl_6, nl_7, nl_8, nl_9, nl_10, nl_11, nl_12, nl_13, nl_14, nl_15, nl_16, nl_17, nl_18, nl_19, nl_20, nl_21, nl_22, nl_23, nl_24, nl_25, nl_26, nl_27, nl_28, nl_31, nl_32, nl_42, nl_44, nl_46, nl_48, nl_49, nl_50, nl_51, nl_60, nl_75, nl_76, nl_99, nl_100, nl_108, nl_114, nl_117, nl_126, nl_255, nl_999, nl_2401, nl_9999, nl_12345, nl_65536, nl_1000000, nl_1103515245, nl_2147483647, iI_0, iI_neg, iI_add, iI_sub, iI_mul, iI_div, iI_mod, iI_lt, iI_le, iI_eq, iI_nat, iI_vp, ld_rd, ld_wl, lu_s, lu_t, lu_c, lu_j, forall_eq, Int.toNat_natCast, true_and, and_true, not_true, not_false_iff, Classical.not_not, forall_const, iI_inj, nd, nlk, nlW, nw]
              refine ⟨fun z => ?_, fun z => ⟨fun z2 => ?_, fun z2 => ?_⟩⟩
              · rw [if_neg (by omega)] at en
                rw [← en]
                exact hfin _ e3 _ _ _
              · rw [if_neg (by omega)] at en
                rw [← en]
                exact hfin _ e3 _ _ _
              · have hz3 : B 8 0 (rv B k).toNat + B 3 0 k = B 8 0 (rv B k).toNat + rf B k := by rw [← e3]
                rw [if_pos (by omega)] at en
                simp (disch := omega) only [nl_0, nl_1, nl_2, nl_3, nl_4, nl_5, nl_6, nl_7, nl_8, nl_9, nl_10, nl_11, nl_12, nl_13, nl_14, nl_15, nl_16, nl_17, nl_18, nl_19, nl_20, nl_21, nl_22, nl_23, nl_24, nl_25, nl_26, nl_27, nl_28, nl_31, nl_32, nl_42, nl_44, nl_46, nl_48, nl_49, nl_50, nl_51, nl_60, nl_75, nl_76, nl_99, nl_100, nl_108, nl_114, nl_117, nl_126, nl_255, nl_999, nl_2401, nl_9999, nl_12345, nl_65536, nl_1000000, nl_1103515245, nl_2147483647, iI_0, iI_neg, iI_add, iI_sub, iI_mul, iI_div, iI_mod, iI_lt, iI_le, iI_eq, iI_nat, iI_vp, ld_rd, ld_wl, lu_s, lu_t, lu_c, lu_j, forall_eq, Int.toNat_natCast, true_and, and_true, not_true, not_false_iff, Classical.not_not, forall_const, iI_inj, nd, nlk, nlW, nw]
                rw [hz3, ← en]
                exact hfin _ e3 _ _ _
            · have e3 : rk (B 1 0 k) = rf B k := by omega
              rw [e3]
              refine ⟨_, _, sp_mVin (by omega) (by omega) hL, ?_⟩
              rw [hv]
              simp (disch := omega) only [nl_0, nl_1, nl_2, nl_3, nl_4, nl_5, nl_6, nl_7, nl_8, nl_9, nl_10, nl_11, nl_12, nl_13, nl_14, nl_15, nl_16, nl_17, nl_18, nl_19, nl_20, nl_21, nl_22, nl_23, nl_24, nl_25, nl_26, nl_27, nl_28, nl_31, nl_32, nl_42, nl_44, nl_46, nl_48, nl_49, nl_50, nl_51, nl_60, nl_75, nl_76, nl_99, nl_100, nl_108, nl_114, nl_117, nl_126, nl_255, nl_999, nl_2401, nl_9999, nl_12345, nl_65536, nl_1000000, nl_1103515245, nl_2147483647, iI_0, iI_neg, iI_add, iI_sub, iI_mul, iI_div, iI_mod, iI_lt, iI_le, iI_eq, iI_nat, iI_vp, ld_rd, ld_wl, lu_s, lu_t, lu_c, lu_j, forall_eq, Int.toNat_natCast, true_and, and_true, not_true, not_false_iff, Classical.not_not, forall_const, iI_inj, nd, nlk, nlW, nw]
              refine ⟨fun z => ?_, fun z => ⟨fun z2 => ?_, fun z2 => ?_⟩⟩
              · rw [if_neg (by omega)] at en
                rw [← en]
                exact hfin _ rfl _ _ _
              · rw [if_neg (by omega)] at en
                rw [← en]
                exact hfin _ rfl _ _ _
              · rw [if_pos (by omega)] at en
                simp (disch := omega) only [nl_0, nl_1, nl_2, nl_3, nl_4, nl_5, nl_6, nl_7, nl_8, nl_9, nl_10, nl_11, nl_12, nl_13, nl_14, nl_15, nl_16, nl_17, nl_18, nl_19, nl_20, nl_21, nl_22, nl_23, nl_24, nl_25, nl_26, nl_27, nl_28, nl_31, nl_32, nl_42, nl_44, nl_46, nl_48, nl_49, nl_50, nl_51, nl_60, nl_75, nl_76, nl_99, nl_100, nl_108, nl_114, nl_117, nl_126, nl_255, nl_999, nl_2401, nl_9999, nl_12345, nl_65536, nl_1000000, nl_1103515245, nl_2147483647, iI_0, iI_neg, iI_add, iI_sub, iI_mul, iI_div, iI_mod, iI_lt, iI_le, iI_eq, iI_nat, iI_vp, ld_rd, ld_wl, lu_s, lu_t, lu_c, lu_j, forall_eq, Int.toNat_natCast, true_and, and_true, not_true, not_false_iff, Classical.not_not, forall_const, iI_inj, nd, nlk, nlW, nw]
                rw [← en]
                exact hfin _ rfl _ _ _
    · simp (disch := omega) only [nl_0, nl_1, nl_2, nl_3, nl_4, nl_5, nl_6, nl_7, nl_8, nl_9, nl_10, nl_11, nl_12, nl_13, nl_14, nl_15, nl_16, nl_17, nl_18, nl_19, nl_20, nl_21, nl_22, nl_23, nl_24, nl_25, nl_26, nl_27, nl_28, nl_31, nl_32, nl_42, nl_44, nl_46, nl_48, nl_49, nl_50, nl_51, nl_60, nl_75, nl_76, nl_99, nl_100, nl_108, nl_114, nl_117, nl_126, nl_255, nl_999, nl_2401, nl_9999, nl_12345, nl_65536, nl_1000000, nl_1103515245, nl_2147483647, iI_0, iI_neg, iI_add, iI_sub, iI_mul, iI_div, iI_mod, iI_lt, iI_le, iI_eq, iI_nat, iI_vp, ld_rd, ld_wl, lu_s, lu_t, lu_c, lu_j, forall_eq, Int.toNat_natCast, true_and, and_true, not_true, not_false_iff, Classical.not_not, forall_const, iI_inj, n1] at z
      omega
  · have hB : LI (mvs A s f k) := mvs_LI hA s f k (by omega)
    have e1 : mvs A s f (k + 1) = mv (mvs A s f k) k s f := rfl
    have hBn := n1 k
    rw [e1] at ih
    generalize mvs A s f k = B at hB hBn ih ⊢
    refine rg_m_hour_2 hP ⟨fun z => ?_, fun z => ⟨_, _, sp_mOver (by omega) (by omega) hB, ?_⟩⟩
    · simp (disch := omega) only [nl_0, nl_1, nl_2, nl_3, nl_4, nl_5, nl_6, nl_7, nl_8, nl_9, nl_10, nl_11, nl_12, nl_13, nl_14, nl_15, nl_16, nl_17, nl_18, nl_19, nl_20, nl_21, nl_22, nl_23, nl_24, nl_25, nl_26, nl_27, nl_28, nl_31, nl_32, nl_42, nl_44, nl_46, nl_48, nl_49, nl_50, nl_51, nl_60, nl_75, nl_76, nl_99, nl_100, nl_108, nl_114, nl_117, nl_126, nl_255, nl_999, nl_2401, nl_9999, nl_12345, nl_65536, nl_1000000, nl_1103515245, nl_2147483647, iI_0, iI_neg, iI_add, iI_sub, iI_mul, iI_div, iI_mod, iI_lt, iI_le, iI_eq, iI_nat, iI_vp, ld_rd, ld_wl, lu_s, lu_t, lu_c, lu_j, forall_eq, Int.toNat_natCast, true_and, and_true, not_true, not_false_iff, Classical.not_not, forall_const, iI_inj, hBn] at z
      omega
    · simp only [Int.toNat_natCast]
      by_cases c2 : B 2 0 k = 25
      · rw [mv_25 c2] at ih
        rw [if_neg (fun z => z c2)]
        refine ⟨fun z => ?_, fun z => absurd rfl z⟩
        simp (disch := omega) only [nl_0, nl_1, nl_2, nl_3, nl_4, nl_5, nl_6, nl_7, nl_8, nl_9, nl_10, nl_11, nl_12, nl_13, nl_14, nl_15, nl_16, nl_17, nl_18, nl_19, nl_20, nl_21, nl_22, nl_23, nl_24, nl_25, nl_26, nl_27, nl_28, nl_31, nl_32, nl_42, nl_44, nl_46, nl_48, nl_49, nl_50, nl_51, nl_60, nl_75, nl_76, nl_99, nl_100, nl_108, nl_114, nl_117, nl_126, nl_255, nl_999, nl_2401, nl_9999, nl_12345, nl_65536, nl_1000000, nl_1103515245, nl_2147483647, iI_0, iI_neg, iI_add, iI_sub, iI_mul, iI_div, iI_mod, iI_lt, iI_le, iI_eq, iI_nat, iI_vp, ld_rd, ld_wl, lu_s, lu_t, lu_c, lu_j, forall_eq, Int.toNat_natCast, true_and, and_true, not_true, not_false_iff, Classical.not_not, forall_const, iI_inj]
        exact ih
      · rw [if_pos c2]
        refine ⟨fun z => absurd z (by decide), fun z => ⟨_, sp_mmoves (by omega) hB (by omega) c2 gs gf, ?_⟩⟩
        simp (disch := omega) only [nl_0, nl_1, nl_2, nl_3, nl_4, nl_5, nl_6, nl_7, nl_8, nl_9, nl_10, nl_11, nl_12, nl_13, nl_14, nl_15, nl_16, nl_17, nl_18, nl_19, nl_20, nl_21, nl_22, nl_23, nl_24, nl_25, nl_26, nl_27, nl_28, nl_31, nl_32, nl_42, nl_44, nl_46, nl_48, nl_49, nl_50, nl_51, nl_60, nl_75, nl_76, nl_99, nl_100, nl_108, nl_114, nl_117, nl_126, nl_255, nl_999, nl_2401, nl_9999, nl_12345, nl_65536, nl_1000000, nl_1103515245, nl_2147483647, iI_0, iI_neg, iI_add, iI_sub, iI_mul, iI_div, iI_mod, iI_lt, iI_le, iI_eq, iI_nat, iI_vp, ld_rd, ld_wl, lu_s, lu_t, lu_c, lu_j, forall_eq, Int.toNat_natCast, true_and, and_true, not_true, not_false_iff, Classical.not_not, forall_const, iI_inj]
        exact ih
/-! winds -/
/-- a row of winds: how many, sides, forces -/
def WD (M : mj_M) (p n : Nat) (S F : Nat → Int) : Prop := M p 10 0 0 = iI (n : Int) ∧ n ≤ 12 ∧ ∀ j, j < n → M p 11 0 j = iI (S j) ∧ M p 12 0 j = iI (F j) ∧ (0 ≤ S j ∧ S j ≤ 3) ∧ 0 ≤ F j ∧ F j ≤ 3
def wS (n : Nat) (S : Nat → Int) (h : Int) : Int := if n = 0 then 0 else S (h.toNat % n)
theorem wS_r {M : mj_M} {p n : Nat} {S F : Nat → Int} (h : WD M p n S F) (k : Int) : (0 ≤ wS n S k ∧ wS n S k ≤ 3) ∧ 0 ≤ wS n F k ∧ wS n F k ≤ 3 := by
  unfold wS
  by_cases g : n = 0
  · rw [if_pos g, if_pos g]; omega
  · rw [if_neg g, if_neg g]
    have := h.2.2 (k.toNat % n) (Nat.mod_lt _ (by omega))
    exact ⟨this.2.2.1, this.2.2.2⟩
theorem WD.ld {M : mj_M} {p n i : Nat} {S F : Nat → Int} {A : lA} (h : WD M p n S F) : WD (mj_ld M i A) p n S F :=
  ⟨(ld_hi (by decide)).trans h.1, h.2.1, fun j hj => ⟨(ld_hi (by decide)).trans (h.2.2 j hj).1, (ld_hi (by decide)).trans (h.2.2 j hj).2.1, (h.2.2 j hj).2.2⟩⟩
theorem WD.al {M : mj_M} {p n : Nat} {S F : Nat → Int} (h : WD M p n S F) {q : Nat} (e : M q = M p) : WD M q n S F := by
  unfold WD at h ⊢
  rw [e]
  exact h
theorem emod_nat {h : Int} {n : Nat} (h0 : 0 ≤ h) : (h % (n : Int)).toNat = h.toNat % n := by
  rw [Int.toNat_emod h0 (by omega), Int.toNat_natCast]
theorem sp_sideIn {d p n : Nat} (hd : 1 ≤ d) {M : mj_M} {S F : Nat → Int} (h : WD M p n S F) {k : Int} (hk : 0 ≤ k ∧ k < 2147483648) : mj_Sp d 83 [mj_r (p, 10, 0), mj_i (iI k)] M (some (mj_i (iI (wS n S k)))) M := by
  have h2 := h.2.1
  refine en_Wi_sideIn (k := 0) hd fun e he P hP hQ => rg_Wi_sideIn_0 hP ?_
  unfold wS
  by_cases g : n = 0
  · rw [if_pos g]
    simp (disch := omega) only [nl_0, nl_1, nl_2, nl_3, nl_4, nl_5, nl_6, nl_7, nl_8, nl_9, nl_10, nl_11, nl_12, nl_13, nl_14, nl_15, nl_16, nl_17, nl_18, nl_19, nl_20, nl_21, nl_22, nl_23, nl_24, nl_25, nl_26, nl_27, nl_28, nl_31, nl_32, nl_42, nl_44, nl_46, nl_48, nl_49, nl_50, nl_51, nl_60, nl_75, nl_76, nl_99, nl_100, nl_108, nl_114, nl_117, nl_126, nl_255, nl_999, nl_2401, nl_9999, nl_12345, nl_65536, nl_1000000, nl_1103515245, nl_2147483647, iI_0, iI_neg, iI_add, iI_sub, iI_mul, iI_div, iI_mod, iI_lt, iI_le, iI_eq, iI_nat, iI_vp, ld_rd, ld_wl, lu_s, lu_t, lu_c, lu_j, forall_eq, Int.toNat_natCast, true_and, and_true, not_true, not_false_iff, Classical.not_not, forall_const, iI_inj, h.1]
    exact ⟨fun z => by (first | exact mj_eq.rf | exact fi_n mj_eq.rf | exact fi_i rfl mj_eq.rf | exact rfl), fun z => by omega⟩
  · have h5 : 0 ≤ k % (n : Int) := Int.emod_nonneg k (by omega)
    have h6 : k % (n : Int) < n := Int.emod_lt_of_pos k (by omega)
    have e2 := (h.2.2 (k.toNat % n) (Nat.mod_lt _ (by omega))).1
    rw [if_neg g]
    simp (disch := omega) only [nl_0, nl_1, nl_2, nl_3, nl_4, nl_5, nl_6, nl_7, nl_8, nl_9, nl_10, nl_11, nl_12, nl_13, nl_14, nl_15, nl_16, nl_17, nl_18, nl_19, nl_20, nl_21, nl_22, nl_23, nl_24, nl_25, nl_26, nl_27, nl_28, nl_31, nl_32, nl_42, nl_44, nl_46, nl_48, nl_49, nl_50, nl_51, nl_60, nl_75, nl_76, nl_99, nl_100, nl_108, nl_114, nl_117, nl_126, nl_255, nl_999, nl_2401, nl_9999, nl_12345, nl_65536, nl_1000000, nl_1103515245, nl_2147483647, iI_0, iI_neg, iI_add, iI_sub, iI_mul, iI_div, iI_mod, iI_lt, iI_le, iI_eq, iI_nat, iI_vp, ld_rd, ld_wl, lu_s, lu_t, lu_c, lu_j, forall_eq, Int.toNat_natCast, true_and, and_true, not_true, not_false_iff, Classical.not_not, forall_const, iI_inj, h.1, emod_nat hk.1, e2]
    exact ⟨fun z => by omega, fun z => ⟨by omega, by (first | exact mj_eq.rf | exact fi_n mj_eq.rf | exact fi_i rfl mj_eq.rf | exact rfl)⟩⟩
theorem sp_forceIn {d p n : Nat} (hd : 1 ≤ d) {M : mj_M} {S F : Nat → Int} (h : WD M p n S F) {k : Int} (hk : 0 ≤ k ∧ k < 2147483648) : mj_Sp d 84 [mj_r (p, 10, 0), mj_i (iI k)] M (some (mj_i (iI (wS n F k)))) M := by
  have h2 := h.2.1
  refine en_Wi_forceIn (k := 0) hd fun e he P hP hQ => rg_Wi_forceIn_0 hP ?_
  unfold wS
  by_cases g : n = 0
  · rw [if_pos g]
    simp (disch := omega) only [nl_0, nl_1, nl_2, nl_3, nl_4, nl_5, nl_6, nl_7, nl_8, nl_9, nl_10, nl_11, nl_12, nl_13, nl_14, nl_15, nl_16, nl_17, nl_18, nl_19, nl_20, nl_21, nl_22, nl_23, nl_24, nl_25, nl_26, nl_27, nl_28, nl_31, nl_32, nl_42, nl_44, nl_46, nl_48, nl_49, nl_50, nl_51, nl_60, nl_75, nl_76, nl_99, nl_100, nl_108, nl_114, nl_117, nl_126, nl_255, nl_999, nl_2401, nl_9999, nl_12345, nl_65536, nl_1000000, nl_1103515245, nl_2147483647, iI_0, iI_neg, iI_add, iI_sub, iI_mul, iI_div, iI_mod, iI_lt, iI_le, iI_eq, iI_nat, iI_vp, ld_rd, ld_wl, lu_s, lu_t, lu_c, lu_j, forall_eq, Int.toNat_natCast, true_and, and_true, not_true, not_false_iff, Classical.not_not, forall_const, iI_inj, h.1]
    exact ⟨fun z => by (first | exact mj_eq.rf | exact fi_n mj_eq.rf | exact fi_i rfl mj_eq.rf | exact rfl), fun z => by omega⟩
  · have h5 : 0 ≤ k % (n : Int) := Int.emod_nonneg k (by omega)
    have h6 : k % (n : Int) < n := Int.emod_lt_of_pos k (by omega)
    have e2 := (h.2.2 (k.toNat % n) (Nat.mod_lt _ (by omega))).2.1
    rw [if_neg g]
    simp (disch := omega) only [nl_0, nl_1, nl_2, nl_3, nl_4, nl_5, nl_6, nl_7, nl_8, nl_9, nl_10, nl_11, nl_12, nl_13, nl_14, nl_15, nl_16, nl_17, nl_18, nl_19, nl_20, nl_21, nl_22, nl_23, nl_24, nl_25, nl_26, nl_27, nl_28, nl_31, nl_32, nl_42, nl_44, nl_46, nl_48, nl_49, nl_50, nl_51, nl_60, nl_75, nl_76, nl_99, nl_100, nl_108, nl_114, nl_117, nl_126, nl_255, nl_999, nl_2401, nl_9999, nl_12345, nl_65536, nl_1000000, nl_1103515245, nl_2147483647, iI_0, iI_neg, iI_add, iI_sub, iI_mul, iI_div, iI_mod, iI_lt, iI_le, iI_eq, iI_nat, iI_vp, ld_rd, ld_wl, lu_s, lu_t, lu_c, lu_j, forall_eq, Int.toNat_natCast, true_and, and_true, not_true, not_false_iff, Classical.not_not, forall_const, iI_inj, h.1, emod_nat hk.1, e2]
    exact ⟨fun z => by omega, fun z => ⟨by omega, by (first | exact mj_eq.rf | exact fi_n mj_eq.rf | exact fi_i rfl mj_eq.rf | exact rfl)⟩⟩
/-! hours by winds -/
def gs (A : lA) (n : Nat) (S F : Nat → Int) : Nat → lA
  | 0 => A
  | k + 1 => hr (gs A n S F k) (wS n S (gs A n S F k 0 0 2)) (wS n F (gs A n S F k 0 0 2))
def gsu (A : lA) (n : Nat) (S F : Nat → Int) : Nat → Int
  | 0 => 0
  | k + 1 => gsu A n S F k + hfl (gs A n S F k) (wS n S (gs A n S F k 0 0 2)) (wS n F (gs A n S F k 0 0 2))
theorem hr_h {A : lA} {s f : Int} : hr A s f 0 0 2 = A 0 0 2 + 1 := lu_s
theorem gs_h {A : lA} {n : Nat} {S F : Nat → Int} : ∀ k, gs A n S F k 0 0 2 = A 0 0 2 + (k : Int)
  | 0 => (Int.add_zero _).symm
  | k + 1 => by
    show hr _ _ _ 0 0 2 = _
    rw [hr_h, gs_h k]
    omega
theorem gs_LI {A : lA} {n : Nat} {S F : Nat → Int} (h : LI A) : ∀ k, LI (gs A n S F k)
  | 0 => h
  | k + 1 => hr_LI (gs_LI h k) _ _
theorem gs_lo {A : lA} {n : Nat} {S F : Nat → Int} {t i j : Nat} (h : t = 0 ∧ j ≠ 2 ∨ t = 1 ∨ t = 5 ∨ t = 7) : ∀ k, gs A n S F k t i j = A t i j
  | 0 => rfl
  | k + 1 => (hr_lo h).trans (gs_lo h k)
theorem sp_mgoes {d m n : Nat} (hd : 5 ≤ d) {A : lA} {M : mj_M} {S F : Nat → Int} (hA : LI A) (hW : WD M 34 n S F) (hh : 0 ≤ A 0 0 2 ∧ A 0 0 2 ≤ 100000) (hm : m ≤ 1000) : mj_Sp d 118 [mj_r (30, 60, 0), mj_i (iI (m : Int))] (mj_ld M 14 A) (some (mj_i (iI (gsu A n S F m)))) (mj_ld M 14 (gs A n S F m)) := by
  refine en_m_goes (k := 4) hd fun e he P hP hQ => rg_m_goes_0 hP ?_
  refine lp_dn (Q := fun k => ∀ o4, P 4 [some (mj_r (30, 60, 0)), some (mj_i (iI (m : Int))), some (mj_i (iI (gsu A n S F k))), some (mj_i (iI (k : Int))), o4] [] (mj_ld M 14 (gs A n S F k))) (n := m) (fun o4 => ?_) (fun k hk ih o4 => ?_) 0 (Nat.zero_le _) none
  · refine rg_m_goes_4 hP ⟨fun z => fi_i rfl mj_eq.rf, fun z => ?_⟩
    simp (disch := omega) only [nl_0, nl_1, nl_2, nl_3, nl_4, nl_5, nl_6, nl_7, nl_8, nl_9, nl_10, nl_11, nl_12, nl_13, nl_14, nl_15, nl_16, nl_17, nl_18, nl_19, nl_20, nl_21, nl_22, nl_23, nl_24, nl_25, nl_26, nl_27, nl_28, nl_31, nl_32, nl_42, nl_44, nl_46, nl_48, nl_49, nl_50, nl_51, nl_60, nl_75, nl_76, nl_99, nl_100, nl_108, nl_114, nl_117, nl_126, nl_255, nl_999, nl_2401, nl_9999, nl_12345, nl_65536, nl_1000000, nl_1103515245, nl_2147483647, iI_0, iI_neg, iI_add, iI_sub, iI_mul, iI_div, iI_mod, iI_lt, iI_le, iI_eq, iI_nat, iI_vp, ld_rd, ld_wl, lu_s, lu_t, lu_c, lu_j, forall_eq, Int.toNat_natCast, true_and, and_true, not_true, not_false_iff, Classical.not_not, forall_const, iI_inj] at z
    omega
  · have hB : LI (gs A n S F k) := gs_LI hA k
    have eh : gs A n S F k 0 0 2 = A 0 0 2 + (k : Int) := gs_h k
    have e1 : gs A n S F (k + 1) = hr (gs A n S F k) (wS n S (gs A n S F k 0 0 2)) (wS n F (gs A n S F k 0 0 2)) := rfl
    have e2 : gsu A n S F (k + 1) = gsu A n S F k + hfl (gs A n S F k) (wS n S (gs A n S F k 0 0 2)) (wS n F (gs A n S F k 0 0 2)) := rfl
    rw [e1, e2] at ih
    have hr := wS_r hW (gs A n S F k 0 0 2)
    generalize gs A n S F k = B at hB ih eh hr ⊢
    have hw1 : mj_ld M 14 B 34 10 0 0 = iI (n : Int) := (hW.ld (i := 14) (A := B)).1
    have hn := hW.2.1
    refine rg_m_goes_4 hP ⟨fun z => ?_, fun z => ?_⟩
    · simp (disch := omega) only [nl_0, nl_1, nl_2, nl_3, nl_4, nl_5, nl_6, nl_7, nl_8, nl_9, nl_10, nl_11, nl_12, nl_13, nl_14, nl_15, nl_16, nl_17, nl_18, nl_19, nl_20, nl_21, nl_22, nl_23, nl_24, nl_25, nl_26, nl_27, nl_28, nl_31, nl_32, nl_42, nl_44, nl_46, nl_48, nl_49, nl_50, nl_51, nl_60, nl_75, nl_76, nl_99, nl_100, nl_108, nl_114, nl_117, nl_126, nl_255, nl_999, nl_2401, nl_9999, nl_12345, nl_65536, nl_1000000, nl_1103515245, nl_2147483647, iI_0, iI_neg, iI_add, iI_sub, iI_mul, iI_div, iI_mod, iI_lt, iI_le, iI_eq, iI_nat, iI_vp, ld_rd, ld_wl, lu_s, lu_t, lu_c, lu_j, forall_eq, Int.toNat_natCast, true_and, and_true, not_true, not_false_iff, Classical.not_not, forall_const, iI_inj] at z
      omega
    · clear z
      by_cases g : n = 0
      · have hw : ∀ G : Nat → Int, wS n G (B 0 0 2) = 0 := fun G => if_pos g
        rw [hw, hw] at ih
        simp (disch := omega) only [nl_0, nl_1, nl_2, nl_3, nl_4, nl_5, nl_6, nl_7, nl_8, nl_9, nl_10, nl_11, nl_12, nl_13, nl_14, nl_15, nl_16, nl_17, nl_18, nl_19, nl_20, nl_21, nl_22, nl_23, nl_24, nl_25, nl_26, nl_27, nl_28, nl_31, nl_32, nl_42, nl_44, nl_46, nl_48, nl_49, nl_50, nl_51, nl_60, nl_75, nl_76, nl_99, nl_100, nl_108, nl_114, nl_117, nl_126, nl_255, nl_999, nl_2401, nl_9999, nl_12345, nl_65536, nl_1000000, nl_1103515245, nl_2147483647, iI_0, iI_neg, iI_add, iI_sub, iI_mul, iI_div, iI_mod, iI_lt, iI_le, iI_eq, iI_nat, iI_vp, ld_rd, ld_wl, lu_s, lu_t, lu_c, lu_j, forall_eq, Int.toNat_natCast, true_and, and_true, not_true, not_false_iff, Classical.not_not, forall_const, iI_inj, hw1]
        refine ⟨fun z => by omega, fun z => ⟨fun z2 => by omega, fun z2 => ⟨_, _, sp_mhour (by omega) hB (by omega) (by omega), ?_⟩⟩⟩
        simp (disch := omega) only [nl_0, nl_1, nl_2, nl_3, nl_4, nl_5, nl_6, nl_7, nl_8, nl_9, nl_10, nl_11, nl_12, nl_13, nl_14, nl_15, nl_16, nl_17, nl_18, nl_19, nl_20, nl_21, nl_22, nl_23, nl_24, nl_25, nl_26, nl_27, nl_28, nl_31, nl_32, nl_42, nl_44, nl_46, nl_48, nl_49, nl_50, nl_51, nl_60, nl_75, nl_76, nl_99, nl_100, nl_108, nl_114, nl_117, nl_126, nl_255, nl_999, nl_2401, nl_9999, nl_12345, nl_65536, nl_1000000, nl_1103515245, nl_2147483647, iI_0, iI_neg, iI_add, iI_sub, iI_mul, iI_div, iI_mod, iI_lt, iI_le, iI_eq, iI_nat, iI_vp, ld_rd, ld_wl, lu_s, lu_t, lu_c, lu_j, forall_eq, Int.toNat_natCast, true_and, and_true, not_true, not_false_iff, Classical.not_not, forall_const, iI_inj]
        exact ih _
      · have h5 : 0 ≤ B 0 0 2 % (n : Int) := Int.emod_nonneg _ (by omega)
        have h6 : B 0 0 2 % (n : Int) < n := Int.emod_lt_of_pos _ (by omega)
        have ew : ∀ G : Nat → Int, wS n G (B 0 0 2) = G ((B 0 0 2).toNat % n) := fun G => if_neg g
        have hj := hW.2.2 ((B 0 0 2).toNat % n) (Nat.mod_lt _ (by omega))
        have hj1 : mj_ld M 14 B 34 11 0 ((B 0 0 2).toNat % n) = iI (S ((B 0 0 2).toNat % n)) := (ld_hi (by decide)).trans hj.1
        have hj2 : mj_ld M 14 B 34 12 0 ((B 0 0 2).toNat % n) = iI (F ((B 0 0 2).toNat % n)) := (ld_hi (by decide)).trans hj.2.1
        rw [ew, ew] at ih
        simp (disch := omega) only [nl_0, nl_1, nl_2, nl_3, nl_4, nl_5, nl_6, nl_7, nl_8, nl_9, nl_10, nl_11, nl_12, nl_13, nl_14, nl_15, nl_16, nl_17, nl_18, nl_19, nl_20, nl_21, nl_22, nl_23, nl_24, nl_25, nl_26, nl_27, nl_28, nl_31, nl_32, nl_42, nl_44, nl_46, nl_48, nl_49, nl_50, nl_51, nl_60, nl_75, nl_76, nl_99, nl_100, nl_108, nl_114, nl_117, nl_126, nl_255, nl_999, nl_2401, nl_9999, nl_12345, nl_65536, nl_1000000, nl_1103515245, nl_2147483647, iI_0, iI_neg, iI_add, iI_sub, iI_mul, iI_div, iI_mod, iI_lt, iI_le, iI_eq, iI_nat, iI_vp, ld_rd, ld_wl, lu_s, lu_t, lu_c, lu_j, forall_eq, Int.toNat_natCast, true_and, and_true, not_true, not_false_iff, Classical.not_not, forall_const, iI_inj, hw1, nd, nlT, emod_nat (show 0 ≤ B 0 0 2 by omega), hj1, hj2]
        refine ⟨fun z => ⟨by omega, fun z2 => ⟨_, _, sp_mhour (by omega) hB hj.2.2.1 hj.2.2.2, ?_⟩, fun z2 => by omega⟩, fun z => by omega⟩
        simp (disch := omega) only [nl_0, nl_1, nl_2, nl_3, nl_4, nl_5, nl_6, nl_7, nl_8, nl_9, nl_10, nl_11, nl_12, nl_13, nl_14, nl_15, nl_16, nl_17, nl_18, nl_19, nl_20, nl_21, nl_22, nl_23, nl_24, nl_25, nl_26, nl_27, nl_28, nl_31, nl_32, nl_42, nl_44, nl_46, nl_48, nl_49, nl_50, nl_51, nl_60, nl_75, nl_76, nl_99, nl_100, nl_108, nl_114, nl_117, nl_126, nl_255, nl_999, nl_2401, nl_9999, nl_12345, nl_65536, nl_1000000, nl_1103515245, nl_2147483647, iI_0, iI_neg, iI_add, iI_sub, iI_mul, iI_div, iI_mod, iI_lt, iI_le, iI_eq, iI_nat, iI_vp, ld_rd, ld_wl, lu_s, lu_t, lu_c, lu_j, forall_eq, Int.toNat_natCast, true_and, and_true, not_true, not_false_iff, Classical.not_not, forall_const, iI_inj]
        exact ih _
