/-! contracts: held -/
def itI (I : Nat → Nat → Int32) (s : Nat) : Nat → Int := fun q => (I s q).toInt
def v_held (A : lA) (n : Nat) (S F : Nat → Int) (ln sz : Nat → Int) (I : Nat → Nat → Int32) (m s i : Nat) (j : Int) : Int :=
  if (nV A : Int) ≤ j then -4 else if j < 0 then (cP (hB A n S F m i (itI I s) (nV A)) (7 ^ nV A) : Int) else if cP (hB A n S F m i (itI I s) (nV A)) (7 ^ nV A) = 0 then -4 else (dgt (fP (hB A n S F m i (itI I s) (nV A)) (7 ^ nV A)) (nV A) j.toNat : Int)
def s_held (A : lA) (n : Nat) (S F : Nat → Int) (ln sz : Nat → Int) (I : Nat → Nat → Int32) (m s lane i j : Int) : Int :=
  if m < 1 ∨ 12 < m ∨ s < 0 ∨ 3 < s ∨ lane < 0 ∨ 2 < lane ∨ j < -1 ∨ 3 < j then -1 else if fo4 ln sz s.toNat lane i (nV A) ≠ 0 then fo4 ln sz s.toNat lane i (nV A) else if nV A = 0 then -2 else v_held A n S F ln sz I m.toNat s.toNat i.toNat j
theorem itI_r {I : Nat → Nat → Int32} {s : Nat} (j : Nat) : iR (itI I s j) := iI_rng _
theorem itI_e {I : Nat → Nat → Int32} {s j : Nat} : I s j = iI (itI I s j) := iI_to _
theorem c_held {d : Nat} (hd : 9 ≤ d) {A : lA} {M : mj_M} {n : Nat} {S F : Nat → Int} {ln sz : Nat → Int} {I : Nat → Nat → Int32} {m s lane i j : Int} (hm : iR m) (hs : iR s) (hl : iR lane) (hi : iR i) (hj : iR j) (hM : mj_sM M) (hA : LJ A) (hW : WD M 20 n S F) (hS : SC M ln sz I) (hI : SI ln sz) : ∃ M', mj_Sp d 23 [mj_r (13, 50, 0), mj_i (iI m), mj_i (iI s), mj_i (iI lane), mj_i (iI i), mj_i (iI j)] (mj_ld M 0 A) (some (mj_i (iI (s_held A n S F ln sz I m s lane i j)))) M' ∧ fr [4, 12, 24] (mj_ld M 0 A) M' := by
  have hnv := hA.li.nv
  have hS0 : SC (mj_ld M 0 A) ln sz I := hS.p (ld_p (by decide))
  have hkR : iR (nV A : Int) := by unfold iR; omega
  by_cases g : m < 1 ∨ 12 < m ∨ s < 0 ∨ 3 < s ∨ lane < 0 ∨ 2 < lane ∨ j < -1 ∨ 3 < j
  · refine ⟨mj_ld M 0 A, ?_, fr.r0⟩
    rw [show s_held A n S F ln sz I m s lane i j = -1 from if_pos g]
    refine en_C_held (k := 8) hd fun e he P hP hQ => rg_C_held_0 hP ?_
    have hs' := hs
    unfold iR at hm hj
    simp (disch := omega) only [nl_0, nl_1, nl_2, nl_3, nl_4, nl_5, nl_6, nl_7, nl_8, nl_9, nl_10, nl_11, nl_12, nl_13, nl_14, nl_15, nl_16, nl_17, nl_18, nl_19, nl_20, nl_21, nl_22, nl_23, nl_24, nl_25, nl_26, nl_27, nl_28, nl_31, nl_32, nl_42, nl_44, nl_46, nl_48, nl_49, nl_50, nl_51, nl_60, nl_75, nl_76, nl_99, nl_100, nl_108, nl_114, nl_117, nl_126, nl_255, nl_999, nl_2401, nl_9999, nl_12345, nl_65536, nl_1000000, nl_1103515245, nl_2147483647, iI_0, iI_neg, iI_add, iI_sub, iI_mul, iI_div, iI_mod, iI_lt, iI_le, iI_eq, iI_nat, iI_vp, ld_rd, ld_wl, lu_s, lu_t, lu_c, lu_j, forall_eq, Int.toNat_natCast, true_and, and_true, not_true, not_false_iff, Classical.not_not, forall_const, iI_inj]
    refine bo1 (sp_oI (by omega) (by omega) (by omega) (by omega)) (fun c => by (first | exact mj_eq.rf | exact fi_n mj_eq.rf | exact fi_i rfl mj_eq.rf | exact rfl)) (fun c => bo1 (sp_noRowI (by omega) hs hl) (fun c2 => by (first | exact mj_eq.rf | exact fi_n mj_eq.rf | exact fi_i rfl mj_eq.rf | exact rfl)) (fun c2 => bo2 (sp_oI (by omega) (by omega) (by omega) (by omega)) (fun c3 => by (first | exact mj_eq.rf | exact fi_n mj_eq.rf | exact fi_i rfl mj_eq.rf | exact rfl)) (fun c3 => by omega)))
  · have hS1 : s.toNat < 4 := by omega
    obtain ⟨s, rfl⟩ := nat_iR (show 0 ≤ s by omega)
    obtain ⟨m, rfl⟩ := nat_iR (show 0 ≤ m by omega)
    have es : s_held A n S F ln sz I m s lane i j = if fo4 ln sz s lane i (nV A) ≠ 0 then fo4 ln sz s lane i (nV A) else if nV A = 0 then -2 else v_held A n S F ln sz I m s i.toNat j := if_neg g
    rw [es]
    have fr1 := fo4_r (ln := ln) (sz := sz) (s := s) (lane := lane) (i := i) (n := (nV A : Int))
    have pre : ∀ e, 2 ≤ e → mj_Sp e 69 [mj_r (7, 47, s), mj_i (iI lane), mj_i (iI i), mj_i (iI (nV A : Int))] (mj_ld M 0 A) (some (mj_i (iI (fo4 ln sz s lane i (nV A))))) (mj_ld M 0 A) := fun e he => sp_faultOf he hS0 hI hS1 (by omega) hi hkR
    by_cases f : fo4 ln sz s lane i (nV A) = 0
    · rw [if_neg (fun h => h f)]
      have f0 := fo4_0 f
      have h2 := (hI s hS1).2 f0.1
      by_cases k0 : nV A = 0
      · refine ⟨mj_ld M 0 A, ?_, fr.r0⟩
        rw [if_pos k0]
        refine en_C_held (k := 8) hd fun e he P hP hQ => rg_C_held_0 hP ?_
        have hs' := hs
        unfold iR at hm hj
        simp (disch := omega) only [nl_0, nl_1, nl_2, nl_3, nl_4, nl_5, nl_6, nl_7, nl_8, nl_9, nl_10, nl_11, nl_12, nl_13, nl_14, nl_15, nl_16, nl_17, nl_18, nl_19, nl_20, nl_21, nl_22, nl_23, nl_24, nl_25, nl_26, nl_27, nl_28, nl_31, nl_32, nl_42, nl_44, nl_46, nl_48, nl_49, nl_50, nl_51, nl_60, nl_75, nl_76, nl_99, nl_100, nl_108, nl_114, nl_117, nl_126, nl_255, nl_999, nl_2401, nl_9999, nl_12345, nl_65536, nl_1000000, nl_1103515245, nl_2147483647, iI_0, iI_neg, iI_add, iI_sub, iI_mul, iI_div, iI_mod, iI_lt, iI_le, iI_eq, iI_nat, iI_vp, ld_rd, ld_wl, lu_s, lu_t, lu_c, lu_j, forall_eq, Int.toNat_natCast, true_and, and_true, not_true, not_false_iff, Classical.not_not, forall_const, iI_inj]
        refine bo1 (sp_oI (by omega) (by omega) (by omega) (by omega)) (fun c => by omega) (fun c => bo1 (sp_noRowI (by omega) hs hl) (fun c2 => by omega) (fun c2 => bo2 (sp_oI (by omega) (by omega) (by omega) (by omega)) (fun c3 => by omega) (fun c3 => ?_)))
        unfold iR at hs
        simp (disch := omega) only [nl_0, nl_1, nl_2, nl_3, nl_4, nl_5, nl_6, nl_7, nl_8, nl_9, nl_10, nl_11, nl_12, nl_13, nl_14, nl_15, nl_16, nl_17, nl_18, nl_19, nl_20, nl_21, nl_22, nl_23, nl_24, nl_25, nl_26, nl_27, nl_28, nl_31, nl_32, nl_42, nl_44, nl_46, nl_48, nl_49, nl_50, nl_51, nl_60, nl_75, nl_76, nl_99, nl_100, nl_108, nl_114, nl_117, nl_126, nl_255, nl_999, nl_2401, nl_9999, nl_12345, nl_65536, nl_1000000, nl_1103515245, nl_2147483647, iI_0, iI_neg, iI_add, iI_sub, iI_mul, iI_div, iI_mod, iI_lt, iI_le, iI_eq, iI_nat, iI_vp, ld_rd, ld_wl, lu_s, lu_t, lu_c, lu_j, forall_eq, Int.toNat_natCast, true_and, and_true, not_true, not_false_iff, Classical.not_not, forall_const, iI_inj, hnv.1]
        refine ⟨_, _, pre e (by omega), ?_⟩
        rw [f]
        simp (disch := omega) only [nl_0, nl_1, nl_2, nl_3, nl_4, nl_5, nl_6, nl_7, nl_8, nl_9, nl_10, nl_11, nl_12, nl_13, nl_14, nl_15, nl_16, nl_17, nl_18, nl_19, nl_20, nl_21, nl_22, nl_23, nl_24, nl_25, nl_26, nl_27, nl_28, nl_31, nl_32, nl_42, nl_44, nl_46, nl_48, nl_49, nl_50, nl_51, nl_60, nl_75, nl_76, nl_99, nl_100, nl_108, nl_114, nl_117, nl_126, nl_255, nl_999, nl_2401, nl_9999, nl_12345, nl_65536, nl_1000000, nl_1103515245, nl_2147483647, iI_0, iI_neg, iI_add, iI_sub, iI_mul, iI_div, iI_mod, iI_lt, iI_le, iI_eq, iI_nat, iI_vp, ld_rd, ld_wl, lu_s, lu_t, lu_c, lu_j, forall_eq, Int.toNat_natCast, true_and, and_true, not_true, not_false_iff, Classical.not_not, forall_const, iI_inj, hnv.1]
        exact ⟨⟨fun z => by omega, fun _ => by (first | exact mj_eq.rf | exact fi_n mj_eq.rf | exact fi_i rfl mj_eq.rf | exact rfl)⟩, fun z => z.elim⟩
      · rw [if_neg k0]
        by_cases kj : (nV A : Int) ≤ j
        · refine ⟨mj_ld M 0 A, ?_, fr.r0⟩
          rw [show v_held A n S F ln sz I m s i.toNat j = -4 from if_pos kj]
          refine en_C_held (k := 8) hd fun e he P hP hQ => rg_C_held_0 hP ?_
          have hs' := hs
          unfold iR at hm hj
          simp (disch := omega) only [nl_0, nl_1, nl_2, nl_3, nl_4, nl_5, nl_6, nl_7, nl_8, nl_9, nl_10, nl_11, nl_12, nl_13, nl_14, nl_15, nl_16, nl_17, nl_18, nl_19, nl_20, nl_21, nl_22, nl_23, nl_24, nl_25, nl_26, nl_27, nl_28, nl_31, nl_32, nl_42, nl_44, nl_46, nl_48, nl_49, nl_50, nl_51, nl_60, nl_75, nl_76, nl_99, nl_100, nl_108, nl_114, nl_117, nl_126, nl_255, nl_999, nl_2401, nl_9999, nl_12345, nl_65536, nl_1000000, nl_1103515245, nl_2147483647, iI_0, iI_neg, iI_add, iI_sub, iI_mul, iI_div, iI_mod, iI_lt, iI_le, iI_eq, iI_nat, iI_vp, ld_rd, ld_wl, lu_s, lu_t, lu_c, lu_j, forall_eq, Int.toNat_natCast, true_and, and_true, not_true, not_false_iff, Classical.not_not, forall_const, iI_inj]
          refine bo1 (sp_oI (by omega) (by omega) (by omega) (by omega)) (fun c => by omega) (fun c => bo1 (sp_noRowI (by omega) hs hl) (fun c2 => by omega) (fun c2 => bo2 (sp_oI (by omega) (by omega) (by omega) (by omega)) (fun c3 => by omega) (fun c3 => ?_)))
          unfold iR at hs
          simp (disch := omega) only [nl_0, nl_1, nl_2, nl_3, nl_4, nl_5, nl_6, nl_7, nl_8, nl_9, nl_10, nl_11, nl_12, nl_13, nl_14, nl_15, nl_16, nl_17, nl_18, nl_19, nl_20, nl_21, nl_22, nl_23, nl_24, nl_25, nl_26, nl_27, nl_28, nl_31, nl_32, nl_42, nl_44, nl_46, nl_48, nl_49, nl_50, nl_51, nl_60, nl_75, nl_76, nl_99, nl_100, nl_108, nl_114, nl_117, nl_126, nl_255, nl_999, nl_2401, nl_9999, nl_12345, nl_65536, nl_1000000, nl_1103515245, nl_2147483647, iI_0, iI_neg, iI_add, iI_sub, iI_mul, iI_div, iI_mod, iI_lt, iI_le, iI_eq, iI_nat, iI_vp, ld_rd, ld_wl, lu_s, lu_t, lu_c, lu_j, forall_eq, Int.toNat_natCast, true_and, and_true, not_true, not_false_iff, Classical.not_not, forall_const, iI_inj, hnv.1]
          refine ⟨_, _, pre e (by omega), ?_⟩
          rw [f]
          simp (disch := omega) only [nl_0, nl_1, nl_2, nl_3, nl_4, nl_5, nl_6, nl_7, nl_8, nl_9, nl_10, nl_11, nl_12, nl_13, nl_14, nl_15, nl_16, nl_17, nl_18, nl_19, nl_20, nl_21, nl_22, nl_23, nl_24, nl_25, nl_26, nl_27, nl_28, nl_31, nl_32, nl_42, nl_44, nl_46, nl_48, nl_49, nl_50, nl_51, nl_60, nl_75, nl_76, nl_99, nl_100, nl_108, nl_114, nl_117, nl_126, nl_255, nl_999, nl_2401, nl_9999, nl_12345, nl_65536, nl_1000000, nl_1103515245, nl_2147483647, iI_0, iI_neg, iI_add, iI_sub, iI_mul, iI_div, iI_mod, iI_lt, iI_le, iI_eq, iI_nat, iI_vp, ld_rd, ld_wl, lu_s, lu_t, lu_c, lu_j, forall_eq, Int.toNat_natCast, true_and, and_true, not_true, not_false_iff, Classical.not_not, forall_const, iI_inj, hnv.1]
          exact ⟨⟨fun _ => ⟨fun z => by omega, fun _ => by (first | exact mj_eq.rf | exact fi_n mj_eq.rf | exact fi_i rfl mj_eq.rf | exact rfl)⟩, fun z => by omega⟩, fun z => z.elim⟩
        · obtain ⟨i, rfl⟩ := nat_iR f0.2.2.1
          obtain ⟨N', spp, f1, z1, w1⟩ := sp_findRows (s := s) (i := i) (m := m) (it := itI I s) hA hM hW rfl (by omega) (fun q hq => by rw [(hS s hS1).2 q hq]; exact itI_e) itI_r (by omega)
          have hp7 : 7 ^ nV A ≤ 2401 := by
            have h2 : 7 ^ nV A ≤ 7 ^ 4 := Nat.pow_le_pow_right (by decide) hnv.2
            have h3 : (7 : Nat) ^ 4 = 2401 := by decide
            omega
          have hck := cP_le (H := hB A n S F m i (itI I s) (nV A)) (7 ^ nV A)
          refine ⟨N', ?_, f1⟩
          rw [Int.toNat_natCast, show v_held A n S F ln sz I m s i j = if j < 0 then (cP (hB A n S F m i (itI I s) (nV A)) (7 ^ nV A) : Int) else if cP (hB A n S F m i (itI I s) (nV A)) (7 ^ nV A) = 0 then -4 else (dgt (fP (hB A n S F m i (itI I s) (nV A)) (7 ^ nV A)) (nV A) j.toNat : Int) from if_neg kj]
          refine en_C_held (k := 8) hd fun e he P hP hQ => rg_C_held_0 hP ?_
          have hs' := hs
          unfold iR at hm hj
          simp (disch := omega) only [nl_0, nl_1, nl_2, nl_3, nl_4, nl_5, nl_6, nl_7, nl_8, nl_9, nl_10, nl_11, nl_12, nl_13, nl_14, nl_15, nl_16, nl_17, nl_18, nl_19, nl_20, nl_21, nl_22, nl_23, nl_24, nl_25, nl_26, nl_27, nl_28, nl_31, nl_32, nl_42, nl_44, nl_46, nl_48, nl_49, nl_50, nl_51, nl_60, nl_75, nl_76, nl_99, nl_100, nl_108, nl_114, nl_117, nl_126, nl_255, nl_999, nl_2401, nl_9999, nl_12345, nl_65536, nl_1000000, nl_1103515245, nl_2147483647, iI_0, iI_neg, iI_add, iI_sub, iI_mul, iI_div, iI_mod, iI_lt, iI_le, iI_eq, iI_nat, iI_vp, ld_rd, ld_wl, lu_s, lu_t, lu_c, lu_j, forall_eq, Int.toNat_natCast, true_and, and_true, not_true, not_false_iff, Classical.not_not, forall_const, iI_inj]
          refine bo1 (sp_oI (by omega) (by omega) (by omega) (by omega)) (fun c => by omega) (fun c => bo1 (sp_noRowI (by omega) hs hl) (fun c2 => by omega) (fun c2 => bo2 (sp_oI (by omega) (by omega) (by omega) (by omega)) (fun c3 => by omega) (fun c3 => ?_)))
          unfold iR at hs
          simp (disch := omega) only [nl_0, nl_1, nl_2, nl_3, nl_4, nl_5, nl_6, nl_7, nl_8, nl_9, nl_10, nl_11, nl_12, nl_13, nl_14, nl_15, nl_16, nl_17, nl_18, nl_19, nl_20, nl_21, nl_22, nl_23, nl_24, nl_25, nl_26, nl_27, nl_28, nl_31, nl_32, nl_42, nl_44, nl_46, nl_48, nl_49, nl_50, nl_51, nl_60, nl_75, nl_76, nl_99, nl_100, nl_108, nl_114, nl_117, nl_126, nl_255, nl_999, nl_2401, nl_9999, nl_12345, nl_65536, nl_1000000, nl_1103515245, nl_2147483647, iI_0, iI_neg, iI_add, iI_sub, iI_mul, iI_div, iI_mod, iI_lt, iI_le, iI_eq, iI_nat, iI_vp, ld_rd, ld_wl, lu_s, lu_t, lu_c, lu_j, forall_eq, Int.toNat_natCast, true_and, and_true, not_true, not_false_iff, Classical.not_not, forall_const, iI_inj, hnv.1]
          refine ⟨_, _, pre e (by omega), ?_⟩
          rw [f]
          simp (disch := omega) only [nl_0, nl_1, nl_2, nl_3, nl_4, nl_5, nl_6, nl_7, nl_8, nl_9, nl_10, nl_11, nl_12, nl_13, nl_14, nl_15, nl_16, nl_17, nl_18, nl_19, nl_20, nl_21, nl_22, nl_23, nl_24, nl_25, nl_26, nl_27, nl_28, nl_31, nl_32, nl_42, nl_44, nl_46, nl_48, nl_49, nl_50, nl_51, nl_60, nl_75, nl_76, nl_99, nl_100, nl_108, nl_114, nl_117, nl_126, nl_255, nl_999, nl_2401, nl_9999, nl_12345, nl_65536, nl_1000000, nl_1103515245, nl_2147483647, iI_0, iI_neg, iI_add, iI_sub, iI_mul, iI_div, iI_mod, iI_lt, iI_le, iI_eq, iI_nat, iI_vp, ld_rd, ld_wl, lu_s, lu_t, lu_c, lu_j, forall_eq, Int.toNat_natCast, true_and, and_true, not_true, not_false_iff, Classical.not_not, forall_const, iI_inj, hnv.1]
          refine ⟨⟨fun _ => ⟨fun _ => ⟨_, spp e he, ?_⟩, fun z => by omega⟩, fun z => by omega⟩, fun z => z.elim⟩
          simp (disch := omega) only [nl_0, nl_1, nl_2, nl_3, nl_4, nl_5, nl_6, nl_7, nl_8, nl_9, nl_10, nl_11, nl_12, nl_13, nl_14, nl_15, nl_16, nl_17, nl_18, nl_19, nl_20, nl_21, nl_22, nl_23, nl_24, nl_25, nl_26, nl_27, nl_28, nl_31, nl_32, nl_42, nl_44, nl_46, nl_48, nl_49, nl_50, nl_51, nl_60, nl_75, nl_76, nl_99, nl_100, nl_108, nl_114, nl_117, nl_126, nl_255, nl_999, nl_2401, nl_9999, nl_12345, nl_65536, nl_1000000, nl_1103515245, nl_2147483647, iI_0, iI_neg, iI_add, iI_sub, iI_mul, iI_div, iI_mod, iI_lt, iI_le, iI_eq, iI_nat, iI_vp, ld_rd, ld_wl, lu_s, lu_t, lu_c, lu_j, forall_eq, Int.toNat_natCast, true_and, and_true, not_true, not_false_iff, Classical.not_not, forall_const, iI_inj, z1]
          refine ⟨fun z => ⟨fun z2 => ?_, fun z2 => ?_⟩, fun z => ?_⟩
          · have w2 := w1 (by omega) j.toNat (by omega)
            rw [if_neg (by omega), if_neg (by omega)]
            simp (disch := omega) only [nl_0, nl_1, nl_2, nl_3, nl_4, nl_5, nl_6, nl_7, nl_8, nl_9, nl_10, nl_11, nl_12, nl_13, nl_14, nl_15, nl_16, nl_17, nl_18, nl_19, nl_20, nl_21, nl_22, nl_23, nl_24, nl_25, nl_26, nl_27, nl_28, nl_31, nl_32, nl_42, nl_44, nl_46, nl_48, nl_49, nl_50, nl_51, nl_60, nl_75, nl_76, nl_99, nl_100, nl_108, nl_114, nl_117, nl_126, nl_255, nl_999, nl_2401, nl_9999, nl_12345, nl_65536, nl_1000000, nl_1103515245, nl_2147483647, iI_0, iI_neg, iI_add, iI_sub, iI_mul, iI_div, iI_mod, iI_lt, iI_le, iI_eq, iI_nat, iI_vp, ld_rd, ld_wl, lu_s, lu_t, lu_c, lu_j, forall_eq, Int.toNat_natCast, true_and, and_true, not_true, not_false_iff, Classical.not_not, forall_const, iI_inj, w2]
            (first | exact mj_eq.rf | exact fi_n mj_eq.rf | exact fi_i rfl mj_eq.rf | exact rfl)
          · rw [if_neg (by omega), if_pos (by omega)]
            (first | exact mj_eq.rf | exact fi_n mj_eq.rf | exact fi_i rfl mj_eq.rf | exact rfl)
          · rw [if_pos (by omega)]
            (first | exact mj_eq.rf | exact fi_n mj_eq.rf | exact fi_i rfl mj_eq.rf | exact rfl)
    · rw [if_pos f]
      refine ⟨mj_ld M 0 A, ?_, fr.r0⟩
      refine en_C_held (k := 8) hd fun e he P hP hQ => rg_C_held_0 hP ?_
      have hs' := hs
      unfold iR at hm hj
      simp (disch := omega) only [nl_0, nl_1, nl_2, nl_3, nl_4, nl_5, nl_6, nl_7, nl_8, nl_9, nl_10, nl_11, nl_12, nl_13, nl_14, nl_15, nl_16, nl_17, nl_18, nl_19, nl_20, nl_21, nl_22, nl_23, nl_24, nl_25, nl_26, nl_27, nl_28, nl_31, nl_32, nl_42, nl_44, nl_46, nl_48, nl_49, nl_50, nl_51, nl_60, nl_75, nl_76, nl_99, nl_100, nl_108, nl_114, nl_117, nl_126, nl_255, nl_999, nl_2401, nl_9999, nl_12345, nl_65536, nl_1000000, nl_1103515245, nl_2147483647, iI_0, iI_neg, iI_add, iI_sub, iI_mul, iI_div, iI_mod, iI_lt, iI_le, iI_eq, iI_nat, iI_vp, ld_rd, ld_wl, lu_s, lu_t, lu_c, lu_j, forall_eq, Int.toNat_natCast, true_and, and_true, not_true, not_false_iff, Classical.not_not, forall_const, iI_inj]
      refine bo1 (sp_oI (by omega) (by omega) (by omega) (by omega)) (fun c => by omega) (fun c => bo1 (sp_noRowI (by omega) hs hl) (fun c2 => by omega) (fun c2 => bo2 (sp_oI (by omega) (by omega) (by omega) (by omega)) (fun c3 => by omega) (fun c3 => ?_)))
      unfold iR at hs
      simp (disch := omega) only [nl_0, nl_1, nl_2, nl_3, nl_4, nl_5, nl_6, nl_7, nl_8, nl_9, nl_10, nl_11, nl_12, nl_13, nl_14, nl_15, nl_16, nl_17, nl_18, nl_19, nl_20, nl_21, nl_22, nl_23, nl_24, nl_25, nl_26, nl_27, nl_28, nl_31, nl_32, nl_42, nl_44, nl_46, nl_48, nl_49, nl_50, nl_51, nl_60, nl_75, nl_76, nl_99, nl_100, nl_108, nl_114, nl_117, nl_126, nl_255, nl_999, nl_2401, nl_9999, nl_12345, nl_65536, nl_1000000, nl_1103515245, nl_2147483647, iI_0, iI_neg, iI_add, iI_sub, iI_mul, iI_div, iI_mod, iI_lt, iI_le, iI_eq, iI_nat, iI_vp, ld_rd, ld_wl, lu_s, lu_t, lu_c, lu_j, forall_eq, Int.toNat_natCast, true_and, and_true, not_true, not_false_iff, Classical.not_not, forall_const, iI_inj, hnv.1]
      refine ⟨_, _, pre e (by omega), ?_⟩
      simp (disch := omega) only [nl_0, nl_1, nl_2, nl_3, nl_4, nl_5, nl_6, nl_7, nl_8, nl_9, nl_10, nl_11, nl_12, nl_13, nl_14, nl_15, nl_16, nl_17, nl_18, nl_19, nl_20, nl_21, nl_22, nl_23, nl_24, nl_25, nl_26, nl_27, nl_28, nl_31, nl_32, nl_42, nl_44, nl_46, nl_48, nl_49, nl_50, nl_51, nl_60, nl_75, nl_76, nl_99, nl_100, nl_108, nl_114, nl_117, nl_126, nl_255, nl_999, nl_2401, nl_9999, nl_12345, nl_65536, nl_1000000, nl_1103515245, nl_2147483647, iI_0, iI_neg, iI_add, iI_sub, iI_mul, iI_div, iI_mod, iI_lt, iI_le, iI_eq, iI_nat, iI_vp, ld_rd, ld_wl, lu_s, lu_t, lu_c, lu_j, forall_eq, Int.toNat_natCast, true_and, and_true, not_true, not_false_iff, Classical.not_not, forall_const, iI_inj]
      exact ⟨fun z => absurd z f, fun _ => by (first | exact mj_eq.rf | exact fi_n mj_eq.rf | exact fi_i rfl mj_eq.rf | exact rfl)⟩
/-! the reference's held -/
def pl (A : lA) (ph : Nat → Nat) (k j : Nat) : lA := fun t i x => if t = 4 ∧ k - j ≤ x ∧ x < k ∧ i < 6 then (if ph x = i then A 6 0 x else 0) else A t i x
theorem pl_lo {A : lA} {ph : Nat → Nat} {k j t i x : Nat} (h : t ≠ 4) : pl A ph k j t i x = A t i x := if_neg fun z => h z.1
theorem pl_0 {A : lA} {ph : Nat → Nat} {k : Nat} : pl A ph k 0 = A := by
  funext t i x
  exact if_neg (by omega)
theorem pl_s {A : lA} {ph : Nat → Nat} {k j v : Nat} (hv : v + 1 + j = k) : ls1 (pl A ph k j) v (ph v) = pl A ph k (j + 1) := by
  funext t i x
  unfold ls1 pl
  by_cases h : t = 4 ∧ x = v ∧ i < 6
  · rw [if_pos h, if_pos (show t = 4 ∧ k - (j + 1) ≤ x ∧ x < k ∧ i < 6 by omega), h.2.1]
    have e6 : (if 6 = 4 ∧ k - j ≤ v ∧ v < k ∧ 0 < 6 then (if ph v = 0 then A 6 0 v else 0) else A 6 0 v) = A 6 0 v := if_neg (by omega)
    rw [e6]
    by_cases h2 : i = ph v
    · rw [if_pos h2, if_pos h2.symm]
    · rw [if_neg h2, if_neg (fun z => h2 z.symm)]
  · rw [if_neg h]
    by_cases h2 : t = 4 ∧ k - j ≤ x ∧ x < k ∧ i < 6
    · rw [if_pos h2, if_pos (show t = 4 ∧ k - (j + 1) ≤ x ∧ x < k ∧ i < 6 by omega)]
    · rw [if_neg h2, if_neg (by omega)]
theorem pl_rl {N : mj_M} {A : lA} {ph : Nat → Nat} {k : Nat} (hk : k ≤ 4) : mj_eq (mj_ld N 14 (pl A ph k k)) (mj_ld N 14 (rl A (1 <<< k - 1) ph)) := ld_ok fun t c j ht ho => by
  unfold pl rl
  by_cases e4 : t = 4
  · subst e4
    have ho4 := okc ho
    by_cases h : j < k
    · rw [if_pos (show 4 = 4 ∧ k - k ≤ j ∧ j < k ∧ c < 6 from ⟨rfl, by omega, h, ho4.1⟩)]
      exact (if_pos ⟨rfl, ho4.2, LL_bit.mpr h⟩).symm
    · rw [if_neg (fun z => h z.2.2.1), if_neg (fun z => h (LL_bit.mp z.2.2))]
  · rw [if_neg (fun z => e4 z.1), if_neg (fun z => e4 z.1)]
theorem sp_misAs {n m s i code k : Nat} {A : lA} {M : mj_M} {S F it : Nat → Int} (hA : LJ A) (hW : WD M 34 n S F) (hk : k = nV A) (hm : m ≤ 12) (hit : ∀ j, j < 25 → M 35 71 0 (25 * s + j) = iI (it j)) (hir : ∀ j, iR (it j)) (hi : i + k ≤ 25) (hs : s < 4) (hc : code < 7 ^ k) : ∃ M', (∀ d, 6 ≤ d → mj_Sp d 141 [mj_r (30, 60, 0), mj_i (iI (code : Int)), mj_i (iI (m : Int)), mj_i (iI ((25 * s + i : Nat) : Int))] (mj_ld M 14 A) (some (mj_i (iI (if hB A n S F m i it k code = true then 1 else 0)))) (mj_ld M' 14 A)) ∧ fr [15] M M' := by
  have hnv := hA.li.nv
  have hho := hA.ho
  have hk4 : k ≤ 4 := by omega
  have hp7 : 7 ^ k ≤ 2401 := by
    have h2 : 7 ^ k ≤ 7 ^ 4 := Nat.pow_le_pow_right (by decide) hk4
    have h3 : (7 : Nat) ^ 4 = 2401 := by decide
    omega
  refine ⟨mj_ld M 15 (kk A (lT M 15) 76), fun d hd => ?_, fun i hi => ld_p (fun e => hi (by rw [e]; decide))⟩
  have e0 : mj_ld M 14 A = mj_ld (mj_ld M 15 (lT M 15)) 14 A := by rw [ld_self]
  rw [e0]
  refine en_m_isAs (k := 5) hd fun e he P hP hQ => rg_m_isAs_0 hP ⟨_, sp_mkeeps (by omega), ?_⟩
  have hitN : ∀ j, j < 25 → mj_ld M 15 (kk A (lT M 15) 76) 35 71 0 (25 * s + j) = iI (it j) := fun j hj => by rw [ld_p (by decide)]; exact hit j hj
  have hWN : WD (mj_ld M 15 (kk A (lT M 15) 76)) 34 n S F := hW.ld
  have hback : ∀ B : lA, (∀ t i j, t = 0 ∧ j ≠ 2 ∨ t = 5 ∨ t = 7 → B t i j = A t i j) → mj_Sp e 123 [mj_r (30, 60, 0)] (mj_ld (mj_ld M 15 (kk A (lT M 15) 76)) 14 B) none (mj_ld (mj_ld M 15 (kk A (lT M 15) 76)) 14 (kk (kk A (lT M 15) 76) B 76)) ∧ mj_eq (mj_ld (mj_ld M 15 (kk A (lT M 15) 76)) 14 (kk (kk A (lT M 15) 76) B 76)) (mj_ld (mj_ld M 15 (kk A (lT M 15) 76)) 14 A) := fun B hB => ⟨sp_mback (by omega), LD_back hB⟩
  generalize mj_ld M 15 (kk A (lT M 15) 76) = N at hP hitN hWN hback ⊢
  -- behind the hours
  have tail : ∀ v, v ≤ k → ∀ (B : lA) (may : Int) (left : Int32), (∀ t i j, t = 0 ∧ j ≠ 2 ∨ t = 5 ∨ t = 7 → B t i j = A t i j) → ((may = 1 ∧ vld A k code ∧ (∀ v, v < k → B 8 0 v = A 8 0 v + gsum A (1 <<< k - 1) n S F m (sB (dgt code k) k) v 6) ∧ ∀ v', v' < v → A 8 0 v' + gsum A (1 <<< k - 1) n S F m (sB (dgt code k) k) v' 6 = it (i + v')) ∨ (may = 0 ∧ ¬ Hk A n S F m i it k code)) → P 95 [some (mj_r (30, 60, 0)), some (mj_i (iI (code : Int))), some (mj_i (iI (m : Int))), some (mj_i (iI ((25 * s + i : Nat) : Int))), some (mj_i left), some (mj_i (iI may)), some (mj_i (iI (v : Int)))] [] (mj_ld N 14 B) := by
    refine lp_dn (Q := fun v => ∀ (B : lA) (may : Int) (left : Int32), (∀ t i j, t = 0 ∧ j ≠ 2 ∨ t = 5 ∨ t = 7 → B t i j = A t i j) → ((may = 1 ∧ vld A k code ∧ (∀ v, v < k → B 8 0 v = A 8 0 v + gsum A (1 <<< k - 1) n S F m (sB (dgt code k) k) v 6) ∧ ∀ v', v' < v → A 8 0 v' + gsum A (1 <<< k - 1) n S F m (sB (dgt code k) k) v' 6 = it (i + v')) ∨ (may = 0 ∧ ¬ Hk A n S F m i it k code)) → P 95 [some (mj_r (30, 60, 0)), some (mj_i (iI (code : Int))), some (mj_i (iI (m : Int))), some (mj_i (iI ((25 * s + i : Nat) : Int))), some (mj_i left), some (mj_i (iI may)), some (mj_i (iI (v : Int)))] [] (mj_ld N 14 B)) (n := k) (fun B may left hbb hmay => ?_) (fun v hv ih B may left hbb hmay => ?_)
    · obtain ⟨sb, eb⟩ := hback B hbb
      refine rg_m_isAs_95 hP ⟨fun z => ⟨_, sb, ?_⟩, fun z => ?_⟩
      · rcases hmay with ⟨rfl, h1, h2, h3⟩ | ⟨rfl, h1⟩
        · have hH : hB A n S F m i it k code = true := hB_t.mpr ⟨h1, h3⟩
          rw [if_pos hH]
          exact ⟨Or.inr rfl, rfl, eb⟩
        · rw [if_neg (fun h => h1 (hB_t.mp h))]
          exact ⟨Or.inl rfl, rfl, eb⟩
      · have e1 : B 0 0 1 = (k : Int) := by rw [hbb _ _ _ (by omega), hnv.1, hk]
        simp (disch := omega) only [nl_0, nl_1, nl_2, nl_3, nl_4, nl_5, nl_6, nl_7, nl_8, nl_9, nl_10, nl_11, nl_12, nl_13, nl_14, nl_15, nl_16, nl_17, nl_18, nl_19, nl_20, nl_21, nl_22, nl_23, nl_24, nl_25, nl_26, nl_27, nl_28, nl_31, nl_32, nl_42, nl_44, nl_46, nl_48, nl_49, nl_50, nl_51, nl_60, nl_75, nl_76, nl_99, nl_100, nl_108, nl_114, nl_117, nl_126, nl_255, nl_999, nl_2401, nl_9999, nl_12345, nl_65536, nl_1000000, nl_1103515245, nl_2147483647, iI_0, iI_neg, iI_add, iI_sub, iI_mul, iI_div, iI_mod, iI_lt, iI_le, iI_eq, iI_nat, iI_vp, ld_rd, ld_wl, lu_s, lu_t, lu_c, lu_j, forall_eq, Int.toNat_natCast, true_and, and_true, not_true, not_false_iff, Classical.not_not, forall_const, iI_inj, e1] at z
        omega
    · have e1 : B 0 0 1 = (k : Int) := by rw [hbb _ _ _ (by omega), hnv.1, hk]
      refine rg_m_isAs_95 hP ⟨fun z => ?_, fun z => ?_⟩
      · simp (disch := omega) only [nl_0, nl_1, nl_2, nl_3, nl_4, nl_5, nl_6, nl_7, nl_8, nl_9, nl_10, nl_11, nl_12, nl_13, nl_14, nl_15, nl_16, nl_17, nl_18, nl_19, nl_20, nl_21, nl_22, nl_23, nl_24, nl_25, nl_26, nl_27, nl_28, nl_31, nl_32, nl_42, nl_44, nl_46, nl_48, nl_49, nl_50, nl_51, nl_60, nl_75, nl_76, nl_99, nl_100, nl_108, nl_114, nl_117, nl_126, nl_255, nl_999, nl_2401, nl_9999, nl_12345, nl_65536, nl_1000000, nl_1103515245, nl_2147483647, iI_0, iI_neg, iI_add, iI_sub, iI_mul, iI_div, iI_mod, iI_lt, iI_le, iI_eq, iI_nat, iI_vp, ld_rd, ld_wl, lu_s, lu_t, lu_c, lu_j, forall_eq, Int.toNat_natCast, true_and, and_true, not_true, not_false_iff, Classical.not_not, forall_const, iI_inj, e1] at z
        omega
      · rcases hmay with ⟨rfl, h1, h2, h3⟩ | ⟨rfl, h1⟩
        · have hwe := hA.we (v := v) (by omega)
          have hgr := gsum_r hA (L := 1 <<< k - 1) (n := n) (m := m) (v := v) (S := S) (F := F) (s := sB (dgt code k) k)
          have hi2 := hir (i + v)
          unfold iR at hi2
          have t1 : (((25 * s + i : Nat) : Int) + (v : Int)).toNat = 25 * s + (i + v) := by omega
          have r1 := hitN (i + v) (by omega)
          have r2 := h2 v hv
          have t2 : vp_in (iI (((25 * s + i : Nat) : Int) + (v : Int))) 100 = True := iI_vp (by omega) (by omega) (by decide)
          have t3 : (iI (((25 * s + i : Nat) : Int) + (v : Int))).toNatClampNeg = 25 * s + (i + v) := by rw [iI_nat (by omega) (by omega), t1]
          simp (disch := omega) only [nl_0, nl_1, nl_2, nl_3, nl_4, nl_5, nl_6, nl_7, nl_8, nl_9, nl_10, nl_11, nl_12, nl_13, nl_14, nl_15, nl_16, nl_17, nl_18, nl_19, nl_20, nl_21, nl_22, nl_23, nl_24, nl_25, nl_26, nl_27, nl_28, nl_31, nl_32, nl_42, nl_44, nl_46, nl_48, nl_49, nl_50, nl_51, nl_60, nl_75, nl_76, nl_99, nl_100, nl_108, nl_114, nl_117, nl_126, nl_255, nl_999, nl_2401, nl_9999, nl_12345, nl_65536, nl_1000000, nl_1103515245, nl_2147483647, iI_0, iI_neg, iI_add, iI_sub, iI_mul, iI_div, iI_mod, iI_lt, iI_le, iI_eq, iI_nat, iI_vp, ld_rd, ld_wl, lu_s, lu_t, lu_c, lu_j, forall_eq, Int.toNat_natCast, true_and, and_true, not_true, not_false_iff, Classical.not_not, forall_const, iI_inj, nd, nlW, t2, t3, ld_p, r1, r2]
          refine ⟨fun z => absurd z (by decide), fun _ => ⟨fun z2 => ?_, fun z2 => ?_⟩⟩
          · exact ih B 0 left hbb (Or.inr ⟨rfl, fun h => z2 (h.2 v hv)⟩)
          · refine ih B 1 left hbb (Or.inl ⟨rfl, h1, h2, fun v' hv' => ?_⟩)
            by_cases e : v' = v
            · subst e; exact z2
            · exact h3 v' (by omega)
        · simp (disch := omega) only [nl_0, nl_1, nl_2, nl_3, nl_4, nl_5, nl_6, nl_7, nl_8, nl_9, nl_10, nl_11, nl_12, nl_13, nl_14, nl_15, nl_16, nl_17, nl_18, nl_19, nl_20, nl_21, nl_22, nl_23, nl_24, nl_25, nl_26, nl_27, nl_28, nl_31, nl_32, nl_42, nl_44, nl_46, nl_48, nl_49, nl_50, nl_51, nl_60, nl_75, nl_76, nl_99, nl_100, nl_108, nl_114, nl_117, nl_126, nl_255, nl_999, nl_2401, nl_9999, nl_12345, nl_65536, nl_1000000, nl_1103515245, nl_2147483647, iI_0, iI_neg, iI_add, iI_sub, iI_mul, iI_div, iI_mod, iI_lt, iI_le, iI_eq, iI_nat, iI_vp, ld_rd, ld_wl, lu_s, lu_t, lu_c, lu_j, forall_eq, Int.toNat_natCast, true_and, and_true, not_true, not_false_iff, Classical.not_not, forall_const, iI_inj]
          exact ⟨ih B 0 left hbb (Or.inr ⟨rfl, h1⟩), fun z => z.elim⟩
  -- the laying
  have lay : ∀ j : Nat, j ≤ k → ∀ (B : lA) (may : Int), ((may = 1 ∧ (∀ v, k - j ≤ v → v < k → ch A (dgt code k v)) ∧ B = pl A (dgt code k) k j) ∨ (may = 0 ∧ (∃ v, v < k ∧ ¬ ch A (dgt code k v)) ∧ ∀ t i x, t ≠ 4 → B t i x = A t i x)) → P 18 [some (mj_r (30, 60, 0)), some (mj_i (iI (code : Int))), some (mj_i (iI (m : Int))), some (mj_i (iI ((25 * s + i : Nat) : Int))), some (mj_i (iI ((code / 7 ^ j : Nat) : Int))), some (mj_i (iI may)), some (mj_i (iI ((k : Int) - 1 - (j : Int))))] [] (mj_ld N 14 B) := by
    refine lp_dn (Q := fun j => ∀ (B : lA) (may : Int), ((may = 1 ∧ (∀ v, k - j ≤ v → v < k → ch A (dgt code k v)) ∧ B = pl A (dgt code k) k j) ∨ (may = 0 ∧ (∃ v, v < k ∧ ¬ ch A (dgt code k v)) ∧ ∀ t i x, t ≠ 4 → B t i x = A t i x)) → P 18 [some (mj_r (30, 60, 0)), some (mj_i (iI (code : Int))), some (mj_i (iI (m : Int))), some (mj_i (iI ((25 * s + i : Nat) : Int))), some (mj_i (iI ((code / 7 ^ j : Nat) : Int))), some (mj_i (iI may)), some (mj_i (iI ((k : Int) - 1 - (j : Int))))] [] (mj_ld N 14 B)) (n := k) (fun B may hmay => ?_) (fun j hj ih B may hmay => ?_)
    · refine rg_m_isAs_18 hP ⟨fun z => ?_, fun z => ?_⟩
      · rcases hmay with ⟨rfl, h1, h2⟩ | ⟨rfl, ⟨v, hv, h1⟩, h2⟩
        · subst h2
          have hv : vld A k code := fun v hv => h1 v (by omega) hv
          simp (disch := omega) only [nl_0, nl_1, nl_2, nl_3, nl_4, nl_5, nl_6, nl_7, nl_8, nl_9, nl_10, nl_11, nl_12, nl_13, nl_14, nl_15, nl_16, nl_17, nl_18, nl_19, nl_20, nl_21, nl_22, nl_23, nl_24, nl_25, nl_26, nl_27, nl_28, nl_31, nl_32, nl_42, nl_44, nl_46, nl_48, nl_49, nl_50, nl_51, nl_60, nl_75, nl_76, nl_99, nl_100, nl_108, nl_114, nl_117, nl_126, nl_255, nl_999, nl_2401, nl_9999, nl_12345, nl_65536, nl_1000000, nl_1103515245, nl_2147483647, iI_0, iI_neg, iI_add, iI_sub, iI_mul, iI_div, iI_mod, iI_lt, iI_le, iI_eq, iI_nat, iI_vp, ld_rd, ld_wl, lu_s, lu_t, lu_c, lu_j, forall_eq, Int.toNat_natCast, true_and, and_true, not_true, not_false_iff, Classical.not_not, forall_const, iI_inj]
          refine ⟨fun z => absurd z (by decide), fun _ => ⟨_, _, sp_in (pl_rl hk4) (sp_mgoes (by omega) (rl_LI hA) hWN ?_ (by omega)), ?_⟩⟩
          · rw [rl_lo (by decide)]
            omega
          · refine tail 0 (Nat.zero_le _) _ 1 _ (fun t i j h => (gs_lo (by omega) m).trans (rl_lo (by omega))) (Or.inl ⟨rfl, hv, fun v hv2 => ?_, fun v' h => absurd h (Nat.not_lt_zero v')⟩)
            exact rl_wet hA.li (fun c hc j hj hL => by
              rw [sB_bit]
              exact ⟨fun h => ⟨LL_bit.mp hL, h⟩, fun h => h.2⟩)
        · simp (disch := omega) only [nl_0, nl_1, nl_2, nl_3, nl_4, nl_5, nl_6, nl_7, nl_8, nl_9, nl_10, nl_11, nl_12, nl_13, nl_14, nl_15, nl_16, nl_17, nl_18, nl_19, nl_20, nl_21, nl_22, nl_23, nl_24, nl_25, nl_26, nl_27, nl_28, nl_31, nl_32, nl_42, nl_44, nl_46, nl_48, nl_49, nl_50, nl_51, nl_60, nl_75, nl_76, nl_99, nl_100, nl_108, nl_114, nl_117, nl_126, nl_255, nl_999, nl_2401, nl_9999, nl_12345, nl_65536, nl_1000000, nl_1103515245, nl_2147483647, iI_0, iI_neg, iI_add, iI_sub, iI_mul, iI_div, iI_mod, iI_lt, iI_le, iI_eq, iI_nat, iI_vp, ld_rd, ld_wl, lu_s, lu_t, lu_c, lu_j, forall_eq, Int.toNat_natCast, true_and, and_true, not_true, not_false_iff, Classical.not_not, forall_const, iI_inj]
          refine ⟨tail 0 (Nat.zero_le _) B 0 _ (fun t i j h => h2 t i j (by omega)) (Or.inr ⟨rfl, fun h => h1 (h.1 v hv)⟩), fun z => z.elim⟩
      · simp (disch := omega) only [nl_0, nl_1, nl_2, nl_3, nl_4, nl_5, nl_6, nl_7, nl_8, nl_9, nl_10, nl_11, nl_12, nl_13, nl_14, nl_15, nl_16, nl_17, nl_18, nl_19, nl_20, nl_21, nl_22, nl_23, nl_24, nl_25, nl_26, nl_27, nl_28, nl_31, nl_32, nl_42, nl_44, nl_46, nl_48, nl_49, nl_50, nl_51, nl_60, nl_75, nl_76, nl_99, nl_100, nl_108, nl_114, nl_117, nl_126, nl_255, nl_999, nl_2401, nl_9999, nl_12345, nl_65536, nl_1000000, nl_1103515245, nl_2147483647, iI_0, iI_neg, iI_add, iI_sub, iI_mul, iI_div, iI_mod, iI_lt, iI_le, iI_eq, iI_nat, iI_vp, ld_rd, ld_wl, lu_s, lu_t, lu_c, lu_j, forall_eq, Int.toNat_natCast, true_and, and_true, not_true, not_false_iff, Classical.not_not, forall_const, iI_inj] at z
        omega
    · obtain ⟨w, ew⟩ : ∃ w : Nat, w + 1 + j = k := ⟨k - 1 - j, by omega⟩
      have e1 : (k : Int) - 1 - (j : Int) = (w : Int) := by omega
      have e2 : (k : Int) - 1 - ((j + 1 : Nat) : Int) = (w : Int) + -1 := by omega
      have edg : dgt code k w = (code / 7 ^ j) % 7 := by
        unfold dgt
        rw [show k - 1 - w = j by omega]
      have ediv : code / 7 ^ (j + 1) = code / 7 ^ j / 7 := by rw [Nat.div_div_eq_div_mul, Nat.pow_succ]
      have hql : code / 7 ^ j ≤ code := Nat.div_le_self _ _
      rw [e1]
      rw [e2, ediv] at ih
      generalize code / 7 ^ j = q at edg hql ih ⊢
      have t1 : (q : Int) / 7 = ((q / 7 : Nat) : Int) := by omega
      have t2 : (q : Int) % 7 = ((q % 7 : Nat) : Int) := by omega
      have hq7 : q % 7 < 7 := by omega
      refine rg_m_isAs_18 hP ⟨fun z => ?_, fun z => ?_⟩
      · simp (disch := omega) only [nl_0, nl_1, nl_2, nl_3, nl_4, nl_5, nl_6, nl_7, nl_8, nl_9, nl_10, nl_11, nl_12, nl_13, nl_14, nl_15, nl_16, nl_17, nl_18, nl_19, nl_20, nl_21, nl_22, nl_23, nl_24, nl_25, nl_26, nl_27, nl_28, nl_31, nl_32, nl_42, nl_44, nl_46, nl_48, nl_49, nl_50, nl_51, nl_60, nl_75, nl_76, nl_99, nl_100, nl_108, nl_114, nl_117, nl_126, nl_255, nl_999, nl_2401, nl_9999, nl_12345, nl_65536, nl_1000000, nl_1103515245, nl_2147483647, iI_0, iI_neg, iI_add, iI_sub, iI_mul, iI_div, iI_mod, iI_lt, iI_le, iI_eq, iI_nat, iI_vp, ld_rd, ld_wl, lu_s, lu_t, lu_c, lu_j, forall_eq, Int.toNat_natCast, true_and, and_true, not_true, not_false_iff, Classical.not_not, forall_const, iI_inj] at z
        omega
      · have d0 : ¬ (7 : Int) = 0 := by decide
        rcases hmay with ⟨rfl, h1, h2⟩ | ⟨rfl, h1, h2⟩
        · have hBL : LI B := by
            rw [h2]
            have hl := hA.li
            refine ⟨hl.1, hl.2.1, hl.2.2.1, hl.2.2.2.1, fun c hc => hl.kd hc, fun c hc => hl.fd hc, fun c hc => hl.wa hc, fun c' v' hc' hv' => ?_, fun c' v' hc' hv' hn => ?_, fun v hv => hl.hm hv, fun u v hu hv e => hl.ap hu hv e⟩
            · have := hA.sg hv'
              have := hA.t0 hv'
              unfold pl
              split
              · split <;> omega
              · exact hl.st hc' hv'
            · have hn2 : nV A ≤ v' := hn
              unfold pl
              rw [if_neg (by omega)]
              exact hl.s0 hc' hv' hn2
          have hch : ch B (q % 7) ↔ ch A (q % 7) := by rw [h2]; exact Iff.rfl
          simp (disch := omega) only [nl_0, nl_1, nl_2, nl_3, nl_4, nl_5, nl_6, nl_7, nl_8, nl_9, nl_10, nl_11, nl_12, nl_13, nl_14, nl_15, nl_16, nl_17, nl_18, nl_19, nl_20, nl_21, nl_22, nl_23, nl_24, nl_25, nl_26, nl_27, nl_28, nl_31, nl_32, nl_42, nl_44, nl_46, nl_48, nl_49, nl_50, nl_51, nl_60, nl_75, nl_76, nl_99, nl_100, nl_108, nl_114, nl_117, nl_126, nl_255, nl_999, nl_2401, nl_9999, nl_12345, nl_65536, nl_1000000, nl_1103515245, nl_2147483647, iI_0, iI_neg, iI_add, iI_sub, iI_mul, iI_div, iI_mod, iI_lt, iI_le, iI_eq, iI_nat, iI_vp, ld_rd, ld_wl, lu_s, lu_t, lu_c, lu_j, forall_eq, Int.toNat_natCast, true_and, and_true, not_true, not_false_iff, Classical.not_not, forall_const, iI_inj, t1, t2]
          refine ⟨fun z => absurd z (by decide), fun _ => ⟨by decide, _, _, sp_misChoice (by omega) hBL hq7, ?_⟩⟩
          by_cases g : ch A (q % 7)
          · rw [if_pos (hch.mpr g)]
            simp (disch := omega) only [nl_0, nl_1, nl_2, nl_3, nl_4, nl_5, nl_6, nl_7, nl_8, nl_9, nl_10, nl_11, nl_12, nl_13, nl_14, nl_15, nl_16, nl_17, nl_18, nl_19, nl_20, nl_21, nl_22, nl_23, nl_24, nl_25, nl_26, nl_27, nl_28, nl_31, nl_32, nl_42, nl_44, nl_46, nl_48, nl_49, nl_50, nl_51, nl_60, nl_75, nl_76, nl_99, nl_100, nl_108, nl_114, nl_117, nl_126, nl_255, nl_999, nl_2401, nl_9999, nl_12345, nl_65536, nl_1000000, nl_1103515245, nl_2147483647, iI_0, iI_neg, iI_add, iI_sub, iI_mul, iI_div, iI_mod, iI_lt, iI_le, iI_eq, iI_nat, iI_vp, ld_rd, ld_wl, lu_s, lu_t, lu_c, lu_j, forall_eq, Int.toNat_natCast, true_and, and_true, not_true, not_false_iff, Classical.not_not, forall_const, iI_inj]
            refine ⟨fun z => absurd z (by decide), fun _ => ⟨fun z => absurd z (by decide), fun _ => ⟨by decide, _, sp_mlays (by omega) (by omega) hq7, by decide, ?_⟩⟩⟩
            refine ih _ 1 (Or.inl ⟨rfl, fun v a1 a2 => ?_, ?_⟩)
            · by_cases e : v = w
              · subst e; rw [edg]; exact g
              · exact h1 v (by omega) a2
            · rw [h2, ← edg]
              exact pl_s ew
          · rw [if_neg (fun h => g (hch.mp h))]
            simp (disch := omega) only [nl_0, nl_1, nl_2, nl_3, nl_4, nl_5, nl_6, nl_7, nl_8, nl_9, nl_10, nl_11, nl_12, nl_13, nl_14, nl_15, nl_16, nl_17, nl_18, nl_19, nl_20, nl_21, nl_22, nl_23, nl_24, nl_25, nl_26, nl_27, nl_28, nl_31, nl_32, nl_42, nl_44, nl_46, nl_48, nl_49, nl_50, nl_51, nl_60, nl_75, nl_76, nl_99, nl_100, nl_108, nl_114, nl_117, nl_126, nl_255, nl_999, nl_2401, nl_9999, nl_12345, nl_65536, nl_1000000, nl_1103515245, nl_2147483647, iI_0, iI_neg, iI_add, iI_sub, iI_mul, iI_div, iI_mod, iI_lt, iI_le, iI_eq, iI_nat, iI_vp, ld_rd, ld_wl, lu_s, lu_t, lu_c, lu_j, forall_eq, Int.toNat_natCast, true_and, and_true, not_true, not_false_iff, Classical.not_not, forall_const, iI_inj]
            refine ⟨⟨⟨_, sp_mlays (c := 6) (by omega) (by omega) (by decide), by decide, ?_⟩, fun z => z.elim⟩, fun z => z.elim⟩
            refine ih _ 0 (Or.inr ⟨rfl, ⟨w, by omega, by rw [edg]; exact g⟩, fun t i x ht => ?_⟩)
            rw [h2]
            show (if t = 4 ∧ x = w ∧ i < 6 then _ else _) = _
            rw [if_neg (fun z => ht z.1)]
            exact pl_lo ht
        · simp (disch := omega) only [nl_0, nl_1, nl_2, nl_3, nl_4, nl_5, nl_6, nl_7, nl_8, nl_9, nl_10, nl_11, nl_12, nl_13, nl_14, nl_15, nl_16, nl_17, nl_18, nl_19, nl_20, nl_21, nl_22, nl_23, nl_24, nl_25, nl_26, nl_27, nl_28, nl_31, nl_32, nl_42, nl_44, nl_46, nl_48, nl_49, nl_50, nl_51, nl_60, nl_75, nl_76, nl_99, nl_100, nl_108, nl_114, nl_117, nl_126, nl_255, nl_999, nl_2401, nl_9999, nl_12345, nl_65536, nl_1000000, nl_1103515245, nl_2147483647, iI_0, iI_neg, iI_add, iI_sub, iI_mul, iI_div, iI_mod, iI_lt, iI_le, iI_eq, iI_nat, iI_vp, ld_rd, ld_wl, lu_s, lu_t, lu_c, lu_j, forall_eq, Int.toNat_natCast, true_and, and_true, not_true, not_false_iff, Classical.not_not, forall_const, iI_inj, t1, t2]
          refine ⟨⟨⟨_, sp_mlays (c := 6) (by omega) (by omega) (by decide), by decide, ?_⟩, fun z => z.elim⟩, fun z => z.elim⟩
          refine ih _ 0 (Or.inr ⟨rfl, h1, fun t i x ht => ?_⟩)
          show (if t = 4 ∧ x = w ∧ i < 6 then _ else _) = _
          rw [if_neg (fun z => ht z.1)]
          exact h2 t i x ht
  have := lay 0 (Nat.zero_le _) A 1 (Or.inl ⟨rfl, fun v h1 h2 => by omega, pl_0.symm⟩)
  rw [Nat.pow_zero, Nat.div_one] at this
  have e1 : (k : Int) - 1 - ((0 : Nat) : Int) = (k : Int) - 1 := Int.sub_zero _
  rw [e1] at this
  have e2 : A 0 0 1 = (k : Int) := by rw [hnv.1, hk]
  simp (disch := omega) only [nl_0, nl_1, nl_2, nl_3, nl_4, nl_5, nl_6, nl_7, nl_8, nl_9, nl_10, nl_11, nl_12, nl_13, nl_14, nl_15, nl_16, nl_17, nl_18, nl_19, nl_20, nl_21, nl_22, nl_23, nl_24, nl_25, nl_26, nl_27, nl_28, nl_31, nl_32, nl_42, nl_44, nl_46, nl_48, nl_49, nl_50, nl_51, nl_60, nl_75, nl_76, nl_99, nl_100, nl_108, nl_114, nl_117, nl_126, nl_255, nl_999, nl_2401, nl_9999, nl_12345, nl_65536, nl_1000000, nl_1103515245, nl_2147483647, iI_0, iI_neg, iI_add, iI_sub, iI_mul, iI_div, iI_mod, iI_lt, iI_le, iI_eq, iI_nat, iI_vp, ld_rd, ld_wl, lu_s, lu_t, lu_c, lu_j, forall_eq, Int.toNat_natCast, true_and, and_true, not_true, not_false_iff, Classical.not_not, forall_const, iI_inj, e2]
  exact this
theorem m_held {A : lA} {M : mj_M} {n : Nat} {S F : Nat → Int} {ln sz : Nat → Int} {I : Nat → Nat → Int32} {m s lane i j : Int} (hm : iR m) (hs : iR s) (hl : iR lane) (hi : iR i) (hj : iR j) (hA : LJ A) (hW : WD M 34 n S F) (hS : SF M ln sz I) (hI : SI ln sz) : ∃ M', (∀ d, 8 ≤ d → mj_Sp d 142 [mj_r (30, 60, 0), mj_i (iI m), mj_i (iI s), mj_i (iI lane), mj_i (iI i), mj_i (iI j)] (mj_ld M 14 A) (some (mj_i (iI (s_held A n S F ln sz I m s lane i j)))) (mj_ld M' 14 A)) ∧ fr [15] M M' := by
  have hnv := hA.li.nv
  have hS0 : SF (mj_ld M 14 A) ln sz I := hS.p (ld_p (by decide))
  have hkR : iR (nV A : Int) := by unfold iR; omega
  by_cases g : m < 1 ∨ 12 < m ∨ s < 0 ∨ 3 < s ∨ lane < 0 ∨ 2 < lane ∨ j < -1 ∨ 3 < j
  · refine ⟨M, fun d hd => ?_, fr.r0⟩
    rw [show s_held A n S F ln sz I m s lane i j = -1 from if_pos g]
    refine en_m_held (k := 7) hd fun e he P hP hQ => rg_m_held_0 hP ?_
    unfold iR at hm hj
    simp (disch := omega) only [nl_0, nl_1, nl_2, nl_3, nl_4, nl_5, nl_6, nl_7, nl_8, nl_9, nl_10, nl_11, nl_12, nl_13, nl_14, nl_15, nl_16, nl_17, nl_18, nl_19, nl_20, nl_21, nl_22, nl_23, nl_24, nl_25, nl_26, nl_27, nl_28, nl_31, nl_32, nl_42, nl_44, nl_46, nl_48, nl_49, nl_50, nl_51, nl_60, nl_75, nl_76, nl_99, nl_100, nl_108, nl_114, nl_117, nl_126, nl_255, nl_999, nl_2401, nl_9999, nl_12345, nl_65536, nl_1000000, nl_1103515245, nl_2147483647, iI_0, iI_neg, iI_add, iI_sub, iI_mul, iI_div, iI_mod, iI_lt, iI_le, iI_eq, iI_nat, iI_vp, ld_rd, ld_wl, lu_s, lu_t, lu_c, lu_j, forall_eq, Int.toNat_natCast, true_and, and_true, not_true, not_false_iff, Classical.not_not, forall_const, iI_inj, lI_iI, lI_neg, ll_1, ll_12, ll_3]
    refine bo2 (sp_mI (by omega) (by omega) (by omega) (by omega)) (fun c => bo2 (sp_misSheet (by omega) hs) (fun c2 => bo2 (sp_misLane (by omega) hl) (fun c3 => bo1 (sp_mI (by omega) (by omega) (by omega) (by omega)) (fun c4 => by omega) (fun c4 => by (first | exact mj_eq.rf | exact fi_n mj_eq.rf | exact fi_i rfl mj_eq.rf | exact rfl))) (fun c3 => by (first | exact mj_eq.rf | exact fi_n mj_eq.rf | exact fi_i rfl mj_eq.rf | exact rfl))) (fun c2 => by (first | exact mj_eq.rf | exact fi_n mj_eq.rf | exact fi_i rfl mj_eq.rf | exact rfl))) (fun c => by (first | exact mj_eq.rf | exact fi_n mj_eq.rf | exact fi_i rfl mj_eq.rf | exact rfl))
  · have hS1 : s.toNat < 4 := by omega
    obtain ⟨s, rfl⟩ := nat_iR (show 0 ≤ s by omega)
    obtain ⟨m, rfl⟩ := nat_iR (show 0 ≤ m by omega)
    have hs4 : s < 4 := hS1
    have es : s_held A n S F ln sz I m s lane i j = if fo4 ln sz s lane i (nV A) ≠ 0 then fo4 ln sz s lane i (nV A) else if nV A = 0 then -2 else v_held A n S F ln sz I m s i.toNat j := if_neg g
    rw [es]
    have fr1 := fo4_r (ln := ln) (sz := sz) (s := s) (lane := lane) (i := i) (n := (nV A : Int))
    have pre : ∀ e, 2 ≤ e → mj_Sp e 140 [mj_r (30, 60, 0), mj_i (iI (s : Int)), mj_i (iI lane), mj_i (iI i), mj_i (iI (nV A : Int))] (mj_ld M 14 A) (some (mj_i (iI (fo4 ln sz s lane i (nV A))))) (mj_ld M 14 A) := fun e he => sp_mwhy (by omega) hS0 hI hs4 (by omega) hi hkR (by omega)
    by_cases f : fo4 ln sz s lane i (nV A) = 0
    · rw [if_neg (fun h => h f)]
      have f0 := fo4_0 f
      have h2 := (hI s hs4).2 f0.1
      by_cases k0 : nV A = 0
      · refine ⟨M, fun d hd => ?_, fr.r0⟩
        rw [if_pos k0]
        refine en_m_held (k := 7) hd fun e he P hP hQ => rg_m_held_0 hP ?_
        unfold iR at hm hj
        simp (disch := omega) only [nl_0, nl_1, nl_2, nl_3, nl_4, nl_5, nl_6, nl_7, nl_8, nl_9, nl_10, nl_11, nl_12, nl_13, nl_14, nl_15, nl_16, nl_17, nl_18, nl_19, nl_20, nl_21, nl_22, nl_23, nl_24, nl_25, nl_26, nl_27, nl_28, nl_31, nl_32, nl_42, nl_44, nl_46, nl_48, nl_49, nl_50, nl_51, nl_60, nl_75, nl_76, nl_99, nl_100, nl_108, nl_114, nl_117, nl_126, nl_255, nl_999, nl_2401, nl_9999, nl_12345, nl_65536, nl_1000000, nl_1103515245, nl_2147483647, iI_0, iI_neg, iI_add, iI_sub, iI_mul, iI_div, iI_mod, iI_lt, iI_le, iI_eq, iI_nat, iI_vp, ld_rd, ld_wl, lu_s, lu_t, lu_c, lu_j, forall_eq, Int.toNat_natCast, true_and, and_true, not_true, not_false_iff, Classical.not_not, forall_const, iI_inj, lI_iI, lI_neg, ll_1, ll_12, ll_3]
        refine bo2 (sp_mI (by omega) (by omega) (by omega) (by omega)) (fun c => bo2 (sp_misSheet (by omega) hs) (fun c2 => bo2 (sp_misLane (by omega) hl) (fun c3 => bo1 (sp_mI (by omega) (by omega) (by omega) (by omega)) (fun c4 => ?_) (fun c4 => by omega)) (fun c3 => by omega)) (fun c2 => by omega)) (fun c => by omega)
        simp (disch := omega) only [nl_0, nl_1, nl_2, nl_3, nl_4, nl_5, nl_6, nl_7, nl_8, nl_9, nl_10, nl_11, nl_12, nl_13, nl_14, nl_15, nl_16, nl_17, nl_18, nl_19, nl_20, nl_21, nl_22, nl_23, nl_24, nl_25, nl_26, nl_27, nl_28, nl_31, nl_32, nl_42, nl_44, nl_46, nl_48, nl_49, nl_50, nl_51, nl_60, nl_75, nl_76, nl_99, nl_100, nl_108, nl_114, nl_117, nl_126, nl_255, nl_999, nl_2401, nl_9999, nl_12345, nl_65536, nl_1000000, nl_1103515245, nl_2147483647, iI_0, iI_neg, iI_add, iI_sub, iI_mul, iI_div, iI_mod, iI_lt, iI_le, iI_eq, iI_nat, iI_vp, ld_rd, ld_wl, lu_s, lu_t, lu_c, lu_j, forall_eq, Int.toNat_natCast, true_and, and_true, not_true, not_false_iff, Classical.not_not, forall_const, iI_inj, hnv.1]
        refine ⟨_, _, pre e (by omega), ?_⟩
        rw [f]
        simp (disch := omega) only [nl_0, nl_1, nl_2, nl_3, nl_4, nl_5, nl_6, nl_7, nl_8, nl_9, nl_10, nl_11, nl_12, nl_13, nl_14, nl_15, nl_16, nl_17, nl_18, nl_19, nl_20, nl_21, nl_22, nl_23, nl_24, nl_25, nl_26, nl_27, nl_28, nl_31, nl_32, nl_42, nl_44, nl_46, nl_48, nl_49, nl_50, nl_51, nl_60, nl_75, nl_76, nl_99, nl_100, nl_108, nl_114, nl_117, nl_126, nl_255, nl_999, nl_2401, nl_9999, nl_12345, nl_65536, nl_1000000, nl_1103515245, nl_2147483647, iI_0, iI_neg, iI_add, iI_sub, iI_mul, iI_div, iI_mod, iI_lt, iI_le, iI_eq, iI_nat, iI_vp, ld_rd, ld_wl, lu_s, lu_t, lu_c, lu_j, forall_eq, Int.toNat_natCast, true_and, and_true, not_true, not_false_iff, Classical.not_not, forall_const, iI_inj, hnv.1]
        exact ⟨fun _ => ⟨fun z => by omega, fun _ => by (first | exact mj_eq.rf | exact fi_n mj_eq.rf | exact fi_i rfl mj_eq.rf | exact rfl)⟩, fun z => by omega⟩
      · rw [if_neg k0]
        obtain ⟨i, rfl⟩ := nat_iR f0.2.2.1
        rw [Int.toNat_natCast]
        have hp7 : 7 ^ nV A ≤ 2401 := by
          have h2 : 7 ^ nV A ≤ 7 ^ 4 := Nat.pow_le_pow_right (by decide) hnv.2
          have h3 : (7 : Nat) ^ 4 = 2401 := by decide
          omega
        generalize hH : hB A n S F m i (itI I s) (nV A) = H
        have hv : v_held A n S F ln sz I m s i j = if (nV A : Int) ≤ j then -4 else if j < 0 then (cP H (7 ^ nV A) : Int) else if cP H (7 ^ nV A) = 0 then -4 else (dgt (fP H (7 ^ nV A)) (nV A) j.toNat : Int) := by
          rw [← hH]
          rfl
        rw [hv]
        have hck := cP_le (H := H) (7 ^ nV A)
        have hfl := fP_lt (H := H) (7 ^ nV A)
        -- counting
        have cnt : ∀ c, c ≤ 7 ^ nV A → ∀ N, fr [15] M N → ∀ x6, ∃ M', fr [15] M M' ∧ Rn mj_c142 7 112 [some (mj_r (30, 60, 0)), some (mj_i (iI (m : Int))), some (mj_i (iI (s : Int))), some (mj_i (iI lane)), some (mj_i (iI (i : Int))), some (mj_i (iI j)), some (mj_i x6), some (mj_i (iI ((7 ^ nV A : Nat) : Int))), some (mj_i (iI (cP H c : Int))), some (mj_i (iI (if cP H c = 0 then -1 else (fP H c : Int)))), some (mj_i (iI (c : Int)))] (mj_ld N 14 A) (some (mj_i (iI (if (nV A : Int) ≤ j then -4 else if j < 0 then (cP H (7 ^ nV A) : Int) else if cP H (7 ^ nV A) = 0 then -4 else (dgt (fP H (7 ^ nV A)) (nV A) j.toNat : Int))))) (mj_ld M' 14 A) := by
          refine lp_dn (Q := fun c => ∀ N, fr [15] M N → ∀ x6, ∃ M', fr [15] M M' ∧ Rn mj_c142 7 112 [some (mj_r (30, 60, 0)), some (mj_i (iI (m : Int))), some (mj_i (iI (s : Int))), some (mj_i (iI lane)), some (mj_i (iI (i : Int))), some (mj_i (iI j)), some (mj_i x6), some (mj_i (iI ((7 ^ nV A : Nat) : Int))), some (mj_i (iI (cP H c : Int))), some (mj_i (iI (if cP H c = 0 then -1 else (fP H c : Int)))), some (mj_i (iI (c : Int)))] (mj_ld N 14 A) (some (mj_i (iI (if (nV A : Int) ≤ j then -4 else if j < 0 then (cP H (7 ^ nV A) : Int) else if cP H (7 ^ nV A) = 0 then -4 else (dgt (fP H (7 ^ nV A)) (nV A) j.toNat : Int))))) (mj_ld M' 14 A)) (n := 7 ^ nV A) (fun N hf x6 => ?_) (fun c hc ih N hf x6 => ?_)
          · refine ⟨N, hf, fun e he P hP hQ => rg_m_held_112 hP ⟨fun z => ?_, fun z => ?_⟩⟩
            · clear z
              unfold iR at hj
              generalize 7 ^ nV A = T at hck hfl hp7 hP ⊢
              simp (disch := omega) only [nl_0, nl_1, nl_2, nl_3, nl_4, nl_5, nl_6, nl_7, nl_8, nl_9, nl_10, nl_11, nl_12, nl_13, nl_14, nl_15, nl_16, nl_17, nl_18, nl_19, nl_20, nl_21, nl_22, nl_23, nl_24, nl_25, nl_26, nl_27, nl_28, nl_31, nl_32, nl_42, nl_44, nl_46, nl_48, nl_49, nl_50, nl_51, nl_60, nl_75, nl_76, nl_99, nl_100, nl_108, nl_114, nl_117, nl_126, nl_255, nl_999, nl_2401, nl_9999, nl_12345, nl_65536, nl_1000000, nl_1103515245, nl_2147483647, iI_0, iI_neg, iI_add, iI_sub, iI_mul, iI_div, iI_mod, iI_lt, iI_le, iI_eq, iI_nat, iI_vp, ld_rd, ld_wl, lu_s, lu_t, lu_c, lu_j, forall_eq, Int.toNat_natCast, true_and, and_true, not_true, not_false_iff, Classical.not_not, forall_const, iI_inj, hnv.1]
              refine ⟨fun z => ⟨fun z2 => ?_, fun z2 => ⟨fun z3 => ?_, fun z3 => ?_⟩⟩, fun z => ?_⟩
              · by_cases kj : (nV A : Int) ≤ j
                · rw [if_pos kj]
                  (first | exact mj_eq.rf | exact fi_n mj_eq.rf | exact fi_i rfl mj_eq.rf | exact rfl)
                · rw [if_neg kj, if_neg (by omega), if_pos (by omega)]
                  (first | exact mj_eq.rf | exact fi_n mj_eq.rf | exact fi_i rfl mj_eq.rf | exact rfl)
              · -- the digits
                obtain ⟨j, rfl⟩ := nat_iR z
                have hne : cP H T ≠ 0 := by omega
                have hfT := hfl hne
                rw [if_neg (by omega), if_neg (by omega), if_neg hne, Int.toNat_natCast] at hP
                rw [if_neg hne]
                have dig : ∀ q : Nat, q + j + 1 ≤ nV A → ∀ x, x = fP H T / 7 ^ (nV A - 1 - j - q) → P 192 [some (mj_r (30, 60, 0)), some (mj_i (iI (m : Int))), some (mj_i (iI (s : Int))), some (mj_i (iI lane)), some (mj_i (iI (i : Int))), some (mj_i (iI (j : Int))), some (mj_i x6), some (mj_i (iI (T : Int))), some (mj_i (iI (cP H T : Int))), some (mj_i (iI (x : Int))), some (mj_i (iI ((j + q : Nat) : Int)))] [] (mj_ld N 14 A) := by
                  intro q
                  induction q with
                  | zero =>
                    intro hq x hx
                    have hxl : x ≤ fP H T := by rw [hx]; exact Nat.div_le_self _ _
                    have e1 : (x : Int) % 7 = (dgt (fP H T) (nV A) j : Int) := by
                      unfold dgt
                      rw [show nV A - 1 - j - 0 = nV A - 1 - j by omega] at hx
                      rw [← hx]
                      omega
                    refine rg_m_held_192 hP ⟨fun z => ⟨by decide, ?_⟩, fun z => ?_⟩
                    · simp (disch := omega) only [nl_0, nl_1, nl_2, nl_3, nl_4, nl_5, nl_6, nl_7, nl_8, nl_9, nl_10, nl_11, nl_12, nl_13, nl_14, nl_15, nl_16, nl_17, nl_18, nl_19, nl_20, nl_21, nl_22, nl_23, nl_24, nl_25, nl_26, nl_27, nl_28, nl_31, nl_32, nl_42, nl_44, nl_46, nl_48, nl_49, nl_50, nl_51, nl_60, nl_75, nl_76, nl_99, nl_100, nl_108, nl_114, nl_117, nl_126, nl_255, nl_999, nl_2401, nl_9999, nl_12345, nl_65536, nl_1000000, nl_1103515245, nl_2147483647, iI_0, iI_neg, iI_add, iI_sub, iI_mul, iI_div, iI_mod, iI_lt, iI_le, iI_eq, iI_nat, iI_vp, ld_rd, ld_wl, lu_s, lu_t, lu_c, lu_j, forall_eq, Int.toNat_natCast, true_and, and_true, not_true, not_false_iff, Classical.not_not, forall_const, iI_inj, e1]
                      (first | exact mj_eq.rf | exact fi_n mj_eq.rf | exact fi_i rfl mj_eq.rf | exact rfl)
                    · simp (disch := omega) only [nl_0, nl_1, nl_2, nl_3, nl_4, nl_5, nl_6, nl_7, nl_8, nl_9, nl_10, nl_11, nl_12, nl_13, nl_14, nl_15, nl_16, nl_17, nl_18, nl_19, nl_20, nl_21, nl_22, nl_23, nl_24, nl_25, nl_26, nl_27, nl_28, nl_31, nl_32, nl_42, nl_44, nl_46, nl_48, nl_49, nl_50, nl_51, nl_60, nl_75, nl_76, nl_99, nl_100, nl_108, nl_114, nl_117, nl_126, nl_255, nl_999, nl_2401, nl_9999, nl_12345, nl_65536, nl_1000000, nl_1103515245, nl_2147483647, iI_0, iI_neg, iI_add, iI_sub, iI_mul, iI_div, iI_mod, iI_lt, iI_le, iI_eq, iI_nat, iI_vp, ld_rd, ld_wl, lu_s, lu_t, lu_c, lu_j, forall_eq, Int.toNat_natCast, true_and, and_true, not_true, not_false_iff, Classical.not_not, forall_const, iI_inj] at z
                      omega
                  | succ q ihq =>
                    intro hq x hx
                    have hxl : x ≤ fP H T := by rw [hx]; exact Nat.div_le_self _ _
                    have e1 : (x : Int) / 7 = ((x / 7 : Nat) : Int) := by omega
                    have e2 : ((j + (q + 1) : Nat) : Int) + -1 = ((j + q : Nat) : Int) := by omega
                    refine rg_m_held_192 hP ⟨fun z => ?_, fun z => ⟨by decide, ?_⟩⟩
                    · simp (disch := omega) only [nl_0, nl_1, nl_2, nl_3, nl_4, nl_5, nl_6, nl_7, nl_8, nl_9, nl_10, nl_11, nl_12, nl_13, nl_14, nl_15, nl_16, nl_17, nl_18, nl_19, nl_20, nl_21, nl_22, nl_23, nl_24, nl_25, nl_26, nl_27, nl_28, nl_31, nl_32, nl_42, nl_44, nl_46, nl_48, nl_49, nl_50, nl_51, nl_60, nl_75, nl_76, nl_99, nl_100, nl_108, nl_114, nl_117, nl_126, nl_255, nl_999, nl_2401, nl_9999, nl_12345, nl_65536, nl_1000000, nl_1103515245, nl_2147483647, iI_0, iI_neg, iI_add, iI_sub, iI_mul, iI_div, iI_mod, iI_lt, iI_le, iI_eq, iI_nat, iI_vp, ld_rd, ld_wl, lu_s, lu_t, lu_c, lu_j, forall_eq, Int.toNat_natCast, true_and, and_true, not_true, not_false_iff, Classical.not_not, forall_const, iI_inj] at z
                      omega
                    · simp (disch := omega) only [nl_0, nl_1, nl_2, nl_3, nl_4, nl_5, nl_6, nl_7, nl_8, nl_9, nl_10, nl_11, nl_12, nl_13, nl_14, nl_15, nl_16, nl_17, nl_18, nl_19, nl_20, nl_21, nl_22, nl_23, nl_24, nl_25, nl_26, nl_27, nl_28, nl_31, nl_32, nl_42, nl_44, nl_46, nl_48, nl_49, nl_50, nl_51, nl_60, nl_75, nl_76, nl_99, nl_100, nl_108, nl_114, nl_117, nl_126, nl_255, nl_999, nl_2401, nl_9999, nl_12345, nl_65536, nl_1000000, nl_1103515245, nl_2147483647, iI_0, iI_neg, iI_add, iI_sub, iI_mul, iI_div, iI_mod, iI_lt, iI_le, iI_eq, iI_nat, iI_vp, ld_rd, ld_wl, lu_s, lu_t, lu_c, lu_j, forall_eq, Int.toNat_natCast, true_and, and_true, not_true, not_false_iff, Classical.not_not, forall_const, iI_inj, e1, e2]
                      refine ihq (by omega) (x / 7) ?_
                      rw [hx, Nat.div_div_eq_div_mul, ← Nat.pow_succ, show (nV A - 1 - j - (q + 1)).succ = nV A - 1 - j - q by omega]
                have := dig (nV A - 1 - j) (by omega) (fP H T) (by rw [Nat.sub_self, Nat.pow_zero, Nat.div_one])
                rw [show j + (nV A - 1 - j) = nV A - 1 by omega, show ((nV A - 1 : Nat) : Int) = (nV A : Int) - 1 by omega] at this
                exact this
              · rw [if_pos (by omega)]
                (first | exact mj_eq.rf | exact fi_n mj_eq.rf | exact fi_i rfl mj_eq.rf | exact rfl)
              · rw [if_neg (by omega), if_pos (by omega)]
                (first | exact mj_eq.rf | exact fi_n mj_eq.rf | exact fi_i rfl mj_eq.rf | exact rfl)
            · simp (disch := omega) only [nl_0, nl_1, nl_2, nl_3, nl_4, nl_5, nl_6, nl_7, nl_8, nl_9, nl_10, nl_11, nl_12, nl_13, nl_14, nl_15, nl_16, nl_17, nl_18, nl_19, nl_20, nl_21, nl_22, nl_23, nl_24, nl_25, nl_26, nl_27, nl_28, nl_31, nl_32, nl_42, nl_44, nl_46, nl_48, nl_49, nl_50, nl_51, nl_60, nl_75, nl_76, nl_99, nl_100, nl_108, nl_114, nl_117, nl_126, nl_255, nl_999, nl_2401, nl_9999, nl_12345, nl_65536, nl_1000000, nl_1103515245, nl_2147483647, iI_0, iI_neg, iI_add, iI_sub, iI_mul, iI_div, iI_mod, iI_lt, iI_le, iI_eq, iI_nat, iI_vp, ld_rd, ld_wl, lu_s, lu_t, lu_c, lu_j, forall_eq, Int.toNat_natCast, true_and, and_true, not_true, not_false_iff, Classical.not_not, forall_const, iI_inj] at z
              omega
          · have hWN : WD N 34 n S F := by
              unfold WD
              rw [hf 34 (by decide)]
              exact hW
            obtain ⟨N2, sp2, f2⟩ := sp_misAs (M := N) (s := s) (i := i) (m := m) (k := nV A) (code := c) (it := itI I s) hA hWN rfl (by omega) (fun q hq => by rw [hf 35 (by decide), (hS s hs4).2.2 q hq]; exact itI_e) itI_r (by omega) hs4 hc
            rw [hH] at sp2
            have hf2 : fr [15] M N2 := hf.tr f2
            have hcl := cP_le (H := H) c
            have hfc := fP_lt (H := H) c
            have e25 : (25 : Int) * (s : Int) + (i : Int) = ((25 * s + i : Nat) : Int) := by omega
            obtain ⟨M', hM', hR⟩ := ih N2 hf2 x6
            by_cases hT : H c = true
            · have efc : fP H (c + 1) = if cP H c = 0 ∧ H c = true then c else fP H c := rfl
              rw [cP_y hT, if_neg (by omega), efc] at hR
              refine ⟨M', hM', fun e he P hP hQ => rg_m_held_112 hP ⟨fun z => ?_, fun z => ?_⟩⟩
              · generalize 7 ^ nV A = T at hc hp7 z
                simp (disch := omega) only [nl_0, nl_1, nl_2, nl_3, nl_4, nl_5, nl_6, nl_7, nl_8, nl_9, nl_10, nl_11, nl_12, nl_13, nl_14, nl_15, nl_16, nl_17, nl_18, nl_19, nl_20, nl_21, nl_22, nl_23, nl_24, nl_25, nl_26, nl_27, nl_28, nl_31, nl_32, nl_42, nl_44, nl_46, nl_48, nl_49, nl_50, nl_51, nl_60, nl_75, nl_76, nl_99, nl_100, nl_108, nl_114, nl_117, nl_126, nl_255, nl_999, nl_2401, nl_9999, nl_12345, nl_65536, nl_1000000, nl_1103515245, nl_2147483647, iI_0, iI_neg, iI_add, iI_sub, iI_mul, iI_div, iI_mod, iI_lt, iI_le, iI_eq, iI_nat, iI_vp, ld_rd, ld_wl, lu_s, lu_t, lu_c, lu_j, forall_eq, Int.toNat_natCast, true_and, and_true, not_true, not_false_iff, Classical.not_not, forall_const, iI_inj] at z
                omega
              · simp (disch := omega) only [nl_0, nl_1, nl_2, nl_3, nl_4, nl_5, nl_6, nl_7, nl_8, nl_9, nl_10, nl_11, nl_12, nl_13, nl_14, nl_15, nl_16, nl_17, nl_18, nl_19, nl_20, nl_21, nl_22, nl_23, nl_24, nl_25, nl_26, nl_27, nl_28, nl_31, nl_32, nl_42, nl_44, nl_46, nl_48, nl_49, nl_50, nl_51, nl_60, nl_75, nl_76, nl_99, nl_100, nl_108, nl_114, nl_117, nl_126, nl_255, nl_999, nl_2401, nl_9999, nl_12345, nl_65536, nl_1000000, nl_1103515245, nl_2147483647, iI_0, iI_neg, iI_add, iI_sub, iI_mul, iI_div, iI_mod, iI_lt, iI_le, iI_eq, iI_nat, iI_vp, ld_rd, ld_wl, lu_s, lu_t, lu_c, lu_j, forall_eq, Int.toNat_natCast, true_and, and_true, not_true, not_false_iff, Classical.not_not, forall_const, iI_inj, e25]
                refine ⟨_, _, sp2 e (by omega), ?_⟩
                rw [if_pos hT]
                refine ⟨fun z => absurd z (by decide), fun _ => ?_⟩
                by_cases c0 : cP H c = 0
                · rw [if_pos c0]
                  try simp (disch := omega) only [nl_0, nl_1, nl_2, nl_3, nl_4, nl_5, nl_6, nl_7, nl_8, nl_9, nl_10, nl_11, nl_12, nl_13, nl_14, nl_15, nl_16, nl_17, nl_18, nl_19, nl_20, nl_21, nl_22, nl_23, nl_24, nl_25, nl_26, nl_27, nl_28, nl_31, nl_32, nl_42, nl_44, nl_46, nl_48, nl_49, nl_50, nl_51, nl_60, nl_75, nl_76, nl_99, nl_100, nl_108, nl_114, nl_117, nl_126, nl_255, nl_999, nl_2401, nl_9999, nl_12345, nl_65536, nl_1000000, nl_1103515245, nl_2147483647, iI_0, iI_neg, iI_add, iI_sub, iI_mul, iI_div, iI_mod, iI_lt, iI_le, iI_eq, iI_nat, iI_vp, ld_rd, ld_wl, lu_s, lu_t, lu_c, lu_j, forall_eq, Int.toNat_natCast, true_and, and_true, not_true, not_false_iff, Classical.not_not, forall_const, iI_inj]
                  refine ⟨fun z => by omega, fun _ => ?_⟩
                  rw [if_pos ⟨c0, hT⟩] at hR
                  exact hR e he P hP hQ
                · rw [if_neg c0]
                  rw [if_neg (fun z => c0 z.1)] at hR
                  have := hfc c0
                  try simp (disch := omega) only [nl_0, nl_1, nl_2, nl_3, nl_4, nl_5, nl_6, nl_7, nl_8, nl_9, nl_10, nl_11, nl_12, nl_13, nl_14, nl_15, nl_16, nl_17, nl_18, nl_19, nl_20, nl_21, nl_22, nl_23, nl_24, nl_25, nl_26, nl_27, nl_28, nl_31, nl_32, nl_42, nl_44, nl_46, nl_48, nl_49, nl_50, nl_51, nl_60, nl_75, nl_76, nl_99, nl_100, nl_108, nl_114, nl_117, nl_126, nl_255, nl_999, nl_2401, nl_9999, nl_12345, nl_65536, nl_1000000, nl_1103515245, nl_2147483647, iI_0, iI_neg, iI_add, iI_sub, iI_mul, iI_div, iI_mod, iI_lt, iI_le, iI_eq, iI_nat, iI_vp, ld_rd, ld_wl, lu_s, lu_t, lu_c, lu_j, forall_eq, Int.toNat_natCast, true_and, and_true, not_true, not_false_iff, Classical.not_not, forall_const, iI_inj]
                  refine ⟨fun _ => ?_, fun z => by omega⟩
                  exact hR e he P hP hQ
            · have hn := cP_n hT
              rw [hn.1, hn.2] at hR
              refine ⟨M', hM', fun e he P hP hQ => rg_m_held_112 hP ⟨fun z => ?_, fun z => ?_⟩⟩
              · generalize 7 ^ nV A = T at hc hp7 z
                simp (disch := omega) only [nl_0, nl_1, nl_2, nl_3, nl_4, nl_5, nl_6, nl_7, nl_8, nl_9, nl_10, nl_11, nl_12, nl_13, nl_14, nl_15, nl_16, nl_17, nl_18, nl_19, nl_20, nl_21, nl_22, nl_23, nl_24, nl_25, nl_26, nl_27, nl_28, nl_31, nl_32, nl_42, nl_44, nl_46, nl_48, nl_49, nl_50, nl_51, nl_60, nl_75, nl_76, nl_99, nl_100, nl_108, nl_114, nl_117, nl_126, nl_255, nl_999, nl_2401, nl_9999, nl_12345, nl_65536, nl_1000000, nl_1103515245, nl_2147483647, iI_0, iI_neg, iI_add, iI_sub, iI_mul, iI_div, iI_mod, iI_lt, iI_le, iI_eq, iI_nat, iI_vp, ld_rd, ld_wl, lu_s, lu_t, lu_c, lu_j, forall_eq, Int.toNat_natCast, true_and, and_true, not_true, not_false_iff, Classical.not_not, forall_const, iI_inj] at z
                omega
              · simp (disch := omega) only [nl_0, nl_1, nl_2, nl_3, nl_4, nl_5, nl_6, nl_7, nl_8, nl_9, nl_10, nl_11, nl_12, nl_13, nl_14, nl_15, nl_16, nl_17, nl_18, nl_19, nl_20, nl_21, nl_22, nl_23, nl_24, nl_25, nl_26, nl_27, nl_28, nl_31, nl_32, nl_42, nl_44, nl_46, nl_48, nl_49, nl_50, nl_51, nl_60, nl_75, nl_76, nl_99, nl_100, nl_108, nl_114, nl_117, nl_126, nl_255, nl_999, nl_2401, nl_9999, nl_12345, nl_65536, nl_1000000, nl_1103515245, nl_2147483647, iI_0, iI_neg, iI_add, iI_sub, iI_mul, iI_div, iI_mod, iI_lt, iI_le, iI_eq, iI_nat, iI_vp, ld_rd, ld_wl, lu_s, lu_t, lu_c, lu_j, forall_eq, Int.toNat_natCast, true_and, and_true, not_true, not_false_iff, Classical.not_not, forall_const, iI_inj, e25]
                refine ⟨_, _, sp2 e (by omega), ?_⟩
                rw [if_neg hT]
                simp (disch := omega) only [nl_0, nl_1, nl_2, nl_3, nl_4, nl_5, nl_6, nl_7, nl_8, nl_9, nl_10, nl_11, nl_12, nl_13, nl_14, nl_15, nl_16, nl_17, nl_18, nl_19, nl_20, nl_21, nl_22, nl_23, nl_24, nl_25, nl_26, nl_27, nl_28, nl_31, nl_32, nl_42, nl_44, nl_46, nl_48, nl_49, nl_50, nl_51, nl_60, nl_75, nl_76, nl_99, nl_100, nl_108, nl_114, nl_117, nl_126, nl_255, nl_999, nl_2401, nl_9999, nl_12345, nl_65536, nl_1000000, nl_1103515245, nl_2147483647, iI_0, iI_neg, iI_add, iI_sub, iI_mul, iI_div, iI_mod, iI_lt, iI_le, iI_eq, iI_nat, iI_vp, ld_rd, ld_wl, lu_s, lu_t, lu_c, lu_j, forall_eq, Int.toNat_natCast, true_and, and_true, not_true, not_false_iff, Classical.not_not, forall_const, iI_inj]
                exact ⟨hR e he P hP hQ, fun z => z.elim⟩
        obtain ⟨M', hM', hR⟩ := cnt 0 (Nat.zero_le _) M fr.r0 (iI 0)
        refine ⟨M', fun d hd => ?_, hM'⟩
        refine en_m_held (k := 7) hd fun e he P hP hQ => rg_m_held_0 hP ?_
        unfold iR at hm hj
        simp (disch := omega) only [nl_0, nl_1, nl_2, nl_3, nl_4, nl_5, nl_6, nl_7, nl_8, nl_9, nl_10, nl_11, nl_12, nl_13, nl_14, nl_15, nl_16, nl_17, nl_18, nl_19, nl_20, nl_21, nl_22, nl_23, nl_24, nl_25, nl_26, nl_27, nl_28, nl_31, nl_32, nl_42, nl_44, nl_46, nl_48, nl_49, nl_50, nl_51, nl_60, nl_75, nl_76, nl_99, nl_100, nl_108, nl_114, nl_117, nl_126, nl_255, nl_999, nl_2401, nl_9999, nl_12345, nl_65536, nl_1000000, nl_1103515245, nl_2147483647, iI_0, iI_neg, iI_add, iI_sub, iI_mul, iI_div, iI_mod, iI_lt, iI_le, iI_eq, iI_nat, iI_vp, ld_rd, ld_wl, lu_s, lu_t, lu_c, lu_j, forall_eq, Int.toNat_natCast, true_and, and_true, not_true, not_false_iff, Classical.not_not, forall_const, iI_inj, lI_iI, lI_neg, ll_1, ll_12, ll_3]
        refine bo2 (sp_mI (by omega) (by omega) (by omega) (by omega)) (fun c => bo2 (sp_misSheet (by omega) hs) (fun c2 => bo2 (sp_misLane (by omega) hl) (fun c3 => bo1 (sp_mI (by omega) (by omega) (by omega) (by omega)) (fun c4 => ?_) (fun c4 => by omega)) (fun c3 => by omega)) (fun c2 => by omega)) (fun c => by omega)
        simp (disch := omega) only [nl_0, nl_1, nl_2, nl_3, nl_4, nl_5, nl_6, nl_7, nl_8, nl_9, nl_10, nl_11, nl_12, nl_13, nl_14, nl_15, nl_16, nl_17, nl_18, nl_19, nl_20, nl_21, nl_22, nl_23, nl_24, nl_25, nl_26, nl_27, nl_28, nl_31, nl_32, nl_42, nl_44, nl_46, nl_48, nl_49, nl_50, nl_51, nl_60, nl_75, nl_76, nl_99, nl_100, nl_108, nl_114, nl_117, nl_126, nl_255, nl_999, nl_2401, nl_9999, nl_12345, nl_65536, nl_1000000, nl_1103515245, nl_2147483647, iI_0, iI_neg, iI_add, iI_sub, iI_mul, iI_div, iI_mod, iI_lt, iI_le, iI_eq, iI_nat, iI_vp, ld_rd, ld_wl, lu_s, lu_t, lu_c, lu_j, forall_eq, Int.toNat_natCast, true_and, and_true, not_true, not_false_iff, Classical.not_not, forall_const, iI_inj, hnv.1]
        refine ⟨_, _, pre e (by omega), ?_⟩
        rw [f]
        simp (disch := omega) only [nl_0, nl_1, nl_2, nl_3, nl_4, nl_5, nl_6, nl_7, nl_8, nl_9, nl_10, nl_11, nl_12, nl_13, nl_14, nl_15, nl_16, nl_17, nl_18, nl_19, nl_20, nl_21, nl_22, nl_23, nl_24, nl_25, nl_26, nl_27, nl_28, nl_31, nl_32, nl_42, nl_44, nl_46, nl_48, nl_49, nl_50, nl_51, nl_60, nl_75, nl_76, nl_99, nl_100, nl_108, nl_114, nl_117, nl_126, nl_255, nl_999, nl_2401, nl_9999, nl_12345, nl_65536, nl_1000000, nl_1103515245, nl_2147483647, iI_0, iI_neg, iI_add, iI_sub, iI_mul, iI_div, iI_mod, iI_lt, iI_le, iI_eq, iI_nat, iI_vp, ld_rd, ld_wl, lu_s, lu_t, lu_c, lu_j, forall_eq, Int.toNat_natCast, true_and, and_true, not_true, not_false_iff, Classical.not_not, forall_const, iI_inj, hnv.1]
        refine ⟨fun _ => ⟨fun _ => ?_, fun z => absurd z (by omega)⟩, fun z => absurd z (by omega)⟩
        -- seven to the villages
        have pw : ∀ v, v ≤ nV A → P 81 [some (mj_r (30, 60, 0)), some (mj_i (iI (m : Int))), some (mj_i (iI (s : Int))), some (mj_i (iI lane)), some (mj_i (iI (i : Int))), some (mj_i (iI j)), some (mj_i (iI 0)), some (mj_i (iI ((7 ^ v : Nat) : Int))), some (mj_i (iI (v : Int))), none, none] [] (mj_ld M 14 A) := by
          refine lp_dn (Q := fun v => P 81 [some (mj_r (30, 60, 0)), some (mj_i (iI (m : Int))), some (mj_i (iI (s : Int))), some (mj_i (iI lane)), some (mj_i (iI (i : Int))), some (mj_i (iI j)), some (mj_i (iI 0)), some (mj_i (iI ((7 ^ v : Nat) : Int))), some (mj_i (iI (v : Int))), none, none] [] (mj_ld M 14 A)) (n := nV A) ?_ (fun v hv ih => ?_)
          · refine rg_m_held_81 hP ⟨fun z => ?_, fun z => ?_⟩
            · exact hR e he P hP hQ
            · simp (disch := omega) only [nl_0, nl_1, nl_2, nl_3, nl_4, nl_5, nl_6, nl_7, nl_8, nl_9, nl_10, nl_11, nl_12, nl_13, nl_14, nl_15, nl_16, nl_17, nl_18, nl_19, nl_20, nl_21, nl_22, nl_23, nl_24, nl_25, nl_26, nl_27, nl_28, nl_31, nl_32, nl_42, nl_44, nl_46, nl_48, nl_49, nl_50, nl_51, nl_60, nl_75, nl_76, nl_99, nl_100, nl_108, nl_114, nl_117, nl_126, nl_255, nl_999, nl_2401, nl_9999, nl_12345, nl_65536, nl_1000000, nl_1103515245, nl_2147483647, iI_0, iI_neg, iI_add, iI_sub, iI_mul, iI_div, iI_mod, iI_lt, iI_le, iI_eq, iI_nat, iI_vp, ld_rd, ld_wl, lu_s, lu_t, lu_c, lu_j, forall_eq, Int.toNat_natCast, true_and, and_true, not_true, not_false_iff, Classical.not_not, forall_const, iI_inj, hnv.1] at z
              omega
          · have e7 : ((7 ^ (v + 1) : Nat) : Int) = ((7 ^ v : Nat) : Int) * 7 := by rw [Nat.pow_succ]; omega
            rw [e7] at ih
            refine rg_m_held_81 hP ⟨fun z => ?_, fun z => ?_⟩
            · simp (disch := omega) only [nl_0, nl_1, nl_2, nl_3, nl_4, nl_5, nl_6, nl_7, nl_8, nl_9, nl_10, nl_11, nl_12, nl_13, nl_14, nl_15, nl_16, nl_17, nl_18, nl_19, nl_20, nl_21, nl_22, nl_23, nl_24, nl_25, nl_26, nl_27, nl_28, nl_31, nl_32, nl_42, nl_44, nl_46, nl_48, nl_49, nl_50, nl_51, nl_60, nl_75, nl_76, nl_99, nl_100, nl_108, nl_114, nl_117, nl_126, nl_255, nl_999, nl_2401, nl_9999, nl_12345, nl_65536, nl_1000000, nl_1103515245, nl_2147483647, iI_0, iI_neg, iI_add, iI_sub, iI_mul, iI_div, iI_mod, iI_lt, iI_le, iI_eq, iI_nat, iI_vp, ld_rd, ld_wl, lu_s, lu_t, lu_c, lu_j, forall_eq, Int.toNat_natCast, true_and, and_true, not_true, not_false_iff, Classical.not_not, forall_const, iI_inj, hnv.1] at z
              omega
            · simp (disch := omega) only [nl_0, nl_1, nl_2, nl_3, nl_4, nl_5, nl_6, nl_7, nl_8, nl_9, nl_10, nl_11, nl_12, nl_13, nl_14, nl_15, nl_16, nl_17, nl_18, nl_19, nl_20, nl_21, nl_22, nl_23, nl_24, nl_25, nl_26, nl_27, nl_28, nl_31, nl_32, nl_42, nl_44, nl_46, nl_48, nl_49, nl_50, nl_51, nl_60, nl_75, nl_76, nl_99, nl_100, nl_108, nl_114, nl_117, nl_126, nl_255, nl_999, nl_2401, nl_9999, nl_12345, nl_65536, nl_1000000, nl_1103515245, nl_2147483647, iI_0, iI_neg, iI_add, iI_sub, iI_mul, iI_div, iI_mod, iI_lt, iI_le, iI_eq, iI_nat, iI_vp, ld_rd, ld_wl, lu_s, lu_t, lu_c, lu_j, forall_eq, Int.toNat_natCast, true_and, and_true, not_true, not_false_iff, Classical.not_not, forall_const, iI_inj]
              exact ih
        exact pw 0 (Nat.zero_le _)
    · rw [if_pos f]
      refine ⟨M, fun d hd => ?_, fr.r0⟩
      refine en_m_held (k := 7) hd fun e he P hP hQ => rg_m_held_0 hP ?_
      unfold iR at hm hj
      simp (disch := omega) only [nl_0, nl_1, nl_2, nl_3, nl_4, nl_5, nl_6, nl_7, nl_8, nl_9, nl_10, nl_11, nl_12, nl_13, nl_14, nl_15, nl_16, nl_17, nl_18, nl_19, nl_20, nl_21, nl_22, nl_23, nl_24, nl_25, nl_26, nl_27, nl_28, nl_31, nl_32, nl_42, nl_44, nl_46, nl_48, nl_49, nl_50, nl_51, nl_60, nl_75, nl_76, nl_99, nl_100, nl_108, nl_114, nl_117, nl_126, nl_255, nl_999, nl_2401, nl_9999, nl_12345, nl_65536, nl_1000000, nl_1103515245, nl_2147483647, iI_0, iI_neg, iI_add, iI_sub, iI_mul, iI_div, iI_mod, iI_lt, iI_le, iI_eq, iI_nat, iI_vp, ld_rd, ld_wl, lu_s, lu_t, lu_c, lu_j, forall_eq, Int.toNat_natCast, true_and, and_true, not_true, not_false_iff, Classical.not_not, forall_const, iI_inj, lI_iI, lI_neg, ll_1, ll_12, ll_3]
      refine bo2 (sp_mI (by omega) (by omega) (by omega) (by omega)) (fun c => bo2 (sp_misSheet (by omega) hs) (fun c2 => bo2 (sp_misLane (by omega) hl) (fun c3 => bo1 (sp_mI (by omega) (by omega) (by omega) (by omega)) (fun c4 => ?_) (fun c4 => by omega)) (fun c3 => by omega)) (fun c2 => by omega)) (fun c => by omega)
      simp (disch := omega) only [nl_0, nl_1, nl_2, nl_3, nl_4, nl_5, nl_6, nl_7, nl_8, nl_9, nl_10, nl_11, nl_12, nl_13, nl_14, nl_15, nl_16, nl_17, nl_18, nl_19, nl_20, nl_21, nl_22, nl_23, nl_24, nl_25, nl_26, nl_27, nl_28, nl_31, nl_32, nl_42, nl_44, nl_46, nl_48, nl_49, nl_50, nl_51, nl_60, nl_75, nl_76, nl_99, nl_100, nl_108, nl_114, nl_117, nl_126, nl_255, nl_999, nl_2401, nl_9999, nl_12345, nl_65536, nl_1000000, nl_1103515245, nl_2147483647, iI_0, iI_neg, iI_add, iI_sub, iI_mul, iI_div, iI_mod, iI_lt, iI_le, iI_eq, iI_nat, iI_vp, ld_rd, ld_wl, lu_s, lu_t, lu_c, lu_j, forall_eq, Int.toNat_natCast, true_and, and_true, not_true, not_false_iff, Classical.not_not, forall_const, iI_inj, hnv.1]
      refine ⟨_, _, pre e (by omega), ?_⟩
      simp (disch := omega) only [nl_0, nl_1, nl_2, nl_3, nl_4, nl_5, nl_6, nl_7, nl_8, nl_9, nl_10, nl_11, nl_12, nl_13, nl_14, nl_15, nl_16, nl_17, nl_18, nl_19, nl_20, nl_21, nl_22, nl_23, nl_24, nl_25, nl_26, nl_27, nl_28, nl_31, nl_32, nl_42, nl_44, nl_46, nl_48, nl_49, nl_50, nl_51, nl_60, nl_75, nl_76, nl_99, nl_100, nl_108, nl_114, nl_117, nl_126, nl_255, nl_999, nl_2401, nl_9999, nl_12345, nl_65536, nl_1000000, nl_1103515245, nl_2147483647, iI_0, iI_neg, iI_add, iI_sub, iI_mul, iI_div, iI_mod, iI_lt, iI_le, iI_eq, iI_nat, iI_vp, ld_rd, ld_wl, lu_s, lu_t, lu_c, lu_j, forall_eq, Int.toNat_natCast, true_and, and_true, not_true, not_false_iff, Classical.not_not, forall_const, iI_inj]
      exact ⟨fun z => by omega, fun _ => by (first | exact mj_eq.rf | exact fi_n mj_eq.rf | exact fi_i rfl mj_eq.rf | exact rfl)⟩
