/-! contracts: copy -/
abbrev lk (z i n : Int) : Prop := i < 0 ∨ n < 0 ∨ z < i ∨ z - i < n
def r_copy (ln sz : Nat → Int) (f i t j n : Int) : Int := if f < 0 ∨ 3 < f ∨ t < 0 ∨ 3 < t then -1 else if ln f.toNat < 0 ∨ ln t.toNat < 0 then -11 else if ln f.toNat ≠ ln t.toNat then -12 else if lk (sz f.toNat) i n ∨ lk (sz t.toNat) j n then -13 else n
def cI (I : Nat → Nat → Int32) (f i t j n : Nat) : Nat → Nat → Int32 := fun s q => if s = t ∧ j ≤ q ∧ q < j + n then I f (i + (q - j)) else I s q
theorem c_copy {d : Nat} (hd : 2 ≤ d) {M : mj_M} {ln sz : Nat → Int} {I : Nat → Nat → Int32} {f i t j n : Int} (hf : iR f) (hi : iR i) (ht : iR t) (hj : iR j) (hn : iR n) (hS : SC M ln sz I) (hI : SI ln sz) : ∃ M', mj_Sp d 28 [mj_r (13, 50, 0), mj_i (iI f), mj_i (iI i), mj_i (iI t), mj_i (iI j), mj_i (iI n)] M (some (mj_i (iI (r_copy ln sz f i t j n)))) M' ∧ fr [7] M M' ∧ SC M' ln sz (if 0 ≤ r_copy ln sz f i t j n then cI I f.toNat i.toNat t.toNat j.toNat n.toNat else I) := by
  have hf' := hf
  have ht' := ht
  unfold iR at hf ht
  by_cases g : f < 0 ∨ 3 < f ∨ t < 0 ∨ 3 < t
  · have er : r_copy ln sz f i t j n = -1 := if_pos g
    rw [er]
    refine ⟨M, en_C_copy (k := 1) hd fun e he P hP hQ => rg_C_copy_0 hP ?_, fr.r0, hS⟩
    simp (disch := omega) only [nl_0, nl_1, nl_2, nl_3, nl_4, nl_5, nl_6, nl_7, nl_8, nl_9, nl_10, nl_11, nl_12, nl_13, nl_14, nl_15, nl_16, nl_17, nl_18, nl_19, nl_20, nl_21, nl_22, nl_23, nl_24, nl_25, nl_26, nl_27, nl_28, nl_31, nl_32, nl_42, nl_44, nl_46, nl_48, nl_49, nl_50, nl_51, nl_60, nl_75, nl_76, nl_99, nl_100, nl_108, nl_114, nl_117, nl_126, nl_255, nl_999, nl_2401, nl_9999, nl_12345, nl_65536, nl_1000000, nl_1103515245, nl_2147483647, iI_0, iI_neg, iI_add, iI_sub, iI_mul, iI_div, iI_mod, iI_lt, iI_le, iI_eq, iI_nat, iI_vp, ld_rd, ld_wl, lu_s, lu_t, lu_c, lu_j, forall_eq, Int.toNat_natCast, true_and, and_true, not_true, not_false_iff, Classical.not_not, forall_const, iI_inj]
    refine bo1 (sp_oI (by omega) (by omega) (by omega) (by omega)) (fun c => by (first | exact mj_eq.rf | exact fi_n mj_eq.rf | exact fi_i rfl mj_eq.rf | exact rfl)) (fun c => bo2 (sp_oI (by omega) (by omega) (by omega) (by omega)) (fun c2 => by (first | exact mj_eq.rf | exact fi_n mj_eq.rf | exact fi_i rfl mj_eq.rf | exact rfl)) (fun c2 => by omega))
  · have hS1 : f.toNat < 4 := by omega
    have hS2 : t.toNat < 4 := by omega
    have k1 := (hS f.toNat hS1).1
    have k2 := (hS t.toNat hS2).1
    have i1 := hI f.toNat hS1
    have i2 := hI t.toNat hS2
    rcases k1 with ⟨a1, a2⟩ | ⟨a1, a2, a3, a4⟩
    · have er : r_copy ln sz f i t j n = -11 := by
        unfold r_copy
        rw [if_neg g, if_pos (by omega)]
      rw [er]
      refine ⟨M, en_C_copy (k := 1) hd fun e he P hP hQ => rg_C_copy_0 hP ?_, fr.r0, hS⟩
      simp (disch := omega) only [nl_0, nl_1, nl_2, nl_3, nl_4, nl_5, nl_6, nl_7, nl_8, nl_9, nl_10, nl_11, nl_12, nl_13, nl_14, nl_15, nl_16, nl_17, nl_18, nl_19, nl_20, nl_21, nl_22, nl_23, nl_24, nl_25, nl_26, nl_27, nl_28, nl_31, nl_32, nl_42, nl_44, nl_46, nl_48, nl_49, nl_50, nl_51, nl_60, nl_75, nl_76, nl_99, nl_100, nl_108, nl_114, nl_117, nl_126, nl_255, nl_999, nl_2401, nl_9999, nl_12345, nl_65536, nl_1000000, nl_1103515245, nl_2147483647, iI_0, iI_neg, iI_add, iI_sub, iI_mul, iI_div, iI_mod, iI_lt, iI_le, iI_eq, iI_nat, iI_vp, ld_rd, ld_wl, lu_s, lu_t, lu_c, lu_j, forall_eq, Int.toNat_natCast, true_and, and_true, not_true, not_false_iff, Classical.not_not, forall_const, iI_inj]
      refine bo1 (sp_oI (by omega) (by omega) (by omega) (by omega)) (fun c => by omega) (fun c => bo2 (sp_oI (by omega) (by omega) (by omega) (by omega)) (fun c2 => by omega) (fun c2 => ?_))
      simp (disch := omega) only [nl_0, nl_1, nl_2, nl_3, nl_4, nl_5, nl_6, nl_7, nl_8, nl_9, nl_10, nl_11, nl_12, nl_13, nl_14, nl_15, nl_16, nl_17, nl_18, nl_19, nl_20, nl_21, nl_22, nl_23, nl_24, nl_25, nl_26, nl_27, nl_28, nl_31, nl_32, nl_42, nl_44, nl_46, nl_48, nl_49, nl_50, nl_51, nl_60, nl_75, nl_76, nl_99, nl_100, nl_108, nl_114, nl_117, nl_126, nl_255, nl_999, nl_2401, nl_9999, nl_12345, nl_65536, nl_1000000, nl_1103515245, nl_2147483647, iI_0, iI_neg, iI_add, iI_sub, iI_mul, iI_div, iI_mod, iI_lt, iI_le, iI_eq, iI_nat, iI_vp, ld_rd, ld_wl, lu_s, lu_t, lu_c, lu_j, forall_eq, Int.toNat_natCast, true_and, and_true, not_true, not_false_iff, Classical.not_not, forall_const, iI_inj, a2]
      exact ⟨by (first | exact mj_eq.rf | exact fi_n mj_eq.rf | exact fi_i rfl mj_eq.rf | exact rfl), fun z => z.elim⟩
    · rcases k2 with ⟨b1, b2⟩ | ⟨b1, b2, b3, b4⟩
      · have er : r_copy ln sz f i t j n = -11 := by
          unfold r_copy
          rw [if_neg g, if_pos (by omega)]
        rw [er]
        refine ⟨M, en_C_copy (k := 1) hd fun e he P hP hQ => rg_C_copy_0 hP ?_, fr.r0, hS⟩
        simp (disch := omega) only [nl_0, nl_1, nl_2, nl_3, nl_4, nl_5, nl_6, nl_7, nl_8, nl_9, nl_10, nl_11, nl_12, nl_13, nl_14, nl_15, nl_16, nl_17, nl_18, nl_19, nl_20, nl_21, nl_22, nl_23, nl_24, nl_25, nl_26, nl_27, nl_28, nl_31, nl_32, nl_42, nl_44, nl_46, nl_48, nl_49, nl_50, nl_51, nl_60, nl_75, nl_76, nl_99, nl_100, nl_108, nl_114, nl_117, nl_126, nl_255, nl_999, nl_2401, nl_9999, nl_12345, nl_65536, nl_1000000, nl_1103515245, nl_2147483647, iI_0, iI_neg, iI_add, iI_sub, iI_mul, iI_div, iI_mod, iI_lt, iI_le, iI_eq, iI_nat, iI_vp, ld_rd, ld_wl, lu_s, lu_t, lu_c, lu_j, forall_eq, Int.toNat_natCast, true_and, and_true, not_true, not_false_iff, Classical.not_not, forall_const, iI_inj]
        refine bo1 (sp_oI (by omega) (by omega) (by omega) (by omega)) (fun c => by omega) (fun c => bo2 (sp_oI (by omega) (by omega) (by omega) (by omega)) (fun c2 => by omega) (fun c2 => ?_))
        simp (disch := omega) only [nl_0, nl_1, nl_2, nl_3, nl_4, nl_5, nl_6, nl_7, nl_8, nl_9, nl_10, nl_11, nl_12, nl_13, nl_14, nl_15, nl_16, nl_17, nl_18, nl_19, nl_20, nl_21, nl_22, nl_23, nl_24, nl_25, nl_26, nl_27, nl_28, nl_31, nl_32, nl_42, nl_44, nl_46, nl_48, nl_49, nl_50, nl_51, nl_60, nl_75, nl_76, nl_99, nl_100, nl_108, nl_114, nl_117, nl_126, nl_255, nl_999, nl_2401, nl_9999, nl_12345, nl_65536, nl_1000000, nl_1103515245, nl_2147483647, iI_0, iI_neg, iI_add, iI_sub, iI_mul, iI_div, iI_mod, iI_lt, iI_le, iI_eq, iI_nat, iI_vp, ld_rd, ld_wl, lu_s, lu_t, lu_c, lu_j, forall_eq, Int.toNat_natCast, true_and, and_true, not_true, not_false_iff, Classical.not_not, forall_const, iI_inj, a2, b2]
        exact ⟨fun z => absurd z (by decide), fun _ => ⟨fun z => z.elim, by (first | exact mj_eq.rf | exact fi_n mj_eq.rf | exact fi_i rfl mj_eq.rf | exact rfl)⟩⟩
      · by_cases g2 : ln f.toNat = ln t.toNat
        · have z1 := i1.2 a1
          have z2 := i2.2 b1
          by_cases g3 : lk (sz f.toNat) i n
          · have er : r_copy ln sz f i t j n = -13 := by
              unfold r_copy
              rw [if_neg g, if_neg (by omega), if_neg (by omega), if_pos (Or.inl g3)]
            rw [er]
            refine ⟨M, en_C_copy (k := 1) hd fun e he P hP hQ => rg_C_copy_0 hP ?_, fr.r0, hS⟩
            simp (disch := omega) only [nl_0, nl_1, nl_2, nl_3, nl_4, nl_5, nl_6, nl_7, nl_8, nl_9, nl_10, nl_11, nl_12, nl_13, nl_14, nl_15, nl_16, nl_17, nl_18, nl_19, nl_20, nl_21, nl_22, nl_23, nl_24, nl_25, nl_26, nl_27, nl_28, nl_31, nl_32, nl_42, nl_44, nl_46, nl_48, nl_49, nl_50, nl_51, nl_60, nl_75, nl_76, nl_99, nl_100, nl_108, nl_114, nl_117, nl_126, nl_255, nl_999, nl_2401, nl_9999, nl_12345, nl_65536, nl_1000000, nl_1103515245, nl_2147483647, iI_0, iI_neg, iI_add, iI_sub, iI_mul, iI_div, iI_mod, iI_lt, iI_le, iI_eq, iI_nat, iI_vp, ld_rd, ld_wl, lu_s, lu_t, lu_c, lu_j, forall_eq, Int.toNat_natCast, true_and, and_true, not_true, not_false_iff, Classical.not_not, forall_const, iI_inj]
            refine bo1 (sp_oI (by omega) (by omega) (by omega) (by omega)) (fun c => by omega) (fun c => bo2 (sp_oI (by omega) (by omega) (by omega) (by omega)) (fun c2 => by omega) (fun c2 => ?_))
            simp (disch := omega) only [nl_0, nl_1, nl_2, nl_3, nl_4, nl_5, nl_6, nl_7, nl_8, nl_9, nl_10, nl_11, nl_12, nl_13, nl_14, nl_15, nl_16, nl_17, nl_18, nl_19, nl_20, nl_21, nl_22, nl_23, nl_24, nl_25, nl_26, nl_27, nl_28, nl_31, nl_32, nl_42, nl_44, nl_46, nl_48, nl_49, nl_50, nl_51, nl_60, nl_75, nl_76, nl_99, nl_100, nl_108, nl_114, nl_117, nl_126, nl_255, nl_999, nl_2401, nl_9999, nl_12345, nl_65536, nl_1000000, nl_1103515245, nl_2147483647, iI_0, iI_neg, iI_add, iI_sub, iI_mul, iI_div, iI_mod, iI_lt, iI_le, iI_eq, iI_nat, iI_vp, ld_rd, ld_wl, lu_s, lu_t, lu_c, lu_j, forall_eq, Int.toNat_natCast, true_and, and_true, not_true, not_false_iff, Classical.not_not, forall_const, iI_inj, a2, b2, a3, b3]
            refine ⟨fun z => absurd z (by decide), fun _ => ⟨fun _ => ⟨fun _ => bo1 (sp_lacks (by omega) a4 z1 hi hn) (fun c3 => by (first | exact mj_eq.rf | exact fi_n mj_eq.rf | exact fi_i rfl mj_eq.rf | exact rfl)) (fun c3 => absurd g3 c3), fun z => absurd g2 z⟩, fun z => absurd z (by decide)⟩⟩
          · by_cases g4 : lk (sz t.toNat) j n
            · have er : r_copy ln sz f i t j n = -13 := by
                unfold r_copy
                rw [if_neg g, if_neg (by omega), if_neg (by omega), if_pos (Or.inr g4)]
              rw [er]
              refine ⟨M, en_C_copy (k := 1) hd fun e he P hP hQ => rg_C_copy_0 hP ?_, fr.r0, hS⟩
              simp (disch := omega) only [nl_0, nl_1, nl_2, nl_3, nl_4, nl_5, nl_6, nl_7, nl_8, nl_9, nl_10, nl_11, nl_12, nl_13, nl_14, nl_15, nl_16, nl_17, nl_18, nl_19, nl_20, nl_21, nl_22, nl_23, nl_24, nl_25, nl_26, nl_27, nl_28, nl_31, nl_32, nl_42, nl_44, nl_46, nl_48, nl_49, nl_50, nl_51, nl_60, nl_75, nl_76, nl_99, nl_100, nl_108, nl_114, nl_117, nl_126, nl_255, nl_999, nl_2401, nl_9999, nl_12345, nl_65536, nl_1000000, nl_1103515245, nl_2147483647, iI_0, iI_neg, iI_add, iI_sub, iI_mul, iI_div, iI_mod, iI_lt, iI_le, iI_eq, iI_nat, iI_vp, ld_rd, ld_wl, lu_s, lu_t, lu_c, lu_j, forall_eq, Int.toNat_natCast, true_and, and_true, not_true, not_false_iff, Classical.not_not, forall_const, iI_inj]
              refine bo1 (sp_oI (by omega) (by omega) (by omega) (by omega)) (fun c => by omega) (fun c => bo2 (sp_oI (by omega) (by omega) (by omega) (by omega)) (fun c2 => by omega) (fun c2 => ?_))
              simp (disch := omega) only [nl_0, nl_1, nl_2, nl_3, nl_4, nl_5, nl_6, nl_7, nl_8, nl_9, nl_10, nl_11, nl_12, nl_13, nl_14, nl_15, nl_16, nl_17, nl_18, nl_19, nl_20, nl_21, nl_22, nl_23, nl_24, nl_25, nl_26, nl_27, nl_28, nl_31, nl_32, nl_42, nl_44, nl_46, nl_48, nl_49, nl_50, nl_51, nl_60, nl_75, nl_76, nl_99, nl_100, nl_108, nl_114, nl_117, nl_126, nl_255, nl_999, nl_2401, nl_9999, nl_12345, nl_65536, nl_1000000, nl_1103515245, nl_2147483647, iI_0, iI_neg, iI_add, iI_sub, iI_mul, iI_div, iI_mod, iI_lt, iI_le, iI_eq, iI_nat, iI_vp, ld_rd, ld_wl, lu_s, lu_t, lu_c, lu_j, forall_eq, Int.toNat_natCast, true_and, and_true, not_true, not_false_iff, Classical.not_not, forall_const, iI_inj, a2, b2, a3, b3]
              refine ⟨fun z => absurd z (by decide), fun _ => ⟨fun _ => ⟨fun _ => bo1 (sp_lacks (by omega) a4 z1 hi hn) (fun c3 => absurd c3 g3) (fun c3 => bo2 (sp_lacks (by omega) b4 z2 hj hn) (fun c4 => by (first | exact mj_eq.rf | exact fi_n mj_eq.rf | exact fi_i rfl mj_eq.rf | exact rfl)) (fun c4 => absurd g4 c4)), fun z => absurd g2 z⟩, fun z => absurd z (by decide)⟩⟩
            · have er : r_copy ln sz f i t j n = n := by
                unfold r_copy
                rw [if_neg g, if_neg (by omega), if_neg (by omega), if_neg (fun z => by
                  rcases z with z | z
                  · exact g3 z
                  · exact g4 z)]
              have hn0 : 0 ≤ n := by unfold lk at g3; omega
              have hi0 : 0 ≤ i := by unfold lk at g3; omega
              have hj0 : 0 ≤ j := by unfold lk at g4; omega
              have hi1 : i + n ≤ 25 := by unfold lk at g3; omega
              have hj1 : j + n ≤ 25 := by unfold lk at g4; omega
              rw [er, if_pos hn0]
              refine ⟨mj_cp M (7, 48, f.toNat) (7, 48, t.toNat) i.toNat j.toNat n.toNat, en_C_copy (k := 1) hd fun e he P hP hQ => rg_C_copy_0 hP ?_, fun i' hi' => ?_, fun s hs => ?_⟩
              · simp (disch := omega) only [nl_0, nl_1, nl_2, nl_3, nl_4, nl_5, nl_6, nl_7, nl_8, nl_9, nl_10, nl_11, nl_12, nl_13, nl_14, nl_15, nl_16, nl_17, nl_18, nl_19, nl_20, nl_21, nl_22, nl_23, nl_24, nl_25, nl_26, nl_27, nl_28, nl_31, nl_32, nl_42, nl_44, nl_46, nl_48, nl_49, nl_50, nl_51, nl_60, nl_75, nl_76, nl_99, nl_100, nl_108, nl_114, nl_117, nl_126, nl_255, nl_999, nl_2401, nl_9999, nl_12345, nl_65536, nl_1000000, nl_1103515245, nl_2147483647, iI_0, iI_neg, iI_add, iI_sub, iI_mul, iI_div, iI_mod, iI_lt, iI_le, iI_eq, iI_nat, iI_vp, ld_rd, ld_wl, lu_s, lu_t, lu_c, lu_j, forall_eq, Int.toNat_natCast, true_and, and_true, not_true, not_false_iff, Classical.not_not, forall_const, iI_inj]
                refine bo1 (sp_oI (by omega) (by omega) (by omega) (by omega)) (fun c => by omega) (fun c => bo2 (sp_oI (by omega) (by omega) (by omega) (by omega)) (fun c2 => by omega) (fun c2 => ?_))
                simp (disch := omega) only [nl_0, nl_1, nl_2, nl_3, nl_4, nl_5, nl_6, nl_7, nl_8, nl_9, nl_10, nl_11, nl_12, nl_13, nl_14, nl_15, nl_16, nl_17, nl_18, nl_19, nl_20, nl_21, nl_22, nl_23, nl_24, nl_25, nl_26, nl_27, nl_28, nl_31, nl_32, nl_42, nl_44, nl_46, nl_48, nl_49, nl_50, nl_51, nl_60, nl_75, nl_76, nl_99, nl_100, nl_108, nl_114, nl_117, nl_126, nl_255, nl_999, nl_2401, nl_9999, nl_12345, nl_65536, nl_1000000, nl_1103515245, nl_2147483647, iI_0, iI_neg, iI_add, iI_sub, iI_mul, iI_div, iI_mod, iI_lt, iI_le, iI_eq, iI_nat, iI_vp, ld_rd, ld_wl, lu_s, lu_t, lu_c, lu_j, forall_eq, Int.toNat_natCast, true_and, and_true, not_true, not_false_iff, Classical.not_not, forall_const, iI_inj, a2, b2, a3, b3]
                refine ⟨fun z => absurd z (by decide), fun _ => ⟨fun _ => ⟨fun _ => bo1 (sp_lacks (by omega) a4 z1 hi hn) (fun c3 => absurd c3 g3) (fun c3 => bo2 (sp_lacks (by omega) b4 z2 hj hn) (fun c4 => absurd c4 g4) (fun c4 => ?_)), fun z => absurd g2 z⟩, fun z => absurd z (by decide)⟩⟩
                try simp (disch := omega) only [nl_0, nl_1, nl_2, nl_3, nl_4, nl_5, nl_6, nl_7, nl_8, nl_9, nl_10, nl_11, nl_12, nl_13, nl_14, nl_15, nl_16, nl_17, nl_18, nl_19, nl_20, nl_21, nl_22, nl_23, nl_24, nl_25, nl_26, nl_27, nl_28, nl_31, nl_32, nl_42, nl_44, nl_46, nl_48, nl_49, nl_50, nl_51, nl_60, nl_75, nl_76, nl_99, nl_100, nl_108, nl_114, nl_117, nl_126, nl_255, nl_999, nl_2401, nl_9999, nl_12345, nl_65536, nl_1000000, nl_1103515245, nl_2147483647, iI_0, iI_neg, iI_add, iI_sub, iI_mul, iI_div, iI_mod, iI_lt, iI_le, iI_eq, iI_nat, iI_vp, ld_rd, ld_wl, lu_s, lu_t, lu_c, lu_j, forall_eq, Int.toNat_natCast, true_and, and_true, not_true, not_false_iff, Classical.not_not, forall_const, iI_inj]
                exact ⟨by omega, by omega, by omega, by omega, by omega, by omega, by (first | exact mj_eq.rf | exact fi_n mj_eq.rf | exact fi_i rfl mj_eq.rf | exact rfl)⟩
              · have : i' ≠ 7 := fun e => hi' (by rw [e]; decide)
                funext t' c' j'
                unfold mj_cp mj_up
                rw [if_neg this]
              · have h := hS s hs
                have e47 : ∀ q, mj_cp M (7, 48, f.toNat) (7, 48, t.toNat) i.toNat j.toNat n.toNat 7 47 s q = M 7 47 s q := fun q => by
                  unfold mj_cp mj_up
                  rw [if_pos rfl, if_neg (fun z => absurd z.1 (show ¬ (47 : Nat) = 48 by decide))]
                rw [e47, e47, e47]
                refine ⟨h.1, fun q hq => ?_⟩
                unfold mj_cp mj_up cI
                rw [if_pos rfl]
                by_cases e : s = t.toNat ∧ j.toNat ≤ q ∧ q < j.toNat + n.toNat
                · rw [if_pos ⟨rfl, e⟩, if_pos e]
                  exact (hS f.toNat hS1).2 (i.toNat + (q - j.toNat)) (by omega)
                · rw [if_neg (fun z => e z.2), if_neg e]
                  exact h.2 q hq
        · have er : r_copy ln sz f i t j n = -12 := by
            unfold r_copy
            rw [if_neg g, if_neg (by omega), if_pos g2]
          rw [er]
          refine ⟨M, en_C_copy (k := 1) hd fun e he P hP hQ => rg_C_copy_0 hP ?_, fr.r0, hS⟩
          simp (disch := omega) only [nl_0, nl_1, nl_2, nl_3, nl_4, nl_5, nl_6, nl_7, nl_8, nl_9, nl_10, nl_11, nl_12, nl_13, nl_14, nl_15, nl_16, nl_17, nl_18, nl_19, nl_20, nl_21, nl_22, nl_23, nl_24, nl_25, nl_26, nl_27, nl_28, nl_31, nl_32, nl_42, nl_44, nl_46, nl_48, nl_49, nl_50, nl_51, nl_60, nl_75, nl_76, nl_99, nl_100, nl_108, nl_114, nl_117, nl_126, nl_255, nl_999, nl_2401, nl_9999, nl_12345, nl_65536, nl_1000000, nl_1103515245, nl_2147483647, iI_0, iI_neg, iI_add, iI_sub, iI_mul, iI_div, iI_mod, iI_lt, iI_le, iI_eq, iI_nat, iI_vp, ld_rd, ld_wl, lu_s, lu_t, lu_c, lu_j, forall_eq, Int.toNat_natCast, true_and, and_true, not_true, not_false_iff, Classical.not_not, forall_const, iI_inj]
          refine bo1 (sp_oI (by omega) (by omega) (by omega) (by omega)) (fun c => by omega) (fun c => bo2 (sp_oI (by omega) (by omega) (by omega) (by omega)) (fun c2 => by omega) (fun c2 => ?_))
          simp (disch := omega) only [nl_0, nl_1, nl_2, nl_3, nl_4, nl_5, nl_6, nl_7, nl_8, nl_9, nl_10, nl_11, nl_12, nl_13, nl_14, nl_15, nl_16, nl_17, nl_18, nl_19, nl_20, nl_21, nl_22, nl_23, nl_24, nl_25, nl_26, nl_27, nl_28, nl_31, nl_32, nl_42, nl_44, nl_46, nl_48, nl_49, nl_50, nl_51, nl_60, nl_75, nl_76, nl_99, nl_100, nl_108, nl_114, nl_117, nl_126, nl_255, nl_999, nl_2401, nl_9999, nl_12345, nl_65536, nl_1000000, nl_1103515245, nl_2147483647, iI_0, iI_neg, iI_add, iI_sub, iI_mul, iI_div, iI_mod, iI_lt, iI_le, iI_eq, iI_nat, iI_vp, ld_rd, ld_wl, lu_s, lu_t, lu_c, lu_j, forall_eq, Int.toNat_natCast, true_and, and_true, not_true, not_false_iff, Classical.not_not, forall_const, iI_inj, a2, b2, a3, b3]
          exact ⟨fun z => absurd z (by decide), fun _ => ⟨fun _ => ⟨fun z => absurd z g2, fun _ => by (first | exact mj_eq.rf | exact fi_n mj_eq.rf | exact fi_i rfl mj_eq.rf | exact rfl)⟩, fun z => absurd z (by decide)⟩⟩
theorem m_copy {d : Nat} (hd : 3 ≤ d) {M : mj_M} {ln sz : Nat → Int} {I : Nat → Nat → Int32} {f i t j n : Int} (hf : iR f) (hi : iR i) (ht : iR t) (hj : iR j) (hn : iR n) (hS : SF M ln sz I) (hI : SI ln sz) : ∃ M', mj_Sp d 148 [mj_r (30, 60, 0), mj_i (iI f), mj_i (iI i), mj_i (iI t), mj_i (iI j), mj_i (iI n)] M (some (mj_i (iI (r_copy ln sz f i t j n)))) M' ∧ fr [33, 35] M M' ∧ SF M' ln sz (if 0 ≤ r_copy ln sz f i t j n then cI I f.toNat i.toNat t.toNat j.toNat n.toNat else I) := by
  by_cases g : f < 0 ∨ 3 < f ∨ t < 0 ∨ 3 < t
  · have er : r_copy ln sz f i t j n = -1 := if_pos g
    rw [er]
    refine ⟨M, en_m_copy (k := 2) hd fun e he P hP hQ => rg_m_copy_0 hP ?_, fr.r0, hS⟩
    simp (disch := omega) only [nl_0, nl_1, nl_2, nl_3, nl_4, nl_5, nl_6, nl_7, nl_8, nl_9, nl_10, nl_11, nl_12, nl_13, nl_14, nl_15, nl_16, nl_17, nl_18, nl_19, nl_20, nl_21, nl_22, nl_23, nl_24, nl_25, nl_26, nl_27, nl_28, nl_31, nl_32, nl_42, nl_44, nl_46, nl_48, nl_49, nl_50, nl_51, nl_60, nl_75, nl_76, nl_99, nl_100, nl_108, nl_114, nl_117, nl_126, nl_255, nl_999, nl_2401, nl_9999, nl_12345, nl_65536, nl_1000000, nl_1103515245, nl_2147483647, iI_0, iI_neg, iI_add, iI_sub, iI_mul, iI_div, iI_mod, iI_lt, iI_le, iI_eq, iI_nat, iI_vp, ld_rd, ld_wl, lu_s, lu_t, lu_c, lu_j, forall_eq, Int.toNat_natCast, true_and, and_true, not_true, not_false_iff, Classical.not_not, forall_const, iI_inj]
    refine bo2 (sp_misSheet (by omega) hf) (fun c => bo1 (sp_misSheet (by omega) ht) (fun c2 => by omega) (fun c2 => by (first | exact mj_eq.rf | exact fi_n mj_eq.rf | exact fi_i rfl mj_eq.rf | exact rfl))) (fun c => by (first | exact mj_eq.rf | exact fi_n mj_eq.rf | exact fi_i rfl mj_eq.rf | exact rfl))
  · obtain ⟨f, rfl⟩ := nat_iR (show 0 ≤ f by omega)
    obtain ⟨t, rfl⟩ := nat_iR (show 0 ≤ t by omega)
    have hS1 : f < 4 := by omega
    have hS2 : t < 4 := by omega
    have k1 := hS f hS1
    have k2 := hS t hS2
    have i1 := hI f hS1
    have i2 := hI t hS2
    have er0 : r_copy ln sz f i t j n = if ln f < 0 ∨ ln t < 0 then -11 else if ln f ≠ ln t then -12 else if lk (sz f) i n ∨ lk (sz t) j n then -13 else n := if_neg g
    rw [er0]
    clear er0
    have walk : ∀ (e : Nat) (P : Nat → mj_L → List mj_V → mj_M → Prop) (r : Int) (M' : mj_M), 2 ≤ e → mj_Cl mj_c148 (mj_Sp e) (0 < e) P (fun v M1 => v = some (mj_i (iI r)) ∧ mj_eq M1 M') → ((ln f < 0 ∨ ln t < 0) → r = -11 ∧ M' = M) → (¬ (ln f < 0 ∨ ln t < 0) → ln f ≠ ln t → r = -12 ∧ M' = M) → (¬ (ln f < 0 ∨ ln t < 0) → ln f = ln t → (lk (sz f) i n ∨ lk (sz t) j n) → r = -13 ∧ M' = M) → (¬ (ln f < 0 ∨ ln t < 0) → ln f = ln t → ¬ (lk (sz f) i n ∨ lk (sz t) j n) → P 101 [some (mj_r (30, 60, 0)), some (mj_i (iI (f : Int))), some (mj_i (iI i)), some (mj_i (iI (t : Int))), some (mj_i (iI j)), some (mj_i (iI n)), some (mj_i (iI 0))] [] M) → P 0 [some (mj_r (30, 60, 0)), some (mj_i (iI (f : Int))), some (mj_i (iI i)), some (mj_i (iI (t : Int))), some (mj_i (iI j)), some (mj_i (iI n)), none] [] M := by
      intro e P r M' he hP w1 w2 w3 w4
      refine rg_m_copy_0 hP ?_
      simp (disch := omega) only [nl_0, nl_1, nl_2, nl_3, nl_4, nl_5, nl_6, nl_7, nl_8, nl_9, nl_10, nl_11, nl_12, nl_13, nl_14, nl_15, nl_16, nl_17, nl_18, nl_19, nl_20, nl_21, nl_22, nl_23, nl_24, nl_25, nl_26, nl_27, nl_28, nl_31, nl_32, nl_42, nl_44, nl_46, nl_48, nl_49, nl_50, nl_51, nl_60, nl_75, nl_76, nl_99, nl_100, nl_108, nl_114, nl_117, nl_126, nl_255, nl_999, nl_2401, nl_9999, nl_12345, nl_65536, nl_1000000, nl_1103515245, nl_2147483647, iI_0, iI_neg, iI_add, iI_sub, iI_mul, iI_div, iI_mod, iI_lt, iI_le, iI_eq, iI_nat, iI_vp, ld_rd, ld_wl, lu_s, lu_t, lu_c, lu_j, forall_eq, Int.toNat_natCast, true_and, and_true, not_true, not_false_iff, Classical.not_not, forall_const, iI_inj]
      refine bo2 (sp_misSheet (by omega) hf) (fun c => bo1 (sp_misSheet (by omega) ht) (fun c2 => ?_) (fun c2 => by omega)) (fun c => by omega)
      simp (disch := omega) only [nl_0, nl_1, nl_2, nl_3, nl_4, nl_5, nl_6, nl_7, nl_8, nl_9, nl_10, nl_11, nl_12, nl_13, nl_14, nl_15, nl_16, nl_17, nl_18, nl_19, nl_20, nl_21, nl_22, nl_23, nl_24, nl_25, nl_26, nl_27, nl_28, nl_31, nl_32, nl_42, nl_44, nl_46, nl_48, nl_49, nl_50, nl_51, nl_60, nl_75, nl_76, nl_99, nl_100, nl_108, nl_114, nl_117, nl_126, nl_255, nl_999, nl_2401, nl_9999, nl_12345, nl_65536, nl_1000000, nl_1103515245, nl_2147483647, iI_0, iI_neg, iI_add, iI_sub, iI_mul, iI_div, iI_mod, iI_lt, iI_le, iI_eq, iI_nat, iI_vp, ld_rd, ld_wl, lu_s, lu_t, lu_c, lu_j, forall_eq, Int.toNat_natCast, true_and, and_true, not_true, not_false_iff, Classical.not_not, forall_const, iI_inj, k1.1, k2.1]
      have hn' := hn
      unfold iR at hn
      refine ⟨fun z => ?_, fun z => ⟨fun z2 => ⟨fun z3 => ⟨fun z4 => ?_, fun z4 => ?_⟩, fun z3 => ?_⟩, fun z2 => ?_⟩⟩
      · obtain ⟨q1, q2⟩ := w1 (Or.inl z)
        rw [q1, q2]
        (first | exact mj_eq.rf | exact fi_n mj_eq.rf | exact fi_i rfl mj_eq.rf | exact rfl)
      · simp (disch := omega) only [nl_0, nl_1, nl_2, nl_3, nl_4, nl_5, nl_6, nl_7, nl_8, nl_9, nl_10, nl_11, nl_12, nl_13, nl_14, nl_15, nl_16, nl_17, nl_18, nl_19, nl_20, nl_21, nl_22, nl_23, nl_24, nl_25, nl_26, nl_27, nl_28, nl_31, nl_32, nl_42, nl_44, nl_46, nl_48, nl_49, nl_50, nl_51, nl_60, nl_75, nl_76, nl_99, nl_100, nl_108, nl_114, nl_117, nl_126, nl_255, nl_999, nl_2401, nl_9999, nl_12345, nl_65536, nl_1000000, nl_1103515245, nl_2147483647, iI_0, iI_neg, iI_add, iI_sub, iI_mul, iI_div, iI_mod, iI_lt, iI_le, iI_eq, iI_nat, iI_vp, ld_rd, ld_wl, lu_s, lu_t, lu_c, lu_j, forall_eq, Int.toNat_natCast, true_and, and_true, not_true, not_false_iff, Classical.not_not, forall_const, iI_inj] at z4
        obtain ⟨q1, q2⟩ := w3 (by omega) z3 (Or.inl (by unfold lk; omega))
        rw [q1, q2]
        (first | exact mj_eq.rf | exact fi_n mj_eq.rf | exact fi_i rfl mj_eq.rf | exact rfl)
      · have n0 : 0 ≤ n := by
          simp (disch := omega) only [nl_0, nl_1, nl_2, nl_3, nl_4, nl_5, nl_6, nl_7, nl_8, nl_9, nl_10, nl_11, nl_12, nl_13, nl_14, nl_15, nl_16, nl_17, nl_18, nl_19, nl_20, nl_21, nl_22, nl_23, nl_24, nl_25, nl_26, nl_27, nl_28, nl_31, nl_32, nl_42, nl_44, nl_46, nl_48, nl_49, nl_50, nl_51, nl_60, nl_75, nl_76, nl_99, nl_100, nl_108, nl_114, nl_117, nl_126, nl_255, nl_999, nl_2401, nl_9999, nl_12345, nl_65536, nl_1000000, nl_1103515245, nl_2147483647, iI_0, iI_neg, iI_add, iI_sub, iI_mul, iI_div, iI_mod, iI_lt, iI_le, iI_eq, iI_nat, iI_vp, ld_rd, ld_wl, lu_s, lu_t, lu_c, lu_j, forall_eq, Int.toNat_natCast, true_and, and_true, not_true, not_false_iff, Classical.not_not, forall_const, iI_inj] at z4
          omega
        refine ⟨_, _, sp_mwhy (by omega) hS hI hS1 (by omega) hi hn' n0, ?_⟩
        have q := fo4_r (ln := ln) (sz := sz) (s := f) (lane := ln f) (i := i) (n := n)
        have qe : fo4 ln sz f (ln f) i n = if lk (sz f) i n then -13 else 0 := by
          unfold fo4
          rw [if_neg (by omega), if_neg (fun h => h rfl)]
        have qe2 : fo4 ln sz t (ln t) j n = if lk (sz t) j n then -13 else 0 := by
          unfold fo4
          rw [if_neg (by omega), if_neg (fun h => h rfl)]
        simp (disch := omega) only [nl_0, nl_1, nl_2, nl_3, nl_4, nl_5, nl_6, nl_7, nl_8, nl_9, nl_10, nl_11, nl_12, nl_13, nl_14, nl_15, nl_16, nl_17, nl_18, nl_19, nl_20, nl_21, nl_22, nl_23, nl_24, nl_25, nl_26, nl_27, nl_28, nl_31, nl_32, nl_42, nl_44, nl_46, nl_48, nl_49, nl_50, nl_51, nl_60, nl_75, nl_76, nl_99, nl_100, nl_108, nl_114, nl_117, nl_126, nl_255, nl_999, nl_2401, nl_9999, nl_12345, nl_65536, nl_1000000, nl_1103515245, nl_2147483647, iI_0, iI_neg, iI_add, iI_sub, iI_mul, iI_div, iI_mod, iI_lt, iI_le, iI_eq, iI_nat, iI_vp, ld_rd, ld_wl, lu_s, lu_t, lu_c, lu_j, forall_eq, Int.toNat_natCast, true_and, and_true, not_true, not_false_iff, Classical.not_not, forall_const, iI_inj]
        refine ⟨fun z5 => ?_, fun z5 => ?_⟩
        · obtain ⟨q1, q2⟩ := w3 (by omega) z3 (Or.inl (Classical.byContradiction fun h => by rw [qe, if_neg h] at z5; omega))
          rw [q1, q2]
          (first | exact mj_eq.rf | exact fi_n mj_eq.rf | exact fi_i rfl mj_eq.rf | exact rfl)
        · have nl1 : ¬ lk (sz f) i n := fun h => by rw [qe, if_pos h] at z5; omega
          have q' := fo4_r (ln := ln) (sz := sz) (s := t) (lane := ln t) (i := j) (n := n)
          simp (disch := omega) only [nl_0, nl_1, nl_2, nl_3, nl_4, nl_5, nl_6, nl_7, nl_8, nl_9, nl_10, nl_11, nl_12, nl_13, nl_14, nl_15, nl_16, nl_17, nl_18, nl_19, nl_20, nl_21, nl_22, nl_23, nl_24, nl_25, nl_26, nl_27, nl_28, nl_31, nl_32, nl_42, nl_44, nl_46, nl_48, nl_49, nl_50, nl_51, nl_60, nl_75, nl_76, nl_99, nl_100, nl_108, nl_114, nl_117, nl_126, nl_255, nl_999, nl_2401, nl_9999, nl_12345, nl_65536, nl_1000000, nl_1103515245, nl_2147483647, iI_0, iI_neg, iI_add, iI_sub, iI_mul, iI_div, iI_mod, iI_lt, iI_le, iI_eq, iI_nat, iI_vp, ld_rd, ld_wl, lu_s, lu_t, lu_c, lu_j, forall_eq, Int.toNat_natCast, true_and, and_true, not_true, not_false_iff, Classical.not_not, forall_const, iI_inj, k2.1]
          refine ⟨_, _, sp_mwhy (by omega) hS hI hS2 (by omega) hj hn' n0, ?_⟩
          simp (disch := omega) only [nl_0, nl_1, nl_2, nl_3, nl_4, nl_5, nl_6, nl_7, nl_8, nl_9, nl_10, nl_11, nl_12, nl_13, nl_14, nl_15, nl_16, nl_17, nl_18, nl_19, nl_20, nl_21, nl_22, nl_23, nl_24, nl_25, nl_26, nl_27, nl_28, nl_31, nl_32, nl_42, nl_44, nl_46, nl_48, nl_49, nl_50, nl_51, nl_60, nl_75, nl_76, nl_99, nl_100, nl_108, nl_114, nl_117, nl_126, nl_255, nl_999, nl_2401, nl_9999, nl_12345, nl_65536, nl_1000000, nl_1103515245, nl_2147483647, iI_0, iI_neg, iI_add, iI_sub, iI_mul, iI_div, iI_mod, iI_lt, iI_le, iI_eq, iI_nat, iI_vp, ld_rd, ld_wl, lu_s, lu_t, lu_c, lu_j, forall_eq, Int.toNat_natCast, true_and, and_true, not_true, not_false_iff, Classical.not_not, forall_const, iI_inj]
          refine ⟨fun z6 => ?_, fun z6 => ?_⟩
          · refine w4 (by omega) z3 (fun h => ?_)
            rcases h with h | h
            · exact nl1 h
            · rw [qe2, if_pos h] at z6
              omega
          · obtain ⟨q1, q2⟩ := w3 (by omega) z3 (Or.inr (Classical.byContradiction fun h => by rw [qe2, if_neg h] at z6; omega))
            rw [q1, q2]
            (first | exact mj_eq.rf | exact fi_n mj_eq.rf | exact fi_i rfl mj_eq.rf | exact rfl)
      · obtain ⟨q1, q2⟩ := w2 (by omega) z3
        rw [q1, q2]
        (first | exact mj_eq.rf | exact fi_n mj_eq.rf | exact fi_i rfl mj_eq.rf | exact rfl)
      · obtain ⟨q1, q2⟩ := w1 (by omega)
        rw [q1, q2]
        (first | exact mj_eq.rf | exact fi_n mj_eq.rf | exact fi_i rfl mj_eq.rf | exact rfl)
    by_cases c1 : ln f < 0 ∨ ln t < 0
    · rw [if_pos c1]
      exact ⟨M, en_m_copy (k := 2) hd fun e he P hP hQ => walk e P _ M he hP (fun _ => ⟨rfl, rfl⟩) (fun h => absurd c1 h) (fun h => absurd c1 h) (fun h => absurd c1 h), fr.r0, hS⟩
    · rw [if_neg c1]
      by_cases c2 : ln f = ln t
      · rw [if_neg (fun h => h c2)]
        by_cases c3 : lk (sz f) i n ∨ lk (sz t) j n
        · rw [if_pos c3]
          exact ⟨M, en_m_copy (k := 2) hd fun e he P hP hQ => walk e P _ M he hP (fun h => absurd h c1) (fun _ h => absurd c2 h) (fun _ _ _ => ⟨rfl, rfl⟩) (fun _ _ h => absurd c3 h), fr.r0, hS⟩
        · have z1 := i1.2 (by omega)
          have z2 := i2.2 (by omega)
          have hb : 0 ≤ n ∧ 0 ≤ i ∧ 0 ≤ j ∧ i + n ≤ 25 ∧ j + n ≤ 25 := by unfold lk at c3; omega
          rw [if_neg c3, if_pos hb.1]
          obtain ⟨n, rfl⟩ := nat_iR hb.1
          obtain ⟨i, rfl⟩ := nat_iR hb.2.1
          obtain ⟨j, rfl⟩ := nat_iR hb.2.2.1
          -- back
          have sec : ∀ k, k ≤ n → ∀ N, fr [33, 35] M N → (∀ q, q < n → N 33 72 0 q = I f (i + q)) → (∀ s, s < 4 → N 35 69 0 s = iI (ln s) ∧ (0 ≤ ln s → N 35 70 0 s = iI (sz s)) ∧ ∀ q, q < 25 → N 35 71 0 (25 * s + q) = cI I f i t j k s q) → ∃ M', (fr [33, 35] M M' ∧ SF M' ln sz (cI I f i t j n)) ∧ Rn mj_c148 2 138 [some (mj_r (30, 60, 0)), some (mj_i (iI (f : Int))), some (mj_i (iI (i : Int))), some (mj_i (iI (t : Int))), some (mj_i (iI (j : Int))), some (mj_i (iI (n : Int))), some (mj_i (iI (k : Int)))] N (some (mj_i (iI (n : Int)))) M' := by
            refine lp_dn (Q := fun k => ∀ N, fr [33, 35] M N → (∀ q, q < n → N 33 72 0 q = I f (i + q)) → (∀ s, s < 4 → N 35 69 0 s = iI (ln s) ∧ (0 ≤ ln s → N 35 70 0 s = iI (sz s)) ∧ ∀ q, q < 25 → N 35 71 0 (25 * s + q) = cI I f i t j k s q) → ∃ M', (fr [33, 35] M M' ∧ SF M' ln sz (cI I f i t j n)) ∧ Rn mj_c148 2 138 [some (mj_r (30, 60, 0)), some (mj_i (iI (f : Int))), some (mj_i (iI (i : Int))), some (mj_i (iI (t : Int))), some (mj_i (iI (j : Int))), some (mj_i (iI (n : Int))), some (mj_i (iI (k : Int)))] N (some (mj_i (iI (n : Int)))) M') (n := n) (fun N hf2 hm hs2 => ?_) (fun k hk ih N hf2 hm hs2 => ?_)
            · refine ⟨N, ⟨hf2, hs2⟩, fun e he P hP hQ => rg_m_copy_138 hP ⟨fun z => by (first | exact mj_eq.rf | exact fi_n mj_eq.rf | exact fi_i rfl mj_eq.rf | exact rfl), fun z => ?_⟩⟩
              simp (disch := omega) only [nl_0, nl_1, nl_2, nl_3, nl_4, nl_5, nl_6, nl_7, nl_8, nl_9, nl_10, nl_11, nl_12, nl_13, nl_14, nl_15, nl_16, nl_17, nl_18, nl_19, nl_20, nl_21, nl_22, nl_23, nl_24, nl_25, nl_26, nl_27, nl_28, nl_31, nl_32, nl_42, nl_44, nl_46, nl_48, nl_49, nl_50, nl_51, nl_60, nl_75, nl_76, nl_99, nl_100, nl_108, nl_114, nl_117, nl_126, nl_255, nl_999, nl_2401, nl_9999, nl_12345, nl_65536, nl_1000000, nl_1103515245, nl_2147483647, iI_0, iI_neg, iI_add, iI_sub, iI_mul, iI_div, iI_mod, iI_lt, iI_le, iI_eq, iI_nat, iI_vp, ld_rd, ld_wl, lu_s, lu_t, lu_c, lu_j, forall_eq, Int.toNat_natCast, true_and, and_true, not_true, not_false_iff, Classical.not_not, forall_const, iI_inj] at z
              omega
            · have t1 : (25 * (t : Int) + (j : Int) + (k : Int)).toNat = 25 * t + (j + k) := by omega
              obtain ⟨M', hG, hR⟩ := ih (mj_wl N (35, 71, 0, 25 * t + (j + k)) (I f (i + k))) (hf2.wl (by decide)) (fun q hq => by rw [wl_n (by omega)]; exact hm q hq) (fun s hs => ⟨by rw [wl_n (by omega)]; exact (hs2 s hs).1, by rw [wl_n (by omega)]; exact (hs2 s hs).2.1, fun q hq => by
                by_cases e : s = t ∧ q = j + k
                · rw [e.1, e.2, wl_s]
                  unfold cI
                  rw [if_pos ⟨rfl, by omega, by omega⟩]
                  congr 1
                  omega
                · rw [wl_n (by omega), (hs2 s hs).2.2 q hq]
                  unfold cI
                  by_cases e2 : s = t ∧ j ≤ q ∧ q < j + k
                  · rw [if_pos e2, if_pos ⟨e2.1, by omega, by omega⟩]
                  · rw [if_neg e2, if_neg (by omega)]⟩)
              refine ⟨M', hG, fun e he P hP hQ => rg_m_copy_138 hP ⟨fun z => ?_, fun z => ?_⟩⟩
              · simp (disch := omega) only [nl_0, nl_1, nl_2, nl_3, nl_4, nl_5, nl_6, nl_7, nl_8, nl_9, nl_10, nl_11, nl_12, nl_13, nl_14, nl_15, nl_16, nl_17, nl_18, nl_19, nl_20, nl_21, nl_22, nl_23, nl_24, nl_25, nl_26, nl_27, nl_28, nl_31, nl_32, nl_42, nl_44, nl_46, nl_48, nl_49, nl_50, nl_51, nl_60, nl_75, nl_76, nl_99, nl_100, nl_108, nl_114, nl_117, nl_126, nl_255, nl_999, nl_2401, nl_9999, nl_12345, nl_65536, nl_1000000, nl_1103515245, nl_2147483647, iI_0, iI_neg, iI_add, iI_sub, iI_mul, iI_div, iI_mod, iI_lt, iI_le, iI_eq, iI_nat, iI_vp, ld_rd, ld_wl, lu_s, lu_t, lu_c, lu_j, forall_eq, Int.toNat_natCast, true_and, and_true, not_true, not_false_iff, Classical.not_not, forall_const, iI_inj] at z
                omega
              · simp (disch := omega) only [nl_0, nl_1, nl_2, nl_3, nl_4, nl_5, nl_6, nl_7, nl_8, nl_9, nl_10, nl_11, nl_12, nl_13, nl_14, nl_15, nl_16, nl_17, nl_18, nl_19, nl_20, nl_21, nl_22, nl_23, nl_24, nl_25, nl_26, nl_27, nl_28, nl_31, nl_32, nl_42, nl_44, nl_46, nl_48, nl_49, nl_50, nl_51, nl_60, nl_75, nl_76, nl_99, nl_100, nl_108, nl_114, nl_117, nl_126, nl_255, nl_999, nl_2401, nl_9999, nl_12345, nl_65536, nl_1000000, nl_1103515245, nl_2147483647, iI_0, iI_neg, iI_add, iI_sub, iI_mul, iI_div, iI_mod, iI_lt, iI_le, iI_eq, iI_nat, iI_vp, ld_rd, ld_wl, lu_s, lu_t, lu_c, lu_j, forall_eq, Int.toNat_natCast, true_and, and_true, not_true, not_false_iff, Classical.not_not, forall_const, iI_inj, t1, hm k hk]
                exact hR e he P hP hQ
          have fir : ∀ k, k ≤ n → ∀ N, fr [33, 35] M N → N 35 = M 35 → (∀ q, q < k → N 33 72 0 q = I f (i + q)) → ∃ M', (fr [33, 35] M M' ∧ SF M' ln sz (cI I f i t j n)) ∧ Rn mj_c148 2 101 [some (mj_r (30, 60, 0)), some (mj_i (iI (f : Int))), some (mj_i (iI (i : Int))), some (mj_i (iI (t : Int))), some (mj_i (iI (j : Int))), some (mj_i (iI (n : Int))), some (mj_i (iI (k : Int)))] N (some (mj_i (iI (n : Int)))) M' := by
            refine lp_dn (Q := fun k => ∀ N, fr [33, 35] M N → N 35 = M 35 → (∀ q, q < k → N 33 72 0 q = I f (i + q)) → ∃ M', (fr [33, 35] M M' ∧ SF M' ln sz (cI I f i t j n)) ∧ Rn mj_c148 2 101 [some (mj_r (30, 60, 0)), some (mj_i (iI (f : Int))), some (mj_i (iI (i : Int))), some (mj_i (iI (t : Int))), some (mj_i (iI (j : Int))), some (mj_i (iI (n : Int))), some (mj_i (iI (k : Int)))] N (some (mj_i (iI (n : Int)))) M') (n := n) (fun N hf2 h35 hm => ?_) (fun k hk ih N hf2 h35 hm => ?_)
            · obtain ⟨M', hG, hR⟩ := sec 0 (Nat.zero_le _) N hf2 hm (fun s hs => by
                rw [h35]
                refine ⟨(hS s hs).1, (hS s hs).2.1, fun q hq => ?_⟩
                unfold cI
                rw [if_neg (by omega)]
                exact (hS s hs).2.2 q hq)
              refine ⟨M', hG, fun e he P hP hQ => rg_m_copy_101 hP ⟨fun z => hR e he P hP hQ, fun z => ?_⟩⟩
              simp (disch := omega) only [nl_0, nl_1, nl_2, nl_3, nl_4, nl_5, nl_6, nl_7, nl_8, nl_9, nl_10, nl_11, nl_12, nl_13, nl_14, nl_15, nl_16, nl_17, nl_18, nl_19, nl_20, nl_21, nl_22, nl_23, nl_24, nl_25, nl_26, nl_27, nl_28, nl_31, nl_32, nl_42, nl_44, nl_46, nl_48, nl_49, nl_50, nl_51, nl_60, nl_75, nl_76, nl_99, nl_100, nl_108, nl_114, nl_117, nl_126, nl_255, nl_999, nl_2401, nl_9999, nl_12345, nl_65536, nl_1000000, nl_1103515245, nl_2147483647, iI_0, iI_neg, iI_add, iI_sub, iI_mul, iI_div, iI_mod, iI_lt, iI_le, iI_eq, iI_nat, iI_vp, ld_rd, ld_wl, lu_s, lu_t, lu_c, lu_j, forall_eq, Int.toNat_natCast, true_and, and_true, not_true, not_false_iff, Classical.not_not, forall_const, iI_inj] at z
              omega
            · have t1 : (25 * (f : Int) + (i : Int) + (k : Int)).toNat = 25 * f + (i + k) := by omega
              have hv : N 35 71 0 (25 * f + (i + k)) = I f (i + k) := by rw [h35]; exact (hS f hS1).2.2 _ (by omega)
              obtain ⟨M', hG, hR⟩ := ih (mj_wl N (33, 72, 0, k) (I f (i + k))) (hf2.wl (by decide)) (by rw [wl_p (by decide)]; exact h35) (fun q hq => by
                by_cases e : q = k
                · subst e; exact wl_s
                · rw [wl_n (by omega)]; exact hm q (by omega))
              refine ⟨M', hG, fun e he P hP hQ => rg_m_copy_101 hP ⟨fun z => ?_, fun z => ?_⟩⟩
              · simp (disch := omega) only [nl_0, nl_1, nl_2, nl_3, nl_4, nl_5, nl_6, nl_7, nl_8, nl_9, nl_10, nl_11, nl_12, nl_13, nl_14, nl_15, nl_16, nl_17, nl_18, nl_19, nl_20, nl_21, nl_22, nl_23, nl_24, nl_25, nl_26, nl_27, nl_28, nl_31, nl_32, nl_42, nl_44, nl_46, nl_48, nl_49, nl_50, nl_51, nl_60, nl_75, nl_76, nl_99, nl_100, nl_108, nl_114, nl_117, nl_126, nl_255, nl_999, nl_2401, nl_9999, nl_12345, nl_65536, nl_1000000, nl_1103515245, nl_2147483647, iI_0, iI_neg, iI_add, iI_sub, iI_mul, iI_div, iI_mod, iI_lt, iI_le, iI_eq, iI_nat, iI_vp, ld_rd, ld_wl, lu_s, lu_t, lu_c, lu_j, forall_eq, Int.toNat_natCast, true_and, and_true, not_true, not_false_iff, Classical.not_not, forall_const, iI_inj] at z
                omega
              · simp (disch := omega) only [nl_0, nl_1, nl_2, nl_3, nl_4, nl_5, nl_6, nl_7, nl_8, nl_9, nl_10, nl_11, nl_12, nl_13, nl_14, nl_15, nl_16, nl_17, nl_18, nl_19, nl_20, nl_21, nl_22, nl_23, nl_24, nl_25, nl_26, nl_27, nl_28, nl_31, nl_32, nl_42, nl_44, nl_46, nl_48, nl_49, nl_50, nl_51, nl_60, nl_75, nl_76, nl_99, nl_100, nl_108, nl_114, nl_117, nl_126, nl_255, nl_999, nl_2401, nl_9999, nl_12345, nl_65536, nl_1000000, nl_1103515245, nl_2147483647, iI_0, iI_neg, iI_add, iI_sub, iI_mul, iI_div, iI_mod, iI_lt, iI_le, iI_eq, iI_nat, iI_vp, ld_rd, ld_wl, lu_s, lu_t, lu_c, lu_j, forall_eq, Int.toNat_natCast, true_and, and_true, not_true, not_false_iff, Classical.not_not, forall_const, iI_inj, t1, hv]
                exact hR e he P hP hQ
          obtain ⟨M', hG, hR⟩ := fir 0 (Nat.zero_le _) M fr.r0 rfl (fun q h => absurd h (Nat.not_lt_zero q))
          exact ⟨M', en_m_copy (k := 2) hd fun e he P hP hQ => walk e P _ M' he hP (fun h => absurd h c1) (fun _ h => absurd c2 h) (fun _ _ h => absurd h c3) (fun _ _ _ => hR e he P hP hQ), hG⟩
      · rw [if_pos c2]
        exact ⟨M, en_m_copy (k := 2) hd fun e he P hP hQ => walk e P _ M he hP (fun h => absurd h c1) (fun _ _ => ⟨rfl, rfl⟩) (fun _ h => absurd h c2) (fun _ h => absurd h c2), fr.r0, hS⟩
