/-! contracts: count, pass, drawn -/
theorem ad31 (z : Int) : iI z &&& iI 2147483647 = iI (z % 2147483648) := by
  apply Int32.toBitVec_inj.mp
  apply BitVec.eq_of_toNat_eq
  show ((BitVec.ofInt 32 z) &&& (BitVec.ofInt 32 2147483647)).toNat = (BitVec.ofInt 32 (z % 2147483648)).toNat
  have e : (BitVec.ofInt 32 2147483647).toNat = 2 ^ 31 - 1 := by decide
  rw [BitVec.toNat_and, e, Nat.and_two_pow_sub_one_eq_mod, BitVec.toNat_ofInt, BitVec.toNat_ofInt]
  omega
theorem ad31L (z : Int) : (lI z &&& lI 2147483647).toInt32 = iI (z % 2147483648) := by
  apply Int32.toBitVec_inj.mp
  apply BitVec.eq_of_toNat_eq
  show (BitVec.signExtend 32 ((BitVec.ofInt 64 z) &&& (BitVec.ofInt 64 2147483647))).toNat = (BitVec.ofInt 32 (z % 2147483648)).toNat
  have e : (BitVec.ofInt 64 2147483647).toNat = 2 ^ 31 - 1 := by decide
  rw [BitVec.signExtend_eq_setWidth_of_le _ (by decide), BitVec.toNat_setWidth, BitVec.toNat_and, e, Nat.and_two_pow_sub_one_eq_mod, BitVec.toNat_ofInt, BitVec.toNat_ofInt]
  omega
theorem ll_a : lN 1103515245 = lI 1103515245 := rfl
theorem ll_b : lN 12345 = lI 12345 := rfl
theorem ll_c : lN 2147483647 = lI 2147483647 := rfl
theorem lI_add (a b : Int) : lI a + lI b = lI (a + b) := (Int64.ofInt_add a b).symm
theorem lI_mul (a b : Int) : lI a * lI b = lI (a * b) := (Int64.ofInt_mul a b).symm
/-- the next draw, and its wind -/
def nx (d : Int) : Int := (d * 1103515245 + 12345) % 2147483648
theorem nx_r (d : Int) : 0 ≤ nx d ∧ nx d ≤ 2147483647 := by
  unfold nx
  omega
theorem sp_drawWind {d i : Nat} (hd : 1 ≤ d) {A : lA} {M : mj_M} : mj_Sp d 39 [mj_r (i, 0, 0)] (mj_ld M i A) (some (mj_i (iI (nx (A 0 0 3) / 65536 % 16)))) (mj_ld M i (lu A 0 0 3 (nx (A 0 0 3)))) := by
  have hx := nx_r (A 0 0 3)
  refine en_La_drawWind (k := 0) hd fun e he P hP hQ => rg_La_drawWind_0 hP ?_
  have ex : (A 0 0 3 * 1103515245 + 12345) % 2147483648 = nx (A 0 0 3) := rfl
  simp (disch := omega) only [nl_0, nl_1, nl_2, nl_3, nl_4, nl_5, nl_6, nl_7, nl_8, nl_9, nl_10, nl_11, nl_12, nl_13, nl_14, nl_15, nl_16, nl_17, nl_18, nl_19, nl_20, nl_21, nl_22, nl_23, nl_24, nl_25, nl_26, nl_27, nl_28, nl_31, nl_32, nl_42, nl_44, nl_46, nl_48, nl_49, nl_50, nl_51, nl_60, nl_75, nl_76, nl_99, nl_100, nl_108, nl_114, nl_117, nl_126, nl_255, nl_999, nl_2401, nl_9999, nl_12345, nl_65536, nl_1000000, nl_1103515245, nl_2147483647, iI_0, iI_neg, iI_add, iI_sub, iI_mul, iI_div, iI_mod, iI_lt, iI_le, iI_eq, iI_nat, iI_vp, ld_rd, ld_wl, lu_s, lu_t, lu_c, lu_j, forall_eq, Int.toNat_natCast, true_and, and_true, not_true, not_false_iff, Classical.not_not, forall_const, iI_inj, ad31, ex]
  exact ⟨by decide, by decide, by (first | exact mj_eq.rf | exact fi_n mj_eq.rf | exact fi_i rfl mj_eq.rf | exact rfl)⟩
def gd (A : lA) : Nat → lA
  | 0 => A
  | k + 1 => hr (lu (gd A k) 0 0 3 (nx (gd A k 0 0 3))) (nx (gd A k 0 0 3) / 65536 % 16 % 4) (nx (gd A k 0 0 3) / 65536 % 16 / 4)
def gdu (A : lA) : Nat → Int
  | 0 => 0
  | k + 1 => gdu A k + hfl (lu (gd A k) 0 0 3 (nx (gd A k 0 0 3))) (nx (gd A k 0 0 3) / 65536 % 16 % 4) (nx (gd A k 0 0 3) / 65536 % 16 / 4)
theorem gd_h {A : lA} : ∀ k, gd A k 0 0 2 = A 0 0 2 + (k : Int)
  | 0 => (Int.add_zero _).symm
  | k + 1 => by
    show hr _ _ _ 0 0 2 = _
    rw [hr_h, lu_j (by decide), gd_h k]
    omega
theorem gd_LJ {A : lA} (h : LJ A) : ∀ k : Nat, A 0 0 2 + k ≤ 9999 → LJ (gd A k)
  | 0, _ => h
  | k + 1, hk => hr_LJ ((gd_LJ h k (by omega)).l3 (nx_r _)) _ _ (by rw [lu_j (by decide), gd_h]; omega)
def s_drawn (A : lA) (m : Int) : Int × lA := if m < 1 ∨ 60 < m then (-1, A) else if 9999 < A 0 0 2 + m then (-3, A) else (gdu A m.toNat, gd A m.toNat)
theorem c_drawn {d : Nat} (hd : 6 ≤ d) {A : lA} {M : mj_M} {m : Int} (hm : iR m) (hM : mj_sM M) (hA : LJ A) : mj_Sp d 15 [mj_r (13, 50, 0), mj_i (iI m)] (mj_ld M 0 A) (some (mj_i (iI (s_drawn A m).1))) (mj_ld M 0 (s_drawn A m).2) := by
  unfold iR at hm
  have hh := hA.ho
  refine en_C_drawn (k := 5) hd fun e he P hP hQ => rg_C_drawn_0 hP ?_
  simp (disch := omega) only [nl_0, nl_1, nl_2, nl_3, nl_4, nl_5, nl_6, nl_7, nl_8, nl_9, nl_10, nl_11, nl_12, nl_13, nl_14, nl_15, nl_16, nl_17, nl_18, nl_19, nl_20, nl_21, nl_22, nl_23, nl_24, nl_25, nl_26, nl_27, nl_28, nl_31, nl_32, nl_42, nl_44, nl_46, nl_48, nl_49, nl_50, nl_51, nl_60, nl_75, nl_76, nl_99, nl_100, nl_108, nl_114, nl_117, nl_126, nl_255, nl_999, nl_2401, nl_9999, nl_12345, nl_65536, nl_1000000, nl_1103515245, nl_2147483647, iI_0, iI_neg, iI_add, iI_sub, iI_mul, iI_div, iI_mod, iI_lt, iI_le, iI_eq, iI_nat, iI_vp, ld_rd, ld_wl, lu_s, lu_t, lu_c, lu_j, forall_eq, Int.toNat_natCast, true_and, and_true, not_true, not_false_iff, Classical.not_not, forall_const, iI_inj]
  refine bo2 (sp_oI (by omega) (by omega) (by omega) (by omega)) (fun c1 => ?_) (fun c1 => ?_)
  · (unfold s_drawn; (repeat' split) <;> first | (first | exact mj_eq.rf | exact fi_n mj_eq.rf | exact fi_i rfl mj_eq.rf | exact rfl) | (exfalso; omega))
  · simp (disch := omega) only [nl_0, nl_1, nl_2, nl_3, nl_4, nl_5, nl_6, nl_7, nl_8, nl_9, nl_10, nl_11, nl_12, nl_13, nl_14, nl_15, nl_16, nl_17, nl_18, nl_19, nl_20, nl_21, nl_22, nl_23, nl_24, nl_25, nl_26, nl_27, nl_28, nl_31, nl_32, nl_42, nl_44, nl_46, nl_48, nl_49, nl_50, nl_51, nl_60, nl_75, nl_76, nl_99, nl_100, nl_108, nl_114, nl_117, nl_126, nl_255, nl_999, nl_2401, nl_9999, nl_12345, nl_65536, nl_1000000, nl_1103515245, nl_2147483647, iI_0, iI_neg, iI_add, iI_sub, iI_mul, iI_div, iI_mod, iI_lt, iI_le, iI_eq, iI_nat, iI_vp, ld_rd, ld_wl, lu_s, lu_t, lu_c, lu_j, forall_eq, Int.toNat_natCast, true_and, and_true, not_true, not_false_iff, Classical.not_not, forall_const, iI_inj]
    refine ⟨fun c2 => ?_, fun c2 => ?_⟩
    · have es : s_drawn A m = (gdu A m.toNat, gd A m.toNat) := by
        unfold s_drawn
        rw [if_neg (by omega), if_neg (by omega)]
      rw [es] at hP
      obtain ⟨n, rfl⟩ : ∃ n : Nat, m = n := ⟨m.toNat, nat_of (by omega)⟩
      rw [Int.toNat_natCast] at hP
      refine lp_dn (Q := fun k => ∀ o4, P 34 [some (mj_r (13, 50, 0)), some (mj_i (iI (n : Int))), some (mj_i (iI (gdu A k))), some (mj_i (iI (k : Int))), o4] [] (mj_ld M 0 (gd A k))) (n := n) (fun o4 => ?_) (fun k hk ih o4 => ?_) 0 (Nat.zero_le _) none
      · refine rg_C_drawn_34 hP ⟨fun z => fi_i rfl mj_eq.rf, fun z => ?_⟩
        simp (disch := omega) only [nl_0, nl_1, nl_2, nl_3, nl_4, nl_5, nl_6, nl_7, nl_8, nl_9, nl_10, nl_11, nl_12, nl_13, nl_14, nl_15, nl_16, nl_17, nl_18, nl_19, nl_20, nl_21, nl_22, nl_23, nl_24, nl_25, nl_26, nl_27, nl_28, nl_31, nl_32, nl_42, nl_44, nl_46, nl_48, nl_49, nl_50, nl_51, nl_60, nl_75, nl_76, nl_99, nl_100, nl_108, nl_114, nl_117, nl_126, nl_255, nl_999, nl_2401, nl_9999, nl_12345, nl_65536, nl_1000000, nl_1103515245, nl_2147483647, iI_0, iI_neg, iI_add, iI_sub, iI_mul, iI_div, iI_mod, iI_lt, iI_le, iI_eq, iI_nat, iI_vp, ld_rd, ld_wl, lu_s, lu_t, lu_c, lu_j, forall_eq, Int.toNat_natCast, true_and, and_true, not_true, not_false_iff, Classical.not_not, forall_const, iI_inj] at z
        omega
      · have hB : LJ (gd A k) := gd_LJ hA k (by omega)
        have e1 : gd A (k + 1) = hr (lu (gd A k) 0 0 3 (nx (gd A k 0 0 3))) (nx (gd A k 0 0 3) / 65536 % 16 % 4) (nx (gd A k 0 0 3) / 65536 % 16 / 4) := rfl
        have e2 : gdu A (k + 1) = gdu A k + hfl (lu (gd A k) 0 0 3 (nx (gd A k 0 0 3))) (nx (gd A k 0 0 3) / 65536 % 16 % 4) (nx (gd A k 0 0 3) / 65536 % 16 / 4) := rfl
        rw [e1, e2] at ih
        generalize gd A k = B at hB ih ⊢
        have hx := nx_r (B 0 0 3)
        refine rg_C_drawn_34 hP ⟨fun z => ?_, fun z => ⟨_, _, sp_drawWind (by omega), ?_⟩⟩
        · simp (disch := omega) only [nl_0, nl_1, nl_2, nl_3, nl_4, nl_5, nl_6, nl_7, nl_8, nl_9, nl_10, nl_11, nl_12, nl_13, nl_14, nl_15, nl_16, nl_17, nl_18, nl_19, nl_20, nl_21, nl_22, nl_23, nl_24, nl_25, nl_26, nl_27, nl_28, nl_31, nl_32, nl_42, nl_44, nl_46, nl_48, nl_49, nl_50, nl_51, nl_60, nl_75, nl_76, nl_99, nl_100, nl_108, nl_114, nl_117, nl_126, nl_255, nl_999, nl_2401, nl_9999, nl_12345, nl_65536, nl_1000000, nl_1103515245, nl_2147483647, iI_0, iI_neg, iI_add, iI_sub, iI_mul, iI_div, iI_mod, iI_lt, iI_le, iI_eq, iI_nat, iI_vp, ld_rd, ld_wl, lu_s, lu_t, lu_c, lu_j, forall_eq, Int.toNat_natCast, true_and, and_true, not_true, not_false_iff, Classical.not_not, forall_const, iI_inj] at z
          omega
        · simp (disch := omega) only [nl_0, nl_1, nl_2, nl_3, nl_4, nl_5, nl_6, nl_7, nl_8, nl_9, nl_10, nl_11, nl_12, nl_13, nl_14, nl_15, nl_16, nl_17, nl_18, nl_19, nl_20, nl_21, nl_22, nl_23, nl_24, nl_25, nl_26, nl_27, nl_28, nl_31, nl_32, nl_42, nl_44, nl_46, nl_48, nl_49, nl_50, nl_51, nl_60, nl_75, nl_76, nl_99, nl_100, nl_108, nl_114, nl_117, nl_126, nl_255, nl_999, nl_2401, nl_9999, nl_12345, nl_65536, nl_1000000, nl_1103515245, nl_2147483647, iI_0, iI_neg, iI_add, iI_sub, iI_mul, iI_div, iI_mod, iI_lt, iI_le, iI_eq, iI_nat, iI_vp, ld_rd, ld_wl, lu_s, lu_t, lu_c, lu_j, forall_eq, Int.toNat_natCast, true_and, and_true, not_true, not_false_iff, Classical.not_not, forall_const, iI_inj]
          refine ⟨by decide, by decide, _, _, sp_passHour (by omega) hM (by omega) (hB.l3 hx).li (by omega) (by omega), ?_⟩
          simp (disch := omega) only [nl_0, nl_1, nl_2, nl_3, nl_4, nl_5, nl_6, nl_7, nl_8, nl_9, nl_10, nl_11, nl_12, nl_13, nl_14, nl_15, nl_16, nl_17, nl_18, nl_19, nl_20, nl_21, nl_22, nl_23, nl_24, nl_25, nl_26, nl_27, nl_28, nl_31, nl_32, nl_42, nl_44, nl_46, nl_48, nl_49, nl_50, nl_51, nl_60, nl_75, nl_76, nl_99, nl_100, nl_108, nl_114, nl_117, nl_126, nl_255, nl_999, nl_2401, nl_9999, nl_12345, nl_65536, nl_1000000, nl_1103515245, nl_2147483647, iI_0, iI_neg, iI_add, iI_sub, iI_mul, iI_div, iI_mod, iI_lt, iI_le, iI_eq, iI_nat, iI_vp, ld_rd, ld_wl, lu_s, lu_t, lu_c, lu_j, forall_eq, Int.toNat_natCast, true_and, and_true, not_true, not_false_iff, Classical.not_not, forall_const, iI_inj]
          exact ih _
    · (unfold s_drawn; (repeat' split) <;> first | (first | exact mj_eq.rf | exact fi_n mj_eq.rf | exact fi_i rfl mj_eq.rf | exact rfl) | (exfalso; omega))
theorem k_drawn {A : lA} (hA : LJ A) {m : Int} : LJ (s_drawn A m).2 := by
  unfold s_drawn
  split
  · exact hA
  · split
    · exact hA
    · exact gd_LJ hA _ (by omega)
def s_pass (A : lA) (n : Nat) (S F : Nat → Int) (m : Int) : Int × lA := if m < 1 ∨ 60 < m then (-1, A) else if 9999 < A 0 0 2 + m then (-3, A) else (gsu A n S F m.toNat, gs A n S F m.toNat)
theorem c_pass {d : Nat} (hd : 6 ≤ d) {A : lA} {M : mj_M} {n : Nat} {S F : Nat → Int} {m : Int} (hm : iR m) (hM : mj_sM M) (hA : LJ A) (hW : WD M 20 n S F) : mj_Sp d 14 [mj_r (13, 50, 0), mj_i (iI m)] (mj_ld M 0 A) (some (mj_i (iI (s_pass A n S F m).1))) (mj_ld M 0 (s_pass A n S F m).2) := by
  unfold iR at hm
  have hh := hA.ho
  refine en_C_pass (k := 5) hd fun e he P hP hQ => rg_C_pass_0 hP ?_
  simp (disch := omega) only [nl_0, nl_1, nl_2, nl_3, nl_4, nl_5, nl_6, nl_7, nl_8, nl_9, nl_10, nl_11, nl_12, nl_13, nl_14, nl_15, nl_16, nl_17, nl_18, nl_19, nl_20, nl_21, nl_22, nl_23, nl_24, nl_25, nl_26, nl_27, nl_28, nl_31, nl_32, nl_42, nl_44, nl_46, nl_48, nl_49, nl_50, nl_51, nl_60, nl_75, nl_76, nl_99, nl_100, nl_108, nl_114, nl_117, nl_126, nl_255, nl_999, nl_2401, nl_9999, nl_12345, nl_65536, nl_1000000, nl_1103515245, nl_2147483647, iI_0, iI_neg, iI_add, iI_sub, iI_mul, iI_div, iI_mod, iI_lt, iI_le, iI_eq, iI_nat, iI_vp, ld_rd, ld_wl, lu_s, lu_t, lu_c, lu_j, forall_eq, Int.toNat_natCast, true_and, and_true, not_true, not_false_iff, Classical.not_not, forall_const, iI_inj]
  refine bo2 (sp_oI (by omega) (by omega) (by omega) (by omega)) (fun c1 => ?_) (fun c1 => ?_)
  · (unfold s_pass; (repeat' split) <;> first | (first | exact mj_eq.rf | exact fi_n mj_eq.rf | exact fi_i rfl mj_eq.rf | exact rfl) | (exfalso; omega))
  · simp (disch := omega) only [nl_0, nl_1, nl_2, nl_3, nl_4, nl_5, nl_6, nl_7, nl_8, nl_9, nl_10, nl_11, nl_12, nl_13, nl_14, nl_15, nl_16, nl_17, nl_18, nl_19, nl_20, nl_21, nl_22, nl_23, nl_24, nl_25, nl_26, nl_27, nl_28, nl_31, nl_32, nl_42, nl_44, nl_46, nl_48, nl_49, nl_50, nl_51, nl_60, nl_75, nl_76, nl_99, nl_100, nl_108, nl_114, nl_117, nl_126, nl_255, nl_999, nl_2401, nl_9999, nl_12345, nl_65536, nl_1000000, nl_1103515245, nl_2147483647, iI_0, iI_neg, iI_add, iI_sub, iI_mul, iI_div, iI_mod, iI_lt, iI_le, iI_eq, iI_nat, iI_vp, ld_rd, ld_wl, lu_s, lu_t, lu_c, lu_j, forall_eq, Int.toNat_natCast, true_and, and_true, not_true, not_false_iff, Classical.not_not, forall_const, iI_inj]
    refine ⟨fun c2 => ?_, fun c2 => ?_⟩
    · have es : s_pass A n S F m = (gsu A n S F m.toNat, gs A n S F m.toNat) := by
        unfold s_pass
        rw [if_neg (by omega), if_neg (by omega)]
      rw [es] at hP
      obtain ⟨q, rfl⟩ : ∃ q : Nat, m = q := ⟨m.toNat, nat_of (by omega)⟩
      rw [Int.toNat_natCast] at hP
      refine lp_dn (Q := fun k => P 34 [some (mj_r (13, 50, 0)), some (mj_i (iI (q : Int))), some (mj_i (iI (gsu A n S F k))), some (mj_i (iI (k : Int)))] [] (mj_ld M 0 (gs A n S F k))) (n := q) ?_ (fun k hk ih => ?_) 0 (Nat.zero_le _)
      · refine rg_C_pass_34 hP ⟨fun z => fi_i rfl mj_eq.rf, fun z => ?_⟩
        simp (disch := omega) only [nl_0, nl_1, nl_2, nl_3, nl_4, nl_5, nl_6, nl_7, nl_8, nl_9, nl_10, nl_11, nl_12, nl_13, nl_14, nl_15, nl_16, nl_17, nl_18, nl_19, nl_20, nl_21, nl_22, nl_23, nl_24, nl_25, nl_26, nl_27, nl_28, nl_31, nl_32, nl_42, nl_44, nl_46, nl_48, nl_49, nl_50, nl_51, nl_60, nl_75, nl_76, nl_99, nl_100, nl_108, nl_114, nl_117, nl_126, nl_255, nl_999, nl_2401, nl_9999, nl_12345, nl_65536, nl_1000000, nl_1103515245, nl_2147483647, iI_0, iI_neg, iI_add, iI_sub, iI_mul, iI_div, iI_mod, iI_lt, iI_le, iI_eq, iI_nat, iI_vp, ld_rd, ld_wl, lu_s, lu_t, lu_c, lu_j, forall_eq, Int.toNat_natCast, true_and, and_true, not_true, not_false_iff, Classical.not_not, forall_const, iI_inj] at z
        omega
      · have hB : LJ (gs A n S F k) := gs_LJ hA k (by omega)
        have e1 : gs A n S F (k + 1) = hr (gs A n S F k) (wS n S (gs A n S F k 0 0 2)) (wS n F (gs A n S F k 0 0 2)) := rfl
        have e2 : gsu A n S F (k + 1) = gsu A n S F k + hfl (gs A n S F k) (wS n S (gs A n S F k 0 0 2)) (wS n F (gs A n S F k 0 0 2)) := rfl
        rw [e1, e2] at ih
        have hr := wS_r hW (gs A n S F k 0 0 2)
        generalize gs A n S F k = B at hB ih hr ⊢
        have hbh := hB.ho
        refine rg_C_pass_34 hP ⟨fun z => ?_, fun z => ?_⟩
        · simp (disch := omega) only [nl_0, nl_1, nl_2, nl_3, nl_4, nl_5, nl_6, nl_7, nl_8, nl_9, nl_10, nl_11, nl_12, nl_13, nl_14, nl_15, nl_16, nl_17, nl_18, nl_19, nl_20, nl_21, nl_22, nl_23, nl_24, nl_25, nl_26, nl_27, nl_28, nl_31, nl_32, nl_42, nl_44, nl_46, nl_48, nl_49, nl_50, nl_51, nl_60, nl_75, nl_76, nl_99, nl_100, nl_108, nl_114, nl_117, nl_126, nl_255, nl_999, nl_2401, nl_9999, nl_12345, nl_65536, nl_1000000, nl_1103515245, nl_2147483647, iI_0, iI_neg, iI_add, iI_sub, iI_mul, iI_div, iI_mod, iI_lt, iI_le, iI_eq, iI_nat, iI_vp, ld_rd, ld_wl, lu_s, lu_t, lu_c, lu_j, forall_eq, Int.toNat_natCast, true_and, and_true, not_true, not_false_iff, Classical.not_not, forall_const, iI_inj] at z
          omega
        · simp (disch := omega) only [nl_0, nl_1, nl_2, nl_3, nl_4, nl_5, nl_6, nl_7, nl_8, nl_9, nl_10, nl_11, nl_12, nl_13, nl_14, nl_15, nl_16, nl_17, nl_18, nl_19, nl_20, nl_21, nl_22, nl_23, nl_24, nl_25, nl_26, nl_27, nl_28, nl_31, nl_32, nl_42, nl_44, nl_46, nl_48, nl_49, nl_50, nl_51, nl_60, nl_75, nl_76, nl_99, nl_100, nl_108, nl_114, nl_117, nl_126, nl_255, nl_999, nl_2401, nl_9999, nl_12345, nl_65536, nl_1000000, nl_1103515245, nl_2147483647, iI_0, iI_neg, iI_add, iI_sub, iI_mul, iI_div, iI_mod, iI_lt, iI_le, iI_eq, iI_nat, iI_vp, ld_rd, ld_wl, lu_s, lu_t, lu_c, lu_j, forall_eq, Int.toNat_natCast, true_and, and_true, not_true, not_false_iff, Classical.not_not, forall_const, iI_inj]
          refine ⟨_, _, sp_sideIn (by omega) hW.ld (by omega), ?_⟩
          simp (disch := omega) only [nl_0, nl_1, nl_2, nl_3, nl_4, nl_5, nl_6, nl_7, nl_8, nl_9, nl_10, nl_11, nl_12, nl_13, nl_14, nl_15, nl_16, nl_17, nl_18, nl_19, nl_20, nl_21, nl_22, nl_23, nl_24, nl_25, nl_26, nl_27, nl_28, nl_31, nl_32, nl_42, nl_44, nl_46, nl_48, nl_49, nl_50, nl_51, nl_60, nl_75, nl_76, nl_99, nl_100, nl_108, nl_114, nl_117, nl_126, nl_255, nl_999, nl_2401, nl_9999, nl_12345, nl_65536, nl_1000000, nl_1103515245, nl_2147483647, iI_0, iI_neg, iI_add, iI_sub, iI_mul, iI_div, iI_mod, iI_lt, iI_le, iI_eq, iI_nat, iI_vp, ld_rd, ld_wl, lu_s, lu_t, lu_c, lu_j, forall_eq, Int.toNat_natCast, true_and, and_true, not_true, not_false_iff, Classical.not_not, forall_const, iI_inj]
          refine ⟨_, _, sp_forceIn (by omega) hW.ld (by omega), _, _, sp_passHour (by omega) hM (by omega) hB.li hr.1 hr.2, ?_⟩
          simp (disch := omega) only [nl_0, nl_1, nl_2, nl_3, nl_4, nl_5, nl_6, nl_7, nl_8, nl_9, nl_10, nl_11, nl_12, nl_13, nl_14, nl_15, nl_16, nl_17, nl_18, nl_19, nl_20, nl_21, nl_22, nl_23, nl_24, nl_25, nl_26, nl_27, nl_28, nl_31, nl_32, nl_42, nl_44, nl_46, nl_48, nl_49, nl_50, nl_51, nl_60, nl_75, nl_76, nl_99, nl_100, nl_108, nl_114, nl_117, nl_126, nl_255, nl_999, nl_2401, nl_9999, nl_12345, nl_65536, nl_1000000, nl_1103515245, nl_2147483647, iI_0, iI_neg, iI_add, iI_sub, iI_mul, iI_div, iI_mod, iI_lt, iI_le, iI_eq, iI_nat, iI_vp, ld_rd, ld_wl, lu_s, lu_t, lu_c, lu_j, forall_eq, Int.toNat_natCast, true_and, and_true, not_true, not_false_iff, Classical.not_not, forall_const, iI_inj]
          exact ih
    · (unfold s_pass; (repeat' split) <;> first | (first | exact mj_eq.rf | exact fi_n mj_eq.rf | exact fi_i rfl mj_eq.rf | exact rfl) | (exfalso; omega))
theorem k_pass {A : lA} (hA : LJ A) {n : Nat} {S F : Nat → Int} {m : Int} : LJ (s_pass A n S F m).2 := by
  unfold s_pass
  split
  · exact hA
  · split
    · exact hA
    · exact gs_LJ hA _ (by omega)
