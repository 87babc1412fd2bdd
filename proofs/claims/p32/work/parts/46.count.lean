/-! contracts: count -/
theorem sm_add {f g : Nat → Int} : ∀ n, sm (fun k => f k + g k) n = sm f n + sm g n
  | 0 => rfl
  | n + 1 => by
    show sm (fun k => f k + g k) n + (f n + g n) = (sm f n + f n) + (sm g n + g n)
    rw [sm_add n]
    omega
/-- how many clouds are over the land, their water, and that of those away -/
def ov (A : lA) : Nat → Int := sm (fun c => if A 2 0 c = 25 then 0 else 1)
def wo (A : lA) : Nat → Int := sm (fun c => if A 2 0 c = 25 then 0 else A 3 0 c)
def wa (A : lA) : Nat → Int := sm (fun c => if A 2 0 c = 25 then A 3 0 c else 0)
theorem wa_wo {A : lA} (n : Nat) : sm (A 3 0) n - wo A n = wa A n := by
  have : sm (A 3 0) n = wo A n + wa A n := by
    unfold wo wa
    rw [← sm_add]
    refine sm_c n (fun c hc => ?_)
    by_cases h : A 2 0 c = 25
    · rw [if_pos h, if_pos h]
      omega
    · rw [if_neg h, if_neg h]
      omega
  omega
theorem sp_cloudsOver {d i : Nat} (hd : 3 ≤ d) {A : lA} {M : mj_M} (hA : LI A) : mj_Sp d 36 [mj_r (i, 0, 0)] (mj_ld M i A) (some (mj_i (iI (ov A (nC A))))) (mj_ld M i A) := by
  have h1 := hA.nc
  refine en_La_cloudsOver (k := 2) hd fun e he P hP hQ => rg_La_cloudsOver_0 hP ?_
  refine lp_dn (Q := fun k => P 4 [some (mj_r (i, 0, 0)), some (mj_i (iI (ov A k))), some (mj_i (iI (k : Int)))] [] (mj_ld M i A)) (n := nC A) ?_ (fun k hk ih => ?_) 0 (Nat.zero_le _)
  · refine rg_La_cloudsOver_4 hP ⟨fun z => fi_i rfl mj_eq.rf, fun z => ?_⟩
    simp (disch := omega) only [nl_0, nl_1, nl_2, nl_3, nl_4, nl_5, nl_6, nl_7, nl_8, nl_9, nl_10, nl_11, nl_12, nl_13, nl_14, nl_15, nl_16, nl_17, nl_18, nl_19, nl_20, nl_21, nl_22, nl_23, nl_24, nl_25, nl_26, nl_27, nl_28, nl_31, nl_32, nl_42, nl_44, nl_46, nl_48, nl_49, nl_50, nl_51, nl_60, nl_75, nl_76, nl_99, nl_100, nl_108, nl_114, nl_117, nl_126, nl_255, nl_999, nl_2401, nl_9999, nl_12345, nl_65536, nl_1000000, nl_1103515245, nl_2147483647, iI_0, iI_neg, iI_add, iI_sub, iI_mul, iI_div, iI_mod, iI_lt, iI_le, iI_eq, iI_nat, iI_vp, ld_rd, ld_wl, lu_s, lu_t, lu_c, lu_j, forall_eq, Int.toNat_natCast, true_and, and_true, not_true, not_false_iff, Classical.not_not, forall_const, iI_inj, h1.1] at z
    omega
  · have e1 : ov A (k + 1) = ov A k + if A 2 0 k = 25 then 0 else 1 := rfl
    rw [e1] at ih
    refine rg_La_cloudsOver_4 hP ?_
    simp (disch := omega) only [nl_0, nl_1, nl_2, nl_3, nl_4, nl_5, nl_6, nl_7, nl_8, nl_9, nl_10, nl_11, nl_12, nl_13, nl_14, nl_15, nl_16, nl_17, nl_18, nl_19, nl_20, nl_21, nl_22, nl_23, nl_24, nl_25, nl_26, nl_27, nl_28, nl_31, nl_32, nl_42, nl_44, nl_46, nl_48, nl_49, nl_50, nl_51, nl_60, nl_75, nl_76, nl_99, nl_100, nl_108, nl_114, nl_117, nl_126, nl_255, nl_999, nl_2401, nl_9999, nl_12345, nl_65536, nl_1000000, nl_1103515245, nl_2147483647, iI_0, iI_neg, iI_add, iI_sub, iI_mul, iI_div, iI_mod, iI_lt, iI_le, iI_eq, iI_nat, iI_vp, ld_rd, ld_wl, lu_s, lu_t, lu_c, lu_j, forall_eq, Int.toNat_natCast, true_and, and_true, not_true, not_false_iff, Classical.not_not, forall_const, iI_inj, h1.1]
    refine ⟨fun z => by omega, fun z => bo2 (sp_isOver (by omega) (by omega) hA) (fun c => ?_) (fun c => ?_)⟩
    · have c2 : A 2 0 k ≠ 25 := c.2
      rw [if_neg c2] at ih
      exact ih
    · have c2 : A 2 0 k = 25 := by
        have : ¬ (A 2 0 k ≠ 25) := fun z => c ⟨by omega, z⟩
        omega
      rw [if_pos c2, Int.add_zero] at ih
      exact ih
theorem sp_waterWhere {d i : Nat} (hd : 3 ≤ d) {A : lA} {M : mj_M} (hA : LI A) (b : Bool) : mj_Sp d 37 [mj_r (i, 0, 0), mj_i (iI (if b then 1 else 0))] (mj_ld M i A) (some (mj_i (iI (if b then wo A (nC A) else wa A (nC A))))) (mj_ld M i A) := by
  have h1 := hA.nc
  refine en_La_waterWhere (k := 2) hd fun e he P hP hQ => rg_La_waterWhere_0 hP ?_
  have e0 : (if b = true then wo A 0 else wa A 0) = 0 := by cases b <;> rfl
  suffices key : P 4 [some (mj_r (i, 0, 0)), some (mj_i (iI (if b then 1 else 0))), some (mj_i (iI (if b then wo A 0 else wa A 0))), some (mj_i (iI ((0 : Nat) : Int)))] [] (mj_ld M i A) by
    rw [e0] at key
    exact key
  refine lp_dn (Q := fun k => P 4 [some (mj_r (i, 0, 0)), some (mj_i (iI (if b then 1 else 0))), some (mj_i (iI (if b then wo A k else wa A k))), some (mj_i (iI (k : Int)))] [] (mj_ld M i A)) (n := nC A) ?_ (fun k hk ih => ?_) 0 (Nat.zero_le _)
  · refine rg_La_waterWhere_4 hP ⟨fun z => fi_i rfl mj_eq.rf, fun z => ?_⟩
    simp (disch := omega) only [nl_0, nl_1, nl_2, nl_3, nl_4, nl_5, nl_6, nl_7, nl_8, nl_9, nl_10, nl_11, nl_12, nl_13, nl_14, nl_15, nl_16, nl_17, nl_18, nl_19, nl_20, nl_21, nl_22, nl_23, nl_24, nl_25, nl_26, nl_27, nl_28, nl_31, nl_32, nl_42, nl_44, nl_46, nl_48, nl_49, nl_50, nl_51, nl_60, nl_75, nl_76, nl_99, nl_100, nl_108, nl_114, nl_117, nl_126, nl_255, nl_999, nl_2401, nl_9999, nl_12345, nl_65536, nl_1000000, nl_1103515245, nl_2147483647, iI_0, iI_neg, iI_add, iI_sub, iI_mul, iI_div, iI_mod, iI_lt, iI_le, iI_eq, iI_nat, iI_vp, ld_rd, ld_wl, lu_s, lu_t, lu_c, lu_j, forall_eq, Int.toNat_natCast, true_and, and_true, not_true, not_false_iff, Classical.not_not, forall_const, iI_inj, h1.1] at z
    omega
  · have e1 : wo A (k + 1) = wo A k + if A 2 0 k = 25 then 0 else A 3 0 k := rfl
    have e2 : wa A (k + 1) = wa A k + if A 2 0 k = 25 then A 3 0 k else 0 := rfl
    rw [e1, e2] at ih
    refine rg_La_waterWhere_4 hP ?_
    simp (disch := omega) only [nl_0, nl_1, nl_2, nl_3, nl_4, nl_5, nl_6, nl_7, nl_8, nl_9, nl_10, nl_11, nl_12, nl_13, nl_14, nl_15, nl_16, nl_17, nl_18, nl_19, nl_20, nl_21, nl_22, nl_23, nl_24, nl_25, nl_26, nl_27, nl_28, nl_31, nl_32, nl_42, nl_44, nl_46, nl_48, nl_49, nl_50, nl_51, nl_60, nl_75, nl_76, nl_99, nl_100, nl_108, nl_114, nl_117, nl_126, nl_255, nl_999, nl_2401, nl_9999, nl_12345, nl_65536, nl_1000000, nl_1103515245, nl_2147483647, iI_0, iI_neg, iI_add, iI_sub, iI_mul, iI_div, iI_mod, iI_lt, iI_le, iI_eq, iI_nat, iI_vp, ld_rd, ld_wl, lu_s, lu_t, lu_c, lu_j, forall_eq, Int.toNat_natCast, true_and, and_true, not_true, not_false_iff, Classical.not_not, forall_const, iI_inj, h1.1]
    refine ⟨fun z => by omega, fun z => ⟨_, _, sp_isOver (by omega) (by omega) hA, ?_⟩⟩
    by_cases c2 : A 2 0 k = 25
    · rw [if_neg (fun h => h.2 c2)]
      rw [if_pos c2, if_pos c2] at ih
      cases b
      · simp (disch := omega) only [nl_0, nl_1, nl_2, nl_3, nl_4, nl_5, nl_6, nl_7, nl_8, nl_9, nl_10, nl_11, nl_12, nl_13, nl_14, nl_15, nl_16, nl_17, nl_18, nl_19, nl_20, nl_21, nl_22, nl_23, nl_24, nl_25, nl_26, nl_27, nl_28, nl_31, nl_32, nl_42, nl_44, nl_46, nl_48, nl_49, nl_50, nl_51, nl_60, nl_75, nl_76, nl_99, nl_100, nl_108, nl_114, nl_117, nl_126, nl_255, nl_999, nl_2401, nl_9999, nl_12345, nl_65536, nl_1000000, nl_1103515245, nl_2147483647, iI_0, iI_neg, iI_add, iI_sub, iI_mul, iI_div, iI_mod, iI_lt, iI_le, iI_eq, iI_nat, iI_vp, ld_rd, ld_wl, lu_s, lu_t, lu_c, lu_j, forall_eq, Int.toNat_natCast, true_and, and_true, not_true, not_false_iff, Classical.not_not, forall_const, iI_inj]
        exact ⟨fun h => absurd rfl h, fun _ => ih⟩
      · simp (disch := omega) only [nl_0, nl_1, nl_2, nl_3, nl_4, nl_5, nl_6, nl_7, nl_8, nl_9, nl_10, nl_11, nl_12, nl_13, nl_14, nl_15, nl_16, nl_17, nl_18, nl_19, nl_20, nl_21, nl_22, nl_23, nl_24, nl_25, nl_26, nl_27, nl_28, nl_31, nl_32, nl_42, nl_44, nl_46, nl_48, nl_49, nl_50, nl_51, nl_60, nl_75, nl_76, nl_99, nl_100, nl_108, nl_114, nl_117, nl_126, nl_255, nl_999, nl_2401, nl_9999, nl_12345, nl_65536, nl_1000000, nl_1103515245, nl_2147483647, iI_0, iI_neg, iI_add, iI_sub, iI_mul, iI_div, iI_mod, iI_lt, iI_le, iI_eq, iI_nat, iI_vp, ld_rd, ld_wl, lu_s, lu_t, lu_c, lu_j, forall_eq, Int.toNat_natCast, true_and, and_true, not_true, not_false_iff, Classical.not_not, forall_const, iI_inj]
        refine ⟨fun h => ?_, fun h => absurd h (by decide)⟩
        simp only [if_true, Int.add_zero] at ih ⊢
        exact ih
    · rw [if_pos ⟨by omega, c2⟩]
      rw [if_neg c2, if_neg c2] at ih
      cases b
      · simp (disch := omega) only [nl_0, nl_1, nl_2, nl_3, nl_4, nl_5, nl_6, nl_7, nl_8, nl_9, nl_10, nl_11, nl_12, nl_13, nl_14, nl_15, nl_16, nl_17, nl_18, nl_19, nl_20, nl_21, nl_22, nl_23, nl_24, nl_25, nl_26, nl_27, nl_28, nl_31, nl_32, nl_42, nl_44, nl_46, nl_48, nl_49, nl_50, nl_51, nl_60, nl_75, nl_76, nl_99, nl_100, nl_108, nl_114, nl_117, nl_126, nl_255, nl_999, nl_2401, nl_9999, nl_12345, nl_65536, nl_1000000, nl_1103515245, nl_2147483647, iI_0, iI_neg, iI_add, iI_sub, iI_mul, iI_div, iI_mod, iI_lt, iI_le, iI_eq, iI_nat, iI_vp, ld_rd, ld_wl, lu_s, lu_t, lu_c, lu_j, forall_eq, Int.toNat_natCast, true_and, and_true, not_true, not_false_iff, Classical.not_not, forall_const, iI_inj]
        refine ⟨fun h => ?_, fun h => absurd h (by decide)⟩
        rw [Int.add_zero] at ih
        exact ih
      · simp (disch := omega) only [nl_0, nl_1, nl_2, nl_3, nl_4, nl_5, nl_6, nl_7, nl_8, nl_9, nl_10, nl_11, nl_12, nl_13, nl_14, nl_15, nl_16, nl_17, nl_18, nl_19, nl_20, nl_21, nl_22, nl_23, nl_24, nl_25, nl_26, nl_27, nl_28, nl_31, nl_32, nl_42, nl_44, nl_46, nl_48, nl_49, nl_50, nl_51, nl_60, nl_75, nl_76, nl_99, nl_100, nl_108, nl_114, nl_117, nl_126, nl_255, nl_999, nl_2401, nl_9999, nl_12345, nl_65536, nl_1000000, nl_1103515245, nl_2147483647, iI_0, iI_neg, iI_add, iI_sub, iI_mul, iI_div, iI_mod, iI_lt, iI_le, iI_eq, iI_nat, iI_vp, ld_rd, ld_wl, lu_s, lu_t, lu_c, lu_j, forall_eq, Int.toNat_natCast, true_and, and_true, not_true, not_false_iff, Classical.not_not, forall_const, iI_inj]
        refine ⟨fun h => absurd rfl h, fun _ => ?_⟩
        simp only [if_true] at ih ⊢
        exact ih
def s_count (A : lA) (n : Nat) (w : Int) : Int × lA := if w = 0 then (ov A (nC A), A) else if w = 1 then (A 0 0 1, A) else if w = 2 then (A 0 0 2, A) else if w = 3 then ((n : Int), A) else if w = 4 then (wo A (nC A), A) else if w = 5 then (wa A (nC A), A) else if w = 6 then (sm (A 9 0) 25, A) else if w = 7 then (sm (A 6 0) 4, A) else (-1, A)
theorem c_count {d : Nat} (hd : 4 ≤ d) {A : lA} {M : mj_M} {n : Nat} {S F : Nat → Int} {w : Int} (hw : iR w) (hA : LI A) (hW : WD M 20 n S F) : mj_Sp d 13 [mj_r (13, 50, 0), mj_i (iI w)] (mj_ld M 0 A) (some (mj_i (iI (s_count A n w).1))) (mj_ld M 0 (s_count A n w).2) := by
  unfold iR at hw
  have hw20 : mj_ld M 0 A (20 + 0) 10 0 0 = iI (n : Int) := (hW.ld (i := 0) (A := A)).1
  refine en_C_count (k := 3) hd fun e he P hP hQ => rg_C_count_0 hP ?_
  simp (disch := omega) only [nl_0, nl_1, nl_2, nl_3, nl_4, nl_5, nl_6, nl_7, nl_8, nl_9, nl_10, nl_11, nl_12, nl_13, nl_14, nl_15, nl_16, nl_17, nl_18, nl_19, nl_20, nl_21, nl_22, nl_23, nl_24, nl_25, nl_26, nl_27, nl_28, nl_31, nl_32, nl_42, nl_44, nl_46, nl_48, nl_49, nl_50, nl_51, nl_60, nl_75, nl_76, nl_99, nl_100, nl_108, nl_114, nl_117, nl_126, nl_255, nl_999, nl_2401, nl_9999, nl_12345, nl_65536, nl_1000000, nl_1103515245, nl_2147483647, iI_0, iI_neg, iI_add, iI_sub, iI_mul, iI_div, iI_mod, iI_lt, iI_le, iI_eq, iI_nat, iI_vp, ld_rd, ld_wl, lu_s, lu_t, lu_c, lu_j, forall_eq, Int.toNat_natCast, true_and, and_true, not_true, not_false_iff, Classical.not_not, forall_const, iI_inj, hw20]
  refine ⟨fun z => ⟨_, _, sp_cloudsOver (by omega) hA, ?_⟩, fun z0 => ⟨fun z => ?_, fun z1 => ⟨fun z => ?_, fun z2 => ⟨fun z => ?_, fun z3 => ⟨fun z => ⟨_, _, sp_waterWhere (by omega) hA true, ?_⟩, fun z4 => ⟨fun z => ⟨_, _, sp_waterWhere (by omega) hA false, ?_⟩, fun z5 => ⟨fun z => ⟨_, _, sp_sum (n := 25) (g := A 9 0) (by omega) rfl rfl (by decide) (fun j hj => ?_), ?_⟩, fun z6 => ⟨fun z => ⟨_, _, sp_sum (n := 4) (g := A 6 0) (by omega) rfl rfl (by decide) (fun j hj => ?_), ?_⟩, fun z7 => ?_⟩⟩⟩⟩⟩⟩⟩⟩
  · (unfold s_count; (repeat' split) <;> first | (first | exact mj_eq.rf | exact fi_n mj_eq.rf | exact fi_i rfl mj_eq.rf | exact rfl) | (exfalso; omega))
  · (unfold s_count; (repeat' split) <;> first | (first | exact mj_eq.rf | exact fi_n mj_eq.rf | exact fi_i rfl mj_eq.rf | exact rfl) | (exfalso; omega))
  · (unfold s_count; (repeat' split) <;> first | (first | exact mj_eq.rf | exact fi_n mj_eq.rf | exact fi_i rfl mj_eq.rf | exact rfl) | (exfalso; omega))
  · (unfold s_count; (repeat' split) <;> first | (first | exact mj_eq.rf | exact fi_n mj_eq.rf | exact fi_i rfl mj_eq.rf | exact rfl) | (exfalso; omega))
  · simp only [if_true]
    (unfold s_count; (repeat' split) <;> first | (first | exact mj_eq.rf | exact fi_n mj_eq.rf | exact fi_i rfl mj_eq.rf | exact rfl) | (exfalso; omega))
  · simp only [Bool.false_eq_true, if_false]
    (unfold s_count; (repeat' split) <;> first | (first | exact mj_eq.rf | exact fi_n mj_eq.rf | exact fi_i rfl mj_eq.rf | exact rfl) | (exfalso; omega))
  · unfold mj_rd
    rw [mj_aloc_p (show 9 < 60 by decide)]
    exact ld_rd (show 9 < 10 by decide)
  · (unfold s_count; (repeat' split) <;> first | (first | exact mj_eq.rf | exact fi_n mj_eq.rf | exact fi_i rfl mj_eq.rf | exact rfl) | (exfalso; omega))
  · unfold mj_rd
    rw [mj_aloc_p (show 6 < 60 by decide)]
    exact ld_rd (show 6 < 10 by decide)
  · (unfold s_count; (repeat' split) <;> first | (first | exact mj_eq.rf | exact fi_n mj_eq.rf | exact fi_i rfl mj_eq.rf | exact rfl) | (exfalso; omega))
  · (unfold s_count; (repeat' split) <;> first | (first | exact mj_eq.rf | exact fi_n mj_eq.rf | exact fi_i rfl mj_eq.rf | exact rfl) | (exfalso; omega))
