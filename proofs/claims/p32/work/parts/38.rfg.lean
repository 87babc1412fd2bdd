/-! contracts: the reference's hour, whole -/
theorem mv_25 {A : lA} {c : Nat} {s f : Int} (h : A 2 0 c = 25) : mv A c s f = A := if_pos h
theorem rn_25 {A : lA} {c : Nat} (h : A 2 0 c = 25) : rn A c = A := if_pos h
theorem rf_25 {A : lA} {c : Nat} (h : A 2 0 c = 25) : rf A c = 0 := if_pos h
/-! winds -/
/-- a row of winds: how many, sides, forces -/
def WD (M : mj_M) (p n : Nat) (S F : Nat → Int) : Prop := M p 10 0 0 = iI (n : Int) ∧ n ≤ 12 ∧ ∀ j, j < n → M p 11 0 j = iI (S j) ∧ M p 12 0 j = iI (F j) ∧ (0 ≤ S j ∧ S j ≤ 3) ∧ 0 ≤ F j ∧ F j ≤ 3
def wS (n : Nat) (S : Nat → Int) (h : Int) : Int := if n = 0 then 0 else S (h.toNat % n)
theorem wS_r {M : mj_M} {p n : Nat} {S F : Nat → Int} (h : WD M p n S F) (k : Int) : (0 ≤ wS n S k ∧ wS n S k ≤ 3) ∧ 0 ≤ wS n F k ∧ wS n F k ≤ 3 := by
  unfold wS
  by_cases g : n = 0
  · rw [if_pos g, if_pos g]; omega
  · rw [if_neg g, if_neg g]
    have := h.2.2 (k.toNat % n) (Nat.mod_lt _ (by omega))
    exact ⟨this.2.2.1, this.2.2.2⟩
theorem WD.ld {M : mj_M} {p n i : Nat} {S F : Nat → Int} {A : lA} (h : WD M p n S F) : WD (mj_ld M i A) p n S F :=
  ⟨(ld_hi (by decide)).trans h.1, h.2.1, fun j hj => ⟨(ld_hi (by decide)).trans (h.2.2 j hj).1, (ld_hi (by decide)).trans (h.2.2 j hj).2.1, (h.2.2 j hj).2.2⟩⟩
theorem WD.al {M : mj_M} {p n : Nat} {S F : Nat → Int} (h : WD M p n S F) {q : Nat} (e : M q = M p) : WD M q n S F := by
  unfold WD at h ⊢
  rw [e]
  exact h
theorem emod_nat {h : Int} {n : Nat} (h0 : 0 ≤ h) : (h % (n : Int)).toNat = h.toNat % n := by
  rw [Int.toNat_emod h0 (by omega), Int.toNat_natCast]
theorem sp_sideIn {d p n : Nat} (hd : 1 ≤ d) {M : mj_M} {S F : Nat → Int} (h : WD M p n S F) {k : Int} (hk : 0 ≤ k ∧ k < 2147483648) : mj_Sp d 58 [mj_r (p, 10, 0), mj_i (iI k)] M (some (mj_i (iI (wS n S k)))) M := by
  have h2 := h.2.1
  refine en_Wi_sideIn (k := 0) hd fun e he P hP hQ => rg_Wi_sideIn_0 hP ?_
  unfold wS
  by_cases g : n = 0
  · rw [if_pos g]
    simp (disch := omega) only [nl_0, nl_1, nl_2, nl_3, nl_4, nl_5, nl_6, nl_7, nl_8, nl_9, nl_10, nl_11, nl_12, nl_13, nl_14, nl_15, nl_16, nl_17, nl_18, nl_19, nl_20, nl_21, nl_22, nl_23, nl_24, nl_25, nl_26, nl_27, nl_28, nl_31, nl_32, nl_42, nl_44, nl_46, nl_48, nl_49, nl_50, nl_51, nl_60, nl_75, nl_76, nl_99, nl_100, nl_108, nl_114, nl_117, nl_126, nl_255, nl_999, nl_2401, nl_9999, nl_12345, nl_65536, nl_1000000, nl_1103515245, nl_2147483647, iI_0, iI_neg, iI_add, iI_sub, iI_mul, iI_div, iI_mod, iI_lt, iI_le, iI_eq, iI_nat, iI_vp, ld_rd, ld_wl, lu_s, lu_t, lu_c, lu_j, forall_eq, Int.toNat_natCast, true_and, and_true, not_true, not_false_iff, Classical.not_not, forall_const, iI_inj, h.1]
    exact ⟨fun z => by (first | exact mj_eq.rf | exact fi_n mj_eq.rf | exact fi_i rfl mj_eq.rf | exact rfl), fun z => by omega⟩
  · have h5 : 0 ≤ k % (n : Int) := Int.emod_nonneg k (by omega)
    have h6 : k % (n : Int) < n := Int.emod_lt_of_pos k (by omega)
    have e2 := (h.2.2 (k.toNat % n) (Nat.mod_lt _ (by omega))).1
    rw [if_neg g]
    simp (disch := omega) only [nl_0, nl_1, nl_2, nl_3, nl_4, nl_5, nl_6, nl_7, nl_8, nl_9, nl_10, nl_11, nl_12, nl_13, nl_14, nl_15, nl_16, nl_17, nl_18, nl_19, nl_20, nl_21, nl_22, nl_23, nl_24, nl_25, nl_26, nl_27, nl_28, nl_31, nl_32, nl_42, nl_44, nl_46, nl_48, nl_49, nl_50, nl_51, nl_60, nl_75, nl_76, nl_99, nl_100, nl_108, nl_114, nl_117, nl_126, nl_255, nl_999, nl_2401, nl_9999, nl_12345, nl_65536, nl_1000000, nl_1103515245, nl_2147483647, iI_0, iI_neg, iI_add, iI_sub, iI_mul, iI_div, iI_mod, iI_lt, iI_le, iI_eq, iI_nat, iI_vp, ld_rd, ld_wl, lu_s, lu_t, lu_c, lu_j, forall_eq, Int.toNat_natCast, true_and, and_true, not_true, not_false_iff, Classical.not_not, forall_const, iI_inj, h.1, emod_nat hk.1, e2]
    exact ⟨fun z => by omega, fun z => ⟨by omega, by (first | exact mj_eq.rf | exact fi_n mj_eq.rf | exact fi_i rfl mj_eq.rf | exact rfl)⟩⟩
theorem sp_forceIn {d p n : Nat} (hd : 1 ≤ d) {M : mj_M} {S F : Nat → Int} (h : WD M p n S F) {k : Int} (hk : 0 ≤ k ∧ k < 2147483648) : mj_Sp d 59 [mj_r (p, 10, 0), mj_i (iI k)] M (some (mj_i (iI (wS n F k)))) M := by
  have h2 := h.2.1
  refine en_Wi_forceIn (k := 0) hd fun e he P hP hQ => rg_Wi_forceIn_0 hP ?_
  unfold wS
  by_cases g : n = 0
  · rw [if_pos g]
    simp (disch := omega) only [nl_0, nl_1, nl_2, nl_3, nl_4, nl_5, nl_6, nl_7, nl_8, nl_9, nl_10, nl_11, nl_12, nl_13, nl_14, nl_15, nl_16, nl_17, nl_18, nl_19, nl_20, nl_21, nl_22, nl_23, nl_24, nl_25, nl_26, nl_27, nl_28, nl_31, nl_32, nl_42, nl_44, nl_46, nl_48, nl_49, nl_50, nl_51, nl_60, nl_75, nl_76, nl_99, nl_100, nl_108, nl_114, nl_117, nl_126, nl_255, nl_999, nl_2401, nl_9999, nl_12345, nl_65536, nl_1000000, nl_1103515245, nl_2147483647, iI_0, iI_neg, iI_add, iI_sub, iI_mul, iI_div, iI_mod, iI_lt, iI_le, iI_eq, iI_nat, iI_vp, ld_rd, ld_wl, lu_s, lu_t, lu_c, lu_j, forall_eq, Int.toNat_natCast, true_and, and_true, not_true, not_false_iff, Classical.not_not, forall_const, iI_inj, h.1]
    exact ⟨fun z => by (first | exact mj_eq.rf | exact fi_n mj_eq.rf | exact fi_i rfl mj_eq.rf | exact rfl), fun z => by omega⟩
  · have h5 : 0 ≤ k % (n : Int) := Int.emod_nonneg k (by omega)
    have h6 : k % (n : Int) < n := Int.emod_lt_of_pos k (by omega)
    have e2 := (h.2.2 (k.toNat % n) (Nat.mod_lt _ (by omega))).2.1
    rw [if_neg g]
    simp (disch := omega) only [nl_0, nl_1, nl_2, nl_3, nl_4, nl_5, nl_6, nl_7, nl_8, nl_9, nl_10, nl_11, nl_12, nl_13, nl_14, nl_15, nl_16, nl_17, nl_18, nl_19, nl_20, nl_21, nl_22, nl_23, nl_24, nl_25, nl_26, nl_27, nl_28, nl_31, nl_32, nl_42, nl_44, nl_46, nl_48, nl_49, nl_50, nl_51, nl_60, nl_75, nl_76, nl_99, nl_100, nl_108, nl_114, nl_117, nl_126, nl_255, nl_999, nl_2401, nl_9999, nl_12345, nl_65536, nl_1000000, nl_1103515245, nl_2147483647, iI_0, iI_neg, iI_add, iI_sub, iI_mul, iI_div, iI_mod, iI_lt, iI_le, iI_eq, iI_nat, iI_vp, ld_rd, ld_wl, lu_s, lu_t, lu_c, lu_j, forall_eq, Int.toNat_natCast, true_and, and_true, not_true, not_false_iff, Classical.not_not, forall_const, iI_inj, h.1, emod_nat hk.1, e2]
    exact ⟨fun z => by omega, fun z => ⟨by omega, by (first | exact mj_eq.rf | exact fi_n mj_eq.rf | exact fi_i rfl mj_eq.rf | exact rfl)⟩⟩
/-! hours by winds -/
def gs (A : lA) (n : Nat) (S F : Nat → Int) : Nat → lA
  | 0 => A
  | k + 1 => hr (gs A n S F k) (wS n S (gs A n S F k 0 0 2)) (wS n F (gs A n S F k 0 0 2))
def gsu (A : lA) (n : Nat) (S F : Nat → Int) : Nat → Int
  | 0 => 0
  | k + 1 => gsu A n S F k + hfl (gs A n S F k) (wS n S (gs A n S F k 0 0 2)) (wS n F (gs A n S F k 0 0 2))
theorem hr_h {A : lA} {s f : Int} : hr A s f 0 0 2 = A 0 0 2 + 1 := lu_s
theorem gs_h {A : lA} {n : Nat} {S F : Nat → Int} : ∀ k, gs A n S F k 0 0 2 = A 0 0 2 + (k : Int)
  | 0 => (Int.add_zero _).symm
  | k + 1 => by
    show hr _ _ _ 0 0 2 = _
    rw [hr_h, gs_h k]
    omega
theorem gs_LI {A : lA} {n : Nat} {S F : Nat → Int} (h : LI A) : ∀ k, LI (gs A n S F k)
  | 0 => h
  | k + 1 => hr_LI (gs_LI h k) _ _
theorem gs_lo {A : lA} {n : Nat} {S F : Nat → Int} {t i j : Nat} (h : t = 0 ∧ j ≠ 2 ∨ t = 1 ∨ t = 5 ∨ t = 7) : ∀ k, gs A n S F k t i j = A t i j
  | 0 => rfl
  | k + 1 => (hr_lo h).trans (gs_lo h k)
