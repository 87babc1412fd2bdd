/-! contracts: the land's leaves -/
theorem sp_isCloud {d i : Nat} (hd : 1 ≤ d) {A : lA} {M : mj_M} {z : Int} (hz : -2147483648 ≤ z ∧ z < 2147483648) (hA : LI A) : mj_Sp d 28 [mj_r (i, 0, 0), mj_i (iI z)] (mj_ld M i A) (some (mj_i (iI (if 0 ≤ z ∧ z < A 0 0 0 then 1 else 0)))) (mj_ld M i A) := by
  have h1 := hA.1
  have h2 := hA.2.1
  refine en_La_isCloud (k := 0) hd fun e he P hP hQ => rg_La_isCloud_0 hP ?_
  simp (disch := omega) only [nl_0, nl_1, nl_2, nl_3, nl_4, nl_5, nl_6, nl_7, nl_8, nl_9, nl_10, nl_11, nl_12, nl_13, nl_14, nl_15, nl_16, nl_17, nl_18, nl_19, nl_20, nl_21, nl_22, nl_23, nl_24, nl_25, nl_26, nl_27, nl_28, nl_31, nl_32, nl_42, nl_44, nl_46, nl_48, nl_49, nl_50, nl_51, nl_60, nl_75, nl_76, nl_99, nl_100, nl_108, nl_114, nl_117, nl_126, nl_255, nl_999, nl_2401, nl_9999, nl_12345, nl_65536, nl_1000000, nl_1103515245, nl_2147483647, iI_0, iI_neg, iI_add, iI_sub, iI_mul, iI_div, iI_mod, iI_lt, iI_le, iI_eq, iI_nat, iI_vp, ld_rd, ld_wl, lu_s, lu_t, lu_c, lu_j, forall_eq, Int.toNat_natCast, true_and, and_true, not_true, not_false_iff, Classical.not_not, forall_const, iI_inj]
  refine ⟨fun c => fi_i ?_ mj_eq.rf, fun c => ⟨fun c2 => fi_i ?_ mj_eq.rf, fun c2 => fi_i ?_ mj_eq.rf⟩⟩
  · rw [if_neg (by omega)]
  · rw [if_neg (by omega)]
  · rw [if_pos (by omega)]
theorem sp_isVillage {d i : Nat} (hd : 1 ≤ d) {A : lA} {M : mj_M} {z : Int} (hz : -2147483648 ≤ z ∧ z < 2147483648) (hA : LI A) : mj_Sp d 30 [mj_r (i, 0, 0), mj_i (iI z)] (mj_ld M i A) (some (mj_i (iI (if 0 ≤ z ∧ z < A 0 0 1 then 1 else 0)))) (mj_ld M i A) := by
  have h1 := hA.2.2.1
  have h2 := hA.2.2.2.1
  refine en_La_isVillage (k := 0) hd fun e he P hP hQ => rg_La_isVillage_0 hP ?_
  simp (disch := omega) only [nl_0, nl_1, nl_2, nl_3, nl_4, nl_5, nl_6, nl_7, nl_8, nl_9, nl_10, nl_11, nl_12, nl_13, nl_14, nl_15, nl_16, nl_17, nl_18, nl_19, nl_20, nl_21, nl_22, nl_23, nl_24, nl_25, nl_26, nl_27, nl_28, nl_31, nl_32, nl_42, nl_44, nl_46, nl_48, nl_49, nl_50, nl_51, nl_60, nl_75, nl_76, nl_99, nl_100, nl_108, nl_114, nl_117, nl_126, nl_255, nl_999, nl_2401, nl_9999, nl_12345, nl_65536, nl_1000000, nl_1103515245, nl_2147483647, iI_0, iI_neg, iI_add, iI_sub, iI_mul, iI_div, iI_mod, iI_lt, iI_le, iI_eq, iI_nat, iI_vp, ld_rd, ld_wl, lu_s, lu_t, lu_c, lu_j, forall_eq, Int.toNat_natCast, true_and, and_true, not_true, not_false_iff, Classical.not_not, forall_const, iI_inj]
  refine ⟨fun c => fi_i ?_ mj_eq.rf, fun c => ⟨fun c2 => fi_i ?_ mj_eq.rf, fun c2 => fi_i ?_ mj_eq.rf⟩⟩
  · rw [if_neg (by omega)]
  · rw [if_neg (by omega)]
  · rw [if_pos (by omega)]
theorem sp_isOver {d i : Nat} (hd : 2 ≤ d) {A : lA} {M : mj_M} {z : Int} (hz : -2147483648 ≤ z ∧ z < 2147483648) (hA : LI A) : mj_Sp d 29 [mj_r (i, 0, 0), mj_i (iI z)] (mj_ld M i A) (some (mj_i (iI (if (0 ≤ z ∧ z < A 0 0 0) ∧ A 2 0 z.toNat ≠ 25 then 1 else 0)))) (mj_ld M i A) := by
  have h2 := hA.2.1
  refine en_La_isOver (k := 1) hd fun e he P hP hQ => rg_La_isOver_0 hP (bo_cn (sp_isCloud (by omega) hz hA) (fun c => ?_) (fun c => ?_))
  · have hf := hA.fd (c := z.toNat) (by omega)
    simp (disch := omega) only [nl_0, nl_1, nl_2, nl_3, nl_4, nl_5, nl_6, nl_7, nl_8, nl_9, nl_10, nl_11, nl_12, nl_13, nl_14, nl_15, nl_16, nl_17, nl_18, nl_19, nl_20, nl_21, nl_22, nl_23, nl_24, nl_25, nl_26, nl_27, nl_28, nl_31, nl_32, nl_42, nl_44, nl_46, nl_48, nl_49, nl_50, nl_51, nl_60, nl_75, nl_76, nl_99, nl_100, nl_108, nl_114, nl_117, nl_126, nl_255, nl_999, nl_2401, nl_9999, nl_12345, nl_65536, nl_1000000, nl_1103515245, nl_2147483647, iI_0, iI_neg, iI_add, iI_sub, iI_mul, iI_div, iI_mod, iI_lt, iI_le, iI_eq, iI_nat, iI_vp, ld_rd, ld_wl, lu_s, lu_t, lu_c, lu_j, forall_eq, Int.toNat_natCast, true_and, and_true, not_true, not_false_iff, Classical.not_not, forall_const, iI_inj]
    refine ⟨fun c2 => fi_i ?_ mj_eq.rf, fun c2 => fi_i ?_ mj_eq.rf⟩
    · rw [if_neg (fun h => h.2 c2)]
    · rw [if_pos ⟨c, c2⟩]
  · refine fi_i ?_ mj_eq.rf
    rw [if_neg (fun h => c h.1)]
    rfl
theorem sp_villageIn {d i : Nat} (hd : 1 ≤ d) {A : lA} {M : mj_M} {z : Int} (hz : -2147483648 ≤ z ∧ z < 2147483648) (hA : LI A) : mj_Sp d 31 [mj_r (i, 0, 0), mj_i (iI z)] (mj_ld M i A) (some (mj_i (iI (vl (A 5 0) z (nV A))))) (mj_ld M i A) := by
  have h1 := hA.nv
  refine en_La_villageIn (k := 0) hd fun e he P hP hQ => rg_La_villageIn_0 hP ?_
  refine lp_dn (Q := fun k => (∀ u, u < k → A 5 0 u ≠ z) → P 2 [some (mj_r (i, 0, 0)), some (mj_i (iI z)), some (mj_i (iI (k : Int)))] [] (mj_ld M i A)) (n := nV A) (fun hu => ?_) (fun k hk ih hu => ?_) 0 (Nat.zero_le _) (fun u h => absurd h (Nat.not_lt_zero u))
  · refine rg_La_villageIn_2 hP ⟨fun c => fi_i ?_ mj_eq.rf, fun c => ?_⟩
    · rw [vl_no _ hu]
      rfl
    · simp (disch := omega) only [nl_0, nl_1, nl_2, nl_3, nl_4, nl_5, nl_6, nl_7, nl_8, nl_9, nl_10, nl_11, nl_12, nl_13, nl_14, nl_15, nl_16, nl_17, nl_18, nl_19, nl_20, nl_21, nl_22, nl_23, nl_24, nl_25, nl_26, nl_27, nl_28, nl_31, nl_32, nl_42, nl_44, nl_46, nl_48, nl_49, nl_50, nl_51, nl_60, nl_75, nl_76, nl_99, nl_100, nl_108, nl_114, nl_117, nl_126, nl_255, nl_999, nl_2401, nl_9999, nl_12345, nl_65536, nl_1000000, nl_1103515245, nl_2147483647, iI_0, iI_neg, iI_add, iI_sub, iI_mul, iI_div, iI_mod, iI_lt, iI_le, iI_eq, iI_nat, iI_vp, ld_rd, ld_wl, lu_s, lu_t, lu_c, lu_j, forall_eq, Int.toNat_natCast, true_and, and_true, not_true, not_false_iff, Classical.not_not, forall_const, iI_inj, h1.1] at c
      omega
  · have h5 := hA.hm (v := k) (by omega)
    refine rg_La_villageIn_2 hP ?_
    simp (disch := omega) only [nl_0, nl_1, nl_2, nl_3, nl_4, nl_5, nl_6, nl_7, nl_8, nl_9, nl_10, nl_11, nl_12, nl_13, nl_14, nl_15, nl_16, nl_17, nl_18, nl_19, nl_20, nl_21, nl_22, nl_23, nl_24, nl_25, nl_26, nl_27, nl_28, nl_31, nl_32, nl_42, nl_44, nl_46, nl_48, nl_49, nl_50, nl_51, nl_60, nl_75, nl_76, nl_99, nl_100, nl_108, nl_114, nl_117, nl_126, nl_255, nl_999, nl_2401, nl_9999, nl_12345, nl_65536, nl_1000000, nl_1103515245, nl_2147483647, iI_0, iI_neg, iI_add, iI_sub, iI_mul, iI_div, iI_mod, iI_lt, iI_le, iI_eq, iI_nat, iI_vp, ld_rd, ld_wl, lu_s, lu_t, lu_c, lu_j, forall_eq, Int.toNat_natCast, true_and, and_true, not_true, not_false_iff, Classical.not_not, forall_const, iI_inj, h1.1]
    refine ⟨fun c => by omega, fun c => ⟨fun c2 => ?_, fun c2 => fi_i ?_ mj_eq.rf⟩⟩
    · refine ih fun u hu2 => ?_
      by_cases g : u = k
      · exact g ▸ c2
      · exact hu u (by omega)
    · rw [vl_un c2 _ hk (fun u hu2 e => hA.ap hu2 hk (e.trans c2.symm))]
theorem sp_stringsOn {d i c : Nat} (hd : 2 ≤ d) {A : lA} {M : mj_M} (hi : i < 40) (hc : c < 6) : mj_Sp d 34 [mj_r (i, 0, 0), mj_i (iI (c : Int))] (mj_ld M i A) (some (mj_i (iI (sm (A 4 c) 4)))) (mj_ld M i A) := by
  refine en_La_stringsOn (k := 1) hd fun e he P hP hQ => rg_La_stringsOn_0 hP ?_
  simp (disch := omega) only [nl_0, nl_1, nl_2, nl_3, nl_4, nl_5, nl_6, nl_7, nl_8, nl_9, nl_10, nl_11, nl_12, nl_13, nl_14, nl_15, nl_16, nl_17, nl_18, nl_19, nl_20, nl_21, nl_22, nl_23, nl_24, nl_25, nl_26, nl_27, nl_28, nl_31, nl_32, nl_42, nl_44, nl_46, nl_48, nl_49, nl_50, nl_51, nl_60, nl_75, nl_76, nl_99, nl_100, nl_108, nl_114, nl_117, nl_126, nl_255, nl_999, nl_2401, nl_9999, nl_12345, nl_65536, nl_1000000, nl_1103515245, nl_2147483647, iI_0, iI_neg, iI_add, iI_sub, iI_mul, iI_div, iI_mod, iI_lt, iI_le, iI_eq, iI_nat, iI_vp, ld_rd, ld_wl, lu_s, lu_t, lu_c, lu_j, forall_eq, Int.toNat_natCast, true_and, and_true, not_true, not_false_iff, Classical.not_not, forall_const, iI_inj]
  refine ⟨_, _, sp_sum (n := 4) (g := A 4 c) (by omega) rfl rfl (by decide) (fun j hj => ?_), fi_i rfl mj_eq.rf⟩
  unfold mj_rd
  rw [mj_aloc_p (show 4 < 60 by decide)]
  exact ld_rd (show 4 < 10 by decide)
theorem sp_tiedBy {d i v : Nat} (hd : 1 ≤ d) {A : lA} {M : mj_M} (hA : LI A) (hv : v < 4) : mj_Sp d 35 [mj_r (i, 0, 0), mj_i (iI (v : Int))] (mj_ld M i A) (some (mj_i (iI (sm (fun c => A 4 c v) (nC A))))) (mj_ld M i A) := by
  have h1 := hA.nc
  refine en_La_tiedBy (k := 0) hd fun e he P hP hQ => rg_La_tiedBy_0 hP ?_
  refine lp_dn (Q := fun k => P 4 [some (mj_r (i, 0, 0)), some (mj_i (iI (v : Int))), some (mj_i (iI (sm (fun c => A 4 c v) k))), some (mj_i (iI (k : Int)))] [] (mj_ld M i A)) (n := nC A) ?_ (fun k hk ih => ?_) 0 (Nat.zero_le _)
  · refine rg_La_tiedBy_4 hP ⟨fun c => fi_i rfl mj_eq.rf, fun c => ?_⟩
    simp (disch := omega) only [nl_0, nl_1, nl_2, nl_3, nl_4, nl_5, nl_6, nl_7, nl_8, nl_9, nl_10, nl_11, nl_12, nl_13, nl_14, nl_15, nl_16, nl_17, nl_18, nl_19, nl_20, nl_21, nl_22, nl_23, nl_24, nl_25, nl_26, nl_27, nl_28, nl_31, nl_32, nl_42, nl_44, nl_46, nl_48, nl_49, nl_50, nl_51, nl_60, nl_75, nl_76, nl_99, nl_100, nl_108, nl_114, nl_117, nl_126, nl_255, nl_999, nl_2401, nl_9999, nl_12345, nl_65536, nl_1000000, nl_1103515245, nl_2147483647, iI_0, iI_neg, iI_add, iI_sub, iI_mul, iI_div, iI_mod, iI_lt, iI_le, iI_eq, iI_nat, iI_vp, ld_rd, ld_wl, lu_s, lu_t, lu_c, lu_j, forall_eq, Int.toNat_natCast, true_and, and_true, not_true, not_false_iff, Classical.not_not, forall_const, iI_inj, h1.1] at c
    omega
  · refine rg_La_tiedBy_4 hP ?_
    simp (disch := omega) only [nl_0, nl_1, nl_2, nl_3, nl_4, nl_5, nl_6, nl_7, nl_8, nl_9, nl_10, nl_11, nl_12, nl_13, nl_14, nl_15, nl_16, nl_17, nl_18, nl_19, nl_20, nl_21, nl_22, nl_23, nl_24, nl_25, nl_26, nl_27, nl_28, nl_31, nl_32, nl_42, nl_44, nl_46, nl_48, nl_49, nl_50, nl_51, nl_60, nl_75, nl_76, nl_99, nl_100, nl_108, nl_114, nl_117, nl_126, nl_255, nl_999, nl_2401, nl_9999, nl_12345, nl_65536, nl_1000000, nl_1103515245, nl_2147483647, iI_0, iI_neg, iI_add, iI_sub, iI_mul, iI_div, iI_mod, iI_lt, iI_le, iI_eq, iI_nat, iI_vp, ld_rd, ld_wl, lu_s, lu_t, lu_c, lu_j, forall_eq, Int.toNat_natCast, true_and, and_true, not_true, not_false_iff, Classical.not_not, forall_const, iI_inj, h1.1]
    exact ⟨fun c => by omega, fun c => ih⟩
theorem sp_pullerOf {d i c : Nat} (hd : 1 ≤ d) {A : lA} {M : mj_M} (hA : LI A) (hc : c < 6) : mj_Sp d 43 [mj_r (i, 0, 0), mj_i (iI (c : Int))] (mj_ld M i A) (some (mj_i (iI (pp (A 4 c) (nV A) : Int)))) (mj_ld M i A) := by
  have h1 := hA.nv
  have hp : ∀ k, A 4 c (pp (A 4 c) (k + 1)) = pm (A 4 c) (k + 1) := fun k => pp_at (fun j hj => (hA.st hc hj).1) (fun h => by omega)
  have e0 : pp (A 4 c) 1 = 0 := by have := pp_lt (s := A 4 c) 1; omega
  refine en_La_pullerOf (k := 0) hd fun e he P hP hQ => rg_La_pullerOf_0 hP ?_
  have key : ∀ m k : Nat, k + 1 + m = nV A ∨ (nV A = 0 ∧ m = 0 ∧ k = 0) → P 4 [some (mj_r (i, 0, 0)), some (mj_i (iI (c : Int))), some (mj_i (iI (pp (A 4 c) (k + 1) : Int))), some (mj_i (iI ((k + 1 : Nat) : Int)))] [] (mj_ld M i A) := by
    intro m
    induction m with
    | zero =>
      intro k hk
      refine rg_La_pullerOf_4 hP ⟨fun z => fi_i ?_ mj_eq.rf, fun z => ?_⟩
      · rcases hk with hk | hk
        · rw [← hk]
        · rw [hk.1, hk.2.2, e0]
          rfl
      · simp (disch := omega) only [nl_0, nl_1, nl_2, nl_3, nl_4, nl_5, nl_6, nl_7, nl_8, nl_9, nl_10, nl_11, nl_12, nl_13, nl_14, nl_15, nl_16, nl_17, nl_18, nl_19, nl_20, nl_21, nl_22, nl_23, nl_24, nl_25, nl_26, nl_27, nl_28, nl_31, nl_32, nl_42, nl_44, nl_46, nl_48, nl_49, nl_50, nl_51, nl_60, nl_75, nl_76, nl_99, nl_100, nl_108, nl_114, nl_117, nl_126, nl_255, nl_999, nl_2401, nl_9999, nl_12345, nl_65536, nl_1000000, nl_1103515245, nl_2147483647, iI_0, iI_neg, iI_add, iI_sub, iI_mul, iI_div, iI_mod, iI_lt, iI_le, iI_eq, iI_nat, iI_vp, ld_rd, ld_wl, lu_s, lu_t, lu_c, lu_j, forall_eq, Int.toNat_natCast, true_and, and_true, not_true, not_false_iff, Classical.not_not, forall_const, iI_inj, h1.1] at z
        omega
    | succ m ih =>
      intro k hk
      have hk1 : k + 1 < nV A := by omega
      have hpl := pp_lt (s := A 4 c) (k + 1)
      have hs := hA.st (c := c) (v := k + 1) hc (by omega)
      have hs2 := hA.st (c := c) (v := pp (A 4 c) (k + 1)) hc (by omega)
      have e2 : pp (A 4 c) (k + 1 + 1) = if pm (A 4 c) (k + 1) < A 4 c (k + 1) then k + 1 else pp (A 4 c) (k + 1) := rfl
      rw [← hp k] at e2
      refine rg_La_pullerOf_4 hP ?_
      simp (disch := omega) only [nl_0, nl_1, nl_2, nl_3, nl_4, nl_5, nl_6, nl_7, nl_8, nl_9, nl_10, nl_11, nl_12, nl_13, nl_14, nl_15, nl_16, nl_17, nl_18, nl_19, nl_20, nl_21, nl_22, nl_23, nl_24, nl_25, nl_26, nl_27, nl_28, nl_31, nl_32, nl_42, nl_44, nl_46, nl_48, nl_49, nl_50, nl_51, nl_60, nl_75, nl_76, nl_99, nl_100, nl_108, nl_114, nl_117, nl_126, nl_255, nl_999, nl_2401, nl_9999, nl_12345, nl_65536, nl_1000000, nl_1103515245, nl_2147483647, iI_0, iI_neg, iI_add, iI_sub, iI_mul, iI_div, iI_mod, iI_lt, iI_le, iI_eq, iI_nat, iI_vp, ld_rd, ld_wl, lu_s, lu_t, lu_c, lu_j, forall_eq, Int.toNat_natCast, true_and, and_true, not_true, not_false_iff, Classical.not_not, forall_const, iI_inj, h1.1]
      refine ⟨fun z => by omega, fun z => ⟨fun z2 => ?_, fun z2 => ?_⟩⟩
      · have := ih (k + 1) (by omega)
        rw [e2, if_neg (by omega)] at this
        exact this
      · have := ih (k + 1) (by omega)
        rw [e2, if_pos (by omega)] at this
        exact this
  by_cases h0 : nV A = 0
  · have := key 0 0 (Or.inr ⟨h0, rfl, rfl⟩)
    rw [e0] at this
    exact this
  · have := key (nV A - 1) 0 (Or.inl (by omega))
    rw [e0] at this
    exact this
/-- what is lost up to a village -/
def lsk (A : lA) (c k : Nat) : lA := fun t i j => if t = 6 ∧ i = 0 ∧ j < k then A 6 0 j - A 4 c j else if t = 4 ∧ i = c ∧ j < k then 0 else A t i j
theorem lsk_0 {A : lA} {c : Nat} : lsk A c 0 = A := by
  funext t i j
  unfold lsk
  rw [if_neg (by omega), if_neg (by omega)]
theorem lsk_s {A : lA} {c k : Nat} : lu (lu (lsk A c k) 6 0 k (A 6 0 k - A 4 c k)) 4 c k 0 = lsk A c (k + 1) := by
  funext t i j
  unfold lu lsk
  by_cases h1 : t = 4 ∧ i = c ∧ j = k
  · rw [if_pos h1, if_neg (by omega), if_pos (by omega)]
  · rw [if_neg h1]
    by_cases h2 : t = 6 ∧ i = 0 ∧ j = k
    · rw [if_pos h2, if_pos (by omega), h2.2.2]
    · rw [if_neg h2]
      by_cases h3 : t = 6 ∧ i = 0 ∧ j < k
      · rw [if_pos h3, if_pos (by omega)]
      · rw [if_neg h3]
        by_cases h4 : t = 4 ∧ i = c ∧ j < k
        · rw [if_pos h4, if_neg (by omega), if_pos (by omega)]
        · rw [if_neg h4, if_neg (by omega), if_neg (by omega)]
theorem sp_loseStrings {d i c : Nat} (hd : 1 ≤ d) {A : lA} {M : mj_M} (hA : 0 ≤ A 0 0 1 ∧ A 0 0 1 ≤ 4) (hc : c < 6) : mj_Sp d 44 [mj_r (i, 0, 0), mj_i (iI (c : Int))] (mj_ld M i A) none (mj_ld M i (ls A c)) := by
  have h1 : A 0 0 1 = (nV A : Int) ∧ nV A ≤ 4 := by unfold nV; omega
  refine en_La_loseStrings (k := 0) hd fun e he P hP hQ => rg_La_loseStrings_0 hP ?_
  have e0 : mj_ld M i A = mj_ld M i (lsk A c 0) := by rw [lsk_0]
  rw [e0]
  have r1 : ∀ k, lsk A c k 0 0 1 = (nV A : Int) := fun k => h1.1
  have r2 : ∀ k, lsk A c k 6 0 k = A 6 0 k := fun k => by
    unfold lsk
    rw [if_neg (by omega), if_neg (by omega)]
  have r3 : ∀ k, lsk A c k 4 c k = A 4 c k := fun k => by
    unfold lsk
    rw [if_neg (by omega), if_neg (by omega)]
  refine lp_dn (Q := fun k => P 2 [some (mj_r (i, 0, 0)), some (mj_i (iI (c : Int))), some (mj_i (iI (k : Int)))] [] (mj_ld M i (lsk A c k))) (n := nV A) ?_ (fun k hk ih => ?_) 0 (Nat.zero_le _)
  · refine rg_La_loseStrings_2 hP ⟨fun z => fi_n mj_eq.rf, fun z => ?_⟩
    simp (disch := omega) only [nl_0, nl_1, nl_2, nl_3, nl_4, nl_5, nl_6, nl_7, nl_8, nl_9, nl_10, nl_11, nl_12, nl_13, nl_14, nl_15, nl_16, nl_17, nl_18, nl_19, nl_20, nl_21, nl_22, nl_23, nl_24, nl_25, nl_26, nl_27, nl_28, nl_31, nl_32, nl_42, nl_44, nl_46, nl_48, nl_49, nl_50, nl_51, nl_60, nl_75, nl_76, nl_99, nl_100, nl_108, nl_114, nl_117, nl_126, nl_255, nl_999, nl_2401, nl_9999, nl_12345, nl_65536, nl_1000000, nl_1103515245, nl_2147483647, iI_0, iI_neg, iI_add, iI_sub, iI_mul, iI_div, iI_mod, iI_lt, iI_le, iI_eq, iI_nat, iI_vp, ld_rd, ld_wl, lu_s, lu_t, lu_c, lu_j, forall_eq, Int.toNat_natCast, true_and, and_true, not_true, not_false_iff, Classical.not_not, forall_const, iI_inj, r1] at z
    omega
  · refine rg_La_loseStrings_2 hP ?_
    simp (disch := omega) only [nl_0, nl_1, nl_2, nl_3, nl_4, nl_5, nl_6, nl_7, nl_8, nl_9, nl_10, nl_11, nl_12, nl_13, nl_14, nl_15, nl_16, nl_17, nl_18, nl_19, nl_20, nl_21, nl_22, nl_23, nl_24, nl_25, nl_26, nl_27, nl_28, nl_31, nl_32, nl_42, nl_44, nl_46, nl_48, nl_49, nl_50, nl_51, nl_60, nl_75, nl_76, nl_99, nl_100, nl_108, nl_114, nl_117, nl_126, nl_255, nl_999, nl_2401, nl_9999, nl_12345, nl_65536, nl_1000000, nl_1103515245, nl_2147483647, iI_0, iI_neg, iI_add, iI_sub, iI_mul, iI_div, iI_mod, iI_lt, iI_le, iI_eq, iI_nat, iI_vp, ld_rd, ld_wl, lu_s, lu_t, lu_c, lu_j, forall_eq, Int.toNat_natCast, true_and, and_true, not_true, not_false_iff, Classical.not_not, forall_const, iI_inj, r1, r2, r3, lsk_s]
    exact ⟨fun z => by omega, fun z => ih⟩
theorem sp_towards {d : Nat} (hd : 2 ≤ d) {M : mj_M} {f h : Int} (hf : 0 ≤ f ∧ f ≤ 24) (hh : 0 ≤ h ∧ h ≤ 24) : mj_Sp d 45 [mj_i (iI f), mj_i (iI h)] M (some (mj_i (iI (tw f h)))) M := by
  refine en_La_towards (k := 0) (by omega) fun e he P hP hQ => rg_La_towards_0 hP ⟨by decide, by decide, fun x2 e2 => ⟨by decide, by decide, fun x3 e3 => ?_⟩⟩
  subst e2
  subst e3
  unfold tw
  simp (disch := omega) only [nl_0, nl_1, nl_2, nl_3, nl_4, nl_5, nl_6, nl_7, nl_8, nl_9, nl_10, nl_11, nl_12, nl_13, nl_14, nl_15, nl_16, nl_17, nl_18, nl_19, nl_20, nl_21, nl_22, nl_23, nl_24, nl_25, nl_26, nl_27, nl_28, nl_31, nl_32, nl_42, nl_44, nl_46, nl_48, nl_49, nl_50, nl_51, nl_60, nl_75, nl_76, nl_99, nl_100, nl_108, nl_114, nl_117, nl_126, nl_255, nl_999, nl_2401, nl_9999, nl_12345, nl_65536, nl_1000000, nl_1103515245, nl_2147483647, iI_0, iI_neg, iI_add, iI_sub, iI_mul, iI_div, iI_mod, iI_lt, iI_le, iI_eq, iI_nat, iI_vp, ld_rd, ld_wl, lu_s, lu_t, lu_c, lu_j, forall_eq, Int.toNat_natCast, true_and, and_true, not_true, not_false_iff, Classical.not_not, forall_const, iI_inj]
  refine ⟨fun c => ⟨fun c2 => ?_, fun c2 => ⟨fun c3 => ?_, fun c3 => ?_⟩⟩, fun c => ⟨fun c2 => ?_, fun c2 => ?_⟩⟩
  all_goals exact fi_i (congrArg iI (by omega)) mj_eq.rf
theorem sp_besides {d : Nat} (hd : 1 ≤ d) {M : mj_M} {f s : Int} (hf : 0 ≤ f ∧ f ≤ 24) (hs : 0 ≤ s ∧ s ≤ 3) : mj_Sp d 46 [mj_i (iI f), mj_i (iI s)] M (some (mj_i (iI (bs f s)))) M := by
  refine en_La_besides (k := 0) hd fun e he P hP hQ => rg_La_besides_0 hP ?_
  unfold bs
  simp (disch := omega) only [nl_0, nl_1, nl_2, nl_3, nl_4, nl_5, nl_6, nl_7, nl_8, nl_9, nl_10, nl_11, nl_12, nl_13, nl_14, nl_15, nl_16, nl_17, nl_18, nl_19, nl_20, nl_21, nl_22, nl_23, nl_24, nl_25, nl_26, nl_27, nl_28, nl_31, nl_32, nl_42, nl_44, nl_46, nl_48, nl_49, nl_50, nl_51, nl_60, nl_75, nl_76, nl_99, nl_100, nl_108, nl_114, nl_117, nl_126, nl_255, nl_999, nl_2401, nl_9999, nl_12345, nl_65536, nl_1000000, nl_1103515245, nl_2147483647, iI_0, iI_neg, iI_add, iI_sub, iI_mul, iI_div, iI_mod, iI_lt, iI_le, iI_eq, iI_nat, iI_vp, ld_rd, ld_wl, lu_s, lu_t, lu_c, lu_j, forall_eq, Int.toNat_natCast, true_and, and_true, not_true, not_false_iff, Classical.not_not, forall_const, iI_inj]
  refine ⟨by decide, by decide, ?_⟩
  repeat' (first | refine ⟨fun c => ?_, fun c => ?_⟩ | fail)
  all_goals exact fi_i (congrArg iI (by omega)) mj_eq.rf
