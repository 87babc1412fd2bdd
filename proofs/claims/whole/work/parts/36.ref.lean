/-! the reference's row of numbers -/
theorem ll_0 : lN 0 = lI 0 := rfl
theorem ll_1 : lN 1 = lI 1 := rfl
theorem ll_2 : lN 2 = lI 2 := rfl
theorem ll_3 : lN 3 = lI 3 := rfl
theorem ll_4 : lN 4 = lI 4 := rfl
theorem ll_5 : lN 5 = lI 5 := rfl
theorem ll_8 : lN 8 = lI 8 := rfl
theorem ll_9 : lN 9 = lI 9 := rfl
theorem ll_12 : lN 12 = lI 12 := rfl
theorem ll_24 : lN 24 = lI 24 := rfl
theorem ll_60 : lN 60 = lI 60 := rfl
theorem ll_99 : lN 99 = lI 99 := rfl
theorem ll_999 : lN 999 = lI 999 := rfl
theorem ll_32 : lN 32 = lI 32 := rfl
theorem ll_126 : lN 126 = lI 126 := rfl
theorem lI_neg (a : Int) : -lI a = lI (-a) := (Int64.ofInt_neg _).symm
theorem bo01 {C : Prop} [Decidable C] : iI (if C then 0 else 1) = 0 ∨ iI (if C then 0 else 1) = 1 := by
  split
  · exact Or.inl rfl
  · exact Or.inr rfl
theorem bo10 {C : Prop} [Decidable C] : iI (if C then 1 else 0) = 0 ∨ iI (if C then 1 else 0) = 1 := by
  split
  · exact Or.inr rfl
  · exact Or.inl rfl
theorem nl_lt (j : Nat) : (mj_nloc j).1 < 10 := by
  unfold mj_nloc
  repeat' split
  all_goals first | exact (show 0 < 10 by decide) | exact (show 1 < 10 by decide) | exact (show 2 < 10 by decide) | exact (show 3 < 10 by decide) | exact (show 4 < 10 by decide) | exact (show 6 < 10 by decide) | exact (show 8 < 10 by decide) | exact (show 9 < 10 by decide)
theorem nd {M : mj_M} {p j : Nat} {A : lA} : mj_rd (mj_ld M p A) (p, 61, 0) j = iI (A (mj_nloc j).1 (mj_nloc j).2.1 (mj_nloc j).2.2) := ld_rd (nl_lt j)
theorem nw {M : mj_M} {p j : Nat} {A : lA} {v : Int} : mj_wr (mj_ld M p A) (p, 61, 0) j (iI v) = mj_ld M p (lu A (mj_nloc j).1 (mj_nloc j).2.1 (mj_nloc j).2.2 v) := ld_wl (nl_lt j)
theorem nlf {z : Int} (h1 : 0 ≤ z) (h2 : z < 6) : mj_nloc (0 + z).toNat = (2, 0, z.toNat) := by
  unfold mj_nloc
  rw [if_pos (by omega)]
  congr 2
  omega
theorem nlw {z : Int} (h1 : 0 ≤ z) (h2 : z < 6) : mj_nloc (6 + z).toNat = (3, 0, z.toNat) := by
  unfold mj_nloc
  rw [if_neg (by omega), if_pos (by omega)]
  congr 2
  omega
theorem nlk {z : Int} (h1 : 0 ≤ z) (h2 : z < 6) : mj_nloc (12 + z).toNat = (1, 0, z.toNat) := by
  unfold mj_nloc
  rw [if_neg (by omega), if_neg (by omega), if_pos (by omega)]
  congr 2
  omega
theorem nlh {v z : Int} (h1 : 0 ≤ z) (h2 : z < 6) (h3 : 0 ≤ v) (h4 : v < 4) : mj_nloc (18 + 6 * v + z).toNat = (4, z.toNat, v.toNat) := by
  unfold mj_nloc
  rw [if_neg (by omega), if_neg (by omega), if_neg (by omega), if_pos (by omega)]
  congr 2
  · omega
  · omega
theorem nlH {z : Int} (h1 : 0 ≤ z) (h2 : z < 4) : mj_nloc (42 + z).toNat = (6, 0, z.toNat) := by
  unfold mj_nloc
  rw [if_neg (by omega), if_neg (by omega), if_neg (by omega), if_neg (by omega), if_pos (by omega)]
  congr 2
  omega
theorem nlW {z : Int} (h1 : 0 ≤ z) (h2 : z < 4) : mj_nloc (46 + z).toNat = (8, 0, z.toNat) := by
  unfold mj_nloc
  rw [if_neg (by omega), if_neg (by omega), if_neg (by omega), if_neg (by omega), if_neg (by omega), if_pos (by omega)]
  congr 2
  omega
theorem nlF {z : Int} (h1 : 0 ≤ z) (h2 : z < 25) : mj_nloc (50 + z).toNat = (9, 0, z.toNat) := by
  unfold mj_nloc
  rw [if_neg (by omega), if_neg (by omega), if_neg (by omega), if_neg (by omega), if_neg (by omega), if_neg (by omega), if_pos (by omega)]
  congr 2
  omega
theorem nlT : mj_nloc (75 : Int).toNat = (0, 0, 2) := by decide
/-! contracts: the reference's hour -/
theorem sp_mCloud {d : Nat} (hd : 2 ≤ d) {A : lA} {M : mj_M} {z : Int} (hz : -2147483648 ≤ z ∧ z < 2147483648) (hA : LI A) : mj_Sp d 87 [mj_r (30, 60, 0), mj_i (iI z)] (mj_ld M 14 A) (some (mj_i (iI (if 0 ≤ z ∧ z < A 0 0 0 then 1 else 0)))) (mj_ld M 14 A) := by
  have h1 := hA.1
  have h2 := hA.2.1
  refine en_m_isCloud (k := 1) hd fun e he P hP hQ => rg_m_isCloud_0 hP ?_
  simp (disch := omega) only [nl_0, nl_1, nl_2, nl_3, nl_4, nl_5, nl_6, nl_7, nl_8, nl_9, nl_10, nl_11, nl_12, nl_13, nl_14, nl_15, nl_16, nl_17, nl_18, nl_19, nl_20, nl_21, nl_22, nl_23, nl_24, nl_25, nl_26, nl_27, nl_28, nl_31, nl_32, nl_42, nl_44, nl_46, nl_48, nl_49, nl_50, nl_51, nl_60, nl_75, nl_76, nl_99, nl_100, nl_108, nl_114, nl_117, nl_126, nl_255, nl_999, nl_2401, nl_9999, nl_12345, nl_65536, nl_1000000, nl_1103515245, nl_2147483647, iI_0, iI_neg, iI_add, iI_sub, iI_mul, iI_div, iI_mod, iI_lt, iI_le, iI_eq, iI_nat, iI_vp, ld_rd, ld_wl, lu_s, lu_t, lu_c, lu_j, forall_eq, Int.toNat_natCast, true_and, and_true, not_true, not_false_iff, Classical.not_not, forall_const, iI_inj, lI_iI, ll_0]
  refine ⟨_, _, sp_min (by omega) (by omega) (by omega) (by omega), bo01, fi_i (congrArg iI ?_) mj_eq.rf⟩
  omega
theorem sp_mVillage {d : Nat} (hd : 2 ≤ d) {A : lA} {M : mj_M} {z : Int} (hz : -2147483648 ≤ z ∧ z < 2147483648) (hA : LI A) : mj_Sp d 88 [mj_r (30, 60, 0), mj_i (iI z)] (mj_ld M 14 A) (some (mj_i (iI (if 0 ≤ z ∧ z < A 0 0 1 then 1 else 0)))) (mj_ld M 14 A) := by
  have h1 := hA.2.2.1
  have h2 := hA.2.2.2.1
  refine en_m_isVillage (k := 1) hd fun e he P hP hQ => rg_m_isVillage_0 hP ?_
  simp (disch := omega) only [nl_0, nl_1, nl_2, nl_3, nl_4, nl_5, nl_6, nl_7, nl_8, nl_9, nl_10, nl_11, nl_12, nl_13, nl_14, nl_15, nl_16, nl_17, nl_18, nl_19, nl_20, nl_21, nl_22, nl_23, nl_24, nl_25, nl_26, nl_27, nl_28, nl_31, nl_32, nl_42, nl_44, nl_46, nl_48, nl_49, nl_50, nl_51, nl_60, nl_75, nl_76, nl_99, nl_100, nl_108, nl_114, nl_117, nl_126, nl_255, nl_999, nl_2401, nl_9999, nl_12345, nl_65536, nl_1000000, nl_1103515245, nl_2147483647, iI_0, iI_neg, iI_add, iI_sub, iI_mul, iI_div, iI_mod, iI_lt, iI_le, iI_eq, iI_nat, iI_vp, ld_rd, ld_wl, lu_s, lu_t, lu_c, lu_j, forall_eq, Int.toNat_natCast, true_and, and_true, not_true, not_false_iff, Classical.not_not, forall_const, iI_inj, lI_iI, ll_0]
  refine ⟨_, _, sp_min (by omega) (by omega) (by omega) (by omega), bo01, fi_i (congrArg iI ?_) mj_eq.rf⟩
  omega
theorem sp_mOver {d : Nat} (hd : 1 ≤ d) {A : lA} {M : mj_M} {z : Int} (hz : 0 ≤ z ∧ z < 6) (hA : LI A) : mj_Sp d 89 [mj_r (30, 60, 0), mj_i (iI z)] (mj_ld M 14 A) (some (mj_i (iI (if A 2 0 z.toNat ≠ 25 then 1 else 0)))) (mj_ld M 14 A) := by
  have hf := hA.fd (c := z.toNat) (by omega)
  refine en_m_isOver (k := 0) hd fun e he P hP hQ => rg_m_isOver_0 hP ?_
  simp (disch := omega) only [nl_0, nl_1, nl_2, nl_3, nl_4, nl_5, nl_6, nl_7, nl_8, nl_9, nl_10, nl_11, nl_12, nl_13, nl_14, nl_15, nl_16, nl_17, nl_18, nl_19, nl_20, nl_21, nl_22, nl_23, nl_24, nl_25, nl_26, nl_27, nl_28, nl_31, nl_32, nl_42, nl_44, nl_46, nl_48, nl_49, nl_50, nl_51, nl_60, nl_75, nl_76, nl_99, nl_100, nl_108, nl_114, nl_117, nl_126, nl_255, nl_999, nl_2401, nl_9999, nl_12345, nl_65536, nl_1000000, nl_1103515245, nl_2147483647, iI_0, iI_neg, iI_add, iI_sub, iI_mul, iI_div, iI_mod, iI_lt, iI_le, iI_eq, iI_nat, iI_vp, ld_rd, ld_wl, lu_s, lu_t, lu_c, lu_j, forall_eq, Int.toNat_natCast, true_and, and_true, not_true, not_false_iff, Classical.not_not, forall_const, iI_inj, nd, nlf]
  refine ⟨fun c => fi_i (congrArg iI (by omega)) mj_eq.rf, fun c => fi_i (congrArg iI (by omega)) mj_eq.rf⟩
theorem sp_mVin {d : Nat} (hd : 1 ≤ d) {A : lA} {M : mj_M} {z : Int} (hz : -2147483648 ≤ z ∧ z < 2147483648) (hA : LI A) : mj_Sp d 93 [mj_r (30, 60, 0), mj_i (iI z)] (mj_ld M 14 A) (some (mj_i (iI (vl (A 5 0) z (nV A))))) (mj_ld M 14 A) := by
  have h1 := hA.nv
  refine en_m_villageIn (k := 0) hd fun e he P hP hQ => rg_m_villageIn_0 hP ?_
  refine lp_dn (Q := fun k => P 4 [some (mj_r (30, 60, 0)), some (mj_i (iI z)), some (mj_i (iI (vl (A 5 0) z k))), some (mj_i (iI (k : Int)))] [] (mj_ld M 14 A)) (n := nV A) ?_ (fun k hk ih => ?_) 0 (Nat.zero_le _)
  · refine rg_m_villageIn_4 hP ⟨fun c => fi_i rfl mj_eq.rf, fun c => ?_⟩
    simp (disch := omega) only [nl_0, nl_1, nl_2, nl_3, nl_4, nl_5, nl_6, nl_7, nl_8, nl_9, nl_10, nl_11, nl_12, nl_13, nl_14, nl_15, nl_16, nl_17, nl_18, nl_19, nl_20, nl_21, nl_22, nl_23, nl_24, nl_25, nl_26, nl_27, nl_28, nl_31, nl_32, nl_42, nl_44, nl_46, nl_48, nl_49, nl_50, nl_51, nl_60, nl_75, nl_76, nl_99, nl_100, nl_108, nl_114, nl_117, nl_126, nl_255, nl_999, nl_2401, nl_9999, nl_12345, nl_65536, nl_1000000, nl_1103515245, nl_2147483647, iI_0, iI_neg, iI_add, iI_sub, iI_mul, iI_div, iI_mod, iI_lt, iI_le, iI_eq, iI_nat, iI_vp, ld_rd, ld_wl, lu_s, lu_t, lu_c, lu_j, forall_eq, Int.toNat_natCast, true_and, and_true, not_true, not_false_iff, Classical.not_not, forall_const, iI_inj, h1.1] at c
    omega
  · have h5 := hA.hm (v := k) (by omega)
    have e1 : vl (A 5 0) z (k + 1) = if A 5 0 k = z then (k : Int) else vl (A 5 0) z k := rfl
    rw [e1] at ih
    refine rg_m_villageIn_4 hP ?_
    simp (disch := omega) only [nl_0, nl_1, nl_2, nl_3, nl_4, nl_5, nl_6, nl_7, nl_8, nl_9, nl_10, nl_11, nl_12, nl_13, nl_14, nl_15, nl_16, nl_17, nl_18, nl_19, nl_20, nl_21, nl_22, nl_23, nl_24, nl_25, nl_26, nl_27, nl_28, nl_31, nl_32, nl_42, nl_44, nl_46, nl_48, nl_49, nl_50, nl_51, nl_60, nl_75, nl_76, nl_99, nl_100, nl_108, nl_114, nl_117, nl_126, nl_255, nl_999, nl_2401, nl_9999, nl_12345, nl_65536, nl_1000000, nl_1103515245, nl_2147483647, iI_0, iI_neg, iI_add, iI_sub, iI_mul, iI_div, iI_mod, iI_lt, iI_le, iI_eq, iI_nat, iI_vp, ld_rd, ld_wl, lu_s, lu_t, lu_c, lu_j, forall_eq, Int.toNat_natCast, true_and, and_true, not_true, not_false_iff, Classical.not_not, forall_const, iI_inj, h1.1]
    refine ⟨fun c => by omega, fun c => ⟨fun c2 => ?_, fun c2 => ?_⟩⟩
    · rw [if_neg c2] at ih
      exact ih
    · rw [if_pos c2] at ih
      exact ih
theorem sp_mStrings {d c : Nat} (hd : 1 ≤ d) {A : lA} {M : mj_M} (hA : LI A) (hc : c < 6) : mj_Sp d 94 [mj_r (30, 60, 0), mj_i (iI (c : Int))] (mj_ld M 14 A) (some (mj_i (iI (sm (A 4 c) 4)))) (mj_ld M 14 A) := by
  have h1 := hA.nv
  rw [sm_0 (s := A 4 c) (n := nV A) 4 h1.2 (fun j hj1 hj2 => hA.s0 hc hj2 hj1)]
  refine en_m_strings (k := 0) hd fun e he P hP hQ => rg_m_strings_0 hP ?_
  refine lp_dn (Q := fun k => P 4 [some (mj_r (30, 60, 0)), some (mj_i (iI (c : Int))), some (mj_i (iI (sm (A 4 c) k))), some (mj_i (iI (k : Int)))] [] (mj_ld M 14 A)) (n := nV A) ?_ (fun k hk ih => ?_) 0 (Nat.zero_le _)
  · refine rg_m_strings_4 hP ⟨fun c => fi_i rfl mj_eq.rf, fun c => ?_⟩
    simp (disch := omega) only [nl_0, nl_1, nl_2, nl_3, nl_4, nl_5, nl_6, nl_7, nl_8, nl_9, nl_10, nl_11, nl_12, nl_13, nl_14, nl_15, nl_16, nl_17, nl_18, nl_19, nl_20, nl_21, nl_22, nl_23, nl_24, nl_25, nl_26, nl_27, nl_28, nl_31, nl_32, nl_42, nl_44, nl_46, nl_48, nl_49, nl_50, nl_51, nl_60, nl_75, nl_76, nl_99, nl_100, nl_108, nl_114, nl_117, nl_126, nl_255, nl_999, nl_2401, nl_9999, nl_12345, nl_65536, nl_1000000, nl_1103515245, nl_2147483647, iI_0, iI_neg, iI_add, iI_sub, iI_mul, iI_div, iI_mod, iI_lt, iI_le, iI_eq, iI_nat, iI_vp, ld_rd, ld_wl, lu_s, lu_t, lu_c, lu_j, forall_eq, Int.toNat_natCast, true_and, and_true, not_true, not_false_iff, Classical.not_not, forall_const, iI_inj, h1.1] at c
    omega
  · refine rg_m_strings_4 hP ?_
    simp (disch := omega) only [nl_0, nl_1, nl_2, nl_3, nl_4, nl_5, nl_6, nl_7, nl_8, nl_9, nl_10, nl_11, nl_12, nl_13, nl_14, nl_15, nl_16, nl_17, nl_18, nl_19, nl_20, nl_21, nl_22, nl_23, nl_24, nl_25, nl_26, nl_27, nl_28, nl_31, nl_32, nl_42, nl_44, nl_46, nl_48, nl_49, nl_50, nl_51, nl_60, nl_75, nl_76, nl_99, nl_100, nl_108, nl_114, nl_117, nl_126, nl_255, nl_999, nl_2401, nl_9999, nl_12345, nl_65536, nl_1000000, nl_1103515245, nl_2147483647, iI_0, iI_neg, iI_add, iI_sub, iI_mul, iI_div, iI_mod, iI_lt, iI_le, iI_eq, iI_nat, iI_vp, ld_rd, ld_wl, lu_s, lu_t, lu_c, lu_j, forall_eq, Int.toNat_natCast, true_and, and_true, not_true, not_false_iff, Classical.not_not, forall_const, iI_inj, h1.1, nd, nlh]
    exact ⟨fun c => by omega, fun c => ih⟩
/-- a cloud is let go, up to a village -/
def lg (A : lA) (c k : Nat) : lA := fun t i j => if t = 4 ∧ i = c ∧ j < k then 0 else A t i j
theorem lg_0 {A : lA} {c : Nat} : lg A c 0 = A := by
  funext t i j
  exact if_neg (by omega)
theorem lg_s {A : lA} {c k : Nat} : lu (lg A c k) 4 c k 0 = lg A c (k + 1) := by
  funext t i j
  unfold lu lg
  by_cases h1 : t = 4 ∧ i = c ∧ j = k
  · rw [if_pos h1, if_pos (by omega)]
  · rw [if_neg h1]
    by_cases h4 : t = 4 ∧ i = c ∧ j < k
    · rw [if_pos h4, if_pos (by omega)]
    · rw [if_neg h4, if_neg (by omega)]
theorem sp_letGo {d c : Nat} (hd : 1 ≤ d) {A : lA} {M : mj_M} (hc : c < 6) : mj_Sp d 101 [mj_r (30, 60, 0), mj_i (iI (c : Int))] (mj_ld M 14 A) none (mj_ld M 14 (lg A c 4)) := by
  refine en_m_letGo (k := 0) hd fun e he P hP hQ => rg_m_letGo_0 hP ?_
  have e0 : mj_ld M 14 A = mj_ld M 14 (lg A c 0) := by rw [lg_0]
  rw [e0]
  refine lp_dn (Q := fun k => P 2 [some (mj_r (30, 60, 0)), some (mj_i (iI (c : Int))), some (mj_i (iI (k : Int)))] [] (mj_ld M 14 (lg A c k))) (n := 4) ?_ (fun k hk ih => ?_) 0 (Nat.zero_le _)
  · refine rg_m_letGo_2 hP ⟨fun c => by (first | exact mj_eq.rf | exact fi_n mj_eq.rf | exact fi_i rfl mj_eq.rf | exact rfl), fun c => ?_⟩
    simp (disch := omega) only [nl_0, nl_1, nl_2, nl_3, nl_4, nl_5, nl_6, nl_7, nl_8, nl_9, nl_10, nl_11, nl_12, nl_13, nl_14, nl_15, nl_16, nl_17, nl_18, nl_19, nl_20, nl_21, nl_22, nl_23, nl_24, nl_25, nl_26, nl_27, nl_28, nl_31, nl_32, nl_42, nl_44, nl_46, nl_48, nl_49, nl_50, nl_51, nl_60, nl_75, nl_76, nl_99, nl_100, nl_108, nl_114, nl_117, nl_126, nl_255, nl_999, nl_2401, nl_9999, nl_12345, nl_65536, nl_1000000, nl_1103515245, nl_2147483647, iI_0, iI_neg, iI_add, iI_sub, iI_mul, iI_div, iI_mod, iI_lt, iI_le, iI_eq, iI_nat, iI_vp, ld_rd, ld_wl, lu_s, lu_t, lu_c, lu_j, forall_eq, Int.toNat_natCast, true_and, and_true, not_true, not_false_iff, Classical.not_not, forall_const, iI_inj] at c
    omega
  · refine rg_m_letGo_2 hP ?_
    simp (disch := omega) only [nl_0, nl_1, nl_2, nl_3, nl_4, nl_5, nl_6, nl_7, nl_8, nl_9, nl_10, nl_11, nl_12, nl_13, nl_14, nl_15, nl_16, nl_17, nl_18, nl_19, nl_20, nl_21, nl_22, nl_23, nl_24, nl_25, nl_26, nl_27, nl_28, nl_31, nl_32, nl_42, nl_44, nl_46, nl_48, nl_49, nl_50, nl_51, nl_60, nl_75, nl_76, nl_99, nl_100, nl_108, nl_114, nl_117, nl_126, nl_255, nl_999, nl_2401, nl_9999, nl_12345, nl_65536, nl_1000000, nl_1103515245, nl_2147483647, iI_0, iI_neg, iI_add, iI_sub, iI_mul, iI_div, iI_mod, iI_lt, iI_le, iI_eq, iI_nat, iI_vp, ld_rd, ld_wl, lu_s, lu_t, lu_c, lu_j, forall_eq, Int.toNat_natCast, true_and, and_true, not_true, not_false_iff, Classical.not_not, forall_const, iI_inj, nw, nlh, lg_s]
    exact ⟨fun c => by omega, fun c => ih⟩
theorem sp_mrains {d : Nat} (hd : 1 ≤ d) {M : mj_M} {z : Int} (hz : 0 ≤ z ∧ z ≤ 3) : mj_Sp d 113 [mj_i (iI z)] M (some (mj_i (iI (rk z)))) M := by
  refine en_m_rains (k := 0) hd fun e he P hP hQ => rg_m_rains_0 hP ?_
  unfold rk
  simp (disch := omega) only [nl_0, nl_1, nl_2, nl_3, nl_4, nl_5, nl_6, nl_7, nl_8, nl_9, nl_10, nl_11, nl_12, nl_13, nl_14, nl_15, nl_16, nl_17, nl_18, nl_19, nl_20, nl_21, nl_22, nl_23, nl_24, nl_25, nl_26, nl_27, nl_28, nl_31, nl_32, nl_42, nl_44, nl_46, nl_48, nl_49, nl_50, nl_51, nl_60, nl_75, nl_76, nl_99, nl_100, nl_108, nl_114, nl_117, nl_126, nl_255, nl_999, nl_2401, nl_9999, nl_12345, nl_65536, nl_1000000, nl_1103515245, nl_2147483647, iI_0, iI_neg, iI_add, iI_sub, iI_mul, iI_div, iI_mod, iI_lt, iI_le, iI_eq, iI_nat, iI_vp, ld_rd, ld_wl, lu_s, lu_t, lu_c, lu_j, forall_eq, Int.toNat_natCast, true_and, and_true, not_true, not_false_iff, Classical.not_not, forall_const, iI_inj]
  refine ⟨fun c => ⟨fun c2 => ?_, fun c2 => ?_⟩, fun c => ?_⟩
  all_goals exact fi_i (congrArg iI (by omega)) mj_eq.rf
theorem sp_mtowards {d : Nat} (hd : 1 ≤ d) {M : mj_M} {f h : Int} (hf : 0 ≤ f ∧ f ≤ 24) (hh : 0 ≤ h ∧ h ≤ 24) : mj_Sp d 115 [mj_i (iI f), mj_i (iI h)] M (some (mj_i (iI (tw f h)))) M := by
  refine en_m_towards (k := 0) hd fun e he P hP hQ => rg_m_towards_0 hP ?_
  unfold tw
  simp (disch := omega) only [nl_0, nl_1, nl_2, nl_3, nl_4, nl_5, nl_6, nl_7, nl_8, nl_9, nl_10, nl_11, nl_12, nl_13, nl_14, nl_15, nl_16, nl_17, nl_18, nl_19, nl_20, nl_21, nl_22, nl_23, nl_24, nl_25, nl_26, nl_27, nl_28, nl_31, nl_32, nl_42, nl_44, nl_46, nl_48, nl_49, nl_50, nl_51, nl_60, nl_75, nl_76, nl_99, nl_100, nl_108, nl_114, nl_117, nl_126, nl_255, nl_999, nl_2401, nl_9999, nl_12345, nl_65536, nl_1000000, nl_1103515245, nl_2147483647, iI_0, iI_neg, iI_add, iI_sub, iI_mul, iI_div, iI_mod, iI_lt, iI_le, iI_eq, iI_nat, iI_vp, ld_rd, ld_wl, lu_s, lu_t, lu_c, lu_j, forall_eq, Int.toNat_natCast, true_and, and_true, not_true, not_false_iff, Classical.not_not, forall_const, iI_inj]
  refine ⟨by decide, by decide, fun c => ⟨fun c2 => ⟨fun c3 => ?_, fun c3 => ?_⟩, fun c2 => ?_⟩, fun c => ⟨by decide, by decide, fun c2 => ?_, fun c2 => ?_⟩⟩
  all_goals exact fi_i (congrArg iI (by omega)) mj_eq.rf
theorem sp_mnext {d : Nat} (hd : 2 ≤ d) {M : mj_M} {f s : Int} (hf : 0 ≤ f ∧ f ≤ 24) (hs : 0 ≤ s ∧ s ≤ 3) : mj_Sp d 114 [mj_i (iI f), mj_i (iI s)] M (some (mj_i (iI (bs f s)))) M := by
  have fin : ∀ {a b : Int} {K : Int}, (¬ (a < 0 ∨ 4 < a) → ¬ (b < 0 ∨ 4 < b) → K = bs f s) → ((a < 0 ∨ 4 < a) ∨ (b < 0 ∨ 4 < b) → 25 = bs f s) → -100 ≤ a ∧ a ≤ 100 → -100 ≤ b ∧ b ≤ 100 → ∀ {e : Nat}, 1 ≤ e → ∃ (y_4 : Int32) (M_3 : mj_M), mj_Sp e 86 [mj_l (lI a), mj_l (lI 0), mj_l (lI 4)] M (some (mj_i y_4)) M_3 ∧ (y_4 = iI 0 → (some (mj_i (iI 25)) = some (mj_i (iI (bs f s))) ∧ mj_eq M_3 M)) ∧ (¬ y_4 = iI 0 → ∃ (y_6 : Int32) (M_5 : mj_M), mj_Sp e 86 [mj_l (lI b), mj_l (lI 0), mj_l (lI 4)] M_3 (some (mj_i y_6)) M_5 ∧ (y_6 = iI 0 → (some (mj_i (iI 25)) = some (mj_i (iI (bs f s))) ∧ mj_eq M_5 M)) ∧ (¬ y_6 = iI 0 → (some (mj_i (iI K)) = some (mj_i (iI (bs f s))) ∧ mj_eq M_5 M))) := by
    intro a b K h1 h2 ha hb e he
    have e1 : ∀ {C : Prop} [Decidable C], (iI (if C then 0 else 1) = iI 0) = C := by
      intro C _
      by_cases h : C
      · rw [if_pos h]; exact propext ⟨fun _ => h, fun _ => rfl⟩
      · rw [if_neg h]; exact propext ⟨fun z => absurd z (by decide), fun z => absurd z h⟩
    refine ⟨_, _, sp_min he (by omega) (by omega) (by omega), fun z => ?_, fun z => ⟨_, _, sp_min he (by omega) (by omega) (by omega), fun z2 => ?_, fun z2 => ?_⟩⟩
    · rw [e1] at z
      exact ⟨by rw [h2 (Or.inl z)], mj_eq.rf⟩
    · rw [e1] at z2
      exact ⟨by rw [h2 (Or.inr z2)], mj_eq.rf⟩
    · rw [e1] at z z2
      exact ⟨by rw [h1 z z2], mj_eq.rf⟩
  refine en_m_next (k := 1) hd fun e he P hP hQ => rg_m_next_0 hP ?_
  simp (disch := omega) only [nl_0, nl_1, nl_2, nl_3, nl_4, nl_5, nl_6, nl_7, nl_8, nl_9, nl_10, nl_11, nl_12, nl_13, nl_14, nl_15, nl_16, nl_17, nl_18, nl_19, nl_20, nl_21, nl_22, nl_23, nl_24, nl_25, nl_26, nl_27, nl_28, nl_31, nl_32, nl_42, nl_44, nl_46, nl_48, nl_49, nl_50, nl_51, nl_60, nl_75, nl_76, nl_99, nl_100, nl_108, nl_114, nl_117, nl_126, nl_255, nl_999, nl_2401, nl_9999, nl_12345, nl_65536, nl_1000000, nl_1103515245, nl_2147483647, iI_0, iI_neg, iI_add, iI_sub, iI_mul, iI_div, iI_mod, iI_lt, iI_le, iI_eq, iI_nat, iI_vp, ld_rd, ld_wl, lu_s, lu_t, lu_c, lu_j, forall_eq, Int.toNat_natCast, true_and, and_true, not_true, not_false_iff, Classical.not_not, forall_const, iI_inj, lI_iI, ll_0, ll_4]
  refine ⟨by decide, ?_⟩
  have hb := bs_r (f := f) (s := s) hf.1 hf.2
  have u : (s = 0 ∧ ((f < 5 ∧ bs f s = 25) ∨ (5 ≤ f ∧ bs f s = f - 5))) ∨ (s = 1 ∧ ((f % 5 = 0 ∧ bs f s = 25) ∨ (f % 5 ≠ 0 ∧ bs f s = f - 1))) ∨ (s = 2 ∧ ((f % 5 = 4 ∧ bs f s = 25) ∨ (f % 5 ≠ 4 ∧ bs f s = f + 1))) ∨ (s = 3 ∧ ((20 ≤ f ∧ bs f s = 25) ∨ (f < 20 ∧ bs f s = f + 5))) := by
    unfold bs
    repeat' split
    all_goals omega
  generalize bs f s = r at fin u hb
  repeat' (first | refine ⟨(by decide : ¬ (5 : Int) = 0), ?_⟩ | refine ⟨fun c => ?_, fun c => ?_⟩ | fail)
  all_goals (refine fin (fun z1 z2 => ?_) (fun z1 => ?_) (by omega) (by omega) he)
  all_goals omega
