/-! contracts: calls about clouds and villages -/
theorem bo1 {C : Prop} [Decidable C] {S : Int32 → mj_M → Prop} {A B : mj_M → Prop} {N : mj_M} (h : S (iI (if C then 1 else 0)) N) (a : C → A N) (b : ¬ C → B N) : ∃ (y : Int32) (M1 : mj_M), S y M1 ∧ (¬ y = iI 0 → A M1) ∧ (y = iI 0 → B M1) :=
  ⟨_, _, h, fun z => a (by rw [← iI_0, iI_b] at z; exact Classical.not_not.mp z), fun z => b (by rw [← iI_0, iI_b] at z; exact z)⟩
theorem bo2 {C : Prop} [Decidable C] {S : Int32 → mj_M → Prop} {A B : mj_M → Prop} {N : mj_M} (h : S (iI (if C then 1 else 0)) N) (a : C → A N) (b : ¬ C → B N) : ∃ (y : Int32) (M1 : mj_M), S y M1 ∧ (y = iI 0 → B M1) ∧ (¬ y = iI 0 → A M1) :=
  ⟨_, _, h, fun z => b (by rw [← iI_0, iI_b] at z; exact z), fun z => a (by rw [← iI_0, iI_b] at z; exact Classical.not_not.mp z)⟩
theorem sp_oI {d : Nat} (hd : 1 ≤ d) {M : mj_M} {z a b : Int} (hz : -2147483648 ≤ z ∧ z < 2147483648) (ha : -2147483648 ≤ a ∧ a < 2147483648) (hb : -2147483648 ≤ b ∧ b < 2147483648) : mj_Sp d 21 [mj_i (iI z), mj_i (iI a), mj_i (iI b)] M (some (mj_i (iI (if z < a ∨ b < z then 1 else 0)))) M := by
  have h := sp_out hd (x := iI z) (a := iI a) (b := iI b) (M := M)
  simp only [iI_toInt hz.1 hz.2, iI_toInt ha.1 ha.2, iI_toInt hb.1 hb.2] at h
  exact h
def iR (z : Int) : Prop := -2147483648 ≤ z ∧ z < 2147483648
theorem fl_ld {M : mj_M} {i c : Nat} {A : lA} : mj_fl (mj_ld M i A) i 4 c 4 (iI 0) = mj_ld M i (lg A c 4) := by
  funext i' t c' j
  unfold mj_fl mj_ld lg
  by_cases h : i' = i ∧ t = 4 ∧ c' = c ∧ j < 4
  · rw [if_pos h, if_pos ⟨h.1, by omega⟩, if_pos h.2]
  · rw [if_neg h]
    by_cases h2 : i' = i ∧ t < 10
    · rw [if_pos h2, if_pos h2, if_neg (fun z => h ⟨h2.1, z⟩)]
    · rw [if_neg h2, if_neg h2]
theorem sp_fill4 {d i c : Nat} (hd : 1 ≤ d) {M : mj_M} {A : lA} : mj_Sp d 61 [mj_r (i, 4, c), mj_i (iI 0)] (mj_ld M i A) none (mj_ld M i (lg A c 4)) := by
  have h := sp_fill hd (i := i) (t := 4) (c := c) (n := 4) (M := mj_ld M i A) (v := iI 0) (by decide) rfl rfl (by decide)
  rw [fl_ld] at h
  exact h
theorem sp_addCloud {d i : Nat} (hd : 2 ≤ d) {A : lA} {M : mj_M} {k f w : Int} (hA : LI A) (hn : nC A < 6) : mj_Sp d 32 [mj_r (i, 0, 0), mj_i (iI k), mj_i (iI f), mj_i (iI w)] (mj_ld M i A) (some (mj_i (iI (A 0 0 0)))) (mj_ld M i (ac A k f w)) := by
  have h1 := hA.nc
  refine en_La_addCloud (k := 1) hd fun e he P hP hQ => rg_La_addCloud_0 hP ?_
  simp (disch := omega) only [nl_0, nl_1, nl_2, nl_3, nl_4, nl_5, nl_6, nl_7, nl_8, nl_9, nl_10, nl_11, nl_12, nl_13, nl_14, nl_15, nl_16, nl_17, nl_18, nl_19, nl_20, nl_21, nl_22, nl_23, nl_24, nl_25, nl_26, nl_27, nl_28, nl_31, nl_32, nl_42, nl_44, nl_46, nl_48, nl_49, nl_50, nl_51, nl_60, nl_75, nl_76, nl_99, nl_100, nl_108, nl_114, nl_117, nl_126, nl_255, nl_999, nl_2401, nl_9999, nl_12345, nl_65536, nl_1000000, nl_1103515245, nl_2147483647, iI_0, iI_neg, iI_add, iI_sub, iI_mul, iI_div, iI_mod, iI_lt, iI_le, iI_eq, iI_nat, iI_vp, ld_rd, ld_wl, lu_s, lu_t, lu_c, lu_j, forall_eq, Int.toNat_natCast, true_and, and_true, not_true, not_false_iff, Classical.not_not, forall_const, iI_inj, h1.1]
  refine ⟨_, sp_fill4 (by omega), ?_⟩
  have e0 : lg (lu (lu (lu A 1 0 (nC A) k) 2 0 (nC A) f) 3 0 (nC A) w) (nC A) 4 0 0 0 = A 0 0 0 := by
    rw [lg_t (by decide), lu_t (by decide), lu_t (by decide), lu_t (by decide)]
  simp (disch := omega) only [nl_0, nl_1, nl_2, nl_3, nl_4, nl_5, nl_6, nl_7, nl_8, nl_9, nl_10, nl_11, nl_12, nl_13, nl_14, nl_15, nl_16, nl_17, nl_18, nl_19, nl_20, nl_21, nl_22, nl_23, nl_24, nl_25, nl_26, nl_27, nl_28, nl_31, nl_32, nl_42, nl_44, nl_46, nl_48, nl_49, nl_50, nl_51, nl_60, nl_75, nl_76, nl_99, nl_100, nl_108, nl_114, nl_117, nl_126, nl_255, nl_999, nl_2401, nl_9999, nl_12345, nl_65536, nl_1000000, nl_1103515245, nl_2147483647, iI_0, iI_neg, iI_add, iI_sub, iI_mul, iI_div, iI_mod, iI_lt, iI_le, iI_eq, iI_nat, iI_vp, ld_rd, ld_wl, lu_s, lu_t, lu_c, lu_j, forall_eq, Int.toNat_natCast, true_and, and_true, not_true, not_false_iff, Classical.not_not, forall_const, iI_inj, e0]
  (first | exact mj_eq.rf | exact fi_n mj_eq.rf | exact fi_i rfl mj_eq.rf | exact rfl)
def s_cloud (A : lA) (k f w : Int) : Int × lA := if k < 0 ∨ 3 < k ∨ f < 0 ∨ 24 < f ∨ w < 1 ∨ 999 < w then (-1, A) else if 6 ≤ A 0 0 0 then (-3, A) else (A 0 0 0, ac A k f w)
theorem c_cloud {d : Nat} (hd : 3 ≤ d) {A : lA} {M : mj_M} {k f w : Int} (hk : iR k) (hf : iR f) (hw : iR w) (hA : LI A) : mj_Sp d 0 [mj_r (13, 50, 0), mj_i (iI k), mj_i (iI f), mj_i (iI w)] (mj_ld M 0 A) (some (mj_i (iI (s_cloud A k f w).1))) (mj_ld M 0 (s_cloud A k f w).2) := by
  unfold iR at hk hf hw
  have h1 := hA.nc
  refine en_C_cloud (k := 2) hd fun e he P hP hQ => rg_C_cloud_0 hP ?_
  simp (disch := omega) only [nl_0, nl_1, nl_2, nl_3, nl_4, nl_5, nl_6, nl_7, nl_8, nl_9, nl_10, nl_11, nl_12, nl_13, nl_14, nl_15, nl_16, nl_17, nl_18, nl_19, nl_20, nl_21, nl_22, nl_23, nl_24, nl_25, nl_26, nl_27, nl_28, nl_31, nl_32, nl_42, nl_44, nl_46, nl_48, nl_49, nl_50, nl_51, nl_60, nl_75, nl_76, nl_99, nl_100, nl_108, nl_114, nl_117, nl_126, nl_255, nl_999, nl_2401, nl_9999, nl_12345, nl_65536, nl_1000000, nl_1103515245, nl_2147483647, iI_0, iI_neg, iI_add, iI_sub, iI_mul, iI_div, iI_mod, iI_lt, iI_le, iI_eq, iI_nat, iI_vp, ld_rd, ld_wl, lu_s, lu_t, lu_c, lu_j, forall_eq, Int.toNat_natCast, true_and, and_true, not_true, not_false_iff, Classical.not_not, forall_const, iI_inj]
  refine bo1 (sp_oI (by omega) (by omega) (by omega) (by omega)) (fun c => ?_) (fun c => bo1 (sp_oI (by omega) (by omega) (by omega) (by omega)) (fun c2 => ?_) (fun c2 => bo2 (sp_oI (by omega) (by omega) (by omega) (by omega)) (fun c3 => ?_) (fun c3 => ?_)))
  · (unfold s_cloud; (repeat' split) <;> first | (first | exact mj_eq.rf | exact fi_n mj_eq.rf | exact fi_i rfl mj_eq.rf | exact rfl) | (exfalso; omega))
  · (unfold s_cloud; (repeat' split) <;> first | (first | exact mj_eq.rf | exact fi_n mj_eq.rf | exact fi_i rfl mj_eq.rf | exact rfl) | (exfalso; omega))
  · (unfold s_cloud; (repeat' split) <;> first | (first | exact mj_eq.rf | exact fi_n mj_eq.rf | exact fi_i rfl mj_eq.rf | exact rfl) | (exfalso; omega))
  · simp (disch := omega) only [nl_0, nl_1, nl_2, nl_3, nl_4, nl_5, nl_6, nl_7, nl_8, nl_9, nl_10, nl_11, nl_12, nl_13, nl_14, nl_15, nl_16, nl_17, nl_18, nl_19, nl_20, nl_21, nl_22, nl_23, nl_24, nl_25, nl_26, nl_27, nl_28, nl_31, nl_32, nl_42, nl_44, nl_46, nl_48, nl_49, nl_50, nl_51, nl_60, nl_75, nl_76, nl_99, nl_100, nl_108, nl_114, nl_117, nl_126, nl_255, nl_999, nl_2401, nl_9999, nl_12345, nl_65536, nl_1000000, nl_1103515245, nl_2147483647, iI_0, iI_neg, iI_add, iI_sub, iI_mul, iI_div, iI_mod, iI_lt, iI_le, iI_eq, iI_nat, iI_vp, ld_rd, ld_wl, lu_s, lu_t, lu_c, lu_j, forall_eq, Int.toNat_natCast, true_and, and_true, not_true, not_false_iff, Classical.not_not, forall_const, iI_inj]
    refine ⟨fun c4 => ⟨_, _, sp_addCloud (by omega) hA (by omega), ?_⟩, fun c4 => ?_⟩
    · (unfold s_cloud; (repeat' split) <;> first | (first | exact mj_eq.rf | exact fi_n mj_eq.rf | exact fi_i rfl mj_eq.rf | exact rfl) | (exfalso; omega))
    · (unfold s_cloud; (repeat' split) <;> first | (first | exact mj_eq.rf | exact fi_n mj_eq.rf | exact fi_i rfl mj_eq.rf | exact rfl) | (exfalso; omega))
theorem k_cloud {A : lA} (hA : LJ A) {k f w : Int} : LJ (s_cloud A k f w).2 := by
  have h1 := hA.li.nc
  unfold s_cloud
  split
  · exact hA
  · split
    · exact hA
    · exact ac_LJ hA (by omega) (by omega) (by omega) (by omega)
/-! village -/
theorem lu_cm {A : lA} {t c j t' c' j' : Nat} {v v' : Int} (h : t ≠ t') : lu (lu A t c j v) t' c' j' v' = lu (lu A t' c' j' v') t c j v := by
  funext x y z
  unfold lu
  by_cases h1 : x = t ∧ y = c ∧ z = j
  · rw [if_pos h1, if_neg (by omega), if_pos h1]
  · rw [if_neg h1, if_neg h1]
theorem sp_addVillage {d i : Nat} (hd : 1 ≤ d) {A : lA} {M : mj_M} {f s t : Int} (hA : LI A) (hn : nV A < 4) : mj_Sp d 33 [mj_r (i, 0, 0), mj_i (iI f), mj_i (iI s), mj_i (iI t)] (mj_ld M i A) (some (mj_i (iI (A 0 0 1)))) (mj_ld M i (av A f s t)) := by
  have h1 := hA.nv
  refine en_La_addVillage (k := 0) hd fun e he P hP hQ => rg_La_addVillage_0 hP ?_
  simp (disch := omega) only [nl_0, nl_1, nl_2, nl_3, nl_4, nl_5, nl_6, nl_7, nl_8, nl_9, nl_10, nl_11, nl_12, nl_13, nl_14, nl_15, nl_16, nl_17, nl_18, nl_19, nl_20, nl_21, nl_22, nl_23, nl_24, nl_25, nl_26, nl_27, nl_28, nl_31, nl_32, nl_42, nl_44, nl_46, nl_48, nl_49, nl_50, nl_51, nl_60, nl_75, nl_76, nl_99, nl_100, nl_108, nl_114, nl_117, nl_126, nl_255, nl_999, nl_2401, nl_9999, nl_12345, nl_65536, nl_1000000, nl_1103515245, nl_2147483647, iI_0, iI_neg, iI_add, iI_sub, iI_mul, iI_div, iI_mod, iI_lt, iI_le, iI_eq, iI_nat, iI_vp, ld_rd, ld_wl, lu_s, lu_t, lu_c, lu_j, forall_eq, Int.toNat_natCast, true_and, and_true, not_true, not_false_iff, Classical.not_not, forall_const, iI_inj, h1.1]
  refine mj_eq.of ?_
  unfold av
  rw [h1.1]
def s_village (A : lA) (f s t : Int) : Int × lA := if f < 0 ∨ 24 < f ∨ s < 0 ∨ 9 < s ∨ t < 0 ∨ 99 < t then (-1, A) else if 0 ≤ vl (A 5 0) f (nV A) then (-2, A) else if 4 ≤ A 0 0 1 then (-3, A) else (A 0 0 1, av A f s t)
theorem c_village {d : Nat} (hd : 3 ≤ d) {A : lA} {M : mj_M} {f s t : Int} (hf : iR f) (hs : iR s) (ht : iR t) (hA : LI A) : mj_Sp d 1 [mj_r (13, 50, 0), mj_i (iI f), mj_i (iI s), mj_i (iI t)] (mj_ld M 0 A) (some (mj_i (iI (s_village A f s t).1))) (mj_ld M 0 (s_village A f s t).2) := by
  unfold iR at hf hs ht
  have h1 := hA.nv
  have hv := vl_lt (h := A 5 0) (f := f) (nV A)
  refine en_C_village (k := 2) hd fun e he P hP hQ => rg_C_village_0 hP ?_
  simp (disch := omega) only [nl_0, nl_1, nl_2, nl_3, nl_4, nl_5, nl_6, nl_7, nl_8, nl_9, nl_10, nl_11, nl_12, nl_13, nl_14, nl_15, nl_16, nl_17, nl_18, nl_19, nl_20, nl_21, nl_22, nl_23, nl_24, nl_25, nl_26, nl_27, nl_28, nl_31, nl_32, nl_42, nl_44, nl_46, nl_48, nl_49, nl_50, nl_51, nl_60, nl_75, nl_76, nl_99, nl_100, nl_108, nl_114, nl_117, nl_126, nl_255, nl_999, nl_2401, nl_9999, nl_12345, nl_65536, nl_1000000, nl_1103515245, nl_2147483647, iI_0, iI_neg, iI_add, iI_sub, iI_mul, iI_div, iI_mod, iI_lt, iI_le, iI_eq, iI_nat, iI_vp, ld_rd, ld_wl, lu_s, lu_t, lu_c, lu_j, forall_eq, Int.toNat_natCast, true_and, and_true, not_true, not_false_iff, Classical.not_not, forall_const, iI_inj]
  refine bo1 (sp_oI (by omega) (by omega) (by omega) (by omega)) (fun c => ?_) (fun c => bo1 (sp_oI (by omega) (by omega) (by omega) (by omega)) (fun c2 => ?_) (fun c2 => bo2 (sp_oI (by omega) (by omega) (by omega) (by omega)) (fun c3 => ?_) (fun c3 => ⟨_, _, sp_villageIn (by omega) (by omega) hA, ?_⟩)))
  · (unfold s_village; (repeat' split) <;> first | (first | exact mj_eq.rf | exact fi_n mj_eq.rf | exact fi_i rfl mj_eq.rf | exact rfl) | (exfalso; omega))
  · (unfold s_village; (repeat' split) <;> first | (first | exact mj_eq.rf | exact fi_n mj_eq.rf | exact fi_i rfl mj_eq.rf | exact rfl) | (exfalso; omega))
  · (unfold s_village; (repeat' split) <;> first | (first | exact mj_eq.rf | exact fi_n mj_eq.rf | exact fi_i rfl mj_eq.rf | exact rfl) | (exfalso; omega))
  · simp (disch := omega) only [nl_0, nl_1, nl_2, nl_3, nl_4, nl_5, nl_6, nl_7, nl_8, nl_9, nl_10, nl_11, nl_12, nl_13, nl_14, nl_15, nl_16, nl_17, nl_18, nl_19, nl_20, nl_21, nl_22, nl_23, nl_24, nl_25, nl_26, nl_27, nl_28, nl_31, nl_32, nl_42, nl_44, nl_46, nl_48, nl_49, nl_50, nl_51, nl_60, nl_75, nl_76, nl_99, nl_100, nl_108, nl_114, nl_117, nl_126, nl_255, nl_999, nl_2401, nl_9999, nl_12345, nl_65536, nl_1000000, nl_1103515245, nl_2147483647, iI_0, iI_neg, iI_add, iI_sub, iI_mul, iI_div, iI_mod, iI_lt, iI_le, iI_eq, iI_nat, iI_vp, ld_rd, ld_wl, lu_s, lu_t, lu_c, lu_j, forall_eq, Int.toNat_natCast, true_and, and_true, not_true, not_false_iff, Classical.not_not, forall_const, iI_inj]
    refine ⟨fun c4 => ⟨fun c5 => ⟨_, _, sp_addVillage (by omega) hA (by omega), ?_⟩, fun c5 => ?_⟩, fun c4 => ?_⟩
    · (unfold s_village; (repeat' split) <;> first | (first | exact mj_eq.rf | exact fi_n mj_eq.rf | exact fi_i rfl mj_eq.rf | exact rfl) | (exfalso; omega))
    · (unfold s_village; (repeat' split) <;> first | (first | exact mj_eq.rf | exact fi_n mj_eq.rf | exact fi_i rfl mj_eq.rf | exact rfl) | (exfalso; omega))
    · (unfold s_village; (repeat' split) <;> first | (first | exact mj_eq.rf | exact fi_n mj_eq.rf | exact fi_i rfl mj_eq.rf | exact rfl) | (exfalso; omega))
theorem k_village {A : lA} (hA : LJ A) {f s t : Int} : LJ (s_village A f s t).2 := by
  have h1 := hA.li.nv
  unfold s_village
  split
  · exact hA
  · split
    · exact hA
    · split
      · exact hA
      · exact av_LJ hA (by omega) (by omega) (by omega) (by omega) (by omega)
