/-! contracts: told, of, set, hold, holds -/
theorem sp_tied {d i v : Nat} (hd : 1 ≤ d) {A : lA} {M : mj_M} (hA : LJ A) (hv : v < 4) : mj_Sp d 35 [mj_r (i, 0, 0), mj_i (iI (v : Int))] (mj_ld M i A) (some (mj_i (iI (td A v)))) (mj_ld M i A) := by
  rw [← td_nC hA hv]
  exact sp_tiedBy hd hA.li hv
theorem nat_of {z : Int} (h : 0 ≤ z) : z = (z.toNat : Int) := (Int.toNat_of_nonneg h).symm
def s_told (A : lA) (c w : Int) : Int × lA := if ¬ (0 ≤ c ∧ c < A 0 0 0) then (-1, A) else if w = 0 then (A 1 0 c.toNat, A) else if w = 1 then (A 2 0 c.toNat, A) else if w = 2 then (A 3 0 c.toNat, A) else if w = 3 then (sm (A 4 c.toNat) 4, A) else (-1, A)
theorem c_told {d : Nat} (hd : 3 ≤ d) {A : lA} {M : mj_M} {c w : Int} (hc : iR c) (hw : iR w) (hA : LI A) : mj_Sp d 2 [mj_r (13, 50, 0), mj_i (iI c), mj_i (iI w)] (mj_ld M 0 A) (some (mj_i (iI (s_told A c w).1))) (mj_ld M 0 (s_told A c w).2) := by
  unfold iR at hc hw
  have h1 := hA.nc
  refine en_C_told (k := 2) hd fun e he P hP hQ => rg_C_told_0 hP ?_
  simp (disch := omega) only [nl_0, nl_1, nl_2, nl_3, nl_4, nl_5, nl_6, nl_7, nl_8, nl_9, nl_10, nl_11, nl_12, nl_13, nl_14, nl_15, nl_16, nl_17, nl_18, nl_19, nl_20, nl_21, nl_22, nl_23, nl_24, nl_25, nl_26, nl_27, nl_28, nl_31, nl_32, nl_42, nl_44, nl_46, nl_48, nl_49, nl_50, nl_51, nl_60, nl_75, nl_76, nl_99, nl_100, nl_108, nl_114, nl_117, nl_126, nl_255, nl_999, nl_2401, nl_9999, nl_12345, nl_65536, nl_1000000, nl_1103515245, nl_2147483647, iI_0, iI_neg, iI_add, iI_sub, iI_mul, iI_div, iI_mod, iI_lt, iI_le, iI_eq, iI_nat, iI_vp, ld_rd, ld_wl, lu_s, lu_t, lu_c, lu_j, forall_eq, Int.toNat_natCast, true_and, and_true, not_true, not_false_iff, Classical.not_not, forall_const, iI_inj]
  refine bo1 (sp_isCloud (by omega) hc hA) (fun c1 => ?_) (fun c1 => ?_)
  · simp (disch := omega) only [nl_0, nl_1, nl_2, nl_3, nl_4, nl_5, nl_6, nl_7, nl_8, nl_9, nl_10, nl_11, nl_12, nl_13, nl_14, nl_15, nl_16, nl_17, nl_18, nl_19, nl_20, nl_21, nl_22, nl_23, nl_24, nl_25, nl_26, nl_27, nl_28, nl_31, nl_32, nl_42, nl_44, nl_46, nl_48, nl_49, nl_50, nl_51, nl_60, nl_75, nl_76, nl_99, nl_100, nl_108, nl_114, nl_117, nl_126, nl_255, nl_999, nl_2401, nl_9999, nl_12345, nl_65536, nl_1000000, nl_1103515245, nl_2147483647, iI_0, iI_neg, iI_add, iI_sub, iI_mul, iI_div, iI_mod, iI_lt, iI_le, iI_eq, iI_nat, iI_vp, ld_rd, ld_wl, lu_s, lu_t, lu_c, lu_j, forall_eq, Int.toNat_natCast, true_and, and_true, not_true, not_false_iff, Classical.not_not, forall_const, iI_inj]
    refine ⟨fun w1 => ?_, fun w1 => ⟨fun w2 => ?_, fun w2 => ⟨fun w3 => ?_, fun w3 => ⟨fun w4 => ?_, fun w4 => ?_⟩⟩⟩⟩
    · (unfold s_told; (repeat' split) <;> first | (first | exact mj_eq.rf | exact fi_n mj_eq.rf | exact fi_i rfl mj_eq.rf | exact rfl) | (exfalso; omega))
    · (unfold s_told; (repeat' split) <;> first | (first | exact mj_eq.rf | exact fi_n mj_eq.rf | exact fi_i rfl mj_eq.rf | exact rfl) | (exfalso; omega))
    · (unfold s_told; (repeat' split) <;> first | (first | exact mj_eq.rf | exact fi_n mj_eq.rf | exact fi_i rfl mj_eq.rf | exact rfl) | (exfalso; omega))
    · rw [nat_of c1.1]
      refine ⟨_, _, sp_stringsOn (by omega) (by omega) (by omega), ?_⟩
      rw [← nat_of c1.1]
      (unfold s_told; (repeat' split) <;> first | (first | exact mj_eq.rf | exact fi_n mj_eq.rf | exact fi_i rfl mj_eq.rf | exact rfl) | (exfalso; omega))
    · (unfold s_told; (repeat' split) <;> first | (first | exact mj_eq.rf | exact fi_n mj_eq.rf | exact fi_i rfl mj_eq.rf | exact rfl) | (exfalso; omega))
  · (unfold s_told; (repeat' split) <;> first | (first | exact mj_eq.rf | exact fi_n mj_eq.rf | exact fi_i rfl mj_eq.rf | exact rfl) | (exfalso; omega))
def s_of (A : lA) (v w : Int) : Int × lA := if ¬ (0 ≤ v ∧ v < A 0 0 1) then (-1, A) else if w = 0 then (A 5 0 v.toNat, A) else if w = 1 then (A 6 0 v.toNat, A) else if w = 2 then (A 7 0 v.toNat, A) else if w = 3 then (A 8 0 v.toNat, A) else if w = 4 then (A 6 0 v.toNat - td A v.toNat, A) else (-1, A)
theorem c_of {d : Nat} (hd : 3 ≤ d) {A : lA} {M : mj_M} {v w : Int} (hv : iR v) (hw : iR w) (hA : LJ A) : mj_Sp d 3 [mj_r (13, 50, 0), mj_i (iI v), mj_i (iI w)] (mj_ld M 0 A) (some (mj_i (iI (s_of A v w).1))) (mj_ld M 0 (s_of A v w).2) := by
  unfold iR at hv hw
  have h1 := hA.li.nv
  refine en_C_of (k := 2) hd fun e he P hP hQ => rg_C_of_0 hP ?_
  simp (disch := omega) only [nl_0, nl_1, nl_2, nl_3, nl_4, nl_5, nl_6, nl_7, nl_8, nl_9, nl_10, nl_11, nl_12, nl_13, nl_14, nl_15, nl_16, nl_17, nl_18, nl_19, nl_20, nl_21, nl_22, nl_23, nl_24, nl_25, nl_26, nl_27, nl_28, nl_31, nl_32, nl_42, nl_44, nl_46, nl_48, nl_49, nl_50, nl_51, nl_60, nl_75, nl_76, nl_99, nl_100, nl_108, nl_114, nl_117, nl_126, nl_255, nl_999, nl_2401, nl_9999, nl_12345, nl_65536, nl_1000000, nl_1103515245, nl_2147483647, iI_0, iI_neg, iI_add, iI_sub, iI_mul, iI_div, iI_mod, iI_lt, iI_le, iI_eq, iI_nat, iI_vp, ld_rd, ld_wl, lu_s, lu_t, lu_c, lu_j, forall_eq, Int.toNat_natCast, true_and, and_true, not_true, not_false_iff, Classical.not_not, forall_const, iI_inj]
  refine bo1 (sp_isVillage (by omega) hv hA.li) (fun c1 => ?_) (fun c1 => ?_)
  · simp (disch := omega) only [nl_0, nl_1, nl_2, nl_3, nl_4, nl_5, nl_6, nl_7, nl_8, nl_9, nl_10, nl_11, nl_12, nl_13, nl_14, nl_15, nl_16, nl_17, nl_18, nl_19, nl_20, nl_21, nl_22, nl_23, nl_24, nl_25, nl_26, nl_27, nl_28, nl_31, nl_32, nl_42, nl_44, nl_46, nl_48, nl_49, nl_50, nl_51, nl_60, nl_75, nl_76, nl_99, nl_100, nl_108, nl_114, nl_117, nl_126, nl_255, nl_999, nl_2401, nl_9999, nl_12345, nl_65536, nl_1000000, nl_1103515245, nl_2147483647, iI_0, iI_neg, iI_add, iI_sub, iI_mul, iI_div, iI_mod, iI_lt, iI_le, iI_eq, iI_nat, iI_vp, ld_rd, ld_wl, lu_s, lu_t, lu_c, lu_j, forall_eq, Int.toNat_natCast, true_and, and_true, not_true, not_false_iff, Classical.not_not, forall_const, iI_inj]
    refine ⟨fun w1 => ?_, fun w1 => ⟨fun w2 => ?_, fun w2 => ⟨fun w3 => ?_, fun w3 => ⟨fun w4 => ?_, fun w4 => ⟨fun w5 => ?_, fun w5 => ?_⟩⟩⟩⟩⟩
    · (unfold s_of; (repeat' split) <;> first | (first | exact mj_eq.rf | exact fi_n mj_eq.rf | exact fi_i rfl mj_eq.rf | exact rfl) | (exfalso; omega))
    · (unfold s_of; (repeat' split) <;> first | (first | exact mj_eq.rf | exact fi_n mj_eq.rf | exact fi_i rfl mj_eq.rf | exact rfl) | (exfalso; omega))
    · (unfold s_of; (repeat' split) <;> first | (first | exact mj_eq.rf | exact fi_n mj_eq.rf | exact fi_i rfl mj_eq.rf | exact rfl) | (exfalso; omega))
    · (unfold s_of; (repeat' split) <;> first | (first | exact mj_eq.rf | exact fi_n mj_eq.rf | exact fi_i rfl mj_eq.rf | exact rfl) | (exfalso; omega))
    · rw [nat_of c1.1]
      refine ⟨_, _, sp_tied (by omega) hA (by omega), ?_⟩
      simp (disch := omega) only [nl_0, nl_1, nl_2, nl_3, nl_4, nl_5, nl_6, nl_7, nl_8, nl_9, nl_10, nl_11, nl_12, nl_13, nl_14, nl_15, nl_16, nl_17, nl_18, nl_19, nl_20, nl_21, nl_22, nl_23, nl_24, nl_25, nl_26, nl_27, nl_28, nl_31, nl_32, nl_42, nl_44, nl_46, nl_48, nl_49, nl_50, nl_51, nl_60, nl_75, nl_76, nl_99, nl_100, nl_108, nl_114, nl_117, nl_126, nl_255, nl_999, nl_2401, nl_9999, nl_12345, nl_65536, nl_1000000, nl_1103515245, nl_2147483647, iI_0, iI_neg, iI_add, iI_sub, iI_mul, iI_div, iI_mod, iI_lt, iI_le, iI_eq, iI_nat, iI_vp, ld_rd, ld_wl, lu_s, lu_t, lu_c, lu_j, forall_eq, Int.toNat_natCast, true_and, and_true, not_true, not_false_iff, Classical.not_not, forall_const, iI_inj]
      rw [← nat_of c1.1]
      (unfold s_of; (repeat' split) <;> first | (first | exact mj_eq.rf | exact fi_n mj_eq.rf | exact fi_i rfl mj_eq.rf | exact rfl) | (exfalso; omega))
    · (unfold s_of; (repeat' split) <;> first | (first | exact mj_eq.rf | exact fi_n mj_eq.rf | exact fi_i rfl mj_eq.rf | exact rfl) | (exfalso; omega))
  · (unfold s_of; (repeat' split) <;> first | (first | exact mj_eq.rf | exact fi_n mj_eq.rf | exact fi_i rfl mj_eq.rf | exact rfl) | (exfalso; omega))
def s_set (A : lA) (v w x : Int) : Int × lA := if ¬ (0 ≤ v ∧ v < A 0 0 1) ∨ w < 0 ∨ 1 < w ∨ x < 0 then (-1, A) else if w = 0 then (if 9 < x then (-1, A) else if x < td A v.toNat then (-2, A) else (A 6 0 v.toNat, lu A 6 0 v.toNat x)) else if 99 < x then (-1, A) else (A 7 0 v.toNat, lu A 7 0 v.toNat x)
theorem td_r {A : lA} (hA : LI A) {v : Nat} (hv : v < 4) : 0 ≤ td A v ∧ td A v ≤ 54 := by
  have h1 := sm_nn (s := fun c => A 4 c v) 6 (fun c hc => (hA.st hc hv).1)
  have h2 := sm_le (s := fun c => A 4 c v) (b := 9) 6 (fun c hc => (hA.st hc hv).2)
  unfold td
  omega
theorem c_set {d : Nat} (hd : 3 ≤ d) {A : lA} {M : mj_M} {v w x : Int} (hv : iR v) (hw : iR w) (hx : iR x) (hA : LJ A) : mj_Sp d 4 [mj_r (13, 50, 0), mj_i (iI v), mj_i (iI w), mj_i (iI x)] (mj_ld M 0 A) (some (mj_i (iI (s_set A v w x).1))) (mj_ld M 0 (s_set A v w x).2) := by
  unfold iR at hv hw hx
  have h1 := hA.li.nv
  refine en_C_set (k := 2) hd fun e he P hP hQ => rg_C_set_0 hP ?_
  simp (disch := omega) only [nl_0, nl_1, nl_2, nl_3, nl_4, nl_5, nl_6, nl_7, nl_8, nl_9, nl_10, nl_11, nl_12, nl_13, nl_14, nl_15, nl_16, nl_17, nl_18, nl_19, nl_20, nl_21, nl_22, nl_23, nl_24, nl_25, nl_26, nl_27, nl_28, nl_31, nl_32, nl_42, nl_44, nl_46, nl_48, nl_49, nl_50, nl_51, nl_60, nl_75, nl_76, nl_99, nl_100, nl_108, nl_114, nl_117, nl_126, nl_255, nl_999, nl_2401, nl_9999, nl_12345, nl_65536, nl_1000000, nl_1103515245, nl_2147483647, iI_0, iI_neg, iI_add, iI_sub, iI_mul, iI_div, iI_mod, iI_lt, iI_le, iI_eq, iI_nat, iI_vp, ld_rd, ld_wl, lu_s, lu_t, lu_c, lu_j, forall_eq, Int.toNat_natCast, true_and, and_true, not_true, not_false_iff, Classical.not_not, forall_const, iI_inj]
  refine bo2 (sp_isVillage (by omega) hv hA.li) (fun c1 => bo1 (sp_oI (by omega) (by omega) (by omega) (by omega)) (fun c2 => ?_) (fun c2 => ?_)) (fun c1 => ?_)
  · (unfold s_set; (repeat' split) <;> first | (first | exact mj_eq.rf | exact fi_n mj_eq.rf | exact fi_i rfl mj_eq.rf | exact rfl) | (exfalso; omega))
  · have hr := td_r hA.li (v := v.toNat) (by omega)
    refine ⟨fun w1 => bo2 (sp_oI (by omega) (by omega) (by omega) (by omega)) (fun c3 => ?_) (fun c3 => ?_), fun w1 => bo2 (sp_oI (by omega) (by omega) (by omega) (by omega)) (fun c3 => ?_) (fun c3 => ?_)⟩
    · (unfold s_set; (repeat' split) <;> first | (first | exact mj_eq.rf | exact fi_n mj_eq.rf | exact fi_i rfl mj_eq.rf | exact rfl) | (exfalso; omega))
    · simp (disch := omega) only [nl_0, nl_1, nl_2, nl_3, nl_4, nl_5, nl_6, nl_7, nl_8, nl_9, nl_10, nl_11, nl_12, nl_13, nl_14, nl_15, nl_16, nl_17, nl_18, nl_19, nl_20, nl_21, nl_22, nl_23, nl_24, nl_25, nl_26, nl_27, nl_28, nl_31, nl_32, nl_42, nl_44, nl_46, nl_48, nl_49, nl_50, nl_51, nl_60, nl_75, nl_76, nl_99, nl_100, nl_108, nl_114, nl_117, nl_126, nl_255, nl_999, nl_2401, nl_9999, nl_12345, nl_65536, nl_1000000, nl_1103515245, nl_2147483647, iI_0, iI_neg, iI_add, iI_sub, iI_mul, iI_div, iI_mod, iI_lt, iI_le, iI_eq, iI_nat, iI_vp, ld_rd, ld_wl, lu_s, lu_t, lu_c, lu_j, forall_eq, Int.toNat_natCast, true_and, and_true, not_true, not_false_iff, Classical.not_not, forall_const, iI_inj]
      refine ⟨fun w2 => by omega, fun w2 => ?_⟩
      (unfold s_set; (repeat' split) <;> first | (first | exact mj_eq.rf | exact fi_n mj_eq.rf | exact fi_i rfl mj_eq.rf | exact rfl) | (exfalso; omega))
    · (unfold s_set; (repeat' split) <;> first | (first | exact mj_eq.rf | exact fi_n mj_eq.rf | exact fi_i rfl mj_eq.rf | exact rfl) | (exfalso; omega))
    · refine ⟨fun w2 => ?_, fun w2 => by omega⟩
      rw [nat_of c1.1]
      refine ⟨_, _, sp_tied (by omega) hA (by omega), ?_⟩
      rw [← nat_of c1.1]
      simp (disch := omega) only [nl_0, nl_1, nl_2, nl_3, nl_4, nl_5, nl_6, nl_7, nl_8, nl_9, nl_10, nl_11, nl_12, nl_13, nl_14, nl_15, nl_16, nl_17, nl_18, nl_19, nl_20, nl_21, nl_22, nl_23, nl_24, nl_25, nl_26, nl_27, nl_28, nl_31, nl_32, nl_42, nl_44, nl_46, nl_48, nl_49, nl_50, nl_51, nl_60, nl_75, nl_76, nl_99, nl_100, nl_108, nl_114, nl_117, nl_126, nl_255, nl_999, nl_2401, nl_9999, nl_12345, nl_65536, nl_1000000, nl_1103515245, nl_2147483647, iI_0, iI_neg, iI_add, iI_sub, iI_mul, iI_div, iI_mod, iI_lt, iI_le, iI_eq, iI_nat, iI_vp, ld_rd, ld_wl, lu_s, lu_t, lu_c, lu_j, forall_eq, Int.toNat_natCast, true_and, and_true, not_true, not_false_iff, Classical.not_not, forall_const, iI_inj]
      refine ⟨fun w3 => ?_, fun w3 => ?_⟩
      · (unfold s_set; (repeat' split) <;> first | (first | exact mj_eq.rf | exact fi_n mj_eq.rf | exact fi_i rfl mj_eq.rf | exact rfl) | (exfalso; omega))
      · (unfold s_set; (repeat' split) <;> first | (first | exact mj_eq.rf | exact fi_n mj_eq.rf | exact fi_i rfl mj_eq.rf | exact rfl) | (exfalso; omega))
  · (unfold s_set; (repeat' split) <;> first | (first | exact mj_eq.rf | exact fi_n mj_eq.rf | exact fi_i rfl mj_eq.rf | exact rfl) | (exfalso; omega))
theorem k_set {A : lA} (hA : LJ A) {v w x : Int} : LJ (s_set A v w x).2 := by
  have h1 := hA.li.nv
  unfold s_set
  split
  · exact hA
  · split
    · split
      · exact hA
      · split
        · exact hA
        · show LJ (lu A 6 0 v.toNat x)
          refine hA.up (hA.li.hi (by decide)) rfl (Nat.le_refl _) (fun v hv => lu_t (by decide)) (fun v hv => ?_) ?_ ?_ (fun c v hc hv => Or.inl (lu_t (by decide))) (fun v' hv' => ?_) (fun v' hv' hn => lu_j (by omega))
          · rw [lu_t (by decide), lu_t (by decide)]; exact hA.we hv
          · rw [lu_t (by decide)]; exact hA.ho
          · rw [lu_t (by decide)]; exact hA.dr
          · rw [td_eq (A := A) (fun c hc => lu_t (by decide))]
            by_cases g : v' = v.toNat
            · subst g
              rw [lu_s]
              omega
            · rw [lu_j g]
              exact hA.sg hv'
    · split
      · exact hA
      · show LJ (lu A 7 0 v.toNat x)
        refine ⟨hA.li.hi (by decide), fun v hv => ?_, fun v hv hn => ?_, fun v' hv' => ?_, fun v hv => ?_, by rw [lu_t (by decide)]; exact hA.ho, by rw [lu_t (by decide)]; exact hA.dr, fun c v hc hv hn => by rw [lu_t (by decide)]; exact hA.z4 hc hv hn⟩
        · rw [lu_t (by decide), td_eq (A := A) (fun c hc => lu_t (by decide))]
          exact hA.sg hv
        · rw [lu_t (by decide)]; exact hA.z6 hv hn
        · by_cases g : v' = v.toNat
          · subst g
            rw [lu_s]
            omega
          · rw [lu_j g]
            exact hA.th hv'
        · rw [lu_t (by decide), lu_t (by decide)]; exact hA.we hv
def s_hold (A : lA) (v c x : Int) : Int × lA := if ¬ (0 ≤ v ∧ v < A 0 0 1) ∨ ¬ (0 ≤ c ∧ c < A 0 0 0) ∨ x < 0 ∨ 9 < x then (-1, A) else if A 2 0 c.toNat = 25 then (-2, A) else if A 6 0 v.toNat < td A v.toNat - A 4 c.toNat v.toNat + x then (-3, A) else (A 4 c.toNat v.toNat, lu A 4 c.toNat v.toNat x)
theorem c_hold {d : Nat} (hd : 3 ≤ d) {A : lA} {M : mj_M} {v c x : Int} (hv : iR v) (hc : iR c) (hx : iR x) (hA : LJ A) : mj_Sp d 5 [mj_r (13, 50, 0), mj_i (iI v), mj_i (iI c), mj_i (iI x)] (mj_ld M 0 A) (some (mj_i (iI (s_hold A v c x).1))) (mj_ld M 0 (s_hold A v c x).2) := by
  unfold iR at hv hc hx
  have h1 := hA.li.nv
  have h2 := hA.li.nc
  refine en_C_hold (k := 2) hd fun e he P hP hQ => rg_C_hold_0 hP ?_
  simp (disch := omega) only [nl_0, nl_1, nl_2, nl_3, nl_4, nl_5, nl_6, nl_7, nl_8, nl_9, nl_10, nl_11, nl_12, nl_13, nl_14, nl_15, nl_16, nl_17, nl_18, nl_19, nl_20, nl_21, nl_22, nl_23, nl_24, nl_25, nl_26, nl_27, nl_28, nl_31, nl_32, nl_42, nl_44, nl_46, nl_48, nl_49, nl_50, nl_51, nl_60, nl_75, nl_76, nl_99, nl_100, nl_108, nl_114, nl_117, nl_126, nl_255, nl_999, nl_2401, nl_9999, nl_12345, nl_65536, nl_1000000, nl_1103515245, nl_2147483647, iI_0, iI_neg, iI_add, iI_sub, iI_mul, iI_div, iI_mod, iI_lt, iI_le, iI_eq, iI_nat, iI_vp, ld_rd, ld_wl, lu_s, lu_t, lu_c, lu_j, forall_eq, Int.toNat_natCast, true_and, and_true, not_true, not_false_iff, Classical.not_not, forall_const, iI_inj]
  refine bo2 (sp_isVillage (by omega) hv hA.li) (fun c1 => bo2 (sp_isCloud (by omega) hc hA.li) (fun c2 => bo2 (sp_oI (by omega) (by omega) (by omega) (by omega)) (fun c3 => ?_) (fun c3 => bo1 (sp_isOver (by omega) hc hA.li) (fun c4 => ?_) (fun c4 => ?_))) (fun c2 => ?_)) (fun c1 => ?_)
  · (unfold s_hold; (repeat' split) <;> first | (first | exact mj_eq.rf | exact fi_n mj_eq.rf | exact fi_i rfl mj_eq.rf | exact rfl) | (exfalso; omega))
  · have hr := td_r hA.li (v := v.toNat) (by omega)
    have hst := hA.li.st (c := c.toNat) (v := v.toNat) (by omega) (by omega)
    have hsg := hA.sg (v := v.toNat) (by omega)
    simp (disch := omega) only [nl_0, nl_1, nl_2, nl_3, nl_4, nl_5, nl_6, nl_7, nl_8, nl_9, nl_10, nl_11, nl_12, nl_13, nl_14, nl_15, nl_16, nl_17, nl_18, nl_19, nl_20, nl_21, nl_22, nl_23, nl_24, nl_25, nl_26, nl_27, nl_28, nl_31, nl_32, nl_42, nl_44, nl_46, nl_48, nl_49, nl_50, nl_51, nl_60, nl_75, nl_76, nl_99, nl_100, nl_108, nl_114, nl_117, nl_126, nl_255, nl_999, nl_2401, nl_9999, nl_12345, nl_65536, nl_1000000, nl_1103515245, nl_2147483647, iI_0, iI_neg, iI_add, iI_sub, iI_mul, iI_div, iI_mod, iI_lt, iI_le, iI_eq, iI_nat, iI_vp, ld_rd, ld_wl, lu_s, lu_t, lu_c, lu_j, forall_eq, Int.toNat_natCast, true_and, and_true, not_true, not_false_iff, Classical.not_not, forall_const, iI_inj]
    refine (fun k => by rw [nat_of c1.1]; exact k) ?_
    refine ⟨_, _, sp_tied (by omega) hA (by omega), ?_⟩
    rw [← nat_of c1.1]
    simp (disch := omega) only [nl_0, nl_1, nl_2, nl_3, nl_4, nl_5, nl_6, nl_7, nl_8, nl_9, nl_10, nl_11, nl_12, nl_13, nl_14, nl_15, nl_16, nl_17, nl_18, nl_19, nl_20, nl_21, nl_22, nl_23, nl_24, nl_25, nl_26, nl_27, nl_28, nl_31, nl_32, nl_42, nl_44, nl_46, nl_48, nl_49, nl_50, nl_51, nl_60, nl_75, nl_76, nl_99, nl_100, nl_108, nl_114, nl_117, nl_126, nl_255, nl_999, nl_2401, nl_9999, nl_12345, nl_65536, nl_1000000, nl_1103515245, nl_2147483647, iI_0, iI_neg, iI_add, iI_sub, iI_mul, iI_div, iI_mod, iI_lt, iI_le, iI_eq, iI_nat, iI_vp, ld_rd, ld_wl, lu_s, lu_t, lu_c, lu_j, forall_eq, Int.toNat_natCast, true_and, and_true, not_true, not_false_iff, Classical.not_not, forall_const, iI_inj]
    refine ⟨fun c5 => ?_, fun c5 => ?_⟩
    · (unfold s_hold; (repeat' split) <;> first | (first | exact mj_eq.rf | exact fi_n mj_eq.rf | exact fi_i rfl mj_eq.rf | exact rfl) | (exfalso; omega))
    · (unfold s_hold; (repeat' split) <;> first | (first | exact mj_eq.rf | exact fi_n mj_eq.rf | exact fi_i rfl mj_eq.rf | exact rfl) | (exfalso; omega))
  · (unfold s_hold; (repeat' split) <;> first | (first | exact mj_eq.rf | exact fi_n mj_eq.rf | exact fi_i rfl mj_eq.rf | exact rfl) | (exfalso; omega))
  · (unfold s_hold; (repeat' split) <;> first | (first | exact mj_eq.rf | exact fi_n mj_eq.rf | exact fi_i rfl mj_eq.rf | exact rfl) | (exfalso; omega))
  · (unfold s_hold; (repeat' split) <;> first | (first | exact mj_eq.rf | exact fi_n mj_eq.rf | exact fi_i rfl mj_eq.rf | exact rfl) | (exfalso; omega))
