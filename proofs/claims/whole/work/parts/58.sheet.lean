/-! sheets -/
def SC (M : mj_M) (ln sz : Nat → Int) (I : Nat → Nat → Int32) : Prop := ∀ s, s < 4 → ((ln s = -1 ∧ M 7 47 s 0 = iI 0) ∨ (0 ≤ ln s ∧ M 7 47 s 0 = iI 1 ∧ M 7 47 s 1 = iI (ln s) ∧ M 7 47 s 2 = iI (sz s))) ∧ ∀ j, j < 25 → M 7 48 s j = I s j
def SF (M : mj_M) (ln sz : Nat → Int) (I : Nat → Nat → Int32) : Prop := ∀ s, s < 4 → M 35 69 0 s = iI (ln s) ∧ (0 ≤ ln s → M 35 70 0 s = iI (sz s)) ∧ ∀ j, j < 25 → M 35 71 0 (25 * s + j) = I s j
def SI (ln sz : Nat → Int) : Prop := ∀ s, s < 4 → (-1 ≤ ln s ∧ ln s ≤ 2) ∧ (0 ≤ ln s → 0 ≤ sz s ∧ sz s ≤ 25)
def fu (f : Nat → Int) (s : Nat) (v : Int) : Nat → Int := fun s' => if s' = s then v else f s'
def iu (I : Nat → Nat → Int32) (s j : Nat) (v : Int32) : Nat → Nat → Int32 := fun s' j' => if s' = s ∧ j' = j then v else I s' j'
theorem SC.p {M M' : mj_M} {ln sz : Nat → Int} {I : Nat → Nat → Int32} (h : SC M ln sz I) (e : M' 7 = M 7) : SC M' ln sz I := fun s hs => by
  rw [e]
  exact h s hs
theorem SF.p {M M' : mj_M} {ln sz : Nat → Int} {I : Nat → Nat → Int32} (h : SF M ln sz I) (e : M' 35 = M 35) : SF M' ln sz I := fun s hs => by
  rw [e]
  exact h s hs
def fo4 (ln sz : Nat → Int) (s : Nat) (lane i n : Int) : Int := if ln s < 0 then -11 else if ln s ≠ lane then -12 else if i < 0 ∨ n < 0 ∨ sz s < i ∨ sz s - i < n then -13 else 0
theorem sp_lacks {d s : Nat} (hd : 1 ≤ d) {M : mj_M} {z i n : Int} (h : M 7 47 s 2 = iI z) (hz : 0 ≤ z ∧ z ≤ 25) (hi : iR i) (hn : iR n) : mj_Sp d 70 [mj_r (7, 47, s), mj_i (iI i), mj_i (iI n)] M (some (mj_i (iI (if i < 0 ∨ n < 0 ∨ z < i ∨ z - i < n then 1 else 0)))) M := by
  unfold iR at hi hn
  refine en_Sh_lacks (k := 0) hd fun e he P hP hQ => rg_Sh_lacks_0 hP ?_
  simp (disch := omega) only [nl_0, nl_1, nl_2, nl_3, nl_4, nl_5, nl_6, nl_7, nl_8, nl_9, nl_10, nl_11, nl_12, nl_13, nl_14, nl_15, nl_16, nl_17, nl_18, nl_19, nl_20, nl_21, nl_22, nl_23, nl_24, nl_25, nl_26, nl_27, nl_28, nl_31, nl_32, nl_42, nl_44, nl_46, nl_48, nl_49, nl_50, nl_51, nl_60, nl_75, nl_76, nl_99, nl_100, nl_108, nl_114, nl_117, nl_126, nl_255, nl_999, nl_2401, nl_9999, nl_12345, nl_65536, nl_1000000, nl_1103515245, nl_2147483647, iI_0, iI_neg, iI_add, iI_sub, iI_mul, iI_div, iI_mod, iI_lt, iI_le, iI_eq, iI_nat, iI_vp, ld_rd, ld_wl, lu_s, lu_t, lu_c, lu_j, forall_eq, Int.toNat_natCast, true_and, and_true, not_true, not_false_iff, Classical.not_not, forall_const, iI_inj, h]
  refine ⟨fun c => ?_, fun c => ⟨fun c2 => ?_, fun c2 => ⟨fun c3 => ?_, fun c3 => ?_⟩⟩⟩
  · rw [if_pos (by omega)]
    (first | exact mj_eq.rf | exact fi_n mj_eq.rf | exact fi_i rfl mj_eq.rf | exact rfl)
  · rw [if_pos (by omega)]
    (first | exact mj_eq.rf | exact fi_n mj_eq.rf | exact fi_i rfl mj_eq.rf | exact rfl)
  · rw [if_pos (by omega)]
    (first | exact mj_eq.rf | exact fi_n mj_eq.rf | exact fi_i rfl mj_eq.rf | exact rfl)
  · simp (disch := omega) only [nl_0, nl_1, nl_2, nl_3, nl_4, nl_5, nl_6, nl_7, nl_8, nl_9, nl_10, nl_11, nl_12, nl_13, nl_14, nl_15, nl_16, nl_17, nl_18, nl_19, nl_20, nl_21, nl_22, nl_23, nl_24, nl_25, nl_26, nl_27, nl_28, nl_31, nl_32, nl_42, nl_44, nl_46, nl_48, nl_49, nl_50, nl_51, nl_60, nl_75, nl_76, nl_99, nl_100, nl_108, nl_114, nl_117, nl_126, nl_255, nl_999, nl_2401, nl_9999, nl_12345, nl_65536, nl_1000000, nl_1103515245, nl_2147483647, iI_0, iI_neg, iI_add, iI_sub, iI_mul, iI_div, iI_mod, iI_lt, iI_le, iI_eq, iI_nat, iI_vp, ld_rd, ld_wl, lu_s, lu_t, lu_c, lu_j, forall_eq, Int.toNat_natCast, true_and, and_true, not_true, not_false_iff, Classical.not_not, forall_const, iI_inj]
    refine ⟨fun c4 => ?_, fun c4 => ?_⟩
    · rw [if_neg (by omega)]
      (first | exact mj_eq.rf | exact fi_n mj_eq.rf | exact fi_i rfl mj_eq.rf | exact rfl)
    · rw [if_pos (by omega)]
      (first | exact mj_eq.rf | exact fi_n mj_eq.rf | exact fi_i rfl mj_eq.rf | exact rfl)
theorem sp_faultOf {d s : Nat} (hd : 2 ≤ d) {M : mj_M} {ln sz : Nat → Int} {I : Nat → Nat → Int32} {lane i n : Int} (hS : SC M ln sz I) (hI : SI ln sz) (hs : s < 4) (hl : 0 ≤ lane ∧ lane ≤ 2) (hi : iR i) (hn : iR n) : mj_Sp d 69 [mj_r (7, 47, s), mj_i (iI lane), mj_i (iI i), mj_i (iI n)] M (some (mj_i (iI (fo4 ln sz s lane i n)))) M := by
  have h1 := hI s hs
  have h2 := (hS s hs).1
  refine en_Sh_faultOf (k := 1) hd fun e he P hP hQ => rg_Sh_faultOf_0 hP ?_
  unfold fo4
  rcases h2 with ⟨e1, e2⟩ | ⟨e1, e2, e3, e4⟩
  · rw [if_pos (by omega)]
    simp (disch := omega) only [nl_0, nl_1, nl_2, nl_3, nl_4, nl_5, nl_6, nl_7, nl_8, nl_9, nl_10, nl_11, nl_12, nl_13, nl_14, nl_15, nl_16, nl_17, nl_18, nl_19, nl_20, nl_21, nl_22, nl_23, nl_24, nl_25, nl_26, nl_27, nl_28, nl_31, nl_32, nl_42, nl_44, nl_46, nl_48, nl_49, nl_50, nl_51, nl_60, nl_75, nl_76, nl_99, nl_100, nl_108, nl_114, nl_117, nl_126, nl_255, nl_999, nl_2401, nl_9999, nl_12345, nl_65536, nl_1000000, nl_1103515245, nl_2147483647, iI_0, iI_neg, iI_add, iI_sub, iI_mul, iI_div, iI_mod, iI_lt, iI_le, iI_eq, iI_nat, iI_vp, ld_rd, ld_wl, lu_s, lu_t, lu_c, lu_j, forall_eq, Int.toNat_natCast, true_and, and_true, not_true, not_false_iff, Classical.not_not, forall_const, iI_inj, e2]
    exact ⟨fun z => z.elim, mj_eq.rf⟩
  · rw [if_neg (by omega)]
    simp (disch := omega) only [nl_0, nl_1, nl_2, nl_3, nl_4, nl_5, nl_6, nl_7, nl_8, nl_9, nl_10, nl_11, nl_12, nl_13, nl_14, nl_15, nl_16, nl_17, nl_18, nl_19, nl_20, nl_21, nl_22, nl_23, nl_24, nl_25, nl_26, nl_27, nl_28, nl_31, nl_32, nl_42, nl_44, nl_46, nl_48, nl_49, nl_50, nl_51, nl_60, nl_75, nl_76, nl_99, nl_100, nl_108, nl_114, nl_117, nl_126, nl_255, nl_999, nl_2401, nl_9999, nl_12345, nl_65536, nl_1000000, nl_1103515245, nl_2147483647, iI_0, iI_neg, iI_add, iI_sub, iI_mul, iI_div, iI_mod, iI_lt, iI_le, iI_eq, iI_nat, iI_vp, ld_rd, ld_wl, lu_s, lu_t, lu_c, lu_j, forall_eq, Int.toNat_natCast, true_and, and_true, not_true, not_false_iff, Classical.not_not, forall_const, iI_inj, e2, e3]
    refine ⟨fun _ => ⟨fun z => ?_, fun z => ?_⟩, fun z => by omega⟩
    · rw [if_neg (by omega)]
      refine bo2 (sp_lacks (by omega) e4 (h1.2 e1) hi hn) (fun c => ?_) (fun c => ?_)
      · rw [if_pos c]
        (first | exact mj_eq.rf | exact fi_n mj_eq.rf | exact fi_i rfl mj_eq.rf | exact rfl)
      · rw [if_neg c]
        (first | exact mj_eq.rf | exact fi_n mj_eq.rf | exact fi_i rfl mj_eq.rf | exact rfl)
    · rw [if_pos z]
      (first | exact mj_eq.rf | exact fi_n mj_eq.rf | exact fi_i rfl mj_eq.rf | exact rfl)
theorem sp_mwhy {d s : Nat} (hd : 1 ≤ d) {M : mj_M} {ln sz : Nat → Int} {I : Nat → Nat → Int32} {lane i n : Int} (hS : SF M ln sz I) (hI : SI ln sz) (hs : s < 4) (hl : 0 ≤ lane ∧ lane ≤ 2) (hi : iR i) (hn : iR n) (hn0 : 0 ≤ n) : mj_Sp d 140 [mj_r (30, 60, 0), mj_i (iI (s : Int)), mj_i (iI lane), mj_i (iI i), mj_i (iI n)] M (some (mj_i (iI (fo4 ln sz s lane i n)))) M := by
  unfold iR at hi hn
  have h1 := hI s hs
  have h2 := hS s hs
  refine en_m_why (k := 0) hd fun e he P hP hQ => rg_m_why_0 hP ?_
  unfold fo4
  simp (disch := omega) only [nl_0, nl_1, nl_2, nl_3, nl_4, nl_5, nl_6, nl_7, nl_8, nl_9, nl_10, nl_11, nl_12, nl_13, nl_14, nl_15, nl_16, nl_17, nl_18, nl_19, nl_20, nl_21, nl_22, nl_23, nl_24, nl_25, nl_26, nl_27, nl_28, nl_31, nl_32, nl_42, nl_44, nl_46, nl_48, nl_49, nl_50, nl_51, nl_60, nl_75, nl_76, nl_99, nl_100, nl_108, nl_114, nl_117, nl_126, nl_255, nl_999, nl_2401, nl_9999, nl_12345, nl_65536, nl_1000000, nl_1103515245, nl_2147483647, iI_0, iI_neg, iI_add, iI_sub, iI_mul, iI_div, iI_mod, iI_lt, iI_le, iI_eq, iI_nat, iI_vp, ld_rd, ld_wl, lu_s, lu_t, lu_c, lu_j, forall_eq, Int.toNat_natCast, true_and, and_true, not_true, not_false_iff, Classical.not_not, forall_const, iI_inj, h2.1]
  refine ⟨fun z => ⟨fun z2 => ⟨fun z3 => ?_, fun z3 => ?_⟩, fun z2 => ?_⟩, fun z => ?_⟩
  · rw [if_neg (by omega), if_neg (by omega), if_pos (by omega)]
    (first | exact mj_eq.rf | exact fi_n mj_eq.rf | exact fi_i rfl mj_eq.rf | exact rfl)
  · have h3 := h2.2.1 z
    have h4 := h1.2 z
    have lc := lI_cmp (a := i + n) (b := sz s) (by omega) (by omega) (by omega) (by omega)
    have lc2 : (lg_cmp (lI (i + n)) (lI (sz s)) ≤ iI 0) = ¬ (sz s < i + n) := by
      rw [← lc.2]
      refine propext ⟨fun h hh => ?_, fun h => Int32.not_lt.mp h⟩
      exact absurd hh (Int32.not_lt.mpr h)
    simp (disch := omega) only [nl_0, nl_1, nl_2, nl_3, nl_4, nl_5, nl_6, nl_7, nl_8, nl_9, nl_10, nl_11, nl_12, nl_13, nl_14, nl_15, nl_16, nl_17, nl_18, nl_19, nl_20, nl_21, nl_22, nl_23, nl_24, nl_25, nl_26, nl_27, nl_28, nl_31, nl_32, nl_42, nl_44, nl_46, nl_48, nl_49, nl_50, nl_51, nl_60, nl_75, nl_76, nl_99, nl_100, nl_108, nl_114, nl_117, nl_126, nl_255, nl_999, nl_2401, nl_9999, nl_12345, nl_65536, nl_1000000, nl_1103515245, nl_2147483647, iI_0, iI_neg, iI_add, iI_sub, iI_mul, iI_div, iI_mod, iI_lt, iI_le, iI_eq, iI_nat, iI_vp, ld_rd, ld_wl, lu_s, lu_t, lu_c, lu_j, forall_eq, Int.toNat_natCast, true_and, and_true, not_true, not_false_iff, Classical.not_not, forall_const, iI_inj, h3, lI_iI, lI_add, lc2]
    rw [if_neg (by omega), if_neg (by omega)]
    refine ⟨fun z4 => ?_, fun z4 => ?_⟩
    · rw [if_neg (by omega)]
      (first | exact mj_eq.rf | exact fi_n mj_eq.rf | exact fi_i rfl mj_eq.rf | exact rfl)
    · rw [if_pos (by omega)]
      (first | exact mj_eq.rf | exact fi_n mj_eq.rf | exact fi_i rfl mj_eq.rf | exact rfl)
  · rw [if_neg (by omega), if_pos z2]
    (first | exact mj_eq.rf | exact fi_n mj_eq.rf | exact fi_i rfl mj_eq.rf | exact rfl)
  · rw [if_pos (by omega)]
    (first | exact mj_eq.rf | exact fi_n mj_eq.rf | exact fi_i rfl mj_eq.rf | exact rfl)
/-- what is kept of a number in a lane -/
def pv (lane : Int) (w : Int64) : Int32 := if lane = 0 then w.toInt32.toInt8.toInt32 else if lane = 1 then w.toInt32.toInt16.toInt32 else w.toInt32
theorem sp_put {d s i : Nat} (hd : 1 ≤ d) {M : mj_M} {lane : Int} {w : Int64} (h : M 7 47 s 1 = iI lane) (hl : 0 ≤ lane ∧ lane ≤ 2) (hi : i < 25) : mj_Sp d 71 [mj_r (7, 47, s), mj_i (iI (i : Int)), mj_l w] M none (mj_wl M (7, 48, s, i) (pv lane w)) := by
  refine en_Sh_put (k := 0) hd fun e he P hP hQ => rg_Sh_put_0 hP ?_
  unfold pv
  simp (disch := omega) only [nl_0, nl_1, nl_2, nl_3, nl_4, nl_5, nl_6, nl_7, nl_8, nl_9, nl_10, nl_11, nl_12, nl_13, nl_14, nl_15, nl_16, nl_17, nl_18, nl_19, nl_20, nl_21, nl_22, nl_23, nl_24, nl_25, nl_26, nl_27, nl_28, nl_31, nl_32, nl_42, nl_44, nl_46, nl_48, nl_49, nl_50, nl_51, nl_60, nl_75, nl_76, nl_99, nl_100, nl_108, nl_114, nl_117, nl_126, nl_255, nl_999, nl_2401, nl_9999, nl_12345, nl_65536, nl_1000000, nl_1103515245, nl_2147483647, iI_0, iI_neg, iI_add, iI_sub, iI_mul, iI_div, iI_mod, iI_lt, iI_le, iI_eq, iI_nat, iI_vp, ld_rd, ld_wl, lu_s, lu_t, lu_c, lu_j, forall_eq, Int.toNat_natCast, true_and, and_true, not_true, not_false_iff, Classical.not_not, forall_const, iI_inj, h]
  refine ⟨fun z => ⟨fun z2 => ?_, fun z2 => ?_⟩, fun z => ?_⟩
  · rw [if_neg z, if_neg z2]
    (first | exact mj_eq.rf | exact fi_n mj_eq.rf | exact fi_i rfl mj_eq.rf | exact rfl)
  · rw [if_neg z, if_pos z2]
    (first | exact mj_eq.rf | exact fi_n mj_eq.rf | exact fi_i rfl mj_eq.rf | exact rfl)
  · rw [if_pos z]
    (first | exact mj_eq.rf | exact fi_n mj_eq.rf | exact fi_i rfl mj_eq.rf | exact rfl)
theorem sp_mputs {d s i : Nat} (hd : 1 ≤ d) {M : mj_M} {lane : Int} {w : Int64} (h : M 35 69 0 s = iI lane) (hl : 0 ≤ lane ∧ lane ≤ 2) (hs : s < 4) (hi : i < 25) : mj_Sp d 143 [mj_r (30, 60, 0), mj_i (iI (s : Int)), mj_i (iI (i : Int)), mj_l w] M none (mj_wl M (35, 71, 0, 25 * s + i) (pv lane w)) := by
  have t : (25 * (s : Int) + (i : Int)).toNat = 25 * s + i := by omega
  refine en_m_puts (k := 0) hd fun e he P hP hQ => rg_m_puts_0 hP ?_
  unfold pv
  simp (disch := omega) only [nl_0, nl_1, nl_2, nl_3, nl_4, nl_5, nl_6, nl_7, nl_8, nl_9, nl_10, nl_11, nl_12, nl_13, nl_14, nl_15, nl_16, nl_17, nl_18, nl_19, nl_20, nl_21, nl_22, nl_23, nl_24, nl_25, nl_26, nl_27, nl_28, nl_31, nl_32, nl_42, nl_44, nl_46, nl_48, nl_49, nl_50, nl_51, nl_60, nl_75, nl_76, nl_99, nl_100, nl_108, nl_114, nl_117, nl_126, nl_255, nl_999, nl_2401, nl_9999, nl_12345, nl_65536, nl_1000000, nl_1103515245, nl_2147483647, iI_0, iI_neg, iI_add, iI_sub, iI_mul, iI_div, iI_mod, iI_lt, iI_le, iI_eq, iI_nat, iI_vp, ld_rd, ld_wl, lu_s, lu_t, lu_c, lu_j, forall_eq, Int.toNat_natCast, true_and, and_true, not_true, not_false_iff, Classical.not_not, forall_const, iI_inj, h, t]
  refine ⟨fun z => ⟨fun z2 => ?_, fun z2 => ?_⟩, fun z => ?_⟩
  · rw [if_neg z, if_neg z2]
    (first | exact mj_eq.rf | exact fi_n mj_eq.rf | exact fi_i rfl mj_eq.rf | exact rfl)
  · rw [if_neg z, if_pos z2]
    (first | exact mj_eq.rf | exact fi_n mj_eq.rf | exact fi_i rfl mj_eq.rf | exact rfl)
  · rw [if_pos z]
    (first | exact mj_eq.rf | exact fi_n mj_eq.rf | exact fi_i rfl mj_eq.rf | exact rfl)
theorem SC.k_iu {M : mj_M} {ln sz : Nat → Int} {I : Nat → Nat → Int32} (h : SC M ln sz I) {s j : Nat} {v : Int32} : SC (mj_wl M (7, 48, s, j) v) ln sz (iu I s j v) := fun s' hs' => by
  have := h s' hs'
  rw [wl_n (by omega), wl_n (by omega), wl_n (by omega)]
  refine ⟨this.1, fun j' hj' => ?_⟩
  unfold iu
  by_cases e : s' = s ∧ j' = j
  · rw [if_pos e, e.1, e.2, wl_s]
  · rw [if_neg e, wl_n (by omega)]
    exact this.2 j' hj'
theorem SF.k_iu {M : mj_M} {ln sz : Nat → Int} {I : Nat → Nat → Int32} (h : SF M ln sz I) {s j : Nat} {v : Int32} (hj : j < 25) : SF (mj_wl M (35, 71, 0, 25 * s + j) v) ln sz (iu I s j v) := fun s' hs' => by
  have := h s' hs'
  rw [wl_n (by omega), wl_n (by omega)]
  refine ⟨this.1, this.2.1, fun j' hj' => ?_⟩
  unfold iu
  by_cases e : s' = s ∧ j' = j
  · rw [if_pos e, e.1, e.2, wl_s]
  · rw [if_neg e, wl_n (by omega)]
    exact this.2.2 j' hj'
theorem sp_noRowI {d : Nat} (hd : 2 ≤ d) {s l : Int} {M : mj_M} (hs : iR s) (hl : iR l) : mj_Sp d 30 [mj_i (iI s), mj_i (iI l)] M (some (mj_i (iI (if s < 0 ∨ 3 < s ∨ l < 0 ∨ 2 < l then 1 else 0)))) M := by
  have h := sp_noRow hd (x := iI s) (y := iI l) (M := M)
  rw [iI_toInt hs.1 hs.2, iI_toInt hl.1 hl.2] at h
  have e : (if (s < 0 ∨ 3 < s) ∨ l < 0 ∨ 2 < l then (1 : Int) else 0) = if s < 0 ∨ 3 < s ∨ l < 0 ∨ 2 < l then 1 else 0 := by omega
  rw [e] at h
  exact h
theorem sp_misSheet {d : Nat} (hd : 2 ≤ d) {s : Int} {M : mj_M} (hs : iR s) : mj_Sp d 138 [mj_i (iI s)] M (some (mj_i (iI (if 0 ≤ s ∧ s ≤ 3 then 1 else 0)))) M := by
  unfold iR at hs
  refine en_m_isSheet (k := 1) hd fun e he P hP hQ => rg_m_isSheet_0 hP ?_
  simp (disch := omega) only [nl_0, nl_1, nl_2, nl_3, nl_4, nl_5, nl_6, nl_7, nl_8, nl_9, nl_10, nl_11, nl_12, nl_13, nl_14, nl_15, nl_16, nl_17, nl_18, nl_19, nl_20, nl_21, nl_22, nl_23, nl_24, nl_25, nl_26, nl_27, nl_28, nl_31, nl_32, nl_42, nl_44, nl_46, nl_48, nl_49, nl_50, nl_51, nl_60, nl_75, nl_76, nl_99, nl_100, nl_108, nl_114, nl_117, nl_126, nl_255, nl_999, nl_2401, nl_9999, nl_12345, nl_65536, nl_1000000, nl_1103515245, nl_2147483647, iI_0, iI_neg, iI_add, iI_sub, iI_mul, iI_div, iI_mod, iI_lt, iI_le, iI_eq, iI_nat, iI_vp, ld_rd, ld_wl, lu_s, lu_t, lu_c, lu_j, forall_eq, Int.toNat_natCast, true_and, and_true, not_true, not_false_iff, Classical.not_not, forall_const, iI_inj, lI_iI, ll_0, ll_3]
  exact ⟨_, _, (sp_mI (by omega) (by omega) (by omega) (by omega)), bo10, fi_i rfl mj_eq.rf⟩
theorem sp_misLane {d : Nat} (hd : 2 ≤ d) {s : Int} {M : mj_M} (hs : iR s) : mj_Sp d 139 [mj_i (iI s)] M (some (mj_i (iI (if 0 ≤ s ∧ s ≤ 2 then 1 else 0)))) M := by
  unfold iR at hs
  refine en_m_isLane (k := 1) hd fun e he P hP hQ => rg_m_isLane_0 hP ?_
  simp (disch := omega) only [nl_0, nl_1, nl_2, nl_3, nl_4, nl_5, nl_6, nl_7, nl_8, nl_9, nl_10, nl_11, nl_12, nl_13, nl_14, nl_15, nl_16, nl_17, nl_18, nl_19, nl_20, nl_21, nl_22, nl_23, nl_24, nl_25, nl_26, nl_27, nl_28, nl_31, nl_32, nl_42, nl_44, nl_46, nl_48, nl_49, nl_50, nl_51, nl_60, nl_75, nl_76, nl_99, nl_100, nl_108, nl_114, nl_117, nl_126, nl_255, nl_999, nl_2401, nl_9999, nl_12345, nl_65536, nl_1000000, nl_1103515245, nl_2147483647, iI_0, iI_neg, iI_add, iI_sub, iI_mul, iI_div, iI_mod, iI_lt, iI_le, iI_eq, iI_nat, iI_vp, ld_rd, ld_wl, lu_s, lu_t, lu_c, lu_j, forall_eq, Int.toNat_natCast, true_and, and_true, not_true, not_false_iff, Classical.not_not, forall_const, iI_inj, lI_iI, ll_0, ll_2]
  exact ⟨_, _, (sp_mI (by omega) (by omega) (by omega) (by omega)), bo10, fi_i rfl mj_eq.rf⟩
/-! item -/
def r_item (ln sz : Nat → Int) (s lane i n r : Int) : Int := if s < 0 ∨ 3 < s ∨ lane < 0 ∨ 2 < lane then -1 else if fo4 ln sz s.toNat lane i n = 0 then r else fo4 ln sz s.toNat lane i n
theorem fo4_r {ln sz : Nat → Int} {s : Nat} {lane i n : Int} : fo4 ln sz s lane i n = 0 ∨ fo4 ln sz s lane i n = -11 ∨ fo4 ln sz s lane i n = -12 ∨ fo4 ln sz s lane i n = -13 := by
  unfold fo4
  repeat' split
  all_goals omega
theorem fo4_0 {ln sz : Nat → Int} {s : Nat} {lane i n : Int} (h : fo4 ln sz s lane i n = 0) : 0 ≤ ln s ∧ ln s = lane ∧ 0 ≤ i ∧ 0 ≤ n ∧ i + n ≤ sz s := by
  unfold fo4 at h
  by_cases h1 : ln s < 0
  · rw [if_pos h1] at h; omega
  · rw [if_neg h1] at h
    by_cases h2 : ln s ≠ lane
    · rw [if_pos h2] at h; omega
    · rw [if_neg h2] at h
      by_cases h3 : i < 0 ∨ n < 0 ∨ sz s < i ∨ sz s - i < n
      · rw [if_pos h3] at h; omega
      · omega
theorem c_item {d : Nat} (hd : 3 ≤ d) {M : mj_M} {ln sz : Nat → Int} {I : Nat → Nat → Int32} {s lane i : Int} {w : Int64} (hs : iR s) (hl : iR lane) (hi : iR i) (hS : SC M ln sz I) (hI : SI ln sz) : ∃ M', mj_Sp d 27 [mj_r (13, 50, 0), mj_i (iI s), mj_i (iI lane), mj_i (iI i), mj_l w] M (some (mj_i (iI (r_item ln sz s lane i 1 1)))) M' ∧ fr [7] M M' ∧ SC M' ln sz (if r_item ln sz s lane i 1 1 = 1 then iu I s.toNat i.toNat (pv lane w) else I) := by
  by_cases g : s < 0 ∨ 3 < s ∨ lane < 0 ∨ 2 < lane
  · have er : r_item ln sz s lane i 1 1 = -1 := if_pos g
    rw [er]
    refine ⟨M, en_C_item (k := 2) hd fun e he P hP hQ => rg_C_item_0 hP ?_, fr.r0, hS⟩
    simp (disch := omega) only [nl_0, nl_1, nl_2, nl_3, nl_4, nl_5, nl_6, nl_7, nl_8, nl_9, nl_10, nl_11, nl_12, nl_13, nl_14, nl_15, nl_16, nl_17, nl_18, nl_19, nl_20, nl_21, nl_22, nl_23, nl_24, nl_25, nl_26, nl_27, nl_28, nl_31, nl_32, nl_42, nl_44, nl_46, nl_48, nl_49, nl_50, nl_51, nl_60, nl_75, nl_76, nl_99, nl_100, nl_108, nl_114, nl_117, nl_126, nl_255, nl_999, nl_2401, nl_9999, nl_12345, nl_65536, nl_1000000, nl_1103515245, nl_2147483647, iI_0, iI_neg, iI_add, iI_sub, iI_mul, iI_div, iI_mod, iI_lt, iI_le, iI_eq, iI_nat, iI_vp, ld_rd, ld_wl, lu_s, lu_t, lu_c, lu_j, forall_eq, Int.toNat_natCast, true_and, and_true, not_true, not_false_iff, Classical.not_not, forall_const, iI_inj]
    refine bo2 (sp_noRowI (by omega) hs hl) (fun c => ?_) (fun c => absurd g c)
    (first | exact mj_eq.rf | exact fi_n mj_eq.rf | exact fi_i rfl mj_eq.rf | exact rfl)
  · have hS1 : s.toNat < 4 := by omega
    have h1 := hI s.toNat hS1
    by_cases f : fo4 ln sz s.toNat lane i 1 = 0
    · have er : r_item ln sz s lane i 1 1 = 1 := by
        unfold r_item
        rw [if_neg g, if_pos f]
      have f0 := fo4_0 f
      have h2 := h1.2 f0.1
      rw [er, if_pos rfl]
      refine ⟨mj_wl M (7, 48, s.toNat, i.toNat) (pv lane w), en_C_item (k := 2) hd fun e he P hP hQ => rg_C_item_0 hP ?_, fr.r0.wl (by decide), hS.k_iu⟩
      have hln : M 7 47 s.toNat 1 = iI lane := by
        rcases (hS s.toNat hS1).1 with h | h
        · omega
        · rw [h.2.2.1, f0.2.1]
      simp (disch := omega) only [nl_0, nl_1, nl_2, nl_3, nl_4, nl_5, nl_6, nl_7, nl_8, nl_9, nl_10, nl_11, nl_12, nl_13, nl_14, nl_15, nl_16, nl_17, nl_18, nl_19, nl_20, nl_21, nl_22, nl_23, nl_24, nl_25, nl_26, nl_27, nl_28, nl_31, nl_32, nl_42, nl_44, nl_46, nl_48, nl_49, nl_50, nl_51, nl_60, nl_75, nl_76, nl_99, nl_100, nl_108, nl_114, nl_117, nl_126, nl_255, nl_999, nl_2401, nl_9999, nl_12345, nl_65536, nl_1000000, nl_1103515245, nl_2147483647, iI_0, iI_neg, iI_add, iI_sub, iI_mul, iI_div, iI_mod, iI_lt, iI_le, iI_eq, iI_nat, iI_vp, ld_rd, ld_wl, lu_s, lu_t, lu_c, lu_j, forall_eq, Int.toNat_natCast, true_and, and_true, not_true, not_false_iff, Classical.not_not, forall_const, iI_inj]
      refine bo2 (sp_noRowI (by omega) hs hl) (fun c => absurd c g) (fun c => ?_)
      unfold iR at hs
      try simp (disch := omega) only [nl_0, nl_1, nl_2, nl_3, nl_4, nl_5, nl_6, nl_7, nl_8, nl_9, nl_10, nl_11, nl_12, nl_13, nl_14, nl_15, nl_16, nl_17, nl_18, nl_19, nl_20, nl_21, nl_22, nl_23, nl_24, nl_25, nl_26, nl_27, nl_28, nl_31, nl_32, nl_42, nl_44, nl_46, nl_48, nl_49, nl_50, nl_51, nl_60, nl_75, nl_76, nl_99, nl_100, nl_108, nl_114, nl_117, nl_126, nl_255, nl_999, nl_2401, nl_9999, nl_12345, nl_65536, nl_1000000, nl_1103515245, nl_2147483647, iI_0, iI_neg, iI_add, iI_sub, iI_mul, iI_div, iI_mod, iI_lt, iI_le, iI_eq, iI_nat, iI_vp, ld_rd, ld_wl, lu_s, lu_t, lu_c, lu_j, forall_eq, Int.toNat_natCast, true_and, and_true, not_true, not_false_iff, Classical.not_not, forall_const, iI_inj]
      refine ⟨_, _, sp_faultOf (by omega) hS hI hS1 (by omega) hi ⟨by decide, by decide⟩, ?_⟩
      rw [f]
      refine ⟨fun _ => ?_, fun z => absurd rfl z⟩
      refine (fun k => by rw [nat_of f0.2.2.1]; exact k) ?_
      refine ⟨_, sp_put (by omega) hln (by omega) (by omega), ?_⟩
      (first | exact mj_eq.rf | exact fi_n mj_eq.rf | exact fi_i rfl mj_eq.rf | exact rfl)
    · have er : r_item ln sz s lane i 1 1 = fo4 ln sz s.toNat lane i 1 := by
        unfold r_item
        rw [if_neg g, if_neg f]
      have fr1 := fo4_r (ln := ln) (sz := sz) (s := s.toNat) (lane := lane) (i := i) (n := 1)
      rw [er, if_neg (by omega)]
      refine ⟨M, en_C_item (k := 2) hd fun e he P hP hQ => rg_C_item_0 hP ?_, fr.r0, hS⟩
      simp (disch := omega) only [nl_0, nl_1, nl_2, nl_3, nl_4, nl_5, nl_6, nl_7, nl_8, nl_9, nl_10, nl_11, nl_12, nl_13, nl_14, nl_15, nl_16, nl_17, nl_18, nl_19, nl_20, nl_21, nl_22, nl_23, nl_24, nl_25, nl_26, nl_27, nl_28, nl_31, nl_32, nl_42, nl_44, nl_46, nl_48, nl_49, nl_50, nl_51, nl_60, nl_75, nl_76, nl_99, nl_100, nl_108, nl_114, nl_117, nl_126, nl_255, nl_999, nl_2401, nl_9999, nl_12345, nl_65536, nl_1000000, nl_1103515245, nl_2147483647, iI_0, iI_neg, iI_add, iI_sub, iI_mul, iI_div, iI_mod, iI_lt, iI_le, iI_eq, iI_nat, iI_vp, ld_rd, ld_wl, lu_s, lu_t, lu_c, lu_j, forall_eq, Int.toNat_natCast, true_and, and_true, not_true, not_false_iff, Classical.not_not, forall_const, iI_inj]
      refine bo2 (sp_noRowI (by omega) hs hl) (fun c => absurd c g) (fun c => ?_)
      have hs' := hs
      unfold iR at hs
      try simp (disch := omega) only [nl_0, nl_1, nl_2, nl_3, nl_4, nl_5, nl_6, nl_7, nl_8, nl_9, nl_10, nl_11, nl_12, nl_13, nl_14, nl_15, nl_16, nl_17, nl_18, nl_19, nl_20, nl_21, nl_22, nl_23, nl_24, nl_25, nl_26, nl_27, nl_28, nl_31, nl_32, nl_42, nl_44, nl_46, nl_48, nl_49, nl_50, nl_51, nl_60, nl_75, nl_76, nl_99, nl_100, nl_108, nl_114, nl_117, nl_126, nl_255, nl_999, nl_2401, nl_9999, nl_12345, nl_65536, nl_1000000, nl_1103515245, nl_2147483647, iI_0, iI_neg, iI_add, iI_sub, iI_mul, iI_div, iI_mod, iI_lt, iI_le, iI_eq, iI_nat, iI_vp, ld_rd, ld_wl, lu_s, lu_t, lu_c, lu_j, forall_eq, Int.toNat_natCast, true_and, and_true, not_true, not_false_iff, Classical.not_not, forall_const, iI_inj]
      refine ⟨_, _, sp_faultOf (by omega) hS hI hS1 (by omega) hi ⟨by decide, by decide⟩, ?_⟩
      simp (disch := omega) only [nl_0, nl_1, nl_2, nl_3, nl_4, nl_5, nl_6, nl_7, nl_8, nl_9, nl_10, nl_11, nl_12, nl_13, nl_14, nl_15, nl_16, nl_17, nl_18, nl_19, nl_20, nl_21, nl_22, nl_23, nl_24, nl_25, nl_26, nl_27, nl_28, nl_31, nl_32, nl_42, nl_44, nl_46, nl_48, nl_49, nl_50, nl_51, nl_60, nl_75, nl_76, nl_99, nl_100, nl_108, nl_114, nl_117, nl_126, nl_255, nl_999, nl_2401, nl_9999, nl_12345, nl_65536, nl_1000000, nl_1103515245, nl_2147483647, iI_0, iI_neg, iI_add, iI_sub, iI_mul, iI_div, iI_mod, iI_lt, iI_le, iI_eq, iI_nat, iI_vp, ld_rd, ld_wl, lu_s, lu_t, lu_c, lu_j, forall_eq, Int.toNat_natCast, true_and, and_true, not_true, not_false_iff, Classical.not_not, forall_const, iI_inj]
      exact ⟨fun z => absurd z f, fun _ => by (first | exact mj_eq.rf | exact fi_n mj_eq.rf | exact fi_i rfl mj_eq.rf | exact rfl)⟩
theorem m_item {d : Nat} (hd : 3 ≤ d) {M : mj_M} {ln sz : Nat → Int} {I : Nat → Nat → Int32} {s lane i : Int} {w : Int64} (hs : iR s) (hl : iR lane) (hi : iR i) (hS : SF M ln sz I) (hI : SI ln sz) : ∃ M', mj_Sp d 147 [mj_r (30, 60, 0), mj_i (iI s), mj_i (iI lane), mj_i (iI i), mj_l w] M (some (mj_i (iI (r_item ln sz s lane i 1 1)))) M' ∧ fr [35] M M' ∧ SF M' ln sz (if r_item ln sz s lane i 1 1 = 1 then iu I s.toNat i.toNat (pv lane w) else I) := by
  by_cases g : s < 0 ∨ 3 < s ∨ lane < 0 ∨ 2 < lane
  · have er : r_item ln sz s lane i 1 1 = -1 := if_pos g
    rw [er]
    refine ⟨M, en_m_item (k := 2) hd fun e he P hP hQ => rg_m_item_0 hP ?_, fr.r0, hS⟩
    simp (disch := omega) only [nl_0, nl_1, nl_2, nl_3, nl_4, nl_5, nl_6, nl_7, nl_8, nl_9, nl_10, nl_11, nl_12, nl_13, nl_14, nl_15, nl_16, nl_17, nl_18, nl_19, nl_20, nl_21, nl_22, nl_23, nl_24, nl_25, nl_26, nl_27, nl_28, nl_31, nl_32, nl_42, nl_44, nl_46, nl_48, nl_49, nl_50, nl_51, nl_60, nl_75, nl_76, nl_99, nl_100, nl_108, nl_114, nl_117, nl_126, nl_255, nl_999, nl_2401, nl_9999, nl_12345, nl_65536, nl_1000000, nl_1103515245, nl_2147483647, iI_0, iI_neg, iI_add, iI_sub, iI_mul, iI_div, iI_mod, iI_lt, iI_le, iI_eq, iI_nat, iI_vp, ld_rd, ld_wl, lu_s, lu_t, lu_c, lu_j, forall_eq, Int.toNat_natCast, true_and, and_true, not_true, not_false_iff, Classical.not_not, forall_const, iI_inj]
    refine bo2 (sp_misSheet (by omega) hs) (fun c => bo1 (sp_misLane (by omega) hl) (fun c2 => by omega) (fun c2 => ?_)) (fun c => ?_)
    · (first | exact mj_eq.rf | exact fi_n mj_eq.rf | exact fi_i rfl mj_eq.rf | exact rfl)
    · (first | exact mj_eq.rf | exact fi_n mj_eq.rf | exact fi_i rfl mj_eq.rf | exact rfl)
  · have hS1 : s.toNat < 4 := by omega
    have h1 := hI s.toNat hS1
    obtain ⟨s, rfl⟩ := nat_iR (show 0 ≤ s by omega)
    by_cases f : fo4 ln sz (s : Int).toNat lane i 1 = 0
    · have er : r_item ln sz s lane i 1 1 = 1 := by
        unfold r_item
        rw [if_neg g, if_pos f]
      have f0 := fo4_0 f
      have h2 := h1.2 f0.1
      obtain ⟨i, rfl⟩ := nat_iR f0.2.2.1
      rw [er, if_pos rfl]
      refine ⟨mj_wl M (35, 71, 0, 25 * s + i) (pv lane w), en_m_item (k := 2) hd fun e he P hP hQ => rg_m_item_0 hP ?_, fr.r0.wl (by decide), hS.k_iu (by omega)⟩
      have hln : M 35 69 0 s = iI lane := by
        rw [(hS s hS1).1]
        exact congrArg iI f0.2.1
      simp (disch := omega) only [nl_0, nl_1, nl_2, nl_3, nl_4, nl_5, nl_6, nl_7, nl_8, nl_9, nl_10, nl_11, nl_12, nl_13, nl_14, nl_15, nl_16, nl_17, nl_18, nl_19, nl_20, nl_21, nl_22, nl_23, nl_24, nl_25, nl_26, nl_27, nl_28, nl_31, nl_32, nl_42, nl_44, nl_46, nl_48, nl_49, nl_50, nl_51, nl_60, nl_75, nl_76, nl_99, nl_100, nl_108, nl_114, nl_117, nl_126, nl_255, nl_999, nl_2401, nl_9999, nl_12345, nl_65536, nl_1000000, nl_1103515245, nl_2147483647, iI_0, iI_neg, iI_add, iI_sub, iI_mul, iI_div, iI_mod, iI_lt, iI_le, iI_eq, iI_nat, iI_vp, ld_rd, ld_wl, lu_s, lu_t, lu_c, lu_j, forall_eq, Int.toNat_natCast, true_and, and_true, not_true, not_false_iff, Classical.not_not, forall_const, iI_inj]
      refine bo2 (sp_misSheet (by omega) hs) (fun c => bo1 (sp_misLane (by omega) hl) (fun c2 => ?_) (fun c2 => by omega)) (fun c => by omega)
      refine ⟨_, _, sp_mwhy (by omega) hS hI hS1 (by omega) hi ⟨by decide, by decide⟩ (by decide), ?_⟩
      rw [show fo4 ln sz s lane (i : Int) 1 = 0 from f]
      refine ⟨fun _ => ⟨_, sp_mputs (by omega) hln (by omega) hS1 (by omega), ?_⟩, fun z => absurd (show iI 0 ≤ iI 0 by decide) z⟩
      (first | exact mj_eq.rf | exact fi_n mj_eq.rf | exact fi_i rfl mj_eq.rf | exact rfl)
    · have er : r_item ln sz s lane i 1 1 = fo4 ln sz (s : Int).toNat lane i 1 := by
        unfold r_item
        rw [if_neg g, if_neg f]
      have fr1 := fo4_r (ln := ln) (sz := sz) (s := (s : Int).toNat) (lane := lane) (i := i) (n := 1)
      rw [er, if_neg (by omega)]
      refine ⟨M, en_m_item (k := 2) hd fun e he P hP hQ => rg_m_item_0 hP ?_, fr.r0, hS⟩
      simp (disch := omega) only [nl_0, nl_1, nl_2, nl_3, nl_4, nl_5, nl_6, nl_7, nl_8, nl_9, nl_10, nl_11, nl_12, nl_13, nl_14, nl_15, nl_16, nl_17, nl_18, nl_19, nl_20, nl_21, nl_22, nl_23, nl_24, nl_25, nl_26, nl_27, nl_28, nl_31, nl_32, nl_42, nl_44, nl_46, nl_48, nl_49, nl_50, nl_51, nl_60, nl_75, nl_76, nl_99, nl_100, nl_108, nl_114, nl_117, nl_126, nl_255, nl_999, nl_2401, nl_9999, nl_12345, nl_65536, nl_1000000, nl_1103515245, nl_2147483647, iI_0, iI_neg, iI_add, iI_sub, iI_mul, iI_div, iI_mod, iI_lt, iI_le, iI_eq, iI_nat, iI_vp, ld_rd, ld_wl, lu_s, lu_t, lu_c, lu_j, forall_eq, Int.toNat_natCast, true_and, and_true, not_true, not_false_iff, Classical.not_not, forall_const, iI_inj]
      refine bo2 (sp_misSheet (by omega) hs) (fun c => bo1 (sp_misLane (by omega) hl) (fun c2 => ?_) (fun c2 => by omega)) (fun c => by omega)
      refine ⟨_, _, sp_mwhy (by omega) hS hI hS1 (by omega) hi ⟨by decide, by decide⟩ (by decide), ?_⟩
      have fr2 : fo4 ln sz s lane i 1 = fo4 ln sz (s : Int).toNat lane i 1 := rfl
      simp (disch := omega) only [nl_0, nl_1, nl_2, nl_3, nl_4, nl_5, nl_6, nl_7, nl_8, nl_9, nl_10, nl_11, nl_12, nl_13, nl_14, nl_15, nl_16, nl_17, nl_18, nl_19, nl_20, nl_21, nl_22, nl_23, nl_24, nl_25, nl_26, nl_27, nl_28, nl_31, nl_32, nl_42, nl_44, nl_46, nl_48, nl_49, nl_50, nl_51, nl_60, nl_75, nl_76, nl_99, nl_100, nl_108, nl_114, nl_117, nl_126, nl_255, nl_999, nl_2401, nl_9999, nl_12345, nl_65536, nl_1000000, nl_1103515245, nl_2147483647, iI_0, iI_neg, iI_add, iI_sub, iI_mul, iI_div, iI_mod, iI_lt, iI_le, iI_eq, iI_nat, iI_vp, ld_rd, ld_wl, lu_s, lu_t, lu_c, lu_j, forall_eq, Int.toNat_natCast, true_and, and_true, not_true, not_false_iff, Classical.not_not, forall_const, iI_inj]
      refine ⟨fun z => by omega, fun _ => ?_⟩
      (first | exact mj_eq.rf | exact fi_n mj_eq.rf | exact fi_i rfl mj_eq.rf | exact rfl)
