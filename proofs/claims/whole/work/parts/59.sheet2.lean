/-! contracts: sheet, drop, film, copy -/
def r_sheet (s lane n : Int) : Int := if s < 0 ∨ 3 < s ∨ lane < 0 ∨ 2 < lane ∨ 25 < n then -1 else if n < 0 then -14 else n
def iz (I : Nat → Nat → Int32) (s : Nat) : Nat → Nat → Int32 := fun s' j' => if s' = s then iI 0 else I s' j'
theorem sp_renew {d s : Nat} (hd : 2 ≤ d) {M : mj_M} {lane n : Int} : mj_Sp d 68 [mj_r (7, 47, s), mj_i (iI lane), mj_i (iI n)] M none (mj_fl (mj_wl (mj_wl (mj_wl M (7, 47, s, 0) (iI 1)) (7, 47, s, 1) (iI lane)) (7, 47, s, 2) (iI n)) 7 48 s 25 (iI 0)) := by
  refine en_Sh_renew (k := 1) hd fun e he P hP hQ => rg_Sh_renew_0 hP ?_
  simp (disch := omega) only [nl_0, nl_1, nl_2, nl_3, nl_4, nl_5, nl_6, nl_7, nl_8, nl_9, nl_10, nl_11, nl_12, nl_13, nl_14, nl_15, nl_16, nl_17, nl_18, nl_19, nl_20, nl_21, nl_22, nl_23, nl_24, nl_25, nl_26, nl_27, nl_28, nl_31, nl_32, nl_42, nl_44, nl_46, nl_48, nl_49, nl_50, nl_51, nl_60, nl_75, nl_76, nl_99, nl_100, nl_108, nl_114, nl_117, nl_126, nl_255, nl_999, nl_2401, nl_9999, nl_12345, nl_65536, nl_1000000, nl_1103515245, nl_2147483647, iI_0, iI_neg, iI_add, iI_sub, iI_mul, iI_div, iI_mod, iI_lt, iI_le, iI_eq, iI_nat, iI_vp, ld_rd, ld_wl, lu_s, lu_t, lu_c, lu_j, forall_eq, Int.toNat_natCast, true_and, and_true, not_true, not_false_iff, Classical.not_not, forall_const, iI_inj]
  exact ⟨_, sp_fill (n := 25) (by omega) (by decide) rfl rfl (by decide), by (first | exact mj_eq.rf | exact fi_n mj_eq.rf | exact fi_i rfl mj_eq.rf | exact rfl)⟩
theorem c_sheet {d : Nat} (hd : 3 ≤ d) {M : mj_M} {ln sz : Nat → Int} {I : Nat → Nat → Int32} {s lane n : Int} (hs : iR s) (hl : iR lane) (hn : iR n) (hS : SC M ln sz I) : ∃ M', mj_Sp d 25 [mj_r (13, 50, 0), mj_i (iI s), mj_i (iI lane), mj_i (iI n)] M (some (mj_i (iI (r_sheet s lane n)))) M' ∧ fr [7] M M' ∧ SC M' (if 0 ≤ r_sheet s lane n then fu ln s.toNat lane else ln) (if 0 ≤ r_sheet s lane n then fu sz s.toNat n else sz) (if 0 ≤ r_sheet s lane n then iz I s.toNat else I) := by
  by_cases g : (s < 0 ∨ 3 < s ∨ lane < 0 ∨ 2 < lane ∨ 25 < n) ∨ n < 0
  · have er : r_sheet s lane n < 0 := by
      unfold r_sheet
      split
      · omega
      · split <;> omega
    rw [if_neg (by omega), if_neg (by omega), if_neg (by omega)]
    refine ⟨M, en_C_sheet (k := 2) hd fun e he P hP hQ => rg_C_sheet_0 hP ?_, fr.r0, hS⟩
    clear er
    unfold iR at hn
    simp (disch := omega) only [nl_0, nl_1, nl_2, nl_3, nl_4, nl_5, nl_6, nl_7, nl_8, nl_9, nl_10, nl_11, nl_12, nl_13, nl_14, nl_15, nl_16, nl_17, nl_18, nl_19, nl_20, nl_21, nl_22, nl_23, nl_24, nl_25, nl_26, nl_27, nl_28, nl_31, nl_32, nl_42, nl_44, nl_46, nl_48, nl_49, nl_50, nl_51, nl_60, nl_75, nl_76, nl_99, nl_100, nl_108, nl_114, nl_117, nl_126, nl_255, nl_999, nl_2401, nl_9999, nl_12345, nl_65536, nl_1000000, nl_1103515245, nl_2147483647, iI_0, iI_neg, iI_add, iI_sub, iI_mul, iI_div, iI_mod, iI_lt, iI_le, iI_eq, iI_nat, iI_vp, ld_rd, ld_wl, lu_s, lu_t, lu_c, lu_j, forall_eq, Int.toNat_natCast, true_and, and_true, not_true, not_false_iff, Classical.not_not, forall_const, iI_inj]
    refine bo1 (sp_noRowI (by omega) hs hl) (fun c => ?_) (fun c => ⟨fun c2 => ⟨fun c3 => by omega, fun c3 => ?_⟩, fun c2 => ?_⟩)
    · unfold r_sheet
      rw [if_pos (by omega)]
      (first | exact mj_eq.rf | exact fi_n mj_eq.rf | exact fi_i rfl mj_eq.rf | exact rfl)
    · unfold r_sheet
      rw [if_neg (by omega), if_pos (by omega)]
      (first | exact mj_eq.rf | exact fi_n mj_eq.rf | exact fi_i rfl mj_eq.rf | exact rfl)
    · unfold r_sheet
      rw [if_pos (by omega)]
      (first | exact mj_eq.rf | exact fi_n mj_eq.rf | exact fi_i rfl mj_eq.rf | exact rfl)
  · have er : r_sheet s lane n = n := by
      unfold r_sheet
      rw [if_neg (by omega), if_neg (by omega)]
    rw [er, if_pos (by omega), if_pos (by omega), if_pos (by omega)]
    refine ⟨mj_fl (mj_wl (mj_wl (mj_wl M (7, 47, s.toNat, 0) (iI 1)) (7, 47, s.toNat, 1) (iI lane)) (7, 47, s.toNat, 2) (iI n)) 7 48 s.toNat 25 (iI 0), en_C_sheet (k := 2) hd fun e he P hP hQ => rg_C_sheet_0 hP ?_, fun i hi => ?_, fun s' hs' => ?_⟩
    · unfold iR at hn
      simp (disch := omega) only [nl_0, nl_1, nl_2, nl_3, nl_4, nl_5, nl_6, nl_7, nl_8, nl_9, nl_10, nl_11, nl_12, nl_13, nl_14, nl_15, nl_16, nl_17, nl_18, nl_19, nl_20, nl_21, nl_22, nl_23, nl_24, nl_25, nl_26, nl_27, nl_28, nl_31, nl_32, nl_42, nl_44, nl_46, nl_48, nl_49, nl_50, nl_51, nl_60, nl_75, nl_76, nl_99, nl_100, nl_108, nl_114, nl_117, nl_126, nl_255, nl_999, nl_2401, nl_9999, nl_12345, nl_65536, nl_1000000, nl_1103515245, nl_2147483647, iI_0, iI_neg, iI_add, iI_sub, iI_mul, iI_div, iI_mod, iI_lt, iI_le, iI_eq, iI_nat, iI_vp, ld_rd, ld_wl, lu_s, lu_t, lu_c, lu_j, forall_eq, Int.toNat_natCast, true_and, and_true, not_true, not_false_iff, Classical.not_not, forall_const, iI_inj]
      refine bo1 (sp_noRowI (by omega) hs hl) (fun c => by omega) (fun c => ⟨fun c2 => ⟨fun c3 => ?_, fun c3 => by omega⟩, fun c2 => by omega⟩)
      unfold iR at hs
      try simp (disch := omega) only [nl_0, nl_1, nl_2, nl_3, nl_4, nl_5, nl_6, nl_7, nl_8, nl_9, nl_10, nl_11, nl_12, nl_13, nl_14, nl_15, nl_16, nl_17, nl_18, nl_19, nl_20, nl_21, nl_22, nl_23, nl_24, nl_25, nl_26, nl_27, nl_28, nl_31, nl_32, nl_42, nl_44, nl_46, nl_48, nl_49, nl_50, nl_51, nl_60, nl_75, nl_76, nl_99, nl_100, nl_108, nl_114, nl_117, nl_126, nl_255, nl_999, nl_2401, nl_9999, nl_12345, nl_65536, nl_1000000, nl_1103515245, nl_2147483647, iI_0, iI_neg, iI_add, iI_sub, iI_mul, iI_div, iI_mod, iI_lt, iI_le, iI_eq, iI_nat, iI_vp, ld_rd, ld_wl, lu_s, lu_t, lu_c, lu_j, forall_eq, Int.toNat_natCast, true_and, and_true, not_true, not_false_iff, Classical.not_not, forall_const, iI_inj]
      exact ⟨_, sp_renew (by omega), by (first | exact mj_eq.rf | exact fi_n mj_eq.rf | exact fi_i rfl mj_eq.rf | exact rfl)⟩
    · have : i ≠ 7 := fun e => hi (by rw [e]; decide)
      rw [fl_p this, wl_p this, wl_p this, wl_p this]
    · have h := hS s' hs'
      have e47 : ∀ j, mj_fl (mj_wl (mj_wl (mj_wl M (7, 47, s.toNat, 0) (iI 1)) (7, 47, s.toNat, 1) (iI lane)) (7, 47, s.toNat, 2) (iI n)) 7 48 s.toNat 25 (iI 0) 7 47 s' j = mj_wl (mj_wl (mj_wl M (7, 47, s.toNat, 0) (iI 1)) (7, 47, s.toNat, 1) (iI lane)) (7, 47, s.toNat, 2) (iI n) 7 47 s' j := fun j => fl_ne (by omega)
      rw [e47, e47, e47]
      unfold fu iz
      by_cases e : s' = s.toNat
      · rw [if_pos e, if_pos e, e]
        refine ⟨Or.inr ⟨by omega, ?_, ?_, wl_s⟩, fun j hj => ?_⟩
        · rw [wl_n (by omega), wl_n (by omega), wl_s]
        · rw [wl_n (by omega), wl_s]
        · rw [fl_at hj]
          try dsimp only
          rw [if_pos rfl]
      · rw [if_neg e, if_neg e, wl_n (by omega), wl_n (by omega), wl_n (by omega), wl_n (by omega), wl_n (by omega), wl_n (by omega), wl_n (by omega), wl_n (by omega), wl_n (by omega)]
        refine ⟨h.1, fun j hj => ?_⟩
        rw [fl_ne (by omega), wl_n (by omega), wl_n (by omega), wl_n (by omega)]
        try dsimp only
        rw [if_neg e]
        exact h.2 j hj
theorem m_sheet {d : Nat} (hd : 3 ≤ d) {M : mj_M} {ln sz : Nat → Int} {I : Nat → Nat → Int32} {s lane n : Int} (hs : iR s) (hl : iR lane) (hn : iR n) (hS : SF M ln sz I) : ∃ M', mj_Sp d 145 [mj_r (30, 60, 0), mj_i (iI s), mj_i (iI lane), mj_i (iI n)] M (some (mj_i (iI (r_sheet s lane n)))) M' ∧ fr [35] M M' ∧ SF M' (if 0 ≤ r_sheet s lane n then fu ln s.toNat lane else ln) (if 0 ≤ r_sheet s lane n then fu sz s.toNat n else sz) (if 0 ≤ r_sheet s lane n then iz I s.toNat else I) := by
  by_cases g : (s < 0 ∨ 3 < s ∨ lane < 0 ∨ 2 < lane ∨ 25 < n) ∨ n < 0
  · have er : r_sheet s lane n < 0 := by
      unfold r_sheet
      split
      · omega
      · split <;> omega
    rw [if_neg (by omega), if_neg (by omega), if_neg (by omega)]
    refine ⟨M, en_m_sheet (k := 2) hd fun e he P hP hQ => rg_m_sheet_0 hP ?_, fr.r0, hS⟩
    clear er
    unfold iR at hn
    simp (disch := omega) only [nl_0, nl_1, nl_2, nl_3, nl_4, nl_5, nl_6, nl_7, nl_8, nl_9, nl_10, nl_11, nl_12, nl_13, nl_14, nl_15, nl_16, nl_17, nl_18, nl_19, nl_20, nl_21, nl_22, nl_23, nl_24, nl_25, nl_26, nl_27, nl_28, nl_31, nl_32, nl_42, nl_44, nl_46, nl_48, nl_49, nl_50, nl_51, nl_60, nl_75, nl_76, nl_99, nl_100, nl_108, nl_114, nl_117, nl_126, nl_255, nl_999, nl_2401, nl_9999, nl_12345, nl_65536, nl_1000000, nl_1103515245, nl_2147483647, iI_0, iI_neg, iI_add, iI_sub, iI_mul, iI_div, iI_mod, iI_lt, iI_le, iI_eq, iI_nat, iI_vp, ld_rd, ld_wl, lu_s, lu_t, lu_c, lu_j, forall_eq, Int.toNat_natCast, true_and, and_true, not_true, not_false_iff, Classical.not_not, forall_const, iI_inj]
    refine bo2 (sp_misSheet (by omega) hs) (fun c => bo2 (sp_misLane (by omega) hl) (fun c1 => ⟨fun c2 => ⟨fun c3 => by omega, fun c3 => ?_⟩, fun c2 => ?_⟩) (fun c1 => ?_)) (fun c => ?_)
    · unfold r_sheet
      rw [if_neg (by omega), if_pos (by omega)]
      (first | exact mj_eq.rf | exact fi_n mj_eq.rf | exact fi_i rfl mj_eq.rf | exact rfl)
    · unfold r_sheet
      rw [if_pos (by omega)]
      (first | exact mj_eq.rf | exact fi_n mj_eq.rf | exact fi_i rfl mj_eq.rf | exact rfl)
    · unfold r_sheet
      rw [if_pos (by omega)]
      (first | exact mj_eq.rf | exact fi_n mj_eq.rf | exact fi_i rfl mj_eq.rf | exact rfl)
    · unfold r_sheet
      rw [if_pos (by omega)]
      (first | exact mj_eq.rf | exact fi_n mj_eq.rf | exact fi_i rfl mj_eq.rf | exact rfl)
  · have er : r_sheet s lane n = n := by
      unfold r_sheet
      rw [if_neg (by omega), if_neg (by omega)]
    rw [er, if_pos (by omega), if_pos (by omega), if_pos (by omega)]
    obtain ⟨s, rfl⟩ := nat_iR (show 0 ≤ s by omega)
    have key : ∀ j : Nat, j ≤ 25 → ∀ N, fr [35] M N → (∀ s', s' < 4 → N 35 69 0 s' = iI (fu ln s lane s') ∧ (0 ≤ fu ln s lane s' → N 35 70 0 s' = iI (fu sz s n s')) ∧ ∀ j', j' < 25 → N 35 71 0 (25 * s' + j') = if s' = s ∧ j' < j then iI 0 else I s' j') → ∃ M', (fr [35] M M' ∧ SF M' (fu ln s lane) (fu sz s n) (iz I s)) ∧ Rn mj_c145 2 46 [some (mj_r (30, 60, 0)), some (mj_i (iI (s : Int))), some (mj_i (iI lane)), some (mj_i (iI n)), some (mj_i (iI (j : Int)))] N (some (mj_i (iI n))) M' := by
      refine lp_dn (Q := fun j => ∀ N, fr [35] M N → (∀ s', s' < 4 → N 35 69 0 s' = iI (fu ln s lane s') ∧ (0 ≤ fu ln s lane s' → N 35 70 0 s' = iI (fu sz s n s')) ∧ ∀ j', j' < 25 → N 35 71 0 (25 * s' + j') = if s' = s ∧ j' < j then iI 0 else I s' j') → ∃ M', (fr [35] M M' ∧ SF M' (fu ln s lane) (fu sz s n) (iz I s)) ∧ Rn mj_c145 2 46 [some (mj_r (30, 60, 0)), some (mj_i (iI (s : Int))), some (mj_i (iI lane)), some (mj_i (iI n)), some (mj_i (iI (j : Int)))] N (some (mj_i (iI n))) M') (n := 25) (fun N hf h => ?_) (fun j hj ih N hf h => ?_)
      · refine ⟨N, ⟨hf, fun s' hs' => ⟨(h s' hs').1, (h s' hs').2.1, fun j' hj' => ?_⟩⟩, fun e he P hP hQ => rg_m_sheet_46 hP ⟨fun z => by (first | exact mj_eq.rf | exact fi_n mj_eq.rf | exact fi_i rfl mj_eq.rf | exact rfl), fun z => ?_⟩⟩
        · rw [(h s' hs').2.2 j' hj']
          unfold iz
          by_cases e : s' = s
          · rw [if_pos ⟨e, hj'⟩, if_pos e]
          · rw [if_neg (fun z => e z.1), if_neg e]
        · simp (disch := omega) only [nl_0, nl_1, nl_2, nl_3, nl_4, nl_5, nl_6, nl_7, nl_8, nl_9, nl_10, nl_11, nl_12, nl_13, nl_14, nl_15, nl_16, nl_17, nl_18, nl_19, nl_20, nl_21, nl_22, nl_23, nl_24, nl_25, nl_26, nl_27, nl_28, nl_31, nl_32, nl_42, nl_44, nl_46, nl_48, nl_49, nl_50, nl_51, nl_60, nl_75, nl_76, nl_99, nl_100, nl_108, nl_114, nl_117, nl_126, nl_255, nl_999, nl_2401, nl_9999, nl_12345, nl_65536, nl_1000000, nl_1103515245, nl_2147483647, iI_0, iI_neg, iI_add, iI_sub, iI_mul, iI_div, iI_mod, iI_lt, iI_le, iI_eq, iI_nat, iI_vp, ld_rd, ld_wl, lu_s, lu_t, lu_c, lu_j, forall_eq, Int.toNat_natCast, true_and, and_true, not_true, not_false_iff, Classical.not_not, forall_const, iI_inj] at z
          omega
      · have t : (25 * (s : Int) + (j : Int)).toNat = 25 * s + j := by omega
        obtain ⟨M', hG, hR⟩ := ih (mj_wl N (35, 71, 0, 25 * s + j) (iI 0)) (hf.wl (by decide)) (fun s' hs' => ⟨by rw [wl_n (by omega)]; exact (h s' hs').1, by rw [wl_n (by omega)]; exact (h s' hs').2.1, fun j' hj' => by
          by_cases e : s' = s ∧ j' = j
          · rw [e.1, e.2, wl_s, if_pos ⟨rfl, by omega⟩]
          · rw [wl_n (by omega), (h s' hs').2.2 j' hj']
            by_cases e2 : s' = s ∧ j' < j
            · rw [if_pos e2, if_pos ⟨e2.1, by omega⟩]
            · rw [if_neg e2, if_neg (by omega)]⟩)
        refine ⟨M', hG, fun e he P hP hQ => rg_m_sheet_46 hP ⟨fun z => ?_, fun z => ?_⟩⟩
        · simp (disch := omega) only [nl_0, nl_1, nl_2, nl_3, nl_4, nl_5, nl_6, nl_7, nl_8, nl_9, nl_10, nl_11, nl_12, nl_13, nl_14, nl_15, nl_16, nl_17, nl_18, nl_19, nl_20, nl_21, nl_22, nl_23, nl_24, nl_25, nl_26, nl_27, nl_28, nl_31, nl_32, nl_42, nl_44, nl_46, nl_48, nl_49, nl_50, nl_51, nl_60, nl_75, nl_76, nl_99, nl_100, nl_108, nl_114, nl_117, nl_126, nl_255, nl_999, nl_2401, nl_9999, nl_12345, nl_65536, nl_1000000, nl_1103515245, nl_2147483647, iI_0, iI_neg, iI_add, iI_sub, iI_mul, iI_div, iI_mod, iI_lt, iI_le, iI_eq, iI_nat, iI_vp, ld_rd, ld_wl, lu_s, lu_t, lu_c, lu_j, forall_eq, Int.toNat_natCast, true_and, and_true, not_true, not_false_iff, Classical.not_not, forall_const, iI_inj] at z
          omega
        · simp (disch := omega) only [nl_0, nl_1, nl_2, nl_3, nl_4, nl_5, nl_6, nl_7, nl_8, nl_9, nl_10, nl_11, nl_12, nl_13, nl_14, nl_15, nl_16, nl_17, nl_18, nl_19, nl_20, nl_21, nl_22, nl_23, nl_24, nl_25, nl_26, nl_27, nl_28, nl_31, nl_32, nl_42, nl_44, nl_46, nl_48, nl_49, nl_50, nl_51, nl_60, nl_75, nl_76, nl_99, nl_100, nl_108, nl_114, nl_117, nl_126, nl_255, nl_999, nl_2401, nl_9999, nl_12345, nl_65536, nl_1000000, nl_1103515245, nl_2147483647, iI_0, iI_neg, iI_add, iI_sub, iI_mul, iI_div, iI_mod, iI_lt, iI_le, iI_eq, iI_nat, iI_vp, ld_rd, ld_wl, lu_s, lu_t, lu_c, lu_j, forall_eq, Int.toNat_natCast, true_and, and_true, not_true, not_false_iff, Classical.not_not, forall_const, iI_inj, t]
          exact hR e he P hP hQ
    obtain ⟨M', hG, hR⟩ := key 0 (Nat.zero_le _) (mj_wl (mj_wl M (35, 69, 0, s) (iI lane)) (35, 70, 0, s) (iI n)) ((fr.r0.wl (by decide)).wl (by decide)) (fun s' hs' => by
      have h := hS s' hs'
      unfold fu
      refine ⟨?_, fun h0 => ?_, fun j' hj' => ?_⟩
      · rw [wl_n (by omega)]
        by_cases e : s' = s
        · rw [if_pos e, e, wl_s]
        · rw [if_neg e, wl_n (by omega)]
          exact h.1
      · by_cases e : s' = s
        · rw [if_pos e, e, wl_s]
        · rw [if_neg e] at h0
          rw [if_neg e, wl_n (by omega), wl_n (by omega)]
          exact h.2.1 h0
      · rw [wl_n (by omega), wl_n (by omega), if_neg (fun z => absurd z.2 (Nat.not_lt_zero _))]
        exact h.2.2 j' hj')
    refine ⟨M', en_m_sheet (k := 2) hd fun e he P hP hQ => rg_m_sheet_0 hP ?_, hG⟩
    unfold iR at hn
    simp (disch := omega) only [nl_0, nl_1, nl_2, nl_3, nl_4, nl_5, nl_6, nl_7, nl_8, nl_9, nl_10, nl_11, nl_12, nl_13, nl_14, nl_15, nl_16, nl_17, nl_18, nl_19, nl_20, nl_21, nl_22, nl_23, nl_24, nl_25, nl_26, nl_27, nl_28, nl_31, nl_32, nl_42, nl_44, nl_46, nl_48, nl_49, nl_50, nl_51, nl_60, nl_75, nl_76, nl_99, nl_100, nl_108, nl_114, nl_117, nl_126, nl_255, nl_999, nl_2401, nl_9999, nl_12345, nl_65536, nl_1000000, nl_1103515245, nl_2147483647, iI_0, iI_neg, iI_add, iI_sub, iI_mul, iI_div, iI_mod, iI_lt, iI_le, iI_eq, iI_nat, iI_vp, ld_rd, ld_wl, lu_s, lu_t, lu_c, lu_j, forall_eq, Int.toNat_natCast, true_and, and_true, not_true, not_false_iff, Classical.not_not, forall_const, iI_inj]
    refine bo2 (sp_misSheet (by omega) hs) (fun c => bo2 (sp_misLane (by omega) hl) (fun c1 => ⟨fun c2 => ⟨fun c3 => ?_, fun c3 => by omega⟩, fun c2 => by omega⟩) (fun c1 => by omega)) (fun c => by omega)
    try simp (disch := omega) only [nl_0, nl_1, nl_2, nl_3, nl_4, nl_5, nl_6, nl_7, nl_8, nl_9, nl_10, nl_11, nl_12, nl_13, nl_14, nl_15, nl_16, nl_17, nl_18, nl_19, nl_20, nl_21, nl_22, nl_23, nl_24, nl_25, nl_26, nl_27, nl_28, nl_31, nl_32, nl_42, nl_44, nl_46, nl_48, nl_49, nl_50, nl_51, nl_60, nl_75, nl_76, nl_99, nl_100, nl_108, nl_114, nl_117, nl_126, nl_255, nl_999, nl_2401, nl_9999, nl_12345, nl_65536, nl_1000000, nl_1103515245, nl_2147483647, iI_0, iI_neg, iI_add, iI_sub, iI_mul, iI_div, iI_mod, iI_lt, iI_le, iI_eq, iI_nat, iI_vp, ld_rd, ld_wl, lu_s, lu_t, lu_c, lu_j, forall_eq, Int.toNat_natCast, true_and, and_true, not_true, not_false_iff, Classical.not_not, forall_const, iI_inj]
    exact hR e he P hP hQ
def r_drop (ln sz : Nat → Int) (s : Int) : Int := if s < 0 ∨ 3 < s then -1 else if ln s.toNat < 0 then -11 else sz s.toNat
theorem c_drop {d : Nat} (hd : 2 ≤ d) {M : mj_M} {ln sz : Nat → Int} {I : Nat → Nat → Int32} {s : Int} (hs : iR s) (hS : SC M ln sz I) (hI : SI ln sz) : ∃ M', mj_Sp d 26 [mj_r (13, 50, 0), mj_i (iI s)] M (some (mj_i (iI (r_drop ln sz s)))) M' ∧ fr [7] M M' ∧ SC M' (if 0 ≤ r_drop ln sz s then fu ln s.toNat (-1) else ln) sz I := by
  unfold iR at hs
  by_cases g : s < 0 ∨ 3 < s
  · have er : r_drop ln sz s = -1 := if_pos g
    rw [er]
    refine ⟨M, en_C_drop (k := 1) hd fun e he P hP hQ => rg_C_drop_0 hP ?_, fr.r0, hS⟩
    simp (disch := omega) only [nl_0, nl_1, nl_2, nl_3, nl_4, nl_5, nl_6, nl_7, nl_8, nl_9, nl_10, nl_11, nl_12, nl_13, nl_14, nl_15, nl_16, nl_17, nl_18, nl_19, nl_20, nl_21, nl_22, nl_23, nl_24, nl_25, nl_26, nl_27, nl_28, nl_31, nl_32, nl_42, nl_44, nl_46, nl_48, nl_49, nl_50, nl_51, nl_60, nl_75, nl_76, nl_99, nl_100, nl_108, nl_114, nl_117, nl_126, nl_255, nl_999, nl_2401, nl_9999, nl_12345, nl_65536, nl_1000000, nl_1103515245, nl_2147483647, iI_0, iI_neg, iI_add, iI_sub, iI_mul, iI_div, iI_mod, iI_lt, iI_le, iI_eq, iI_nat, iI_vp, ld_rd, ld_wl, lu_s, lu_t, lu_c, lu_j, forall_eq, Int.toNat_natCast, true_and, and_true, not_true, not_false_iff, Classical.not_not, forall_const, iI_inj]
    refine bo2 (sp_oI (by omega) (by omega) (by omega) (by omega)) (fun c => by (first | exact mj_eq.rf | exact fi_n mj_eq.rf | exact fi_i rfl mj_eq.rf | exact rfl)) (fun c => absurd g c)
  · have hS1 : s.toNat < 4 := by omega
    have h := hS s.toNat hS1
    rcases h.1 with ⟨e1, e2⟩ | ⟨e1, e2, e3, e4⟩
    · have er : r_drop ln sz s = -11 := by
        unfold r_drop
        rw [if_neg g, if_pos (by omega)]
      rw [er]
      refine ⟨M, en_C_drop (k := 1) hd fun e he P hP hQ => rg_C_drop_0 hP ?_, fr.r0, hS⟩
      simp (disch := omega) only [nl_0, nl_1, nl_2, nl_3, nl_4, nl_5, nl_6, nl_7, nl_8, nl_9, nl_10, nl_11, nl_12, nl_13, nl_14, nl_15, nl_16, nl_17, nl_18, nl_19, nl_20, nl_21, nl_22, nl_23, nl_24, nl_25, nl_26, nl_27, nl_28, nl_31, nl_32, nl_42, nl_44, nl_46, nl_48, nl_49, nl_50, nl_51, nl_60, nl_75, nl_76, nl_99, nl_100, nl_108, nl_114, nl_117, nl_126, nl_255, nl_999, nl_2401, nl_9999, nl_12345, nl_65536, nl_1000000, nl_1103515245, nl_2147483647, iI_0, iI_neg, iI_add, iI_sub, iI_mul, iI_div, iI_mod, iI_lt, iI_le, iI_eq, iI_nat, iI_vp, ld_rd, ld_wl, lu_s, lu_t, lu_c, lu_j, forall_eq, Int.toNat_natCast, true_and, and_true, not_true, not_false_iff, Classical.not_not, forall_const, iI_inj]
      refine bo2 (sp_oI (by omega) (by omega) (by omega) (by omega)) (fun c => absurd c g) (fun c => ?_)
      simp (disch := omega) only [nl_0, nl_1, nl_2, nl_3, nl_4, nl_5, nl_6, nl_7, nl_8, nl_9, nl_10, nl_11, nl_12, nl_13, nl_14, nl_15, nl_16, nl_17, nl_18, nl_19, nl_20, nl_21, nl_22, nl_23, nl_24, nl_25, nl_26, nl_27, nl_28, nl_31, nl_32, nl_42, nl_44, nl_46, nl_48, nl_49, nl_50, nl_51, nl_60, nl_75, nl_76, nl_99, nl_100, nl_108, nl_114, nl_117, nl_126, nl_255, nl_999, nl_2401, nl_9999, nl_12345, nl_65536, nl_1000000, nl_1103515245, nl_2147483647, iI_0, iI_neg, iI_add, iI_sub, iI_mul, iI_div, iI_mod, iI_lt, iI_le, iI_eq, iI_nat, iI_vp, ld_rd, ld_wl, lu_s, lu_t, lu_c, lu_j, forall_eq, Int.toNat_natCast, true_and, and_true, not_true, not_false_iff, Classical.not_not, forall_const, iI_inj, e2]
      exact ⟨fun z => z.elim, mj_eq.rf⟩
    · have er : r_drop ln sz s = sz s.toNat := by
        unfold r_drop
        rw [if_neg g, if_neg (by omega)]
      have hz := (hI s.toNat hS1).2 e1
      rw [er, if_pos (by omega)]
      refine ⟨mj_wl M (7, 47, s.toNat, 0) (iI 0), en_C_drop (k := 1) hd fun e he P hP hQ => rg_C_drop_0 hP ?_, fr.r0.wl (by decide), fun s' hs' => ?_⟩
      · have e5 : mj_wl M (7, 47, s.toNat, 0) (iI 0) 7 47 s.toNat 2 = iI (sz s.toNat) := (wl_n (by omega)).trans e4
        simp (disch := omega) only [nl_0, nl_1, nl_2, nl_3, nl_4, nl_5, nl_6, nl_7, nl_8, nl_9, nl_10, nl_11, nl_12, nl_13, nl_14, nl_15, nl_16, nl_17, nl_18, nl_19, nl_20, nl_21, nl_22, nl_23, nl_24, nl_25, nl_26, nl_27, nl_28, nl_31, nl_32, nl_42, nl_44, nl_46, nl_48, nl_49, nl_50, nl_51, nl_60, nl_75, nl_76, nl_99, nl_100, nl_108, nl_114, nl_117, nl_126, nl_255, nl_999, nl_2401, nl_9999, nl_12345, nl_65536, nl_1000000, nl_1103515245, nl_2147483647, iI_0, iI_neg, iI_add, iI_sub, iI_mul, iI_div, iI_mod, iI_lt, iI_le, iI_eq, iI_nat, iI_vp, ld_rd, ld_wl, lu_s, lu_t, lu_c, lu_j, forall_eq, Int.toNat_natCast, true_and, and_true, not_true, not_false_iff, Classical.not_not, forall_const, iI_inj]
        refine bo2 (sp_oI (by omega) (by omega) (by omega) (by omega)) (fun c => absurd c g) (fun c => ?_)
        simp (disch := omega) only [nl_0, nl_1, nl_2, nl_3, nl_4, nl_5, nl_6, nl_7, nl_8, nl_9, nl_10, nl_11, nl_12, nl_13, nl_14, nl_15, nl_16, nl_17, nl_18, nl_19, nl_20, nl_21, nl_22, nl_23, nl_24, nl_25, nl_26, nl_27, nl_28, nl_31, nl_32, nl_42, nl_44, nl_46, nl_48, nl_49, nl_50, nl_51, nl_60, nl_75, nl_76, nl_99, nl_100, nl_108, nl_114, nl_117, nl_126, nl_255, nl_999, nl_2401, nl_9999, nl_12345, nl_65536, nl_1000000, nl_1103515245, nl_2147483647, iI_0, iI_neg, iI_add, iI_sub, iI_mul, iI_div, iI_mod, iI_lt, iI_le, iI_eq, iI_nat, iI_vp, ld_rd, ld_wl, lu_s, lu_t, lu_c, lu_j, forall_eq, Int.toNat_natCast, true_and, and_true, not_true, not_false_iff, Classical.not_not, forall_const, iI_inj, e2, e5]
        exact ⟨fun _ => mj_eq.rf, fun z => absurd z (by decide)⟩
      · have h' := hS s' hs'
        unfold fu
        by_cases e : s' = s.toNat
        · rw [if_pos e, e]
          refine ⟨Or.inl ⟨rfl, wl_s⟩, fun j hj => ?_⟩
          rw [wl_n (by omega)]
          exact h.2 j hj
        · rw [if_neg e, wl_n (by omega), wl_n (by omega), wl_n (by omega)]
          refine ⟨h'.1, fun j hj => ?_⟩
          rw [wl_n (by omega)]
          exact h'.2 j hj
theorem m_drop {d : Nat} (hd : 3 ≤ d) {M : mj_M} {ln sz : Nat → Int} {I : Nat → Nat → Int32} {s : Int} (hs : iR s) (hS : SF M ln sz I) (hI : SI ln sz) : ∃ M', mj_Sp d 146 [mj_r (30, 60, 0), mj_i (iI s)] M (some (mj_i (iI (r_drop ln sz s)))) M' ∧ fr [35] M M' ∧ SF M' (if 0 ≤ r_drop ln sz s then fu ln s.toNat (-1) else ln) sz I := by
  by_cases g : s < 0 ∨ 3 < s
  · have er : r_drop ln sz s = -1 := if_pos g
    rw [er]
    refine ⟨M, en_m_drop (k := 2) hd fun e he P hP hQ => rg_m_drop_0 hP ?_, fr.r0, hS⟩
    simp (disch := omega) only [nl_0, nl_1, nl_2, nl_3, nl_4, nl_5, nl_6, nl_7, nl_8, nl_9, nl_10, nl_11, nl_12, nl_13, nl_14, nl_15, nl_16, nl_17, nl_18, nl_19, nl_20, nl_21, nl_22, nl_23, nl_24, nl_25, nl_26, nl_27, nl_28, nl_31, nl_32, nl_42, nl_44, nl_46, nl_48, nl_49, nl_50, nl_51, nl_60, nl_75, nl_76, nl_99, nl_100, nl_108, nl_114, nl_117, nl_126, nl_255, nl_999, nl_2401, nl_9999, nl_12345, nl_65536, nl_1000000, nl_1103515245, nl_2147483647, iI_0, iI_neg, iI_add, iI_sub, iI_mul, iI_div, iI_mod, iI_lt, iI_le, iI_eq, iI_nat, iI_vp, ld_rd, ld_wl, lu_s, lu_t, lu_c, lu_j, forall_eq, Int.toNat_natCast, true_and, and_true, not_true, not_false_iff, Classical.not_not, forall_const, iI_inj]
    refine bo1 (sp_misSheet (by omega) hs) (fun c => by omega) (fun c => by (first | exact mj_eq.rf | exact fi_n mj_eq.rf | exact fi_i rfl mj_eq.rf | exact rfl))
  · have hS1 : s.toNat < 4 := by omega
    have h := hS s.toNat hS1
    have hi := hI s.toNat hS1
    by_cases g2 : ln s.toNat < 0
    · have er : r_drop ln sz s = -11 := by
        unfold r_drop
        rw [if_neg g, if_pos g2]
      rw [er]
      refine ⟨M, en_m_drop (k := 2) hd fun e he P hP hQ => rg_m_drop_0 hP ?_, fr.r0, hS⟩
      simp (disch := omega) only [nl_0, nl_1, nl_2, nl_3, nl_4, nl_5, nl_6, nl_7, nl_8, nl_9, nl_10, nl_11, nl_12, nl_13, nl_14, nl_15, nl_16, nl_17, nl_18, nl_19, nl_20, nl_21, nl_22, nl_23, nl_24, nl_25, nl_26, nl_27, nl_28, nl_31, nl_32, nl_42, nl_44, nl_46, nl_48, nl_49, nl_50, nl_51, nl_60, nl_75, nl_76, nl_99, nl_100, nl_108, nl_114, nl_117, nl_126, nl_255, nl_999, nl_2401, nl_9999, nl_12345, nl_65536, nl_1000000, nl_1103515245, nl_2147483647, iI_0, iI_neg, iI_add, iI_sub, iI_mul, iI_div, iI_mod, iI_lt, iI_le, iI_eq, iI_nat, iI_vp, ld_rd, ld_wl, lu_s, lu_t, lu_c, lu_j, forall_eq, Int.toNat_natCast, true_and, and_true, not_true, not_false_iff, Classical.not_not, forall_const, iI_inj]
      refine bo1 (sp_misSheet (by omega) hs) (fun c => ?_) (fun c => by omega)
      unfold iR at hs
      simp (disch := omega) only [nl_0, nl_1, nl_2, nl_3, nl_4, nl_5, nl_6, nl_7, nl_8, nl_9, nl_10, nl_11, nl_12, nl_13, nl_14, nl_15, nl_16, nl_17, nl_18, nl_19, nl_20, nl_21, nl_22, nl_23, nl_24, nl_25, nl_26, nl_27, nl_28, nl_31, nl_32, nl_42, nl_44, nl_46, nl_48, nl_49, nl_50, nl_51, nl_60, nl_75, nl_76, nl_99, nl_100, nl_108, nl_114, nl_117, nl_126, nl_255, nl_999, nl_2401, nl_9999, nl_12345, nl_65536, nl_1000000, nl_1103515245, nl_2147483647, iI_0, iI_neg, iI_add, iI_sub, iI_mul, iI_div, iI_mod, iI_lt, iI_le, iI_eq, iI_nat, iI_vp, ld_rd, ld_wl, lu_s, lu_t, lu_c, lu_j, forall_eq, Int.toNat_natCast, true_and, and_true, not_true, not_false_iff, Classical.not_not, forall_const, iI_inj, h.1]
      exact ⟨fun z => by omega, fun _ => by (first | exact mj_eq.rf | exact fi_n mj_eq.rf | exact fi_i rfl mj_eq.rf | exact rfl)⟩
    · have er : r_drop ln sz s = sz s.toNat := by
        unfold r_drop
        rw [if_neg g, if_neg g2]
      have hz := hi.2 (by omega)
      have h70 := h.2.1 (by omega)
      rw [er, if_pos (by omega)]
      refine ⟨mj_wl M (35, 69, 0, s.toNat) (iI (-1)), en_m_drop (k := 2) hd fun e he P hP hQ => rg_m_drop_0 hP ?_, fr.r0.wl (by decide), fun s' hs' => ?_⟩
      · have e5 : mj_wl M (35, 69, 0, s.toNat) (iI (-1)) 35 70 0 s.toNat = iI (sz s.toNat) := (wl_n (by omega)).trans h70
        simp (disch := omega) only [nl_0, nl_1, nl_2, nl_3, nl_4, nl_5, nl_6, nl_7, nl_8, nl_9, nl_10, nl_11, nl_12, nl_13, nl_14, nl_15, nl_16, nl_17, nl_18, nl_19, nl_20, nl_21, nl_22, nl_23, nl_24, nl_25, nl_26, nl_27, nl_28, nl_31, nl_32, nl_42, nl_44, nl_46, nl_48, nl_49, nl_50, nl_51, nl_60, nl_75, nl_76, nl_99, nl_100, nl_108, nl_114, nl_117, nl_126, nl_255, nl_999, nl_2401, nl_9999, nl_12345, nl_65536, nl_1000000, nl_1103515245, nl_2147483647, iI_0, iI_neg, iI_add, iI_sub, iI_mul, iI_div, iI_mod, iI_lt, iI_le, iI_eq, iI_nat, iI_vp, ld_rd, ld_wl, lu_s, lu_t, lu_c, lu_j, forall_eq, Int.toNat_natCast, true_and, and_true, not_true, not_false_iff, Classical.not_not, forall_const, iI_inj]
        refine bo1 (sp_misSheet (by omega) hs) (fun c => ?_) (fun c => by omega)
        unfold iR at hs
        simp (disch := omega) only [nl_0, nl_1, nl_2, nl_3, nl_4, nl_5, nl_6, nl_7, nl_8, nl_9, nl_10, nl_11, nl_12, nl_13, nl_14, nl_15, nl_16, nl_17, nl_18, nl_19, nl_20, nl_21, nl_22, nl_23, nl_24, nl_25, nl_26, nl_27, nl_28, nl_31, nl_32, nl_42, nl_44, nl_46, nl_48, nl_49, nl_50, nl_51, nl_60, nl_75, nl_76, nl_99, nl_100, nl_108, nl_114, nl_117, nl_126, nl_255, nl_999, nl_2401, nl_9999, nl_12345, nl_65536, nl_1000000, nl_1103515245, nl_2147483647, iI_0, iI_neg, iI_add, iI_sub, iI_mul, iI_div, iI_mod, iI_lt, iI_le, iI_eq, iI_nat, iI_vp, ld_rd, ld_wl, lu_s, lu_t, lu_c, lu_j, forall_eq, Int.toNat_natCast, true_and, and_true, not_true, not_false_iff, Classical.not_not, forall_const, iI_inj, h.1, e5]
        exact ⟨fun _ => by (first | exact mj_eq.rf | exact fi_n mj_eq.rf | exact fi_i rfl mj_eq.rf | exact rfl), fun z => by omega⟩
      · have h' := hS s' hs'
        unfold fu
        refine ⟨?_, fun h0 => ?_, fun j hj => ?_⟩
        · by_cases e : s' = s.toNat
          · rw [if_pos e, e, wl_s]
          · rw [if_neg e, wl_n (by omega)]
            exact h'.1
        · by_cases e : s' = s.toNat
          · rw [if_pos e] at h0
            omega
          · rw [if_neg e] at h0
            rw [wl_n (by omega)]
            exact h'.2.1 h0
        · rw [wl_n (by omega)]
          exact h'.2.2 j hj
/-! film -/
def fI (A : lA) (I : Nat → Nat → Int32) (lane : Int) (row s i : Nat) : Nat → Nat → Nat → Int32
  | 0 => I
  | k + 1 => iu (fI A I lane row s i k) s (i + k) (pv lane (iI (A 9 0 (5 * row + k))).toInt64)
def r_film (ln sz : Nat → Int) (row s lane i : Int) : Int := if row < 0 ∨ 4 < row then -1 else r_item ln sz s lane i 5 5
theorem c_film {d : Nat} (hd : 3 ≤ d) {A : lA} {M : mj_M} {ln sz : Nat → Int} {I : Nat → Nat → Int32} {row s lane i : Int} (hr : iR row) (hs : iR s) (hl : iR lane) (hi : iR i) (hS : SC M ln sz I) (hI : SI ln sz) : ∃ M', mj_Sp d 24 [mj_r (13, 50, 0), mj_i (iI row), mj_i (iI s), mj_i (iI lane), mj_i (iI i)] (mj_ld M 0 A) (some (mj_i (iI (r_film ln sz row s lane i)))) (mj_ld M' 0 A) ∧ fr [7] M M' ∧ SC M' ln sz (if r_film ln sz row s lane i = 5 then fI A I lane row.toNat s.toNat i.toNat 5 else I) := by
  have hS0 : SC (mj_ld M 0 A) ln sz I := hS.p (ld_p (by decide))
  by_cases g0 : row < 0 ∨ 4 < row
  · have er : r_film ln sz row s lane i = -1 := if_pos g0
    rw [er]
    refine ⟨M, en_C_film (k := 2) hd fun e he P hP hQ => rg_C_film_0 hP ?_, fr.r0, hS⟩
    unfold iR at hr
    simp (disch := omega) only [nl_0, nl_1, nl_2, nl_3, nl_4, nl_5, nl_6, nl_7, nl_8, nl_9, nl_10, nl_11, nl_12, nl_13, nl_14, nl_15, nl_16, nl_17, nl_18, nl_19, nl_20, nl_21, nl_22, nl_23, nl_24, nl_25, nl_26, nl_27, nl_28, nl_31, nl_32, nl_42, nl_44, nl_46, nl_48, nl_49, nl_50, nl_51, nl_60, nl_75, nl_76, nl_99, nl_100, nl_108, nl_114, nl_117, nl_126, nl_255, nl_999, nl_2401, nl_9999, nl_12345, nl_65536, nl_1000000, nl_1103515245, nl_2147483647, iI_0, iI_neg, iI_add, iI_sub, iI_mul, iI_div, iI_mod, iI_lt, iI_le, iI_eq, iI_nat, iI_vp, ld_rd, ld_wl, lu_s, lu_t, lu_c, lu_j, forall_eq, Int.toNat_natCast, true_and, and_true, not_true, not_false_iff, Classical.not_not, forall_const, iI_inj]
    refine bo1 (sp_oI (by omega) (by omega) (by omega) (by omega)) (fun c => by (first | exact mj_eq.rf | exact fi_n mj_eq.rf | exact fi_i rfl mj_eq.rf | exact rfl)) (fun c => absurd g0 c)
  · have er : r_film ln sz row s lane i = r_item ln sz s lane i 5 5 := if_neg g0
    rw [er]
    by_cases g : s < 0 ∨ 3 < s ∨ lane < 0 ∨ 2 < lane
    · have er : r_item ln sz s lane i 5 5 = -1 := if_pos g
      rw [er]
      refine ⟨M, en_C_film (k := 2) hd fun e he P hP hQ => rg_C_film_0 hP ?_, fr.r0, hS⟩
      unfold iR at hr
      simp (disch := omega) only [nl_0, nl_1, nl_2, nl_3, nl_4, nl_5, nl_6, nl_7, nl_8, nl_9, nl_10, nl_11, nl_12, nl_13, nl_14, nl_15, nl_16, nl_17, nl_18, nl_19, nl_20, nl_21, nl_22, nl_23, nl_24, nl_25, nl_26, nl_27, nl_28, nl_31, nl_32, nl_42, nl_44, nl_46, nl_48, nl_49, nl_50, nl_51, nl_60, nl_75, nl_76, nl_99, nl_100, nl_108, nl_114, nl_117, nl_126, nl_255, nl_999, nl_2401, nl_9999, nl_12345, nl_65536, nl_1000000, nl_1103515245, nl_2147483647, iI_0, iI_neg, iI_add, iI_sub, iI_mul, iI_div, iI_mod, iI_lt, iI_le, iI_eq, iI_nat, iI_vp, ld_rd, ld_wl, lu_s, lu_t, lu_c, lu_j, forall_eq, Int.toNat_natCast, true_and, and_true, not_true, not_false_iff, Classical.not_not, forall_const, iI_inj]
      refine bo1 (sp_oI (by omega) (by omega) (by omega) (by omega)) (fun c => absurd c g0) (fun _ => bo2 (sp_noRowI (by omega) hs hl) (fun c => by (first | exact mj_eq.rf | exact fi_n mj_eq.rf | exact fi_i rfl mj_eq.rf | exact rfl)) (fun c => absurd g c))
    · have hS1 : s.toNat < 4 := by omega
      have h1 := hI s.toNat hS1
      obtain ⟨s, rfl⟩ := nat_iR (show 0 ≤ s by omega)
      obtain ⟨row, rfl⟩ := nat_iR (show 0 ≤ row by omega)
      have fr1 := fo4_r (ln := ln) (sz := sz) (s := s) (lane := lane) (i := i) (n := 5)
      have pre : ∀ e, 2 ≤ e → mj_Sp e 69 [mj_r (7, 47, s), mj_i (iI lane), mj_i (iI i), mj_i (iI 5)] (mj_ld M 0 A) (some (mj_i (iI (fo4 ln sz s lane i 5)))) (mj_ld M 0 A) := fun e he => sp_faultOf he hS0 hI hS1 (by omega) hi ⟨by decide, by decide⟩
      by_cases f : fo4 ln sz s lane i 5 = 0
      · have er : r_item ln sz s lane i 5 5 = 5 := by
          unfold r_item
          rw [if_neg g]
          exact if_pos f
        have f0 := fo4_0 f
        have h2 := h1.2 f0.1
        have h2' : 0 ≤ sz s ∧ sz s ≤ 25 := h2
        obtain ⟨i, rfl⟩ := nat_iR f0.2.2.1
        rw [er, if_pos rfl]
        have key : ∀ k, k ≤ 5 → ∀ N, fr [7] M N → SC N ln sz (fI A I lane row s i k) → ∃ M', (fr [7] M M' ∧ SC M' ln sz (fI A I lane row s i 5)) ∧ Rn mj_c24 2 45 [some (mj_r (13, 50, 0)), some (mj_i (iI (row : Int))), some (mj_i (iI (s : Int))), some (mj_i (iI lane)), some (mj_i (iI (i : Int))), some (mj_i (iI 0)), some (mj_i (iI (k : Int)))] (mj_ld N 0 A) (some (mj_i (iI 5))) (mj_ld M' 0 A) := by
          refine lp_dn (Q := fun k => ∀ N, fr [7] M N → SC N ln sz (fI A I lane row s i k) → ∃ M', (fr [7] M M' ∧ SC M' ln sz (fI A I lane row s i 5)) ∧ Rn mj_c24 2 45 [some (mj_r (13, 50, 0)), some (mj_i (iI (row : Int))), some (mj_i (iI (s : Int))), some (mj_i (iI lane)), some (mj_i (iI (i : Int))), some (mj_i (iI 0)), some (mj_i (iI (k : Int)))] (mj_ld N 0 A) (some (mj_i (iI 5))) (mj_ld M' 0 A)) (n := 5) (fun N hf hN => ?_) (fun k hk ih N hf hN => ?_)
          · refine ⟨N, ⟨hf, hN⟩, fun e he P hP hQ => rg_C_film_45 hP ⟨fun z => by (first | exact mj_eq.rf | exact fi_n mj_eq.rf | exact fi_i rfl mj_eq.rf | exact rfl), fun z => ?_⟩⟩
            simp (disch := omega) only [nl_0, nl_1, nl_2, nl_3, nl_4, nl_5, nl_6, nl_7, nl_8, nl_9, nl_10, nl_11, nl_12, nl_13, nl_14, nl_15, nl_16, nl_17, nl_18, nl_19, nl_20, nl_21, nl_22, nl_23, nl_24, nl_25, nl_26, nl_27, nl_28, nl_31, nl_32, nl_42, nl_44, nl_46, nl_48, nl_49, nl_50, nl_51, nl_60, nl_75, nl_76, nl_99, nl_100, nl_108, nl_114, nl_117, nl_126, nl_255, nl_999, nl_2401, nl_9999, nl_12345, nl_65536, nl_1000000, nl_1103515245, nl_2147483647, iI_0, iI_neg, iI_add, iI_sub, iI_mul, iI_div, iI_mod, iI_lt, iI_le, iI_eq, iI_nat, iI_vp, ld_rd, ld_wl, lu_s, lu_t, lu_c, lu_j, forall_eq, Int.toNat_natCast, true_and, and_true, not_true, not_false_iff, Classical.not_not, forall_const, iI_inj] at z
            omega
          · have hln : mj_ld N 0 A 7 47 s 1 = iI lane := by
              rw [ld_p (by decide)]
              rcases (hN s hS1).1 with h | h
              · exact absurd f0.1 (by rw [h.1]; decide)
              · rw [h.2.2.1, f0.2.1]
            have t1 : (5 * (row : Int) + (k : Int)).toNat = 5 * row + k := by omega
            obtain ⟨M', hG, hR⟩ := ih (mj_wl N (7, 48, s, i + k) (pv lane (iI (A 9 0 (5 * row + k))).toInt64)) (hf.wl (by decide)) hN.k_iu
            refine ⟨M', hG, fun e he P hP hQ => rg_C_film_45 hP ⟨fun z => ?_, fun z => ?_⟩⟩
            · simp (disch := omega) only [nl_0, nl_1, nl_2, nl_3, nl_4, nl_5, nl_6, nl_7, nl_8, nl_9, nl_10, nl_11, nl_12, nl_13, nl_14, nl_15, nl_16, nl_17, nl_18, nl_19, nl_20, nl_21, nl_22, nl_23, nl_24, nl_25, nl_26, nl_27, nl_28, nl_31, nl_32, nl_42, nl_44, nl_46, nl_48, nl_49, nl_50, nl_51, nl_60, nl_75, nl_76, nl_99, nl_100, nl_108, nl_114, nl_117, nl_126, nl_255, nl_999, nl_2401, nl_9999, nl_12345, nl_65536, nl_1000000, nl_1103515245, nl_2147483647, iI_0, iI_neg, iI_add, iI_sub, iI_mul, iI_div, iI_mod, iI_lt, iI_le, iI_eq, iI_nat, iI_vp, ld_rd, ld_wl, lu_s, lu_t, lu_c, lu_j, forall_eq, Int.toNat_natCast, true_and, and_true, not_true, not_false_iff, Classical.not_not, forall_const, iI_inj] at z
              omega
            · simp (disch := omega) only [nl_0, nl_1, nl_2, nl_3, nl_4, nl_5, nl_6, nl_7, nl_8, nl_9, nl_10, nl_11, nl_12, nl_13, nl_14, nl_15, nl_16, nl_17, nl_18, nl_19, nl_20, nl_21, nl_22, nl_23, nl_24, nl_25, nl_26, nl_27, nl_28, nl_31, nl_32, nl_42, nl_44, nl_46, nl_48, nl_49, nl_50, nl_51, nl_60, nl_75, nl_76, nl_99, nl_100, nl_108, nl_114, nl_117, nl_126, nl_255, nl_999, nl_2401, nl_9999, nl_12345, nl_65536, nl_1000000, nl_1103515245, nl_2147483647, iI_0, iI_neg, iI_add, iI_sub, iI_mul, iI_div, iI_mod, iI_lt, iI_le, iI_eq, iI_nat, iI_vp, ld_rd, ld_wl, lu_s, lu_t, lu_c, lu_j, forall_eq, Int.toNat_natCast, true_and, and_true, not_true, not_false_iff, Classical.not_not, forall_const, iI_inj, t1]
              refine ⟨_, sp_put (i := i + k) (by omega) hln (by omega) (by omega), ?_⟩
              rw [wl_ld (by decide)]
              exact hR e he P hP hQ
        obtain ⟨M', hG, hR⟩ := key 0 (Nat.zero_le _) M fr.r0 hS
        refine ⟨M', en_C_film (k := 2) hd fun e he P hP hQ => rg_C_film_0 hP ?_, hG⟩
        unfold iR at hr
        simp (disch := omega) only [nl_0, nl_1, nl_2, nl_3, nl_4, nl_5, nl_6, nl_7, nl_8, nl_9, nl_10, nl_11, nl_12, nl_13, nl_14, nl_15, nl_16, nl_17, nl_18, nl_19, nl_20, nl_21, nl_22, nl_23, nl_24, nl_25, nl_26, nl_27, nl_28, nl_31, nl_32, nl_42, nl_44, nl_46, nl_48, nl_49, nl_50, nl_51, nl_60, nl_75, nl_76, nl_99, nl_100, nl_108, nl_114, nl_117, nl_126, nl_255, nl_999, nl_2401, nl_9999, nl_12345, nl_65536, nl_1000000, nl_1103515245, nl_2147483647, iI_0, iI_neg, iI_add, iI_sub, iI_mul, iI_div, iI_mod, iI_lt, iI_le, iI_eq, iI_nat, iI_vp, ld_rd, ld_wl, lu_s, lu_t, lu_c, lu_j, forall_eq, Int.toNat_natCast, true_and, and_true, not_true, not_false_iff, Classical.not_not, forall_const, iI_inj]
        refine bo1 (sp_oI (by omega) (by omega) (by omega) (by omega)) (fun c => absurd c g0) (fun _ => bo2 (sp_noRowI (by omega) hs hl) (fun c => absurd c g) (fun c => ?_))
        unfold iR at hs
        try simp (disch := omega) only [nl_0, nl_1, nl_2, nl_3, nl_4, nl_5, nl_6, nl_7, nl_8, nl_9, nl_10, nl_11, nl_12, nl_13, nl_14, nl_15, nl_16, nl_17, nl_18, nl_19, nl_20, nl_21, nl_22, nl_23, nl_24, nl_25, nl_26, nl_27, nl_28, nl_31, nl_32, nl_42, nl_44, nl_46, nl_48, nl_49, nl_50, nl_51, nl_60, nl_75, nl_76, nl_99, nl_100, nl_108, nl_114, nl_117, nl_126, nl_255, nl_999, nl_2401, nl_9999, nl_12345, nl_65536, nl_1000000, nl_1103515245, nl_2147483647, iI_0, iI_neg, iI_add, iI_sub, iI_mul, iI_div, iI_mod, iI_lt, iI_le, iI_eq, iI_nat, iI_vp, ld_rd, ld_wl, lu_s, lu_t, lu_c, lu_j, forall_eq, Int.toNat_natCast, true_and, and_true, not_true, not_false_iff, Classical.not_not, forall_const, iI_inj]
        refine ⟨_, _, pre e he, ?_⟩
        rw [f]
        exact ⟨fun _ => hR e he P hP hQ, fun z => absurd rfl z⟩
      · have er : r_item ln sz s lane i 5 5 = fo4 ln sz s lane i 5 := by
          unfold r_item
          rw [if_neg g]
          exact if_neg f
        rw [er, if_neg (by omega)]
        refine ⟨M, en_C_film (k := 2) hd fun e he P hP hQ => rg_C_film_0 hP ?_, fr.r0, hS⟩
        unfold iR at hr
        simp (disch := omega) only [nl_0, nl_1, nl_2, nl_3, nl_4, nl_5, nl_6, nl_7, nl_8, nl_9, nl_10, nl_11, nl_12, nl_13, nl_14, nl_15, nl_16, nl_17, nl_18, nl_19, nl_20, nl_21, nl_22, nl_23, nl_24, nl_25, nl_26, nl_27, nl_28, nl_31, nl_32, nl_42, nl_44, nl_46, nl_48, nl_49, nl_50, nl_51, nl_60, nl_75, nl_76, nl_99, nl_100, nl_108, nl_114, nl_117, nl_126, nl_255, nl_999, nl_2401, nl_9999, nl_12345, nl_65536, nl_1000000, nl_1103515245, nl_2147483647, iI_0, iI_neg, iI_add, iI_sub, iI_mul, iI_div, iI_mod, iI_lt, iI_le, iI_eq, iI_nat, iI_vp, ld_rd, ld_wl, lu_s, lu_t, lu_c, lu_j, forall_eq, Int.toNat_natCast, true_and, and_true, not_true, not_false_iff, Classical.not_not, forall_const, iI_inj]
        refine bo1 (sp_oI (by omega) (by omega) (by omega) (by omega)) (fun c => absurd c g0) (fun _ => bo2 (sp_noRowI (by omega) hs hl) (fun c => absurd c g) (fun c => ?_))
        unfold iR at hs
        try simp (disch := omega) only [nl_0, nl_1, nl_2, nl_3, nl_4, nl_5, nl_6, nl_7, nl_8, nl_9, nl_10, nl_11, nl_12, nl_13, nl_14, nl_15, nl_16, nl_17, nl_18, nl_19, nl_20, nl_21, nl_22, nl_23, nl_24, nl_25, nl_26, nl_27, nl_28, nl_31, nl_32, nl_42, nl_44, nl_46, nl_48, nl_49, nl_50, nl_51, nl_60, nl_75, nl_76, nl_99, nl_100, nl_108, nl_114, nl_117, nl_126, nl_255, nl_999, nl_2401, nl_9999, nl_12345, nl_65536, nl_1000000, nl_1103515245, nl_2147483647, iI_0, iI_neg, iI_add, iI_sub, iI_mul, iI_div, iI_mod, iI_lt, iI_le, iI_eq, iI_nat, iI_vp, ld_rd, ld_wl, lu_s, lu_t, lu_c, lu_j, forall_eq, Int.toNat_natCast, true_and, and_true, not_true, not_false_iff, Classical.not_not, forall_const, iI_inj]
        refine ⟨_, _, pre e he, ?_⟩
        simp (disch := omega) only [nl_0, nl_1, nl_2, nl_3, nl_4, nl_5, nl_6, nl_7, nl_8, nl_9, nl_10, nl_11, nl_12, nl_13, nl_14, nl_15, nl_16, nl_17, nl_18, nl_19, nl_20, nl_21, nl_22, nl_23, nl_24, nl_25, nl_26, nl_27, nl_28, nl_31, nl_32, nl_42, nl_44, nl_46, nl_48, nl_49, nl_50, nl_51, nl_60, nl_75, nl_76, nl_99, nl_100, nl_108, nl_114, nl_117, nl_126, nl_255, nl_999, nl_2401, nl_9999, nl_12345, nl_65536, nl_1000000, nl_1103515245, nl_2147483647, iI_0, iI_neg, iI_add, iI_sub, iI_mul, iI_div, iI_mod, iI_lt, iI_le, iI_eq, iI_nat, iI_vp, ld_rd, ld_wl, lu_s, lu_t, lu_c, lu_j, forall_eq, Int.toNat_natCast, true_and, and_true, not_true, not_false_iff, Classical.not_not, forall_const, iI_inj]
        exact ⟨fun z => absurd z f, fun _ => by (first | exact mj_eq.rf | exact fi_n mj_eq.rf | exact fi_i rfl mj_eq.rf | exact rfl)⟩
theorem m_film {d : Nat} (hd : 3 ≤ d) {A : lA} {M : mj_M} {ln sz : Nat → Int} {I : Nat → Nat → Int32} {row s lane i : Int} (hr : iR row) (hs : iR s) (hl : iR lane) (hi : iR i) (hS : SF M ln sz I) (hI : SI ln sz) : ∃ M', mj_Sp d 144 [mj_r (30, 60, 0), mj_i (iI row), mj_i (iI s), mj_i (iI lane), mj_i (iI i)] (mj_ld M 14 A) (some (mj_i (iI (r_film ln sz row s lane i)))) (mj_ld M' 14 A) ∧ fr [35] M M' ∧ SF M' ln sz (if r_film ln sz row s lane i = 5 then fI A I lane row.toNat s.toNat i.toNat 5 else I) := by
  have hS0 : SF (mj_ld M 14 A) ln sz I := hS.p (ld_p (by decide))
  by_cases g0 : row < 0 ∨ 4 < row
  · have er : r_film ln sz row s lane i = -1 := if_pos g0
    rw [er]
    refine ⟨M, en_m_film (k := 2) hd fun e he P hP hQ => rg_m_film_0 hP ?_, fr.r0, hS⟩
    unfold iR at hr
    simp (disch := omega) only [nl_0, nl_1, nl_2, nl_3, nl_4, nl_5, nl_6, nl_7, nl_8, nl_9, nl_10, nl_11, nl_12, nl_13, nl_14, nl_15, nl_16, nl_17, nl_18, nl_19, nl_20, nl_21, nl_22, nl_23, nl_24, nl_25, nl_26, nl_27, nl_28, nl_31, nl_32, nl_42, nl_44, nl_46, nl_48, nl_49, nl_50, nl_51, nl_60, nl_75, nl_76, nl_99, nl_100, nl_108, nl_114, nl_117, nl_126, nl_255, nl_999, nl_2401, nl_9999, nl_12345, nl_65536, nl_1000000, nl_1103515245, nl_2147483647, iI_0, iI_neg, iI_add, iI_sub, iI_mul, iI_div, iI_mod, iI_lt, iI_le, iI_eq, iI_nat, iI_vp, ld_rd, ld_wl, lu_s, lu_t, lu_c, lu_j, forall_eq, Int.toNat_natCast, true_and, and_true, not_true, not_false_iff, Classical.not_not, forall_const, iI_inj, lI_iI, ll_0, ll_4]
    refine bo2 (sp_mI (by omega) (by omega) (by omega) (by omega)) (fun c => by omega) (fun c => by (first | exact mj_eq.rf | exact fi_n mj_eq.rf | exact fi_i rfl mj_eq.rf | exact rfl))
  · have er : r_film ln sz row s lane i = r_item ln sz s lane i 5 5 := if_neg g0
    rw [er]
    by_cases g : s < 0 ∨ 3 < s ∨ lane < 0 ∨ 2 < lane
    · have er : r_item ln sz s lane i 5 5 = -1 := if_pos g
      rw [er]
      refine ⟨M, en_m_film (k := 2) hd fun e he P hP hQ => rg_m_film_0 hP ?_, fr.r0, hS⟩
      unfold iR at hr
      simp (disch := omega) only [nl_0, nl_1, nl_2, nl_3, nl_4, nl_5, nl_6, nl_7, nl_8, nl_9, nl_10, nl_11, nl_12, nl_13, nl_14, nl_15, nl_16, nl_17, nl_18, nl_19, nl_20, nl_21, nl_22, nl_23, nl_24, nl_25, nl_26, nl_27, nl_28, nl_31, nl_32, nl_42, nl_44, nl_46, nl_48, nl_49, nl_50, nl_51, nl_60, nl_75, nl_76, nl_99, nl_100, nl_108, nl_114, nl_117, nl_126, nl_255, nl_999, nl_2401, nl_9999, nl_12345, nl_65536, nl_1000000, nl_1103515245, nl_2147483647, iI_0, iI_neg, iI_add, iI_sub, iI_mul, iI_div, iI_mod, iI_lt, iI_le, iI_eq, iI_nat, iI_vp, ld_rd, ld_wl, lu_s, lu_t, lu_c, lu_j, forall_eq, Int.toNat_natCast, true_and, and_true, not_true, not_false_iff, Classical.not_not, forall_const, iI_inj, lI_iI, ll_0, ll_4]
      refine bo2 (sp_mI (by omega) (by omega) (by omega) (by omega)) (fun _ => bo2 (sp_misSheet (by omega) hs) (fun c => bo1 (sp_misLane (by omega) hl) (fun c2 => by omega) (fun c2 => by (first | exact mj_eq.rf | exact fi_n mj_eq.rf | exact fi_i rfl mj_eq.rf | exact rfl))) (fun c => by (first | exact mj_eq.rf | exact fi_n mj_eq.rf | exact fi_i rfl mj_eq.rf | exact rfl))) (fun c => by omega)
    · have hS1 : s.toNat < 4 := by omega
      have h1 := hI s.toNat hS1
      obtain ⟨s, rfl⟩ := nat_iR (show 0 ≤ s by omega)
      obtain ⟨row, rfl⟩ := nat_iR (show 0 ≤ row by omega)
      have fr1 := fo4_r (ln := ln) (sz := sz) (s := s) (lane := lane) (i := i) (n := 5)
      have pre : ∀ e, 2 ≤ e → mj_Sp e 140 [mj_r (30, 60, 0), mj_i (iI (s : Int)), mj_i (iI lane), mj_i (iI i), mj_i (iI 5)] (mj_ld M 14 A) (some (mj_i (iI (fo4 ln sz s lane i 5)))) (mj_ld M 14 A) := fun e he => sp_mwhy (by omega) hS0 hI hS1 (by omega) hi ⟨by decide, by decide⟩ (by decide)
      by_cases f : fo4 ln sz s lane i 5 = 0
      · have er : r_item ln sz s lane i 5 5 = 5 := by
          unfold r_item
          rw [if_neg g]
          exact if_pos f
        have f0 := fo4_0 f
        have h2 := h1.2 f0.1
        have h2' : 0 ≤ sz s ∧ sz s ≤ 25 := h2
        obtain ⟨i, rfl⟩ := nat_iR f0.2.2.1
        rw [er, if_pos rfl]
        have key : ∀ k, k ≤ 5 → ∀ N, fr [35] M N → SF N ln sz (fI A I lane row s i k) → ∃ M', (fr [35] M M' ∧ SF M' ln sz (fI A I lane row s i 5)) ∧ Rn mj_c144 2 50 [some (mj_r (30, 60, 0)), some (mj_i (iI (row : Int))), some (mj_i (iI (s : Int))), some (mj_i (iI lane)), some (mj_i (iI (i : Int))), some (mj_i (iI 0)), some (mj_i (iI (k : Int)))] (mj_ld N 14 A) (some (mj_i (iI 5))) (mj_ld M' 14 A) := by
          refine lp_dn (Q := fun k => ∀ N, fr [35] M N → SF N ln sz (fI A I lane row s i k) → ∃ M', (fr [35] M M' ∧ SF M' ln sz (fI A I lane row s i 5)) ∧ Rn mj_c144 2 50 [some (mj_r (30, 60, 0)), some (mj_i (iI (row : Int))), some (mj_i (iI (s : Int))), some (mj_i (iI lane)), some (mj_i (iI (i : Int))), some (mj_i (iI 0)), some (mj_i (iI (k : Int)))] (mj_ld N 14 A) (some (mj_i (iI 5))) (mj_ld M' 14 A)) (n := 5) (fun N hf hN => ?_) (fun k hk ih N hf hN => ?_)
          · refine ⟨N, ⟨hf, hN⟩, fun e he P hP hQ => rg_m_film_50 hP ⟨fun z => by (first | exact mj_eq.rf | exact fi_n mj_eq.rf | exact fi_i rfl mj_eq.rf | exact rfl), fun z => ?_⟩⟩
            simp (disch := omega) only [nl_0, nl_1, nl_2, nl_3, nl_4, nl_5, nl_6, nl_7, nl_8, nl_9, nl_10, nl_11, nl_12, nl_13, nl_14, nl_15, nl_16, nl_17, nl_18, nl_19, nl_20, nl_21, nl_22, nl_23, nl_24, nl_25, nl_26, nl_27, nl_28, nl_31, nl_32, nl_42, nl_44, nl_46, nl_48, nl_49, nl_50, nl_51, nl_60, nl_75, nl_76, nl_99, nl_100, nl_108, nl_114, nl_117, nl_126, nl_255, nl_999, nl_2401, nl_9999, nl_12345, nl_65536, nl_1000000, nl_1103515245, nl_2147483647, iI_0, iI_neg, iI_add, iI_sub, iI_mul, iI_div, iI_mod, iI_lt, iI_le, iI_eq, iI_nat, iI_vp, ld_rd, ld_wl, lu_s, lu_t, lu_c, lu_j, forall_eq, Int.toNat_natCast, true_and, and_true, not_true, not_false_iff, Classical.not_not, forall_const, iI_inj] at z
            omega
          · have hln : mj_ld N 14 A 35 69 0 s = iI lane := by
              rw [ld_p (by decide), (hN s hS1).1, f0.2.1]
            have t1 : mj_rd (mj_ld N 14 A) (14, 61, 0) (50 + 5 * (row : Int) + (k : Int)).toNat = iI (A 9 0 (5 * row + k)) := by
              rw [show (50 : Int) + 5 * (row : Int) + (k : Int) = 50 + (5 * (row : Int) + (k : Int)) by omega, nd, nlF (by omega) (by omega)]
              rw [show (5 * (row : Int) + (k : Int)).toNat = 5 * row + k by omega]
            obtain ⟨M', hG, hR⟩ := ih (mj_wl N (35, 71, 0, 25 * s + (i + k)) (pv lane (iI (A 9 0 (5 * row + k))).toInt64)) (hf.wl (by decide)) (hN.k_iu (by omega))
            refine ⟨M', hG, fun e he P hP hQ => rg_m_film_50 hP ⟨fun z => ?_, fun z => ?_⟩⟩
            · simp (disch := omega) only [nl_0, nl_1, nl_2, nl_3, nl_4, nl_5, nl_6, nl_7, nl_8, nl_9, nl_10, nl_11, nl_12, nl_13, nl_14, nl_15, nl_16, nl_17, nl_18, nl_19, nl_20, nl_21, nl_22, nl_23, nl_24, nl_25, nl_26, nl_27, nl_28, nl_31, nl_32, nl_42, nl_44, nl_46, nl_48, nl_49, nl_50, nl_51, nl_60, nl_75, nl_76, nl_99, nl_100, nl_108, nl_114, nl_117, nl_126, nl_255, nl_999, nl_2401, nl_9999, nl_12345, nl_65536, nl_1000000, nl_1103515245, nl_2147483647, iI_0, iI_neg, iI_add, iI_sub, iI_mul, iI_div, iI_mod, iI_lt, iI_le, iI_eq, iI_nat, iI_vp, ld_rd, ld_wl, lu_s, lu_t, lu_c, lu_j, forall_eq, Int.toNat_natCast, true_and, and_true, not_true, not_false_iff, Classical.not_not, forall_const, iI_inj] at z
              omega
            · simp (disch := omega) only [nl_0, nl_1, nl_2, nl_3, nl_4, nl_5, nl_6, nl_7, nl_8, nl_9, nl_10, nl_11, nl_12, nl_13, nl_14, nl_15, nl_16, nl_17, nl_18, nl_19, nl_20, nl_21, nl_22, nl_23, nl_24, nl_25, nl_26, nl_27, nl_28, nl_31, nl_32, nl_42, nl_44, nl_46, nl_48, nl_49, nl_50, nl_51, nl_60, nl_75, nl_76, nl_99, nl_100, nl_108, nl_114, nl_117, nl_126, nl_255, nl_999, nl_2401, nl_9999, nl_12345, nl_65536, nl_1000000, nl_1103515245, nl_2147483647, iI_0, iI_neg, iI_add, iI_sub, iI_mul, iI_div, iI_mod, iI_lt, iI_le, iI_eq, iI_nat, iI_vp, ld_rd, ld_wl, lu_s, lu_t, lu_c, lu_j, forall_eq, Int.toNat_natCast, true_and, and_true, not_true, not_false_iff, Classical.not_not, forall_const, iI_inj, t1]
              refine ⟨_, sp_mputs (i := i + k) (by omega) hln (by omega) hS1 (by omega), ?_⟩
              rw [wl_ld (by decide)]
              exact hR e he P hP hQ
        obtain ⟨M', hG, hR⟩ := key 0 (Nat.zero_le _) M fr.r0 hS
        refine ⟨M', en_m_film (k := 2) hd fun e he P hP hQ => rg_m_film_0 hP ?_, hG⟩
        unfold iR at hr
        simp (disch := omega) only [nl_0, nl_1, nl_2, nl_3, nl_4, nl_5, nl_6, nl_7, nl_8, nl_9, nl_10, nl_11, nl_12, nl_13, nl_14, nl_15, nl_16, nl_17, nl_18, nl_19, nl_20, nl_21, nl_22, nl_23, nl_24, nl_25, nl_26, nl_27, nl_28, nl_31, nl_32, nl_42, nl_44, nl_46, nl_48, nl_49, nl_50, nl_51, nl_60, nl_75, nl_76, nl_99, nl_100, nl_108, nl_114, nl_117, nl_126, nl_255, nl_999, nl_2401, nl_9999, nl_12345, nl_65536, nl_1000000, nl_1103515245, nl_2147483647, iI_0, iI_neg, iI_add, iI_sub, iI_mul, iI_div, iI_mod, iI_lt, iI_le, iI_eq, iI_nat, iI_vp, ld_rd, ld_wl, lu_s, lu_t, lu_c, lu_j, forall_eq, Int.toNat_natCast, true_and, and_true, not_true, not_false_iff, Classical.not_not, forall_const, iI_inj, lI_iI, ll_0, ll_4]
        refine bo2 (sp_mI (by omega) (by omega) (by omega) (by omega)) (fun _ => bo2 (sp_misSheet (by omega) hs) (fun c => bo1 (sp_misLane (by omega) hl) (fun c2 => ⟨_, _, pre e he, ?_⟩) (fun c2 => by omega)) (fun c => by omega)) (fun c => by omega)
        rw [f]
        exact ⟨fun _ => hR e he P hP hQ, fun z => absurd (show iI 0 ≤ iI 0 by decide) z⟩
      · have er : r_item ln sz s lane i 5 5 = fo4 ln sz s lane i 5 := by
          unfold r_item
          rw [if_neg g]
          exact if_neg f
        rw [er, if_neg (by omega)]
        refine ⟨M, en_m_film (k := 2) hd fun e he P hP hQ => rg_m_film_0 hP ?_, fr.r0, hS⟩
        unfold iR at hr
        simp (disch := omega) only [nl_0, nl_1, nl_2, nl_3, nl_4, nl_5, nl_6, nl_7, nl_8, nl_9, nl_10, nl_11, nl_12, nl_13, nl_14, nl_15, nl_16, nl_17, nl_18, nl_19, nl_20, nl_21, nl_22, nl_23, nl_24, nl_25, nl_26, nl_27, nl_28, nl_31, nl_32, nl_42, nl_44, nl_46, nl_48, nl_49, nl_50, nl_51, nl_60, nl_75, nl_76, nl_99, nl_100, nl_108, nl_114, nl_117, nl_126, nl_255, nl_999, nl_2401, nl_9999, nl_12345, nl_65536, nl_1000000, nl_1103515245, nl_2147483647, iI_0, iI_neg, iI_add, iI_sub, iI_mul, iI_div, iI_mod, iI_lt, iI_le, iI_eq, iI_nat, iI_vp, ld_rd, ld_wl, lu_s, lu_t, lu_c, lu_j, forall_eq, Int.toNat_natCast, true_and, and_true, not_true, not_false_iff, Classical.not_not, forall_const, iI_inj, lI_iI, ll_0, ll_4]
        refine bo2 (sp_mI (by omega) (by omega) (by omega) (by omega)) (fun _ => bo2 (sp_misSheet (by omega) hs) (fun c => bo1 (sp_misLane (by omega) hl) (fun c2 => ⟨_, _, pre e he, ?_⟩) (fun c2 => by omega)) (fun c => by omega)) (fun c => by omega)
        simp (disch := omega) only [nl_0, nl_1, nl_2, nl_3, nl_4, nl_5, nl_6, nl_7, nl_8, nl_9, nl_10, nl_11, nl_12, nl_13, nl_14, nl_15, nl_16, nl_17, nl_18, nl_19, nl_20, nl_21, nl_22, nl_23, nl_24, nl_25, nl_26, nl_27, nl_28, nl_31, nl_32, nl_42, nl_44, nl_46, nl_48, nl_49, nl_50, nl_51, nl_60, nl_75, nl_76, nl_99, nl_100, nl_108, nl_114, nl_117, nl_126, nl_255, nl_999, nl_2401, nl_9999, nl_12345, nl_65536, nl_1000000, nl_1103515245, nl_2147483647, iI_0, iI_neg, iI_add, iI_sub, iI_mul, iI_div, iI_mod, iI_lt, iI_le, iI_eq, iI_nat, iI_vp, ld_rd, ld_wl, lu_s, lu_t, lu_c, lu_j, forall_eq, Int.toNat_natCast, true_and, and_true, not_true, not_false_iff, Classical.not_not, forall_const, iI_inj]
        exact ⟨fun z => by omega, fun _ => by (first | exact mj_eq.rf | exact fi_n mj_eq.rf | exact fi_i rfl mj_eq.rf | exact rfl)⟩
