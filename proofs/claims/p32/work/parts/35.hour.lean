/-! what hours rest on stays -/
theorem LI.up {A B : lA} (h : LI A) (g : ∀ t i j, (t = 0 ∧ j < 2) ∨ t = 1 ∨ t = 5 → B t i j = A t i j) (f : ∀ c, c < 6 → 0 ≤ B 2 0 c ∧ B 2 0 c ≤ 25) (w : ∀ c, c < 6 → 0 ≤ B 3 0 c ∧ B 3 0 c ≤ 999) (s : ∀ c v, c < 6 → v < 4 → B 4 c v = A 4 c v ∨ B 4 c v = 0) : LI B := by
  have g0 := g 0 0 0 (by omega)
  have g1 := g 0 0 1 (by omega)
  have gn : nV B = nV A := by unfold nV; rw [g1]
  refine ⟨by rw [g0]; exact h.1, by rw [g0]; exact h.2.1, by rw [g1]; exact h.2.2.1, by rw [g1]; exact h.2.2.2.1, fun c hc => by rw [g 1 0 c (by omega)]; exact h.kd hc, f, w, fun c v hc hv => ?_, fun c v hc hv hn => ?_, fun v hv => by rw [g 5 0 v (by omega)]; exact h.hm hv, fun u v hu hv e => ?_⟩
  · have := h.st hc hv
    rcases s c v hc hv with e | e <;> rw [e]
    · exact this
    · omega
  · rw [gn] at hn
    have := h.s0 hc hv hn
    rcases s c v hc hv with e | e <;> rw [e]
    exact this
  · rw [gn] at hu hv
    rw [g 5 0 u (by omega), g 5 0 v (by omega)] at e
    exact h.ap hu hv e
theorem LI.hi {A : lA} (h : LI A) {t c j : Nat} {v : Int} (ht : 6 ≤ t) : LI (lu A t c j v) := by
  refine h.up (fun t' i j' ht' => lu_t (by omega)) (fun c hc => ?_) (fun c hc => ?_) (fun c v hc hv => Or.inl (lu_t (by omega)))
  · rw [lu_t (by omega)]; exact h.fd hc
  · rw [lu_t (by omega)]; exact h.wa hc
theorem LI.l2 {A : lA} (h : LI A) {c : Nat} {v : Int} (hv : 0 ≤ v ∧ v ≤ 25) : LI (lu A 2 0 c v) := by
  refine h.up (fun t' i j' ht' => lu_t (by omega)) (fun c' hc' => ?_) (fun c hc => ?_) (fun c v hc hv => Or.inl (lu_t (by omega)))
  · by_cases e : c' = c
    · subst e; rw [lu_s]; exact hv
    · rw [lu_j e]; exact h.fd hc'
  · rw [lu_t (by omega)]; exact h.wa hc
theorem LI.l3 {A : lA} (h : LI A) {c : Nat} {v : Int} (hv : 0 ≤ v ∧ v ≤ 999) : LI (lu A 3 0 c v) := by
  refine h.up (fun t' i j' ht' => lu_t (by omega)) (fun c' hc' => ?_) (fun c' hc' => ?_) (fun c v hc hv => Or.inl (lu_t (by omega)))
  · rw [lu_t (by omega)]; exact h.fd hc'
  · by_cases e : c' = c
    · subst e; rw [lu_s]; exact hv
    · rw [lu_j e]; exact h.wa hc'
theorem LI.l0 {A : lA} (h : LI A) {j : Nat} {v : Int} (hj : 2 ≤ j) : LI (lu A 0 0 j v) := by
  refine h.up (fun t' i j' ht' => ?_) (fun c' hc' => ?_) (fun c' hc' => ?_) (fun c v hc hv => Or.inl (lu_t (by omega)))
  · by_cases e : t' = 0
    · exact lu_j (by omega)
    · exact lu_t e
  · rw [lu_t (by omega)]; exact h.fd hc'
  · rw [lu_t (by omega)]; exact h.wa hc'
theorem ls_lo {A : lA} {c t i j : Nat} (h : t ≠ 6 ∧ t ≠ 4) : ls A c t i j = A t i j := by
  unfold ls
  rw [if_neg (fun z => h.1 z.1), if_neg (fun z => h.2 z.1)]
theorem LI.k_ls {A : lA} (h : LI A) {c : Nat} : LI (ls A c) := by
  refine h.up (fun t' i j' ht' => ls_lo (by omega)) (fun c' hc' => ?_) (fun c' hc' => ?_) (fun c' v hc hv => ?_)
  · rw [ls_lo (by omega)]; exact h.fd hc'
  · rw [ls_lo (by omega)]; exact h.wa hc'
  · unfold ls
    rw [if_neg (by omega)]
    split
    · exact Or.inr rfl
    · exact Or.inl rfl
theorem LI.k_mv {A : lA} (h : LI A) {c : Nat} (hc : c < 6) (s f : Int) : LI (mv A c s f) := by
  have hfd := h.fd hc
  have hv := h.nv
  have hpl := pp_lt (s := A 4 c) (nV A)
  unfold mv
  split
  · exact h
  · next e =>
    split
    · have := h.hm (v := pp (A 4 c) (nV A)) (by omega)
      exact h.l2 (by have := tw_r (f := A 2 0 c) (h := A 5 0 (pp (A 4 c) (nV A))) hfd.1 (by omega) this.1 this.2; omega)
    · split
      · split
        · exact (h.l2 (by omega)).k_ls
        · exact h.l2 (bs_r hfd.1 (by omega))
      · exact h
theorem rf_r {A : lA} (hA : LI A) {c : Nat} (hc : c < 6) : 0 ≤ rf A c ∧ rf A c ≤ 5 ∧ rf A c ≤ A 3 0 c := by
  have h1 := rk_r (A 1 0 c)
  have h2 := hA.wa hc
  unfold rf
  repeat' split
  all_goals omega
theorem LI.k_rn {A : lA} (h : LI A) {c : Nat} (hc : c < 6) : LI (rn A c) := by
  have hw := h.wa hc
  have hr := rf_r h hc
  have h3 : LI (lu A 3 0 c (A 3 0 c - rf A c)) := h.l3 (by omega)
  unfold rn
  split
  · exact h
  · split
    · exact (h3.hi (by decide)).hi (by decide)
    · exact h3.hi (by decide)
/-- what hours never change -/
theorem mv_lo {A : lA} {c t i j : Nat} {s f : Int} (h : t ≠ 2 ∧ t ≠ 4 ∧ t ≠ 6) : mv A c s f t i j = A t i j := by
  unfold mv
  split
  · rfl
  · split
    · exact lu_t (by omega)
    · split
      · split
        · rw [ls_lo (by omega), lu_t (by omega)]
        · exact lu_t (by omega)
      · rfl
theorem rn_lo {A : lA} {c t i j : Nat} (h : t ≠ 3 ∧ t ≠ 8 ∧ t ≠ 9) : rn A c t i j = A t i j := by
  unfold rn
  split
  · rfl
  · split
    · rw [lu_t (by omega), lu_t (by omega), lu_t (by omega)]
    · rw [lu_t (by omega), lu_t (by omega)]
theorem mvs_LI {A : lA} (h : LI A) (s f : Int) : ∀ n, n ≤ 6 → LI (mvs A s f n)
  | 0, _ => h
  | n + 1, hn => (mvs_LI h s f n (by omega)).k_mv (by omega) s f
theorem rns_LI {A : lA} (h : LI A) : ∀ n, n ≤ 6 → LI (rns A n)
  | 0, _ => h
  | n + 1, hn => (rns_LI h n (by omega)).k_rn (by omega)
theorem mvs_lo {A : lA} {t i j : Nat} {s f : Int} (h : t ≠ 2 ∧ t ≠ 4 ∧ t ≠ 6) : ∀ n, mvs A s f n t i j = A t i j
  | 0 => rfl
  | n + 1 => (mv_lo h).trans (mvs_lo h n)
theorem rns_lo {A : lA} {t i j : Nat} (h : t ≠ 3 ∧ t ≠ 8 ∧ t ≠ 9) : ∀ n, rns A n t i j = A t i j
  | 0 => rfl
  | n + 1 => (rn_lo h).trans (rns_lo h n)
theorem hr_LI {A : lA} (h : LI A) (s f : Int) : LI (hr A s f) := (rns_LI (mvs_LI h s f _ h.nc.2) _ h.nc.2).l0 (by decide)
theorem hr_lo {A : lA} {t i j : Nat} {s f : Int} (h : t = 0 ∧ j ≠ 2 ∨ t = 1 ∨ t = 5 ∨ t = 7) : hr A s f t i j = A t i j := by
  unfold hr
  by_cases e : t = 0
  · rw [lu_j (by omega), rns_lo (by omega), mvs_lo (by omega)]
  · rw [lu_t (by omega), rns_lo (by omega), mvs_lo (by omega)]
/-! contracts: an hour of the class -/
theorem iI_if {C : Prop} [Decidable C] {a b : Int} : (if C then iI a else iI b) = iI (if C then a else b) := by split <;> rfl
theorem rv_lt (A : lA) (c : Nat) : -1 ≤ rv A c ∧ rv A c < nV A := vl_lt _
theorem sp_move {d i c : Nat} (hd : 4 ≤ d) {A : lA} {M : mj_M} {s f : Int} (hM : mj_sM M) (hi : i < 40) (hA : LI A) (hc : c < nC A) (hs : 0 ≤ s ∧ s ≤ 3) (hf : 0 ≤ f ∧ f ≤ 3) : mj_Sp d 41 [mj_r (i, 0, 0), mj_i (iI (c : Int)), mj_i (iI s), mj_i (iI f)] (mj_ld M i A) none (mj_ld M i (mv A c s f)) := by
  have h1 := hA.nc
  have h2 := hA.nv
  have hc6 : c < 6 := by omega
  have hk := hA.kd hc6
  have hfd := hA.fd hc6
  have hpl := pp_lt (s := A 4 c) (nV A)
  have hw := wt_r (A 1 0 c)
  have hp0 := pm_nn (s := A 4 c) (nV A)
  have hp9 : pm (A 4 c) (nV A) ≤ 9 := pm_le (by decide) _ (fun j hj => (hA.st hc6 (by omega)).2)
  have hs0 : 0 ≤ sm (A 4 c) 4 := sm_nn 4 (fun j hj => (hA.st hc6 hj).1)
  have hs9 := sm_le (s := A 4 c) (b := 9) 4 (fun j hj => (hA.st hc6 hj).2)
  have hpa : A 4 c (pp (A 4 c) (nV A)) = pm (A 4 c) (nV A) := pp_at (fun j hj => (hA.st hc6 hj).1) (fun h => hA.s0 hc6 (by omega) (by omega))
  have hh := hA.hm (v := pp (A 4 c) (nV A)) (by omega)
  have hn0 : 0 ≤ f * wt (A 1 0 c) := Int.mul_nonneg hf.1 (by omega)
  have hn1 : f * wt (A 1 0 c) ≤ 3 * 2 := Int.mul_le_mul hf.2 hw.2 (by omega) (by omega)
  refine en_La_move (k := 3) hd fun e he P hP hQ => rg_La_move_0 hP (bo_cb (sp_isOver (by omega) (by omega) hA) (fun c1 => ?_) (fun c1 => ?_))
  · have c2 : A 2 0 c ≠ 25 := c1.2
    simp (disch := omega) only [nl_0, nl_1, nl_2, nl_3, nl_4, nl_5, nl_6, nl_7, nl_8, nl_9, nl_10, nl_11, nl_12, nl_13, nl_14, nl_15, nl_16, nl_17, nl_18, nl_19, nl_20, nl_21, nl_22, nl_23, nl_24, nl_25, nl_26, nl_27, nl_28, nl_31, nl_32, nl_42, nl_44, nl_46, nl_48, nl_49, nl_50, nl_51, nl_60, nl_75, nl_76, nl_99, nl_100, nl_108, nl_114, nl_117, nl_126, nl_255, nl_999, nl_2401, nl_9999, nl_12345, nl_65536, nl_1000000, nl_1103515245, nl_2147483647, iI_0, iI_neg, iI_add, iI_sub, iI_mul, iI_div, iI_mod, iI_lt, iI_le, iI_eq, iI_nat, iI_vp, ld_rd, ld_wl, lu_s, lu_t, lu_c, lu_j, forall_eq, Int.toNat_natCast, true_and, and_true, not_true, not_false_iff, Classical.not_not, forall_const, iI_inj, sW hM hi hk.1 hk.2]
    refine ⟨_, _, sp_stringsOn (by omega) hi hc6, _, _, sp_pullerOf (by omega) hA hc6, ?_⟩
    simp (disch := omega) only [nl_0, nl_1, nl_2, nl_3, nl_4, nl_5, nl_6, nl_7, nl_8, nl_9, nl_10, nl_11, nl_12, nl_13, nl_14, nl_15, nl_16, nl_17, nl_18, nl_19, nl_20, nl_21, nl_22, nl_23, nl_24, nl_25, nl_26, nl_27, nl_28, nl_31, nl_32, nl_42, nl_44, nl_46, nl_48, nl_49, nl_50, nl_51, nl_60, nl_75, nl_76, nl_99, nl_100, nl_108, nl_114, nl_117, nl_126, nl_255, nl_999, nl_2401, nl_9999, nl_12345, nl_65536, nl_1000000, nl_1103515245, nl_2147483647, iI_0, iI_neg, iI_add, iI_sub, iI_mul, iI_div, iI_mod, iI_lt, iI_le, iI_eq, iI_nat, iI_vp, ld_rd, ld_wl, lu_s, lu_t, lu_c, lu_j, forall_eq, Int.toNat_natCast, true_and, and_true, not_true, not_false_iff, Classical.not_not, forall_const, iI_inj, hpa]
    unfold mv
    rw [if_neg c2]
    have tb := bs_r (f := A 2 0 c) (s := s) hfd.1 (by omega)
    by_cases g1 : 0 < pm (A 4 c) (nV A) ∧ sm (A 4 c) 4 - pm (A 4 c) (nV A) + f * wt (A 1 0 c) ≤ pm (A 4 c) (nV A)
    · rw [if_pos g1]
      refine ⟨fun z => by omega, fun z => ⟨fun z2 => by omega, fun z2 => ?_⟩⟩
      refine ⟨_, _, sp_towards (by omega) (by omega) (by omega), ?_⟩
      simp (disch := omega) only [nl_0, nl_1, nl_2, nl_3, nl_4, nl_5, nl_6, nl_7, nl_8, nl_9, nl_10, nl_11, nl_12, nl_13, nl_14, nl_15, nl_16, nl_17, nl_18, nl_19, nl_20, nl_21, nl_22, nl_23, nl_24, nl_25, nl_26, nl_27, nl_28, nl_31, nl_32, nl_42, nl_44, nl_46, nl_48, nl_49, nl_50, nl_51, nl_60, nl_75, nl_76, nl_99, nl_100, nl_108, nl_114, nl_117, nl_126, nl_255, nl_999, nl_2401, nl_9999, nl_12345, nl_65536, nl_1000000, nl_1103515245, nl_2147483647, iI_0, iI_neg, iI_add, iI_sub, iI_mul, iI_div, iI_mod, iI_lt, iI_le, iI_eq, iI_nat, iI_vp, ld_rd, ld_wl, lu_s, lu_t, lu_c, lu_j, forall_eq, Int.toNat_natCast, true_and, and_true, not_true, not_false_iff, Classical.not_not, forall_const, iI_inj]
      (first | exact mj_eq.rf | exact fi_n mj_eq.rf | exact fi_i rfl mj_eq.rf | exact rfl)
    · rw [if_neg g1]
      by_cases g2 : sm (A 4 c) 4 < f * wt (A 1 0 c)
      · rw [if_pos g2]
        refine ⟨fun z => ⟨fun z3 => by omega, fun z3 => ?_⟩, fun z => ⟨fun z2 => ⟨fun z3 => by omega, fun z3 => ?_⟩, fun z2 => by omega⟩⟩
        · refine ⟨_, _, sp_besides (by omega) (by omega) hs, ?_⟩
          simp (disch := omega) only [nl_0, nl_1, nl_2, nl_3, nl_4, nl_5, nl_6, nl_7, nl_8, nl_9, nl_10, nl_11, nl_12, nl_13, nl_14, nl_15, nl_16, nl_17, nl_18, nl_19, nl_20, nl_21, nl_22, nl_23, nl_24, nl_25, nl_26, nl_27, nl_28, nl_31, nl_32, nl_42, nl_44, nl_46, nl_48, nl_49, nl_50, nl_51, nl_60, nl_75, nl_76, nl_99, nl_100, nl_108, nl_114, nl_117, nl_126, nl_255, nl_999, nl_2401, nl_9999, nl_12345, nl_65536, nl_1000000, nl_1103515245, nl_2147483647, iI_0, iI_neg, iI_add, iI_sub, iI_mul, iI_div, iI_mod, iI_lt, iI_le, iI_eq, iI_nat, iI_vp, ld_rd, ld_wl, lu_s, lu_t, lu_c, lu_j, forall_eq, Int.toNat_natCast, true_and, and_true, not_true, not_false_iff, Classical.not_not, forall_const, iI_inj]
          refine ⟨fun z4 => ?_, fun z4 => ?_⟩
          · rw [if_neg z4]
            (first | exact mj_eq.rf | exact fi_n mj_eq.rf | exact fi_i rfl mj_eq.rf | exact rfl)
          · rw [if_pos z4, z4]
            refine ⟨_, sp_loseStrings (by omega) ?_ hc6, by (first | exact mj_eq.rf | exact fi_n mj_eq.rf | exact fi_i rfl mj_eq.rf | exact rfl)⟩
            exact ⟨hA.2.2.1, hA.2.2.2.1⟩
        · refine ⟨_, _, sp_besides (by omega) (by omega) hs, ?_⟩
          simp (disch := omega) only [nl_0, nl_1, nl_2, nl_3, nl_4, nl_5, nl_6, nl_7, nl_8, nl_9, nl_10, nl_11, nl_12, nl_13, nl_14, nl_15, nl_16, nl_17, nl_18, nl_19, nl_20, nl_21, nl_22, nl_23, nl_24, nl_25, nl_26, nl_27, nl_28, nl_31, nl_32, nl_42, nl_44, nl_46, nl_48, nl_49, nl_50, nl_51, nl_60, nl_75, nl_76, nl_99, nl_100, nl_108, nl_114, nl_117, nl_126, nl_255, nl_999, nl_2401, nl_9999, nl_12345, nl_65536, nl_1000000, nl_1103515245, nl_2147483647, iI_0, iI_neg, iI_add, iI_sub, iI_mul, iI_div, iI_mod, iI_lt, iI_le, iI_eq, iI_nat, iI_vp, ld_rd, ld_wl, lu_s, lu_t, lu_c, lu_j, forall_eq, Int.toNat_natCast, true_and, and_true, not_true, not_false_iff, Classical.not_not, forall_const, iI_inj]
          refine ⟨fun z4 => ?_, fun z4 => ?_⟩
          · rw [if_neg z4]
            (first | exact mj_eq.rf | exact fi_n mj_eq.rf | exact fi_i rfl mj_eq.rf | exact rfl)
          · rw [if_pos z4, z4]
            refine ⟨_, sp_loseStrings (by omega) ?_ hc6, by (first | exact mj_eq.rf | exact fi_n mj_eq.rf | exact fi_i rfl mj_eq.rf | exact rfl)⟩
            exact ⟨hA.2.2.1, hA.2.2.2.1⟩
      · rw [if_neg g2]
        refine ⟨fun z => ⟨fun z3 => by (first | exact mj_eq.rf | exact fi_n mj_eq.rf | exact fi_i rfl mj_eq.rf | exact rfl), fun z3 => by omega⟩, fun z => ⟨fun z2 => ⟨fun z3 => by (first | exact mj_eq.rf | exact fi_n mj_eq.rf | exact fi_i rfl mj_eq.rf | exact rfl), fun z3 => by omega⟩, fun z2 => by omega⟩⟩
  · have c2 : A 2 0 c = 25 := by
      have : ¬ (A 2 0 c ≠ 25) := fun z => c1 ⟨by omega, z⟩
      omega
    refine fi_n ?_
    unfold mv
    rw [if_pos c2]
    exact mj_eq.rf
theorem sp_rain {d i c : Nat} (hd : 4 ≤ d) {A : lA} {M : mj_M} (hM : mj_sM M) (hi : i < 40) (hA : LI A) (hc : c < nC A) : mj_Sp d 42 [mj_r (i, 0, 0), mj_i (iI (c : Int))] (mj_ld M i A) (some (mj_i (iI (rf A c)))) (mj_ld M i (rn A c)) := by
  have h1 := hA.nc
  have h2 := hA.nv
  have hc6 : c < 6 := by omega
  have hk := hA.kd hc6
  have hfd := hA.fd hc6
  have hwa := hA.wa hc6
  have hw := rk_r (A 1 0 c)
  have hrv := rv_lt A c
  refine en_La_rain (k := 3) hd fun e he P hP hQ => rg_La_rain_0 hP (bo_cb (sp_isOver (by omega) (by omega) hA) (fun c1 => ?_) (fun c1 => ?_))
  · have c2 : A 2 0 c ≠ 25 := c1.2
    have e1 : (if A 3 0 c < rk (A 1 0 c) then A 3 0 c else rk (A 1 0 c)) = rf A c := by
      unfold rf
      rw [if_neg c2]
    simp (disch := omega) only [nl_0, nl_1, nl_2, nl_3, nl_4, nl_5, nl_6, nl_7, nl_8, nl_9, nl_10, nl_11, nl_12, nl_13, nl_14, nl_15, nl_16, nl_17, nl_18, nl_19, nl_20, nl_21, nl_22, nl_23, nl_24, nl_25, nl_26, nl_27, nl_28, nl_31, nl_32, nl_42, nl_44, nl_46, nl_48, nl_49, nl_50, nl_51, nl_60, nl_75, nl_76, nl_99, nl_100, nl_108, nl_114, nl_117, nl_126, nl_255, nl_999, nl_2401, nl_9999, nl_12345, nl_65536, nl_1000000, nl_1103515245, nl_2147483647, iI_0, iI_neg, iI_add, iI_sub, iI_mul, iI_div, iI_mod, iI_lt, iI_le, iI_eq, iI_nat, iI_vp, ld_rd, ld_wl, lu_s, lu_t, lu_c, lu_j, forall_eq, Int.toNat_natCast, true_and, and_true, not_true, not_false_iff, Classical.not_not, forall_const, iI_inj, sR hM hi hk.1 hk.2, iI_if, e1]
    have hr := rf_r hA hc6
    have hL : LI (lu (lu A 3 0 c (A 3 0 c - rf A c)) 9 0 (A 2 0 c).toNat (A 9 0 (A 2 0 c).toNat + rf A c)) := (hA.l3 (by omega)).hi (by decide)
    have hv : vl (lu (lu A 3 0 c (A 3 0 c - rf A c)) 9 0 (A 2 0 c).toNat (A 9 0 (A 2 0 c).toNat + rf A c) 5 0) (A 2 0 c) (nV (lu (lu A 3 0 c (A 3 0 c - rf A c)) 9 0 (A 2 0 c).toNat (A 9 0 (A 2 0 c).toNat + rf A c))) = rv A c := rfl
    refine ⟨by omega, _, _, sp_villageIn (by omega) (by omega) hL, ?_⟩
    rw [hv]
    unfold rn
    rw [if_neg c2]
    refine ⟨fun z => ?_, fun z => ?_⟩
    · simp (disch := omega) only [nl_0, nl_1, nl_2, nl_3, nl_4, nl_5, nl_6, nl_7, nl_8, nl_9, nl_10, nl_11, nl_12, nl_13, nl_14, nl_15, nl_16, nl_17, nl_18, nl_19, nl_20, nl_21, nl_22, nl_23, nl_24, nl_25, nl_26, nl_27, nl_28, nl_31, nl_32, nl_42, nl_44, nl_46, nl_48, nl_49, nl_50, nl_51, nl_60, nl_75, nl_76, nl_99, nl_100, nl_108, nl_114, nl_117, nl_126, nl_255, nl_999, nl_2401, nl_9999, nl_12345, nl_65536, nl_1000000, nl_1103515245, nl_2147483647, iI_0, iI_neg, iI_add, iI_sub, iI_mul, iI_div, iI_mod, iI_lt, iI_le, iI_eq, iI_nat, iI_vp, ld_rd, ld_wl, lu_s, lu_t, lu_c, lu_j, forall_eq, Int.toNat_natCast, true_and, and_true, not_true, not_false_iff, Classical.not_not, forall_const, iI_inj] at z
      rw [if_neg (by omega)]
      (first | exact mj_eq.rf | exact fi_n mj_eq.rf | exact fi_i rfl mj_eq.rf | exact rfl)
    · simp (disch := omega) only [nl_0, nl_1, nl_2, nl_3, nl_4, nl_5, nl_6, nl_7, nl_8, nl_9, nl_10, nl_11, nl_12, nl_13, nl_14, nl_15, nl_16, nl_17, nl_18, nl_19, nl_20, nl_21, nl_22, nl_23, nl_24, nl_25, nl_26, nl_27, nl_28, nl_31, nl_32, nl_42, nl_44, nl_46, nl_48, nl_49, nl_50, nl_51, nl_60, nl_75, nl_76, nl_99, nl_100, nl_108, nl_114, nl_117, nl_126, nl_255, nl_999, nl_2401, nl_9999, nl_12345, nl_65536, nl_1000000, nl_1103515245, nl_2147483647, iI_0, iI_neg, iI_add, iI_sub, iI_mul, iI_div, iI_mod, iI_lt, iI_le, iI_eq, iI_nat, iI_vp, ld_rd, ld_wl, lu_s, lu_t, lu_c, lu_j, forall_eq, Int.toNat_natCast, true_and, and_true, not_true, not_false_iff, Classical.not_not, forall_const, iI_inj] at z
      simp (disch := omega) only [nl_0, nl_1, nl_2, nl_3, nl_4, nl_5, nl_6, nl_7, nl_8, nl_9, nl_10, nl_11, nl_12, nl_13, nl_14, nl_15, nl_16, nl_17, nl_18, nl_19, nl_20, nl_21, nl_22, nl_23, nl_24, nl_25, nl_26, nl_27, nl_28, nl_31, nl_32, nl_42, nl_44, nl_46, nl_48, nl_49, nl_50, nl_51, nl_60, nl_75, nl_76, nl_99, nl_100, nl_108, nl_114, nl_117, nl_126, nl_255, nl_999, nl_2401, nl_9999, nl_12345, nl_65536, nl_1000000, nl_1103515245, nl_2147483647, iI_0, iI_neg, iI_add, iI_sub, iI_mul, iI_div, iI_mod, iI_lt, iI_le, iI_eq, iI_nat, iI_vp, ld_rd, ld_wl, lu_s, lu_t, lu_c, lu_j, forall_eq, Int.toNat_natCast, true_and, and_true, not_true, not_false_iff, Classical.not_not, forall_const, iI_inj]
      refine ⟨fun z2 => ?_, fun z2 => ?_⟩
      · rw [if_neg (by omega)]
        (first | exact mj_eq.rf | exact fi_n mj_eq.rf | exact fi_i rfl mj_eq.rf | exact rfl)
      · rw [if_pos (by omega)]
        (first | exact mj_eq.rf | exact fi_n mj_eq.rf | exact fi_i rfl mj_eq.rf | exact rfl)
  · have c2 : A 2 0 c = 25 := by
      have : ¬ (A 2 0 c ≠ 25) := fun z => c1 ⟨by omega, z⟩
      omega
    refine fi_i ?_ ?_
    · unfold rf
      rw [if_pos c2]
      rfl
    · unfold rn
      rw [if_pos c2]
      exact mj_eq.rf
theorem sp_passHour {d i : Nat} (hd : 5 ≤ d) {A : lA} {M : mj_M} {s f : Int} (hM : mj_sM M) (hi : i < 40) (hA : LI A) (hs : 0 ≤ s ∧ s ≤ 3) (hf : 0 ≤ f ∧ f ≤ 3) : mj_Sp d 40 [mj_r (i, 0, 0), mj_i (iI s), mj_i (iI f)] (mj_ld M i A) (some (mj_i (iI (hfl A s f)))) (mj_ld M i (hr A s f)) := by
  have h1 := hA.nc
  have n1 : ∀ n, mvs A s f n 0 0 0 = (nC A : Int) := fun n => (mvs_lo (by omega) n).trans h1.1
  have n2 : ∀ n, rns (mvs A s f (nC A)) n 0 0 0 = (nC A : Int) := fun n => (rns_lo (by omega) n).trans (n1 _)
  have n3 : rns (mvs A s f (nC A)) (nC A) 0 0 2 = A 0 0 2 := (rns_lo (by omega) _).trans (mvs_lo (by omega) _)
  refine en_La_passHour (k := 4) hd fun e he P hP hQ => rg_La_passHour_0 hP ?_
  refine lp_dn (Q := fun k => P 2 [some (mj_r (i, 0, 0)), some (mj_i (iI s)), some (mj_i (iI f)), some (mj_i (iI (k : Int))), none] [] (mj_ld M i (mvs A s f k))) (n := nC A) ?_ (fun k hk ih => ?_) 0 (Nat.zero_le _)
  · refine rg_La_passHour_2 hP ⟨fun z => ?_, fun z => ?_⟩
    · refine lp_dn (Q := fun k => P 28 [some (mj_r (i, 0, 0)), some (mj_i (iI s)), some (mj_i (iI f)), some (mj_i (iI (rsu (mvs A s f (nC A)) k))), some (mj_i (iI (k : Int)))] [] (mj_ld M i (rns (mvs A s f (nC A)) k))) (n := nC A) ?_ (fun k hk ih => ?_) 0 (Nat.zero_le _)
      · refine rg_La_passHour_28 hP ⟨fun z => ?_, fun z => ?_⟩
        · simp (disch := omega) only [nl_0, nl_1, nl_2, nl_3, nl_4, nl_5, nl_6, nl_7, nl_8, nl_9, nl_10, nl_11, nl_12, nl_13, nl_14, nl_15, nl_16, nl_17, nl_18, nl_19, nl_20, nl_21, nl_22, nl_23, nl_24, nl_25, nl_26, nl_27, nl_28, nl_31, nl_32, nl_42, nl_44, nl_46, nl_48, nl_49, nl_50, nl_51, nl_60, nl_75, nl_76, nl_99, nl_100, nl_108, nl_114, nl_117, nl_126, nl_255, nl_999, nl_2401, nl_9999, nl_12345, nl_65536, nl_1000000, nl_1103515245, nl_2147483647, iI_0, iI_neg, iI_add, iI_sub, iI_mul, iI_div, iI_mod, iI_lt, iI_le, iI_eq, iI_nat, iI_vp, ld_rd, ld_wl, lu_s, lu_t, lu_c, lu_j, forall_eq, Int.toNat_natCast, true_and, and_true, not_true, not_false_iff, Classical.not_not, forall_const, iI_inj, n3]
          (first | exact mj_eq.rf | exact fi_n mj_eq.rf | exact fi_i rfl mj_eq.rf | exact rfl)
        · simp (disch := omega) only [nl_0, nl_1, nl_2, nl_3, nl_4, nl_5, nl_6, nl_7, nl_8, nl_9, nl_10, nl_11, nl_12, nl_13, nl_14, nl_15, nl_16, nl_17, nl_18, nl_19, nl_20, nl_21, nl_22, nl_23, nl_24, nl_25, nl_26, nl_27, nl_28, nl_31, nl_32, nl_42, nl_44, nl_46, nl_48, nl_49, nl_50, nl_51, nl_60, nl_75, nl_76, nl_99, nl_100, nl_108, nl_114, nl_117, nl_126, nl_255, nl_999, nl_2401, nl_9999, nl_12345, nl_65536, nl_1000000, nl_1103515245, nl_2147483647, iI_0, iI_neg, iI_add, iI_sub, iI_mul, iI_div, iI_mod, iI_lt, iI_le, iI_eq, iI_nat, iI_vp, ld_rd, ld_wl, lu_s, lu_t, lu_c, lu_j, forall_eq, Int.toNat_natCast, true_and, and_true, not_true, not_false_iff, Classical.not_not, forall_const, iI_inj, n2] at z
          omega
      · refine rg_La_passHour_28 hP ⟨fun z => ?_, fun z => ?_⟩
        · simp (disch := omega) only [nl_0, nl_1, nl_2, nl_3, nl_4, nl_5, nl_6, nl_7, nl_8, nl_9, nl_10, nl_11, nl_12, nl_13, nl_14, nl_15, nl_16, nl_17, nl_18, nl_19, nl_20, nl_21, nl_22, nl_23, nl_24, nl_25, nl_26, nl_27, nl_28, nl_31, nl_32, nl_42, nl_44, nl_46, nl_48, nl_49, nl_50, nl_51, nl_60, nl_75, nl_76, nl_99, nl_100, nl_108, nl_114, nl_117, nl_126, nl_255, nl_999, nl_2401, nl_9999, nl_12345, nl_65536, nl_1000000, nl_1103515245, nl_2147483647, iI_0, iI_neg, iI_add, iI_sub, iI_mul, iI_div, iI_mod, iI_lt, iI_le, iI_eq, iI_nat, iI_vp, ld_rd, ld_wl, lu_s, lu_t, lu_c, lu_j, forall_eq, Int.toNat_natCast, true_and, and_true, not_true, not_false_iff, Classical.not_not, forall_const, iI_inj, n2] at z
          omega
        · refine ⟨_, _, sp_rain (by omega) hM hi (rns_LI (mvs_LI hA s f _ h1.2) k (by omega)) ?_, ?_⟩
          · show k < (rns (mvs A s f (nC A)) k 0 0 0).toNat
            rw [n2]
            omega
          · simp (disch := omega) only [nl_0, nl_1, nl_2, nl_3, nl_4, nl_5, nl_6, nl_7, nl_8, nl_9, nl_10, nl_11, nl_12, nl_13, nl_14, nl_15, nl_16, nl_17, nl_18, nl_19, nl_20, nl_21, nl_22, nl_23, nl_24, nl_25, nl_26, nl_27, nl_28, nl_31, nl_32, nl_42, nl_44, nl_46, nl_48, nl_49, nl_50, nl_51, nl_60, nl_75, nl_76, nl_99, nl_100, nl_108, nl_114, nl_117, nl_126, nl_255, nl_999, nl_2401, nl_9999, nl_12345, nl_65536, nl_1000000, nl_1103515245, nl_2147483647, iI_0, iI_neg, iI_add, iI_sub, iI_mul, iI_div, iI_mod, iI_lt, iI_le, iI_eq, iI_nat, iI_vp, ld_rd, ld_wl, lu_s, lu_t, lu_c, lu_j, forall_eq, Int.toNat_natCast, true_and, and_true, not_true, not_false_iff, Classical.not_not, forall_const, iI_inj]
            exact ih
    · simp (disch := omega) only [nl_0, nl_1, nl_2, nl_3, nl_4, nl_5, nl_6, nl_7, nl_8, nl_9, nl_10, nl_11, nl_12, nl_13, nl_14, nl_15, nl_16, nl_17, nl_18, nl_19, nl_20, nl_21, nl_22, nl_23, nl_24, nl_25, nl_26, nl_27, nl_28, nl_31, nl_32, nl_42, nl_44, nl_46, nl_48, nl_49, nl_50, nl_51, nl_60, nl_75, nl_76, nl_99, nl_100, nl_108, nl_114, nl_117, nl_126, nl_255, nl_999, nl_2401, nl_9999, nl_12345, nl_65536, nl_1000000, nl_1103515245, nl_2147483647, iI_0, iI_neg, iI_add, iI_sub, iI_mul, iI_div, iI_mod, iI_lt, iI_le, iI_eq, iI_nat, iI_vp, ld_rd, ld_wl, lu_s, lu_t, lu_c, lu_j, forall_eq, Int.toNat_natCast, true_and, and_true, not_true, not_false_iff, Classical.not_not, forall_const, iI_inj, n1] at z
      omega
  · refine rg_La_passHour_2 hP ⟨fun z => ?_, fun z => ?_⟩
    · simp (disch := omega) only [nl_0, nl_1, nl_2, nl_3, nl_4, nl_5, nl_6, nl_7, nl_8, nl_9, nl_10, nl_11, nl_12, nl_13, nl_14, nl_15, nl_16, nl_17, nl_18, nl_19, nl_20, nl_21, nl_22, nl_23, nl_24, nl_25, nl_26, nl_27, nl_28, nl_31, nl_32, nl_42, nl_44, nl_46, nl_48, nl_49, nl_50, nl_51, nl_60, nl_75, nl_76, nl_99, nl_100, nl_108, nl_114, nl_117, nl_126, nl_255, nl_999, nl_2401, nl_9999, nl_12345, nl_65536, nl_1000000, nl_1103515245, nl_2147483647, iI_0, iI_neg, iI_add, iI_sub, iI_mul, iI_div, iI_mod, iI_lt, iI_le, iI_eq, iI_nat, iI_vp, ld_rd, ld_wl, lu_s, lu_t, lu_c, lu_j, forall_eq, Int.toNat_natCast, true_and, and_true, not_true, not_false_iff, Classical.not_not, forall_const, iI_inj, n1] at z
      omega
    · refine ⟨_, sp_move (by omega) hM hi (mvs_LI hA s f k (by omega)) ?_ hs hf, ?_⟩
      · show k < (mvs A s f k 0 0 0).toNat
        rw [n1]
        omega
      · simp (disch := omega) only [nl_0, nl_1, nl_2, nl_3, nl_4, nl_5, nl_6, nl_7, nl_8, nl_9, nl_10, nl_11, nl_12, nl_13, nl_14, nl_15, nl_16, nl_17, nl_18, nl_19, nl_20, nl_21, nl_22, nl_23, nl_24, nl_25, nl_26, nl_27, nl_28, nl_31, nl_32, nl_42, nl_44, nl_46, nl_48, nl_49, nl_50, nl_51, nl_60, nl_75, nl_76, nl_99, nl_100, nl_108, nl_114, nl_117, nl_126, nl_255, nl_999, nl_2401, nl_9999, nl_12345, nl_65536, nl_1000000, nl_1103515245, nl_2147483647, iI_0, iI_neg, iI_add, iI_sub, iI_mul, iI_div, iI_mod, iI_lt, iI_le, iI_eq, iI_nat, iI_vp, ld_rd, ld_wl, lu_s, lu_t, lu_c, lu_j, forall_eq, Int.toNat_natCast, true_and, and_true, not_true, not_false_iff, Classical.not_not, forall_const, iI_inj]
        exact ih
