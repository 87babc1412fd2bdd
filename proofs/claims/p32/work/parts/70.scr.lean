/-! the script's numbers, as the law's small methods read them -/
theorem nl_30 : nI 30 = iI 30 := rfl
theorem nl_55 : nI 55 = iI 55 := rfl
theorem nl_107 : nI 107 = iI 107 := rfl
theorem nl_200 : nI 200 = iI 200 := rfl
theorem nl_512 : nI 512 = iI 512 := rfl
theorem nl_15485957 : nI 15485957 = iI 15485957 := rfl
theorem sh_ok : ∀ k : Fin 32, ((iI (k.val : Int) &&& 31).toBitVec.smod 32).toNat = k.val := by decide +kernel
def shr (z : Int) (k : Nat) : Int := z / ((2 ^ k : Nat) : Int)
theorem shr_r {z : Int} (h : 0 ≤ z) (k : Nat) : 0 ≤ shr z k ∧ shr z k ≤ z := ⟨Int.ediv_nonneg h (Int.natCast_nonneg _), Int.ediv_le_self _ h⟩
theorem iI_shr {z s : Int} (h1 : 0 ≤ z) (h2 : z < 2147483648) (h3 : 0 ≤ s) (h4 : s < 32) : iI z >>> (iI s &&& 31) = iI (shr z s.toNat) := by
  obtain ⟨n, rfl⟩ := nat_iR h1
  obtain ⟨k, rfl⟩ := nat_iR h3
  rw [← iI_nI n, pk_shrN (by omega) _ k (sh_ok ⟨k, by omega⟩), iI_nI, Int.toNat_natCast]
  unfold shr
  congr 1
def sc (L : Nat) (xs : Nat → Int32) (k : Nat) : Int := (if k < L then (xs k).toInt else 15485957 * k + 107) % 2147483648
theorem sc_r (L : Nat) (xs : Nat → Int32) (k : Nat) : 0 ≤ sc L xs k ∧ sc L xs k < 2147483648 := by
  unfold sc
  omega
theorem sq_sc {L : Nat} {xs : Nat → Int32} {k : Nat} : sq L xs k = iI (sc L xs k) := by
  unfold sq sc
  rw [nl_2147483647]
  by_cases h : k < L
  · rw [if_pos h, if_pos h, ← ad31, ← iI_to]
  · rw [if_neg h, if_neg h, ← ad31, iI_nI, iI_nI, iI_nI, iI_mul, iI_add]
    rfl
def gN (L : Nat) (xs : Nat → Int32) : Int := sc L xs 0 % 7
def gM (L : Nat) (xs : Nat → Int32) : Int := shr (sc L xs 0) 3 % 5
def gW (L : Nat) (xs : Nat → Int32) : Int := shr (sc L xs 0) 6 % 6
def gw (L : Nat) (xs : Nat → Int32) (k : Nat) : Int := shr (sc L xs 1) (4 * k) % 16
theorem gN_r (L : Nat) (xs : Nat → Int32) : 0 ≤ gN L xs ∧ gN L xs ≤ 6 := by unfold gN; omega
theorem gM_r (L : Nat) (xs : Nat → Int32) : 0 ≤ gM L xs ∧ gM L xs ≤ 4 := by unfold gM; omega
theorem gW_r (L : Nat) (xs : Nat → Int32) : 0 ≤ gW L xs ∧ gW L xs ≤ 5 := by unfold gW; omega
theorem gw_r (L : Nat) (xs : Nat → Int32) (k : Nat) : 0 ≤ gw L xs k ∧ gw L xs k ≤ 15 := by unfold gw; omega
theorem sqN_g {L : Nat} {xs : Nat → Int32} : sqN L xs = iI (gN L xs) := by
  have h := sc_r L xs 0
  unfold sqN gN
  rw [sq_sc]
  simp (disch := omega) only [nl_0, nl_1, nl_2, nl_3, nl_4, nl_5, nl_6, nl_7, nl_8, nl_9, nl_10, nl_11, nl_12, nl_13, nl_14, nl_15, nl_16, nl_17, nl_18, nl_19, nl_20, nl_21, nl_22, nl_23, nl_24, nl_25, nl_26, nl_27, nl_28, nl_31, nl_32, nl_42, nl_44, nl_46, nl_48, nl_49, nl_50, nl_51, nl_60, nl_75, nl_76, nl_99, nl_100, nl_108, nl_114, nl_117, nl_126, nl_255, nl_999, nl_2401, nl_9999, nl_12345, nl_65536, nl_1000000, nl_1103515245, nl_2147483647, nl_30, nl_55, nl_107, nl_200, nl_512, nl_15485957, iI_0, iI_neg, iI_add, iI_sub, iI_mul, iI_div, iI_mod, iI_lt, iI_le, iI_eq, iI_nat, iI_vp, ld_rd, ld_wl, lu_s, lu_t, lu_c, lu_j, forall_eq, Int.toNat_natCast, true_and, and_true, not_true, not_false_iff, Classical.not_not, forall_const, iI_inj]
theorem sqM_g {L : Nat} {xs : Nat → Int32} : sqM L xs = iI (gM L xs) := by
  have h := sc_r L xs 0
  have h2 := shr_r h.1 3
  unfold sqM gM
  rw [sq_sc, nl_3, iI_shr h.1 h.2 (by omega) (by omega), show (3 : Int).toNat = 3 from rfl]
  simp (disch := omega) only [nl_0, nl_1, nl_2, nl_3, nl_4, nl_5, nl_6, nl_7, nl_8, nl_9, nl_10, nl_11, nl_12, nl_13, nl_14, nl_15, nl_16, nl_17, nl_18, nl_19, nl_20, nl_21, nl_22, nl_23, nl_24, nl_25, nl_26, nl_27, nl_28, nl_31, nl_32, nl_42, nl_44, nl_46, nl_48, nl_49, nl_50, nl_51, nl_60, nl_75, nl_76, nl_99, nl_100, nl_108, nl_114, nl_117, nl_126, nl_255, nl_999, nl_2401, nl_9999, nl_12345, nl_65536, nl_1000000, nl_1103515245, nl_2147483647, nl_30, nl_55, nl_107, nl_200, nl_512, nl_15485957, iI_0, iI_neg, iI_add, iI_sub, iI_mul, iI_div, iI_mod, iI_lt, iI_le, iI_eq, iI_nat, iI_vp, ld_rd, ld_wl, lu_s, lu_t, lu_c, lu_j, forall_eq, Int.toNat_natCast, true_and, and_true, not_true, not_false_iff, Classical.not_not, forall_const, iI_inj]
theorem sqW_g {L : Nat} {xs : Nat → Int32} : sqW L xs = iI (gW L xs) := by
  have h := sc_r L xs 0
  have h2 := shr_r h.1 6
  unfold sqW gW
  rw [sq_sc, nl_6, iI_shr h.1 h.2 (by omega) (by omega), show (6 : Int).toNat = 6 from rfl]
  simp (disch := omega) only [nl_0, nl_1, nl_2, nl_3, nl_4, nl_5, nl_6, nl_7, nl_8, nl_9, nl_10, nl_11, nl_12, nl_13, nl_14, nl_15, nl_16, nl_17, nl_18, nl_19, nl_20, nl_21, nl_22, nl_23, nl_24, nl_25, nl_26, nl_27, nl_28, nl_31, nl_32, nl_42, nl_44, nl_46, nl_48, nl_49, nl_50, nl_51, nl_60, nl_75, nl_76, nl_99, nl_100, nl_108, nl_114, nl_117, nl_126, nl_255, nl_999, nl_2401, nl_9999, nl_12345, nl_65536, nl_1000000, nl_1103515245, nl_2147483647, nl_30, nl_55, nl_107, nl_200, nl_512, nl_15485957, iI_0, iI_neg, iI_add, iI_sub, iI_mul, iI_div, iI_mod, iI_lt, iI_le, iI_eq, iI_nat, iI_vp, ld_rd, ld_wl, lu_s, lu_t, lu_c, lu_j, forall_eq, Int.toNat_natCast, true_and, and_true, not_true, not_false_iff, Classical.not_not, forall_const, iI_inj]
theorem sqw_g {L : Nat} {xs : Nat → Int32} {k : Nat} (hk : k < 8) : sqw L xs k = iI (gw L xs k) := by
  have h := sc_r L xs 1
  have h2 := shr_r h.1 (4 * k)
  unfold sqw gw
  rw [sq_sc, nl_4, iI_nI, iI_mul, iI_shr h.1 h.2 (by omega) (by omega), show (4 * (k : Int)).toNat = 4 * k by omega]
  simp (disch := omega) only [nl_0, nl_1, nl_2, nl_3, nl_4, nl_5, nl_6, nl_7, nl_8, nl_9, nl_10, nl_11, nl_12, nl_13, nl_14, nl_15, nl_16, nl_17, nl_18, nl_19, nl_20, nl_21, nl_22, nl_23, nl_24, nl_25, nl_26, nl_27, nl_28, nl_31, nl_32, nl_42, nl_44, nl_46, nl_48, nl_49, nl_50, nl_51, nl_60, nl_75, nl_76, nl_99, nl_100, nl_108, nl_114, nl_117, nl_126, nl_255, nl_999, nl_2401, nl_9999, nl_12345, nl_65536, nl_1000000, nl_1103515245, nl_2147483647, nl_30, nl_55, nl_107, nl_200, nl_512, nl_15485957, iI_0, iI_neg, iI_add, iI_sub, iI_mul, iI_div, iI_mod, iI_lt, iI_le, iI_eq, iI_nat, iI_vp, ld_rd, ld_wl, lu_s, lu_t, lu_c, lu_j, forall_eq, Int.toNat_natCast, true_and, and_true, not_true, not_false_iff, Classical.not_not, forall_const, iI_inj]
/-- the greatest force of the winds -/
def gs_ (L : Nat) (xs : Nat → Int32) : Nat → Int
  | 0 => 0
  | k + 1 => if gw L xs k / 4 < gs_ L xs k then gs_ L xs k else gw L xs k / 4
def gS (L : Nat) (xs : Nat → Int32) : Int := gs_ L xs (gW L xs).toNat
theorem gs_r (L : Nat) (xs : Nat → Int32) : ∀ k, 0 ≤ gs_ L xs k ∧ gs_ L xs k ≤ 3
  | 0 => ⟨Int.le_refl _, by show (0 : Int) ≤ 3; omega⟩
  | k + 1 => by
    have h1 := gs_r L xs k
    have h2 := gw_r L xs k
    show 0 ≤ (if gw L xs k / 4 < gs_ L xs k then gs_ L xs k else gw L xs k / 4) ∧ (if gw L xs k / 4 < gs_ L xs k then gs_ L xs k else gw L xs k / 4) ≤ 3
    split <;> omega
theorem gs_m (L : Nat) (xs : Nat → Int32) : ∀ n k, k < n → gw L xs k / 4 ≤ gs_ L xs n
  | 0, k, h => absurd h (Nat.not_lt_zero k)
  | n + 1, k, h => by
    show gw L xs k / 4 ≤ (if gw L xs n / 4 < gs_ L xs n then gs_ L xs n else gw L xs n / 4)
    by_cases e : k = n
    · subst e
      split <;> omega
    · have := gs_m L xs n k (by omega)
      split <;> omega
theorem sqs_g {L : Nat} {xs : Nat → Int32} : ∀ k, k < 8 → sqs L xs k = iI (gs_ L xs k)
  | 0, _ => rfl
  | k + 1, h => by
    have h1 := gs_r L xs k
    have h2 := gw_r L xs k
    show (if sqw L xs k / nI 4 < sqs L xs k then sqs L xs k else sqw L xs k / nI 4) = iI (if gw L xs k / 4 < gs_ L xs k then gs_ L xs k else gw L xs k / 4)
    rw [sqs_g k (by omega), sqw_g (by omega)]
    simp (disch := omega) only [nl_0, nl_1, nl_2, nl_3, nl_4, nl_5, nl_6, nl_7, nl_8, nl_9, nl_10, nl_11, nl_12, nl_13, nl_14, nl_15, nl_16, nl_17, nl_18, nl_19, nl_20, nl_21, nl_22, nl_23, nl_24, nl_25, nl_26, nl_27, nl_28, nl_31, nl_32, nl_42, nl_44, nl_46, nl_48, nl_49, nl_50, nl_51, nl_60, nl_75, nl_76, nl_99, nl_100, nl_108, nl_114, nl_117, nl_126, nl_255, nl_999, nl_2401, nl_9999, nl_12345, nl_65536, nl_1000000, nl_1103515245, nl_2147483647, nl_30, nl_55, nl_107, nl_200, nl_512, nl_15485957, iI_0, iI_neg, iI_add, iI_sub, iI_mul, iI_div, iI_mod, iI_lt, iI_le, iI_eq, iI_nat, iI_vp, ld_rd, ld_wl, lu_s, lu_t, lu_c, lu_j, forall_eq, Int.toNat_natCast, true_and, and_true, not_true, not_false_iff, Classical.not_not, forall_const, iI_inj, iI_if]
theorem sqS_g {L : Nat} {xs : Nat → Int32} : sqS L xs = iI (gS L xs) := by
  have h := gW_r L xs
  unfold sqS gS
  rw [sqW_g, iI_nat h.1 (by omega), sqs_g _ (by omega)]
/-! the law's small methods -/
def XM (L : Nat) (xs : Nat → Int32) (M : mj_M) : Prop := mj_sM M ∧ M 41 = lw_M L xs 41 ∧ L ≤ 260
theorem XM.ln {L : Nat} {xs : Nat → Int32} {M : mj_M} (h : XM L xs M) : mj_len M (41, 82, 0) = L := by
  show (M 41 83 0 0).toNatClampNeg = L
  rw [h.2.1]
  have := h.2.2
  exact nI_clamp (by omega)
theorem XM.at {L : Nat} {xs : Nat → Int32} {M : mj_M} (h : XM L xs M) (j : Nat) : M 41 82 0 j = xs j := by
  rw [h.2.1]
  rfl
theorem XM.fr {L : Nat} {xs : Nat → Int32} {M M' : mj_M} {ps : List Nat} (h : XM L xs M) (f : fr ps M M') (k : ∀ i ∈ [40, 41], i ∉ ps) : XM L xs M' := ⟨f.sM h.1 (k 40 (by decide)), (f 41 (k 41 (by decide))).trans h.2.1, h.2.2⟩
theorem sp_cell {d k : Nat} (hd : 1 ≤ d) {L : Nat} {xs : Nat → Int32} {M : mj_M} (hX : XM L xs M) (hk : k < 1000) : mj_Sp d 62 [mj_r (41, 82, 0), mj_i (iI (k : Int))] M (some (mj_i (iI (sc L xs k)))) M := by
  have hL := hX.2.2
  have e : sq L xs k = iI (sc L xs k) := sq_sc
  unfold sq at e
  rw [iI_nI k] at e
  refine en_L_cell (k := 0) hd fun e' he P hP hQ => rg_L_cell_0 hP ?_
  rw [hX.ln, iI_nI L, iI_le (by omega) (by omega) (by omega) (by omega), iI_nat (by omega) (by omega), Int.toNat_natCast, hX.at]
  refine ⟨fun c => ?_, fun c => ⟨iI_in (by omega) (by omega) (by omega), ?_⟩⟩
  · rw [if_neg (by omega)] at e
    exact fi_i e mj_eq.rf
  · rw [if_pos (by omega)] at e
    exact fi_i e mj_eq.rf
theorem sp_clouds {d : Nat} (hd : 2 ≤ d) {L : Nat} {xs : Nat → Int32} {M : mj_M} (hX : XM L xs M) : mj_Sp d 63 [mj_r (41, 82, 0)] M (some (mj_i (iI (gN L xs)))) M := by
  have h := sc_r L xs 0
  refine en_L_clouds (k := 1) hd fun e he P hP hQ => rg_L_clouds_0 hP ?_
  refine ⟨_, _, sp_cell (k := 0) (by omega) hX (by omega), ?_⟩
  simp (disch := omega) only [nl_0, nl_1, nl_2, nl_3, nl_4, nl_5, nl_6, nl_7, nl_8, nl_9, nl_10, nl_11, nl_12, nl_13, nl_14, nl_15, nl_16, nl_17, nl_18, nl_19, nl_20, nl_21, nl_22, nl_23, nl_24, nl_25, nl_26, nl_27, nl_28, nl_31, nl_32, nl_42, nl_44, nl_46, nl_48, nl_49, nl_50, nl_51, nl_60, nl_75, nl_76, nl_99, nl_100, nl_108, nl_114, nl_117, nl_126, nl_255, nl_999, nl_2401, nl_9999, nl_12345, nl_65536, nl_1000000, nl_1103515245, nl_2147483647, nl_30, nl_55, nl_107, nl_200, nl_512, nl_15485957, iI_0, iI_neg, iI_add, iI_sub, iI_mul, iI_div, iI_mod, iI_lt, iI_le, iI_eq, iI_nat, iI_vp, ld_rd, ld_wl, lu_s, lu_t, lu_c, lu_j, forall_eq, Int.toNat_natCast, true_and, and_true, not_true, not_false_iff, Classical.not_not, forall_const, iI_inj]
  refine ⟨by omega, ?_⟩
  (first | exact mj_eq.rf | exact fi_n mj_eq.rf | exact fi_i rfl mj_eq.rf | exact rfl)
theorem sp_villages {d : Nat} (hd : 2 ≤ d) {L : Nat} {xs : Nat → Int32} {M : mj_M} (hX : XM L xs M) : mj_Sp d 64 [mj_r (41, 82, 0)] M (some (mj_i (iI (gM L xs)))) M := by
  have h := sc_r L xs 0
  have h2 := shr_r h.1 3
  refine en_L_villages (k := 1) hd fun e he P hP hQ => rg_L_villages_0 hP ?_
  refine ⟨_, _, sp_cell (k := 0) (by omega) hX (by omega), ?_⟩
  rw [nl_3, iI_shr h.1 h.2 (by omega) (by omega), show (3 : Int).toNat = 3 from rfl]
  simp (disch := omega) only [nl_0, nl_1, nl_2, nl_3, nl_4, nl_5, nl_6, nl_7, nl_8, nl_9, nl_10, nl_11, nl_12, nl_13, nl_14, nl_15, nl_16, nl_17, nl_18, nl_19, nl_20, nl_21, nl_22, nl_23, nl_24, nl_25, nl_26, nl_27, nl_28, nl_31, nl_32, nl_42, nl_44, nl_46, nl_48, nl_49, nl_50, nl_51, nl_60, nl_75, nl_76, nl_99, nl_100, nl_108, nl_114, nl_117, nl_126, nl_255, nl_999, nl_2401, nl_9999, nl_12345, nl_65536, nl_1000000, nl_1103515245, nl_2147483647, nl_30, nl_55, nl_107, nl_200, nl_512, nl_15485957, iI_0, iI_neg, iI_add, iI_sub, iI_mul, iI_div, iI_mod, iI_lt, iI_le, iI_eq, iI_nat, iI_vp, ld_rd, ld_wl, lu_s, lu_t, lu_c, lu_j, forall_eq, Int.toNat_natCast, true_and, and_true, not_true, not_false_iff, Classical.not_not, forall_const, iI_inj]
  refine ⟨by omega, ?_⟩
  (first | exact mj_eq.rf | exact fi_n mj_eq.rf | exact fi_i rfl mj_eq.rf | exact rfl)
theorem sp_nwinds {d : Nat} (hd : 2 ≤ d) {L : Nat} {xs : Nat → Int32} {M : mj_M} (hX : XM L xs M) : mj_Sp d 65 [mj_r (41, 82, 0)] M (some (mj_i (iI (gW L xs)))) M := by
  have h := sc_r L xs 0
  have h2 := shr_r h.1 6
  refine en_L_winds (k := 1) hd fun e he P hP hQ => rg_L_winds_0 hP ?_
  refine ⟨_, _, sp_cell (k := 0) (by omega) hX (by omega), ?_⟩
  rw [nl_6, iI_shr h.1 h.2 (by omega) (by omega), show (6 : Int).toNat = 6 from rfl]
  simp (disch := omega) only [nl_0, nl_1, nl_2, nl_3, nl_4, nl_5, nl_6, nl_7, nl_8, nl_9, nl_10, nl_11, nl_12, nl_13, nl_14, nl_15, nl_16, nl_17, nl_18, nl_19, nl_20, nl_21, nl_22, nl_23, nl_24, nl_25, nl_26, nl_27, nl_28, nl_31, nl_32, nl_42, nl_44, nl_46, nl_48, nl_49, nl_50, nl_51, nl_60, nl_75, nl_76, nl_99, nl_100, nl_108, nl_114, nl_117, nl_126, nl_255, nl_999, nl_2401, nl_9999, nl_12345, nl_65536, nl_1000000, nl_1103515245, nl_2147483647, nl_30, nl_55, nl_107, nl_200, nl_512, nl_15485957, iI_0, iI_neg, iI_add, iI_sub, iI_mul, iI_div, iI_mod, iI_lt, iI_le, iI_eq, iI_nat, iI_vp, ld_rd, ld_wl, lu_s, lu_t, lu_c, lu_j, forall_eq, Int.toNat_natCast, true_and, and_true, not_true, not_false_iff, Classical.not_not, forall_const, iI_inj]
  refine ⟨by omega, ?_⟩
  (first | exact mj_eq.rf | exact fi_n mj_eq.rf | exact fi_i rfl mj_eq.rf | exact rfl)
theorem sp_wind {d k : Nat} (hd : 2 ≤ d) {L : Nat} {xs : Nat → Int32} {M : mj_M} (hX : XM L xs M) (hk : k < 8) : mj_Sp d 66 [mj_r (41, 82, 0), mj_i (iI (k : Int))] M (some (mj_i (iI (gw L xs k)))) M := by
  have h := sc_r L xs 1
  have h2 := shr_r h.1 (4 * k)
  refine en_L_wind (k := 1) hd fun e he P hP hQ => rg_L_wind_0 hP ?_
  refine ⟨_, _, sp_cell (k := 1) (by omega) hX (by omega), ?_⟩
  rw [nl_4, iI_mul, iI_shr h.1 h.2 (by omega) (by omega), show (4 * (k : Int)).toNat = 4 * k by omega]
  simp (disch := omega) only [nl_0, nl_1, nl_2, nl_3, nl_4, nl_5, nl_6, nl_7, nl_8, nl_9, nl_10, nl_11, nl_12, nl_13, nl_14, nl_15, nl_16, nl_17, nl_18, nl_19, nl_20, nl_21, nl_22, nl_23, nl_24, nl_25, nl_26, nl_27, nl_28, nl_31, nl_32, nl_42, nl_44, nl_46, nl_48, nl_49, nl_50, nl_51, nl_60, nl_75, nl_76, nl_99, nl_100, nl_108, nl_114, nl_117, nl_126, nl_255, nl_999, nl_2401, nl_9999, nl_12345, nl_65536, nl_1000000, nl_1103515245, nl_2147483647, nl_30, nl_55, nl_107, nl_200, nl_512, nl_15485957, iI_0, iI_neg, iI_add, iI_sub, iI_mul, iI_div, iI_mod, iI_lt, iI_le, iI_eq, iI_nat, iI_vp, ld_rd, ld_wl, lu_s, lu_t, lu_c, lu_j, forall_eq, Int.toNat_natCast, true_and, and_true, not_true, not_false_iff, Classical.not_not, forall_const, iI_inj]
  refine ⟨by omega, ?_⟩
  (first | exact mj_eq.rf | exact fi_n mj_eq.rf | exact fi_i rfl mj_eq.rf | exact rfl)
theorem sp_thirst {v : Nat} {L : Nat} {xs : Nat → Int32} (hv : v < 4) : ∃ t : Int, (0 ≤ t ∧ t ≤ 99) ∧ ∀ (d : Nat) (M : mj_M), 2 ≤ d → XM L xs M → mj_Sp d 67 [mj_r (41, 82, 0), mj_i (iI (v : Int))] M (some (mj_i (iI t))) M := by
  have h := sc_r L xs 2
  have h2 := shr_r h.1 (5 * v)
  by_cases g : (iI (sc L xs 0) &&& nI 512) ≤ 0
  · refine ⟨shr (sc L xs 2) (5 * v) % 100, by omega, fun d M hd hX => en_L_thirst (k := 1) hd fun e he P hP hQ => rg_L_thirst_0 hP ⟨_, _, sp_cell (k := 2) (by omega) hX (by omega), _, _, sp_cell (k := 0) (by omega) hX (by omega), fun _ => ?_, fun c => absurd g c⟩⟩
    rw [nl_5, iI_mul, iI_shr h.1 h.2 (by omega) (by omega), show (5 * (v : Int)).toNat = 5 * v by omega]
    simp (disch := omega) only [nl_0, nl_1, nl_2, nl_3, nl_4, nl_5, nl_6, nl_7, nl_8, nl_9, nl_10, nl_11, nl_12, nl_13, nl_14, nl_15, nl_16, nl_17, nl_18, nl_19, nl_20, nl_21, nl_22, nl_23, nl_24, nl_25, nl_26, nl_27, nl_28, nl_31, nl_32, nl_42, nl_44, nl_46, nl_48, nl_49, nl_50, nl_51, nl_60, nl_75, nl_76, nl_99, nl_100, nl_108, nl_114, nl_117, nl_126, nl_255, nl_999, nl_2401, nl_9999, nl_12345, nl_65536, nl_1000000, nl_1103515245, nl_2147483647, nl_30, nl_55, nl_107, nl_200, nl_512, nl_15485957, iI_0, iI_neg, iI_add, iI_sub, iI_mul, iI_div, iI_mod, iI_lt, iI_le, iI_eq, iI_nat, iI_vp, ld_rd, ld_wl, lu_s, lu_t, lu_c, lu_j, forall_eq, Int.toNat_natCast, true_and, and_true, not_true, not_false_iff, Classical.not_not, forall_const, iI_inj]
    refine ⟨by omega, ?_⟩
    (first | exact mj_eq.rf | exact fi_n mj_eq.rf | exact fi_i rfl mj_eq.rf | exact rfl)
  · refine ⟨shr (sc L xs 2) (5 * v) % 12, by omega, fun d M hd hX => en_L_thirst (k := 1) hd fun e he P hP hQ => rg_L_thirst_0 hP ⟨_, _, sp_cell (k := 2) (by omega) hX (by omega), _, _, sp_cell (k := 0) (by omega) hX (by omega), fun c => absurd c g, fun _ => ?_⟩⟩
    rw [nl_5, iI_mul, iI_shr h.1 h.2 (by omega) (by omega), show (5 * (v : Int)).toNat = 5 * v by omega]
    simp (disch := omega) only [nl_0, nl_1, nl_2, nl_3, nl_4, nl_5, nl_6, nl_7, nl_8, nl_9, nl_10, nl_11, nl_12, nl_13, nl_14, nl_15, nl_16, nl_17, nl_18, nl_19, nl_20, nl_21, nl_22, nl_23, nl_24, nl_25, nl_26, nl_27, nl_28, nl_31, nl_32, nl_42, nl_44, nl_46, nl_48, nl_49, nl_50, nl_51, nl_60, nl_75, nl_76, nl_99, nl_100, nl_108, nl_114, nl_117, nl_126, nl_255, nl_999, nl_2401, nl_9999, nl_12345, nl_65536, nl_1000000, nl_1103515245, nl_2147483647, nl_30, nl_55, nl_107, nl_200, nl_512, nl_15485957, iI_0, iI_neg, iI_add, iI_sub, iI_mul, iI_div, iI_mod, iI_lt, iI_le, iI_eq, iI_nat, iI_vp, ld_rd, ld_wl, lu_s, lu_t, lu_c, lu_j, forall_eq, Int.toNat_natCast, true_and, and_true, not_true, not_false_iff, Classical.not_not, forall_const, iI_inj]
    refine ⟨by omega, ?_⟩
    (first | exact mj_eq.rf | exact fi_n mj_eq.rf | exact fi_i rfl mj_eq.rf | exact rfl)
def ab (x : Int) : Int := if 0 ≤ x then x else -x
def ap (a b : Int) : Int := ab (a / 5 - b / 5) + ab (a % 5 - b % 5)
theorem sp_apart {d : Nat} (hd : 1 ≤ d) {a b : Int} {M : mj_M} (ha : 0 ≤ a ∧ a ≤ 25) (hb : 0 ≤ b ∧ b ≤ 25) : mj_Sp d 69 [mj_i (iI a), mj_i (iI b)] M (some (mj_i (iI (ap a b)))) M := by
  refine en_L_apart (k := 0) hd fun e he P hP hQ => rg_L_apart_0 hP ⟨by decide, by decide, fun x2 e2 => ⟨by decide, by decide, fun x3 e3 => ?_⟩⟩
  subst e2
  subst e3
  unfold ap ab
  simp (disch := omega) only [nl_0, nl_1, nl_2, nl_3, nl_4, nl_5, nl_6, nl_7, nl_8, nl_9, nl_10, nl_11, nl_12, nl_13, nl_14, nl_15, nl_16, nl_17, nl_18, nl_19, nl_20, nl_21, nl_22, nl_23, nl_24, nl_25, nl_26, nl_27, nl_28, nl_31, nl_32, nl_42, nl_44, nl_46, nl_48, nl_49, nl_50, nl_51, nl_60, nl_75, nl_76, nl_99, nl_100, nl_108, nl_114, nl_117, nl_126, nl_255, nl_999, nl_2401, nl_9999, nl_12345, nl_65536, nl_1000000, nl_1103515245, nl_2147483647, nl_30, nl_55, nl_107, nl_200, nl_512, nl_15485957, iI_0, iI_neg, iI_add, iI_sub, iI_mul, iI_div, iI_mod, iI_lt, iI_le, iI_eq, iI_nat, iI_vp, ld_rd, ld_wl, lu_s, lu_t, lu_c, lu_j, forall_eq, Int.toNat_natCast, true_and, and_true, not_true, not_false_iff, Classical.not_not, forall_const, iI_inj]
  refine ⟨fun c => ⟨fun c2 => ?_, fun c2 => ?_⟩, fun c => ⟨fun c2 => ?_, fun c2 => ?_⟩⟩
  · rw [if_pos c, if_pos c2]; (first | exact mj_eq.rf | exact fi_n mj_eq.rf | exact fi_i rfl mj_eq.rf | exact rfl)
  · rw [if_pos c, if_neg c2]; (first | exact mj_eq.rf | exact fi_n mj_eq.rf | exact fi_i rfl mj_eq.rf | exact rfl)
  · rw [if_neg c, if_pos c2]; (first | exact mj_eq.rf | exact fi_n mj_eq.rf | exact fi_i rfl mj_eq.rf | exact rfl)
  · rw [if_neg c, if_neg c2]; (first | exact mj_eq.rf | exact fi_n mj_eq.rf | exact fi_i rfl mj_eq.rf | exact rfl)
/-- one step nearer -/
theorem ap_tw {f h : Int} (hf : 0 ≤ f ∧ f ≤ 24) (hh : 0 ≤ h ∧ h ≤ 24) : (ap f h = 0 → tw f h = f) ∧ (ap f h ≠ 0 → ap (tw f h) h = ap f h - 1) := by
  have key : ∀ f h : Fin 25, (ap (f.val : Int) h.val = 0 → tw (f.val : Int) h.val = f.val) ∧ (ap (f.val : Int) h.val ≠ 0 → ap (tw (f.val : Int) h.val) h.val = ap (f.val : Int) h.val - 1) := by decide +kernel
  obtain ⟨a, rfl⟩ := nat_iR hf.1
  obtain ⟨b, rfl⟩ := nat_iR hh.1
  exact key ⟨a, by omega⟩ ⟨b, by omega⟩
