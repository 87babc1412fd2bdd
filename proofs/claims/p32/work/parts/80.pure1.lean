/-! the first object's part -/
theorem laid_LX {L : Nat} {xs : Nat → Int32} {M : mj_M} {A : lA} (h : LAID L xs M A) : LX A ∧ ft A = 0 ∧ tot A = sm (A 3 0) (nC A) ∧ tot A ≤ 1200 ∧ 0 ≤ tot A := by
  obtain ⟨hS, hc, hv, hK, hF⟩ := h
  have hJ := hS.2.2.1
  have hn := hJ.li.nc
  have hnv := hJ.li.nv
  have e0 : ft A = 0 := by
    have : ∀ n, n ≤ 25 → sm (A 9 0) n = 0 := fun n => by
      induction n with
      | zero => exact fun _ => rfl
      | succ n ih =>
        intro hn
        show sm (A 9 0) n + A 9 0 n = 0
        rw [ih (by omega), hF.1 n (by omega)]
        rfl
    exact this 25 (Nat.le_refl _)
  have et : tot A = sm (A 3 0) (nC A) := by
    unfold tot
    rw [e0]
    omega
  have hl := sm_le (s := A 3 0) (b := 200) (nC A) (fun j hj => (hK j hj).2.2.2.2.2)
  have h0 := sw_nn hJ.li
  refine ⟨⟨hJ, fun c v hc6 hv4 e => ?_, fun v hv => ?_, fun f hf => by rw [hF.1 f hf]; exact Int.le_refl _⟩, e0, et, by omega, by omega⟩
  · by_cases g : c < nC A
    · have := (hK c g).2.2.2.1
      omega
    · exact hJ.z4 hc6 hv4 (by omega)
  · have hhm := hJ.li.hm (v := v) (by omega)
    rw [hF.2.1 v (by omega), hF.1 _ (by omega)]
    exact Int.le_refl _
def LR (L : Nat) (xs : Nat → Int32) (T : Int) (k : Nat) (ls : mj_L) (M : mj_M) : Prop := ∃ (A : lA) (n : Nat) (S F : Nat → Int), ST L xs M A n S F ∧ LX A ∧ tot A = T ∧ (nV A : Int) = gM L xs ∧ A 0 0 2 ≤ 5 * (k : Int) ∧ ∃ o9 o10 o11 o12 o13 o14 o15 o16, ls = [some (mj_r (41, 82, 0)), some (mj_r (13, 50, 0)), some (mj_r (17, 73, 0)), some (mj_i (iI 1)), some (mj_i (iI (gN L xs))), some (mj_i (iI (gM L xs))), some (mj_i (iI (T))), some (mj_i (iI (gS L xs))), some (mj_i (iI ((k : Int)))), o9, o10, o11, o12, o13, o14, o15, o16]
theorem rd_all {L : Nat} {xs : Nat → Int32} {T : Int} (hT : T ≤ 1200) (k : Nat) (ls : mj_L) (M : mj_M) (hk : k < 14) (h : LR L xs T k ls M) : ∃ ls' M', Go mj_c70 10 115 ls [] M 115 ls' [] M' ∧ LR L xs T (k + 1) ls' M' := by
  obtain ⟨A, n, S, F, hS, hX, ht, hv, hh, o9, o10, o11, o12, o13, o14, o15, o16, rfl⟩ := h
  have e1 : (k : Int) + 1 = ((k + 1 : Nat) : Int) := by omega
  have e10 : 10 + (k : Int) = ((10 + k : Nat) : Int) := by omega
  have hs := sc_r L xs (10 + k)
  have hho := hX.1.ho
  have hB := hS.2.2.1.li.nc
  obtain ⟨g, M1, g1, hB1, h1⟩ := rd_gone (d := 10) (x4 := iI (gN L xs)) (x5 := iI (gM L xs)) (x6 := iI T) (x7 := iI (gS L xs)) (x8 := iI (k : Int)) (x9 := iI (sc L xs (10 + k))) (o12 := o12) (o13 := o13) (o14 := o14) (o15 := o15) (o16 := o16) (by omega) hS
  obtain ⟨q, A', M2, p13, p14, p15, g2, hR, h2, hn2, hh2⟩ := rd_op (d := 10) (x4 := iI (gN L xs)) (x5 := iI (gM L xs)) (x6 := iI T) (x7 := iI (gS L xs)) (x8 := iI (k : Int)) (x10 := iI (g : Int)) (x11 := iI ((nC A : Nat) : Int)) (x := sc L xs (10 + k)) (o12 := o12) (o13 := o13) (o14 := o14) (o15 := o15) (o16 := o16) (by omega) h1 hX (by omega) (by omega) hs
  obtain ⟨M3, g3, h3⟩ := rd_sum (d := 10) (x4 := iI (gN L xs)) (x5 := iI (gM L xs)) (x7 := iI (gS L xs)) (x8 := iI (k : Int)) (x9 := iI (sc L xs (10 + k))) (x10 := iI (g : Int)) (o13 := p13) (o14 := p14) (o15 := p15) (o16 := o16) (by omega) h2 hX hR (by omega)
  obtain ⟨M4, g4, h4⟩ := rd_stay (d := 10) (x4 := iI (gN L xs)) (x5 := iI (gM L xs)) (x6 := iI T) (x7 := iI (gS L xs)) (x8 := iI (k : Int)) (x9 := iI (sc L xs (10 + k))) (x11 := iI (ft A)) (x12 := iI q) (o14 := p14) (o15 := p15) (o16 := o16) (by omega) h3 hB1 hn2 hR.2.2.2.2.2
  obtain ⟨M5, q13, q14, q15, q16, g5, h5⟩ := rd_vil (d := 10) (x4 := iI (gN L xs)) (x6 := iI T) (x7 := iI (gS L xs)) (x8 := iI (k : Int)) (x9 := iI (sc L xs (10 + k))) (x10 := iI (g : Int)) (x11 := iI (ft A)) (x12 := iI q) (o14 := p14) (o15 := p15) (o16 := o16) (by omega) h4 hR.1 (by have := hR.2.2.1; omega)
  have ev : ((nV A' : Nat) : Int) = gM L xs := by rw [hR.2.1]; exact hv
  rw [ev] at g5
  rw [ht] at g3
  have g0 : Go mj_c70 10 115 [some (mj_r (41, 82, 0)), some (mj_r (13, 50, 0)), some (mj_r (17, 73, 0)), some (mj_i (iI 1)), some (mj_i (iI (gN L xs))), some (mj_i (iI (gM L xs))), some (mj_i (iI (T))), some (mj_i (iI (gS L xs))), some (mj_i (iI ((k : Int)))), o9, o10, o11, o12, o13, o14, o15, o16] [] M 143 [some (mj_r (41, 82, 0)), some (mj_r (13, 50, 0)), some (mj_r (17, 73, 0)), some (mj_i (iI 1)), some (mj_i (iI (gN L xs))), some (mj_i (iI (gM L xs))), some (mj_i (iI (T))), some (mj_i (iI (gS L xs))), some (mj_i (iI ((k : Int)))), some (mj_i (iI (sc L xs (10 + k)))), some (mj_i (iI (0))), some (mj_i (iI (0))), o12, o13, o14, o15, o16] [] M := fun P R hP hQ hend => rg_L_law_115 hP (by
    simp (disch := omega) only [nl_0, nl_1, nl_2, nl_3, nl_4, nl_5, nl_6, nl_7, nl_8, nl_9, nl_10, nl_11, nl_12, nl_13, nl_14, nl_15, nl_16, nl_17, nl_18, nl_19, nl_20, nl_21, nl_22, nl_23, nl_24, nl_25, nl_26, nl_27, nl_28, nl_31, nl_32, nl_42, nl_44, nl_46, nl_48, nl_49, nl_50, nl_51, nl_60, nl_75, nl_76, nl_99, nl_100, nl_108, nl_114, nl_117, nl_126, nl_255, nl_999, nl_2401, nl_9999, nl_12345, nl_65536, nl_1000000, nl_1103515245, nl_2147483647, nl_30, nl_55, nl_107, nl_200, nl_512, nl_15485957, iI_0, iI_neg, iI_add, iI_sub, iI_mul, iI_div, iI_mod, iI_lt, iI_le, iI_eq, iI_nat, iI_vp, ld_rd, ld_wl, lu_s, lu_t, lu_c, lu_j, forall_eq, Int.toNat_natCast, true_and, and_true, not_true, not_false_iff, Classical.not_not, forall_const, iI_inj]
    refine ⟨fun z => by omega, fun _ => ⟨fun z => (by first | exact z.elim | exact absurd rfl z | exact absurd z (by decide) | (exfalso; omega)), fun _ => ?_⟩⟩
    rw [e10]
    exact ⟨_, _, sp_cell (by omega) hS.1 (by omega), hend⟩)
  refine ⟨_, M5, (((((g0.tr g1).tr g2).tr g3).tr g4).tr g5).tr (fun P R hP hQ hend => rg_L_law_662 hP ?_), A', n, S, F, h5, hR.1, by rw [hR.2.2.1]; exact ht, ev, by omega, some (mj_i (iI (sc L xs (10 + k)))), some (mj_i (iI (g : Int))), some (mj_i (iI (ft A))), some (mj_i (iI q)), some (mj_i q13), q14, q15, q16, rfl⟩
  simp (disch := omega) only [nl_0, nl_1, nl_2, nl_3, nl_4, nl_5, nl_6, nl_7, nl_8, nl_9, nl_10, nl_11, nl_12, nl_13, nl_14, nl_15, nl_16, nl_17, nl_18, nl_19, nl_20, nl_21, nl_22, nl_23, nl_24, nl_25, nl_26, nl_27, nl_28, nl_31, nl_32, nl_42, nl_44, nl_46, nl_48, nl_49, nl_50, nl_51, nl_60, nl_75, nl_76, nl_99, nl_100, nl_108, nl_114, nl_117, nl_126, nl_255, nl_999, nl_2401, nl_9999, nl_12345, nl_65536, nl_1000000, nl_1103515245, nl_2147483647, nl_30, nl_55, nl_107, nl_200, nl_512, nl_15485957, iI_0, iI_neg, iI_add, iI_sub, iI_mul, iI_div, iI_mod, iI_lt, iI_le, iI_eq, iI_nat, iI_vp, ld_rd, ld_wl, lu_s, lu_t, lu_c, lu_j, forall_eq, Int.toNat_natCast, true_and, and_true, not_true, not_false_iff, Classical.not_not, forall_const, iI_inj, e1]
  exact hend
theorem lw_pure1 : lw_Pure1 := by
  intro L xs hL P hPs hend
  obtain ⟨hP, hQ⟩ := hPs
  obtain ⟨M1, A, s1, hLA, -⟩ := s_lays (d := 9) (by decide) (xs := xs) hL
  have hlx := laid_LX hLA
  obtain ⟨hS, hc, hv, hK, hF⟩ := hLA
  have hN := gN_r L xs
  have hM := gM_r L xs
  have hW := gW_r L xs
  have hJ := hS.2.2.1
  have hn := hJ.li.nc
  have g13 : Go mj_c70 10 13 [some (mj_r (41, 82, 0)), some (mj_r (13, 50, 0)), some (mj_r (17, 73, 0)), none, none, none, none, none, none, none, none, none, none, none, none, none, none] [] (lw_M L xs) 38 [some (mj_r (41, 82, 0)), some (mj_r (13, 50, 0)), some (mj_r (17, 73, 0)), some (mj_i (iI 1)), some (mj_i (iI (gN L xs))), some (mj_i (iI (gM L xs))), some (mj_i (iI (sm (A 3 0) 0))), some (mj_i (iI (((0 : Nat) : Int)))), none, none, none, none, none, none, none, none, none] [] M1 := fun P R hP hQ hend => rg_L_law_13 hP ⟨_, _, s1, _, _, sp_clouds (by omega) hS.1, _, _, sp_villages (by omega) hS.1, hend⟩
  obtain ⟨ls2, M2, g38, rfl, rfl⟩ := go_lp (d := 10) (c := mj_c70) (pc := 38) (n := nC A) (I := fun k ls M => M = M1 ∧ ls = [some (mj_r (41, 82, 0)), some (mj_r (13, 50, 0)), some (mj_r (17, 73, 0)), some (mj_i (iI 1)), some (mj_i (iI (gN L xs))), some (mj_i (iI (gM L xs))), some (mj_i (iI (sm (A 3 0) k))), some (mj_i (iI ((k : Int)))), none, none, none, none, none, none, none, none, none]) (fun k ls M hk ⟨eM, e⟩ => by
    subst eM
    subst e
    have e1 : (k : Int) + 1 = ((k + 1 : Nat) : Int) := by omega
    have e6 : (6 + (k : Int)).toNat = 6 + k := by omega
    have es : sm (A 3 0) (k + 1) = sm (A 3 0) k + A 3 0 k := rfl
    refine ⟨_, M, fun P R hP hQ hend => rg_L_law_38 hP ?_, rfl, rfl⟩
    rw [es] at hend
    simp (disch := omega) only [nl_0, nl_1, nl_2, nl_3, nl_4, nl_5, nl_6, nl_7, nl_8, nl_9, nl_10, nl_11, nl_12, nl_13, nl_14, nl_15, nl_16, nl_17, nl_18, nl_19, nl_20, nl_21, nl_22, nl_23, nl_24, nl_25, nl_26, nl_27, nl_28, nl_31, nl_32, nl_42, nl_44, nl_46, nl_48, nl_49, nl_50, nl_51, nl_60, nl_75, nl_76, nl_99, nl_100, nl_108, nl_114, nl_117, nl_126, nl_255, nl_999, nl_2401, nl_9999, nl_12345, nl_65536, nl_1000000, nl_1103515245, nl_2147483647, nl_30, nl_55, nl_107, nl_200, nl_512, nl_15485957, iI_0, iI_neg, iI_add, iI_sub, iI_mul, iI_div, iI_mod, iI_lt, iI_le, iI_eq, iI_nat, iI_vp, ld_rd, ld_wl, lu_s, lu_t, lu_c, lu_j, forall_eq, Int.toNat_natCast, true_and, and_true, not_true, not_false_iff, Classical.not_not, forall_const, iI_inj, e6, (hK k hk).2.1, e1]
    exact ⟨fun z => by omega, fun _ => hend⟩) (nC A) 0 _ M1 (by omega) ⟨rfl, rfl⟩
  have g38e : Go mj_c70 10 38 [some (mj_r (41, 82, 0)), some (mj_r (13, 50, 0)), some (mj_r (17, 73, 0)), some (mj_i (iI 1)), some (mj_i (iI (gN L xs))), some (mj_i (iI (gM L xs))), some (mj_i (iI (sm (A 3 0) (nC A)))), some (mj_i (iI (((nC A : Nat) : Int)))), none, none, none, none, none, none, none, none, none] [] M2 69 [some (mj_r (41, 82, 0)), some (mj_r (13, 50, 0)), some (mj_r (17, 73, 0)), some (mj_i (iI 1)), some (mj_i (iI (gN L xs))), some (mj_i (iI (gM L xs))), some (mj_i (iI (tot A))), some (mj_i (iI (gs_ L xs 0))), some (mj_i (iI (((0 : Nat) : Int)))), none, none, none, none, none, none, none, none] [] M2 := fun P R hP hQ hend => rg_L_law_38 hP (by
    rw [hlx.2.2.1] at hend
    simp (disch := omega) only [nl_0, nl_1, nl_2, nl_3, nl_4, nl_5, nl_6, nl_7, nl_8, nl_9, nl_10, nl_11, nl_12, nl_13, nl_14, nl_15, nl_16, nl_17, nl_18, nl_19, nl_20, nl_21, nl_22, nl_23, nl_24, nl_25, nl_26, nl_27, nl_28, nl_31, nl_32, nl_42, nl_44, nl_46, nl_48, nl_49, nl_50, nl_51, nl_60, nl_75, nl_76, nl_99, nl_100, nl_108, nl_114, nl_117, nl_126, nl_255, nl_999, nl_2401, nl_9999, nl_12345, nl_65536, nl_1000000, nl_1103515245, nl_2147483647, nl_30, nl_55, nl_107, nl_200, nl_512, nl_15485957, iI_0, iI_neg, iI_add, iI_sub, iI_mul, iI_div, iI_mod, iI_lt, iI_le, iI_eq, iI_nat, iI_vp, ld_rd, ld_wl, lu_s, lu_t, lu_c, lu_j, forall_eq, Int.toNat_natCast, true_and, and_true, not_true, not_false_iff, Classical.not_not, forall_const, iI_inj]
    exact ⟨fun _ => hend, fun z => by omega⟩)
  obtain ⟨ls3, M3, g69, rfl, rfl⟩ := go_lp (d := 10) (c := mj_c70) (pc := 69) (n := (gW L xs).toNat) (I := fun k ls M => M = M2 ∧ ls = [some (mj_r (41, 82, 0)), some (mj_r (13, 50, 0)), some (mj_r (17, 73, 0)), some (mj_i (iI 1)), some (mj_i (iI (gN L xs))), some (mj_i (iI (gM L xs))), some (mj_i (iI (tot A))), some (mj_i (iI (gs_ L xs k))), some (mj_i (iI ((k : Int)))), none, none, none, none, none, none, none, none]) (fun k ls M hk ⟨eM, e⟩ => by
    subst eM
    subst e
    have e1 : (k : Int) + 1 = ((k + 1 : Nat) : Int) := by omega
    have hg := gw_r L xs k
    have hs := gs_r L xs k
    refine ⟨_, M, fun P R hP hQ hend => rg_L_law_69 hP ⟨_, _, sp_nwinds (by omega) hS.1, ?_⟩, rfl, rfl⟩
    have es : gs_ L xs (k + 1) = if gw L xs k / 4 < gs_ L xs k then gs_ L xs k else gw L xs k / 4 := rfl
    rw [es] at hend
    simp (disch := omega) only [nl_0, nl_1, nl_2, nl_3, nl_4, nl_5, nl_6, nl_7, nl_8, nl_9, nl_10, nl_11, nl_12, nl_13, nl_14, nl_15, nl_16, nl_17, nl_18, nl_19, nl_20, nl_21, nl_22, nl_23, nl_24, nl_25, nl_26, nl_27, nl_28, nl_31, nl_32, nl_42, nl_44, nl_46, nl_48, nl_49, nl_50, nl_51, nl_60, nl_75, nl_76, nl_99, nl_100, nl_108, nl_114, nl_117, nl_126, nl_255, nl_999, nl_2401, nl_9999, nl_12345, nl_65536, nl_1000000, nl_1103515245, nl_2147483647, nl_30, nl_55, nl_107, nl_200, nl_512, nl_15485957, iI_0, iI_neg, iI_add, iI_sub, iI_mul, iI_div, iI_mod, iI_lt, iI_le, iI_eq, iI_nat, iI_vp, ld_rd, ld_wl, lu_s, lu_t, lu_c, lu_j, forall_eq, Int.toNat_natCast, true_and, and_true, not_true, not_false_iff, Classical.not_not, forall_const, iI_inj]
    refine ⟨fun z => by omega, fun _ => ⟨_, _, sp_wind (by omega) hS.1 (by omega), ?_⟩⟩
    simp (disch := omega) only [nl_0, nl_1, nl_2, nl_3, nl_4, nl_5, nl_6, nl_7, nl_8, nl_9, nl_10, nl_11, nl_12, nl_13, nl_14, nl_15, nl_16, nl_17, nl_18, nl_19, nl_20, nl_21, nl_22, nl_23, nl_24, nl_25, nl_26, nl_27, nl_28, nl_31, nl_32, nl_42, nl_44, nl_46, nl_48, nl_49, nl_50, nl_51, nl_60, nl_75, nl_76, nl_99, nl_100, nl_108, nl_114, nl_117, nl_126, nl_255, nl_999, nl_2401, nl_9999, nl_12345, nl_65536, nl_1000000, nl_1103515245, nl_2147483647, nl_30, nl_55, nl_107, nl_200, nl_512, nl_15485957, iI_0, iI_neg, iI_add, iI_sub, iI_mul, iI_div, iI_mod, iI_lt, iI_le, iI_eq, iI_nat, iI_vp, ld_rd, ld_wl, lu_s, lu_t, lu_c, lu_j, forall_eq, Int.toNat_natCast, true_and, and_true, not_true, not_false_iff, Classical.not_not, forall_const, iI_inj]
    refine ⟨by omega, fun z => ⟨_, _, sp_wind (by omega) hS.1 (by omega), by omega, rg_L_law_104 hP ?_⟩, fun z => rg_L_law_104 hP ?_⟩
    · rw [if_neg (by omega)] at hend
      simp (disch := omega) only [nl_0, nl_1, nl_2, nl_3, nl_4, nl_5, nl_6, nl_7, nl_8, nl_9, nl_10, nl_11, nl_12, nl_13, nl_14, nl_15, nl_16, nl_17, nl_18, nl_19, nl_20, nl_21, nl_22, nl_23, nl_24, nl_25, nl_26, nl_27, nl_28, nl_31, nl_32, nl_42, nl_44, nl_46, nl_48, nl_49, nl_50, nl_51, nl_60, nl_75, nl_76, nl_99, nl_100, nl_108, nl_114, nl_117, nl_126, nl_255, nl_999, nl_2401, nl_9999, nl_12345, nl_65536, nl_1000000, nl_1103515245, nl_2147483647, nl_30, nl_55, nl_107, nl_200, nl_512, nl_15485957, iI_0, iI_neg, iI_add, iI_sub, iI_mul, iI_div, iI_mod, iI_lt, iI_le, iI_eq, iI_nat, iI_vp, ld_rd, ld_wl, lu_s, lu_t, lu_c, lu_j, forall_eq, Int.toNat_natCast, true_and, and_true, not_true, not_false_iff, Classical.not_not, forall_const, iI_inj, e1]
      exact hend
    · rw [if_pos (by omega)] at hend
      simp (disch := omega) only [nl_0, nl_1, nl_2, nl_3, nl_4, nl_5, nl_6, nl_7, nl_8, nl_9, nl_10, nl_11, nl_12, nl_13, nl_14, nl_15, nl_16, nl_17, nl_18, nl_19, nl_20, nl_21, nl_22, nl_23, nl_24, nl_25, nl_26, nl_27, nl_28, nl_31, nl_32, nl_42, nl_44, nl_46, nl_48, nl_49, nl_50, nl_51, nl_60, nl_75, nl_76, nl_99, nl_100, nl_108, nl_114, nl_117, nl_126, nl_255, nl_999, nl_2401, nl_9999, nl_12345, nl_65536, nl_1000000, nl_1103515245, nl_2147483647, nl_30, nl_55, nl_107, nl_200, nl_512, nl_15485957, iI_0, iI_neg, iI_add, iI_sub, iI_mul, iI_div, iI_mod, iI_lt, iI_le, iI_eq, iI_nat, iI_vp, ld_rd, ld_wl, lu_s, lu_t, lu_c, lu_j, forall_eq, Int.toNat_natCast, true_and, and_true, not_true, not_false_iff, Classical.not_not, forall_const, iI_inj, e1]
      exact hend) (gW L xs).toNat 0 _ M2 (by omega) ⟨rfl, rfl⟩
  have g69e : Go mj_c70 10 69 [some (mj_r (41, 82, 0)), some (mj_r (13, 50, 0)), some (mj_r (17, 73, 0)), some (mj_i (iI 1)), some (mj_i (iI (gN L xs))), some (mj_i (iI (gM L xs))), some (mj_i (iI (tot A))), some (mj_i (iI (gs_ L xs (gW L xs).toNat))), some (mj_i (iI ((((gW L xs).toNat : Nat) : Int)))), none, none, none, none, none, none, none, none] [] M3 115 [some (mj_r (41, 82, 0)), some (mj_r (13, 50, 0)), some (mj_r (17, 73, 0)), some (mj_i (iI 1)), some (mj_i (iI (gN L xs))), some (mj_i (iI (gM L xs))), some (mj_i (iI (tot A))), some (mj_i (iI (gS L xs))), some (mj_i (iI (((0 : Nat) : Int)))), none, none, none, none, none, none, none, none] [] M3 := fun P R hP hQ hend => rg_L_law_69 hP ⟨_, _, sp_nwinds (by omega) hS.1, by
    simp (disch := omega) only [nl_0, nl_1, nl_2, nl_3, nl_4, nl_5, nl_6, nl_7, nl_8, nl_9, nl_10, nl_11, nl_12, nl_13, nl_14, nl_15, nl_16, nl_17, nl_18, nl_19, nl_20, nl_21, nl_22, nl_23, nl_24, nl_25, nl_26, nl_27, nl_28, nl_31, nl_32, nl_42, nl_44, nl_46, nl_48, nl_49, nl_50, nl_51, nl_60, nl_75, nl_76, nl_99, nl_100, nl_108, nl_114, nl_117, nl_126, nl_255, nl_999, nl_2401, nl_9999, nl_12345, nl_65536, nl_1000000, nl_1103515245, nl_2147483647, nl_30, nl_55, nl_107, nl_200, nl_512, nl_15485957, iI_0, iI_neg, iI_add, iI_sub, iI_mul, iI_div, iI_mod, iI_lt, iI_le, iI_eq, iI_nat, iI_vp, ld_rd, ld_wl, lu_s, lu_t, lu_c, lu_j, forall_eq, Int.toNat_natCast, true_and, and_true, not_true, not_false_iff, Classical.not_not, forall_const, iI_inj]
    exact ⟨fun _ => hend, fun z => by omega⟩⟩
  obtain ⟨ls4, M4, g115, A4, n4, S4, F4, hS4, hX4, ht4, hv4, hh4, o9, o10, o11, o12, o13, o14, o15, o16, rfl⟩ := go_lp (d := 10) (pc := 115) (n := 14) (I := LR L xs (tot A)) (rd_all hlx.2.2.2.1) 14 0 _ M3 (by omega) ⟨A, _, _, _, hS, hlx.1, rfl, hv, by rw [hF.2.2.1]; omega, none, none, none, none, none, none, none, none, rfl⟩
  refine g13 P _ hP hQ (g38 P _ hP hQ (g38e P _ hP hQ (g69 P _ hP hQ (g69e P _ hP hQ (g115 P _ hP hQ (rg_L_law_115 hP ?_))))))
  have key := hend [some (mj_i (iI ((14 : Nat) : Int))), o9, o10, o11, o12, o13, o14, o15, o16] (iI (tot A)) M4 rfl
  rw [sqN_g, sqM_g, sqS_g] at key
  simp (disch := omega) only [nl_0, nl_1, nl_2, nl_3, nl_4, nl_5, nl_6, nl_7, nl_8, nl_9, nl_10, nl_11, nl_12, nl_13, nl_14, nl_15, nl_16, nl_17, nl_18, nl_19, nl_20, nl_21, nl_22, nl_23, nl_24, nl_25, nl_26, nl_27, nl_28, nl_31, nl_32, nl_42, nl_44, nl_46, nl_48, nl_49, nl_50, nl_51, nl_60, nl_75, nl_76, nl_99, nl_100, nl_108, nl_114, nl_117, nl_126, nl_255, nl_999, nl_2401, nl_9999, nl_12345, nl_65536, nl_1000000, nl_1103515245, nl_2147483647, nl_30, nl_55, nl_107, nl_200, nl_512, nl_15485957, iI_0, iI_neg, iI_add, iI_sub, iI_mul, iI_div, iI_mod, iI_lt, iI_le, iI_eq, iI_nat, iI_vp, ld_rd, ld_wl, lu_s, lu_t, lu_c, lu_j, forall_eq, Int.toNat_natCast, true_and, and_true, not_true, not_false_iff, Classical.not_not, forall_const, iI_inj]
  exact ⟨fun _ => key, fun z => by omega⟩
