/-! the second object's part -/
theorem c2_all {L : Nat} {xs : Nat → Int32} {M : mj_M} {B : lA} {W : mj_S} (hS : S2 L xs M B B W) (hK : KW B W) (hn : ((nC B : Nat) : Int) = gN L xs) (hv : ((nV B : Nat) : Int) = gM L xs) (hh : B 0 0 2 = 0) :
    ∃ M' p10 o11 o12 o13 o14 o15 o16, Go mj_c70 10 731 [some (mj_r (41, 82, 0)), none, none, some (mj_i (iI 1)), some (mj_i (iI (gN L xs))), some (mj_i (iI (gM L xs))), none, some (mj_i (iI (gS L xs))), some (mj_r (13, 50, 0)), some (mj_r (17, 73, 0)), some (mj_i (iI (((0 : Nat) : Int)))), none, none, none, none, none, none] [] M 1000 [some (mj_r (41, 82, 0)), none, none, some (mj_i (iI 1)), some (mj_i (iI (gN L xs))), some (mj_i (iI (gM L xs))), none, some (mj_i (iI (gS L xs))), some (mj_r (13, 50, 0)), some (mj_r (17, 73, 0)), some (mj_i p10), o11, o12, o13, o14, o15, o16] [] M' ∧ S2 L xs M' B B W := by
  have hB := hS.2.1.2.2.1
  have hnc := hB.li.nc
  have hnv := hB.li.nv
  by_cases hm : 0 < nV B
  · obtain ⟨ls, M1, g1, h1, o11, o12, o13, o14, o15, o16, rfl⟩ := go_lp (d := 10) (c := mj_c70) (pc := 731) (n := nC B) (I := fun k ls M => S2 L xs M B B W ∧ ∃ o11 o12 o13 o14 o15 o16, ls = [some (mj_r (41, 82, 0)), none, none, some (mj_i (iI 1)), some (mj_i (iI (gN L xs))), some (mj_i (iI (gM L xs))), none, some (mj_i (iI (gS L xs))), some (mj_r (13, 50, 0)), some (mj_r (17, 73, 0)), some (mj_i (iI ((k : Int)))), o11, o12, o13, o14, o15, o16]) (fun k ls M hk ⟨hS, o11, o12, o13, o14, o15, o16, e⟩ => by
      subst e
      obtain ⟨M2, p11, p12, p13, p14, p15, p16, g2, h2⟩ := c2_one (o12 := o12) (o13 := o13) (o14 := o14) (o15 := o15) (o16 := o16) rfl hS hK hk hv hm hh
      refine ⟨_, M2, Go.tr (fun P R hP hQ hend => rg_L_law_731 hP ?_) g2, h2, some (mj_i p11), some (mj_i p12), some (mj_i p13), some (mj_i p14), some (mj_i p15), some (mj_i p16), rfl⟩
      simp (disch := omega) only [nl_0, nl_1, nl_2, nl_3, nl_4, nl_5, nl_6, nl_7, nl_8, nl_9, nl_10, nl_11, nl_12, nl_13, nl_14, nl_15, nl_16, nl_17, nl_18, nl_19, nl_20, nl_21, nl_22, nl_23, nl_24, nl_25, nl_26, nl_27, nl_28, nl_31, nl_32, nl_42, nl_44, nl_46, nl_48, nl_49, nl_50, nl_51, nl_60, nl_75, nl_76, nl_99, nl_100, nl_108, nl_114, nl_117, nl_126, nl_255, nl_999, nl_2401, nl_9999, nl_12345, nl_65536, nl_1000000, nl_1103515245, nl_2147483647, nl_30, nl_55, nl_107, nl_200, nl_512, nl_15485957, iI_0, iI_neg, iI_add, iI_sub, iI_mul, iI_div, iI_mod, iI_lt, iI_le, iI_eq, iI_nat, iI_vp, ld_rd, ld_wl, lu_s, lu_t, lu_c, lu_j, forall_eq, Int.toNat_natCast, true_and, and_true, not_true, not_false_iff, Classical.not_not, forall_const, iI_inj]
      exact ⟨fun z => by omega, fun _ => ⟨fun z => (by first | exact z.elim | exact absurd rfl z | exact absurd z (by decide) | (exfalso; omega)), fun _ => ⟨fun z => by omega, fun _ => hend⟩⟩⟩) (nC B) 0 _ M (by omega) ⟨hS, none, none, none, none, none, none, rfl⟩
    refine ⟨M1, iI ((nC B : Nat) : Int), o11, o12, o13, o14, o15, o16, g1.tr (fun P R hP hQ hend => rg_L_law_731 hP ?_), h1⟩
    simp (disch := omega) only [nl_0, nl_1, nl_2, nl_3, nl_4, nl_5, nl_6, nl_7, nl_8, nl_9, nl_10, nl_11, nl_12, nl_13, nl_14, nl_15, nl_16, nl_17, nl_18, nl_19, nl_20, nl_21, nl_22, nl_23, nl_24, nl_25, nl_26, nl_27, nl_28, nl_31, nl_32, nl_42, nl_44, nl_46, nl_48, nl_49, nl_50, nl_51, nl_60, nl_75, nl_76, nl_99, nl_100, nl_108, nl_114, nl_117, nl_126, nl_255, nl_999, nl_2401, nl_9999, nl_12345, nl_65536, nl_1000000, nl_1103515245, nl_2147483647, nl_30, nl_55, nl_107, nl_200, nl_512, nl_15485957, iI_0, iI_neg, iI_add, iI_sub, iI_mul, iI_div, iI_mod, iI_lt, iI_le, iI_eq, iI_nat, iI_vp, ld_rd, ld_wl, lu_s, lu_t, lu_c, lu_j, forall_eq, Int.toNat_natCast, true_and, and_true, not_true, not_false_iff, Classical.not_not, forall_const, iI_inj]
    exact ⟨fun _ => hend, fun z => by omega⟩
  · refine ⟨M, iI ((0 : Nat) : Int), none, none, none, none, none, none, fun P R hP hQ hend => rg_L_law_731 hP ?_, hS⟩
    simp (disch := omega) only [nl_0, nl_1, nl_2, nl_3, nl_4, nl_5, nl_6, nl_7, nl_8, nl_9, nl_10, nl_11, nl_12, nl_13, nl_14, nl_15, nl_16, nl_17, nl_18, nl_19, nl_20, nl_21, nl_22, nl_23, nl_24, nl_25, nl_26, nl_27, nl_28, nl_31, nl_32, nl_42, nl_44, nl_46, nl_48, nl_49, nl_50, nl_51, nl_60, nl_75, nl_76, nl_99, nl_100, nl_108, nl_114, nl_117, nl_126, nl_255, nl_999, nl_2401, nl_9999, nl_12345, nl_65536, nl_1000000, nl_1103515245, nl_2147483647, nl_30, nl_55, nl_107, nl_200, nl_512, nl_15485957, iI_0, iI_neg, iI_add, iI_sub, iI_mul, iI_div, iI_mod, iI_lt, iI_le, iI_eq, iI_nat, iI_vp, ld_rd, ld_wl, lu_s, lu_t, lu_c, lu_j, forall_eq, Int.toNat_natCast, true_and, and_true, not_true, not_false_iff, Classical.not_not, forall_const, iI_inj]
    exact ⟨fun _ => hend, fun _ => ⟨fun z => (by first | exact z.elim | exact absurd rfl z | exact absurd z (by decide) | (exfalso; omega)), fun _ => ⟨fun _ => hend, fun z => by omega⟩⟩⟩
/-- as drawn it is the same again -/
theorem c2_drawn {L : Nat} {xs : Nat → Int32} {M : mj_M} {B : lA} {W : mj_S} {p10 : Int32} {o11 o12 o13 o14 o15 o16 : Option mj_V} (hS : S2 L xs M B B W) (hh : B 0 0 2 = 0) (hf : ft B = 0) :
    ∃ M' q10 q11 q12, Go mj_c70 10 1000 [some (mj_r (41, 82, 0)), none, none, some (mj_i (iI 1)), some (mj_i (iI (gN L xs))), some (mj_i (iI (gM L xs))), none, some (mj_i (iI (gS L xs))), some (mj_r (13, 50, 0)), some (mj_r (17, 73, 0)), some (mj_i p10), o11, o12, o13, o14, o15, o16] [] M 1108 [some (mj_r (41, 82, 0)), none, none, some (mj_i (iI 1)), some (mj_i (iI (gN L xs))), some (mj_i (iI (gM L xs))), none, some (mj_i (iI (gS L xs))), some (mj_r (13, 50, 0)), some (mj_r (17, 73, 0)), some (mj_i q10), some (mj_i q11), some (mj_i q12), some (mj_i (iI (((0 : Nat) : Int)))), o14, o15, o16] [] M' ∧ S2 L xs M' B B W := by
  have hB := hS.2.1.2.2.1
  have ga := gd_add (A := B) (a := 4) 5
  have e9 : s_drawn B 9 = (gdu B 9, gd B 9) := by
    unfold s_drawn
    rw [if_neg (by omega), if_neg (by omega)]
    rfl
  have e4 : s_drawn B 4 = (gdu B 4, gd B 4) := by
    unfold s_drawn
    rw [if_neg (by omega), if_neg (by omega)]
    rfl
  have h4h := gd_h (A := B) 4
  have e5 : s_drawn (gd B 4) 5 = (gdu (gd B 4) 5, gd (gd B 4) 5) := by
    unfold s_drawn
    rw [if_neg (by omega), if_neg (by omega)]
    rfl
  have eg : gd (gd B 4) 5 = gd B 9 := ga.1.symm
  have eu : gdu B 4 + gdu (gd B 4) 5 = gdu B 9 := ga.2.symm
  obtain ⟨M1, s1, h1⟩ := p_drawn (d := 10) (by omega) hS (m := 9) (by unfold iR; omega)
  rw [e9] at s1 h1
  have h1 : S2 L xs M1 (gd B 9) B W := h1
  have s1 : mj_Sp 10 15 [mj_r (13, 50, 0), mj_i (iI 9)] M (some (mj_i (iI (gdu B 9)))) M1 := s1
  obtain ⟨M2, s2, h2⟩ := p_count (d := 10) (by omega) h1 (w := 2) (by unfold iR; omega)
  obtain ⟨M3, s3, h3⟩ := p_count (d := 10) (by omega) h2 (w := 6) (by unfold iR; omega)
  rw [(v_count (A := gd B 9) (n := (gW L xs).toNat)).2.1] at s2
  rw [(v_count (A := gd B 9) (n := (gW L xs).toNat)).2.2.2.2] at s3
  obtain ⟨M4, s4, h4⟩ := p_rest (d := 10) (by omega) h3
  obtain ⟨M5, s5, h5⟩ := p_drawn (d := 10) (by omega) h4 (m := 4) (by unfold iR; omega)
  rw [e4] at s5 h5
  have h5 : S2 L xs M5 (gd B 4) B W := h5
  have s5 : mj_Sp 10 15 [mj_r (13, 50, 0), mj_i (iI 4)] M4 (some (mj_i (iI (gdu B 4)))) M5 := s5
  obtain ⟨M6, s6, h6⟩ := p_drawn (d := 10) (by omega) h5 (m := 5) (by unfold iR; omega)
  rw [e5] at s6 h6
  have s6 : mj_Sp 10 15 [mj_r (13, 50, 0), mj_i (iI 5)] M5 (some (mj_i (iI (gdu (gd B 4) 5)))) M6 := s6
  have h6 : S2 L xs M6 (gd B 9) B W := by
    have h6 : S2 L xs M6 (gd (gd B 4) 5) B W := h6
    rw [eg] at h6
    exact h6
  obtain ⟨M7, s7, h7⟩ := p_count (d := 10) (by omega) h6 (w := 2) (by unfold iR; omega)
  obtain ⟨M8, s8, h8⟩ := p_count (d := 10) (by omega) h7 (w := 6) (by unfold iR; omega)
  rw [(v_count (A := gd B 9) (n := (gW L xs).toNat)).2.1] at s7
  rw [(v_count (A := gd B 9) (n := (gW L xs).toNat)).2.2.2.2] at s8
  obtain ⟨M9, s9, h9⟩ := p_rest (d := 10) (by omega) h8
  obtain ⟨Ma, sa, ha⟩ := p_count (d := 10) (by omega) h9 (w := 6) (by unfold iR; omega)
  rw [(v_count (A := B) (n := (gW L xs).toNat)).2.2.2.2, hf] at sa
  refine ⟨Ma, iI (gdu B 9), iI (gd B 9 0 0 2), iI (ft (gd B 9)), fun P R hP hQ hend => rg_L_law_1000 hP ⟨_, _, s1, _, _, s2, _, _, s3, ?_⟩, ha⟩
  simp (disch := omega) only [nl_0, nl_1, nl_2, nl_3, nl_4, nl_5, nl_6, nl_7, nl_8, nl_9, nl_10, nl_11, nl_12, nl_13, nl_14, nl_15, nl_16, nl_17, nl_18, nl_19, nl_20, nl_21, nl_22, nl_23, nl_24, nl_25, nl_26, nl_27, nl_28, nl_31, nl_32, nl_42, nl_44, nl_46, nl_48, nl_49, nl_50, nl_51, nl_60, nl_75, nl_76, nl_99, nl_100, nl_108, nl_114, nl_117, nl_126, nl_255, nl_999, nl_2401, nl_9999, nl_12345, nl_65536, nl_1000000, nl_1103515245, nl_2147483647, nl_30, nl_55, nl_107, nl_200, nl_512, nl_15485957, iI_0, iI_neg, iI_add, iI_sub, iI_mul, iI_div, iI_mod, iI_lt, iI_le, iI_eq, iI_nat, iI_vp, ld_rd, ld_wl, lu_s, lu_t, lu_c, lu_j, forall_eq, Int.toNat_natCast, true_and, and_true, not_true, not_false_iff, Classical.not_not, forall_const, iI_inj]
  refine ⟨fun z => (by first | exact z.elim | exact absurd rfl z | exact absurd z (by decide) | (exfalso; omega)), fun _ => ⟨_, _, s4, ?_⟩⟩
  simp (disch := omega) only [nl_0, nl_1, nl_2, nl_3, nl_4, nl_5, nl_6, nl_7, nl_8, nl_9, nl_10, nl_11, nl_12, nl_13, nl_14, nl_15, nl_16, nl_17, nl_18, nl_19, nl_20, nl_21, nl_22, nl_23, nl_24, nl_25, nl_26, nl_27, nl_28, nl_31, nl_32, nl_42, nl_44, nl_46, nl_48, nl_49, nl_50, nl_51, nl_60, nl_75, nl_76, nl_99, nl_100, nl_108, nl_114, nl_117, nl_126, nl_255, nl_999, nl_2401, nl_9999, nl_12345, nl_65536, nl_1000000, nl_1103515245, nl_2147483647, nl_30, nl_55, nl_107, nl_200, nl_512, nl_15485957, iI_0, iI_neg, iI_add, iI_sub, iI_mul, iI_div, iI_mod, iI_lt, iI_le, iI_eq, iI_nat, iI_vp, ld_rd, ld_wl, lu_s, lu_t, lu_c, lu_j, forall_eq, Int.toNat_natCast, true_and, and_true, not_true, not_false_iff, Classical.not_not, forall_const, iI_inj]
  refine ⟨fun z => (by first | exact z.elim | exact absurd rfl z | exact absurd z (by decide) | (exfalso; omega)), _, _, s5, _, _, s6, ?_⟩
  rw [iI_add, eu]
  simp (disch := omega) only [nl_0, nl_1, nl_2, nl_3, nl_4, nl_5, nl_6, nl_7, nl_8, nl_9, nl_10, nl_11, nl_12, nl_13, nl_14, nl_15, nl_16, nl_17, nl_18, nl_19, nl_20, nl_21, nl_22, nl_23, nl_24, nl_25, nl_26, nl_27, nl_28, nl_31, nl_32, nl_42, nl_44, nl_46, nl_48, nl_49, nl_50, nl_51, nl_60, nl_75, nl_76, nl_99, nl_100, nl_108, nl_114, nl_117, nl_126, nl_255, nl_999, nl_2401, nl_9999, nl_12345, nl_65536, nl_1000000, nl_1103515245, nl_2147483647, nl_30, nl_55, nl_107, nl_200, nl_512, nl_15485957, iI_0, iI_neg, iI_add, iI_sub, iI_mul, iI_div, iI_mod, iI_lt, iI_le, iI_eq, iI_nat, iI_vp, ld_rd, ld_wl, lu_s, lu_t, lu_c, lu_j, forall_eq, Int.toNat_natCast, true_and, and_true, not_true, not_false_iff, Classical.not_not, forall_const, iI_inj]
  refine ⟨fun z => (by first | exact z.elim | exact absurd rfl z | exact absurd z (by decide) | (exfalso; omega)), _, _, s7, ?_⟩
  simp (disch := omega) only [nl_0, nl_1, nl_2, nl_3, nl_4, nl_5, nl_6, nl_7, nl_8, nl_9, nl_10, nl_11, nl_12, nl_13, nl_14, nl_15, nl_16, nl_17, nl_18, nl_19, nl_20, nl_21, nl_22, nl_23, nl_24, nl_25, nl_26, nl_27, nl_28, nl_31, nl_32, nl_42, nl_44, nl_46, nl_48, nl_49, nl_50, nl_51, nl_60, nl_75, nl_76, nl_99, nl_100, nl_108, nl_114, nl_117, nl_126, nl_255, nl_999, nl_2401, nl_9999, nl_12345, nl_65536, nl_1000000, nl_1103515245, nl_2147483647, nl_30, nl_55, nl_107, nl_200, nl_512, nl_15485957, iI_0, iI_neg, iI_add, iI_sub, iI_mul, iI_div, iI_mod, iI_lt, iI_le, iI_eq, iI_nat, iI_vp, ld_rd, ld_wl, lu_s, lu_t, lu_c, lu_j, forall_eq, Int.toNat_natCast, true_and, and_true, not_true, not_false_iff, Classical.not_not, forall_const, iI_inj]
  refine ⟨fun z => (by first | exact z.elim | exact absurd rfl z | exact absurd z (by decide) | (exfalso; omega)), _, _, s8, ?_⟩
  simp (disch := omega) only [nl_0, nl_1, nl_2, nl_3, nl_4, nl_5, nl_6, nl_7, nl_8, nl_9, nl_10, nl_11, nl_12, nl_13, nl_14, nl_15, nl_16, nl_17, nl_18, nl_19, nl_20, nl_21, nl_22, nl_23, nl_24, nl_25, nl_26, nl_27, nl_28, nl_31, nl_32, nl_42, nl_44, nl_46, nl_48, nl_49, nl_50, nl_51, nl_60, nl_75, nl_76, nl_99, nl_100, nl_108, nl_114, nl_117, nl_126, nl_255, nl_999, nl_2401, nl_9999, nl_12345, nl_65536, nl_1000000, nl_1103515245, nl_2147483647, nl_30, nl_55, nl_107, nl_200, nl_512, nl_15485957, iI_0, iI_neg, iI_add, iI_sub, iI_mul, iI_div, iI_mod, iI_lt, iI_le, iI_eq, iI_nat, iI_vp, ld_rd, ld_wl, lu_s, lu_t, lu_c, lu_j, forall_eq, Int.toNat_natCast, true_and, and_true, not_true, not_false_iff, Classical.not_not, forall_const, iI_inj]
  refine ⟨fun z => (by first | exact z.elim | exact absurd rfl z | exact absurd z (by decide) | (exfalso; omega)), _, _, s9, ?_⟩
  simp (disch := omega) only [nl_0, nl_1, nl_2, nl_3, nl_4, nl_5, nl_6, nl_7, nl_8, nl_9, nl_10, nl_11, nl_12, nl_13, nl_14, nl_15, nl_16, nl_17, nl_18, nl_19, nl_20, nl_21, nl_22, nl_23, nl_24, nl_25, nl_26, nl_27, nl_28, nl_31, nl_32, nl_42, nl_44, nl_46, nl_48, nl_49, nl_50, nl_51, nl_60, nl_75, nl_76, nl_99, nl_100, nl_108, nl_114, nl_117, nl_126, nl_255, nl_999, nl_2401, nl_9999, nl_12345, nl_65536, nl_1000000, nl_1103515245, nl_2147483647, nl_30, nl_55, nl_107, nl_200, nl_512, nl_15485957, iI_0, iI_neg, iI_add, iI_sub, iI_mul, iI_div, iI_mod, iI_lt, iI_le, iI_eq, iI_nat, iI_vp, ld_rd, ld_wl, lu_s, lu_t, lu_c, lu_j, forall_eq, Int.toNat_natCast, true_and, and_true, not_true, not_false_iff, Classical.not_not, forall_const, iI_inj]
  refine ⟨fun z => (by first | exact z.elim | exact absurd rfl z | exact absurd z (by decide) | (exfalso; omega)), _, _, sa, ?_⟩
  simp (disch := omega) only [nl_0, nl_1, nl_2, nl_3, nl_4, nl_5, nl_6, nl_7, nl_8, nl_9, nl_10, nl_11, nl_12, nl_13, nl_14, nl_15, nl_16, nl_17, nl_18, nl_19, nl_20, nl_21, nl_22, nl_23, nl_24, nl_25, nl_26, nl_27, nl_28, nl_31, nl_32, nl_42, nl_44, nl_46, nl_48, nl_49, nl_50, nl_51, nl_60, nl_75, nl_76, nl_99, nl_100, nl_108, nl_114, nl_117, nl_126, nl_255, nl_999, nl_2401, nl_9999, nl_12345, nl_65536, nl_1000000, nl_1103515245, nl_2147483647, nl_30, nl_55, nl_107, nl_200, nl_512, nl_15485957, iI_0, iI_neg, iI_add, iI_sub, iI_mul, iI_div, iI_mod, iI_lt, iI_le, iI_eq, iI_nat, iI_vp, ld_rd, ld_wl, lu_s, lu_t, lu_c, lu_j, forall_eq, Int.toNat_natCast, true_and, and_true, not_true, not_false_iff, Classical.not_not, forall_const, iI_inj]
  exact ⟨fun z => (by first | exact z.elim | exact absurd rfl z | exact absurd z (by decide) | (exfalso; omega)), rg_L_law_1104 hP hend⟩
theorem lu_back {A : lA} {t c j : Nat} {x : Int} : lu (lu A t c j x) t c j (A t c j) = A := by
  funext t' c' j'
  unfold lu
  by_cases h : t' = t ∧ c' = c ∧ j' = j
  · rw [if_pos h, h.1, h.2.1, h.2.2]
  · rw [if_neg h, if_neg h]
theorem s_set1 {A : lA} (hA : LI A) {v : Nat} {x : Int} (hv : v < nV A) (hx : 0 ≤ x ∧ x ≤ 99) : s_set A (v : Int) 1 x = (A 7 0 v, lu A 7 0 v x) := by
  have := hA.nv
  unfold s_set
  rw [if_neg (by omega), if_neg (by decide), if_neg (by omega), Int.toNat_natCast]
/-- enough by the fewest strings -/
theorem c2_few {L : Nat} {xs : Nat → Int32} {M : mj_M} {B : lA} {W : mj_S} {q10 q11 q12 : Int32} {o14 o15 o16 : Option mj_V} (hS : S2 L xs M B B W) (hv : ((nV B : Nat) : Int) = gM L xs) :
    ∃ M' p13 p14 p15 p16, Go mj_c70 10 1108 [some (mj_r (41, 82, 0)), none, none, some (mj_i (iI 1)), some (mj_i (iI (gN L xs))), some (mj_i (iI (gM L xs))), none, some (mj_i (iI (gS L xs))), some (mj_r (13, 50, 0)), some (mj_r (17, 73, 0)), some (mj_i q10), some (mj_i q11), some (mj_i q12), some (mj_i (iI (((0 : Nat) : Int)))), o14, o15, o16] [] M 1284 [some (mj_r (41, 82, 0)), none, none, some (mj_i (iI 1)), some (mj_i (iI (gN L xs))), some (mj_i (iI (gM L xs))), none, some (mj_i (iI (gS L xs))), some (mj_r (13, 50, 0)), some (mj_r (17, 73, 0)), some (mj_i q10), some (mj_i q11), some (mj_i q12), some (mj_i p13), p14, p15, p16] [] M' ∧ p13 = iI 0 ∧ S2 L xs M' B B W := by
  have hB := hS.2.1.2.2.1
  have hnv := hB.li.nv
  obtain ⟨ls, M1, g1, h1, p14, p15, p16, rfl⟩ := go_lp (d := 10) (c := mj_c70) (pc := 1108) (n := nV B) (I := fun k ls M => S2 L xs M B B W ∧ ∃ p14 p15 p16, ls = [some (mj_r (41, 82, 0)), none, none, some (mj_i (iI 1)), some (mj_i (iI (gN L xs))), some (mj_i (iI (gM L xs))), none, some (mj_i (iI (gS L xs))), some (mj_r (13, 50, 0)), some (mj_r (17, 73, 0)), some (mj_i q10), some (mj_i q11), some (mj_i q12), some (mj_i (iI ((k : Int)))), p14, p15, p16]) (fun k ls M hk ⟨hS, p14, p15, p16, e⟩ => by
    subst e
    have e1 : (k : Int) + 1 = ((k + 1 : Nat) : Int) := by omega
    have hs26 := sc_r L xs 26
    obtain ⟨m, hm⟩ := nat_iR (show 0 ≤ 1 + sc L xs 26 % 5 by omega)
    have hvo := v_of hB.li hk
    have hth := hB.th (v := k) (by omega)
    have hsg := hB.sg (v := k) (by omega)
    obtain ⟨tt, htt, spt⟩ := sp_thirst (L := L) (xs := xs) (v := k) (by omega)
    obtain ⟨M1, r1, s1, w1, h1⟩ := p_few (d := 10) (by omega) hS (v := (k : Int)) (m := (m : Int)) (by unfold iR; omega) (by unfold iR; omega)
    obtain ⟨M2, s2, h2⟩ := p_of (d := 10) (by omega) h1 (v := (k : Int)) (w := 1) (by unfold iR; omega) (by unfold iR; omega)
    rw [hvo.2.1] at s2
    obtain ⟨M3, r3, s3, w3, h3⟩ := p_few (d := 10) (by omega) h2 (v := (k : Int)) (m := (m : Int) + 1) (by unfold iR; omega) (by unfold iR; omega)
    obtain ⟨M4, r4, s4, w4, h4⟩ := p_few (d := 10) (by omega) h3 (v := (k : Int)) (m := (m : Int) + 1) (by unfold iR; omega) (by unfold iR; omega)
    have f3 := few_up hB hk (m := m) (by omega) w1 w3
    have f4 := few_up hB hk (m := m) (by omega) w1 w4
    -- from fewest on to the thirst
    have gA : ∃ M5, S2 L xs M5 B B W ∧ Go mj_c70 10 1108 [some (mj_r (41, 82, 0)), none, none, some (mj_i (iI 1)), some (mj_i (iI (gN L xs))), some (mj_i (iI (gM L xs))), none, some (mj_i (iI (gS L xs))), some (mj_r (13, 50, 0)), some (mj_r (17, 73, 0)), some (mj_i q10), some (mj_i q11), some (mj_i q12), some (mj_i (iI ((k : Int)))), p14, p15, p16] [] M 1209 [some (mj_r (41, 82, 0)), none, none, some (mj_i (iI 1)), some (mj_i (iI (gN L xs))), some (mj_i (iI (gM L xs))), none, some (mj_i (iI (gS L xs))), some (mj_r (13, 50, 0)), some (mj_r (17, 73, 0)), some (mj_i q10), some (mj_i q11), some (mj_i q12), some (mj_i (iI ((k : Int)))), some (mj_i (iI ((m : Int)))), some (mj_i (iI (r1))), p16] [] M5 := by
      have gB : Go mj_c70 10 1108 [some (mj_r (41, 82, 0)), none, none, some (mj_i (iI 1)), some (mj_i (iI (gN L xs))), some (mj_i (iI (gM L xs))), none, some (mj_i (iI (gS L xs))), some (mj_r (13, 50, 0)), some (mj_r (17, 73, 0)), some (mj_i q10), some (mj_i q11), some (mj_i q12), some (mj_i (iI ((k : Int)))), p14, p15, p16] [] M 1170 [some (mj_r (41, 82, 0)), none, none, some (mj_i (iI 1)), some (mj_i (iI (gN L xs))), some (mj_i (iI (gM L xs))), none, some (mj_i (iI (gS L xs))), some (mj_r (13, 50, 0)), some (mj_r (17, 73, 0)), some (mj_i q10), some (mj_i q11), some (mj_i q12), some (mj_i (iI ((k : Int)))), some (mj_i (iI ((m : Int)))), some (mj_i (iI (r1))), p16] [] M2 := fun P R hP hQ hend => rg_L_law_1108 hP (by
        simp (disch := omega) only [nl_0, nl_1, nl_2, nl_3, nl_4, nl_5, nl_6, nl_7, nl_8, nl_9, nl_10, nl_11, nl_12, nl_13, nl_14, nl_15, nl_16, nl_17, nl_18, nl_19, nl_20, nl_21, nl_22, nl_23, nl_24, nl_25, nl_26, nl_27, nl_28, nl_31, nl_32, nl_42, nl_44, nl_46, nl_48, nl_49, nl_50, nl_51, nl_60, nl_75, nl_76, nl_99, nl_100, nl_108, nl_114, nl_117, nl_126, nl_255, nl_999, nl_2401, nl_9999, nl_12345, nl_65536, nl_1000000, nl_1103515245, nl_2147483647, nl_30, nl_55, nl_107, nl_200, nl_512, nl_15485957, iI_0, iI_neg, iI_add, iI_sub, iI_mul, iI_div, iI_mod, iI_lt, iI_le, iI_eq, iI_nat, iI_vp, ld_rd, ld_wl, lu_s, lu_t, lu_c, lu_j, forall_eq, Int.toNat_natCast, true_and, and_true, not_true, not_false_iff, Classical.not_not, forall_const, iI_inj]
        refine ⟨fun z => by omega, fun _ => ⟨fun z => (by first | exact z.elim | exact absurd rfl z | exact absurd z (by decide) | (exfalso; omega)), fun _ => ⟨_, _, sp_cell (k := 26) (by omega) hS.1.1 (by omega), ?_⟩⟩⟩
        simp (disch := omega) only [nl_0, nl_1, nl_2, nl_3, nl_4, nl_5, nl_6, nl_7, nl_8, nl_9, nl_10, nl_11, nl_12, nl_13, nl_14, nl_15, nl_16, nl_17, nl_18, nl_19, nl_20, nl_21, nl_22, nl_23, nl_24, nl_25, nl_26, nl_27, nl_28, nl_31, nl_32, nl_42, nl_44, nl_46, nl_48, nl_49, nl_50, nl_51, nl_60, nl_75, nl_76, nl_99, nl_100, nl_108, nl_114, nl_117, nl_126, nl_255, nl_999, nl_2401, nl_9999, nl_12345, nl_65536, nl_1000000, nl_1103515245, nl_2147483647, nl_30, nl_55, nl_107, nl_200, nl_512, nl_15485957, iI_0, iI_neg, iI_add, iI_sub, iI_mul, iI_div, iI_mod, iI_lt, iI_le, iI_eq, iI_nat, iI_vp, ld_rd, ld_wl, lu_s, lu_t, lu_c, lu_j, forall_eq, Int.toNat_natCast, true_and, and_true, not_true, not_false_iff, Classical.not_not, forall_const, iI_inj, hm]
        refine ⟨by omega, _, _, s1, _, _, s2, ?_⟩
        simp (disch := omega) only [nl_0, nl_1, nl_2, nl_3, nl_4, nl_5, nl_6, nl_7, nl_8, nl_9, nl_10, nl_11, nl_12, nl_13, nl_14, nl_15, nl_16, nl_17, nl_18, nl_19, nl_20, nl_21, nl_22, nl_23, nl_24, nl_25, nl_26, nl_27, nl_28, nl_31, nl_32, nl_42, nl_44, nl_46, nl_48, nl_49, nl_50, nl_51, nl_60, nl_75, nl_76, nl_99, nl_100, nl_108, nl_114, nl_117, nl_126, nl_255, nl_999, nl_2401, nl_9999, nl_12345, nl_65536, nl_1000000, nl_1103515245, nl_2147483647, nl_30, nl_55, nl_107, nl_200, nl_512, nl_15485957, iI_0, iI_neg, iI_add, iI_sub, iI_mul, iI_div, iI_mod, iI_lt, iI_le, iI_eq, iI_nat, iI_vp, ld_rd, ld_wl, lu_s, lu_t, lu_c, lu_j, forall_eq, Int.toNat_natCast, true_and, and_true, not_true, not_false_iff, Classical.not_not, forall_const, iI_inj]
        refine ⟨fun z => by omega, fun _ => ⟨fun _ => hend, fun _ => ⟨_, _, spt 10 M2 (by omega) h2.1.1, ?_⟩⟩⟩
        simp (disch := omega) only [nl_0, nl_1, nl_2, nl_3, nl_4, nl_5, nl_6, nl_7, nl_8, nl_9, nl_10, nl_11, nl_12, nl_13, nl_14, nl_15, nl_16, nl_17, nl_18, nl_19, nl_20, nl_21, nl_22, nl_23, nl_24, nl_25, nl_26, nl_27, nl_28, nl_31, nl_32, nl_42, nl_44, nl_46, nl_48, nl_49, nl_50, nl_51, nl_60, nl_75, nl_76, nl_99, nl_100, nl_108, nl_114, nl_117, nl_126, nl_255, nl_999, nl_2401, nl_9999, nl_12345, nl_65536, nl_1000000, nl_1103515245, nl_2147483647, nl_30, nl_55, nl_107, nl_200, nl_512, nl_15485957, iI_0, iI_neg, iI_add, iI_sub, iI_mul, iI_div, iI_mod, iI_lt, iI_le, iI_eq, iI_nat, iI_vp, ld_rd, ld_wl, lu_s, lu_t, lu_c, lu_j, forall_eq, Int.toNat_natCast, true_and, and_true, not_true, not_false_iff, Classical.not_not, forall_const, iI_inj]
        exact ⟨fun z => by omega, fun _ => hend⟩)
      by_cases c : r1 = -4
      · refine ⟨M2, h2, gB.tr (fun P R hP hQ hend => rg_L_law_1170 hP ?_)⟩
        simp (disch := omega) only [nl_0, nl_1, nl_2, nl_3, nl_4, nl_5, nl_6, nl_7, nl_8, nl_9, nl_10, nl_11, nl_12, nl_13, nl_14, nl_15, nl_16, nl_17, nl_18, nl_19, nl_20, nl_21, nl_22, nl_23, nl_24, nl_25, nl_26, nl_27, nl_28, nl_31, nl_32, nl_42, nl_44, nl_46, nl_48, nl_49, nl_50, nl_51, nl_60, nl_75, nl_76, nl_99, nl_100, nl_108, nl_114, nl_117, nl_126, nl_255, nl_999, nl_2401, nl_9999, nl_12345, nl_65536, nl_1000000, nl_1103515245, nl_2147483647, nl_30, nl_55, nl_107, nl_200, nl_512, nl_15485957, iI_0, iI_neg, iI_add, iI_sub, iI_mul, iI_div, iI_mod, iI_lt, iI_le, iI_eq, iI_nat, iI_vp, ld_rd, ld_wl, lu_s, lu_t, lu_c, lu_j, forall_eq, Int.toNat_natCast, true_and, and_true, not_true, not_false_iff, Classical.not_not, forall_const, iI_inj]
        exact ⟨fun _ => hend, fun z => absurd c z⟩
      · refine ⟨M4, h4, gB.tr (fun P R hP hQ hend => rg_L_law_1170 hP ?_)⟩
        simp (disch := omega) only [nl_0, nl_1, nl_2, nl_3, nl_4, nl_5, nl_6, nl_7, nl_8, nl_9, nl_10, nl_11, nl_12, nl_13, nl_14, nl_15, nl_16, nl_17, nl_18, nl_19, nl_20, nl_21, nl_22, nl_23, nl_24, nl_25, nl_26, nl_27, nl_28, nl_31, nl_32, nl_42, nl_44, nl_46, nl_48, nl_49, nl_50, nl_51, nl_60, nl_75, nl_76, nl_99, nl_100, nl_108, nl_114, nl_117, nl_126, nl_255, nl_999, nl_2401, nl_9999, nl_12345, nl_65536, nl_1000000, nl_1103515245, nl_2147483647, nl_30, nl_55, nl_107, nl_200, nl_512, nl_15485957, iI_0, iI_neg, iI_add, iI_sub, iI_mul, iI_div, iI_mod, iI_lt, iI_le, iI_eq, iI_nat, iI_vp, ld_rd, ld_wl, lu_s, lu_t, lu_c, lu_j, forall_eq, Int.toNat_natCast, true_and, and_true, not_true, not_false_iff, Classical.not_not, forall_const, iI_inj]
        refine ⟨fun z => absurd z c, fun _ => ⟨_, _, s3, ?_⟩⟩
        simp (disch := omega) only [nl_0, nl_1, nl_2, nl_3, nl_4, nl_5, nl_6, nl_7, nl_8, nl_9, nl_10, nl_11, nl_12, nl_13, nl_14, nl_15, nl_16, nl_17, nl_18, nl_19, nl_20, nl_21, nl_22, nl_23, nl_24, nl_25, nl_26, nl_27, nl_28, nl_31, nl_32, nl_42, nl_44, nl_46, nl_48, nl_49, nl_50, nl_51, nl_60, nl_75, nl_76, nl_99, nl_100, nl_108, nl_114, nl_117, nl_126, nl_255, nl_999, nl_2401, nl_9999, nl_12345, nl_65536, nl_1000000, nl_1103515245, nl_2147483647, nl_30, nl_55, nl_107, nl_200, nl_512, nl_15485957, iI_0, iI_neg, iI_add, iI_sub, iI_mul, iI_div, iI_mod, iI_lt, iI_le, iI_eq, iI_nat, iI_vp, ld_rd, ld_wl, lu_s, lu_t, lu_c, lu_j, forall_eq, Int.toNat_natCast, true_and, and_true, not_true, not_false_iff, Classical.not_not, forall_const, iI_inj]
        refine ⟨fun z => by omega, fun _ => ⟨_, _, s4, ?_⟩⟩
        simp (disch := omega) only [nl_0, nl_1, nl_2, nl_3, nl_4, nl_5, nl_6, nl_7, nl_8, nl_9, nl_10, nl_11, nl_12, nl_13, nl_14, nl_15, nl_16, nl_17, nl_18, nl_19, nl_20, nl_21, nl_22, nl_23, nl_24, nl_25, nl_26, nl_27, nl_28, nl_31, nl_32, nl_42, nl_44, nl_46, nl_48, nl_49, nl_50, nl_51, nl_60, nl_75, nl_76, nl_99, nl_100, nl_108, nl_114, nl_117, nl_126, nl_255, nl_999, nl_2401, nl_9999, nl_12345, nl_65536, nl_1000000, nl_1103515245, nl_2147483647, nl_30, nl_55, nl_107, nl_200, nl_512, nl_15485957, iI_0, iI_neg, iI_add, iI_sub, iI_mul, iI_div, iI_mod, iI_lt, iI_le, iI_eq, iI_nat, iI_vp, ld_rd, ld_wl, lu_s, lu_t, lu_c, lu_j, forall_eq, Int.toNat_natCast, true_and, and_true, not_true, not_false_iff, Classical.not_not, forall_const, iI_inj]
        exact ⟨fun z => by omega, fun _ => hend⟩
    obtain ⟨M5, h5, g5⟩ := gA
    obtain ⟨M6, s6, h6⟩ := p_of (d := 10) (by omega) h5 (v := (k : Int)) (w := 2) (by unfold iR; omega) (by unfold iR; omega)
    rw [hvo.2.2.1] at s6
    obtain ⟨M7, s7, h7⟩ := p_set (d := 10) (by omega) h6 (v := (k : Int)) (w := 1) (x := 0) (by unfold iR; omega) (by unfold iR; omega) (by unfold iR; omega)
    rw [s_set1 hB.li hk (by omega)] at s7 h7
    have h7 : S2 L xs M7 (lu B 7 0 k 0) B W := h7
    have s7 : mj_Sp 10 4 [mj_r (13, 50, 0), mj_i (iI (k : Int)), mj_i (iI 1), mj_i (iI 0)] M6 (some (mj_i (iI (B 7 0 k)))) M7 := s7
    obtain ⟨M8, r8, s8, w8, h8⟩ := p_few (d := 10) (by omega) h7 (v := (k : Int)) (m := (m : Int)) (by unfold iR; omega) (by unfold iR; omega)
    have e8 := few_0 h7.1.2.2.1 (v := k) (m := m) hk (by omega) lu_s w8
    subst e8
    obtain ⟨M9, s9, h9⟩ := p_set (d := 10) (by omega) h8 (v := (k : Int)) (w := 1) (x := B 7 0 k) (by unfold iR; omega) (by unfold iR; omega) (by unfold iR; omega)
    rw [s_set1 (A := lu B 7 0 k 0) h8.1.2.2.1.li (v := k) hk hth] at s9 h9
    have h9 : S2 L xs M9 B B W := by
      have h9 : S2 L xs M9 (lu (lu B 7 0 k 0) 7 0 k (B 7 0 k)) B W := h9
      rw [lu_back] at h9
      exact h9
    have s9 : mj_Sp 10 4 [mj_r (13, 50, 0), mj_i (iI (k : Int)), mj_i (iI 1), mj_i (iI (B 7 0 k))] M8 (some (mj_i (iI 0))) M9 := by
      have s9 : mj_Sp 10 4 [mj_r (13, 50, 0), mj_i (iI (k : Int)), mj_i (iI 1), mj_i (iI (B 7 0 k))] M8 (some (mj_i (iI (lu B 7 0 k 0 7 0 k)))) M9 := s9
      rw [lu_s] at s9
      exact s9
    refine ⟨_, M9, g5.tr (fun P R hP hQ hend => rg_L_law_1209 hP (rg_L_law_1214 hP ⟨_, _, s6, ?_⟩)), h9, some (mj_i (iI (m : Int))), some (mj_i (iI r1)), some (mj_i (iI (B 7 0 k))), rfl⟩
    simp (disch := omega) only [nl_0, nl_1, nl_2, nl_3, nl_4, nl_5, nl_6, nl_7, nl_8, nl_9, nl_10, nl_11, nl_12, nl_13, nl_14, nl_15, nl_16, nl_17, nl_18, nl_19, nl_20, nl_21, nl_22, nl_23, nl_24, nl_25, nl_26, nl_27, nl_28, nl_31, nl_32, nl_42, nl_44, nl_46, nl_48, nl_49, nl_50, nl_51, nl_60, nl_75, nl_76, nl_99, nl_100, nl_108, nl_114, nl_117, nl_126, nl_255, nl_999, nl_2401, nl_9999, nl_12345, nl_65536, nl_1000000, nl_1103515245, nl_2147483647, nl_30, nl_55, nl_107, nl_200, nl_512, nl_15485957, iI_0, iI_neg, iI_add, iI_sub, iI_mul, iI_div, iI_mod, iI_lt, iI_le, iI_eq, iI_nat, iI_vp, ld_rd, ld_wl, lu_s, lu_t, lu_c, lu_j, forall_eq, Int.toNat_natCast, true_and, and_true, not_true, not_false_iff, Classical.not_not, forall_const, iI_inj]
    refine ⟨fun z => (by first | exact z.elim | exact absurd rfl z | exact absurd z (by decide) | (exfalso; omega)), fun _ => ⟨_, _, s7, ?_⟩⟩
    simp (disch := omega) only [nl_0, nl_1, nl_2, nl_3, nl_4, nl_5, nl_6, nl_7, nl_8, nl_9, nl_10, nl_11, nl_12, nl_13, nl_14, nl_15, nl_16, nl_17, nl_18, nl_19, nl_20, nl_21, nl_22, nl_23, nl_24, nl_25, nl_26, nl_27, nl_28, nl_31, nl_32, nl_42, nl_44, nl_46, nl_48, nl_49, nl_50, nl_51, nl_60, nl_75, nl_76, nl_99, nl_100, nl_108, nl_114, nl_117, nl_126, nl_255, nl_999, nl_2401, nl_9999, nl_12345, nl_65536, nl_1000000, nl_1103515245, nl_2147483647, nl_30, nl_55, nl_107, nl_200, nl_512, nl_15485957, iI_0, iI_neg, iI_add, iI_sub, iI_mul, iI_div, iI_mod, iI_lt, iI_le, iI_eq, iI_nat, iI_vp, ld_rd, ld_wl, lu_s, lu_t, lu_c, lu_j, forall_eq, Int.toNat_natCast, true_and, and_true, not_true, not_false_iff, Classical.not_not, forall_const, iI_inj]
    refine ⟨fun z => (by first | exact z.elim | exact absurd rfl z | exact absurd z (by decide) | (exfalso; omega)), _, _, s8, ?_⟩
    simp (disch := omega) only [nl_0, nl_1, nl_2, nl_3, nl_4, nl_5, nl_6, nl_7, nl_8, nl_9, nl_10, nl_11, nl_12, nl_13, nl_14, nl_15, nl_16, nl_17, nl_18, nl_19, nl_20, nl_21, nl_22, nl_23, nl_24, nl_25, nl_26, nl_27, nl_28, nl_31, nl_32, nl_42, nl_44, nl_46, nl_48, nl_49, nl_50, nl_51, nl_60, nl_75, nl_76, nl_99, nl_100, nl_108, nl_114, nl_117, nl_126, nl_255, nl_999, nl_2401, nl_9999, nl_12345, nl_65536, nl_1000000, nl_1103515245, nl_2147483647, nl_30, nl_55, nl_107, nl_200, nl_512, nl_15485957, iI_0, iI_neg, iI_add, iI_sub, iI_mul, iI_div, iI_mod, iI_lt, iI_le, iI_eq, iI_nat, iI_vp, ld_rd, ld_wl, lu_s, lu_t, lu_c, lu_j, forall_eq, Int.toNat_natCast, true_and, and_true, not_true, not_false_iff, Classical.not_not, forall_const, iI_inj]
    refine ⟨fun z => (by first | exact z.elim | exact absurd rfl z | exact absurd z (by decide) | (exfalso; omega)), _, _, s9, ?_⟩
    simp (disch := omega) only [nl_0, nl_1, nl_2, nl_3, nl_4, nl_5, nl_6, nl_7, nl_8, nl_9, nl_10, nl_11, nl_12, nl_13, nl_14, nl_15, nl_16, nl_17, nl_18, nl_19, nl_20, nl_21, nl_22, nl_23, nl_24, nl_25, nl_26, nl_27, nl_28, nl_31, nl_32, nl_42, nl_44, nl_46, nl_48, nl_49, nl_50, nl_51, nl_60, nl_75, nl_76, nl_99, nl_100, nl_108, nl_114, nl_117, nl_126, nl_255, nl_999, nl_2401, nl_9999, nl_12345, nl_65536, nl_1000000, nl_1103515245, nl_2147483647, nl_30, nl_55, nl_107, nl_200, nl_512, nl_15485957, iI_0, iI_neg, iI_add, iI_sub, iI_mul, iI_div, iI_mod, iI_lt, iI_le, iI_eq, iI_nat, iI_vp, ld_rd, ld_wl, lu_s, lu_t, lu_c, lu_j, forall_eq, Int.toNat_natCast, true_and, and_true, not_true, not_false_iff, Classical.not_not, forall_const, iI_inj]
    refine ⟨fun z => (by first | exact z.elim | exact absurd rfl z | exact absurd z (by decide) | (exfalso; omega)), rg_L_law_1274 hP ?_⟩
    simp (disch := omega) only [nl_0, nl_1, nl_2, nl_3, nl_4, nl_5, nl_6, nl_7, nl_8, nl_9, nl_10, nl_11, nl_12, nl_13, nl_14, nl_15, nl_16, nl_17, nl_18, nl_19, nl_20, nl_21, nl_22, nl_23, nl_24, nl_25, nl_26, nl_27, nl_28, nl_31, nl_32, nl_42, nl_44, nl_46, nl_48, nl_49, nl_50, nl_51, nl_60, nl_75, nl_76, nl_99, nl_100, nl_108, nl_114, nl_117, nl_126, nl_255, nl_999, nl_2401, nl_9999, nl_12345, nl_65536, nl_1000000, nl_1103515245, nl_2147483647, nl_30, nl_55, nl_107, nl_200, nl_512, nl_15485957, iI_0, iI_neg, iI_add, iI_sub, iI_mul, iI_div, iI_mod, iI_lt, iI_le, iI_eq, iI_nat, iI_vp, ld_rd, ld_wl, lu_s, lu_t, lu_c, lu_j, forall_eq, Int.toNat_natCast, true_and, and_true, not_true, not_false_iff, Classical.not_not, forall_const, iI_inj, e1]
    exact hend) (nV B) 0 _ M (by omega) ⟨hS, o14, o15, o16, rfl⟩
  refine ⟨M1, iI 0, p14, p15, p16, g1.tr (fun P R hP hQ hend => rg_L_law_1108 hP ?_), rfl, h1⟩
  simp (disch := omega) only [nl_0, nl_1, nl_2, nl_3, nl_4, nl_5, nl_6, nl_7, nl_8, nl_9, nl_10, nl_11, nl_12, nl_13, nl_14, nl_15, nl_16, nl_17, nl_18, nl_19, nl_20, nl_21, nl_22, nl_23, nl_24, nl_25, nl_26, nl_27, nl_28, nl_31, nl_32, nl_42, nl_44, nl_46, nl_48, nl_49, nl_50, nl_51, nl_60, nl_75, nl_76, nl_99, nl_100, nl_108, nl_114, nl_117, nl_126, nl_255, nl_999, nl_2401, nl_9999, nl_12345, nl_65536, nl_1000000, nl_1103515245, nl_2147483647, nl_30, nl_55, nl_107, nl_200, nl_512, nl_15485957, iI_0, iI_neg, iI_add, iI_sub, iI_mul, iI_div, iI_mod, iI_lt, iI_le, iI_eq, iI_nat, iI_vp, ld_rd, ld_wl, lu_s, lu_t, lu_c, lu_j, forall_eq, Int.toNat_natCast, true_and, and_true, not_true, not_false_iff, Classical.not_not, forall_const, iI_inj]
  exact ⟨fun _ => rg_L_law_1281 hP hend, fun z => by omega⟩
theorem lw_pure2 : lw_Pure2 := by
  intro L xs hL P hPs
  obtain ⟨hP, hQ⟩ := hPs
  obtain ⟨M1, A, s1, hLA, -⟩ := s_lays (d := 9) (by decide) (xs := xs) hL
  have hlx := laid_LX hLA
  obtain ⟨hS, hc, hv, hK, hF⟩ := hLA
  have hN := gN_r L xs
  have hM := gM_r L xs
  have hs24 := sc_r L xs 24
  have hJ := hS.2.2.1
  have hn := hJ.li.nc
  -- the draw
  have hJB : LJ (lu A 0 0 3 (sc L xs 24)) := hJ.l3 (by omega)
  have cs := c_seed (d := 10) (by omega) (A := A) (M := M1) (v := sc L xs 24) (by unfold iR; omega)
  have ess : s_seed A (sc L xs 24) = (A 0 0 3, lu A 0 0 3 (sc L xs 24)) := by
    unfold s_seed
    rw [if_neg (by omega)]
  rw [ess, hF.2.2.2] at cs
  obtain ⟨M2, s2, f2, h2⟩ := st_call hS hJB cs
  have s2 : mj_Sp 10 16 [mj_r (13, 50, 0), mj_i (iI (sc L xs 24))] M1 (some (mj_i (iI 1))) M2 := s2
  obtain ⟨M3, s3, h3⟩ := p_image (d := 10) (by omega) h2
  generalize hB : lu A 0 0 3 (sc L xs 24) = B at hJB h2 h3
  have eB : ∀ t i j, (t ≠ 0 ∨ j ≠ 3) → B t i j = A t i j := fun t i j ht => by
    rw [← hB]
    by_cases e : t = 0
    · exact lu_j (by omega)
    · exact lu_t e
  have enc : nC B = nC A := by unfold nC; rw [eB 0 0 0 (by decide)]
  have env : nV B = nV A := by unfold nV; rw [eB 0 0 1 (by decide)]
  have eft : ft B = 0 := by
    rw [← hlx.2.1]
    unfold ft
    exact sm_c 25 (fun j _ => eB 9 0 j (by omega))
  have ehh : B 0 0 2 = 0 := by rw [eB 0 0 2 (by decide)]; exact hF.2.2.1
  have hKW : KW B (M2 17) := fun j hj => by
    rw [enc] at hj
    rw [f2 17 (by decide), eB 2 0 j (by omega), eB 3 0 j (by omega), eB 1 0 j (by omega)]
    have := hK j hj
    exact ⟨this.1, this.2.1, this.2.2.1, this.2.2.2.1⟩
  generalize M2 17 = W at h3 hKW
  have hnB : ((nC B : Nat) : Int) = gN L xs := by rw [enc]; exact hc
  have hvB : ((nV B : Nat) : Int) = gM L xs := by rw [env]; exact hv
  have g0 : Go mj_c70 10 683 [some (mj_r (41, 82, 0)), none, none, some (mj_i (iI 1)), some (mj_i (iI (gN L xs))), some (mj_i (iI (gM L xs))), none, some (mj_i (iI (gS L xs))), some (mj_r (13, 50, 0)), some (mj_r (17, 73, 0)), none, none, none, none, none, none, none] [] (lw_M L xs) 731 [some (mj_r (41, 82, 0)), none, none, some (mj_i (iI 1)), some (mj_i (iI (gN L xs))), some (mj_i (iI (gM L xs))), none, some (mj_i (iI (gS L xs))), some (mj_r (13, 50, 0)), some (mj_r (17, 73, 0)), some (mj_i (iI (((0 : Nat) : Int)))), none, none, none, none, none, none] [] M3 := fun P R hP hQ hend => rg_L_law_683 hP (by
    simp (disch := omega) only [nl_0, nl_1, nl_2, nl_3, nl_4, nl_5, nl_6, nl_7, nl_8, nl_9, nl_10, nl_11, nl_12, nl_13, nl_14, nl_15, nl_16, nl_17, nl_18, nl_19, nl_20, nl_21, nl_22, nl_23, nl_24, nl_25, nl_26, nl_27, nl_28, nl_31, nl_32, nl_42, nl_44, nl_46, nl_48, nl_49, nl_50, nl_51, nl_60, nl_75, nl_76, nl_99, nl_100, nl_108, nl_114, nl_117, nl_126, nl_255, nl_999, nl_2401, nl_9999, nl_12345, nl_65536, nl_1000000, nl_1103515245, nl_2147483647, nl_30, nl_55, nl_107, nl_200, nl_512, nl_15485957, iI_0, iI_neg, iI_add, iI_sub, iI_mul, iI_div, iI_mod, iI_lt, iI_le, iI_eq, iI_nat, iI_vp, ld_rd, ld_wl, lu_s, lu_t, lu_c, lu_j, forall_eq, Int.toNat_natCast, true_and, and_true, not_true, not_false_iff, Classical.not_not, forall_const, iI_inj]
    refine ⟨fun z => (by first | exact z.elim | exact absurd rfl z | exact absurd z (by decide) | (exfalso; omega)), fun _ => ⟨_, _, s1, ?_⟩⟩
    simp (disch := omega) only [nl_0, nl_1, nl_2, nl_3, nl_4, nl_5, nl_6, nl_7, nl_8, nl_9, nl_10, nl_11, nl_12, nl_13, nl_14, nl_15, nl_16, nl_17, nl_18, nl_19, nl_20, nl_21, nl_22, nl_23, nl_24, nl_25, nl_26, nl_27, nl_28, nl_31, nl_32, nl_42, nl_44, nl_46, nl_48, nl_49, nl_50, nl_51, nl_60, nl_75, nl_76, nl_99, nl_100, nl_108, nl_114, nl_117, nl_126, nl_255, nl_999, nl_2401, nl_9999, nl_12345, nl_65536, nl_1000000, nl_1103515245, nl_2147483647, nl_30, nl_55, nl_107, nl_200, nl_512, nl_15485957, iI_0, iI_neg, iI_add, iI_sub, iI_mul, iI_div, iI_mod, iI_lt, iI_le, iI_eq, iI_nat, iI_vp, ld_rd, ld_wl, lu_s, lu_t, lu_c, lu_j, forall_eq, Int.toNat_natCast, true_and, and_true, not_true, not_false_iff, Classical.not_not, forall_const, iI_inj]
    refine ⟨fun z => (by first | exact z.elim | exact absurd rfl z | exact absurd z (by decide) | (exfalso; omega)), fun _ => ⟨_, _, sp_cell (k := 24) (by omega) hS.1 (by omega), _, _, s2, ?_⟩⟩
    simp (disch := omega) only [nl_0, nl_1, nl_2, nl_3, nl_4, nl_5, nl_6, nl_7, nl_8, nl_9, nl_10, nl_11, nl_12, nl_13, nl_14, nl_15, nl_16, nl_17, nl_18, nl_19, nl_20, nl_21, nl_22, nl_23, nl_24, nl_25, nl_26, nl_27, nl_28, nl_31, nl_32, nl_42, nl_44, nl_46, nl_48, nl_49, nl_50, nl_51, nl_60, nl_75, nl_76, nl_99, nl_100, nl_108, nl_114, nl_117, nl_126, nl_255, nl_999, nl_2401, nl_9999, nl_12345, nl_65536, nl_1000000, nl_1103515245, nl_2147483647, nl_30, nl_55, nl_107, nl_200, nl_512, nl_15485957, iI_0, iI_neg, iI_add, iI_sub, iI_mul, iI_div, iI_mod, iI_lt, iI_le, iI_eq, iI_nat, iI_vp, ld_rd, ld_wl, lu_s, lu_t, lu_c, lu_j, forall_eq, Int.toNat_natCast, true_and, and_true, not_true, not_false_iff, Classical.not_not, forall_const, iI_inj]
    refine ⟨fun z => (by first | exact z.elim | exact absurd rfl z | exact absurd z (by decide) | (exfalso; omega)), _, _, s3, ?_⟩
    simp (disch := omega) only [nl_0, nl_1, nl_2, nl_3, nl_4, nl_5, nl_6, nl_7, nl_8, nl_9, nl_10, nl_11, nl_12, nl_13, nl_14, nl_15, nl_16, nl_17, nl_18, nl_19, nl_20, nl_21, nl_22, nl_23, nl_24, nl_25, nl_26, nl_27, nl_28, nl_31, nl_32, nl_42, nl_44, nl_46, nl_48, nl_49, nl_50, nl_51, nl_60, nl_75, nl_76, nl_99, nl_100, nl_108, nl_114, nl_117, nl_126, nl_255, nl_999, nl_2401, nl_9999, nl_12345, nl_65536, nl_1000000, nl_1103515245, nl_2147483647, nl_30, nl_55, nl_107, nl_200, nl_512, nl_15485957, iI_0, iI_neg, iI_add, iI_sub, iI_mul, iI_div, iI_mod, iI_lt, iI_le, iI_eq, iI_nat, iI_vp, ld_rd, ld_wl, lu_s, lu_t, lu_c, lu_j, forall_eq, Int.toNat_natCast, true_and, and_true, not_true, not_false_iff, Classical.not_not, forall_const, iI_inj]
    exact ⟨fun z => (by first | exact z.elim | exact absurd rfl z | exact absurd z (by decide) | (exfalso; omega)), rg_L_law_727 hP hend⟩)
  obtain ⟨M4, p10, o11, o12, o13, o14, o15, o16, g4, h4⟩ := c2_all h3 hKW hnB hvB ehh
  obtain ⟨M5, q10, q11, q12, g5, h5⟩ := c2_drawn (p10 := p10) (o11 := o11) (o12 := o12) (o13 := o13) (o14 := o14) (o15 := o15) (o16 := o16) h4 ehh eft
  obtain ⟨M6, p13, p14, p15, p16, g6, rfl, h6⟩ := c2_few (q10 := q10) (q11 := q11) (q12 := q12) (o14 := o14) (o15 := o15) (o16 := o16) h5 hvB
  have hnBc := hJB.li.nc
  obtain ⟨ls7, M7, g7, h7, rfl⟩ := go_lp (d := 10) (c := mj_c70) (pc := 1284) (n := nC B) (I := fun k ls M => S2 L xs M B B W ∧ ls = [some (mj_r (41, 82, 0)), none, none, some (mj_i (iI 1)), some (mj_i (iI (gN L xs))), some (mj_i (iI (gM L xs))), none, some (mj_i (iI (gS L xs))), some (mj_r (13, 50, 0)), some (mj_r (17, 73, 0)), some (mj_i q10), some (mj_i q11), some (mj_i q12), some (mj_i (iI ((k : Int)))), p14, p15, p16]) (fun k ls M hk ⟨hS, e⟩ => by
    subst e
    have e1 : (k : Int) + 1 = ((k + 1 : Nat) : Int) := by omega
    have e6 : (6 + (k : Int)).toNat = 6 + k := by omega
    have hvt := v_told hJB.li hk
    have hkk := hKW k hk
    obtain ⟨Ma, sa, ha⟩ := p_told (d := 10) (by omega) hS (c := (k : Int)) (w := 1) (by unfold iR; omega) (by unfold iR; omega)
    obtain ⟨Mb, sb, hb⟩ := p_told (d := 10) (by omega) ha (c := (k : Int)) (w := 2) (by unfold iR; omega) (by unfold iR; omega)
    rw [hvt.2.1] at sa
    rw [hvt.2.2.1] at sb
    refine ⟨_, Mb, fun P R hP hQ hend => rg_L_law_1284 hP ?_, hb, rfl⟩
    simp (disch := omega) only [nl_0, nl_1, nl_2, nl_3, nl_4, nl_5, nl_6, nl_7, nl_8, nl_9, nl_10, nl_11, nl_12, nl_13, nl_14, nl_15, nl_16, nl_17, nl_18, nl_19, nl_20, nl_21, nl_22, nl_23, nl_24, nl_25, nl_26, nl_27, nl_28, nl_31, nl_32, nl_42, nl_44, nl_46, nl_48, nl_49, nl_50, nl_51, nl_60, nl_75, nl_76, nl_99, nl_100, nl_108, nl_114, nl_117, nl_126, nl_255, nl_999, nl_2401, nl_9999, nl_12345, nl_65536, nl_1000000, nl_1103515245, nl_2147483647, nl_30, nl_55, nl_107, nl_200, nl_512, nl_15485957, iI_0, iI_neg, iI_add, iI_sub, iI_mul, iI_div, iI_mod, iI_lt, iI_le, iI_eq, iI_nat, iI_vp, ld_rd, ld_wl, lu_s, lu_t, lu_c, lu_j, forall_eq, Int.toNat_natCast, true_and, and_true, not_true, not_false_iff, Classical.not_not, forall_const, iI_inj]
    refine ⟨fun z => by omega, fun _ => ⟨fun z => (by first | exact z.elim | exact absurd rfl z | exact absurd z (by decide) | (exfalso; omega)), fun _ => ⟨_, _, sa, ?_⟩⟩⟩
    simp (disch := omega) only [nl_0, nl_1, nl_2, nl_3, nl_4, nl_5, nl_6, nl_7, nl_8, nl_9, nl_10, nl_11, nl_12, nl_13, nl_14, nl_15, nl_16, nl_17, nl_18, nl_19, nl_20, nl_21, nl_22, nl_23, nl_24, nl_25, nl_26, nl_27, nl_28, nl_31, nl_32, nl_42, nl_44, nl_46, nl_48, nl_49, nl_50, nl_51, nl_60, nl_75, nl_76, nl_99, nl_100, nl_108, nl_114, nl_117, nl_126, nl_255, nl_999, nl_2401, nl_9999, nl_12345, nl_65536, nl_1000000, nl_1103515245, nl_2147483647, nl_30, nl_55, nl_107, nl_200, nl_512, nl_15485957, iI_0, iI_neg, iI_add, iI_sub, iI_mul, iI_div, iI_mod, iI_lt, iI_le, iI_eq, iI_nat, iI_vp, ld_rd, ld_wl, lu_s, lu_t, lu_c, lu_j, forall_eq, Int.toNat_natCast, true_and, and_true, not_true, not_false_iff, Classical.not_not, forall_const, iI_inj, ha.w, hkk.1]
    refine ⟨fun z => (by first | exact z.elim | exact absurd rfl z | exact absurd z (by decide) | (exfalso; omega)), _, _, sb, ?_⟩
    simp (disch := omega) only [nl_0, nl_1, nl_2, nl_3, nl_4, nl_5, nl_6, nl_7, nl_8, nl_9, nl_10, nl_11, nl_12, nl_13, nl_14, nl_15, nl_16, nl_17, nl_18, nl_19, nl_20, nl_21, nl_22, nl_23, nl_24, nl_25, nl_26, nl_27, nl_28, nl_31, nl_32, nl_42, nl_44, nl_46, nl_48, nl_49, nl_50, nl_51, nl_60, nl_75, nl_76, nl_99, nl_100, nl_108, nl_114, nl_117, nl_126, nl_255, nl_999, nl_2401, nl_9999, nl_12345, nl_65536, nl_1000000, nl_1103515245, nl_2147483647, nl_30, nl_55, nl_107, nl_200, nl_512, nl_15485957, iI_0, iI_neg, iI_add, iI_sub, iI_mul, iI_div, iI_mod, iI_lt, iI_le, iI_eq, iI_nat, iI_vp, ld_rd, ld_wl, lu_s, lu_t, lu_c, lu_j, forall_eq, Int.toNat_natCast, true_and, and_true, not_true, not_false_iff, Classical.not_not, forall_const, iI_inj, e6, hb.w, hkk.2.1]
    refine ⟨fun z => (by first | exact z.elim | exact absurd rfl z | exact absurd z (by decide) | (exfalso; omega)), rg_L_law_1335 hP ?_⟩
    simp (disch := omega) only [nl_0, nl_1, nl_2, nl_3, nl_4, nl_5, nl_6, nl_7, nl_8, nl_9, nl_10, nl_11, nl_12, nl_13, nl_14, nl_15, nl_16, nl_17, nl_18, nl_19, nl_20, nl_21, nl_22, nl_23, nl_24, nl_25, nl_26, nl_27, nl_28, nl_31, nl_32, nl_42, nl_44, nl_46, nl_48, nl_49, nl_50, nl_51, nl_60, nl_75, nl_76, nl_99, nl_100, nl_108, nl_114, nl_117, nl_126, nl_255, nl_999, nl_2401, nl_9999, nl_12345, nl_65536, nl_1000000, nl_1103515245, nl_2147483647, nl_30, nl_55, nl_107, nl_200, nl_512, nl_15485957, iI_0, iI_neg, iI_add, iI_sub, iI_mul, iI_div, iI_mod, iI_lt, iI_le, iI_eq, iI_nat, iI_vp, ld_rd, ld_wl, lu_s, lu_t, lu_c, lu_j, forall_eq, Int.toNat_natCast, true_and, and_true, not_true, not_false_iff, Classical.not_not, forall_const, iI_inj, e1]
    exact hend) (nC B) 0 _ M6 (by omega) ⟨h6, rfl⟩
  rw [sqN_g, sqM_g, sqS_g]
  refine g0 P _ hP hQ (g4 P _ hP hQ (g5 P _ hP hQ (g6 P _ hP hQ (g7 P _ hP hQ (rg_L_law_1284 hP ?_)))))
  simp (disch := omega) only [nl_0, nl_1, nl_2, nl_3, nl_4, nl_5, nl_6, nl_7, nl_8, nl_9, nl_10, nl_11, nl_12, nl_13, nl_14, nl_15, nl_16, nl_17, nl_18, nl_19, nl_20, nl_21, nl_22, nl_23, nl_24, nl_25, nl_26, nl_27, nl_28, nl_31, nl_32, nl_42, nl_44, nl_46, nl_48, nl_49, nl_50, nl_51, nl_60, nl_75, nl_76, nl_99, nl_100, nl_108, nl_114, nl_117, nl_126, nl_255, nl_999, nl_2401, nl_9999, nl_12345, nl_65536, nl_1000000, nl_1103515245, nl_2147483647, nl_30, nl_55, nl_107, nl_200, nl_512, nl_15485957, iI_0, iI_neg, iI_add, iI_sub, iI_mul, iI_div, iI_mod, iI_lt, iI_le, iI_eq, iI_nat, iI_vp, ld_rd, ld_wl, lu_s, lu_t, lu_c, lu_j, forall_eq, Int.toNat_natCast, true_and, and_true, not_true, not_false_iff, Classical.not_not, forall_const, iI_inj]
  exact ⟨fun _ => rg_L_law_1342 hP ⟨Or.inr rfl, rfl⟩, fun z => by omega⟩
