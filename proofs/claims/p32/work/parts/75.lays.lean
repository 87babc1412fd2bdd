/-! the villages one by one; the law's lays -/
def LV (L : Nat) (xs : Nat → Int32) (n : Nat) (S F : Nat → Int) (M0 : mj_M) (k : Nat) (ls : mj_L) (M : mj_M) : Prop := (∃ o5 o6 o7 o8, ls = [some (mj_r (13, 50, 0)), some (mj_r (41, 82, 0)), some (mj_r (17, 73, 0)), some (mj_i (iI 1)), some (mj_i (iI (k : Int))), o5, o6, o7, o8]) ∧ fr [0, 17] M0 M ∧ ∃ A, ST L xs M A n S F ∧ (nC A : Int) = gN L xs ∧ nV A = k ∧ KL A M ∧ KH A M ∧ FR A
theorem td_z {A : lA} (h : LI A) {v : Nat} (hv : v < 4) (hn : nV A ≤ v) : td A v = 0 := by
  have : ∀ n, n ≤ 6 → sm (fun c => A 4 c v) n = 0 := fun n => by
    induction n with
    | zero => exact fun _ => rfl
    | succ n ih =>
      intro hn6
      show sm (fun c => A 4 c v) n + A 4 n v = 0
      rw [ih (by omega), h.s0 (by omega) hv hn]
      rfl
  exact this 6 (Nat.le_refl _)
theorem ly_v1 {d : Nat} (hd : 6 ≤ d) {L : Nat} {xs : Nat → Int32} {n : Nat} {S F : Nat → Int} {M0 : mj_M} (k : Nat) (ls : mj_L) (M : mj_M) (hk : k < (gM L xs).toNat) (h : LV L xs n S F M0 k ls M) : ∃ ls' M', Go mj_c68 d 281 ls [] M 281 ls' [] M' ∧ LV L xs n S F M0 (k + 1) ls' M' := by
  obtain ⟨⟨o5, o6, o7, o8, rfl⟩, f0, A, hS, hc, hv, hK, hH, hF⟩ := h
  have hN := gN_r L xs
  have hM := gM_r L xs
  have hX := hS.1
  have hJ := hS.2.2.1
  have hnc := hJ.li.nc
  have hnv := hJ.li.nv
  have e1 : (k : Int) + 1 = ((k + 1 : Nat) : Int) := by omega
  have e50 : (50 + (k : Int)).toNat = 50 + k := by omega
  have e42 : (42 + (k : Int)).toNat = 42 + k := by omega
  -- the first field
  have hs6 := sc_r L xs 6
  have hx6 := shr_r hs6.1 (5 * (k : Int)).toNat
  have g1 : Go mj_c68 d 281 [some (mj_r (13, 50, 0)), some (mj_r (41, 82, 0)), some (mj_r (17, 73, 0)), some (mj_i (iI 1)), some (mj_i (iI (k : Int))), o5, o6, o7, o8] [] M 313 [some (mj_r (13, 50, 0)), some (mj_r (41, 82, 0)), some (mj_r (17, 73, 0)), some (mj_i (iI 1)), some (mj_i (iI (k : Int))), some (mj_i (iI (shr (sc L xs 6) (5 * (k : Int)).toNat % 25))), some (mj_i (iI 0)), o7, o8] [] M := fun P R hP hQ hend => rg_L_lays_281 hP (by
    refine ⟨_, _, sp_villages (by omega) hX, ?_⟩
    simp (disch := omega) only [nl_0, nl_1, nl_2, nl_3, nl_4, nl_5, nl_6, nl_7, nl_8, nl_9, nl_10, nl_11, nl_12, nl_13, nl_14, nl_15, nl_16, nl_17, nl_18, nl_19, nl_20, nl_21, nl_22, nl_23, nl_24, nl_25, nl_26, nl_27, nl_28, nl_31, nl_32, nl_42, nl_44, nl_46, nl_48, nl_49, nl_50, nl_51, nl_60, nl_75, nl_76, nl_99, nl_100, nl_108, nl_114, nl_117, nl_126, nl_255, nl_999, nl_2401, nl_9999, nl_12345, nl_65536, nl_1000000, nl_1103515245, nl_2147483647, nl_30, nl_55, nl_107, nl_200, nl_512, nl_15485957, iI_0, iI_neg, iI_add, iI_sub, iI_mul, iI_div, iI_mod, iI_lt, iI_le, iI_eq, iI_nat, iI_vp, ld_rd, ld_wl, lu_s, lu_t, lu_c, lu_j, forall_eq, Int.toNat_natCast, true_and, and_true, not_true, not_false_iff, Classical.not_not, forall_const, iI_inj]
    refine ⟨fun c => by omega, fun c => ⟨fun z => (by first | exact z.elim | exact absurd rfl z | exact absurd z (by decide) | (exfalso; omega)), fun _ => ⟨_, _, sp_cell (k := 6) (by omega) hX (by omega), by omega, ?_⟩⟩⟩
    rw [iI_shr (z := sc L xs 6) (s := 5 * (k : Int)) (by omega) (by omega) (by omega) (by omega)]
    simp (disch := omega) only [nl_0, nl_1, nl_2, nl_3, nl_4, nl_5, nl_6, nl_7, nl_8, nl_9, nl_10, nl_11, nl_12, nl_13, nl_14, nl_15, nl_16, nl_17, nl_18, nl_19, nl_20, nl_21, nl_22, nl_23, nl_24, nl_25, nl_26, nl_27, nl_28, nl_31, nl_32, nl_42, nl_44, nl_46, nl_48, nl_49, nl_50, nl_51, nl_60, nl_75, nl_76, nl_99, nl_100, nl_108, nl_114, nl_117, nl_126, nl_255, nl_999, nl_2401, nl_9999, nl_12345, nl_65536, nl_1000000, nl_1103515245, nl_2147483647, nl_30, nl_55, nl_107, nl_200, nl_512, nl_15485957, iI_0, iI_neg, iI_add, iI_sub, iI_mul, iI_div, iI_mod, iI_lt, iI_le, iI_eq, iI_nat, iI_vp, ld_rd, ld_wl, lu_s, lu_t, lu_c, lu_j, forall_eq, Int.toNat_natCast, true_and, and_true, not_true, not_false_iff, Classical.not_not, forall_const, iI_inj]
    exact hend)
  obtain ⟨cur, o7', g2, hcur, hfree⟩ := ly_h (d := d) (M := M) (H := shr (sc L xs 6) (5 * (k : Int)).toNat % 25) (o7 := o7) (o8 := o8) hH hv (by omega) (fun a ha => hJ.li.hm ha) (by omega)
  -- the village comes
  have hs7 := sc_r L xs 7
  have hx7 := shr_r hs7.1 (4 * (k : Int)).toNat
  obtain ⟨t, ht, spt⟩ := sp_thirst (L := L) (xs := xs) (v := k) (by omega)
  generalize hst : shr (sc L xs 7) (4 * (k : Int)).toNat % 10 = q
  have hq : 0 ≤ q ∧ q ≤ 9 := by omega
  generalize hMa : mj_wl M (17, 73, 0, 50 + k) (iI cur) = Ma
  have fa : fr [17] M Ma := by rw [← hMa]; exact fr.r0.wl (by decide)
  generalize hM2 : mj_wl Ma (17, 73, 0, 42 + k) (iI q) = M2
  have f2 : fr [17] M M2 := by rw [← hM2]; exact fa.wl (by decide)
  have rn : ∀ j, j ≠ 50 + k → j ≠ 42 + k → M2 17 73 0 j = M 17 73 0 j := fun j h1 h2 => by rw [← hM2, wl_n (by omega), ← hMa, wl_n (by omega)]
  have r50 : M2 17 73 0 (50 + k) = iI cur := by rw [← hM2, wl_n (by omega), ← hMa, wl_s]
  have r42 : M2 17 73 0 (42 + k) = iI q := by rw [← hM2, wl_s]
  have hS2 : ST L xs M2 A n S F := hS.mo f2 (by decide)
  have hvl : vl (A 5 0) cur (nV A) = -1 := vl_no _ (fun u hu => hfree u (by omega))
  have es : s_village A cur q t = (A 0 0 1, av A cur q t) := by
    unfold s_village
    rw [if_neg (by omega), if_neg (by omega), if_neg (by omega)]
  have hvi := c_village (d := d) (by omega) (A := A) (M := M2) (f := cur) (s := q) (t := t) (by unfold iR; omega) (by unfold iR; omega) (by unfold iR; omega) hJ.li
  rw [es] at hvi
  obtain ⟨M3, s3, f3, hS3⟩ := st_call hS2 (av_LJ hJ (by omega) hcur hq ht (by omega)) hvi
  have hnv3 : nV (av A cur q t) = k + 1 := by
    have e : av A cur q t 0 0 1 = A 0 0 1 + 1 := lu_s
    unfold nV
    rw [e]
    omega
  have r42' : M3 17 73 0 (42 + k) = iI q := by rw [f3 17 (by decide)]; exact r42
  have e6 : av A cur q t 6 0 k - td (av A cur q t) k = q := by
    have : td (av A cur q t) k = td A k := td_eq fun c hc => av_lo (by omega)
    rw [this, td_z hJ.li (by omega) (by omega), av_at.2.1, if_pos hv.symm]
    omega
  have g3 : Go mj_c68 d 313 [some (mj_r (13, 50, 0)), some (mj_r (41, 82, 0)), some (mj_r (17, 73, 0)), some (mj_i (iI 1)), some (mj_i (iI (k : Int))), some (mj_i (iI cur)), some (mj_i (iI 4)), o7', o8] [] M 439 [some (mj_r (13, 50, 0)), some (mj_r (41, 82, 0)), some (mj_r (17, 73, 0)), some (mj_i (iI 1)), some (mj_i (iI (k : Int))), some (mj_i (iI cur)), some (mj_i (iI (av A cur q t 6 0 k - td (av A cur q t) k))), some (mj_i (iI ((0 : Nat) : Int))), o8] [] M3 := fun P R hP hQ hend => rg_L_lays_313 hP (by
    rw [e6] at hend
    simp (disch := omega) only [nl_0, nl_1, nl_2, nl_3, nl_4, nl_5, nl_6, nl_7, nl_8, nl_9, nl_10, nl_11, nl_12, nl_13, nl_14, nl_15, nl_16, nl_17, nl_18, nl_19, nl_20, nl_21, nl_22, nl_23, nl_24, nl_25, nl_26, nl_27, nl_28, nl_31, nl_32, nl_42, nl_44, nl_46, nl_48, nl_49, nl_50, nl_51, nl_60, nl_75, nl_76, nl_99, nl_100, nl_108, nl_114, nl_117, nl_126, nl_255, nl_999, nl_2401, nl_9999, nl_12345, nl_65536, nl_1000000, nl_1103515245, nl_2147483647, nl_30, nl_55, nl_107, nl_200, nl_512, nl_15485957, iI_0, iI_neg, iI_add, iI_sub, iI_mul, iI_div, iI_mod, iI_lt, iI_le, iI_eq, iI_nat, iI_vp, ld_rd, ld_wl, lu_s, lu_t, lu_c, lu_j, forall_eq, Int.toNat_natCast, true_and, and_true, not_true, not_false_iff, Classical.not_not, forall_const, iI_inj, e50, hMa]
    refine ⟨fun _ => ⟨_, _, sp_cell (k := 7) (by omega) (hX.fr fa (by decide)) (by omega), by omega, ?_⟩, fun z => by omega⟩
    rw [iI_shr (z := sc L xs 7) (s := 4 * (k : Int)) (by omega) (by omega) (by omega) (by omega)]
    simp (disch := omega) only [nl_0, nl_1, nl_2, nl_3, nl_4, nl_5, nl_6, nl_7, nl_8, nl_9, nl_10, nl_11, nl_12, nl_13, nl_14, nl_15, nl_16, nl_17, nl_18, nl_19, nl_20, nl_21, nl_22, nl_23, nl_24, nl_25, nl_26, nl_27, nl_28, nl_31, nl_32, nl_42, nl_44, nl_46, nl_48, nl_49, nl_50, nl_51, nl_60, nl_75, nl_76, nl_99, nl_100, nl_108, nl_114, nl_117, nl_126, nl_255, nl_999, nl_2401, nl_9999, nl_12345, nl_65536, nl_1000000, nl_1103515245, nl_2147483647, nl_30, nl_55, nl_107, nl_200, nl_512, nl_15485957, iI_0, iI_neg, iI_add, iI_sub, iI_mul, iI_div, iI_mod, iI_lt, iI_le, iI_eq, iI_nat, iI_vp, ld_rd, ld_wl, lu_s, lu_t, lu_c, lu_j, forall_eq, Int.toNat_natCast, true_and, and_true, not_true, not_false_iff, Classical.not_not, forall_const, iI_inj, hst, e42, hM2, r42]
    refine ⟨_, _, spt d M2 (by omega) hS2.1, _, _, s3, ?_⟩
    simp (disch := omega) only [nl_0, nl_1, nl_2, nl_3, nl_4, nl_5, nl_6, nl_7, nl_8, nl_9, nl_10, nl_11, nl_12, nl_13, nl_14, nl_15, nl_16, nl_17, nl_18, nl_19, nl_20, nl_21, nl_22, nl_23, nl_24, nl_25, nl_26, nl_27, nl_28, nl_31, nl_32, nl_42, nl_44, nl_46, nl_48, nl_49, nl_50, nl_51, nl_60, nl_75, nl_76, nl_99, nl_100, nl_108, nl_114, nl_117, nl_126, nl_255, nl_999, nl_2401, nl_9999, nl_12345, nl_65536, nl_1000000, nl_1103515245, nl_2147483647, nl_30, nl_55, nl_107, nl_200, nl_512, nl_15485957, iI_0, iI_neg, iI_add, iI_sub, iI_mul, iI_div, iI_mod, iI_lt, iI_le, iI_eq, iI_nat, iI_vp, ld_rd, ld_wl, lu_s, lu_t, lu_c, lu_j, forall_eq, Int.toNat_natCast, true_and, and_true, not_true, not_false_iff, Classical.not_not, forall_const, iI_inj]
    refine ⟨fun z => by omega, fun _ => rg_L_lays_426 hP ?_⟩
    simp (disch := omega) only [nl_0, nl_1, nl_2, nl_3, nl_4, nl_5, nl_6, nl_7, nl_8, nl_9, nl_10, nl_11, nl_12, nl_13, nl_14, nl_15, nl_16, nl_17, nl_18, nl_19, nl_20, nl_21, nl_22, nl_23, nl_24, nl_25, nl_26, nl_27, nl_28, nl_31, nl_32, nl_42, nl_44, nl_46, nl_48, nl_49, nl_50, nl_51, nl_60, nl_75, nl_76, nl_99, nl_100, nl_108, nl_114, nl_117, nl_126, nl_255, nl_999, nl_2401, nl_9999, nl_12345, nl_65536, nl_1000000, nl_1103515245, nl_2147483647, nl_30, nl_55, nl_107, nl_200, nl_512, nl_15485957, iI_0, iI_neg, iI_add, iI_sub, iI_mul, iI_div, iI_mod, iI_lt, iI_le, iI_eq, iI_nat, iI_vp, ld_rd, ld_wl, lu_s, lu_t, lu_c, lu_j, forall_eq, Int.toNat_natCast, true_and, and_true, not_true, not_false_iff, Classical.not_not, forall_const, iI_inj, e42, r42']
    exact hend)
  have hK3 : KL (av A cur q t) M3 := fun j hj => by
    have ec : nC (av A cur q t) = nC A := by unfold nC; rw [av_lo (by omega)]
    rw [ec] at hj
    rw [f3 17 (by decide), rn j (by omega) (by omega), rn (6 + j) (by omega) (by omega), rn (12 + j) (by omega) (by omega), av_lo (by omega), av_lo (by omega), av_lo (by omega)]
    exact hK j hj
  have hH3 : KH (av A cur q t) M3 := fun a ha => by
    rw [hnv3] at ha
    rw [f3 17 (by decide), av_at.1]
    by_cases e : a = nV A
    · rw [if_pos e, show 50 + a = 50 + k by omega, r50]
    · rw [if_neg e, rn (50 + a) (by omega) (by omega)]
      exact hH a (by omega)
  have hF3 : FR (av A cur q t) := ⟨fun f hf => by rw [av_lo (by omega)]; exact hF.1 f hf, fun v hv => by
    rw [av_at.2.2.2]
    split
    · rfl
    · exact hF.2.1 v hv, by rw [av_lo (by omega)]; exact hF.2.2.1, by rw [av_lo (by omega)]; exact hF.2.2.2⟩
  obtain ⟨ls4, M4, g4, o8', A4, rfl, f4, hS4, hc4, hv4, hK4, hH4, hF4, -⟩ := go_lp (d := d) (pc := 439) (n := (gN L xs).toNat) (I := LSq L xs n S F k cur M3) (ly_s1 hd (by omega)) (gN L xs).toNat 0 _ M3 (by omega) ⟨o8, av A cur q t, rfl, fr.r0, hS3, by unfold nC; rw [av_lo (by omega)]; exact hc, hnv3, hK3, hH3, hF3, fun c hc _ => by rw [av_lo (by omega)]; exact hJ.li.s0 hc (by omega) (by omega)⟩
  have g5 : Go mj_c68 d 439 [some (mj_r (13, 50, 0)), some (mj_r (41, 82, 0)), some (mj_r (17, 73, 0)), some (mj_i (iI 1)), some (mj_i (iI (k : Int))), some (mj_i (iI cur)), some (mj_i (iI (A4 6 0 k - td A4 k))), some (mj_i (iI (((gN L xs).toNat : Nat) : Int))), o8'] [] M4 281 [some (mj_r (13, 50, 0)), some (mj_r (41, 82, 0)), some (mj_r (17, 73, 0)), some (mj_i (iI 1)), some (mj_i (iI ((k + 1 : Nat) : Int))), some (mj_i (iI cur)), some (mj_i (iI (A4 6 0 k - td A4 k))), some (mj_i (iI (((gN L xs).toNat : Nat) : Int))), o8'] [] M4 := fun P R hP hQ hend => rg_L_lays_439 hP ⟨_, _, sp_clouds (by omega) hS4.1, by
    simp (disch := omega) only [nl_0, nl_1, nl_2, nl_3, nl_4, nl_5, nl_6, nl_7, nl_8, nl_9, nl_10, nl_11, nl_12, nl_13, nl_14, nl_15, nl_16, nl_17, nl_18, nl_19, nl_20, nl_21, nl_22, nl_23, nl_24, nl_25, nl_26, nl_27, nl_28, nl_31, nl_32, nl_42, nl_44, nl_46, nl_48, nl_49, nl_50, nl_51, nl_60, nl_75, nl_76, nl_99, nl_100, nl_108, nl_114, nl_117, nl_126, nl_255, nl_999, nl_2401, nl_9999, nl_12345, nl_65536, nl_1000000, nl_1103515245, nl_2147483647, nl_30, nl_55, nl_107, nl_200, nl_512, nl_15485957, iI_0, iI_neg, iI_add, iI_sub, iI_mul, iI_div, iI_mod, iI_lt, iI_le, iI_eq, iI_nat, iI_vp, ld_rd, ld_wl, lu_s, lu_t, lu_c, lu_j, forall_eq, Int.toNat_natCast, true_and, and_true, not_true, not_false_iff, Classical.not_not, forall_const, iI_inj]
    refine ⟨fun _ => rg_L_lays_540 hP ?_, fun c => by omega⟩
    simp (disch := omega) only [nl_0, nl_1, nl_2, nl_3, nl_4, nl_5, nl_6, nl_7, nl_8, nl_9, nl_10, nl_11, nl_12, nl_13, nl_14, nl_15, nl_16, nl_17, nl_18, nl_19, nl_20, nl_21, nl_22, nl_23, nl_24, nl_25, nl_26, nl_27, nl_28, nl_31, nl_32, nl_42, nl_44, nl_46, nl_48, nl_49, nl_50, nl_51, nl_60, nl_75, nl_76, nl_99, nl_100, nl_108, nl_114, nl_117, nl_126, nl_255, nl_999, nl_2401, nl_9999, nl_12345, nl_65536, nl_1000000, nl_1103515245, nl_2147483647, nl_30, nl_55, nl_107, nl_200, nl_512, nl_15485957, iI_0, iI_neg, iI_add, iI_sub, iI_mul, iI_div, iI_mod, iI_lt, iI_le, iI_eq, iI_nat, iI_vp, ld_rd, ld_wl, lu_s, lu_t, lu_c, lu_j, forall_eq, Int.toNat_natCast, true_and, and_true, not_true, not_false_iff, Classical.not_not, forall_const, iI_inj, e1]
    exact hend⟩
  exact ⟨_, M4, (((g1.tr g2).tr g3).tr g4).tr g5, ⟨_, _, _, _, rfl⟩, ((f0.tr (f2.mo_ (by decide))).tr (f3.mo_ (by decide))).tr f4, A4, hS4, hc4, hv4, hK4, hH4, hF4⟩
/-- the land as the law lays it -/
def LAID (L : Nat) (xs : Nat → Int32) (M : mj_M) (A : lA) : Prop := ST L xs M A (gW L xs).toNat (tS L xs) (tF L xs) ∧ (nC A : Int) = gN L xs ∧ (nV A : Int) = gM L xs ∧ KL A M ∧ FR A
def Z0 : lA := fun t _ j => if t = 0 ∧ j = 3 then 1 else 0
theorem lw_LD {L : Nat} {xs : Nat → Int32} : LD (lw_M L xs) 0 Z0 := fun t c j ht ho => by
  rw [lw_M_lt (by decide)]
  unfold mk_M0 Z0
  by_cases h : t = 0 ∧ j = 3
  · have hc : c = 0 := by
      obtain ⟨rfl, -⟩ := h
      exact (ok0 ho).1
    rw [if_pos ⟨h.1, hc, h.2, by decide⟩, if_pos h]
    rfl
  · rw [if_neg (fun z => h ⟨z.1, z.2.2.1⟩), if_neg h]
    rfl
theorem Z0_LJ : LJ Z0 := by
  have z : ∀ t c j : Nat, t ≠ 0 → Z0 t c j = 0 := fun t c j h => if_neg (fun e => h e.1)
  have z2 : ∀ c j : Nat, j ≠ 3 → Z0 0 c j = 0 := fun c j h => if_neg (fun e => h e.2)
  have z3 : Z0 0 0 3 = 1 := rfl
  have ht : ∀ v, td Z0 v = 0 := fun v => rfl
  refine ⟨⟨by rw [z2 _ _ (by decide)]; decide, by rw [z2 _ _ (by decide)]; decide, by rw [z2 _ _ (by decide)]; decide, by rw [z2 _ _ (by decide)]; decide, fun c hc => by rw [z _ _ _ (by decide)]; omega, fun c hc => by rw [z _ _ _ (by decide)]; omega, fun c hc => by rw [z _ _ _ (by decide)]; omega, fun c v hc hv => by rw [z _ _ _ (by decide)]; omega, fun c v hc hv hn => z _ _ _ (by decide), fun v hv => by rw [z _ _ _ (by decide)]; omega, fun u v hu hv e => ?_⟩, fun v hv => by rw [ht, z _ _ _ (by decide)]; omega, fun v hv hn => z _ _ _ (by decide), fun v hv => by rw [z _ _ _ (by decide)]; omega, fun v hv => by rw [z _ _ _ (by decide), z2 _ _ (by decide)]; omega, by rw [z2 _ _ (by decide)]; omega, by rw [z3]; omega, fun c v hc hv hn => z _ _ _ (by decide)⟩
  have : nV Z0 = 0 := rfl
  omega
theorem lw_XM {L : Nat} {xs : Nat → Int32} (hL : L ≤ 260) : XM L xs (lw_M L xs) := ⟨⟨fun j hj => rfl, fun j hj => rfl⟩, rfl, hL⟩
theorem lw_z {L : Nat} {xs : Nat → Int32} {i t c j : Nat} (hi : i < 40) (ht : t ≠ 0) : lw_M L xs i t c j = iI 0 := by
  rw [lw_M_lt hi]
  unfold mk_M0
  rw [if_neg (fun z => ht z.1)]
  rfl
theorem s_lays {d : Nat} (hd : 6 ≤ d) {L : Nat} {xs : Nat → Int32} (hL : L ≤ 260) : ∃ M' A, mj_Sp (d + 1) 68 [mj_r (13, 50, 0), mj_r (41, 82, 0), mj_r (17, 73, 0)] (lw_M L xs) (some (mj_i (iI 1))) M' ∧ LAID L xs M' A ∧ fr [0, 6, 17, 20, 25] (lw_M L xs) M' := by
  have hN := gN_r L xs
  have hM := gM_r L xs
  have hX := lw_XM (xs := xs) hL
  obtain ⟨o5, M1, g1, f1, w1⟩ := ly_w hd hX ⟨lw_z (by decide) (by decide), fun j hj => absurd hj (Nat.not_lt_zero j)⟩ ⟨lw_z (by decide) (by decide), by decide, fun j hj => absurd hj (Nat.not_lt_zero j)⟩
  have hS1 : ST L xs M1 Z0 (gW L xs).toNat (tS L xs) (tF L xs) := ⟨hX.fr f1 (by decide), lw_LD.pe (f1 0 (by decide)), Z0_LJ, w1, fun j hj => by rw [f1 11 (by decide)]; exact lw_z (by decide) (by decide)⟩
  obtain ⟨o5', M2, A2, g2, f2, hS2, hc2, hv2, hK2, hF2⟩ := ly_c hd (o5 := o5) hS1 rfl rfl ⟨fun f hf => rfl, fun v hv => rfl, rfl, rfl⟩
  obtain ⟨ls3, M3, g3, ⟨p5, p6, p7, p8, rfl⟩, f3, A3, hS3, hc3, hv3, hK3, hH3, hF3⟩ := go_lp (d := d) (pc := 281) (n := (gM L xs).toNat) (I := LV L xs (gW L xs).toNat (tS L xs) (tF L xs) M2) (ly_v1 hd) (gM L xs).toNat 0 [some (mj_r (13, 50, 0)), some (mj_r (41, 82, 0)), some (mj_r (17, 73, 0)), some (mj_i (iI 1)), some (mj_i (iI ((0 : Nat) : Int))), o5', none, none, none] M2 (by omega) ⟨⟨_, _, _, _, rfl⟩, fr.r0, A2, hS2, hc2, hv2, hK2, fun a ha => by omega, hF2⟩
  refine ⟨M3, A3, fun P hP hQ => ?_, ⟨hS3, hc3, by omega, hK3, hF3⟩, ((f1.mo_ (by decide)).tr (f2.mo_ (by decide))).tr (f3.mo_ (by decide))⟩
  refine g1 P _ hP hQ (g2 P _ hP hQ (g3 P _ hP hQ (rg_L_lays_281 hP ⟨_, _, sp_villages (by omega) hS3.1, ?_⟩)))
  simp (disch := omega) only [nl_0, nl_1, nl_2, nl_3, nl_4, nl_5, nl_6, nl_7, nl_8, nl_9, nl_10, nl_11, nl_12, nl_13, nl_14, nl_15, nl_16, nl_17, nl_18, nl_19, nl_20, nl_21, nl_22, nl_23, nl_24, nl_25, nl_26, nl_27, nl_28, nl_31, nl_32, nl_42, nl_44, nl_46, nl_48, nl_49, nl_50, nl_51, nl_60, nl_75, nl_76, nl_99, nl_100, nl_108, nl_114, nl_117, nl_126, nl_255, nl_999, nl_2401, nl_9999, nl_12345, nl_65536, nl_1000000, nl_1103515245, nl_2147483647, nl_30, nl_55, nl_107, nl_200, nl_512, nl_15485957, iI_0, iI_neg, iI_add, iI_sub, iI_mul, iI_div, iI_mod, iI_lt, iI_le, iI_eq, iI_nat, iI_vp, ld_rd, ld_wl, lu_s, lu_t, lu_c, lu_j, forall_eq, Int.toNat_natCast, true_and, and_true, not_true, not_false_iff, Classical.not_not, forall_const, iI_inj]
  refine ⟨fun _ => rg_L_lays_546 hP ⟨Or.inr rfl, ?_⟩, fun c => by omega⟩
  (first | exact mj_eq.rf | exact fi_n mj_eq.rf | exact fi_i rfl mj_eq.rf | exact rfl)
