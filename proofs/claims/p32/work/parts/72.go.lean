/-! going on from a place to another; what holds between calls -/
def Go (c : mj_C) (d pc : Nat) (ls : mj_L) (st : List mj_V) (M : mj_M) (pc' : Nat) (ls' : mj_L) (st' : List mj_V) (M' : mj_M) : Prop := ∀ (P : Nat → mj_L → List mj_V → mj_M → Prop) (R : Option mj_V → mj_M → Prop), mj_Cl c (mj_Sp d) (0 < d) P R → mj_Q P → P pc' ls' st' M' → P pc ls st M
theorem Go.rf {c : mj_C} {d pc : Nat} {ls : mj_L} {st : List mj_V} {M : mj_M} : Go c d pc ls st M pc ls st M := fun _ _ _ _ h => h
theorem Go.tr {c : mj_C} {d p1 p2 p3 : Nat} {l1 l2 l3 : mj_L} {s1 s2 s3 : List mj_V} {M1 M2 M3 : mj_M} (h : Go c d p1 l1 s1 M1 p2 l2 s2 M2) (g : Go c d p2 l2 s2 M2 p3 l3 s3 M3) : Go c d p1 l1 s1 M1 p3 l3 s3 M3 := fun P R hP hQ k => h P R hP hQ (g P R hP hQ k)
theorem go_lp {c : mj_C} {d pc n : Nat} {I : Nat → mj_L → mj_M → Prop} (hs : ∀ (k : Nat) (ls : mj_L) (M : mj_M), k < n → I k ls M → ∃ ls' M', Go c d pc ls [] M pc ls' [] M' ∧ I (k + 1) ls' M') : ∀ (m k : Nat) (ls : mj_L) (M : mj_M), k + m = n → I k ls M → ∃ ls' M', Go c d pc ls [] M pc ls' [] M' ∧ I n ls' M' := by
  intro m
  induction m with
  | zero =>
    intro k ls M hk h
    have : k = n := by omega
    subst this
    exact ⟨ls, M, Go.rf, h⟩
  | succ m ih =>
    intro k ls M hk h
    obtain ⟨l1, M1, g1, h1⟩ := hs k ls M (by omega) h
    obtain ⟨l2, M2, g2, h2⟩ := ih (k + 1) l1 M1 (by omega) h1
    exact ⟨l2, M2, g1.tr g2, h2⟩
theorem LD.pe {M M' : mj_M} {i : Nat} {A : lA} (h : LD M i A) (e : M' i = M i) : LD M' i A := fun t c j ht ho => by
  rw [e]
  exact h t c j ht ho
theorem WD.pe {M M' : mj_M} {p n : Nat} {S F : Nat → Int} (h : WD M p n S F) (e : M' p = M p) : WD M' p n S F := by
  unfold WD
  rw [e]
  exact h
def ST (L : Nat) (xs : Nat → Int32) (M : mj_M) (A : lA) (n : Nat) (S F : Nat → Int) : Prop := XM L xs M ∧ LD M 0 A ∧ LJ A ∧ WD M 20 n S F ∧ ∀ j, j < 10 → M 11 26 6 j = 0
theorem ST.mo {L : Nat} {xs : Nat → Int32} {M M' : mj_M} {A : lA} {n : Nat} {S F : Nat → Int} {ps : List Nat} (h : ST L xs M A n S F) (f : fr ps M M') (k : ∀ i ∈ [0, 11, 20, 40, 41], i ∉ ps) : ST L xs M' A n S F :=
  ⟨h.1.fr f (fun i hi => k i (by revert i; decide)), h.2.1.pe (f 0 (k 0 (by decide))), h.2.2.1, h.2.2.2.1.pe (f 20 (k 20 (by decide))), fun j hj => by rw [f 11 (k 11 (by decide))]; exact h.2.2.2.2 j hj⟩
theorem fr0 {M : mj_M} {A : lA} : fr [0] M (mj_ld M 0 A) := fun i hi => ld_p (fun e => hi (by rw [e]; decide))
theorem ST.up {L : Nat} {xs : Nat → Int32} {M : mj_M} {A A' : lA} {n : Nat} {S F : Nat → Int} (h : ST L xs M A n S F) (hA : LJ A') : ST L xs (mj_ld M 0 A') A' n S F :=
  ⟨h.1.fr fr0 (by decide), LD.ld, hA, h.2.2.2.1.pe (fr0 20 (by decide)), fun j hj => by rw [fr0 11 (by decide)]; exact h.2.2.2.2 j hj⟩
theorem st_call {L : Nat} {xs : Nat → Int32} {M : mj_M} {A A' : lA} {n : Nat} {S F : Nat → Int} {d f : Nat} {args : List mj_V} {r : Int} (h : ST L xs M A n S F) (hA : LJ A') (c : mj_Sp d f args (mj_ld M 0 A) (some (mj_i (iI r))) (mj_ld M 0 A')) : ∃ M', mj_Sp d f args M (some (mj_i (iI r))) M' ∧ fr [0] M M' ∧ ST L xs M' A' n S F :=
  ⟨_, sp_in h.2.1.eq c, fr0, h.up hA⟩
theorem s_told2 {A : lA} {a b : Int} : (s_told A a b).2 = A := by
  unfold s_told
  repeat' split
  all_goals rfl
theorem s_of2 {A : lA} {a b : Int} : (s_of A a b).2 = A := by
  unfold s_of
  repeat' split
  all_goals rfl
theorem s_holds2 {A : lA} {a b : Int} : (s_holds A a b).2 = A := by
  unfold s_holds
  repeat' split
  all_goals rfl
theorem s_fallen2 {A : lA} {a : Int} : (s_fallen A a).2 = A := by
  unfold s_fallen
  repeat' split
  all_goals rfl
theorem s_count2 {A : lA} {n : Nat} {a : Int} : (s_count A n a).2 = A := by
  unfold s_count
  repeat' split
  all_goals rfl
/-! the winds are laid -/
theorem ll_44 : lN 44 = lI 44 := rfl
theorem ll_48 : lN 48 = lI 48 := rfl
theorem ll_100 : lN 100 = lI 100 := rfl
theorem ll_108 : lN 108 = lI 108 := rfl
theorem ll_114 : lN 114 = lI 114 := rfl
theorem ll_117 : lN 117 = lI 117 := rfl
theorem txR {L : Nat} {xs : Nat → Int32} : ∀ j, 32 ≤ tx L xs j ∧ tx L xs j ≤ 126 := fun j => by have := tx_r (L := L) (xs := xs) j; omega
def LW (L : Nat) (xs : Nat → Int32) (M0 : mj_M) (k : Nat) (ls : mj_L) (M : mj_M) : Prop := (∃ o5, ls = [some (mj_r (13, 50, 0)), some (mj_r (41, 82, 0)), some (mj_r (17, 73, 0)), some (mj_i (iI 1)), some (mj_i (iI (k : Int))), o5, none, none, none]) ∧ fr [6] M0 M ∧ TC M (3 * k - 1) (tx L xs)
theorem ly_w1 {d : Nat} (hd : 6 ≤ d) {L : Nat} {xs : Nat → Int32} {M0 : mj_M} (hX : XM L xs M0) (k : Nat) (ls : mj_L) (M : mj_M) (hk : k < (gW L xs).toNat) (h : LW L xs M0 k ls M) : ∃ ls' M', Go mj_c68 d 5 ls [] M 5 ls' [] M' ∧ LW L xs M0 (k + 1) ls' M' := by
  obtain ⟨⟨o5, rfl⟩, f, t⟩ := h
  have hW := gW_r L xs
  have hg := gw_r L xs k
  have hXM := hX.fr f (by decide)
  have e1 : (k : Int) + 1 = ((k + 1 : Nat) : Int) := by omega
  have s1 : ∃ M1, fr [6] M M1 ∧ TC M1 (3 * k) (tx L xs) ∧ Go mj_c68 d 5 [some (mj_r (13, 50, 0)), some (mj_r (41, 82, 0)), some (mj_r (17, 73, 0)), some (mj_i (iI 1)), some (mj_i (iI (k : Int))), o5, none, none, none] [] M 44 [some (mj_r (13, 50, 0)), some (mj_r (41, 82, 0)), some (mj_r (17, 73, 0)), some (mj_i (iI 1)), some (mj_i (iI (k : Int))), some (mj_i (iI (gw L xs k % 4))), none, none, none] [] M1 := by
    by_cases h0 : k = 0
    · refine ⟨M, fr.r0, by rw [h0] at t ⊢; exact t, fun P R hP hQ hend => rg_L_lays_5 hP ?_⟩
      refine ⟨_, _, sp_nwinds (by omega) hXM, ?_⟩
      simp (disch := omega) only [nl_0, nl_1, nl_2, nl_3, nl_4, nl_5, nl_6, nl_7, nl_8, nl_9, nl_10, nl_11, nl_12, nl_13, nl_14, nl_15, nl_16, nl_17, nl_18, nl_19, nl_20, nl_21, nl_22, nl_23, nl_24, nl_25, nl_26, nl_27, nl_28, nl_31, nl_32, nl_42, nl_44, nl_46, nl_48, nl_49, nl_50, nl_51, nl_60, nl_75, nl_76, nl_99, nl_100, nl_108, nl_114, nl_117, nl_126, nl_255, nl_999, nl_2401, nl_9999, nl_12345, nl_65536, nl_1000000, nl_1103515245, nl_2147483647, nl_30, nl_55, nl_107, nl_200, nl_512, nl_15485957, iI_0, iI_neg, iI_add, iI_sub, iI_mul, iI_div, iI_mod, iI_lt, iI_le, iI_eq, iI_nat, iI_vp, ld_rd, ld_wl, lu_s, lu_t, lu_c, lu_j, forall_eq, Int.toNat_natCast, true_and, and_true, not_true, not_false_iff, Classical.not_not, forall_const, iI_inj]
      refine ⟨fun c => by omega, fun c => ⟨fun z => (by first | exact z.elim | exact absurd rfl z | exact absurd z (by decide) | (exfalso; omega)), fun _ => ⟨_, _, sp_wind (by omega) hXM (by omega), ?_⟩⟩⟩
      simp (disch := omega) only [nl_0, nl_1, nl_2, nl_3, nl_4, nl_5, nl_6, nl_7, nl_8, nl_9, nl_10, nl_11, nl_12, nl_13, nl_14, nl_15, nl_16, nl_17, nl_18, nl_19, nl_20, nl_21, nl_22, nl_23, nl_24, nl_25, nl_26, nl_27, nl_28, nl_31, nl_32, nl_42, nl_44, nl_46, nl_48, nl_49, nl_50, nl_51, nl_60, nl_75, nl_76, nl_99, nl_100, nl_108, nl_114, nl_117, nl_126, nl_255, nl_999, nl_2401, nl_9999, nl_12345, nl_65536, nl_1000000, nl_1103515245, nl_2147483647, nl_30, nl_55, nl_107, nl_200, nl_512, nl_15485957, iI_0, iI_neg, iI_add, iI_sub, iI_mul, iI_div, iI_mod, iI_lt, iI_le, iI_eq, iI_nat, iI_vp, ld_rd, ld_wl, lu_s, lu_t, lu_c, lu_j, forall_eq, Int.toNat_natCast, true_and, and_true, not_true, not_false_iff, Classical.not_not, forall_const, iI_inj]
      exact ⟨by omega, fun _ => hend, fun z => by omega⟩
    · obtain ⟨M1, s1, f1, t1⟩ := ty_one (d := d) (by omega) t (by omega) (z := 44) (by rw [show 3 * k - 1 = 3 * (k - 1) + 2 by omega, tx_2]) txR
      refine ⟨M1, f1, by rw [show 3 * k - 1 + 1 = 3 * k by omega] at t1; exact t1, fun P R hP hQ hend => rg_L_lays_5 hP ?_⟩
      refine ⟨_, _, sp_nwinds (by omega) hXM, ?_⟩
      simp (disch := omega) only [nl_0, nl_1, nl_2, nl_3, nl_4, nl_5, nl_6, nl_7, nl_8, nl_9, nl_10, nl_11, nl_12, nl_13, nl_14, nl_15, nl_16, nl_17, nl_18, nl_19, nl_20, nl_21, nl_22, nl_23, nl_24, nl_25, nl_26, nl_27, nl_28, nl_31, nl_32, nl_42, nl_44, nl_46, nl_48, nl_49, nl_50, nl_51, nl_60, nl_75, nl_76, nl_99, nl_100, nl_108, nl_114, nl_117, nl_126, nl_255, nl_999, nl_2401, nl_9999, nl_12345, nl_65536, nl_1000000, nl_1103515245, nl_2147483647, nl_30, nl_55, nl_107, nl_200, nl_512, nl_15485957, iI_0, iI_neg, iI_add, iI_sub, iI_mul, iI_div, iI_mod, iI_lt, iI_le, iI_eq, iI_nat, iI_vp, ld_rd, ld_wl, lu_s, lu_t, lu_c, lu_j, forall_eq, Int.toNat_natCast, true_and, and_true, not_true, not_false_iff, Classical.not_not, forall_const, iI_inj]
      refine ⟨fun c => by omega, fun c => ⟨fun z => (by first | exact z.elim | exact absurd rfl z | exact absurd z (by decide) | (exfalso; omega)), fun _ => ⟨_, _, sp_wind (by omega) hXM (by omega), ?_⟩⟩⟩
      simp (disch := omega) only [nl_0, nl_1, nl_2, nl_3, nl_4, nl_5, nl_6, nl_7, nl_8, nl_9, nl_10, nl_11, nl_12, nl_13, nl_14, nl_15, nl_16, nl_17, nl_18, nl_19, nl_20, nl_21, nl_22, nl_23, nl_24, nl_25, nl_26, nl_27, nl_28, nl_31, nl_32, nl_42, nl_44, nl_46, nl_48, nl_49, nl_50, nl_51, nl_60, nl_75, nl_76, nl_99, nl_100, nl_108, nl_114, nl_117, nl_126, nl_255, nl_999, nl_2401, nl_9999, nl_12345, nl_65536, nl_1000000, nl_1103515245, nl_2147483647, nl_30, nl_55, nl_107, nl_200, nl_512, nl_15485957, iI_0, iI_neg, iI_add, iI_sub, iI_mul, iI_div, iI_mod, iI_lt, iI_le, iI_eq, iI_nat, iI_vp, ld_rd, ld_wl, lu_s, lu_t, lu_c, lu_j, forall_eq, Int.toNat_natCast, true_and, and_true, not_true, not_false_iff, Classical.not_not, forall_const, iI_inj]
      refine ⟨by omega, fun _ => by omega, fun _ => ⟨_, _, s1, ?_⟩⟩
      simp (disch := omega) only [nl_0, nl_1, nl_2, nl_3, nl_4, nl_5, nl_6, nl_7, nl_8, nl_9, nl_10, nl_11, nl_12, nl_13, nl_14, nl_15, nl_16, nl_17, nl_18, nl_19, nl_20, nl_21, nl_22, nl_23, nl_24, nl_25, nl_26, nl_27, nl_28, nl_31, nl_32, nl_42, nl_44, nl_46, nl_48, nl_49, nl_50, nl_51, nl_60, nl_75, nl_76, nl_99, nl_100, nl_108, nl_114, nl_117, nl_126, nl_255, nl_999, nl_2401, nl_9999, nl_12345, nl_65536, nl_1000000, nl_1103515245, nl_2147483647, nl_30, nl_55, nl_107, nl_200, nl_512, nl_15485957, iI_0, iI_neg, iI_add, iI_sub, iI_mul, iI_div, iI_mod, iI_lt, iI_le, iI_eq, iI_nat, iI_vp, ld_rd, ld_wl, lu_s, lu_t, lu_c, lu_j, forall_eq, Int.toNat_natCast, true_and, and_true, not_true, not_false_iff, Classical.not_not, forall_const, iI_inj]
      exact ⟨fun z => by omega, fun _ => hend⟩
  obtain ⟨M1, f1, t1, g1⟩ := s1
  have g2 : Go mj_c68 d 44 [some (mj_r (13, 50, 0)), some (mj_r (41, 82, 0)), some (mj_r (17, 73, 0)), some (mj_i (iI 1)), some (mj_i (iI (k : Int))), some (mj_i (iI (gw L xs k % 4))), none, none, none] [] M1 83 [some (mj_r (13, 50, 0)), some (mj_r (41, 82, 0)), some (mj_r (17, 73, 0)), some (mj_i (iI 1)), some (mj_i (iI (k : Int))), some (mj_i (iI (gw L xs k % 4))), none, none, none] [mj_l (lI (lt_ (gw L xs k % 4))), mj_r (13, 50, 0)] M1 := fun P R hP hQ hend => rg_L_lays_44 hP (by
    unfold lt_ at hend
    simp (disch := omega) only [nl_0, nl_1, nl_2, nl_3, nl_4, nl_5, nl_6, nl_7, nl_8, nl_9, nl_10, nl_11, nl_12, nl_13, nl_14, nl_15, nl_16, nl_17, nl_18, nl_19, nl_20, nl_21, nl_22, nl_23, nl_24, nl_25, nl_26, nl_27, nl_28, nl_31, nl_32, nl_42, nl_44, nl_46, nl_48, nl_49, nl_50, nl_51, nl_60, nl_75, nl_76, nl_99, nl_100, nl_108, nl_114, nl_117, nl_126, nl_255, nl_999, nl_2401, nl_9999, nl_12345, nl_65536, nl_1000000, nl_1103515245, nl_2147483647, nl_30, nl_55, nl_107, nl_200, nl_512, nl_15485957, iI_0, iI_neg, iI_add, iI_sub, iI_mul, iI_div, iI_mod, iI_lt, iI_le, iI_eq, iI_nat, iI_vp, ld_rd, ld_wl, lu_s, lu_t, lu_c, lu_j, forall_eq, Int.toNat_natCast, true_and, and_true, not_true, not_false_iff, Classical.not_not, forall_const, iI_inj, ll_117, ll_108, ll_114, ll_100]
    refine ⟨fun c => ⟨fun c2 => ⟨fun c3 => ?_, fun c3 => ?_⟩, fun c2 => ?_⟩, fun c => ?_⟩
    · rw [if_neg c, if_neg c2, if_neg c3] at hend; exact hend
    · rw [if_neg c, if_neg c2, if_pos c3] at hend; exact hend
    · rw [if_neg c, if_pos c2] at hend; exact hend
    · rw [if_pos c] at hend; exact hend)
  obtain ⟨M2, s2, f2, t2⟩ := ty_one (d := d) (by omega) t1 (by omega) (z := lt_ (gw L xs k % 4)) (tx_0 k).symm txR
  obtain ⟨M3, s3, f3, t3⟩ := ty_one (d := d) (by omega) t2 (by omega) (z := 48 + gw L xs k / 4) (tx_1 k).symm txR
  have hX2 := (hXM.fr f1 (by decide)).fr f2 (by decide)
  have g3 : Go mj_c68 d 83 [some (mj_r (13, 50, 0)), some (mj_r (41, 82, 0)), some (mj_r (17, 73, 0)), some (mj_i (iI 1)), some (mj_i (iI (k : Int))), some (mj_i (iI (gw L xs k % 4))), none, none, none] [mj_l (lI (lt_ (gw L xs k % 4))), mj_r (13, 50, 0)] M1 5 [some (mj_r (13, 50, 0)), some (mj_r (41, 82, 0)), some (mj_r (17, 73, 0)), some (mj_i (iI 1)), some (mj_i (iI ((k + 1 : Nat) : Int))), some (mj_i (iI (gw L xs k % 4))), none, none, none] [] M3 := fun P R hP hQ hend => rg_L_lays_83 hP (by
    refine ⟨_, _, s2, ?_⟩
    simp (disch := omega) only [nl_0, nl_1, nl_2, nl_3, nl_4, nl_5, nl_6, nl_7, nl_8, nl_9, nl_10, nl_11, nl_12, nl_13, nl_14, nl_15, nl_16, nl_17, nl_18, nl_19, nl_20, nl_21, nl_22, nl_23, nl_24, nl_25, nl_26, nl_27, nl_28, nl_31, nl_32, nl_42, nl_44, nl_46, nl_48, nl_49, nl_50, nl_51, nl_60, nl_75, nl_76, nl_99, nl_100, nl_108, nl_114, nl_117, nl_126, nl_255, nl_999, nl_2401, nl_9999, nl_12345, nl_65536, nl_1000000, nl_1103515245, nl_2147483647, nl_30, nl_55, nl_107, nl_200, nl_512, nl_15485957, iI_0, iI_neg, iI_add, iI_sub, iI_mul, iI_div, iI_mod, iI_lt, iI_le, iI_eq, iI_nat, iI_vp, ld_rd, ld_wl, lu_s, lu_t, lu_c, lu_j, forall_eq, Int.toNat_natCast, true_and, and_true, not_true, not_false_iff, Classical.not_not, forall_const, iI_inj]
    refine ⟨fun z => by omega, fun _ => ⟨_, _, sp_wind (by omega) hX2 (by omega), by omega, ?_⟩⟩
    simp (disch := omega) only [nl_0, nl_1, nl_2, nl_3, nl_4, nl_5, nl_6, nl_7, nl_8, nl_9, nl_10, nl_11, nl_12, nl_13, nl_14, nl_15, nl_16, nl_17, nl_18, nl_19, nl_20, nl_21, nl_22, nl_23, nl_24, nl_25, nl_26, nl_27, nl_28, nl_31, nl_32, nl_42, nl_44, nl_46, nl_48, nl_49, nl_50, nl_51, nl_60, nl_75, nl_76, nl_99, nl_100, nl_108, nl_114, nl_117, nl_126, nl_255, nl_999, nl_2401, nl_9999, nl_12345, nl_65536, nl_1000000, nl_1103515245, nl_2147483647, nl_30, nl_55, nl_107, nl_200, nl_512, nl_15485957, iI_0, iI_neg, iI_add, iI_sub, iI_mul, iI_div, iI_mod, iI_lt, iI_le, iI_eq, iI_nat, iI_vp, ld_rd, ld_wl, lu_s, lu_t, lu_c, lu_j, forall_eq, Int.toNat_natCast, true_and, and_true, not_true, not_false_iff, Classical.not_not, forall_const, iI_inj, ll_48, lI_iI, lI_add]
    refine ⟨_, _, s3, ?_⟩
    simp (disch := omega) only [nl_0, nl_1, nl_2, nl_3, nl_4, nl_5, nl_6, nl_7, nl_8, nl_9, nl_10, nl_11, nl_12, nl_13, nl_14, nl_15, nl_16, nl_17, nl_18, nl_19, nl_20, nl_21, nl_22, nl_23, nl_24, nl_25, nl_26, nl_27, nl_28, nl_31, nl_32, nl_42, nl_44, nl_46, nl_48, nl_49, nl_50, nl_51, nl_60, nl_75, nl_76, nl_99, nl_100, nl_108, nl_114, nl_117, nl_126, nl_255, nl_999, nl_2401, nl_9999, nl_12345, nl_65536, nl_1000000, nl_1103515245, nl_2147483647, nl_30, nl_55, nl_107, nl_200, nl_512, nl_15485957, iI_0, iI_neg, iI_add, iI_sub, iI_mul, iI_div, iI_mod, iI_lt, iI_le, iI_eq, iI_nat, iI_vp, ld_rd, ld_wl, lu_s, lu_t, lu_c, lu_j, forall_eq, Int.toNat_natCast, true_and, and_true, not_true, not_false_iff, Classical.not_not, forall_const, iI_inj]
    refine ⟨fun z => by omega, fun _ => rg_L_lays_116 hP ?_⟩
    simp (disch := omega) only [nl_0, nl_1, nl_2, nl_3, nl_4, nl_5, nl_6, nl_7, nl_8, nl_9, nl_10, nl_11, nl_12, nl_13, nl_14, nl_15, nl_16, nl_17, nl_18, nl_19, nl_20, nl_21, nl_22, nl_23, nl_24, nl_25, nl_26, nl_27, nl_28, nl_31, nl_32, nl_42, nl_44, nl_46, nl_48, nl_49, nl_50, nl_51, nl_60, nl_75, nl_76, nl_99, nl_100, nl_108, nl_114, nl_117, nl_126, nl_255, nl_999, nl_2401, nl_9999, nl_12345, nl_65536, nl_1000000, nl_1103515245, nl_2147483647, nl_30, nl_55, nl_107, nl_200, nl_512, nl_15485957, iI_0, iI_neg, iI_add, iI_sub, iI_mul, iI_div, iI_mod, iI_lt, iI_le, iI_eq, iI_nat, iI_vp, ld_rd, ld_wl, lu_s, lu_t, lu_c, lu_j, forall_eq, Int.toNat_natCast, true_and, and_true, not_true, not_false_iff, Classical.not_not, forall_const, iI_inj, e1]
    exact hend)
  refine ⟨_, M3, (g1.tr g2).tr g3, ⟨_, rfl⟩, ((f.tr f1).tr f2).tr f3, ?_⟩
  rw [show 3 * (k + 1) - 1 = 3 * k + 1 + 1 by omega]
  exact t3
/-- the winds laid: the law's first loop, and the winds read -/
theorem ly_w {d : Nat} (hd : 6 ≤ d) {L : Nat} {xs : Nat → Int32} {M0 : mj_M} (hX : XM L xs M0) (hT : TC M0 0 (tx L xs)) (hW0 : WD M0 20 0 (tS L xs) (tF L xs)) : ∃ o5 M', Go mj_c68 d 0 [some (mj_r (13, 50, 0)), some (mj_r (41, 82, 0)), some (mj_r (17, 73, 0)), none, none, none, none, none, none] [] M0 154 [some (mj_r (13, 50, 0)), some (mj_r (41, 82, 0)), some (mj_r (17, 73, 0)), some (mj_i (iI 1)), some (mj_i (iI 0)), o5, none, none, none] [] M' ∧ fr [6, 20, 25] M0 M' ∧ WD M' 20 (gW L xs).toNat (tS L xs) (tF L xs) := by
  have hW := gW_r L xs
  obtain ⟨ls, M1, g1, ⟨o5, rfl⟩, f1, t1⟩ := go_lp (d := d) (pc := 5) (n := (gW L xs).toNat) (I := LW L xs M0) (ly_w1 hd hX) (gW L xs).toNat 0 [some (mj_r (13, 50, 0)), some (mj_r (41, 82, 0)), some (mj_r (17, 73, 0)), some (mj_i (iI 1)), some (mj_i (iI ((0 : Nat) : Int))), none, none, none, none] M0 (by omega) ⟨⟨none, rfl⟩, fr.r0, hT⟩
  have g0 : Go mj_c68 d 0 [some (mj_r (13, 50, 0)), some (mj_r (41, 82, 0)), some (mj_r (17, 73, 0)), none, none, none, none, none, none] [] M0 5 [some (mj_r (13, 50, 0)), some (mj_r (41, 82, 0)), some (mj_r (17, 73, 0)), some (mj_i (iI 1)), some (mj_i (iI ((0 : Nat) : Int))), none, none, none, none] [] M0 := fun P R hP hQ hend => rg_L_lays_0 hP hend
  have hX1 := hX.fr f1 (by decide)
  have gE : ∀ M2, Go mj_c68 d 145 [some (mj_r (13, 50, 0)), some (mj_r (41, 82, 0)), some (mj_r (17, 73, 0)), some (mj_i (iI 1)), some (mj_i (iI (((gW L xs).toNat : Nat) : Int))), o5, none, none, none] [] M2 154 [some (mj_r (13, 50, 0)), some (mj_r (41, 82, 0)), some (mj_r (17, 73, 0)), some (mj_i (iI 1)), some (mj_i (iI 0)), o5, none, none, none] [] M2 := fun M2 P R hP hQ hend => rg_L_lays_145 hP (rg_L_lays_150 hP hend)
  have g5 : Go mj_c68 d 5 [some (mj_r (13, 50, 0)), some (mj_r (41, 82, 0)), some (mj_r (17, 73, 0)), some (mj_i (iI 1)), some (mj_i (iI (((gW L xs).toNat : Nat) : Int))), o5, none, none, none] [] M1 123 [some (mj_r (13, 50, 0)), some (mj_r (41, 82, 0)), some (mj_r (17, 73, 0)), some (mj_i (iI 1)), some (mj_i (iI (((gW L xs).toNat : Nat) : Int))), o5, none, none, none] [] M1 := fun P R hP hQ hend => rg_L_lays_5 hP (by
    refine ⟨_, _, sp_nwinds (by omega) hX1, ?_⟩
    simp (disch := omega) only [nl_0, nl_1, nl_2, nl_3, nl_4, nl_5, nl_6, nl_7, nl_8, nl_9, nl_10, nl_11, nl_12, nl_13, nl_14, nl_15, nl_16, nl_17, nl_18, nl_19, nl_20, nl_21, nl_22, nl_23, nl_24, nl_25, nl_26, nl_27, nl_28, nl_31, nl_32, nl_42, nl_44, nl_46, nl_48, nl_49, nl_50, nl_51, nl_60, nl_75, nl_76, nl_99, nl_100, nl_108, nl_114, nl_117, nl_126, nl_255, nl_999, nl_2401, nl_9999, nl_12345, nl_65536, nl_1000000, nl_1103515245, nl_2147483647, nl_30, nl_55, nl_107, nl_200, nl_512, nl_15485957, iI_0, iI_neg, iI_add, iI_sub, iI_mul, iI_div, iI_mod, iI_lt, iI_le, iI_eq, iI_nat, iI_vp, ld_rd, ld_wl, lu_s, lu_t, lu_c, lu_j, forall_eq, Int.toNat_natCast, true_and, and_true, not_true, not_false_iff, Classical.not_not, forall_const, iI_inj]
    exact ⟨fun _ => hend, fun c => by omega⟩)
  by_cases h0 : gW L xs = 0
  · refine ⟨o5, M1, ((g0.tr g1).tr g5).tr (Go.tr (fun P R hP hQ hend => rg_L_lays_123 hP ?_) (gE M1)), f1.mo_ (by decide), ?_⟩
    · simp (disch := omega) only [nl_0, nl_1, nl_2, nl_3, nl_4, nl_5, nl_6, nl_7, nl_8, nl_9, nl_10, nl_11, nl_12, nl_13, nl_14, nl_15, nl_16, nl_17, nl_18, nl_19, nl_20, nl_21, nl_22, nl_23, nl_24, nl_25, nl_26, nl_27, nl_28, nl_31, nl_32, nl_42, nl_44, nl_46, nl_48, nl_49, nl_50, nl_51, nl_60, nl_75, nl_76, nl_99, nl_100, nl_108, nl_114, nl_117, nl_126, nl_255, nl_999, nl_2401, nl_9999, nl_12345, nl_65536, nl_1000000, nl_1103515245, nl_2147483647, nl_30, nl_55, nl_107, nl_200, nl_512, nl_15485957, iI_0, iI_neg, iI_add, iI_sub, iI_mul, iI_div, iI_mod, iI_lt, iI_le, iI_eq, iI_nat, iI_vp, ld_rd, ld_wl, lu_s, lu_t, lu_c, lu_j, forall_eq, Int.toNat_natCast, true_and, and_true, not_true, not_false_iff, Classical.not_not, forall_const, iI_inj]
      refine ⟨fun z => (by first | exact z.elim | exact absurd rfl z | exact absurd z (by decide) | (exfalso; omega)), fun _ => ⟨_, _, sp_nwinds (by omega) hX1, ?_⟩⟩
      simp (disch := omega) only [nl_0, nl_1, nl_2, nl_3, nl_4, nl_5, nl_6, nl_7, nl_8, nl_9, nl_10, nl_11, nl_12, nl_13, nl_14, nl_15, nl_16, nl_17, nl_18, nl_19, nl_20, nl_21, nl_22, nl_23, nl_24, nl_25, nl_26, nl_27, nl_28, nl_31, nl_32, nl_42, nl_44, nl_46, nl_48, nl_49, nl_50, nl_51, nl_60, nl_75, nl_76, nl_99, nl_100, nl_108, nl_114, nl_117, nl_126, nl_255, nl_999, nl_2401, nl_9999, nl_12345, nl_65536, nl_1000000, nl_1103515245, nl_2147483647, nl_30, nl_55, nl_107, nl_200, nl_512, nl_15485957, iI_0, iI_neg, iI_add, iI_sub, iI_mul, iI_div, iI_mod, iI_lt, iI_le, iI_eq, iI_nat, iI_vp, ld_rd, ld_wl, lu_s, lu_t, lu_c, lu_j, forall_eq, Int.toNat_natCast, true_and, and_true, not_true, not_false_iff, Classical.not_not, forall_const, iI_inj]
      exact ⟨fun _ => hend, fun z => by omega⟩
    · rw [h0]
      exact hW0.pe (f1 20 (by decide))
  · obtain ⟨M2, s2, f2, w2⟩ := c_rwinds (W := (gW L xs).toNat) (by omega) (by omega) t1
    have f12 : fr [6, 20, 25] M0 M2 := (f1.mo_ (by decide)).tr f2
    refine ⟨o5, M2, ((g0.tr g1).tr g5).tr (Go.tr (fun P R hP hQ hend => rg_L_lays_123 hP ?_) (gE M2)), f12, w2⟩
    simp (disch := omega) only [nl_0, nl_1, nl_2, nl_3, nl_4, nl_5, nl_6, nl_7, nl_8, nl_9, nl_10, nl_11, nl_12, nl_13, nl_14, nl_15, nl_16, nl_17, nl_18, nl_19, nl_20, nl_21, nl_22, nl_23, nl_24, nl_25, nl_26, nl_27, nl_28, nl_31, nl_32, nl_42, nl_44, nl_46, nl_48, nl_49, nl_50, nl_51, nl_60, nl_75, nl_76, nl_99, nl_100, nl_108, nl_114, nl_117, nl_126, nl_255, nl_999, nl_2401, nl_9999, nl_12345, nl_65536, nl_1000000, nl_1103515245, nl_2147483647, nl_30, nl_55, nl_107, nl_200, nl_512, nl_15485957, iI_0, iI_neg, iI_add, iI_sub, iI_mul, iI_div, iI_mod, iI_lt, iI_le, iI_eq, iI_nat, iI_vp, ld_rd, ld_wl, lu_s, lu_t, lu_c, lu_j, forall_eq, Int.toNat_natCast, true_and, and_true, not_true, not_false_iff, Classical.not_not, forall_const, iI_inj]
    refine ⟨fun z => (by first | exact z.elim | exact absurd rfl z | exact absurd z (by decide) | (exfalso; omega)), fun _ => ⟨_, _, sp_nwinds (by omega) hX1, ?_⟩⟩
    simp (disch := omega) only [nl_0, nl_1, nl_2, nl_3, nl_4, nl_5, nl_6, nl_7, nl_8, nl_9, nl_10, nl_11, nl_12, nl_13, nl_14, nl_15, nl_16, nl_17, nl_18, nl_19, nl_20, nl_21, nl_22, nl_23, nl_24, nl_25, nl_26, nl_27, nl_28, nl_31, nl_32, nl_42, nl_44, nl_46, nl_48, nl_49, nl_50, nl_51, nl_60, nl_75, nl_76, nl_99, nl_100, nl_108, nl_114, nl_117, nl_126, nl_255, nl_999, nl_2401, nl_9999, nl_12345, nl_65536, nl_1000000, nl_1103515245, nl_2147483647, nl_30, nl_55, nl_107, nl_200, nl_512, nl_15485957, iI_0, iI_neg, iI_add, iI_sub, iI_mul, iI_div, iI_mod, iI_lt, iI_le, iI_eq, iI_nat, iI_vp, ld_rd, ld_wl, lu_s, lu_t, lu_c, lu_j, forall_eq, Int.toNat_natCast, true_and, and_true, not_true, not_false_iff, Classical.not_not, forall_const, iI_inj]
    refine ⟨fun z => by omega, fun _ => ⟨_, _, s2 d (by omega), _, _, sp_nwinds (by omega) (hX.fr f12 (by decide)), ?_⟩⟩
    simp (disch := omega) only [nl_0, nl_1, nl_2, nl_3, nl_4, nl_5, nl_6, nl_7, nl_8, nl_9, nl_10, nl_11, nl_12, nl_13, nl_14, nl_15, nl_16, nl_17, nl_18, nl_19, nl_20, nl_21, nl_22, nl_23, nl_24, nl_25, nl_26, nl_27, nl_28, nl_31, nl_32, nl_42, nl_44, nl_46, nl_48, nl_49, nl_50, nl_51, nl_60, nl_75, nl_76, nl_99, nl_100, nl_108, nl_114, nl_117, nl_126, nl_255, nl_999, nl_2401, nl_9999, nl_12345, nl_65536, nl_1000000, nl_1103515245, nl_2147483647, nl_30, nl_55, nl_107, nl_200, nl_512, nl_15485957, iI_0, iI_neg, iI_add, iI_sub, iI_mul, iI_div, iI_mod, iI_lt, iI_le, iI_eq, iI_nat, iI_vp, ld_rd, ld_wl, lu_s, lu_t, lu_c, lu_j, forall_eq, Int.toNat_natCast, true_and, and_true, not_true, not_false_iff, Classical.not_not, forall_const, iI_inj]
    exact ⟨fun z => by omega, fun _ => hend⟩
