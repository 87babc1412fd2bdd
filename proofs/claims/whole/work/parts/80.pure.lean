/-! the law's loop -/
theorem lp_len {L : Nat} {xs : Nat → Int32} {M : mj_M} (hL : L ≤ 3072) (h : M 41 = lw_M L xs 41) : mj_len M (41, 82, 0) = L := by
  show (M 41 83 0 0).toNatClampNeg = L
  rw [h]
  exact nI_clamp (by omega)
/-- the land that there is at first -/
def A0 : lA := fun t c j => if t = 0 ∧ c = 0 ∧ j = 3 then 1 else 0
theorem A0_z {t c j : Nat} (h : t ≠ 0 ∨ j ≠ 3) : A0 t c j = 0 := if_neg (by omega)
theorem lj_0 : LJ A0 := by
  have hn : nC A0 = 0 := rfl
  have hv : nV A0 = 0 := rfl
  have z : ∀ t c j, t ≠ 0 ∨ j ≠ 3 → A0 t c j = 0 := fun t c j h => A0_z h
  have ht : ∀ v, td A0 v = 0 := fun v => by
    unfold td
    rw [sm_0 (n := 0) 6 (by decide) (fun j h1 h2 => z _ _ _ (by omega))]
    rfl
  refine ⟨⟨by decide, by decide, by decide, by decide, fun c _ => ?_, fun c _ => ?_, fun c _ => ?_, fun c v _ _ => ?_, fun c v _ _ _ => ?_, fun v _ => ?_, fun u v hu => ?_⟩, fun v _ => ?_, fun v _ _ => ?_, fun v _ => ?_, fun v _ => ?_, by decide, by decide, fun c v _ _ _ => ?_⟩
  · rw [z _ _ _ (by omega)]; omega
  · rw [z _ _ _ (by omega)]; omega
  · rw [z _ _ _ (by omega)]; omega
  · rw [z _ _ _ (by omega)]; omega
  · rw [z _ _ _ (by omega)]
  · rw [z _ _ _ (by omega)]; omega
  · rw [hv] at hu; omega
  · rw [ht, z _ _ _ (by omega)]; omega
  · rw [z _ _ _ (by omega)]
  · rw [z _ _ _ (by omega)]; omega
  · rw [z _ _ _ (by omega), z _ _ _ (by omega)]; omega
  · rw [z _ _ _ (by omega)]
theorem iv_0 {L : Nat} {xs : Nat → Int32} : IV L xs (lw_M L xs) := by
  have lo : ∀ i t c j, i < 40 → ¬ (t = 0 ∧ c = 0 ∧ j = 3) → ¬ (i = 35 ∧ t = 69) → lw_M L xs i t c j = iI 0 := fun i t c j h1 h2 h3 => by
    rw [lw_M_lt h1]
    unfold mk_M0
    rw [if_neg (fun z => h2 ⟨z.1, z.2.1, z.2.2.1⟩), if_neg (fun z => h3 ⟨z.1, z.2.1⟩)]
    rfl
  have la : ∀ i, i < 5 ∨ i = 14 → LD (lw_M L xs) i A0 := fun i hi t c j _ _ => by
    by_cases g : t = 0 ∧ c = 0 ∧ j = 3
    · rw [lw_M_lt (by omega)]
      unfold mk_M0 A0
      rw [if_pos ⟨g.1, g.2.1, g.2.2, hi⟩, if_pos g]
      rfl
    · rw [lo _ _ _ _ (by omega) g (by omega)]
      unfold A0
      rw [if_neg g]
  refine ⟨⟨⟨fun j _ => rfl, fun j _ => rfl⟩, rfl, fun j _ => lo _ _ _ _ (by omega) (by omega) (by omega)⟩, ⟨0, fun _ => 0, ⟨lo _ _ _ _ (by omega) (by omega) (by omega), fun j hj => absurd hj (by omega)⟩, ⟨lo _ _ _ _ (by omega) (by omega) (by omega), fun j hj => absurd hj (by omega)⟩, by omega, fun j hj => absurd hj (by omega)⟩, ⟨fun _ => -1, fun _ => 0, fun _ _ => iI 0, fun s _ => ⟨Or.inl ⟨rfl, lo _ _ _ _ (by omega) (by omega) (by omega)⟩, fun j _ => lo _ _ _ _ (by omega) (by omega) (by omega)⟩, fun s hs => ⟨?_, fun z => absurd (show (0 : Int) ≤ -1 from z) (by decide), fun j _ => lo _ _ _ _ (by omega) (by omega) (by omega)⟩, fun s _ => ⟨(by decide : (-1 : Int) ≤ -1 ∧ (-1 : Int) ≤ 2), fun _ => (by decide : (0 : Int) ≤ 0 ∧ (0 : Int) ≤ 25)⟩⟩, Or.inl ⟨lo _ _ _ _ (by omega) (by omega) (by omega), lo _ _ _ _ (by omega) (by omega) (by omega)⟩, ⟨A0, la 0 (by omega), la 14 (by omega), lj_0⟩, 0, fun _ => 0, fun _ => 0, ⟨lo _ _ _ _ (by omega) (by omega) (by omega), by omega, fun j hj => absurd hj (by omega)⟩, ⟨lo _ _ _ _ (by omega) (by omega) (by omega), by omega, fun j hj => absurd hj (by omega)⟩⟩
  rw [lw_M_lt (by omega)]
  unfold mk_M0
  rw [if_neg (by omega), if_pos ⟨rfl, rfl, hs⟩]
  rfl
theorem lw_pure : lw_Pure := by
  intro L xs hL P hP hQ
  have key : ∀ (r p : Nat) (M : mj_M), L < p + r → p ≤ L + 6 → IV L xs M → P 18 [some (mj_r (41, 82, 0)), some (mj_r (13, 50, 0)), some (mj_r (30, 60, 0)), some (mj_i (iI (p : Int)))] [] M := by
    intro r
    induction r with
    | zero =>
      intro p M h1 h2 h
      refine rg_L_law_18 hP ⟨fun _ => rfl, fun z => absurd ?_ z⟩
      rw [lp_len hL h.1.2.1]
      show iI (L : Int) - iI 6 < iI (p : Int)
      simp (disch := omega) only [nl_0, nl_1, nl_2, nl_3, nl_4, nl_5, nl_6, nl_7, nl_8, nl_9, nl_10, nl_11, nl_12, nl_13, nl_14, nl_15, nl_16, nl_17, nl_18, nl_19, nl_20, nl_21, nl_22, nl_23, nl_24, nl_25, nl_26, nl_27, nl_28, nl_31, nl_32, nl_42, nl_44, nl_46, nl_48, nl_49, nl_50, nl_51, nl_60, nl_75, nl_76, nl_99, nl_100, nl_108, nl_114, nl_117, nl_126, nl_255, nl_999, nl_2401, nl_9999, nl_12345, nl_65536, nl_1000000, nl_1103515245, nl_2147483647, iI_0, iI_neg, iI_add, iI_sub, iI_mul, iI_div, iI_mod, iI_lt, iI_le, iI_eq, iI_nat, iI_vp, ld_rd, ld_wl, lu_s, lu_t, lu_c, lu_j, forall_eq, Int.toNat_natCast, true_and, and_true, not_true, not_false_iff, Classical.not_not, forall_const, iI_inj]
      omega
    | succ r ih =>
      intro p M h1 h2 h
      refine rg_L_law_18 hP ⟨fun _ => rfl, fun z => ?_⟩
      have hp : p + 6 ≤ L := by
        rw [lp_len hL h.1.2.1] at z
        have z2 : ¬ (iI (L : Int) - iI 6 < iI (p : Int)) := z
        simp (disch := omega) only [nl_0, nl_1, nl_2, nl_3, nl_4, nl_5, nl_6, nl_7, nl_8, nl_9, nl_10, nl_11, nl_12, nl_13, nl_14, nl_15, nl_16, nl_17, nl_18, nl_19, nl_20, nl_21, nl_22, nl_23, nl_24, nl_25, nl_26, nl_27, nl_28, nl_31, nl_32, nl_42, nl_44, nl_46, nl_48, nl_49, nl_50, nl_51, nl_60, nl_75, nl_76, nl_99, nl_100, nl_108, nl_114, nl_117, nl_126, nl_255, nl_999, nl_2401, nl_9999, nl_12345, nl_65536, nl_1000000, nl_1103515245, nl_2147483647, iI_0, iI_neg, iI_add, iI_sub, iI_mul, iI_div, iI_mod, iI_lt, iI_le, iI_eq, iI_nat, iI_vp, ld_rd, ld_wl, lu_s, lu_t, lu_c, lu_j, forall_eq, Int.toNat_natCast, true_and, and_true, not_true, not_false_iff, Classical.not_not, forall_const, iI_inj] at z2
        omega
      have nx : ∀ M2, IV L xs M2 → ∀ x : Int32, x = iI (p : Int) + nI 6 → P 18 [some (mj_r (41, 82, 0)), some (mj_r (13, 50, 0)), some (mj_r (30, 60, 0)), some (mj_i x)] [] M2 := fun M2 h2 x e => by
        have := ih (p + 6) M2 (by omega) (by omega) h2
        rw [e, nl_6, iI_add, show (p : Int) + 6 = ((p + 6 : Nat) : Int) by omega]
        exact this
      have ix : ∀ N, N 41 = M 41 → ∀ k : Nat, k < 6 → vp_in (iI (p : Int) + nI k) (mj_len N (41, 82, 0)) := fun N e k hk => by
        rw [lp_len hL (e.trans h.1.2.1)]
        show vp_in (iI (p : Int) + iI (k : Int)) L
        rw [iI_add]
        exact iI_in (by omega) (by omega) (by omega)
      have i0 : vp_in (iI (p : Int)) (mj_len M (41, 82, 0)) := by
        rw [lp_len hL h.1.2.1]
        exact iI_in (by omega) (by omega) (by omega)
      refine ⟨i0, ?_⟩
      clear i0 z
      refine ⟨fun _ => ?_, fun _ => ?_⟩
      · obtain ⟨z, M1, M2, c1, e41, c2, h2⟩ := ok_0 h _ _ _
        refine ⟨ix M rfl 1 (by decide), ix M rfl 2 (by decide), ix M rfl 3 (by decide), z, M1, c1, ix M1 e41 1 (by decide), ix M1 e41 2 (by decide), ix M1 e41 3 (by decide), z, M2, ?_, fun _ => nx M2 h2, fun ne => absurd rfl ne⟩
        rw [e41]
        exact c2
      refine ⟨fun _ => ?_, fun _ => ?_⟩
      · obtain ⟨z, M1, M2, c1, e41, c2, h2⟩ := ok_1 h _ _ _
        refine ⟨ix M rfl 1 (by decide), ix M rfl 2 (by decide), ix M rfl 3 (by decide), z, M1, c1, ix M1 e41 1 (by decide), ix M1 e41 2 (by decide), ix M1 e41 3 (by decide), z, M2, ?_, fun _ => nx M2 h2, fun ne => absurd rfl ne⟩
        rw [e41]
        exact c2
      refine ⟨fun _ => ?_, fun _ => ?_⟩
      · obtain ⟨z, M1, M2, c1, e41, c2, h2⟩ := ok_2 h _ _
        refine ⟨ix M rfl 1 (by decide), ix M rfl 2 (by decide), z, M1, c1, ix M1 e41 1 (by decide), ix M1 e41 2 (by decide), z, M2, ?_, fun _ => nx M2 h2, fun ne => absurd rfl ne⟩
        rw [e41]
        exact c2
      refine ⟨fun _ => ?_, fun _ => ?_⟩
      · obtain ⟨z, M1, M2, c1, e41, c2, h2⟩ := ok_3 h _ _
        refine ⟨ix M rfl 1 (by decide), ix M rfl 2 (by decide), z, M1, c1, ix M1 e41 1 (by decide), ix M1 e41 2 (by decide), z, M2, ?_, fun _ => nx M2 h2, fun ne => absurd rfl ne⟩
        rw [e41]
        exact c2
      refine ⟨fun _ => ?_, fun _ => ?_⟩
      · obtain ⟨z, M1, M2, c1, e41, c2, h2⟩ := ok_4 h _ _ _
        refine ⟨ix M rfl 1 (by decide), ix M rfl 2 (by decide), ix M rfl 3 (by decide), z, M1, c1, ix M1 e41 1 (by decide), ix M1 e41 2 (by decide), ix M1 e41 3 (by decide), z, M2, ?_, fun _ => nx M2 h2, fun ne => absurd rfl ne⟩
        rw [e41]
        exact c2
      refine ⟨fun _ => ?_, fun _ => ?_⟩
      · obtain ⟨z, M1, M2, c1, e41, c2, h2⟩ := ok_5 h _ _ _
        refine ⟨ix M rfl 1 (by decide), ix M rfl 2 (by decide), ix M rfl 3 (by decide), z, M1, c1, ix M1 e41 1 (by decide), ix M1 e41 2 (by decide), ix M1 e41 3 (by decide), z, M2, ?_, fun _ => nx M2 h2, fun ne => absurd rfl ne⟩
        rw [e41]
        exact c2
      refine ⟨fun _ => ?_, fun _ => ?_⟩
      · obtain ⟨z, M1, M2, c1, e41, c2, h2⟩ := ok_6 h _ _
        refine ⟨ix M rfl 1 (by decide), ix M rfl 2 (by decide), z, M1, c1, ix M1 e41 1 (by decide), ix M1 e41 2 (by decide), z, M2, ?_, fun _ => nx M2 h2, fun ne => absurd rfl ne⟩
        rw [e41]
        exact c2
      refine ⟨fun _ => ?_, fun _ => ?_⟩
      · obtain ⟨z, M1, M2, c1, e41, c2, h2⟩ := ok_7 h _ _
        refine ⟨ix M rfl 1 (by decide), ix M rfl 2 (by decide), z, M1, c1, ix M1 e41 1 (by decide), ix M1 e41 2 (by decide), z, M2, ?_, fun _ => nx M2 h2, fun ne => absurd rfl ne⟩
        rw [e41]
        exact c2
      refine ⟨fun _ => ?_, fun _ => ?_⟩
      · obtain ⟨z, M1, M2, c1, e41, c2, h2⟩ := ok_8 h _ _
        refine ⟨ix M rfl 1 (by decide), ix M rfl 2 (by decide), z, M1, c1, ix M1 e41 1 (by decide), ix M1 e41 2 (by decide), z, M2, ?_, fun _ => nx M2 h2, fun ne => absurd rfl ne⟩
        rw [e41]
        exact c2
      refine ⟨fun _ => ?_, fun _ => ?_⟩
      · obtain ⟨z, M1, M2, c1, e41, c2, h2⟩ := ok_9 h _
        refine ⟨ix M rfl 1 (by decide), z, M1, c1, ix M1 e41 1 (by decide), z, M2, ?_, fun _ => nx M2 h2, fun ne => absurd rfl ne⟩
        rw [e41]
        exact c2
      refine ⟨fun _ => ?_, fun _ => ?_⟩
      · obtain ⟨z, M1, M2, c1, e41, c2, h2⟩ := ok_10 h _ _
        refine ⟨ix M rfl 1 (by decide), ix M rfl 2 (by decide), ix M rfl 3 (by decide), z, M1, c1, ix M1 e41 1 (by decide), ix M1 e41 2 (by decide), ix M1 e41 3 (by decide), z, M2, ?_, fun _ => nx M2 h2, fun ne => absurd rfl ne⟩
        rw [e41]
        exact c2
      refine ⟨fun _ => ?_, fun _ => ?_⟩
      · obtain ⟨z, M1, M2, c1, e41, c2, h2⟩ := ok_11 h
        refine ⟨z, M1, c1, z, M2, ?_, fun _ => nx M2 h2, fun ne => absurd rfl ne⟩
        exact c2
      refine ⟨fun _ => ?_, fun _ => ?_⟩
      · obtain ⟨z, M1, M2, c1, e41, c2, h2⟩ := ok_12 h _
        refine ⟨ix M rfl 1 (by decide), z, M1, c1, ix M1 e41 1 (by decide), z, M2, ?_, fun _ => nx M2 h2, fun ne => absurd rfl ne⟩
        rw [e41]
        exact c2
      refine ⟨fun _ => ?_, fun _ => ?_⟩
      · obtain ⟨z, M1, M2, c1, e41, c2, h2⟩ := ok_13 h _
        refine ⟨ix M rfl 1 (by decide), z, M1, c1, ix M1 e41 1 (by decide), z, M2, ?_, fun _ => nx M2 h2, fun ne => absurd rfl ne⟩
        rw [e41]
        exact c2
      refine ⟨fun _ => ?_, fun _ => ?_⟩
      · obtain ⟨z, M1, M2, c1, e41, c2, h2⟩ := ok_14 h _
        refine ⟨ix M rfl 1 (by decide), z, M1, c1, ix M1 e41 1 (by decide), z, M2, ?_, fun _ => nx M2 h2, fun ne => absurd rfl ne⟩
        rw [e41]
        exact c2
      refine ⟨fun _ => ?_, fun _ => ?_⟩
      · obtain ⟨z, M1, M2, c1, e41, c2, h2⟩ := ok_15 h _
        refine ⟨ix M rfl 1 (by decide), z, M1, c1, ix M1 e41 1 (by decide), z, M2, ?_, fun _ => nx M2 h2, fun ne => absurd rfl ne⟩
        rw [e41]
        exact c2
      refine ⟨fun _ => ?_, fun _ => ?_⟩
      · obtain ⟨z, M1, M2, c1, e41, c2, h2⟩ := ok_16 h _
        refine ⟨ix M rfl 1 (by decide), z, M1, c1, ix M1 e41 1 (by decide), z, M2, ?_, fun _ => nx M2 h2, fun ne => absurd rfl ne⟩
        rw [e41]
        exact c2
      refine ⟨fun _ => ?_, fun _ => ?_⟩
      · obtain ⟨z, M1, M2, c1, e41, c2, h2⟩ := ok_17 h _ _
        refine ⟨ix M rfl 1 (by decide), ix M rfl 2 (by decide), z, M1, c1, ix M1 e41 1 (by decide), ix M1 e41 2 (by decide), z, M2, ?_, fun _ => nx M2 h2, fun ne => absurd rfl ne⟩
        rw [e41]
        exact c2
      refine ⟨fun _ => ?_, fun _ => ?_⟩
      · obtain ⟨z, M1, M2, c1, e41, c2, h2⟩ := ok_18 h _ _ _
        refine ⟨ix M rfl 1 (by decide), ix M rfl 2 (by decide), ix M rfl 3 (by decide), z, M1, c1, ix M1 e41 1 (by decide), ix M1 e41 2 (by decide), ix M1 e41 3 (by decide), z, M2, ?_, fun _ => nx M2 h2, fun ne => absurd rfl ne⟩
        rw [e41]
        exact c2
      refine ⟨fun _ => ?_, fun _ => ?_⟩
      · obtain ⟨z, M1, M2, c1, e41, c2, h2⟩ := ok_19 h _ _ _
        refine ⟨ix M rfl 1 (by decide), ix M rfl 2 (by decide), ix M rfl 3 (by decide), z, M1, c1, ix M1 e41 1 (by decide), ix M1 e41 2 (by decide), ix M1 e41 3 (by decide), z, M2, ?_, fun _ => nx M2 h2, fun ne => absurd rfl ne⟩
        rw [e41]
        exact c2
      refine ⟨fun _ => ?_, fun _ => ?_⟩
      · obtain ⟨z, M1, M2, c1, e41, c2, h2⟩ := ok_20 h _ _ _ _
        refine ⟨ix M rfl 1 (by decide), ix M rfl 2 (by decide), ix M rfl 3 (by decide), ix M rfl 4 (by decide), z, M1, c1, ix M1 e41 1 (by decide), ix M1 e41 2 (by decide), ix M1 e41 3 (by decide), ix M1 e41 4 (by decide), z, M2, ?_, fun _ => nx M2 h2, fun ne => absurd rfl ne⟩
        rw [e41]
        exact c2
      refine ⟨fun _ => ?_, fun _ => ?_⟩
      · obtain ⟨z, M1, M2, c1, e41, c2, h2⟩ := ok_21 h
        refine ⟨z, M1, c1, z, M2, ?_, fun _ => nx M2 h2, fun ne => absurd rfl ne⟩
        exact c2
      refine ⟨fun _ => ?_, fun _ => ?_⟩
      · obtain ⟨z, M1, M2, c1, e41, c2, h2⟩ := ok_22 h
        refine ⟨z, M1, c1, z, M2, ?_, fun _ => nx M2 h2, fun ne => absurd rfl ne⟩
        exact c2
      refine ⟨fun _ => ?_, fun _ => ?_⟩
      · obtain ⟨z, M1, M2, c1, e41, c2, h2⟩ := ok_23 h _ _ _ _ _
        refine ⟨ix M rfl 1 (by decide), ix M rfl 2 (by decide), ix M rfl 3 (by decide), ix M rfl 4 (by decide), ix M rfl 5 (by decide), z, M1, c1, ix M1 e41 1 (by decide), ix M1 e41 2 (by decide), ix M1 e41 3 (by decide), ix M1 e41 4 (by decide), ix M1 e41 5 (by decide), z, M2, ?_, fun _ => nx M2 h2, fun ne => absurd rfl ne⟩
        rw [e41]
        exact c2
      refine ⟨fun _ => ?_, fun _ => ?_⟩
      · obtain ⟨z, M1, M2, c1, e41, c2, h2⟩ := ok_24 h _ _ _ _
        refine ⟨ix M rfl 1 (by decide), ix M rfl 2 (by decide), ix M rfl 3 (by decide), ix M rfl 4 (by decide), z, M1, c1, ix M1 e41 1 (by decide), ix M1 e41 2 (by decide), ix M1 e41 3 (by decide), ix M1 e41 4 (by decide), z, M2, ?_, fun _ => nx M2 h2, fun ne => absurd rfl ne⟩
        rw [e41]
        exact c2
      refine ⟨fun _ => ?_, fun _ => ?_⟩
      · obtain ⟨z, M1, M2, c1, e41, c2, h2⟩ := ok_25 h _ _ _
        refine ⟨ix M rfl 1 (by decide), ix M rfl 2 (by decide), ix M rfl 3 (by decide), z, M1, c1, ix M1 e41 1 (by decide), ix M1 e41 2 (by decide), ix M1 e41 3 (by decide), z, M2, ?_, fun _ => nx M2 h2, fun ne => absurd rfl ne⟩
        rw [e41]
        exact c2
      refine ⟨fun _ => ?_, fun _ => ?_⟩
      · obtain ⟨z, M1, M2, c1, e41, c2, h2⟩ := ok_26 h _
        refine ⟨ix M rfl 1 (by decide), z, M1, c1, ix M1 e41 1 (by decide), z, M2, ?_, fun _ => nx M2 h2, fun ne => absurd rfl ne⟩
        rw [e41]
        exact c2
      refine ⟨fun _ => ?_, fun _ => ?_⟩
      · obtain ⟨z, M1, M2, c1, e41, c2, h2⟩ := ok_27 h _ _ _ _
        refine ⟨ix M rfl 1 (by decide), ix M rfl 2 (by decide), ix M rfl 3 (by decide), ix M rfl 4 (by decide), ix M rfl 5 (by decide), z, M1, c1, ix M1 e41 1 (by decide), ix M1 e41 2 (by decide), ix M1 e41 3 (by decide), ix M1 e41 4 (by decide), ix M1 e41 5 (by decide), z, M2, ?_, fun _ => nx M2 h2, fun ne => absurd rfl ne⟩
        rw [e41]
        exact c2
      refine ⟨fun _ => ?_, fun _ => ?_⟩
      · obtain ⟨z, M1, M2, c1, e41, c2, h2⟩ := ok_28 h _ _ _ _ _
        refine ⟨ix M rfl 1 (by decide), ix M rfl 2 (by decide), ix M rfl 3 (by decide), ix M rfl 4 (by decide), ix M rfl 5 (by decide), z, M1, c1, ix M1 e41 1 (by decide), ix M1 e41 2 (by decide), ix M1 e41 3 (by decide), ix M1 e41 4 (by decide), ix M1 e41 5 (by decide), z, M2, ?_, fun _ => nx M2 h2, fun ne => absurd rfl ne⟩
        rw [e41]
        exact c2
      exact nx M h
  exact key (L + 1) 0 (lw_M L xs) (by omega) (by omega) iv_0
