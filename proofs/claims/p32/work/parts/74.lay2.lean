/-! the villages are laid: fields of their own -/
def tk_ (A : lA) (v : Nat) (x : Int) : Prop := ∃ a, a < v ∧ A 5 0 a = x
def HI (A : lA) (v : Nat) (H : Int) (u a : Nat) (cur : Int) : Prop := (0 ≤ cur ∧ cur ≤ 24) ∧ ∃ j : Nat, cur = (H + (j : Int)) % 25 ∧ (∀ i : Nat, i < j → tk_ A v ((H + (i : Int)) % 25)) ∧ (¬ tk_ A v cur ∨ u + 1 ≤ j ∨ (u ≤ j ∧ ∀ b, b < a → A 5 0 b ≠ cur))
theorem HI.y {A : lA} {v : Nat} {H : Int} {u a : Nat} {cur : Int} (h : HI A v H u a cur) (ha : a < v) (e : A 5 0 a = cur) : HI A v H u (a + 1) ((cur + 1) % 25) := by
  obtain ⟨hr, j, h1, h2, h3⟩ := h
  refine ⟨by omega, j + 1, by omega, fun i hi => ?_, ?_⟩
  · by_cases g : i = j
    · subst g
      exact ⟨a, ha, by rw [e, h1]⟩
    · exact h2 i (by omega)
  · rcases h3 with h3 | h3 | h3
    · exact absurd ⟨a, ha, e⟩ h3
    · exact Or.inr (Or.inl (by omega))
    · exact Or.inr (Or.inl (by omega))
theorem HI.n {A : lA} {v : Nat} {H : Int} {u a : Nat} {cur : Int} (h : HI A v H u a cur) (e : A 5 0 a ≠ cur) : HI A v H u (a + 1) cur := by
  obtain ⟨hr, j, h1, h2, h3⟩ := h
  refine ⟨hr, j, h1, h2, ?_⟩
  rcases h3 with h3 | h3 | h3
  · exact Or.inl h3
  · exact Or.inr (Or.inl h3)
  · refine Or.inr (Or.inr ⟨h3.1, fun b hb => ?_⟩)
    by_cases g : b = a
    · rw [g]; exact e
    · exact h3.2 b (by omega)
theorem HI.r {A : lA} {v : Nat} {H : Int} {u : Nat} {cur : Int} (h : HI A v H u v cur) : HI A v H (u + 1) 0 cur := by
  obtain ⟨hr, j, h1, h2, h3⟩ := h
  refine ⟨hr, j, h1, h2, ?_⟩
  rcases h3 with h3 | h3 | h3
  · exact Or.inl h3
  · exact Or.inr (Or.inr ⟨h3, fun b hb => absurd hb (Nat.not_lt_zero b)⟩)
  · refine Or.inl (fun ⟨b, hb, e⟩ => h3.2 b hb e)
theorem HI.e {A : lA} {v : Nat} {H : Int} {cur : Int} (hv : v ≤ 3) (h : HI A v H 4 0 cur) : ∀ a, a < v → A 5 0 a ≠ cur := by
  obtain ⟨hr, j, h1, h2, h3⟩ := h
  have hj : ¬ 4 ≤ j := fun hj => by
    obtain ⟨a0, b0, e0⟩ := h2 0 (by omega)
    obtain ⟨a1, b1, e1⟩ := h2 1 (by omega)
    obtain ⟨a2, b2, e2⟩ := h2 2 (by omega)
    obtain ⟨a3, b3, e3⟩ := h2 3 (by omega)
    have n01 : a0 ≠ a1 := fun e => by rw [e] at e0; omega
    have n02 : a0 ≠ a2 := fun e => by rw [e] at e0; omega
    have n03 : a0 ≠ a3 := fun e => by rw [e] at e0; omega
    have n12 : a1 ≠ a2 := fun e => by rw [e] at e1; omega
    have n13 : a1 ≠ a3 := fun e => by rw [e] at e1; omega
    have n23 : a2 ≠ a3 := fun e => by rw [e] at e2; omega
    omega
  rcases h3 with h3 | h3 | h3
  · exact fun a ha e => h3 ⟨a, ha, e⟩
  · omega
  · omega
def KH (A : lA) (M : mj_M) : Prop := ∀ a, a < nV A → M 17 73 0 (50 + a) = iI (A 5 0 a)
theorem KH.pe {A : lA} {M M' : mj_M} (h : KH A M) (e : M' 17 = M 17) : KH A M' := by
  unfold KH
  rw [e]
  exact h
/-- the loop over the villages that are there -/
theorem ly_h1 {d : Nat} {A : lA} {M : mj_M} {v u : Nat} {H cur : Int} {o8 : Option mj_V} (hK : KH A M) (hv : nV A = v) (hv4 : v < 4) (hu : u < 4) (h5 : ∀ a, a < 4 → 0 ≤ A 5 0 a ∧ A 5 0 a ≤ 24) : ∀ (m a : Nat) (cur : Int), a + m = v → HI A v H u a cur → ∃ cur', Go mj_c68 d 322 [some (mj_r (13, 50, 0)), some (mj_r (41, 82, 0)), some (mj_r (17, 73, 0)), some (mj_i (iI 1)), some (mj_i (iI (v : Int))), some (mj_i (iI cur)), some (mj_i (iI (u : Int))), some (mj_i (iI (a : Int))), o8] [] M 313 [some (mj_r (13, 50, 0)), some (mj_r (41, 82, 0)), some (mj_r (17, 73, 0)), some (mj_i (iI 1)), some (mj_i (iI (v : Int))), some (mj_i (iI cur')), some (mj_i (iI ((u + 1 : Nat) : Int))), some (mj_i (iI (v : Int))), o8] [] M ∧ HI A v H (u + 1) 0 cur' := by
  intro m
  have eu : (u : Int) + 1 = ((u + 1 : Nat) : Int) := by omega
  induction m with
  | zero =>
    intro a cur ha h
    have : a = v := by omega
    subst this
    refine ⟨cur, fun P R hP hQ hend => rg_L_lays_322 hP ?_, h.r⟩
    simp (disch := omega) only [nl_0, nl_1, nl_2, nl_3, nl_4, nl_5, nl_6, nl_7, nl_8, nl_9, nl_10, nl_11, nl_12, nl_13, nl_14, nl_15, nl_16, nl_17, nl_18, nl_19, nl_20, nl_21, nl_22, nl_23, nl_24, nl_25, nl_26, nl_27, nl_28, nl_31, nl_32, nl_42, nl_44, nl_46, nl_48, nl_49, nl_50, nl_51, nl_60, nl_75, nl_76, nl_99, nl_100, nl_108, nl_114, nl_117, nl_126, nl_255, nl_999, nl_2401, nl_9999, nl_12345, nl_65536, nl_1000000, nl_1103515245, nl_2147483647, nl_30, nl_55, nl_107, nl_200, nl_512, nl_15485957, iI_0, iI_neg, iI_add, iI_sub, iI_mul, iI_div, iI_mod, iI_lt, iI_le, iI_eq, iI_nat, iI_vp, ld_rd, ld_wl, lu_s, lu_t, lu_c, lu_j, forall_eq, Int.toNat_natCast, true_and, and_true, not_true, not_false_iff, Classical.not_not, forall_const, iI_inj, eu]
    exact ⟨fun _ => hend, fun c => by omega⟩
  | succ m ih =>
    intro a cur ha h
    have ea : (a : Int) + 1 = ((a + 1 : Nat) : Int) := by omega
    have e50 : (50 + (a : Int)).toNat = 50 + a := by omega
    have ha5 := h5 a (by omega)
    have hr := h.1
    by_cases g : A 5 0 a = cur
    · obtain ⟨cur', g1, h1⟩ := ih (a + 1) _ (by omega) (h.y (by omega) g)
      refine ⟨cur', Go.tr (fun P R hP hQ hend => rg_L_lays_322 hP ?_) g1, h1⟩
      simp (disch := omega) only [nl_0, nl_1, nl_2, nl_3, nl_4, nl_5, nl_6, nl_7, nl_8, nl_9, nl_10, nl_11, nl_12, nl_13, nl_14, nl_15, nl_16, nl_17, nl_18, nl_19, nl_20, nl_21, nl_22, nl_23, nl_24, nl_25, nl_26, nl_27, nl_28, nl_31, nl_32, nl_42, nl_44, nl_46, nl_48, nl_49, nl_50, nl_51, nl_60, nl_75, nl_76, nl_99, nl_100, nl_108, nl_114, nl_117, nl_126, nl_255, nl_999, nl_2401, nl_9999, nl_12345, nl_65536, nl_1000000, nl_1103515245, nl_2147483647, nl_30, nl_55, nl_107, nl_200, nl_512, nl_15485957, iI_0, iI_neg, iI_add, iI_sub, iI_mul, iI_div, iI_mod, iI_lt, iI_le, iI_eq, iI_nat, iI_vp, ld_rd, ld_wl, lu_s, lu_t, lu_c, lu_j, forall_eq, Int.toNat_natCast, true_and, and_true, not_true, not_false_iff, Classical.not_not, forall_const, iI_inj, e50, hK a (by omega)]
      refine ⟨fun c => by omega, fun _ => ⟨fun c => absurd g c, fun _ => ⟨by omega, rg_L_lays_353 hP ?_⟩⟩⟩
      simp (disch := omega) only [nl_0, nl_1, nl_2, nl_3, nl_4, nl_5, nl_6, nl_7, nl_8, nl_9, nl_10, nl_11, nl_12, nl_13, nl_14, nl_15, nl_16, nl_17, nl_18, nl_19, nl_20, nl_21, nl_22, nl_23, nl_24, nl_25, nl_26, nl_27, nl_28, nl_31, nl_32, nl_42, nl_44, nl_46, nl_48, nl_49, nl_50, nl_51, nl_60, nl_75, nl_76, nl_99, nl_100, nl_108, nl_114, nl_117, nl_126, nl_255, nl_999, nl_2401, nl_9999, nl_12345, nl_65536, nl_1000000, nl_1103515245, nl_2147483647, nl_30, nl_55, nl_107, nl_200, nl_512, nl_15485957, iI_0, iI_neg, iI_add, iI_sub, iI_mul, iI_div, iI_mod, iI_lt, iI_le, iI_eq, iI_nat, iI_vp, ld_rd, ld_wl, lu_s, lu_t, lu_c, lu_j, forall_eq, Int.toNat_natCast, true_and, and_true, not_true, not_false_iff, Classical.not_not, forall_const, iI_inj, ea]
      exact hend
    · obtain ⟨cur', g1, h1⟩ := ih (a + 1) _ (by omega) (h.n g)
      refine ⟨cur', Go.tr (fun P R hP hQ hend => rg_L_lays_322 hP ?_) g1, h1⟩
      simp (disch := omega) only [nl_0, nl_1, nl_2, nl_3, nl_4, nl_5, nl_6, nl_7, nl_8, nl_9, nl_10, nl_11, nl_12, nl_13, nl_14, nl_15, nl_16, nl_17, nl_18, nl_19, nl_20, nl_21, nl_22, nl_23, nl_24, nl_25, nl_26, nl_27, nl_28, nl_31, nl_32, nl_42, nl_44, nl_46, nl_48, nl_49, nl_50, nl_51, nl_60, nl_75, nl_76, nl_99, nl_100, nl_108, nl_114, nl_117, nl_126, nl_255, nl_999, nl_2401, nl_9999, nl_12345, nl_65536, nl_1000000, nl_1103515245, nl_2147483647, nl_30, nl_55, nl_107, nl_200, nl_512, nl_15485957, iI_0, iI_neg, iI_add, iI_sub, iI_mul, iI_div, iI_mod, iI_lt, iI_le, iI_eq, iI_nat, iI_vp, ld_rd, ld_wl, lu_s, lu_t, lu_c, lu_j, forall_eq, Int.toNat_natCast, true_and, and_true, not_true, not_false_iff, Classical.not_not, forall_const, iI_inj, e50, hK a (by omega)]
      refine ⟨fun c => by omega, fun _ => ⟨fun _ => rg_L_lays_353 hP ?_, fun c => absurd c g⟩⟩
      simp (disch := omega) only [nl_0, nl_1, nl_2, nl_3, nl_4, nl_5, nl_6, nl_7, nl_8, nl_9, nl_10, nl_11, nl_12, nl_13, nl_14, nl_15, nl_16, nl_17, nl_18, nl_19, nl_20, nl_21, nl_22, nl_23, nl_24, nl_25, nl_26, nl_27, nl_28, nl_31, nl_32, nl_42, nl_44, nl_46, nl_48, nl_49, nl_50, nl_51, nl_60, nl_75, nl_76, nl_99, nl_100, nl_108, nl_114, nl_117, nl_126, nl_255, nl_999, nl_2401, nl_9999, nl_12345, nl_65536, nl_1000000, nl_1103515245, nl_2147483647, nl_30, nl_55, nl_107, nl_200, nl_512, nl_15485957, iI_0, iI_neg, iI_add, iI_sub, iI_mul, iI_div, iI_mod, iI_lt, iI_le, iI_eq, iI_nat, iI_vp, ld_rd, ld_wl, lu_s, lu_t, lu_c, lu_j, forall_eq, Int.toNat_natCast, true_and, and_true, not_true, not_false_iff, Classical.not_not, forall_const, iI_inj, ea]
      exact hend
theorem ly_h {d : Nat} {A : lA} {M : mj_M} {v : Nat} {H : Int} {o7 o8 : Option mj_V} (hK : KH A M) (hv : nV A = v) (hv4 : v < 4) (h5 : ∀ a, a < 4 → 0 ≤ A 5 0 a ∧ A 5 0 a ≤ 24) (hH : 0 ≤ H ∧ H ≤ 24) : ∃ cur o7', Go mj_c68 d 313 [some (mj_r (13, 50, 0)), some (mj_r (41, 82, 0)), some (mj_r (17, 73, 0)), some (mj_i (iI 1)), some (mj_i (iI (v : Int))), some (mj_i (iI H)), some (mj_i (iI 0)), o7, o8] [] M 313 [some (mj_r (13, 50, 0)), some (mj_r (41, 82, 0)), some (mj_r (17, 73, 0)), some (mj_i (iI 1)), some (mj_i (iI (v : Int))), some (mj_i (iI cur)), some (mj_i (iI 4)), o7', o8] [] M ∧ (0 ≤ cur ∧ cur ≤ 24) ∧ ∀ a, a < v → A 5 0 a ≠ cur := by
  have key : ∀ (m u : Nat) (cur : Int) (o7 : Option mj_V), u + m = 4 → HI A v H u 0 cur → ∃ cur' o7', Go mj_c68 d 313 [some (mj_r (13, 50, 0)), some (mj_r (41, 82, 0)), some (mj_r (17, 73, 0)), some (mj_i (iI 1)), some (mj_i (iI (v : Int))), some (mj_i (iI cur)), some (mj_i (iI (u : Int))), o7, o8] [] M 313 [some (mj_r (13, 50, 0)), some (mj_r (41, 82, 0)), some (mj_r (17, 73, 0)), some (mj_i (iI 1)), some (mj_i (iI (v : Int))), some (mj_i (iI cur')), some (mj_i (iI 4)), o7', o8] [] M ∧ HI A v H 4 0 cur' := by
    intro m
    induction m with
    | zero =>
      intro u cur o7 hu h
      have : u = 4 := by omega
      subst this
      exact ⟨cur, o7, Go.rf, h⟩
    | succ m ih =>
      intro u cur o7 hu h
      obtain ⟨c1, g1, h1⟩ := ly_h1 (d := d) (M := M) (cur := cur) (o8 := o8) hK hv hv4 (u := u) (by omega) h5 v 0 cur (by omega) h
      obtain ⟨c2, o2, g2, h2⟩ := ih (u + 1) c1 (some (mj_i (iI (v : Int)))) (by omega) h1
      refine ⟨c2, o2, Go.tr (Go.tr (fun P R hP hQ hend => rg_L_lays_313 hP ?_) g1) g2, h2⟩
      simp (disch := omega) only [nl_0, nl_1, nl_2, nl_3, nl_4, nl_5, nl_6, nl_7, nl_8, nl_9, nl_10, nl_11, nl_12, nl_13, nl_14, nl_15, nl_16, nl_17, nl_18, nl_19, nl_20, nl_21, nl_22, nl_23, nl_24, nl_25, nl_26, nl_27, nl_28, nl_31, nl_32, nl_42, nl_44, nl_46, nl_48, nl_49, nl_50, nl_51, nl_60, nl_75, nl_76, nl_99, nl_100, nl_108, nl_114, nl_117, nl_126, nl_255, nl_999, nl_2401, nl_9999, nl_12345, nl_65536, nl_1000000, nl_1103515245, nl_2147483647, nl_30, nl_55, nl_107, nl_200, nl_512, nl_15485957, iI_0, iI_neg, iI_add, iI_sub, iI_mul, iI_div, iI_mod, iI_lt, iI_le, iI_eq, iI_nat, iI_vp, ld_rd, ld_wl, lu_s, lu_t, lu_c, lu_j, forall_eq, Int.toNat_natCast, true_and, and_true, not_true, not_false_iff, Classical.not_not, forall_const, iI_inj]
      exact ⟨fun c => by omega, fun _ => hend⟩
  obtain ⟨cur, o7', g, h⟩ := key 4 0 H o7 (by omega) ⟨hH, 0, by omega, fun i hi => absurd hi (Nat.not_lt_zero i), Or.inr (Or.inr ⟨Nat.le_refl _, fun b hb => absurd hb (Nat.not_lt_zero b)⟩)⟩
  exact ⟨cur, o7', g, h.1, h.e (by omega)⟩
/-! the strings are laid -/
theorem td_lu {A : lA} {c v : Nat} {x : Int} (hc : c < 6) : td (lu A 4 c v x) v = td A v - A 4 c v + x := by
  have := sm_up (g := fun k => A 4 k v) (h := fun k => lu A 4 c v x 4 k v) (c := c) 6 hc (fun k hk hkc => lu_c hkc)
  have e1 : lu A 4 c v x 4 c v = x := lu_s
  rw [e1] at this
  exact this
def LSq (L : Nat) (xs : Nat → Int32) (n : Nat) (S F : Nat → Int) (v : Nat) (cur : Int) (M0 : mj_M) (k : Nat) (ls : mj_L) (M : mj_M) : Prop := ∃ (o8 : Option mj_V) (A : lA), ls = [some (mj_r (13, 50, 0)), some (mj_r (41, 82, 0)), some (mj_r (17, 73, 0)), some (mj_i (iI 1)), some (mj_i (iI (v : Int))), some (mj_i (iI cur)), some (mj_i (iI (A 6 0 v - td A v))), some (mj_i (iI (k : Int))), o8] ∧ fr [0, 17] M0 M ∧ ST L xs M A n S F ∧ (nC A : Int) = gN L xs ∧ nV A = v + 1 ∧ KL A M ∧ KH A M ∧ FR A ∧ ∀ c, c < 6 → k ≤ c → A 4 c v = 0
theorem ly_s1 {d : Nat} (hd : 6 ≤ d) {L : Nat} {xs : Nat → Int32} {n : Nat} {S F : Nat → Int} {v : Nat} (hv4 : v < 4) {cur : Int} {M0 : mj_M} (k : Nat) (ls : mj_L) (M : mj_M) (hk : k < (gN L xs).toNat) (h : LSq L xs n S F v cur M0 k ls M) : ∃ ls' M', Go mj_c68 d 439 ls [] M 439 ls' [] M' ∧ LSq L xs n S F v cur M0 (k + 1) ls' M' := by
  obtain ⟨o8, A, rfl, f0, hS, hc, hv, hK, hH, hF, hz⟩ := h
  have hN := gN_r L xs
  have hX := hS.1
  have hJ := hS.2.2.1
  have hnc := hJ.li.nc
  have hnv := hJ.li.nv
  have hsg := hJ.sg hv4
  have ht0 := hJ.t0 hv4
  have hz0 := hz k (by omega) (Nat.le_refl _)
  have hkk := hK k (by omega)
  have e1 : (k : Int) + 1 = ((k + 1 : Nat) : Int) := by omega
  have e8 : 8 + (v : Int) % 2 = ((8 + v % 2 : Nat) : Int) := by omega
  have hs := sc_r L xs (8 + v % 2)
  have hx := shr_r hs.1 (4 * (k : Int) + (v : Int) / 2).toNat
  generalize hxd : shr (sc L xs (8 + v % 2)) (4 * (k : Int) + (v : Int) / 2).toNat = x at hx
  obtain ⟨q, hq1, hq2, o8', g1⟩ : ∃ q : Int, (0 ≤ q ∧ q ≤ 9) ∧ q ≤ A 6 0 v - td A v ∧ ∃ x8, Go mj_c68 d 439 [some (mj_r (13, 50, 0)), some (mj_r (41, 82, 0)), some (mj_r (17, 73, 0)), some (mj_i (iI 1)), some (mj_i (iI (v : Int))), some (mj_i (iI cur)), some (mj_i (iI (A 6 0 v - td A v))), some (mj_i (iI (k : Int))), o8] [] M 491 [some (mj_r (13, 50, 0)), some (mj_r (41, 82, 0)), some (mj_r (17, 73, 0)), some (mj_i (iI 1)), some (mj_i (iI (v : Int))), some (mj_i (iI cur)), some (mj_i (iI (A 6 0 v - td A v))), some (mj_i (iI (k : Int))), some (mj_i x8)] [mj_i (iI q)] M := by
    by_cases g : x % 4 ≤ A 6 0 v - td A v
    · refine ⟨x % 4, by omega, g, iI (x % 4), fun P R hP hQ hend => rg_L_lays_439 hP ⟨_, _, sp_clouds (by omega) hX, ?_⟩⟩
      simp (disch := omega) only [nl_0, nl_1, nl_2, nl_3, nl_4, nl_5, nl_6, nl_7, nl_8, nl_9, nl_10, nl_11, nl_12, nl_13, nl_14, nl_15, nl_16, nl_17, nl_18, nl_19, nl_20, nl_21, nl_22, nl_23, nl_24, nl_25, nl_26, nl_27, nl_28, nl_31, nl_32, nl_42, nl_44, nl_46, nl_48, nl_49, nl_50, nl_51, nl_60, nl_75, nl_76, nl_99, nl_100, nl_108, nl_114, nl_117, nl_126, nl_255, nl_999, nl_2401, nl_9999, nl_12345, nl_65536, nl_1000000, nl_1103515245, nl_2147483647, nl_30, nl_55, nl_107, nl_200, nl_512, nl_15485957, iI_0, iI_neg, iI_add, iI_sub, iI_mul, iI_div, iI_mod, iI_lt, iI_le, iI_eq, iI_nat, iI_vp, ld_rd, ld_wl, lu_s, lu_t, lu_c, lu_j, forall_eq, Int.toNat_natCast, true_and, and_true, not_true, not_false_iff, Classical.not_not, forall_const, iI_inj]
      refine ⟨fun c => by omega, fun c => ⟨fun z => (by first | exact z.elim | exact absurd rfl z | exact absurd z (by decide) | (exfalso; omega)), fun _ => ⟨by omega, ?_⟩⟩⟩
      rw [e8]
      refine ⟨_, _, sp_cell (by omega) hX (by omega), by omega, by omega, ?_⟩
      rw [iI_shr (z := sc L xs (8 + v % 2)) (s := 4 * (k : Int) + (v : Int) / 2) (by omega) (by omega) (by omega) (by omega), hxd]
      simp (disch := omega) only [nl_0, nl_1, nl_2, nl_3, nl_4, nl_5, nl_6, nl_7, nl_8, nl_9, nl_10, nl_11, nl_12, nl_13, nl_14, nl_15, nl_16, nl_17, nl_18, nl_19, nl_20, nl_21, nl_22, nl_23, nl_24, nl_25, nl_26, nl_27, nl_28, nl_31, nl_32, nl_42, nl_44, nl_46, nl_48, nl_49, nl_50, nl_51, nl_60, nl_75, nl_76, nl_99, nl_100, nl_108, nl_114, nl_117, nl_126, nl_255, nl_999, nl_2401, nl_9999, nl_12345, nl_65536, nl_1000000, nl_1103515245, nl_2147483647, nl_30, nl_55, nl_107, nl_200, nl_512, nl_15485957, iI_0, iI_neg, iI_add, iI_sub, iI_mul, iI_div, iI_mod, iI_lt, iI_le, iI_eq, iI_nat, iI_vp, ld_rd, ld_wl, lu_s, lu_t, lu_c, lu_j, forall_eq, Int.toNat_natCast, true_and, and_true, not_true, not_false_iff, Classical.not_not, forall_const, iI_inj]
      exact ⟨fun _ => hend, fun z => absurd g z⟩
    · refine ⟨A 6 0 v - td A v, by omega, by omega, iI (x % 4), fun P R hP hQ hend => rg_L_lays_439 hP ⟨_, _, sp_clouds (by omega) hX, ?_⟩⟩
      simp (disch := omega) only [nl_0, nl_1, nl_2, nl_3, nl_4, nl_5, nl_6, nl_7, nl_8, nl_9, nl_10, nl_11, nl_12, nl_13, nl_14, nl_15, nl_16, nl_17, nl_18, nl_19, nl_20, nl_21, nl_22, nl_23, nl_24, nl_25, nl_26, nl_27, nl_28, nl_31, nl_32, nl_42, nl_44, nl_46, nl_48, nl_49, nl_50, nl_51, nl_60, nl_75, nl_76, nl_99, nl_100, nl_108, nl_114, nl_117, nl_126, nl_255, nl_999, nl_2401, nl_9999, nl_12345, nl_65536, nl_1000000, nl_1103515245, nl_2147483647, nl_30, nl_55, nl_107, nl_200, nl_512, nl_15485957, iI_0, iI_neg, iI_add, iI_sub, iI_mul, iI_div, iI_mod, iI_lt, iI_le, iI_eq, iI_nat, iI_vp, ld_rd, ld_wl, lu_s, lu_t, lu_c, lu_j, forall_eq, Int.toNat_natCast, true_and, and_true, not_true, not_false_iff, Classical.not_not, forall_const, iI_inj]
      refine ⟨fun c => by omega, fun c => ⟨fun z => (by first | exact z.elim | exact absurd rfl z | exact absurd z (by decide) | (exfalso; omega)), fun _ => ⟨by omega, ?_⟩⟩⟩
      rw [e8]
      refine ⟨_, _, sp_cell (by omega) hX (by omega), by omega, by omega, ?_⟩
      rw [iI_shr (z := sc L xs (8 + v % 2)) (s := 4 * (k : Int) + (v : Int) / 2) (by omega) (by omega) (by omega) (by omega), hxd]
      simp (disch := omega) only [nl_0, nl_1, nl_2, nl_3, nl_4, nl_5, nl_6, nl_7, nl_8, nl_9, nl_10, nl_11, nl_12, nl_13, nl_14, nl_15, nl_16, nl_17, nl_18, nl_19, nl_20, nl_21, nl_22, nl_23, nl_24, nl_25, nl_26, nl_27, nl_28, nl_31, nl_32, nl_42, nl_44, nl_46, nl_48, nl_49, nl_50, nl_51, nl_60, nl_75, nl_76, nl_99, nl_100, nl_108, nl_114, nl_117, nl_126, nl_255, nl_999, nl_2401, nl_9999, nl_12345, nl_65536, nl_1000000, nl_1103515245, nl_2147483647, nl_30, nl_55, nl_107, nl_200, nl_512, nl_15485957, iI_0, iI_neg, iI_add, iI_sub, iI_mul, iI_div, iI_mod, iI_lt, iI_le, iI_eq, iI_nat, iI_vp, ld_rd, ld_wl, lu_s, lu_t, lu_c, lu_j, forall_eq, Int.toNat_natCast, true_and, and_true, not_true, not_false_iff, Classical.not_not, forall_const, iI_inj]
      exact ⟨fun z => absurd z g, fun _ => hend⟩
  generalize hM2 : mj_wl M (17, 73, 0, (18 + 6 * (v : Int) + (k : Int)).toNat) (iI q) = M2
  have f2 : fr [17] M M2 := by
    rw [← hM2]
    exact fr.r0.wl (by decide)
  have rn : ∀ j, j < 18 ∨ 42 ≤ j → M2 17 73 0 j = M 17 73 0 j := fun j h1 => by rw [← hM2, wl_n (by omega)]
  have hS2 : ST L xs M2 A n S F := hS.mo f2 (by decide)
  have es : s_hold A (v : Int) (k : Int) q = (0, lu A 4 k v q) := by
    have e25 : A 2 0 k ≠ 25 := by omega
    unfold s_hold
    rw [if_neg (by omega), Int.toNat_natCast, Int.toNat_natCast, if_neg e25, hz0, if_neg (by omega)]
  have hJ2 : LJ (lu A 4 k v q) := by
    have := k_hold hS2.2.2.1 (v := (v : Int)) (c := (k : Int)) (x := q)
    rw [es] at this
    exact this
  have hho := c_hold (d := d) (by omega) (A := A) (M := M2) (v := (v : Int)) (c := (k : Int)) (x := q) (by unfold iR; omega) (by unfold iR; omega) (by unfold iR; omega) hS2.2.2.1
  rw [es] at hho
  obtain ⟨M3, s3, f3, hS3⟩ := st_call hS2 hJ2 hho
  have etd := td_lu (A := A) (c := k) (v := v) (x := q) (by omega)
  have eleft : lu A 4 k v q 6 0 v - td (lu A 4 k v q) v = A 6 0 v - td A v - q := by
    rw [etd, hz0, lu_t (by decide)]
    omega
  have g2 : Go mj_c68 d 491 [some (mj_r (13, 50, 0)), some (mj_r (41, 82, 0)), some (mj_r (17, 73, 0)), some (mj_i (iI 1)), some (mj_i (iI (v : Int))), some (mj_i (iI cur)), some (mj_i (iI (A 6 0 v - td A v))), some (mj_i (iI (k : Int))), some (mj_i o8')] [mj_i (iI q)] M 439 [some (mj_r (13, 50, 0)), some (mj_r (41, 82, 0)), some (mj_r (17, 73, 0)), some (mj_i (iI 1)), some (mj_i (iI (v : Int))), some (mj_i (iI cur)), some (mj_i (iI (lu A 4 k v q 6 0 v - td (lu A 4 k v q) v))), some (mj_i (iI ((k + 1 : Nat) : Int))), some (mj_i (iI q))] [] M3 := fun P R hP hQ hend => rg_L_lays_491 hP (by
    rw [eleft] at hend
    simp (disch := omega) only [nl_0, nl_1, nl_2, nl_3, nl_4, nl_5, nl_6, nl_7, nl_8, nl_9, nl_10, nl_11, nl_12, nl_13, nl_14, nl_15, nl_16, nl_17, nl_18, nl_19, nl_20, nl_21, nl_22, nl_23, nl_24, nl_25, nl_26, nl_27, nl_28, nl_31, nl_32, nl_42, nl_44, nl_46, nl_48, nl_49, nl_50, nl_51, nl_60, nl_75, nl_76, nl_99, nl_100, nl_108, nl_114, nl_117, nl_126, nl_255, nl_999, nl_2401, nl_9999, nl_12345, nl_65536, nl_1000000, nl_1103515245, nl_2147483647, nl_30, nl_55, nl_107, nl_200, nl_512, nl_15485957, iI_0, iI_neg, iI_add, iI_sub, iI_mul, iI_div, iI_mod, iI_lt, iI_le, iI_eq, iI_nat, iI_vp, ld_rd, ld_wl, lu_s, lu_t, lu_c, lu_j, forall_eq, Int.toNat_natCast, true_and, and_true, not_true, not_false_iff, Classical.not_not, forall_const, iI_inj, hM2]
    refine ⟨_, _, s3, fun z => absurd rfl z, fun _ => rg_L_lays_533 hP ?_⟩
    simp (disch := omega) only [nl_0, nl_1, nl_2, nl_3, nl_4, nl_5, nl_6, nl_7, nl_8, nl_9, nl_10, nl_11, nl_12, nl_13, nl_14, nl_15, nl_16, nl_17, nl_18, nl_19, nl_20, nl_21, nl_22, nl_23, nl_24, nl_25, nl_26, nl_27, nl_28, nl_31, nl_32, nl_42, nl_44, nl_46, nl_48, nl_49, nl_50, nl_51, nl_60, nl_75, nl_76, nl_99, nl_100, nl_108, nl_114, nl_117, nl_126, nl_255, nl_999, nl_2401, nl_9999, nl_12345, nl_65536, nl_1000000, nl_1103515245, nl_2147483647, nl_30, nl_55, nl_107, nl_200, nl_512, nl_15485957, iI_0, iI_neg, iI_add, iI_sub, iI_mul, iI_div, iI_mod, iI_lt, iI_le, iI_eq, iI_nat, iI_vp, ld_rd, ld_wl, lu_s, lu_t, lu_c, lu_j, forall_eq, Int.toNat_natCast, true_and, and_true, not_true, not_false_iff, Classical.not_not, forall_const, iI_inj, e1]
    exact hend)
  refine ⟨_, M3, g1.tr g2, _, lu A 4 k v q, rfl, (f0.tr (f2.mo_ (by decide))).tr (f3.mo_ (by decide)), hS3, hc, hv, ?_, ?_, ?_, ?_⟩
  · intro j hj
    have hj2 : j < nC A := hj
    rw [f3 17 (by decide), rn j (by omega), rn (6 + j) (by omega), rn (12 + j) (by omega)]
    exact hK j hj
  · intro a ha
    have ha2 : a < nV A := ha
    rw [f3 17 (by decide), rn (50 + a) (by omega)]
    exact hH a ha
  · exact hF
  · intro c h6 hc2
    rw [lu_c (by omega)]
    exact hz c h6 (by omega)
