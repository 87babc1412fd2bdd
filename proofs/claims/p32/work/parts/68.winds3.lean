/-! contracts: the class's winds -/
theorem ups_s {S : Nat → Int} {m : Nat} {x : Int} : ups S m x m = x := if_pos rfl
theorem ups_n {S : Nat → Int} {m j : Nat} {x : Int} (h : j ≠ m) : ups S m x j = S j := if_neg h
theorem RG.up {m : Nat} {S F : Nat → Int} {x y : Int} (h : RG m S F) (hx : 0 ≤ x ∧ x ≤ 3) (hy : 0 ≤ y ∧ y ≤ 3) : RG (m + 1) (ups S m x) (ups F m y) := fun j hj => by
  by_cases e : j = m
  · subst e
    rw [ups_s, ups_s]
    exact ⟨hx, hy⟩
  · rw [ups_n e, ups_n e]
    exact h j (by omega)
theorem RD.up {N N' : mj_M} {m : Nat} {S F : Nat → Int} {x y : Int} (h : RD N m S F) (h1 : N' 33 65 0 (2 * m) = iI x) (h2 : N' 33 65 0 (2 * m + 1) = iI y) (h3 : ∀ j, j < 2 * m → N' 33 65 0 j = N 33 65 0 j) : RD N' (m + 1) (ups S m x) (ups F m y) := fun j hj => by
  by_cases e : j = m
  · subst e
    rw [ups_s, ups_s]
    exact ⟨h1, h2⟩
  · rw [ups_n e, ups_n e, h3 _ (by omega), h3 _ (by omega)]
    exact h j (by omega)
theorem sp_wadd {m : Nat} {S F : Nat → Int} {s f : Int} {M : mj_M} (h : WD M 25 m S F) (hm : m < 12) (hs : 0 ≤ s ∧ s ≤ 3) (hf : 0 ≤ f ∧ f ≤ 3) : ∃ M', (∀ d, 1 ≤ d → mj_Sp d 57 [mj_r (25, 10, 0), mj_i (iI s), mj_i (iI f)] M none M') ∧ fr [25] M M' ∧ WD M' 25 (m + 1) (ups S m s) (ups F m f) := by
  have e4 : (m : Int) + 1 = ((m + 1 : Nat) : Int) := by omega
  refine ⟨mj_wl (mj_wl (mj_wl M (25, 11, 0, m) (iI s)) (25, 12, 0, m) (iI f)) (25, 10, 0, 0) (iI ((m + 1 : Nat) : Int)), fun d hd => en_Wi_add (k := 0) hd fun e he P hP hQ => rg_Wi_add_0 hP ?_, ((fr.r0.wl (by decide)).wl (by decide)).wl (by decide), wl_s, by omega, fun j hj => ?_⟩
  · simp (disch := omega) only [nl_0, nl_1, nl_2, nl_3, nl_4, nl_5, nl_6, nl_7, nl_8, nl_9, nl_10, nl_11, nl_12, nl_13, nl_14, nl_15, nl_16, nl_17, nl_18, nl_19, nl_20, nl_21, nl_22, nl_23, nl_24, nl_25, nl_26, nl_27, nl_28, nl_31, nl_32, nl_42, nl_44, nl_46, nl_48, nl_49, nl_50, nl_51, nl_60, nl_75, nl_76, nl_99, nl_100, nl_108, nl_114, nl_117, nl_126, nl_255, nl_999, nl_2401, nl_9999, nl_12345, nl_65536, nl_1000000, nl_1103515245, nl_2147483647, iI_0, iI_neg, iI_add, iI_sub, iI_mul, iI_div, iI_mod, iI_lt, iI_le, iI_eq, iI_nat, iI_vp, ld_rd, ld_wl, lu_s, lu_t, lu_c, lu_j, forall_eq, Int.toNat_natCast, true_and, and_true, not_true, not_false_iff, Classical.not_not, forall_const, iI_inj, h.1, wl_s, wl_n, e4]
    exact ⟨fun z => by omega, fun _ => by (first | exact mj_eq.rf | exact fi_n mj_eq.rf | exact fi_i rfl mj_eq.rf | exact rfl)⟩
  · by_cases e : j = m
    · subst e
      rw [ups_s, ups_s, wl_n (by omega), wl_n (by omega), wl_s, wl_n (by omega), wl_s]
      exact ⟨rfl, rfl, hs, hf⟩
    · rw [ups_n e, ups_n e, wl_n (by omega), wl_n (by omega), wl_n (by omega), wl_n (by omega), wl_n (by omega), wl_n (by omega)]
      exact h.2.2 j (by omega)
theorem sp_can0 {d m : Nat} (hd : 2 ≤ d) {x : Int} {M : mj_M} (hx : iR x) : mj_Sp d 55 [mj_i (iI x), mj_i (iI 0), mj_i (iI (m : Int))] M (some (mj_i (iI (if 0 ≤ sd x then 1 else 0)))) M := by
  have hr := sd_r x
  refine en_Ta_canStand (k := 1) hd fun e he P hP hQ => rg_Ta_canStand_0 hP ⟨fun z => absurd rfl z, fun _ => ⟨_, _, sp_side (by omega) hx, ?_⟩⟩
  simp (disch := omega) only [nl_0, nl_1, nl_2, nl_3, nl_4, nl_5, nl_6, nl_7, nl_8, nl_9, nl_10, nl_11, nl_12, nl_13, nl_14, nl_15, nl_16, nl_17, nl_18, nl_19, nl_20, nl_21, nl_22, nl_23, nl_24, nl_25, nl_26, nl_27, nl_28, nl_31, nl_32, nl_42, nl_44, nl_46, nl_48, nl_49, nl_50, nl_51, nl_60, nl_75, nl_76, nl_99, nl_100, nl_108, nl_114, nl_117, nl_126, nl_255, nl_999, nl_2401, nl_9999, nl_12345, nl_65536, nl_1000000, nl_1103515245, nl_2147483647, iI_0, iI_neg, iI_add, iI_sub, iI_mul, iI_div, iI_mod, iI_lt, iI_le, iI_eq, iI_nat, iI_vp, ld_rd, ld_wl, lu_s, lu_t, lu_c, lu_j, forall_eq, Int.toNat_natCast, true_and, and_true, not_true, not_false_iff, Classical.not_not, forall_const, iI_inj]
  refine ⟨fun z => ?_, fun z => ?_⟩
  · rw [if_neg (by omega)]; (first | exact mj_eq.rf | exact fi_n mj_eq.rf | exact fi_i rfl mj_eq.rf | exact rfl)
  · rw [if_pos (by omega)]; (first | exact mj_eq.rf | exact fi_n mj_eq.rf | exact fi_i rfl mj_eq.rf | exact rfl)
theorem sp_can1 {d m : Nat} (hd : 2 ≤ d) {x : Int} {M : mj_M} (hx : iR x) : mj_Sp d 55 [mj_i (iI x), mj_i (iI 1), mj_i (iI (m : Int))] M (some (mj_i (iI (if 48 ≤ x ∧ x ≤ 51 then 1 else 0)))) M := by
  unfold iR at hx
  refine en_Ta_canStand (k := 1) hd fun e he P hP hQ => rg_Ta_canStand_0 hP ⟨fun _ => ⟨fun z => absurd rfl z, fun _ => ?_⟩, fun z => absurd (by decide) z⟩
  simp (disch := omega) only [nl_0, nl_1, nl_2, nl_3, nl_4, nl_5, nl_6, nl_7, nl_8, nl_9, nl_10, nl_11, nl_12, nl_13, nl_14, nl_15, nl_16, nl_17, nl_18, nl_19, nl_20, nl_21, nl_22, nl_23, nl_24, nl_25, nl_26, nl_27, nl_28, nl_31, nl_32, nl_42, nl_44, nl_46, nl_48, nl_49, nl_50, nl_51, nl_60, nl_75, nl_76, nl_99, nl_100, nl_108, nl_114, nl_117, nl_126, nl_255, nl_999, nl_2401, nl_9999, nl_12345, nl_65536, nl_1000000, nl_1103515245, nl_2147483647, iI_0, iI_neg, iI_add, iI_sub, iI_mul, iI_div, iI_mod, iI_lt, iI_le, iI_eq, iI_nat, iI_vp, ld_rd, ld_wl, lu_s, lu_t, lu_c, lu_j, forall_eq, Int.toNat_natCast, true_and, and_true, not_true, not_false_iff, Classical.not_not, forall_const, iI_inj]
  refine ⟨fun z => ?_, fun z => ⟨fun z2 => ?_, fun z2 => ?_⟩⟩
  · rw [if_neg (by omega)]; (first | exact mj_eq.rf | exact fi_n mj_eq.rf | exact fi_i rfl mj_eq.rf | exact rfl)
  · rw [if_neg (by omega)]; (first | exact mj_eq.rf | exact fi_n mj_eq.rf | exact fi_i rfl mj_eq.rf | exact rfl)
  · rw [if_pos (by omega)]; (first | exact mj_eq.rf | exact fi_n mj_eq.rf | exact fi_i rfl mj_eq.rf | exact rfl)
theorem sp_can2 {d m : Nat} (hd : 2 ≤ d) {x : Int} {M : mj_M} (hx : iR x) (hm : m ≤ 12) : mj_Sp d 55 [mj_i (iI x), mj_i (iI 2), mj_i (iI (m : Int))] M (some (mj_i (iI (if x = 44 ∧ m < 12 then 1 else 0)))) M := by
  unfold iR at hx
  refine en_Ta_canStand (k := 1) hd fun e he P hP hQ => rg_Ta_canStand_0 hP ⟨fun _ => ⟨fun _ => ?_, fun z => absurd (by decide) z⟩, fun z => absurd (by decide) z⟩
  simp (disch := omega) only [nl_0, nl_1, nl_2, nl_3, nl_4, nl_5, nl_6, nl_7, nl_8, nl_9, nl_10, nl_11, nl_12, nl_13, nl_14, nl_15, nl_16, nl_17, nl_18, nl_19, nl_20, nl_21, nl_22, nl_23, nl_24, nl_25, nl_26, nl_27, nl_28, nl_31, nl_32, nl_42, nl_44, nl_46, nl_48, nl_49, nl_50, nl_51, nl_60, nl_75, nl_76, nl_99, nl_100, nl_108, nl_114, nl_117, nl_126, nl_255, nl_999, nl_2401, nl_9999, nl_12345, nl_65536, nl_1000000, nl_1103515245, nl_2147483647, iI_0, iI_neg, iI_add, iI_sub, iI_mul, iI_div, iI_mod, iI_lt, iI_le, iI_eq, iI_nat, iI_vp, ld_rd, ld_wl, lu_s, lu_t, lu_c, lu_j, forall_eq, Int.toNat_natCast, true_and, and_true, not_true, not_false_iff, Classical.not_not, forall_const, iI_inj]
  refine ⟨fun z => ?_, fun z => ⟨fun z2 => ?_, fun z2 => ?_⟩⟩
  · rw [if_neg (by omega)]; (first | exact mj_eq.rf | exact fi_n mj_eq.rf | exact fi_i rfl mj_eq.rf | exact rfl)
  · rw [if_neg (by omega)]; (first | exact mj_eq.rf | exact fi_n mj_eq.rf | exact fi_i rfl mj_eq.rf | exact rfl)
  · rw [if_pos (by omega)]; (first | exact mj_eq.rf | exact fi_n mj_eq.rf | exact fi_i rfl mj_eq.rf | exact rfl)
theorem k_skip {n p q : Nat} {T : Nat → Int} {M : mj_M} {due x3 : Int32} {P : Nat → mj_L → List mj_V → mj_M → Prop} {e : Nat} {R : Option mj_V → mj_M → Prop} (hP : mj_Cl mj_c54 (mj_Sp e) (0 < e) P R) (hT : TI n T) (h : TC M n T) (hq : SK n T p q) (hend : ∀ o5, P 12 [some (mj_r (6, 45, 0)), some (mj_r (25, 10, 0)), some (mj_i due), some (mj_i x3), some (mj_i (iI (q : Int))), o5] [] M) (o5 : Option mj_V) : P 12 [some (mj_r (6, 45, 0)), some (mj_r (25, 10, 0)), some (mj_i due), some (mj_i x3), some (mj_i (iI (p : Int))), o5] [] M := by
  have hn := hT.1
  have h2 := lp_dn (Q := fun v => p ≤ v → ∀ o5, P 12 [some (mj_r (6, 45, 0)), some (mj_r (25, 10, 0)), some (mj_i due), some (mj_i x3), some (mj_i (iI (v : Int))), o5] [] M) (n := q) (fun _ => hend) (fun v hv ih hpv o5 => ?_) p hq.1 (Nat.le_refl _) o5
  · exact h2
  · have h3 := hq.2.1
    have h4 := h.2 v (by omega)
    rw [hq.2.2.1 v hpv hv] at h4
    refine rg_Ta_readInto_12 hP ?_
    have e4 : (v : Int) + 1 = ((v + 1 : Nat) : Int) := by omega
    simp (disch := omega) only [nl_0, nl_1, nl_2, nl_3, nl_4, nl_5, nl_6, nl_7, nl_8, nl_9, nl_10, nl_11, nl_12, nl_13, nl_14, nl_15, nl_16, nl_17, nl_18, nl_19, nl_20, nl_21, nl_22, nl_23, nl_24, nl_25, nl_26, nl_27, nl_28, nl_31, nl_32, nl_42, nl_44, nl_46, nl_48, nl_49, nl_50, nl_51, nl_60, nl_75, nl_76, nl_99, nl_100, nl_108, nl_114, nl_117, nl_126, nl_255, nl_999, nl_2401, nl_9999, nl_12345, nl_65536, nl_1000000, nl_1103515245, nl_2147483647, iI_0, iI_neg, iI_add, iI_sub, iI_mul, iI_div, iI_mod, iI_lt, iI_le, iI_eq, iI_nat, iI_vp, ld_rd, ld_wl, lu_s, lu_t, lu_c, lu_j, forall_eq, Int.toNat_natCast, true_and, and_true, not_true, not_false_iff, Classical.not_not, forall_const, iI_inj, h.1, h4, e4]
    refine ⟨fun z => by omega, fun _ => ⟨fun z => z.elim, ih (by omega) _⟩⟩
theorem TC.fr {M M' : mj_M} {n : Nat} {T : Nat → Int} {ps : List Nat} (h : TC M n T) (f : fr ps M M') (g : 6 ∉ ps) : TC M' n T := by
  unfold TC
  rw [f 6 g]
  exact h
theorem TF.fr {M M' : mj_M} {n : Nat} {T : Nat → Int} {ps : List Nat} (h : TF M n T) (f : fr ps M M') (g : 32 ∉ ps) : TF M' n T := by
  unfold TF
  rw [f 32 g]
  exact h
