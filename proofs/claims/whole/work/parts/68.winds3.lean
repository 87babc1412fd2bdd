/-! contracts: the class's winds -/
theorem ups_s {S : Nat → Int} {m : Nat} {x : Int} : ups S m x m = x := if_pos rfl
theorem ups_n {S : Nat → Int} {m j : Nat} {x : Int} (h : j ≠ m) : ups S m x j = S j := if_neg h
theorem RG.up {m : Nat} {S F : Nat → Int} {x y : Int} (h : RG m S F) (hx : 0 ≤ x ∧ x ≤ 3) (hy : 0 ≤ y ∧ y ≤ 3) : RG (m + 1) (ups S m x) (ups F m y) := fun j hj => by
  by_cases e : j = m
  · subst e
    rw [ups_s, ups_s]
    exact ⟨hx, hy⟩
  · rw [ups_n e, ups_n e]
    exact h j (by omega)
theorem RD.up {N N' : mj_M} {m : Nat} {S F : Nat → Int} {x y : Int} (h : RD N m S F) (h1 : N' 33 65 0 (2 * m) = iI x) (h2 : N' 33 65 0 (2 * m + 1) = iI y) (h3 : ∀ j, j < 2 * m → N' 33 65 0 j = N 33 65 0 j) : RD N' (m + 1) (ups S m x) (ups F m y) := fun j hj => by
  by_cases e : j = m
  · subst e
    rw [ups_s, ups_s]
    exact ⟨h1, h2⟩
  · rw [ups_n e, ups_n e, h3 _ (by omega), h3 _ (by omega)]
    exact h j (by omega)
theorem sp_wadd {m : Nat} {S F : Nat → Int} {s f : Int} {M : mj_M} (h : WD M 25 m S F) (hm : m < 12) (hs : 0 ≤ s ∧ s ≤ 3) (hf : 0 ≤ f ∧ f ≤ 3) : ∃ M', (∀ d, 1 ≤ d → mj_Sp d 82 [mj_r (25, 10, 0), mj_i (iI s), mj_i (iI f)] M none M') ∧ fr [25] M M' ∧ WD M' 25 (m + 1) (ups S m s) (ups F m f) := by
  have e4 : (m : Int) + 1 = ((m + 1 : Nat) : Int) := by omega
  refine ⟨mj_wl (mj_wl (mj_wl M (25, 11, 0, m) (iI s)) (25, 12, 0, m) (iI f)) (25, 10, 0, 0) (iI ((m + 1 : Nat) : Int)), fun d hd => en_Wi_add (k := 0) hd fun e he P hP hQ => rg_Wi_add_0 hP ?_, ((fr.r0.wl (by decide)).wl (by decide)).wl (by decide), wl_s, by omega, fun j hj => ?_⟩
  · simp (disch := omega) only [nl_0, nl_1, nl_2, nl_3, nl_4, nl_5, nl_6, nl_7, nl_8, nl_9, nl_10, nl_11, nl_12, nl_13, nl_14, nl_15, nl_16, nl_17, nl_18, nl_19, nl_20, nl_21, nl_22, nl_23, nl_24, nl_25, nl_26, nl_27, nl_28, nl_31, nl_32, nl_42, nl_44, nl_46, nl_48, nl_49, nl_50, nl_51, nl_60, nl_75, nl_76, nl_99, nl_100, nl_108, nl_114, nl_117, nl_126, nl_255, nl_999, nl_2401, nl_9999, nl_12345, nl_65536, nl_1000000, nl_1103515245, nl_2147483647, iI_0, iI_neg, iI_add, iI_sub, iI_mul, iI_div, iI_mod, iI_lt, iI_le, iI_eq, iI_nat, iI_vp, ld_rd, ld_wl, lu_s, lu_t, lu_c, lu_j, forall_eq, Int.toNat_natCast, true_and, and_true, not_true, not_false_iff, Classical.not_not, forall_const, iI_inj, h.1, wl_s, wl_n, e4]
    exact ⟨fun z => by omega, fun _ => by (first | exact mj_eq.rf | exact fi_n mj_eq.rf | exact fi_i rfl mj_eq.rf | exact rfl)⟩
  · by_cases e : j = m
    · subst e
      rw [ups_s, ups_s, wl_n (by omega), wl_n (by omega), wl_s, wl_n (by omega), wl_s]
      exact ⟨rfl, rfl, hs, hf⟩
    · rw [ups_n e, ups_n e, wl_n (by omega), wl_n (by omega), wl_n (by omega), wl_n (by omega), wl_n (by omega), wl_n (by omega)]
      exact h.2.2 j (by omega)
theorem sp_can0 {d m : Nat} (hd : 2 ≤ d) {x : Int} {M : mj_M} (hx : iR x) : mj_Sp d 80 [mj_i (iI x), mj_i (iI 0), mj_i (iI (m : Int))] M (some (mj_i (iI (if 0 ≤ sd x then 1 else 0)))) M := by
  have hr := sd_r x
  refine en_Ta_canStand (k := 1) hd fun e he P hP hQ => rg_Ta_canStand_0 hP ⟨fun z => absurd rfl z, fun _ => ⟨_, _, sp_side (by omega) hx, ?_⟩⟩
  simp (disch := omega) only [nl_0, nl_1, nl_2, nl_3, nl_4, nl_5, nl_6, nl_7, nl_8, nl_9, nl_10, nl_11, nl_12, nl_13, nl_14, nl_15, nl_16, nl_17, nl_18, nl_19, nl_20, nl_21, nl_22, nl_23, nl_24, nl_25, nl_26, nl_27, nl_28, nl_31, nl_32, nl_42, nl_44, nl_46, nl_48, nl_49, nl_50, nl_51, nl_60, nl_75, nl_76, nl_99, nl_100, nl_108, nl_114, nl_117, nl_126, nl_255, nl_999, nl_2401, nl_9999, nl_12345, nl_65536, nl_1000000, nl_1103515245, nl_2147483647, iI_0, iI_neg, iI_add, iI_sub, iI_mul, iI_div, iI_mod, iI_lt, iI_le, iI_eq, iI_nat, iI_vp, ld_rd, ld_wl, lu_s, lu_t, lu_c, lu_j, forall_eq, Int.toNat_natCast, true_and, and_true, not_true, not_false_iff, Classical.not_not, forall_const, iI_inj]
  refine ⟨fun z => ?_, fun z => ?_⟩
  · rw [if_neg (by omega)]; (first | exact mj_eq.rf | exact fi_n mj_eq.rf | exact fi_i rfl mj_eq.rf | exact rfl)
  · rw [if_pos (by omega)]; (first | exact mj_eq.rf | exact fi_n mj_eq.rf | exact fi_i rfl mj_eq.rf | exact rfl)
theorem sp_can1 {d m : Nat} (hd : 2 ≤ d) {x : Int} {M : mj_M} (hx : iR x) : mj_Sp d 80 [mj_i (iI x), mj_i (iI 1), mj_i (iI (m : Int))] M (some (mj_i (iI (if 48 ≤ x ∧ x ≤ 51 then 1 else 0)))) M := by
  unfold iR at hx
  refine en_Ta_canStand (k := 1) hd fun e he P hP hQ => rg_Ta_canStand_0 hP ⟨fun _ => ⟨fun z => absurd rfl z, fun _ => ?_⟩, fun z => absurd (by decide) z⟩
  simp (disch := omega) only [nl_0, nl_1, nl_2, nl_3, nl_4, nl_5, nl_6, nl_7, nl_8, nl_9, nl_10, nl_11, nl_12, nl_13, nl_14, nl_15, nl_16, nl_17, nl_18, nl_19, nl_20, nl_21, nl_22, nl_23, nl_24, nl_25, nl_26, nl_27, nl_28, nl_31, nl_32, nl_42, nl_44, nl_46, nl_48, nl_49, nl_50, nl_51, nl_60, nl_75, nl_76, nl_99, nl_100, nl_108, nl_114, nl_117, nl_126, nl_255, nl_999, nl_2401, nl_9999, nl_12345, nl_65536, nl_1000000, nl_1103515245, nl_2147483647, iI_0, iI_neg, iI_add, iI_sub, iI_mul, iI_div, iI_mod, iI_lt, iI_le, iI_eq, iI_nat, iI_vp, ld_rd, ld_wl, lu_s, lu_t, lu_c, lu_j, forall_eq, Int.toNat_natCast, true_and, and_true, not_true, not_false_iff, Classical.not_not, forall_const, iI_inj]
  refine ⟨fun z => ?_, fun z => ⟨fun z2 => ?_, fun z2 => ?_⟩⟩
  · rw [if_neg (by omega)]; (first | exact mj_eq.rf | exact fi_n mj_eq.rf | exact fi_i rfl mj_eq.rf | exact rfl)
  · rw [if_neg (by omega)]; (first | exact mj_eq.rf | exact fi_n mj_eq.rf | exact fi_i rfl mj_eq.rf | exact rfl)
  · rw [if_pos (by omega)]; (first | exact mj_eq.rf | exact fi_n mj_eq.rf | exact fi_i rfl mj_eq.rf | exact rfl)
theorem sp_can2 {d m : Nat} (hd : 2 ≤ d) {x : Int} {M : mj_M} (hx : iR x) (hm : m ≤ 12) : mj_Sp d 80 [mj_i (iI x), mj_i (iI 2), mj_i (iI (m : Int))] M (some (mj_i (iI (if x = 44 ∧ m < 12 then 1 else 0)))) M := by
  unfold iR at hx
  refine en_Ta_canStand (k := 1) hd fun e he P hP hQ => rg_Ta_canStand_0 hP ⟨fun _ => ⟨fun _ => ?_, fun z => absurd (by decide) z⟩, fun z => absurd (by decide) z⟩
  simp (disch := omega) only [nl_0, nl_1, nl_2, nl_3, nl_4, nl_5, nl_6, nl_7, nl_8, nl_9, nl_10, nl_11, nl_12, nl_13, nl_14, nl_15, nl_16, nl_17, nl_18, nl_19, nl_20, nl_21, nl_22, nl_23, nl_24, nl_25, nl_26, nl_27, nl_28, nl_31, nl_32, nl_42, nl_44, nl_46, nl_48, nl_49, nl_50, nl_51, nl_60, nl_75, nl_76, nl_99, nl_100, nl_108, nl_114, nl_117, nl_126, nl_255, nl_999, nl_2401, nl_9999, nl_12345, nl_65536, nl_1000000, nl_1103515245, nl_2147483647, iI_0, iI_neg, iI_add, iI_sub, iI_mul, iI_div, iI_mod, iI_lt, iI_le, iI_eq, iI_nat, iI_vp, ld_rd, ld_wl, lu_s, lu_t, lu_c, lu_j, forall_eq, Int.toNat_natCast, true_and, and_true, not_true, not_false_iff, Classical.not_not, forall_const, iI_inj]
  refine ⟨fun z => ?_, fun z => ⟨fun z2 => ?_, fun z2 => ?_⟩⟩
  · rw [if_neg (by omega)]; (first | exact mj_eq.rf | exact fi_n mj_eq.rf | exact fi_i rfl mj_eq.rf | exact rfl)
  · rw [if_neg (by omega)]; (first | exact mj_eq.rf | exact fi_n mj_eq.rf | exact fi_i rfl mj_eq.rf | exact rfl)
  · rw [if_pos (by omega)]; (first | exact mj_eq.rf | exact fi_n mj_eq.rf | exact fi_i rfl mj_eq.rf | exact rfl)
theorem k_skip {n p q : Nat} {T : Nat → Int} {M : mj_M} {due x3 : Int32} {P : Nat → mj_L → List mj_V → mj_M → Prop} {e : Nat} {R : Option mj_V → mj_M → Prop} (hP : mj_Cl mj_c79 (mj_Sp e) (0 < e) P R) (hT : TI n T) (h : TC M n T) (hq : SK n T p q) (hend : ∀ o5, P 12 [some (mj_r (6, 45, 0)), some (mj_r (25, 10, 0)), some (mj_i due), some (mj_i x3), some (mj_i (iI (q : Int))), o5] [] M) (o5 : Option mj_V) : P 12 [some (mj_r (6, 45, 0)), some (mj_r (25, 10, 0)), some (mj_i due), some (mj_i x3), some (mj_i (iI (p : Int))), o5] [] M := by
  have hn := hT.1
  have h2 := lp_dn (Q := fun v => p ≤ v → ∀ o5, P 12 [some (mj_r (6, 45, 0)), some (mj_r (25, 10, 0)), some (mj_i due), some (mj_i x3), some (mj_i (iI (v : Int))), o5] [] M) (n := q) (fun _ => hend) (fun v hv ih hpv o5 => ?_) p hq.1 (Nat.le_refl _) o5
  · exact h2
  · have h3 := hq.2.1
    have h4 := h.2 v (by omega)
    rw [hq.2.2.1 v hpv hv] at h4
    refine rg_Ta_readInto_12 hP ?_
    have e4 : (v : Int) + 1 = ((v + 1 : Nat) : Int) := by omega
    simp (disch := omega) only [nl_0, nl_1, nl_2, nl_3, nl_4, nl_5, nl_6, nl_7, nl_8, nl_9, nl_10, nl_11, nl_12, nl_13, nl_14, nl_15, nl_16, nl_17, nl_18, nl_19, nl_20, nl_21, nl_22, nl_23, nl_24, nl_25, nl_26, nl_27, nl_28, nl_31, nl_32, nl_42, nl_44, nl_46, nl_48, nl_49, nl_50, nl_51, nl_60, nl_75, nl_76, nl_99, nl_100, nl_108, nl_114, nl_117, nl_126, nl_255, nl_999, nl_2401, nl_9999, nl_12345, nl_65536, nl_1000000, nl_1103515245, nl_2147483647, iI_0, iI_neg, iI_add, iI_sub, iI_mul, iI_div, iI_mod, iI_lt, iI_le, iI_eq, iI_nat, iI_vp, ld_rd, ld_wl, lu_s, lu_t, lu_c, lu_j, forall_eq, Int.toNat_natCast, true_and, and_true, not_true, not_false_iff, Classical.not_not, forall_const, iI_inj, h.1, h4, e4]
    refine ⟨fun z => by omega, fun _ => ⟨fun z => z.elim, ih (by omega) _⟩⟩
def WR (n : Nat) (T : Nat → Int) (p m : Nat) (S F : Nat → Int) : Prop := ∃ R m' S' F', WA R m' S' F' ∧ (∀ M o5 x3, TC M n T → WD M 25 m S F → ∃ M', Rn mj_c79 2 12 [some (mj_r (6, 45, 0)), some (mj_r (25, 10, 0)), some (mj_i (iI 0)), some (mj_i x3), some (mj_i (iI (p : Int))), o5] M (some (mj_i (iI R))) M' ∧ fr [25] M M' ∧ (0 < R → WD M' 25 m' S' F')) ∧ (∀ N, TF N n T → N 33 63 0 0 = iI (p : Int) → RD N m S F → ∃ N', Rn mj_c109 2 14 [some (mj_r (30, 60, 0)), some (mj_i (iI (m : Int))), some (mj_i (iI 1)), none] N (some (mj_i (iI R))) N' ∧ WN N N' R m' S' F')
theorem TC.fr {M M' : mj_M} {n : Nat} {T : Nat → Int} {ps : List Nat} (h : TC M n T) (f : fr ps M M') (g : 6 ∉ ps) : TC M' n T := by
  unfold TC
  rw [f 6 g]
  exact h
theorem TF.fr {M M' : mj_M} {n : Nat} {T : Nat → Int} {ps : List Nat} (h : TF M n T) (f : fr ps M M') (g : 32 ∉ ps) : TF M' n T := by
  unfold TF
  rw [f 32 g]
  exact h
theorem wr_step {n : Nat} {T : Nat → Int} (hT : TI n T) {p m : Nat} {S F : Nat → Int} (hp : p ≤ n) (hm : m < 12) (hG : RG m S F) (ih : ∀ p' m' S' F', p < p' → p' ≤ n → m' < 12 → RG m' S' F' → WR n T p' m' S' F') : WR n T p m S F := by
  have hn := hT.1
  have e1 : (m : Int) + 1 = ((m + 1 : Nat) : Int) := by omega
  obtain ⟨q, hq⟩ := SK.ex (n := n) (T := T) (n - p) p (by omega)
  have hqn := hq.2.1
  have hqp := hq.1
  have hr := hb_r hT q
  have hsr := sd_r (hb n T q)
  have eq1 : (q : Int) + 1 = ((q + 1 : Nat) : Int) := by omega
  by_cases g : sd (hb n T q) < 0
  · -- no letter
    refine ⟨-20 - (q : Int), 0, S, F, ⟨by unfold iR; omega, fun z => by omega⟩, fun M o5 x3 hM hW => ⟨M, fun e he P hP hQ => ?_, fr.r0, fun z => by omega⟩, fun N hN h0 hR => ?_⟩
    · refine k_skip hP hT hM hq (fun o5 => rg_Ta_readInto_12 hP ?_) o5
      by_cases gq : q < n
      · have hv : hb n T q = T q := if_pos gq
        rw [hv] at g hr hsr
        have h6 := hq.2.2.2 gq
        have h4 := hM.2 q gq
        simp (disch := omega) only [nl_0, nl_1, nl_2, nl_3, nl_4, nl_5, nl_6, nl_7, nl_8, nl_9, nl_10, nl_11, nl_12, nl_13, nl_14, nl_15, nl_16, nl_17, nl_18, nl_19, nl_20, nl_21, nl_22, nl_23, nl_24, nl_25, nl_26, nl_27, nl_28, nl_31, nl_32, nl_42, nl_44, nl_46, nl_48, nl_49, nl_50, nl_51, nl_60, nl_75, nl_76, nl_99, nl_100, nl_108, nl_114, nl_117, nl_126, nl_255, nl_999, nl_2401, nl_9999, nl_12345, nl_65536, nl_1000000, nl_1103515245, nl_2147483647, iI_0, iI_neg, iI_add, iI_sub, iI_mul, iI_div, iI_mod, iI_lt, iI_le, iI_eq, iI_nat, iI_vp, ld_rd, ld_wl, lu_s, lu_t, lu_c, lu_j, forall_eq, Int.toNat_natCast, true_and, and_true, not_true, not_false_iff, Classical.not_not, forall_const, iI_inj, hM.1, h4, hW.1]
        refine ⟨fun z => by omega, fun _ => ⟨fun _ => ⟨_, _, sp_can0 (by omega) (by unfold iR; omega), ?_⟩, fun z => absurd z h6⟩⟩
        rw [if_neg (by omega)]
        simp (disch := omega) only [nl_0, nl_1, nl_2, nl_3, nl_4, nl_5, nl_6, nl_7, nl_8, nl_9, nl_10, nl_11, nl_12, nl_13, nl_14, nl_15, nl_16, nl_17, nl_18, nl_19, nl_20, nl_21, nl_22, nl_23, nl_24, nl_25, nl_26, nl_27, nl_28, nl_31, nl_32, nl_42, nl_44, nl_46, nl_48, nl_49, nl_50, nl_51, nl_60, nl_75, nl_76, nl_99, nl_100, nl_108, nl_114, nl_117, nl_126, nl_255, nl_999, nl_2401, nl_9999, nl_12345, nl_65536, nl_1000000, nl_1103515245, nl_2147483647, iI_0, iI_neg, iI_add, iI_sub, iI_mul, iI_div, iI_mod, iI_lt, iI_le, iI_eq, iI_nat, iI_vp, ld_rd, ld_wl, lu_s, lu_t, lu_c, lu_j, forall_eq, Int.toNat_natCast, true_and, and_true, not_true, not_false_iff, Classical.not_not, forall_const, iI_inj]
        exact ⟨fun z => (by first | exact z.elim | exact absurd rfl z | exact absurd z (by decide) | (exfalso; omega)), by (first | exact mj_eq.rf | exact fi_n mj_eq.rf | exact fi_i rfl mj_eq.rf | exact rfl)⟩
      · have eqn : q = n := by omega
        subst eqn
        simp (disch := omega) only [nl_0, nl_1, nl_2, nl_3, nl_4, nl_5, nl_6, nl_7, nl_8, nl_9, nl_10, nl_11, nl_12, nl_13, nl_14, nl_15, nl_16, nl_17, nl_18, nl_19, nl_20, nl_21, nl_22, nl_23, nl_24, nl_25, nl_26, nl_27, nl_28, nl_31, nl_32, nl_42, nl_44, nl_46, nl_48, nl_49, nl_50, nl_51, nl_60, nl_75, nl_76, nl_99, nl_100, nl_108, nl_114, nl_117, nl_126, nl_255, nl_999, nl_2401, nl_9999, nl_12345, nl_65536, nl_1000000, nl_1103515245, nl_2147483647, iI_0, iI_neg, iI_add, iI_sub, iI_mul, iI_div, iI_mod, iI_lt, iI_le, iI_eq, iI_nat, iI_vp, ld_rd, ld_wl, lu_s, lu_t, lu_c, lu_j, forall_eq, Int.toNat_natCast, true_and, and_true, not_true, not_false_iff, Classical.not_not, forall_const, iI_inj, hM.1]
        exact ⟨fun _ => ⟨fun _ => by (first | exact mj_eq.rf | exact fi_n mj_eq.rf | exact fi_i rfl mj_eq.rf | exact rfl), fun z => (by first | exact z.elim | exact absurd rfl z | exact absurd z (by decide) | (exfalso; omega))⟩, fun z => (by first | exact z.elim | exact absurd rfl z | exact absurd z (by decide) | (exfalso; omega))⟩
    · obtain ⟨N1, sp1, f1, w1, a1⟩ := (sp_readWind hT hN h0 hq hm).1 g
      obtain ⟨N', hr', hw⟩ := k_ex1 (m := m + 1) (N := N1) (m' := 0) (S := S) (F := F) w1 a1 (by omega)
      refine ⟨N', fun e he P hP hQ => rg_m_winds_14 hP ⟨fun z => absurd z (by decide), fun _ => ⟨_, sp1 e he, ?_⟩⟩, hw.of f1⟩
      have := hr' e he P hP hQ
      simp (disch := omega) only [nl_0, nl_1, nl_2, nl_3, nl_4, nl_5, nl_6, nl_7, nl_8, nl_9, nl_10, nl_11, nl_12, nl_13, nl_14, nl_15, nl_16, nl_17, nl_18, nl_19, nl_20, nl_21, nl_22, nl_23, nl_24, nl_25, nl_26, nl_27, nl_28, nl_31, nl_32, nl_42, nl_44, nl_46, nl_48, nl_49, nl_50, nl_51, nl_60, nl_75, nl_76, nl_99, nl_100, nl_108, nl_114, nl_117, nl_126, nl_255, nl_999, nl_2401, nl_9999, nl_12345, nl_65536, nl_1000000, nl_1103515245, nl_2147483647, iI_0, iI_neg, iI_add, iI_sub, iI_mul, iI_div, iI_mod, iI_lt, iI_le, iI_eq, iI_nat, iI_vp, ld_rd, ld_wl, lu_s, lu_t, lu_c, lu_j, forall_eq, Int.toNat_natCast, true_and, and_true, not_true, not_false_iff, Classical.not_not, forall_const, iI_inj, w1, a1, e1, Int.add_zero]
      refine ⟨fun _ => ⟨?_, fun z => (by first | exact z.elim | exact absurd rfl z | exact absurd z (by decide) | (exfalso; omega))⟩, fun z => (by first | exact z.elim | exact absurd rfl z | exact absurd z (by decide) | (exfalso; omega))⟩
      rw [wl_self a1]
      exact this
  · have hlt : q < n := by
      by_cases c : q < n
      · exact c
      · exact absurd (show sd (hb n T q) < 0 by rw [show hb n T q = 0 from if_neg c]; decide) g
    have hv : hb n T q = T q := if_pos hlt
    have h6 := hq.2.2.2 hlt
    rw [hv] at g hr hsr
    obtain ⟨q2, hq2⟩ := SK.ex (n := n) (T := T) (n - (q + 1)) (q + 1) (by omega)
    have hqn2 := hq2.2.1
    have hqp2 := hq2.1
    have hr2 := hb_r hT q2
    have eq2 : (q2 : Int) + 1 = ((q2 + 1 : Nat) : Int) := by omega
    -- the class behind the letter
    have lett : ∀ M o5 x3 r M', TC M n T → WD M 25 m S F → (∀ o5, Rn mj_c79 2 12 [some (mj_r (6, 45, 0)), some (mj_r (25, 10, 0)), some (mj_i (iI 1)), some (mj_i (iI (sd (T q)))), some (mj_i (iI (q2 : Int))), o5] M r M') → Rn mj_c79 2 12 [some (mj_r (6, 45, 0)), some (mj_r (25, 10, 0)), some (mj_i (iI 0)), some (mj_i x3), some (mj_i (iI (p : Int))), o5] M r M' := fun M o5 x3 r M' hM hW hend e he P hP hQ => by
      refine k_skip hP hT hM hq (fun o5 => rg_Ta_readInto_12 hP ?_) o5
      have h4 := hM.2 q hlt
      simp (disch := omega) only [nl_0, nl_1, nl_2, nl_3, nl_4, nl_5, nl_6, nl_7, nl_8, nl_9, nl_10, nl_11, nl_12, nl_13, nl_14, nl_15, nl_16, nl_17, nl_18, nl_19, nl_20, nl_21, nl_22, nl_23, nl_24, nl_25, nl_26, nl_27, nl_28, nl_31, nl_32, nl_42, nl_44, nl_46, nl_48, nl_49, nl_50, nl_51, nl_60, nl_75, nl_76, nl_99, nl_100, nl_108, nl_114, nl_117, nl_126, nl_255, nl_999, nl_2401, nl_9999, nl_12345, nl_65536, nl_1000000, nl_1103515245, nl_2147483647, iI_0, iI_neg, iI_add, iI_sub, iI_mul, iI_div, iI_mod, iI_lt, iI_le, iI_eq, iI_nat, iI_vp, ld_rd, ld_wl, lu_s, lu_t, lu_c, lu_j, forall_eq, Int.toNat_natCast, true_and, and_true, not_true, not_false_iff, Classical.not_not, forall_const, iI_inj, hM.1, h4, hW.1]
      refine ⟨fun z => by omega, fun _ => ⟨fun _ => ⟨_, _, sp_can0 (by omega) (by unfold iR; omega), ?_⟩, fun z => absurd z h6⟩⟩
      rw [if_pos (by omega)]
      simp (disch := omega) only [nl_0, nl_1, nl_2, nl_3, nl_4, nl_5, nl_6, nl_7, nl_8, nl_9, nl_10, nl_11, nl_12, nl_13, nl_14, nl_15, nl_16, nl_17, nl_18, nl_19, nl_20, nl_21, nl_22, nl_23, nl_24, nl_25, nl_26, nl_27, nl_28, nl_31, nl_32, nl_42, nl_44, nl_46, nl_48, nl_49, nl_50, nl_51, nl_60, nl_75, nl_76, nl_99, nl_100, nl_108, nl_114, nl_117, nl_126, nl_255, nl_999, nl_2401, nl_9999, nl_12345, nl_65536, nl_1000000, nl_1103515245, nl_2147483647, iI_0, iI_neg, iI_add, iI_sub, iI_mul, iI_div, iI_mod, iI_lt, iI_le, iI_eq, iI_nat, iI_vp, ld_rd, ld_wl, lu_s, lu_t, lu_c, lu_j, forall_eq, Int.toNat_natCast, true_and, and_true, not_true, not_false_iff, Classical.not_not, forall_const, iI_inj, eq1]
      refine ⟨fun _ => ⟨fun z => (by first | exact z.elim | exact absurd rfl z | exact absurd z (by decide) | (exfalso; omega)), _, _, sp_side (by omega) (by unfold iR; omega), ?_⟩, fun z => (by first | exact z.elim | exact absurd rfl z | exact absurd z (by decide) | (exfalso; omega))⟩
      exact k_skip hP hT hM hq2 (fun o5 => hend o5 e he P hP hQ) _
    by_cases g2 : hb n T q2 < 48 ∨ 51 < hb n T q2
    · refine ⟨-20 - (q2 : Int), 0, S, F, ⟨by unfold iR; omega, fun z => by omega⟩, fun M o5 x3 hM hW => ⟨M, lett M o5 x3 _ _ hM hW fun o5 e he P hP hQ => rg_Ta_readInto_12 hP ?_, fr.r0, fun z => by omega⟩, fun N hN h0 hR => ?_⟩
      · by_cases gq : q2 < n
        · have hv2 : hb n T q2 = T q2 := if_pos gq
          rw [hv2] at g2 hr2
          have h62 := hq2.2.2.2 gq
          have h42 := hM.2 q2 gq
          simp (disch := omega) only [nl_0, nl_1, nl_2, nl_3, nl_4, nl_5, nl_6, nl_7, nl_8, nl_9, nl_10, nl_11, nl_12, nl_13, nl_14, nl_15, nl_16, nl_17, nl_18, nl_19, nl_20, nl_21, nl_22, nl_23, nl_24, nl_25, nl_26, nl_27, nl_28, nl_31, nl_32, nl_42, nl_44, nl_46, nl_48, nl_49, nl_50, nl_51, nl_60, nl_75, nl_76, nl_99, nl_100, nl_108, nl_114, nl_117, nl_126, nl_255, nl_999, nl_2401, nl_9999, nl_12345, nl_65536, nl_1000000, nl_1103515245, nl_2147483647, iI_0, iI_neg, iI_add, iI_sub, iI_mul, iI_div, iI_mod, iI_lt, iI_le, iI_eq, iI_nat, iI_vp, ld_rd, ld_wl, lu_s, lu_t, lu_c, lu_j, forall_eq, Int.toNat_natCast, true_and, and_true, not_true, not_false_iff, Classical.not_not, forall_const, iI_inj, hM.1, h42, hW.1]
          refine ⟨fun z => by omega, fun _ => ⟨fun _ => ⟨_, _, sp_can1 (by omega) (by unfold iR; omega), ?_⟩, fun z => absurd z h62⟩⟩
          rw [if_neg (by omega)]
          simp (disch := omega) only [nl_0, nl_1, nl_2, nl_3, nl_4, nl_5, nl_6, nl_7, nl_8, nl_9, nl_10, nl_11, nl_12, nl_13, nl_14, nl_15, nl_16, nl_17, nl_18, nl_19, nl_20, nl_21, nl_22, nl_23, nl_24, nl_25, nl_26, nl_27, nl_28, nl_31, nl_32, nl_42, nl_44, nl_46, nl_48, nl_49, nl_50, nl_51, nl_60, nl_75, nl_76, nl_99, nl_100, nl_108, nl_114, nl_117, nl_126, nl_255, nl_999, nl_2401, nl_9999, nl_12345, nl_65536, nl_1000000, nl_1103515245, nl_2147483647, iI_0, iI_neg, iI_add, iI_sub, iI_mul, iI_div, iI_mod, iI_lt, iI_le, iI_eq, iI_nat, iI_vp, ld_rd, ld_wl, lu_s, lu_t, lu_c, lu_j, forall_eq, Int.toNat_natCast, true_and, and_true, not_true, not_false_iff, Classical.not_not, forall_const, iI_inj]
          exact ⟨fun z => (by first | exact z.elim | exact absurd rfl z | exact absurd z (by decide) | (exfalso; omega)), by (first | exact mj_eq.rf | exact fi_n mj_eq.rf | exact fi_i rfl mj_eq.rf | exact rfl)⟩
        · have eqn : q2 = n := by omega
          subst eqn
          simp (disch := omega) only [nl_0, nl_1, nl_2, nl_3, nl_4, nl_5, nl_6, nl_7, nl_8, nl_9, nl_10, nl_11, nl_12, nl_13, nl_14, nl_15, nl_16, nl_17, nl_18, nl_19, nl_20, nl_21, nl_22, nl_23, nl_24, nl_25, nl_26, nl_27, nl_28, nl_31, nl_32, nl_42, nl_44, nl_46, nl_48, nl_49, nl_50, nl_51, nl_60, nl_75, nl_76, nl_99, nl_100, nl_108, nl_114, nl_117, nl_126, nl_255, nl_999, nl_2401, nl_9999, nl_12345, nl_65536, nl_1000000, nl_1103515245, nl_2147483647, iI_0, iI_neg, iI_add, iI_sub, iI_mul, iI_div, iI_mod, iI_lt, iI_le, iI_eq, iI_nat, iI_vp, ld_rd, ld_wl, lu_s, lu_t, lu_c, lu_j, forall_eq, Int.toNat_natCast, true_and, and_true, not_true, not_false_iff, Classical.not_not, forall_const, iI_inj, hM.1]
          exact ⟨fun _ => ⟨fun _ => by (first | exact mj_eq.rf | exact fi_n mj_eq.rf | exact fi_i rfl mj_eq.rf | exact rfl), fun z => (by first | exact z.elim | exact absurd rfl z | exact absurd z (by decide) | (exfalso; omega))⟩, fun z => (by first | exact z.elim | exact absurd rfl z | exact absurd z (by decide) | (exfalso; omega))⟩
      · obtain ⟨N1, sp1, f1, w1, a1⟩ := ((sp_readWind hT hN h0 hq hm).2 (by rw [hv]; omega) q2 hq2).1 g2
        obtain ⟨N', hr', hw⟩ := k_ex1 (m := m + 1) (N := N1) (m' := 0) (S := S) (F := F) w1 a1 (by omega)
        refine ⟨N', fun e he P hP hQ => rg_m_winds_14 hP ⟨fun z => absurd z (by decide), fun _ => ⟨_, sp1 e he, ?_⟩⟩, hw.of f1⟩
        have := hr' e he P hP hQ
        simp (disch := omega) only [nl_0, nl_1, nl_2, nl_3, nl_4, nl_5, nl_6, nl_7, nl_8, nl_9, nl_10, nl_11, nl_12, nl_13, nl_14, nl_15, nl_16, nl_17, nl_18, nl_19, nl_20, nl_21, nl_22, nl_23, nl_24, nl_25, nl_26, nl_27, nl_28, nl_31, nl_32, nl_42, nl_44, nl_46, nl_48, nl_49, nl_50, nl_51, nl_60, nl_75, nl_76, nl_99, nl_100, nl_108, nl_114, nl_117, nl_126, nl_255, nl_999, nl_2401, nl_9999, nl_12345, nl_65536, nl_1000000, nl_1103515245, nl_2147483647, iI_0, iI_neg, iI_add, iI_sub, iI_mul, iI_div, iI_mod, iI_lt, iI_le, iI_eq, iI_nat, iI_vp, ld_rd, ld_wl, lu_s, lu_t, lu_c, lu_j, forall_eq, Int.toNat_natCast, true_and, and_true, not_true, not_false_iff, Classical.not_not, forall_const, iI_inj, w1, a1, e1, Int.add_zero]
        refine ⟨fun _ => ⟨?_, fun z => (by first | exact z.elim | exact absurd rfl z | exact absurd z (by decide) | (exfalso; omega))⟩, fun z => (by first | exact z.elim | exact absurd rfl z | exact absurd z (by decide) | (exfalso; omega))⟩
        rw [wl_self a1]
        exact this
    · have hlt2 : q2 < n := by
        by_cases c : q2 < n
        · exact c
        · have : hb n T q2 = 0 := if_neg c
          omega
      have hv2 : hb n T q2 = T q2 := if_pos hlt2
      have h62 := hq2.2.2.2 hlt2
      have g2' : 48 ≤ hb n T q2 ∧ hb n T q2 ≤ 51 := by omega
      obtain ⟨q3, hq3⟩ := SK.ex (n := n) (T := T) (n - (q2 + 1)) (q2 + 1) (by omega)
      have hqn3 := hq3.2.1
      have hqp3 := hq3.1
      have hr3 := hb_r hT q3
      have eq3 : (q3 : Int) + 1 = ((q3 + 1 : Nat) : Int) := by omega
      have hG2 : RG (m + 1) (ups S m (sd (T q))) (ups F m (T q2 - 48)) := hG.up (by omega) (by omega)
      have dig : ∀ M, TC M n T → WD M 25 m S F → ∃ M2, fr [25] M M2 ∧ WD M2 25 (m + 1) (ups S m (sd (T q))) (ups F m (T q2 - 48)) ∧ ∀ o5 x3 r M', (∀ o5, Rn mj_c79 2 12 [some (mj_r (6, 45, 0)), some (mj_r (25, 10, 0)), some (mj_i (iI 2)), some (mj_i (iI (sd (T q)))), some (mj_i (iI (q3 : Int))), o5] M2 r M') → Rn mj_c79 2 12 [some (mj_r (6, 45, 0)), some (mj_r (25, 10, 0)), some (mj_i (iI 0)), some (mj_i x3), some (mj_i (iI (p : Int))), o5] M r M' := fun M hM hW => by
        rw [hv2] at g2'
        obtain ⟨M2, sp2, f2, w2⟩ := sp_wadd (s := sd (T q)) (f := T q2 - 48) hW hm (by omega) (by omega)
        refine ⟨M2, f2, w2, fun o5 x3 r M' hend => lett M o5 x3 _ _ hM hW fun o5 e he P hP hQ => rg_Ta_readInto_12 hP ?_⟩
        have h42 := hM.2 q2 hlt2
        simp (disch := omega) only [nl_0, nl_1, nl_2, nl_3, nl_4, nl_5, nl_6, nl_7, nl_8, nl_9, nl_10, nl_11, nl_12, nl_13, nl_14, nl_15, nl_16, nl_17, nl_18, nl_19, nl_20, nl_21, nl_22, nl_23, nl_24, nl_25, nl_26, nl_27, nl_28, nl_31, nl_32, nl_42, nl_44, nl_46, nl_48, nl_49, nl_50, nl_51, nl_60, nl_75, nl_76, nl_99, nl_100, nl_108, nl_114, nl_117, nl_126, nl_255, nl_999, nl_2401, nl_9999, nl_12345, nl_65536, nl_1000000, nl_1103515245, nl_2147483647, iI_0, iI_neg, iI_add, iI_sub, iI_mul, iI_div, iI_mod, iI_lt, iI_le, iI_eq, iI_nat, iI_vp, ld_rd, ld_wl, lu_s, lu_t, lu_c, lu_j, forall_eq, Int.toNat_natCast, true_and, and_true, not_true, not_false_iff, Classical.not_not, forall_const, iI_inj, hM.1, h42, hW.1]
        refine ⟨fun z => by omega, fun _ => ⟨fun _ => ⟨_, _, sp_can1 (by omega) (by unfold iR; omega), ?_⟩, fun z => absurd z h62⟩⟩
        rw [if_pos (by omega)]
        simp (disch := omega) only [nl_0, nl_1, nl_2, nl_3, nl_4, nl_5, nl_6, nl_7, nl_8, nl_9, nl_10, nl_11, nl_12, nl_13, nl_14, nl_15, nl_16, nl_17, nl_18, nl_19, nl_20, nl_21, nl_22, nl_23, nl_24, nl_25, nl_26, nl_27, nl_28, nl_31, nl_32, nl_42, nl_44, nl_46, nl_48, nl_49, nl_50, nl_51, nl_60, nl_75, nl_76, nl_99, nl_100, nl_108, nl_114, nl_117, nl_126, nl_255, nl_999, nl_2401, nl_9999, nl_12345, nl_65536, nl_1000000, nl_1103515245, nl_2147483647, iI_0, iI_neg, iI_add, iI_sub, iI_mul, iI_div, iI_mod, iI_lt, iI_le, iI_eq, iI_nat, iI_vp, ld_rd, ld_wl, lu_s, lu_t, lu_c, lu_j, forall_eq, Int.toNat_natCast, true_and, and_true, not_true, not_false_iff, Classical.not_not, forall_const, iI_inj, eq2]
        refine ⟨fun _ => ⟨fun _ => ⟨fun z => (by first | exact z.elim | exact absurd rfl z | exact absurd z (by decide) | (exfalso; omega)), M2, sp2 e (by omega), ?_⟩, fun z => (by first | exact z.elim | exact absurd rfl z | exact absurd z (by decide) | (exfalso; omega))⟩, fun z => (by first | exact z.elim | exact absurd rfl z | exact absurd z (by decide) | (exfalso; omega))⟩
        exact k_skip hP hT (hM.fr f2 (by decide)) hq3 (fun o5 => hend o5 e he P hP hQ) _
      have tail : (hb n T q3 ≠ 44 ∨ 12 ≤ m + 1) → ∀ (R : Int) (m' : Nat) (S' F' : Nat → Int), (∀ (N2 : mj_M) (p3 : Nat), TF N2 n T → N2 33 63 0 1 = iI 0 → N2 33 63 0 0 = iI (p3 : Int) → SK n T p3 q3 → RD N2 (m + 1) (ups S m (sd (T q))) (ups F m (T q2 - 48)) → ∃ N', Rn mj_c109 2 14 [some (mj_r (30, 60, 0)), some (mj_i (iI ((m + 1 : Nat) : Int))), some (mj_i (iI 0)), none] N2 (some (mj_i (iI R))) N' ∧ WN N2 N' R m' S' F') → ∀ N, TF N n T → N 33 63 0 0 = iI (p : Int) → RD N m S F → ∃ N', Rn mj_c109 2 14 [some (mj_r (30, 60, 0)), some (mj_i (iI (m : Int))), some (mj_i (iI 1)), none] N (some (mj_i (iI R))) N' ∧ WN N N' R m' S' F' := fun hc R m' S' F' hex N hN h0 hR => by
        obtain ⟨N1, sp1, f1, w1, a1, s1, s2, s3⟩ := ((sp_readWind hT hN h0 hq hm).2 (by rw [hv]; omega) q2 hq2).2 g2'
        rw [hv] at s1
        rw [hv2] at s2
        have hR1 := hR.up s1 s2 s3
        have hN1 : TF N1 n T := hN.fr f1 (by decide)
        by_cases c : 12 ≤ m + 1
        · obtain ⟨N', hr', hw⟩ := hex N1 (q2 + 1) hN1 w1 a1 hq3 hR1
          refine ⟨N', fun e he P hP hQ => rg_m_winds_14 hP ⟨fun z => absurd z (by decide), fun _ => ⟨_, sp1 e he, ?_⟩⟩, hw.of f1⟩
          have := hr' e he P hP hQ
          simp (disch := omega) only [nl_0, nl_1, nl_2, nl_3, nl_4, nl_5, nl_6, nl_7, nl_8, nl_9, nl_10, nl_11, nl_12, nl_13, nl_14, nl_15, nl_16, nl_17, nl_18, nl_19, nl_20, nl_21, nl_22, nl_23, nl_24, nl_25, nl_26, nl_27, nl_28, nl_31, nl_32, nl_42, nl_44, nl_46, nl_48, nl_49, nl_50, nl_51, nl_60, nl_75, nl_76, nl_99, nl_100, nl_108, nl_114, nl_117, nl_126, nl_255, nl_999, nl_2401, nl_9999, nl_12345, nl_65536, nl_1000000, nl_1103515245, nl_2147483647, iI_0, iI_neg, iI_add, iI_sub, iI_mul, iI_div, iI_mod, iI_lt, iI_le, iI_eq, iI_nat, iI_vp, ld_rd, ld_wl, lu_s, lu_t, lu_c, lu_j, forall_eq, Int.toNat_natCast, true_and, and_true, not_true, not_false_iff, Classical.not_not, forall_const, iI_inj, w1, a1, e1, Int.add_zero]
          refine ⟨fun z => (by first | exact z.elim | exact absurd rfl z | exact absurd z (by decide) | (exfalso; omega)), ⟨fun z => ⟨?_, fun z => (by first | exact z.elim | exact absurd rfl z | exact absurd z (by decide) | (exfalso; omega))⟩, fun z => (by first | exact z.elim | exact absurd rfl z | exact absurd z (by decide) | (exfalso; omega))⟩⟩
          rw [wl_self a1]
          exact this
        · have hh : ∀ d, 1 ≤ d → mj_Sp d 106 [mj_r (30, 60, 0)] N1 (some (mj_i (iI (hb n T q3)))) (mj_wl N1 (33, 63, 0, 0) (iI (q3 : Int))) := fun d hd => sp_here hT hN1 a1 hq3 hd
          obtain ⟨N', hr', hw⟩ := hex (mj_wl N1 (33, 63, 0, 0) (iI (q3 : Int))) q3 (hN1.wl (by decide)) (by rw [wl_n (by omega)]; exact w1) wl_s hq3.at (hR1.p fun j => by rw [wl_n (by omega)])
          refine ⟨N', fun e he P hP hQ => rg_m_winds_14 hP ⟨fun z => absurd z (by decide), fun _ => ⟨_, sp1 e he, ?_⟩⟩, hw.of (f1.tr (fr.r0.wl (by decide)))⟩
          have := hr' e he P hP hQ
          simp (disch := omega) only [nl_0, nl_1, nl_2, nl_3, nl_4, nl_5, nl_6, nl_7, nl_8, nl_9, nl_10, nl_11, nl_12, nl_13, nl_14, nl_15, nl_16, nl_17, nl_18, nl_19, nl_20, nl_21, nl_22, nl_23, nl_24, nl_25, nl_26, nl_27, nl_28, nl_31, nl_32, nl_42, nl_44, nl_46, nl_48, nl_49, nl_50, nl_51, nl_60, nl_75, nl_76, nl_99, nl_100, nl_108, nl_114, nl_117, nl_126, nl_255, nl_999, nl_2401, nl_9999, nl_12345, nl_65536, nl_1000000, nl_1103515245, nl_2147483647, iI_0, iI_neg, iI_add, iI_sub, iI_mul, iI_div, iI_mod, iI_lt, iI_le, iI_eq, iI_nat, iI_vp, ld_rd, ld_wl, lu_s, lu_t, lu_c, lu_j, forall_eq, Int.toNat_natCast, true_and, and_true, not_true, not_false_iff, Classical.not_not, forall_const, iI_inj, w1, a1, e1, Int.add_zero]
          refine ⟨fun z => (by first | exact z.elim | exact absurd rfl z | exact absurd z (by decide) | (exfalso; omega)), ⟨fun z => (by first | exact z.elim | exact absurd rfl z | exact absurd z (by decide) | (exfalso; omega)), fun _ => ⟨_, _, hh e (by omega), ?_⟩⟩⟩
          simp (disch := omega) only [nl_0, nl_1, nl_2, nl_3, nl_4, nl_5, nl_6, nl_7, nl_8, nl_9, nl_10, nl_11, nl_12, nl_13, nl_14, nl_15, nl_16, nl_17, nl_18, nl_19, nl_20, nl_21, nl_22, nl_23, nl_24, nl_25, nl_26, nl_27, nl_28, nl_31, nl_32, nl_42, nl_44, nl_46, nl_48, nl_49, nl_50, nl_51, nl_60, nl_75, nl_76, nl_99, nl_100, nl_108, nl_114, nl_117, nl_126, nl_255, nl_999, nl_2401, nl_9999, nl_12345, nl_65536, nl_1000000, nl_1103515245, nl_2147483647, iI_0, iI_neg, iI_add, iI_sub, iI_mul, iI_div, iI_mod, iI_lt, iI_le, iI_eq, iI_nat, iI_vp, ld_rd, ld_wl, lu_s, lu_t, lu_c, lu_j, forall_eq, Int.toNat_natCast, true_and, and_true, not_true, not_false_iff, Classical.not_not, forall_const, iI_inj, wl_s, Int.add_zero, wl_wl]
          exact ⟨fun _ => ⟨this, fun z => (by first | exact z.elim | exact absurd rfl z | exact absurd z (by decide) | (exfalso; omega))⟩, fun z => (by first | exact z.elim | exact absurd rfl z | exact absurd z (by decide) | (exfalso; omega))⟩
      by_cases g3 : q3 < n
      · have hv3 : hb n T q3 = T q3 := if_pos g3
        have h63 := hq3.2.2.2 g3
        by_cases hc : T q3 = 44 ∧ m + 1 < 12
        · obtain ⟨R, m', S', F', hWA, hC, hF⟩ := ih (q3 + 1) (m + 1) _ _ (by omega) (by omega) hc.2 hG2
          refine ⟨R, m', S', F', hWA, fun M o5 x3 hM hW => ?_, fun N hN h0 hR => ?_⟩
          · obtain ⟨M2, f2, w2, hgo⟩ := dig M hM hW
            have hM2 := hM.fr f2 (by decide)
            obtain ⟨M', hr', f', w'⟩ := hC M2 (some (mj_i (iI (T q3)))) (iI (sd (T q))) hM2 w2
            refine ⟨M', hgo o5 x3 _ _ fun o5 e he P hP hQ => rg_Ta_readInto_12 hP ?_, f2.tr f', w'⟩
            have h43 := hM2.2 q3 g3
            rw [hv3] at hr3
            have := hr' e he P hP hQ
            simp (disch := omega) only [nl_0, nl_1, nl_2, nl_3, nl_4, nl_5, nl_6, nl_7, nl_8, nl_9, nl_10, nl_11, nl_12, nl_13, nl_14, nl_15, nl_16, nl_17, nl_18, nl_19, nl_20, nl_21, nl_22, nl_23, nl_24, nl_25, nl_26, nl_27, nl_28, nl_31, nl_32, nl_42, nl_44, nl_46, nl_48, nl_49, nl_50, nl_51, nl_60, nl_75, nl_76, nl_99, nl_100, nl_108, nl_114, nl_117, nl_126, nl_255, nl_999, nl_2401, nl_9999, nl_12345, nl_65536, nl_1000000, nl_1103515245, nl_2147483647, iI_0, iI_neg, iI_add, iI_sub, iI_mul, iI_div, iI_mod, iI_lt, iI_le, iI_eq, iI_nat, iI_vp, ld_rd, ld_wl, lu_s, lu_t, lu_c, lu_j, forall_eq, Int.toNat_natCast, true_and, and_true, not_true, not_false_iff, Classical.not_not, forall_const, iI_inj, hM2.1, h43, w2.1]
            refine ⟨fun z => by omega, fun _ => ⟨fun _ => ⟨_, _, sp_can2 (by omega) (by unfold iR; omega) (by omega), ?_⟩, fun z => absurd z h63⟩⟩
            rw [if_pos hc]
            simp (disch := omega) only [nl_0, nl_1, nl_2, nl_3, nl_4, nl_5, nl_6, nl_7, nl_8, nl_9, nl_10, nl_11, nl_12, nl_13, nl_14, nl_15, nl_16, nl_17, nl_18, nl_19, nl_20, nl_21, nl_22, nl_23, nl_24, nl_25, nl_26, nl_27, nl_28, nl_31, nl_32, nl_42, nl_44, nl_46, nl_48, nl_49, nl_50, nl_51, nl_60, nl_75, nl_76, nl_99, nl_100, nl_108, nl_114, nl_117, nl_126, nl_255, nl_999, nl_2401, nl_9999, nl_12345, nl_65536, nl_1000000, nl_1103515245, nl_2147483647, iI_0, iI_neg, iI_add, iI_sub, iI_mul, iI_div, iI_mod, iI_lt, iI_le, iI_eq, iI_nat, iI_vp, ld_rd, ld_wl, lu_s, lu_t, lu_c, lu_j, forall_eq, Int.toNat_natCast, true_and, and_true, not_true, not_false_iff, Classical.not_not, forall_const, iI_inj, eq3]
            exact ⟨fun _ => ⟨fun _ => ⟨fun _ => this, fun z => (by first | exact z.elim | exact absurd rfl z | exact absurd z (by decide) | (exfalso; omega))⟩, fun z => (by first | exact z.elim | exact absurd rfl z | exact absurd z (by decide) | (exfalso; omega))⟩, fun z => (by first | exact z.elim | exact absurd rfl z | exact absurd z (by decide) | (exfalso; omega))⟩
          · obtain ⟨N1, sp1, f1, w1, a1, s1, s2, s3⟩ := ((sp_readWind hT hN h0 hq hm).2 (by rw [hv]; omega) q2 hq2).2 g2'
            rw [hv] at s1
            rw [hv2] at s2
            have hR1 := hR.up s1 s2 s3
            have hN1 : TF N1 n T := hN.fr f1 (by decide)
            have hh : ∀ d, 1 ≤ d → mj_Sp d 106 [mj_r (30, 60, 0)] N1 (some (mj_i (iI (hb n T q3)))) (mj_wl N1 (33, 63, 0, 0) (iI (q3 : Int))) := fun d hd => sp_here hT hN1 a1 hq3 hd
            rw [hv3, hc.1] at hh
            obtain ⟨N', hr', hw⟩ := hF (mj_wl N1 (33, 63, 0, 0) (iI ((q3 + 1 : Nat) : Int))) (hN1.wl (by decide)) wl_s (hR1.p fun j => by rw [wl_n (by omega)])
            refine ⟨N', fun e he P hP hQ => rg_m_winds_14 hP ⟨fun z => absurd z (by decide), fun _ => ⟨_, sp1 e he, ?_⟩⟩, hw.of (f1.tr (fr.r0.wl (by decide)))⟩
            have := hr' e he P hP hQ
            simp (disch := omega) only [nl_0, nl_1, nl_2, nl_3, nl_4, nl_5, nl_6, nl_7, nl_8, nl_9, nl_10, nl_11, nl_12, nl_13, nl_14, nl_15, nl_16, nl_17, nl_18, nl_19, nl_20, nl_21, nl_22, nl_23, nl_24, nl_25, nl_26, nl_27, nl_28, nl_31, nl_32, nl_42, nl_44, nl_46, nl_48, nl_49, nl_50, nl_51, nl_60, nl_75, nl_76, nl_99, nl_100, nl_108, nl_114, nl_117, nl_126, nl_255, nl_999, nl_2401, nl_9999, nl_12345, nl_65536, nl_1000000, nl_1103515245, nl_2147483647, iI_0, iI_neg, iI_add, iI_sub, iI_mul, iI_div, iI_mod, iI_lt, iI_le, iI_eq, iI_nat, iI_vp, ld_rd, ld_wl, lu_s, lu_t, lu_c, lu_j, forall_eq, Int.toNat_natCast, true_and, and_true, not_true, not_false_iff, Classical.not_not, forall_const, iI_inj, w1, a1, e1, Int.add_zero]
            refine ⟨fun z => (by first | exact z.elim | exact absurd rfl z | exact absurd z (by decide) | (exfalso; omega)), ⟨fun z => (by first | exact z.elim | exact absurd rfl z | exact absurd z (by decide) | (exfalso; omega)), fun _ => ⟨_, _, hh e (by omega), ?_⟩⟩⟩
            simp (disch := omega) only [nl_0, nl_1, nl_2, nl_3, nl_4, nl_5, nl_6, nl_7, nl_8, nl_9, nl_10, nl_11, nl_12, nl_13, nl_14, nl_15, nl_16, nl_17, nl_18, nl_19, nl_20, nl_21, nl_22, nl_23, nl_24, nl_25, nl_26, nl_27, nl_28, nl_31, nl_32, nl_42, nl_44, nl_46, nl_48, nl_49, nl_50, nl_51, nl_60, nl_75, nl_76, nl_99, nl_100, nl_108, nl_114, nl_117, nl_126, nl_255, nl_999, nl_2401, nl_9999, nl_12345, nl_65536, nl_1000000, nl_1103515245, nl_2147483647, iI_0, iI_neg, iI_add, iI_sub, iI_mul, iI_div, iI_mod, iI_lt, iI_le, iI_eq, iI_nat, iI_vp, ld_rd, ld_wl, lu_s, lu_t, lu_c, lu_j, forall_eq, Int.toNat_natCast, true_and, and_true, not_true, not_false_iff, Classical.not_not, forall_const, iI_inj, wl_s, Int.add_zero, wl_wl, eq3]
            exact ⟨fun z => (by first | exact z.elim | exact absurd rfl z | exact absurd z (by decide) | (exfalso; omega)), ⟨fun z => (by first | exact z.elim | exact absurd rfl z | exact absurd z (by decide) | (exfalso; omega)), fun _ => this⟩⟩
        · refine ⟨-20 - (q3 : Int), 0, S, F, ⟨by unfold iR; omega, fun z => by omega⟩, fun M o5 x3 hM hW => ?_, tail ?_ _ _ _ _ fun N2 p3 hN2 w2 a2 hk hR2 => (k_ex2 hT hN2 w2 a2 hk (by omega) (by omega) hR2 hG2).1 g3 _ _ _⟩
          · obtain ⟨M2, f2, w2, hgo⟩ := dig M hM hW
            have hM2 := hM.fr f2 (by decide)
            refine ⟨M2, hgo o5 x3 _ _ fun o5 e he P hP hQ => rg_Ta_readInto_12 hP ?_, f2, fun z => by omega⟩
            have h43 := hM2.2 q3 g3
            rw [hv3] at hr3
            simp (disch := omega) only [nl_0, nl_1, nl_2, nl_3, nl_4, nl_5, nl_6, nl_7, nl_8, nl_9, nl_10, nl_11, nl_12, nl_13, nl_14, nl_15, nl_16, nl_17, nl_18, nl_19, nl_20, nl_21, nl_22, nl_23, nl_24, nl_25, nl_26, nl_27, nl_28, nl_31, nl_32, nl_42, nl_44, nl_46, nl_48, nl_49, nl_50, nl_51, nl_60, nl_75, nl_76, nl_99, nl_100, nl_108, nl_114, nl_117, nl_126, nl_255, nl_999, nl_2401, nl_9999, nl_12345, nl_65536, nl_1000000, nl_1103515245, nl_2147483647, iI_0, iI_neg, iI_add, iI_sub, iI_mul, iI_div, iI_mod, iI_lt, iI_le, iI_eq, iI_nat, iI_vp, ld_rd, ld_wl, lu_s, lu_t, lu_c, lu_j, forall_eq, Int.toNat_natCast, true_and, and_true, not_true, not_false_iff, Classical.not_not, forall_const, iI_inj, hM2.1, h43, w2.1]
            refine ⟨fun z => by omega, fun _ => ⟨fun _ => ⟨_, _, sp_can2 (by omega) (by unfold iR; omega) (by omega), ?_⟩, fun z => absurd z h63⟩⟩
            rw [if_neg hc]
            simp (disch := omega) only [nl_0, nl_1, nl_2, nl_3, nl_4, nl_5, nl_6, nl_7, nl_8, nl_9, nl_10, nl_11, nl_12, nl_13, nl_14, nl_15, nl_16, nl_17, nl_18, nl_19, nl_20, nl_21, nl_22, nl_23, nl_24, nl_25, nl_26, nl_27, nl_28, nl_31, nl_32, nl_42, nl_44, nl_46, nl_48, nl_49, nl_50, nl_51, nl_60, nl_75, nl_76, nl_99, nl_100, nl_108, nl_114, nl_117, nl_126, nl_255, nl_999, nl_2401, nl_9999, nl_12345, nl_65536, nl_1000000, nl_1103515245, nl_2147483647, iI_0, iI_neg, iI_add, iI_sub, iI_mul, iI_div, iI_mod, iI_lt, iI_le, iI_eq, iI_nat, iI_vp, ld_rd, ld_wl, lu_s, lu_t, lu_c, lu_j, forall_eq, Int.toNat_natCast, true_and, and_true, not_true, not_false_iff, Classical.not_not, forall_const, iI_inj]
            exact ⟨fun z => (by first | exact z.elim | exact absurd rfl z | exact absurd z (by decide) | (exfalso; omega)), by (first | exact mj_eq.rf | exact fi_n mj_eq.rf | exact fi_i rfl mj_eq.rf | exact rfl)⟩
          · rw [hv3]
            omega
      · refine ⟨((m + 1 : Nat) : Int), m + 1, _, _, ⟨by unfold iR; omega, fun _ => ⟨rfl, by omega, hG2⟩⟩, fun M o5 x3 hM hW => ?_, tail (Or.inl ?_) _ _ _ _ fun N2 p3 hN2 w2 a2 hk hR2 => (k_ex2 hT hN2 w2 a2 hk (by omega) (by omega) hR2 hG2).2 g3⟩
        · obtain ⟨M2, f2, w2, hgo⟩ := dig M hM hW
          have hM2 := hM.fr f2 (by decide)
          refine ⟨M2, hgo o5 x3 _ _ fun o5 e he P hP hQ => rg_Ta_readInto_12 hP ?_, f2, fun z => w2⟩
          have eqn : q3 = n := by omega
          subst eqn
          simp (disch := omega) only [nl_0, nl_1, nl_2, nl_3, nl_4, nl_5, nl_6, nl_7, nl_8, nl_9, nl_10, nl_11, nl_12, nl_13, nl_14, nl_15, nl_16, nl_17, nl_18, nl_19, nl_20, nl_21, nl_22, nl_23, nl_24, nl_25, nl_26, nl_27, nl_28, nl_31, nl_32, nl_42, nl_44, nl_46, nl_48, nl_49, nl_50, nl_51, nl_60, nl_75, nl_76, nl_99, nl_100, nl_108, nl_114, nl_117, nl_126, nl_255, nl_999, nl_2401, nl_9999, nl_12345, nl_65536, nl_1000000, nl_1103515245, nl_2147483647, iI_0, iI_neg, iI_add, iI_sub, iI_mul, iI_div, iI_mod, iI_lt, iI_le, iI_eq, iI_nat, iI_vp, ld_rd, ld_wl, lu_s, lu_t, lu_c, lu_j, forall_eq, Int.toNat_natCast, true_and, and_true, not_true, not_false_iff, Classical.not_not, forall_const, iI_inj, hM2.1, w2.1]
          exact ⟨fun _ => ⟨fun z => (by first | exact z.elim | exact absurd rfl z | exact absurd z (by decide) | (exfalso; omega)), by (first | exact mj_eq.rf | exact fi_n mj_eq.rf | exact fi_i rfl mj_eq.rf | exact rfl)⟩, fun z => (by first | exact z.elim | exact absurd rfl z | exact absurd z (by decide) | (exfalso; omega))⟩
        · rw [show hb n T q3 = 0 from if_neg g3]
          decide
theorem wr_run {n : Nat} {T : Nat → Int} (hT : TI n T) : ∀ r p m S F, n ≤ p + r → p ≤ n → m < 12 → RG m S F → WR n T p m S F
  | 0, p, m, S, F, h1, h2, h3, h4 => wr_step hT h2 h3 h4 (fun p' m' S' F' g1 g2 => by omega)
  | r + 1, p, m, S, F, h1, h2, h3, h4 => wr_step hT h2 h3 h4 (fun p' m' S' F' g1 g2 g3 g4 => wr_run hT r p' m' S' F' (by omega) g2 g3 g4)
/-- winds told, on both sides -/
theorem k_winds {n : Nat} {T : Nat → Int} (hT : TI n T) : ∃ R m' S' F', WA R m' S' F' ∧ (∀ M, TC M n T → ∃ M', (∀ d, 5 ≤ d → mj_Sp d 11 [mj_r (13, 50, 0)] M (some (mj_i (iI R))) M') ∧ fr [6, 20, 25] M M' ∧ M' 6 45 0 0 = iI 0 ∧ (0 < R → WD M' 20 m' S' F') ∧ (¬ 0 < R → M' 20 = M 20)) ∧ (∀ N, TF N n T → ∃ N', (∀ d, 5 ≤ d → mj_Sp d 109 [mj_r (30, 60, 0)] N (some (mj_i (iI R))) N') ∧ WN N N' R m' S' F') := by
  have h00 : RG 0 (fun _ => 0) (fun _ => 0) := fun j hj => absurd hj (by omega)
  obtain ⟨R, m', S', F', hWA, hC, hF⟩ := wr_run hT n 0 0 (fun _ => 0) (fun _ => 0) (by omega) (by omega) (by omega) h00
  have hR := hWA.1
  refine ⟨R, m', S', F', hWA, fun M hM => ?_, fun N hN => ?_⟩
  · have f0 : fr [25] M (mj_wl M (25, 10, 0, 0) (iI 0)) := fr.r0.wl (by decide)
    obtain ⟨M', hr', f', w'⟩ := hC (mj_wl M (25, 10, 0, 0) (iI 0)) none (iI 0) (hM.fr f0 (by decide)) ⟨wl_s, by omega, fun j hj => absurd hj (by omega)⟩
    have f1 : fr [25] M M' := f0.tr f'
    have sp1 : ∀ d, 4 ≤ d → mj_Sp d 79 [mj_r (6, 45, 0), mj_r (25, 10, 0)] M (some (mj_i (iI R))) M' := fun d hd => en_Ta_readInto (k := 3) hd fun e he P hP hQ => rg_Ta_readInto_0 hP (by
      have := hr' e (by omega) P hP hQ
      simp (disch := omega) only [nl_0, nl_1, nl_2, nl_3, nl_4, nl_5, nl_6, nl_7, nl_8, nl_9, nl_10, nl_11, nl_12, nl_13, nl_14, nl_15, nl_16, nl_17, nl_18, nl_19, nl_20, nl_21, nl_22, nl_23, nl_24, nl_25, nl_26, nl_27, nl_28, nl_31, nl_32, nl_42, nl_44, nl_46, nl_48, nl_49, nl_50, nl_51, nl_60, nl_75, nl_76, nl_99, nl_100, nl_108, nl_114, nl_117, nl_126, nl_255, nl_999, nl_2401, nl_9999, nl_12345, nl_65536, nl_1000000, nl_1103515245, nl_2147483647, iI_0, iI_neg, iI_add, iI_sub, iI_mul, iI_div, iI_mod, iI_lt, iI_le, iI_eq, iI_nat, iI_vp, ld_rd, ld_wl, lu_s, lu_t, lu_c, lu_j, forall_eq, Int.toNat_natCast, true_and, and_true, not_true, not_false_iff, Classical.not_not, forall_const, iI_inj]
      exact this)
    by_cases g : 0 < R
    · refine ⟨wcp (mj_wl M' (6, 45, 0, 0) (iI 0)) 25 20, fun d hd => en_C_winds (k := 4) hd fun e he P hP hQ => rg_C_winds_0 hP ⟨_, _, sp1 e he, ?_⟩, ?_, ?_, fun _ => ?_, fun z => absurd g z⟩
      · unfold iR at hR
        simp (disch := omega) only [nl_0, nl_1, nl_2, nl_3, nl_4, nl_5, nl_6, nl_7, nl_8, nl_9, nl_10, nl_11, nl_12, nl_13, nl_14, nl_15, nl_16, nl_17, nl_18, nl_19, nl_20, nl_21, nl_22, nl_23, nl_24, nl_25, nl_26, nl_27, nl_28, nl_31, nl_32, nl_42, nl_44, nl_46, nl_48, nl_49, nl_50, nl_51, nl_60, nl_75, nl_76, nl_99, nl_100, nl_108, nl_114, nl_117, nl_126, nl_255, nl_999, nl_2401, nl_9999, nl_12345, nl_65536, nl_1000000, nl_1103515245, nl_2147483647, iI_0, iI_neg, iI_add, iI_sub, iI_mul, iI_div, iI_mod, iI_lt, iI_le, iI_eq, iI_nat, iI_vp, ld_rd, ld_wl, lu_s, lu_t, lu_c, lu_j, forall_eq, Int.toNat_natCast, true_and, and_true, not_true, not_false_iff, Classical.not_not, forall_const, iI_inj]
        exact ⟨fun z => by omega, fun _ => ⟨_, sp_wtake (p := 20) (by omega) (by omega), by (first | exact mj_eq.rf | exact fi_n mj_eq.rf | exact fi_i rfl mj_eq.rf | exact rfl)⟩⟩
      · exact ((f1.one (by decide)).wl (by decide)).tr (fun i hi => wcp_ne (fun e => hi (by rw [e]; decide)))
      · rw [wcp_ne (by omega), wl_s]
      · exact WD.cp ((w' g).wl (by decide))
    · refine ⟨mj_wl M' (6, 45, 0, 0) (iI 0), fun d hd => en_C_winds (k := 4) hd fun e he P hP hQ => rg_C_winds_0 hP ⟨_, _, sp1 e he, ?_⟩, (f1.one (by decide)).wl (by decide), wl_s, fun z => absurd z g, fun _ => ?_⟩
      · unfold iR at hR
        simp (disch := omega) only [nl_0, nl_1, nl_2, nl_3, nl_4, nl_5, nl_6, nl_7, nl_8, nl_9, nl_10, nl_11, nl_12, nl_13, nl_14, nl_15, nl_16, nl_17, nl_18, nl_19, nl_20, nl_21, nl_22, nl_23, nl_24, nl_25, nl_26, nl_27, nl_28, nl_31, nl_32, nl_42, nl_44, nl_46, nl_48, nl_49, nl_50, nl_51, nl_60, nl_75, nl_76, nl_99, nl_100, nl_108, nl_114, nl_117, nl_126, nl_255, nl_999, nl_2401, nl_9999, nl_12345, nl_65536, nl_1000000, nl_1103515245, nl_2147483647, iI_0, iI_neg, iI_add, iI_sub, iI_mul, iI_div, iI_mod, iI_lt, iI_le, iI_eq, iI_nat, iI_vp, ld_rd, ld_wl, lu_s, lu_t, lu_c, lu_j, forall_eq, Int.toNat_natCast, true_and, and_true, not_true, not_false_iff, Classical.not_not, forall_const, iI_inj]
        exact ⟨fun z => by (first | exact mj_eq.rf | exact fi_n mj_eq.rf | exact fi_i rfl mj_eq.rf | exact rfl), fun z => by omega⟩
      · rw [wl_p (by omega)]
        exact f1 20 (by decide)
  · have f0 : fr [33] N (mj_wl (mj_wl N (33, 63, 0, 0) (iI 0)) (33, 63, 0, 1) (iI 0)) := (fr.r0.wl (by decide)).wl (by decide)
    obtain ⟨N', hr', hw⟩ := hF (mj_wl (mj_wl N (33, 63, 0, 0) (iI 0)) (33, 63, 0, 1) (iI 0)) (hN.fr f0 (by decide)) (by rw [wl_n (by omega), wl_s]; rfl) (fun j hj => absurd hj (by omega))
    refine ⟨N', fun d hd => en_m_winds (k := 4) hd fun e he P hP hQ => rg_m_winds_0 hP ?_, hw.of f0⟩
    have := hr' e (by omega) P hP hQ
    simp (disch := omega) only [nl_0, nl_1, nl_2, nl_3, nl_4, nl_5, nl_6, nl_7, nl_8, nl_9, nl_10, nl_11, nl_12, nl_13, nl_14, nl_15, nl_16, nl_17, nl_18, nl_19, nl_20, nl_21, nl_22, nl_23, nl_24, nl_25, nl_26, nl_27, nl_28, nl_31, nl_32, nl_42, nl_44, nl_46, nl_48, nl_49, nl_50, nl_51, nl_60, nl_75, nl_76, nl_99, nl_100, nl_108, nl_114, nl_117, nl_126, nl_255, nl_999, nl_2401, nl_9999, nl_12345, nl_65536, nl_1000000, nl_1103515245, nl_2147483647, iI_0, iI_neg, iI_add, iI_sub, iI_mul, iI_div, iI_mod, iI_lt, iI_le, iI_eq, iI_nat, iI_vp, ld_rd, ld_wl, lu_s, lu_t, lu_c, lu_j, forall_eq, Int.toNat_natCast, true_and, and_true, not_true, not_false_iff, Classical.not_not, forall_const, iI_inj]
    exact this
