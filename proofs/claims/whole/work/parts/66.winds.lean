/-! contracts: winds read from the tape -/
def sd (x : Int) : Int := if x = 117 then 0 else if x = 108 then 1 else if x = 114 then 2 else if x = 100 then 3 else -1
theorem sd_r (x : Int) : -1 ≤ sd x ∧ sd x ≤ 3 := by
  unfold sd
  repeat' split
  all_goals omega
def ups (S : Nat → Int) (m : Nat) (x : Int) : Nat → Int := fun j => if j = m then x else S j
theorem sp_side {d : Nat} (hd : 1 ≤ d) {x : Int} {M : mj_M} (hx : iR x) : mj_Sp d 81 [mj_i (iI x)] M (some (mj_i (iI (sd x)))) M := by
  unfold iR at hx
  refine en_Ta_sideOf (k := 0) hd fun e he P hP hQ => rg_Ta_sideOf_0 hP ?_
  simp (disch := omega) only [nl_0, nl_1, nl_2, nl_3, nl_4, nl_5, nl_6, nl_7, nl_8, nl_9, nl_10, nl_11, nl_12, nl_13, nl_14, nl_15, nl_16, nl_17, nl_18, nl_19, nl_20, nl_21, nl_22, nl_23, nl_24, nl_25, nl_26, nl_27, nl_28, nl_31, nl_32, nl_42, nl_44, nl_46, nl_48, nl_49, nl_50, nl_51, nl_60, nl_75, nl_76, nl_99, nl_100, nl_108, nl_114, nl_117, nl_126, nl_255, nl_999, nl_2401, nl_9999, nl_12345, nl_65536, nl_1000000, nl_1103515245, nl_2147483647, iI_0, iI_neg, iI_add, iI_sub, iI_mul, iI_div, iI_mod, iI_lt, iI_le, iI_eq, iI_nat, iI_vp, ld_rd, ld_wl, lu_s, lu_t, lu_c, lu_j, forall_eq, Int.toNat_natCast, true_and, and_true, not_true, not_false_iff, Classical.not_not, forall_const, iI_inj]
  refine ⟨fun z => ?_, fun z => ⟨fun z2 => ?_, fun z2 => ⟨fun z3 => ?_, fun z3 => ⟨fun z4 => ?_, fun z4 => ?_⟩⟩⟩⟩
  · rw [show sd x = 3 from by subst z; rfl]; (first | exact mj_eq.rf | exact fi_n mj_eq.rf | exact fi_i rfl mj_eq.rf | exact rfl)
  · rw [show sd x = 1 from by subst z2; rfl]; (first | exact mj_eq.rf | exact fi_n mj_eq.rf | exact fi_i rfl mj_eq.rf | exact rfl)
  · rw [show sd x = 2 from by subst z3; rfl]; (first | exact mj_eq.rf | exact fi_n mj_eq.rf | exact fi_i rfl mj_eq.rf | exact rfl)
  · rw [show sd x = 0 from by subst z4; rfl]; (first | exact mj_eq.rf | exact fi_n mj_eq.rf | exact fi_i rfl mj_eq.rf | exact rfl)
  · rw [show sd x = -1 from by unfold sd; rw [if_neg z4, if_neg z2, if_neg z3, if_neg z]]; (first | exact mj_eq.rf | exact fi_n mj_eq.rf | exact fi_i rfl mj_eq.rf | exact rfl)
theorem sp_mside {d : Nat} (hd : 1 ≤ d) {x : Int} {M : mj_M} (hx : iR x) : mj_Sp d 107 [mj_i (iI x)] M (some (mj_i (iI (if sd x < 0 then -4 else sd x)))) M := by
  unfold iR at hx
  refine en_m_sideOf (k := 0) hd fun e he P hP hQ => rg_m_sideOf_0 hP ?_
  simp (disch := omega) only [nl_0, nl_1, nl_2, nl_3, nl_4, nl_5, nl_6, nl_7, nl_8, nl_9, nl_10, nl_11, nl_12, nl_13, nl_14, nl_15, nl_16, nl_17, nl_18, nl_19, nl_20, nl_21, nl_22, nl_23, nl_24, nl_25, nl_26, nl_27, nl_28, nl_31, nl_32, nl_42, nl_44, nl_46, nl_48, nl_49, nl_50, nl_51, nl_60, nl_75, nl_76, nl_99, nl_100, nl_108, nl_114, nl_117, nl_126, nl_255, nl_999, nl_2401, nl_9999, nl_12345, nl_65536, nl_1000000, nl_1103515245, nl_2147483647, iI_0, iI_neg, iI_add, iI_sub, iI_mul, iI_div, iI_mod, iI_lt, iI_le, iI_eq, iI_nat, iI_vp, ld_rd, ld_wl, lu_s, lu_t, lu_c, lu_j, forall_eq, Int.toNat_natCast, true_and, and_true, not_true, not_false_iff, Classical.not_not, forall_const, iI_inj]
  refine ⟨fun z => ⟨fun z2 => ⟨fun z3 => ⟨fun z4 => ?_, fun z4 => ?_⟩, fun z3 => ?_⟩, fun z2 => ?_⟩, fun z => ?_⟩
  · rw [show sd x = -1 from by unfold sd; rw [if_neg z, if_neg z2, if_neg z3, if_neg z4], if_pos (by decide)]; (first | exact mj_eq.rf | exact fi_n mj_eq.rf | exact fi_i rfl mj_eq.rf | exact rfl)
  · rw [show sd x = 3 from by subst z4; rfl, if_neg (by decide)]; (first | exact mj_eq.rf | exact fi_n mj_eq.rf | exact fi_i rfl mj_eq.rf | exact rfl)
  · rw [show sd x = 2 from by subst z3; rfl, if_neg (by decide)]; (first | exact mj_eq.rf | exact fi_n mj_eq.rf | exact fi_i rfl mj_eq.rf | exact rfl)
  · rw [show sd x = 1 from by subst z2; rfl, if_neg (by decide)]; (first | exact mj_eq.rf | exact fi_n mj_eq.rf | exact fi_i rfl mj_eq.rf | exact rfl)
  · rw [show sd x = 0 from by subst z; rfl, if_neg (by decide)]; (first | exact mj_eq.rf | exact fi_n mj_eq.rf | exact fi_i rfl mj_eq.rf | exact rfl)
/-- the place of the first sign that is no blank, or the end -/
def SK (n : Nat) (T : Nat → Int) (p q : Nat) : Prop := p ≤ q ∧ q ≤ n ∧ (∀ j, p ≤ j → j < q → T j = 32) ∧ (q < n → T q ≠ 32)
theorem SK.ex {n : Nat} {T : Nat → Int} : ∀ r p, p + r = n → ∃ q, SK n T p q
  | 0, p, h => ⟨p, Nat.le_refl _, by omega, fun j h1 h2 => absurd h1 (by omega), fun h1 => absurd h1 (by omega)⟩
  | r + 1, p, h => by
    by_cases g : T p = 32
    · obtain ⟨q, h1, h2, h3, h4⟩ := SK.ex (n := n) (T := T) r (p + 1) (by omega)
      refine ⟨q, by omega, h2, fun j h5 h6 => ?_, h4⟩
      by_cases e : j = p
      · rw [e]; exact g
      · exact h3 j (by omega) h6
    · exact ⟨p, Nat.le_refl _, by omega, fun j h1 h2 => absurd h1 (by omega), fun _ => g⟩
theorem SK.at {n : Nat} {T : Nat → Int} {p q : Nat} (h : SK n T p q) : SK n T q q := ⟨Nat.le_refl _, h.2.1, fun j h1 h2 => absurd h1 (by omega), h.2.2.2⟩
/-- the sign there, or none -/
def hb (n : Nat) (T : Nat → Int) (q : Nat) : Int := if q < n then T q else 0
theorem hb_r {n : Nat} {T : Nat → Int} (h : TI n T) (q : Nat) : 0 ≤ hb n T q ∧ hb n T q ≤ 126 := by
  unfold hb
  split
  · have := h.2 q (by omega)
    omega
  · omega
theorem wl_self {N : mj_M} {p t c j : Nat} {v : Int32} (h : N p t c j = v) : mj_wl N (p, t, c, j) v = N := by
  funext p' t' c' j'
  by_cases g : p' ≠ p ∨ t' ≠ t ∨ c' ≠ c ∨ j' ≠ j
  · exact wl_n g
  · have h1 : p' = p := by omega
    have h2 : t' = t := by omega
    have h3 : c' = c := by omega
    have h4 : j' = j := by omega
    rw [h1, h2, h3, h4, wl_s, h]
theorem wl_wl {N : mj_M} {p t c j : Nat} {v w : Int32} : mj_wl (mj_wl N (p, t, c, j) v) (p, t, c, j) w = mj_wl N (p, t, c, j) w := by
  funext p' t' c' j'
  by_cases g : p' ≠ p ∨ t' ≠ t ∨ c' ≠ c ∨ j' ≠ j
  · rw [wl_n g, wl_n g, wl_n g]
  · have h1 : p' = p := by omega
    have h2 : t' = t := by omega
    have h3 : c' = c := by omega
    have h4 : j' = j := by omega
    rw [h1, h2, h3, h4, wl_s, wl_s]
theorem TF.wl {N : mj_M} {n : Nat} {T : Nat → Int} (h : TF N n T) {p t c j : Nat} {v : Int32} (hp : p ≠ 32) : TF (mj_wl N (p, t, c, j) v) n T := by
  unfold TF
  rw [wl_p (fun e => hp e.symm)]
  exact h
theorem sp_here {n p q : Nat} {T : Nat → Int} {N : mj_M} (hT : TI n T) (h : TF N n T) (hp : N 33 63 0 0 = iI (p : Int)) (hq : SK n T p q) {d : Nat} (hd : 1 ≤ d) : mj_Sp d 106 [mj_r (30, 60, 0)] N (some (mj_i (iI (hb n T q)))) (mj_wl N (33, 63, 0, 0) (iI (q : Int))) := by
  have hn := hT.1
  refine en_m_here (k := 0) hd fun e he P hP hQ => ?_
  have h2 := lp_dn (Q := fun v => p ≤ v → P 0 [some (mj_r (30, 60, 0))] [] (mj_wl N (33, 63, 0, 0) (iI (v : Int)))) (n := q) (fun _ => ?_) (fun v hv ih hpv => ?_) p hq.1 (Nat.le_refl _)
  · rw [wl_self hp] at h2
    exact h2
  · refine rg_m_here_0 hP ?_
    have h1 : mj_wl N (33, 63, 0, 0) (iI (q : Int)) 32 63 0 0 = iI (n : Int) := (h.wl (by decide)).1
    have h3 := hq.2.1
    unfold hb
    simp (disch := omega) only [nl_0, nl_1, nl_2, nl_3, nl_4, nl_5, nl_6, nl_7, nl_8, nl_9, nl_10, nl_11, nl_12, nl_13, nl_14, nl_15, nl_16, nl_17, nl_18, nl_19, nl_20, nl_21, nl_22, nl_23, nl_24, nl_25, nl_26, nl_27, nl_28, nl_31, nl_32, nl_42, nl_44, nl_46, nl_48, nl_49, nl_50, nl_51, nl_60, nl_75, nl_76, nl_99, nl_100, nl_108, nl_114, nl_117, nl_126, nl_255, nl_999, nl_2401, nl_9999, nl_12345, nl_65536, nl_1000000, nl_1103515245, nl_2147483647, iI_0, iI_neg, iI_add, iI_sub, iI_mul, iI_div, iI_mod, iI_lt, iI_le, iI_eq, iI_nat, iI_vp, ld_rd, ld_wl, lu_s, lu_t, lu_c, lu_j, forall_eq, Int.toNat_natCast, true_and, and_true, not_true, not_false_iff, Classical.not_not, forall_const, iI_inj, h1, wl_s]
    refine ⟨fun z => ⟨fun _ => ?_, fun z2 => absurd z z2⟩, fun z => ?_⟩
    · rw [if_neg (by omega)]
      (first | exact mj_eq.rf | exact fi_n mj_eq.rf | exact fi_i rfl mj_eq.rf | exact rfl)
    · have hqn : q < n := by omega
      have h4 : mj_wl N (33, 63, 0, 0) (iI (q : Int)) 32 64 0 q = iI (T q) := (h.wl (by decide)).2 q hqn
      have h5 := hT.2 q hqn
      have h6 := hq.2.2.2 hqn
      rw [if_pos hqn]
      simp (disch := omega) only [nl_0, nl_1, nl_2, nl_3, nl_4, nl_5, nl_6, nl_7, nl_8, nl_9, nl_10, nl_11, nl_12, nl_13, nl_14, nl_15, nl_16, nl_17, nl_18, nl_19, nl_20, nl_21, nl_22, nl_23, nl_24, nl_25, nl_26, nl_27, nl_28, nl_31, nl_32, nl_42, nl_44, nl_46, nl_48, nl_49, nl_50, nl_51, nl_60, nl_75, nl_76, nl_99, nl_100, nl_108, nl_114, nl_117, nl_126, nl_255, nl_999, nl_2401, nl_9999, nl_12345, nl_65536, nl_1000000, nl_1103515245, nl_2147483647, iI_0, iI_neg, iI_add, iI_sub, iI_mul, iI_div, iI_mod, iI_lt, iI_le, iI_eq, iI_nat, iI_vp, ld_rd, ld_wl, lu_s, lu_t, lu_c, lu_j, forall_eq, Int.toNat_natCast, true_and, and_true, not_true, not_false_iff, Classical.not_not, forall_const, iI_inj, h4]
      refine ⟨fun _ => ⟨fun z2 => absurd z2 z, fun _ => by (first | exact mj_eq.rf | exact fi_n mj_eq.rf | exact fi_i rfl mj_eq.rf | exact rfl)⟩, fun z2 => absurd z2 h6⟩
  · refine rg_m_here_0 hP ?_
    have h1 : mj_wl N (33, 63, 0, 0) (iI (v : Int)) 32 63 0 0 = iI (n : Int) := (h.wl (by decide)).1
    have h3 := hq.2.1
    have h4 : mj_wl N (33, 63, 0, 0) (iI (v : Int)) 32 64 0 v = iI (T v) := (h.wl (by decide)).2 v (by omega)
    have h5 := hq.2.2.1 v hpv hv
    rw [h5] at h4
    simp (disch := omega) only [nl_0, nl_1, nl_2, nl_3, nl_4, nl_5, nl_6, nl_7, nl_8, nl_9, nl_10, nl_11, nl_12, nl_13, nl_14, nl_15, nl_16, nl_17, nl_18, nl_19, nl_20, nl_21, nl_22, nl_23, nl_24, nl_25, nl_26, nl_27, nl_28, nl_31, nl_32, nl_42, nl_44, nl_46, nl_48, nl_49, nl_50, nl_51, nl_60, nl_75, nl_76, nl_99, nl_100, nl_108, nl_114, nl_117, nl_126, nl_255, nl_999, nl_2401, nl_9999, nl_12345, nl_65536, nl_1000000, nl_1103515245, nl_2147483647, iI_0, iI_neg, iI_add, iI_sub, iI_mul, iI_div, iI_mod, iI_lt, iI_le, iI_eq, iI_nat, iI_vp, ld_rd, ld_wl, lu_s, lu_t, lu_c, lu_j, forall_eq, Int.toNat_natCast, true_and, and_true, not_true, not_false_iff, Classical.not_not, forall_const, iI_inj, h1, h4, wl_s]
    refine ⟨fun z => by omega, fun _ => ?_⟩
    rw [wl_wl]
    exact ⟨fun z => z.elim, ih (by omega)⟩
theorem sp_readWind {n p q m : Nat} {T : Nat → Int} {N : mj_M} (hT : TI n T) (h : TF N n T) (hp : N 33 63 0 0 = iI (p : Int)) (hq : SK n T p q) (hm : m < 12) :
    (sd (hb n T q) < 0 → ∃ N', (∀ d, 2 ≤ d → mj_Sp d 108 [mj_r (30, 60, 0), mj_i (iI (m : Int))] N none N') ∧ fr [33] N N' ∧ N' 33 63 0 1 = iI 1 ∧ N' 33 63 0 0 = iI (q : Int)) ∧
    (0 ≤ sd (hb n T q) → ∀ q2, SK n T (q + 1) q2 → ((hb n T q2 < 48 ∨ 51 < hb n T q2) → ∃ N', (∀ d, 2 ≤ d → mj_Sp d 108 [mj_r (30, 60, 0), mj_i (iI (m : Int))] N none N') ∧ fr [33] N N' ∧ N' 33 63 0 1 = iI 1 ∧ N' 33 63 0 0 = iI (q2 : Int)) ∧
      (48 ≤ hb n T q2 ∧ hb n T q2 ≤ 51 → ∃ N', (∀ d, 2 ≤ d → mj_Sp d 108 [mj_r (30, 60, 0), mj_i (iI (m : Int))] N none N') ∧ fr [33] N N' ∧ N' 33 63 0 1 = iI 0 ∧ N' 33 63 0 0 = iI ((q2 + 1 : Nat) : Int) ∧ N' 33 65 0 (2 * m) = iI (sd (hb n T q)) ∧ N' 33 65 0 (2 * m + 1) = iI (hb n T q2 - 48) ∧ ∀ j, j < 2 * m → N' 33 65 0 j = N 33 65 0 j)) := by
  have hn := hT.1
  have hqn := hq.2.1
  have hr := hb_r hT q
  have hsr := sd_r (hb n T q)
  have e2m : (2 : Int) * (m : Int) = ((2 * m : Nat) : Int) := by omega
  have e2m1 : ((2 * m : Nat) : Int) + 1 = ((2 * m + 1 : Nat) : Int) := by omega
  have eq1 : (q : Int) + 1 = ((q + 1 : Nat) : Int) := by omega
  refine ⟨fun g => ?_, fun g q2 hq2 => ⟨fun g2 => ?_, fun g2 => ?_⟩⟩
  · refine ⟨mj_wl (mj_wl (mj_wl (mj_wl N (33, 63, 0, 0) (iI (q : Int))) (33, 65, 0, 2 * m) (iI (-4))) (33, 63, 0, 1) (iI 1)) (33, 63, 0, 0) (iI (q : Int)), fun d hd => ?_, (((fr.r0.wl (by decide)).wl (by decide)).wl (by decide)).wl (by decide), ?_, wl_s⟩
    · refine en_m_readWind (k := 1) hd fun e he P hP hQ => rg_m_readWind_0 hP ⟨_, _, sp_here hT h hp hq (by omega), _, _, sp_mside (by omega) (by unfold iR; omega), ?_⟩
      rw [if_pos g]
      simp (disch := omega) only [nl_0, nl_1, nl_2, nl_3, nl_4, nl_5, nl_6, nl_7, nl_8, nl_9, nl_10, nl_11, nl_12, nl_13, nl_14, nl_15, nl_16, nl_17, nl_18, nl_19, nl_20, nl_21, nl_22, nl_23, nl_24, nl_25, nl_26, nl_27, nl_28, nl_31, nl_32, nl_42, nl_44, nl_46, nl_48, nl_49, nl_50, nl_51, nl_60, nl_75, nl_76, nl_99, nl_100, nl_108, nl_114, nl_117, nl_126, nl_255, nl_999, nl_2401, nl_9999, nl_12345, nl_65536, nl_1000000, nl_1103515245, nl_2147483647, iI_0, iI_neg, iI_add, iI_sub, iI_mul, iI_div, iI_mod, iI_lt, iI_le, iI_eq, iI_nat, iI_vp, ld_rd, ld_wl, lu_s, lu_t, lu_c, lu_j, forall_eq, Int.toNat_natCast, true_and, and_true, not_true, not_false_iff, Classical.not_not, forall_const, iI_inj, e2m, e2m1, wl_s, wl_n, Int.add_zero]
      exact ⟨fun z => absurd z (by decide), fun _ => ⟨fun z => absurd z (by decide), fun _ => ⟨fun _ => by (first | exact mj_eq.rf | exact fi_n mj_eq.rf | exact fi_i rfl mj_eq.rf | exact rfl), fun z => absurd z (by decide)⟩⟩⟩
    · rw [wl_n (by omega), wl_s]
  · have hr2 := hb_r hT q2
    have hqn2 := hq2.2.1
    have hlt : q < n := by
      have := hq2.1
      omega
    refine ⟨mj_wl (mj_wl (mj_wl (mj_wl (mj_wl (mj_wl (mj_wl (mj_wl N (33, 63, 0, 0) (iI (q : Int))) (33, 65, 0, 2 * m) (iI (sd (hb n T q)))) (33, 63, 0, 1) (iI 0)) (33, 63, 0, 0) (iI ((q + 1 : Nat) : Int))) (33, 63, 0, 0) (iI (q2 : Int))) (33, 65, 0, 2 * m + 1) (iI (hb n T q2 - 48))) (33, 63, 0, 1) (iI 1)) (33, 63, 0, 0) (iI (q2 : Int)), fun d hd => ?_, (((((((fr.r0.wl (by decide)).wl (by decide)).wl (by decide)).wl (by decide)).wl (by decide)).wl (by decide)).wl (by decide)).wl (by decide), ?_, wl_s⟩
    · refine en_m_readWind (k := 1) hd fun e he P hP hQ => rg_m_readWind_0 hP ⟨_, _, sp_here hT h hp hq (by omega), _, _, sp_mside (by omega) (by unfold iR; omega), ?_⟩
      rw [if_neg (by omega)]
      simp (disch := omega) only [nl_0, nl_1, nl_2, nl_3, nl_4, nl_5, nl_6, nl_7, nl_8, nl_9, nl_10, nl_11, nl_12, nl_13, nl_14, nl_15, nl_16, nl_17, nl_18, nl_19, nl_20, nl_21, nl_22, nl_23, nl_24, nl_25, nl_26, nl_27, nl_28, nl_31, nl_32, nl_42, nl_44, nl_46, nl_48, nl_49, nl_50, nl_51, nl_60, nl_75, nl_76, nl_99, nl_100, nl_108, nl_114, nl_117, nl_126, nl_255, nl_999, nl_2401, nl_9999, nl_12345, nl_65536, nl_1000000, nl_1103515245, nl_2147483647, iI_0, iI_neg, iI_add, iI_sub, iI_mul, iI_div, iI_mod, iI_lt, iI_le, iI_eq, iI_nat, iI_vp, ld_rd, ld_wl, lu_s, lu_t, lu_c, lu_j, forall_eq, Int.toNat_natCast, true_and, and_true, not_true, not_false_iff, Classical.not_not, forall_const, iI_inj, e2m, e2m1, eq1, wl_s, wl_n, Int.add_zero]
      refine ⟨fun _ => ⟨⟨fun z => z.elim, _, _, sp_here hT ((((h.wl (by decide)).wl (by decide)).wl (by decide)).wl (by decide)) wl_s hq2 (by omega), ?_⟩, fun z => z.elim⟩, fun z => absurd g z⟩
      simp (disch := omega) only [nl_0, nl_1, nl_2, nl_3, nl_4, nl_5, nl_6, nl_7, nl_8, nl_9, nl_10, nl_11, nl_12, nl_13, nl_14, nl_15, nl_16, nl_17, nl_18, nl_19, nl_20, nl_21, nl_22, nl_23, nl_24, nl_25, nl_26, nl_27, nl_28, nl_31, nl_32, nl_42, nl_44, nl_46, nl_48, nl_49, nl_50, nl_51, nl_60, nl_75, nl_76, nl_99, nl_100, nl_108, nl_114, nl_117, nl_126, nl_255, nl_999, nl_2401, nl_9999, nl_12345, nl_65536, nl_1000000, nl_1103515245, nl_2147483647, iI_0, iI_neg, iI_add, iI_sub, iI_mul, iI_div, iI_mod, iI_lt, iI_le, iI_eq, iI_nat, iI_vp, ld_rd, ld_wl, lu_s, lu_t, lu_c, lu_j, forall_eq, Int.toNat_natCast, true_and, and_true, not_true, not_false_iff, Classical.not_not, forall_const, iI_inj, lI_iI, ll_0, ll_3, e2m1, wl_s, wl_n]
      refine bo1 (sp_mI (by omega) (by omega) (by omega) (by omega)) (fun c => by omega) (fun c => ?_)
      simp (disch := omega) only [nl_0, nl_1, nl_2, nl_3, nl_4, nl_5, nl_6, nl_7, nl_8, nl_9, nl_10, nl_11, nl_12, nl_13, nl_14, nl_15, nl_16, nl_17, nl_18, nl_19, nl_20, nl_21, nl_22, nl_23, nl_24, nl_25, nl_26, nl_27, nl_28, nl_31, nl_32, nl_42, nl_44, nl_46, nl_48, nl_49, nl_50, nl_51, nl_60, nl_75, nl_76, nl_99, nl_100, nl_108, nl_114, nl_117, nl_126, nl_255, nl_999, nl_2401, nl_9999, nl_12345, nl_65536, nl_1000000, nl_1103515245, nl_2147483647, iI_0, iI_neg, iI_add, iI_sub, iI_mul, iI_div, iI_mod, iI_lt, iI_le, iI_eq, iI_nat, iI_vp, ld_rd, ld_wl, lu_s, lu_t, lu_c, lu_j, forall_eq, Int.toNat_natCast, true_and, and_true, not_true, not_false_iff, Classical.not_not, forall_const, iI_inj, wl_s, wl_n, Int.add_zero]
      exact ⟨fun z => absurd z (by decide), fun _ => by (first | exact mj_eq.rf | exact fi_n mj_eq.rf | exact fi_i rfl mj_eq.rf | exact rfl)⟩
    · rw [wl_n (by omega), wl_s]
  · have hr2 := hb_r hT q2
    have hqn2 := hq2.2.1
    have hlt : q < n := by
      have := hq2.1
      omega
    refine ⟨mj_wl (mj_wl (mj_wl (mj_wl (mj_wl (mj_wl (mj_wl (mj_wl N (33, 63, 0, 0) (iI (q : Int))) (33, 65, 0, 2 * m) (iI (sd (hb n T q)))) (33, 63, 0, 1) (iI 0)) (33, 63, 0, 0) (iI ((q + 1 : Nat) : Int))) (33, 63, 0, 0) (iI (q2 : Int))) (33, 65, 0, 2 * m + 1) (iI (hb n T q2 - 48))) (33, 63, 0, 1) (iI 0)) (33, 63, 0, 0) (iI ((q2 + 1 : Nat) : Int)), fun d hd => ?_, (((((((fr.r0.wl (by decide)).wl (by decide)).wl (by decide)).wl (by decide)).wl (by decide)).wl (by decide)).wl (by decide)).wl (by decide), ?_, wl_s, ?_, ?_, fun j hj => ?_⟩
    · refine en_m_readWind (k := 1) hd fun e he P hP hQ => rg_m_readWind_0 hP ⟨_, _, sp_here hT h hp hq (by omega), _, _, sp_mside (by omega) (by unfold iR; omega), ?_⟩
      rw [if_neg (by omega)]
      simp (disch := omega) only [nl_0, nl_1, nl_2, nl_3, nl_4, nl_5, nl_6, nl_7, nl_8, nl_9, nl_10, nl_11, nl_12, nl_13, nl_14, nl_15, nl_16, nl_17, nl_18, nl_19, nl_20, nl_21, nl_22, nl_23, nl_24, nl_25, nl_26, nl_27, nl_28, nl_31, nl_32, nl_42, nl_44, nl_46, nl_48, nl_49, nl_50, nl_51, nl_60, nl_75, nl_76, nl_99, nl_100, nl_108, nl_114, nl_117, nl_126, nl_255, nl_999, nl_2401, nl_9999, nl_12345, nl_65536, nl_1000000, nl_1103515245, nl_2147483647, iI_0, iI_neg, iI_add, iI_sub, iI_mul, iI_div, iI_mod, iI_lt, iI_le, iI_eq, iI_nat, iI_vp, ld_rd, ld_wl, lu_s, lu_t, lu_c, lu_j, forall_eq, Int.toNat_natCast, true_and, and_true, not_true, not_false_iff, Classical.not_not, forall_const, iI_inj, e2m, e2m1, eq1, wl_s, wl_n, Int.add_zero]
      refine ⟨fun _ => ⟨⟨fun z => z.elim, _, _, sp_here hT ((((h.wl (by decide)).wl (by decide)).wl (by decide)).wl (by decide)) wl_s hq2 (by omega), ?_⟩, fun z => z.elim⟩, fun z => absurd g z⟩
      simp (disch := omega) only [nl_0, nl_1, nl_2, nl_3, nl_4, nl_5, nl_6, nl_7, nl_8, nl_9, nl_10, nl_11, nl_12, nl_13, nl_14, nl_15, nl_16, nl_17, nl_18, nl_19, nl_20, nl_21, nl_22, nl_23, nl_24, nl_25, nl_26, nl_27, nl_28, nl_31, nl_32, nl_42, nl_44, nl_46, nl_48, nl_49, nl_50, nl_51, nl_60, nl_75, nl_76, nl_99, nl_100, nl_108, nl_114, nl_117, nl_126, nl_255, nl_999, nl_2401, nl_9999, nl_12345, nl_65536, nl_1000000, nl_1103515245, nl_2147483647, iI_0, iI_neg, iI_add, iI_sub, iI_mul, iI_div, iI_mod, iI_lt, iI_le, iI_eq, iI_nat, iI_vp, ld_rd, ld_wl, lu_s, lu_t, lu_c, lu_j, forall_eq, Int.toNat_natCast, true_and, and_true, not_true, not_false_iff, Classical.not_not, forall_const, iI_inj, lI_iI, ll_0, ll_3, e2m1, wl_s, wl_n]
      have eq2 : (q2 : Int) + 1 = ((q2 + 1 : Nat) : Int) := by omega
      refine bo1 (sp_mI (by omega) (by omega) (by omega) (by omega)) (fun c => ?_) (fun c => by omega)
      simp (disch := omega) only [nl_0, nl_1, nl_2, nl_3, nl_4, nl_5, nl_6, nl_7, nl_8, nl_9, nl_10, nl_11, nl_12, nl_13, nl_14, nl_15, nl_16, nl_17, nl_18, nl_19, nl_20, nl_21, nl_22, nl_23, nl_24, nl_25, nl_26, nl_27, nl_28, nl_31, nl_32, nl_42, nl_44, nl_46, nl_48, nl_49, nl_50, nl_51, nl_60, nl_75, nl_76, nl_99, nl_100, nl_108, nl_114, nl_117, nl_126, nl_255, nl_999, nl_2401, nl_9999, nl_12345, nl_65536, nl_1000000, nl_1103515245, nl_2147483647, iI_0, iI_neg, iI_add, iI_sub, iI_mul, iI_div, iI_mod, iI_lt, iI_le, iI_eq, iI_nat, iI_vp, ld_rd, ld_wl, lu_s, lu_t, lu_c, lu_j, forall_eq, Int.toNat_natCast, true_and, and_true, not_true, not_false_iff, Classical.not_not, forall_const, iI_inj, wl_s, wl_n, Int.add_zero, eq2]
      exact ⟨by (first | exact mj_eq.rf | exact fi_n mj_eq.rf | exact fi_i rfl mj_eq.rf | exact rfl), fun z => z.elim⟩
    · rw [wl_n (by omega), wl_s]
    · rw [wl_n (by omega), wl_n (by omega), wl_n (by omega), wl_n (by omega), wl_n (by omega), wl_n (by omega), wl_s]
    · rw [wl_n (by omega), wl_n (by omega), wl_s]
    · rw [wl_n (by omega), wl_n (by omega), wl_n (by omega), wl_n (by omega), wl_n (by omega), wl_n (by omega), wl_n (by omega), wl_n (by omega)]
