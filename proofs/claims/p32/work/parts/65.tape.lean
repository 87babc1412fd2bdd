/-! contracts: typing -/
def TC (M : mj_M) (n : Nat) (T : Nat → Int) : Prop := M 6 45 0 0 = iI (n : Int) ∧ ∀ j, j < n → M 6 46 0 j = iI (T j)
def TF (M : mj_M) (n : Nat) (T : Nat → Int) : Prop := M 32 63 0 0 = iI (n : Int) ∧ ∀ j, j < n → M 32 64 0 j = iI (T j)
def TI (n : Nat) (T : Nat → Int) : Prop := n ≤ 48 ∧ ∀ j, j < n → 32 ≤ T j ∧ T j ≤ 126
def tok (w : Int64) (k : Nat) : Prop := ∀ i, i < k → 32 ≤ byt w i ∧ byt w i ≤ 126
def tyT (n : Nat) (T : Nat → Int) (w : Int64) (k : Nat) : Nat → Int := fun j => if j < n then T j else byt w (k - 1 - (j - n))
/-- what typing answers, and the tape behind it -/
def TY (n : Nat) (T : Nat → Int) (w : Int64) (k : Int) (a : Int) (n' : Nat) (T' : Nat → Int) : Prop :=
  (((k < 1 ∨ 8 < k) ∧ a = -1 ∨ (1 ≤ k ∧ k ≤ 8 ∧ ¬ tok w k.toNat) ∧ a = -1 ∨ (1 ≤ k ∧ k ≤ 8 ∧ tok w k.toNat ∧ 48 < (n : Int) + k) ∧ a = -3) ∧ n' = n ∧ T' = T) ∨ ((1 ≤ k ∧ k ≤ 8 ∧ tok w k.toNat ∧ (n : Int) + k ≤ 48) ∧ a = (n : Int) + k ∧ n' = n + k.toNat ∧ T' = tyT n T w k.toNat)
theorem TY.ti {n n' : Nat} {T T' : Nat → Int} {w : Int64} {k a : Int} (h : TY n T w k a n' T') (hT : TI n T) : TI n' T' := by
  rcases h with ⟨_, h1, h2⟩ | ⟨h, _, h1, h2⟩
  · rw [h1, h2]; exact hT
  · rw [h1, h2]
    refine ⟨by omega, fun j hj => ?_⟩
    unfold tyT
    split
    · exact hT.2 j (by omega)
    · exact h.2.2.1 _ (by omega)
theorem TY.ex {n : Nat} {T : Nat → Int} {w : Int64} {k : Int} : ∃ a n' T', TY n T w k a n' T' ∧ iR a := by
  by_cases h1 : k < 1 ∨ 8 < k
  · exact ⟨-1, n, T, Or.inl ⟨Or.inl ⟨h1, rfl⟩, rfl, rfl⟩, by unfold iR; omega⟩
  · by_cases h2 : tok w k.toNat
    · by_cases h3 : 48 < (n : Int) + k
      · exact ⟨-3, n, T, Or.inl ⟨Or.inr (Or.inr ⟨⟨by omega, by omega, h2, h3⟩, rfl⟩), rfl, rfl⟩, by unfold iR; omega⟩
      · exact ⟨_, _, _, Or.inr ⟨⟨by omega, by omega, h2, by omega⟩, rfl, rfl, rfl⟩, by unfold iR; omega⟩
    · exact ⟨-1, n, T, Or.inl ⟨Or.inr (Or.inl ⟨⟨by omega, by omega, h2⟩, rfl⟩), rfl, rfl⟩, by unfold iR; omega⟩
theorem sp_byteOf {d k : Nat} (hd : 1 ≤ d) {w : Int64} {M : mj_M} (hk : k < 8) : mj_Sp d 22 [mj_l w, mj_i (iI (k : Int))] M (some (mj_i (iI (byt w k)))) M := by
  refine en_C_byteOf (k := 0) hd fun e he P hP hQ => rg_C_byteOf_0 hP ?_
  rw [nl_8, nl_255, byt_C hk]
  (first | exact mj_eq.rf | exact fi_n mj_eq.rf | exact fi_i rfl mj_eq.rf | exact rfl)
theorem TC.add {M : mj_M} {n : Nat} {T : Nat → Int} (h : TC M n T) {x : Int} (hx : x = T n) : TC (mj_wl (mj_wl M (6, 46, 0, n) (iI x)) (6, 45, 0, 0) (iI (n : Int) + iI 1)) (n + 1) T := by
  refine ⟨?_, fun j hj => ?_⟩
  · rw [wl_s, iI_add]; rfl
  · by_cases e : j = n
    · rw [wl_n (by omega), e, wl_s, hx]
    · rw [wl_n (by omega), wl_n (by omega)]
      exact h.2 j (by omega)
theorem TF.add {M : mj_M} {n : Nat} {T : Nat → Int} (h : TF M n T) {x : Int} (hx : x = T n) : TF (mj_wl (mj_wl M (32, 64, 0, n) (iI x)) (32, 63, 0, 0) (iI (n : Int) + iI 1)) (n + 1) T := by
  refine ⟨?_, fun j hj => ?_⟩
  · rw [wl_s, iI_add]; rfl
  · by_cases e : j = n
    · rw [wl_n (by omega), e, wl_s, hx]
    · rw [wl_n (by omega), wl_n (by omega)]
      exact h.2 j (by omega)
theorem sp_tadd {n : Nat} {T : Nat → Int} {x : Int} {M : mj_M} (h : TC M n T) (hn : n < 48) (hx : x = T n) : ∃ M', (∀ d, 1 ≤ d → mj_Sp d 53 [mj_r (6, 45, 0), mj_i (iI x)] M none M') ∧ fr [6] M M' ∧ TC M' (n + 1) T := by
  refine ⟨_, fun d hd => en_Ta_add (k := 0) hd fun e he P hP hQ => rg_Ta_add_0 hP ?_, (fr.r0.wl (by decide)).wl (by decide), h.add hx⟩
  simp (disch := omega) only [nl_0, nl_1, nl_2, nl_3, nl_4, nl_5, nl_6, nl_7, nl_8, nl_9, nl_10, nl_11, nl_12, nl_13, nl_14, nl_15, nl_16, nl_17, nl_18, nl_19, nl_20, nl_21, nl_22, nl_23, nl_24, nl_25, nl_26, nl_27, nl_28, nl_31, nl_32, nl_42, nl_44, nl_46, nl_48, nl_49, nl_50, nl_51, nl_60, nl_75, nl_76, nl_99, nl_100, nl_108, nl_114, nl_117, nl_126, nl_255, nl_999, nl_2401, nl_9999, nl_12345, nl_65536, nl_1000000, nl_1103515245, nl_2147483647, iI_0, iI_neg, iI_add, iI_sub, iI_mul, iI_div, iI_mod, iI_lt, iI_le, iI_eq, iI_nat, iI_vp, ld_rd, ld_wl, lu_s, lu_t, lu_c, lu_j, forall_eq, Int.toNat_natCast, true_and, and_true, not_true, not_false_iff, Classical.not_not, forall_const, iI_inj, h.1, wl_n]
  exact ⟨fun z => by omega, fun _ => by (first | exact mj_eq.rf | exact fi_n mj_eq.rf | exact fi_i rfl mj_eq.rf | exact rfl)⟩
theorem c_type {d n : Nat} (hd : 3 ≤ d) {T : Nat → Int} {w : Int64} {k a : Int} {n' : Nat} {T' : Nat → Int} {M : mj_M} (hk : iR k) (h : TC M n T) (hT : TI n T) (hY : TY n T w k a n' T') : ∃ M', mj_Sp d 10 [mj_r (13, 50, 0), mj_l w, mj_i (iI k)] M (some (mj_i (iI a))) M' ∧ fr [6] M M' ∧ TC M' n' T' := by
  have hn := hT.1
  by_cases h1 : k < 1 ∨ 8 < k
  · rcases hY with ⟨h2, e1, e2⟩ | h2
    · have ea : a = -1 := by omega
      refine ⟨M, ?_, fr.r0, by rw [e1, e2]; exact h⟩
      rw [ea]
      unfold iR at hk
      refine en_C_type (k := 2) hd fun e he P hP hQ => rg_C_type_0 hP ?_
      simp (disch := omega) only [nl_0, nl_1, nl_2, nl_3, nl_4, nl_5, nl_6, nl_7, nl_8, nl_9, nl_10, nl_11, nl_12, nl_13, nl_14, nl_15, nl_16, nl_17, nl_18, nl_19, nl_20, nl_21, nl_22, nl_23, nl_24, nl_25, nl_26, nl_27, nl_28, nl_31, nl_32, nl_42, nl_44, nl_46, nl_48, nl_49, nl_50, nl_51, nl_60, nl_75, nl_76, nl_99, nl_100, nl_108, nl_114, nl_117, nl_126, nl_255, nl_999, nl_2401, nl_9999, nl_12345, nl_65536, nl_1000000, nl_1103515245, nl_2147483647, iI_0, iI_neg, iI_add, iI_sub, iI_mul, iI_div, iI_mod, iI_lt, iI_le, iI_eq, iI_nat, iI_vp, ld_rd, ld_wl, lu_s, lu_t, lu_c, lu_j, forall_eq, Int.toNat_natCast, true_and, and_true, not_true, not_false_iff, Classical.not_not, forall_const, iI_inj]
      exact bo2 (sp_oI (by omega) (by omega) (by omega) (by omega)) (fun c => by (first | exact mj_eq.rf | exact fi_n mj_eq.rf | exact fi_i rfl mj_eq.rf | exact rfl)) (fun c => absurd h1 c)
    · omega
  · obtain ⟨k, rfl⟩ := nat_iR (show 0 ≤ k by omega)
    unfold TY at hY
    rw [Int.toNat_natCast] at hY
    by_cases hok : tok w k
    · -- all good
      have scan : ∀ (P : Nat → mj_L → List mj_V → mj_M → Prop) (e : Nat) (R : Option mj_V → mj_M → Prop), 2 ≤ e → mj_Cl mj_c10 (mj_Sp e) (0 < e) P R → P 15 [some (mj_r (13, 50, 0)), some (mj_l w), none, some (mj_i (iI (k : Int))), some (mj_i (iI (k : Int)))] [] M → P 15 [some (mj_r (13, 50, 0)), some (mj_l w), none, some (mj_i (iI (k : Int))), some (mj_i (iI 0))] [] M := fun P e R he hP hend => by
        refine lp_dn (Q := fun v => P 15 [some (mj_r (13, 50, 0)), some (mj_l w), none, some (mj_i (iI (k : Int))), some (mj_i (iI (v : Int)))] [] M) (n := k) hend (fun v hv ih => ?_) 0 (Nat.zero_le _)
        have hb := hok v hv
        refine rg_C_type_15 hP ⟨fun z => ?_, fun z => ⟨_, _, sp_byteOf (by omega) (by omega), ?_⟩⟩
        · simp (disch := omega) only [nl_0, nl_1, nl_2, nl_3, nl_4, nl_5, nl_6, nl_7, nl_8, nl_9, nl_10, nl_11, nl_12, nl_13, nl_14, nl_15, nl_16, nl_17, nl_18, nl_19, nl_20, nl_21, nl_22, nl_23, nl_24, nl_25, nl_26, nl_27, nl_28, nl_31, nl_32, nl_42, nl_44, nl_46, nl_48, nl_49, nl_50, nl_51, nl_60, nl_75, nl_76, nl_99, nl_100, nl_108, nl_114, nl_117, nl_126, nl_255, nl_999, nl_2401, nl_9999, nl_12345, nl_65536, nl_1000000, nl_1103515245, nl_2147483647, iI_0, iI_neg, iI_add, iI_sub, iI_mul, iI_div, iI_mod, iI_lt, iI_le, iI_eq, iI_nat, iI_vp, ld_rd, ld_wl, lu_s, lu_t, lu_c, lu_j, forall_eq, Int.toNat_natCast, true_and, and_true, not_true, not_false_iff, Classical.not_not, forall_const, iI_inj] at z
          omega
        · simp (disch := omega) only [nl_0, nl_1, nl_2, nl_3, nl_4, nl_5, nl_6, nl_7, nl_8, nl_9, nl_10, nl_11, nl_12, nl_13, nl_14, nl_15, nl_16, nl_17, nl_18, nl_19, nl_20, nl_21, nl_22, nl_23, nl_24, nl_25, nl_26, nl_27, nl_28, nl_31, nl_32, nl_42, nl_44, nl_46, nl_48, nl_49, nl_50, nl_51, nl_60, nl_75, nl_76, nl_99, nl_100, nl_108, nl_114, nl_117, nl_126, nl_255, nl_999, nl_2401, nl_9999, nl_12345, nl_65536, nl_1000000, nl_1103515245, nl_2147483647, iI_0, iI_neg, iI_add, iI_sub, iI_mul, iI_div, iI_mod, iI_lt, iI_le, iI_eq, iI_nat, iI_vp, ld_rd, ld_wl, lu_s, lu_t, lu_c, lu_j, forall_eq, Int.toNat_natCast, true_and, and_true, not_true, not_false_iff, Classical.not_not, forall_const, iI_inj]
          refine bo2 (sp_oI (by omega) (by omega) (by omega) (by omega)) (fun c => by omega) (fun c => ?_)
          exact ih
      by_cases hl : 48 < (n : Int) + k
      · rcases hY with ⟨h2, e1, e2⟩ | h2
        · have ea : a = -3 := by
            rcases h2 with h2 | h2 | h2
            · omega
            · exact absurd hok h2.1.2.2
            · exact h2.2
          refine ⟨M, ?_, fr.r0, by rw [e1, e2]; exact h⟩
          rw [ea]
          refine en_C_type (k := 2) hd fun e he P hP hQ => rg_C_type_0 hP ?_
          simp (disch := omega) only [nl_0, nl_1, nl_2, nl_3, nl_4, nl_5, nl_6, nl_7, nl_8, nl_9, nl_10, nl_11, nl_12, nl_13, nl_14, nl_15, nl_16, nl_17, nl_18, nl_19, nl_20, nl_21, nl_22, nl_23, nl_24, nl_25, nl_26, nl_27, nl_28, nl_31, nl_32, nl_42, nl_44, nl_46, nl_48, nl_49, nl_50, nl_51, nl_60, nl_75, nl_76, nl_99, nl_100, nl_108, nl_114, nl_117, nl_126, nl_255, nl_999, nl_2401, nl_9999, nl_12345, nl_65536, nl_1000000, nl_1103515245, nl_2147483647, iI_0, iI_neg, iI_add, iI_sub, iI_mul, iI_div, iI_mod, iI_lt, iI_le, iI_eq, iI_nat, iI_vp, ld_rd, ld_wl, lu_s, lu_t, lu_c, lu_j, forall_eq, Int.toNat_natCast, true_and, and_true, not_true, not_false_iff, Classical.not_not, forall_const, iI_inj]
          refine bo2 (sp_oI (by omega) (by omega) (by omega) (by omega)) (fun c => by omega) (fun c => scan P e _ he hP ?_)
          refine rg_C_type_15 hP ⟨fun z => ?_, fun z => ?_⟩
          · simp (disch := omega) only [nl_0, nl_1, nl_2, nl_3, nl_4, nl_5, nl_6, nl_7, nl_8, nl_9, nl_10, nl_11, nl_12, nl_13, nl_14, nl_15, nl_16, nl_17, nl_18, nl_19, nl_20, nl_21, nl_22, nl_23, nl_24, nl_25, nl_26, nl_27, nl_28, nl_31, nl_32, nl_42, nl_44, nl_46, nl_48, nl_49, nl_50, nl_51, nl_60, nl_75, nl_76, nl_99, nl_100, nl_108, nl_114, nl_117, nl_126, nl_255, nl_999, nl_2401, nl_9999, nl_12345, nl_65536, nl_1000000, nl_1103515245, nl_2147483647, iI_0, iI_neg, iI_add, iI_sub, iI_mul, iI_div, iI_mod, iI_lt, iI_le, iI_eq, iI_nat, iI_vp, ld_rd, ld_wl, lu_s, lu_t, lu_c, lu_j, forall_eq, Int.toNat_natCast, true_and, and_true, not_true, not_false_iff, Classical.not_not, forall_const, iI_inj, h.1]
            exact ⟨fun z2 => by omega, fun _ => by (first | exact mj_eq.rf | exact fi_n mj_eq.rf | exact fi_i rfl mj_eq.rf | exact rfl)⟩
          · simp (disch := omega) only [nl_0, nl_1, nl_2, nl_3, nl_4, nl_5, nl_6, nl_7, nl_8, nl_9, nl_10, nl_11, nl_12, nl_13, nl_14, nl_15, nl_16, nl_17, nl_18, nl_19, nl_20, nl_21, nl_22, nl_23, nl_24, nl_25, nl_26, nl_27, nl_28, nl_31, nl_32, nl_42, nl_44, nl_46, nl_48, nl_49, nl_50, nl_51, nl_60, nl_75, nl_76, nl_99, nl_100, nl_108, nl_114, nl_117, nl_126, nl_255, nl_999, nl_2401, nl_9999, nl_12345, nl_65536, nl_1000000, nl_1103515245, nl_2147483647, iI_0, iI_neg, iI_add, iI_sub, iI_mul, iI_div, iI_mod, iI_lt, iI_le, iI_eq, iI_nat, iI_vp, ld_rd, ld_wl, lu_s, lu_t, lu_c, lu_j, forall_eq, Int.toNat_natCast, true_and, and_true, not_true, not_false_iff, Classical.not_not, forall_const, iI_inj] at z
            omega
        · omega
      · rcases hY with ⟨h2, e1, e2⟩ | ⟨_, ea, e1, e2⟩
        · rcases h2 with h2 | h2 | h2
          · omega
          · exact absurd hok h2.1.2.2
          · omega
        · rw [ea, e1, e2]
          have hT2 : TC M (n + 0) (tyT n T w k) := ⟨h.1, fun j hj => by
            rw [h.2 j hj]
            congr 1
            exact (if_pos hj).symm⟩
          have main : ∀ v, v ≤ k → ∀ N, fr [6] M N → TC N (n + v) (tyT n T w k) → ∃ M', Rn mj_c10 2 67 [some (mj_r (13, 50, 0)), some (mj_l w), none, some (mj_i (iI (k : Int))), some (mj_i (iI ((k : Int) - 1 - v)))] N (some (mj_i (iI ((n : Int) + k)))) M' ∧ fr [6] M M' ∧ TC M' (n + k) (tyT n T w k) := by
            refine lp_dn (Q := fun v => ∀ N, fr [6] M N → TC N (n + v) (tyT n T w k) → ∃ M', Rn mj_c10 2 67 [some (mj_r (13, 50, 0)), some (mj_l w), none, some (mj_i (iI (k : Int))), some (mj_i (iI ((k : Int) - 1 - v)))] N (some (mj_i (iI ((n : Int) + k)))) M' ∧ fr [6] M M' ∧ TC M' (n + k) (tyT n T w k)) (n := k) (fun N hf hN => ?_) (fun v hv ih N hf hN => ?_)
            · refine ⟨N, fun e he P hP hQ => rg_C_type_67 hP ⟨fun z => ?_, fun z => ?_⟩, hf, hN⟩
              · rw [hN.1]
                (first | exact mj_eq.rf | exact fi_n mj_eq.rf | exact fi_i rfl mj_eq.rf | exact rfl)
              · simp (disch := omega) only [nl_0, nl_1, nl_2, nl_3, nl_4, nl_5, nl_6, nl_7, nl_8, nl_9, nl_10, nl_11, nl_12, nl_13, nl_14, nl_15, nl_16, nl_17, nl_18, nl_19, nl_20, nl_21, nl_22, nl_23, nl_24, nl_25, nl_26, nl_27, nl_28, nl_31, nl_32, nl_42, nl_44, nl_46, nl_48, nl_49, nl_50, nl_51, nl_60, nl_75, nl_76, nl_99, nl_100, nl_108, nl_114, nl_117, nl_126, nl_255, nl_999, nl_2401, nl_9999, nl_12345, nl_65536, nl_1000000, nl_1103515245, nl_2147483647, iI_0, iI_neg, iI_add, iI_sub, iI_mul, iI_div, iI_mod, iI_lt, iI_le, iI_eq, iI_nat, iI_vp, ld_rd, ld_wl, lu_s, lu_t, lu_c, lu_j, forall_eq, Int.toNat_natCast, true_and, and_true, not_true, not_false_iff, Classical.not_not, forall_const, iI_inj] at z
                omega
            · have ev : (k : Int) - 1 - (v : Int) = ((k - 1 - v : Nat) : Int) := by omega
              obtain ⟨N2, sp2, f2, t2⟩ := sp_tadd hN (by omega) (show byt w (k - 1 - v) = tyT n T w k (n + v) from by
                unfold tyT
                rw [if_neg (by omega)]
                congr 1
                omega)
              obtain ⟨M', hR, h3, h4⟩ := ih N2 (hf.tr f2) t2
              refine ⟨M', fun e he P hP hQ => rg_C_type_67 hP ⟨fun z => ?_, fun z => ?_⟩, h3, h4⟩
              · simp (disch := omega) only [nl_0, nl_1, nl_2, nl_3, nl_4, nl_5, nl_6, nl_7, nl_8, nl_9, nl_10, nl_11, nl_12, nl_13, nl_14, nl_15, nl_16, nl_17, nl_18, nl_19, nl_20, nl_21, nl_22, nl_23, nl_24, nl_25, nl_26, nl_27, nl_28, nl_31, nl_32, nl_42, nl_44, nl_46, nl_48, nl_49, nl_50, nl_51, nl_60, nl_75, nl_76, nl_99, nl_100, nl_108, nl_114, nl_117, nl_126, nl_255, nl_999, nl_2401, nl_9999, nl_12345, nl_65536, nl_1000000, nl_1103515245, nl_2147483647, iI_0, iI_neg, iI_add, iI_sub, iI_mul, iI_div, iI_mod, iI_lt, iI_le, iI_eq, iI_nat, iI_vp, ld_rd, ld_wl, lu_s, lu_t, lu_c, lu_j, forall_eq, Int.toNat_natCast, true_and, and_true, not_true, not_false_iff, Classical.not_not, forall_const, iI_inj] at z
                omega
              · rw [ev]
                refine ⟨_, _, sp_byteOf (by omega) (by omega), _, sp2 e (by omega), ?_⟩
                have := hR e he P hP hQ
                have e3 : ((k - 1 - v : Nat) : Int) + -1 = (k : Int) - 1 - ((v + 1 : Nat) : Int) := by omega
                simp (disch := omega) only [nl_0, nl_1, nl_2, nl_3, nl_4, nl_5, nl_6, nl_7, nl_8, nl_9, nl_10, nl_11, nl_12, nl_13, nl_14, nl_15, nl_16, nl_17, nl_18, nl_19, nl_20, nl_21, nl_22, nl_23, nl_24, nl_25, nl_26, nl_27, nl_28, nl_31, nl_32, nl_42, nl_44, nl_46, nl_48, nl_49, nl_50, nl_51, nl_60, nl_75, nl_76, nl_99, nl_100, nl_108, nl_114, nl_117, nl_126, nl_255, nl_999, nl_2401, nl_9999, nl_12345, nl_65536, nl_1000000, nl_1103515245, nl_2147483647, iI_0, iI_neg, iI_add, iI_sub, iI_mul, iI_div, iI_mod, iI_lt, iI_le, iI_eq, iI_nat, iI_vp, ld_rd, ld_wl, lu_s, lu_t, lu_c, lu_j, forall_eq, Int.toNat_natCast, true_and, and_true, not_true, not_false_iff, Classical.not_not, forall_const, iI_inj, e3]
                exact this
          obtain ⟨M', hR, h3, h4⟩ := main 0 (Nat.zero_le _) M fr.r0 hT2
          refine ⟨M', ?_, h3, h4⟩
          refine en_C_type (k := 2) hd fun e he P hP hQ => rg_C_type_0 hP ?_
          simp (disch := omega) only [nl_0, nl_1, nl_2, nl_3, nl_4, nl_5, nl_6, nl_7, nl_8, nl_9, nl_10, nl_11, nl_12, nl_13, nl_14, nl_15, nl_16, nl_17, nl_18, nl_19, nl_20, nl_21, nl_22, nl_23, nl_24, nl_25, nl_26, nl_27, nl_28, nl_31, nl_32, nl_42, nl_44, nl_46, nl_48, nl_49, nl_50, nl_51, nl_60, nl_75, nl_76, nl_99, nl_100, nl_108, nl_114, nl_117, nl_126, nl_255, nl_999, nl_2401, nl_9999, nl_12345, nl_65536, nl_1000000, nl_1103515245, nl_2147483647, iI_0, iI_neg, iI_add, iI_sub, iI_mul, iI_div, iI_mod, iI_lt, iI_le, iI_eq, iI_nat, iI_vp, ld_rd, ld_wl, lu_s, lu_t, lu_c, lu_j, forall_eq, Int.toNat_natCast, true_and, and_true, not_true, not_false_iff, Classical.not_not, forall_const, iI_inj]
          refine bo2 (sp_oI (by omega) (by omega) (by omega) (by omega)) (fun c => by omega) (fun c => scan P e _ he hP ?_)
          have := hR e he P hP hQ
          refine rg_C_type_15 hP ⟨fun z => ?_, fun z => ?_⟩
          · simp (disch := omega) only [nl_0, nl_1, nl_2, nl_3, nl_4, nl_5, nl_6, nl_7, nl_8, nl_9, nl_10, nl_11, nl_12, nl_13, nl_14, nl_15, nl_16, nl_17, nl_18, nl_19, nl_20, nl_21, nl_22, nl_23, nl_24, nl_25, nl_26, nl_27, nl_28, nl_31, nl_32, nl_42, nl_44, nl_46, nl_48, nl_49, nl_50, nl_51, nl_60, nl_75, nl_76, nl_99, nl_100, nl_108, nl_114, nl_117, nl_126, nl_255, nl_999, nl_2401, nl_9999, nl_12345, nl_65536, nl_1000000, nl_1103515245, nl_2147483647, iI_0, iI_neg, iI_add, iI_sub, iI_mul, iI_div, iI_mod, iI_lt, iI_le, iI_eq, iI_nat, iI_vp, ld_rd, ld_wl, lu_s, lu_t, lu_c, lu_j, forall_eq, Int.toNat_natCast, true_and, and_true, not_true, not_false_iff, Classical.not_not, forall_const, iI_inj, h.1]
            refine ⟨fun _ => ?_, fun z2 => by omega⟩
            have e0 : (k : Int) - 1 - ((0 : Nat) : Int) = (k : Int) - 1 := Int.sub_zero _
            rw [e0] at this
            exact this
          · simp (disch := omega) only [nl_0, nl_1, nl_2, nl_3, nl_4, nl_5, nl_6, nl_7, nl_8, nl_9, nl_10, nl_11, nl_12, nl_13, nl_14, nl_15, nl_16, nl_17, nl_18, nl_19, nl_20, nl_21, nl_22, nl_23, nl_24, nl_25, nl_26, nl_27, nl_28, nl_31, nl_32, nl_42, nl_44, nl_46, nl_48, nl_49, nl_50, nl_51, nl_60, nl_75, nl_76, nl_99, nl_100, nl_108, nl_114, nl_117, nl_126, nl_255, nl_999, nl_2401, nl_9999, nl_12345, nl_65536, nl_1000000, nl_1103515245, nl_2147483647, iI_0, iI_neg, iI_add, iI_sub, iI_mul, iI_div, iI_mod, iI_lt, iI_le, iI_eq, iI_nat, iI_vp, ld_rd, ld_wl, lu_s, lu_t, lu_c, lu_j, forall_eq, Int.toNat_natCast, true_and, and_true, not_true, not_false_iff, Classical.not_not, forall_const, iI_inj] at z
            omega
    · have ea : a = -1 ∧ n' = n ∧ T' = T := by
        rcases hY with ⟨h2, e1, e2⟩ | h2
        · refine ⟨?_, e1, e2⟩
          rcases h2 with h2 | h2 | h2
          · omega
          · exact h2.2
          · exact absurd h2.1.2.2.1 hok
        · exact absurd h2.1.2.2.1 hok
      refine ⟨M, ?_, fr.r0, by rw [ea.2.1, ea.2.2]; exact h⟩
      rw [ea.1]
      refine en_C_type (k := 2) hd fun e he P hP hQ => rg_C_type_0 hP ?_
      simp (disch := omega) only [nl_0, nl_1, nl_2, nl_3, nl_4, nl_5, nl_6, nl_7, nl_8, nl_9, nl_10, nl_11, nl_12, nl_13, nl_14, nl_15, nl_16, nl_17, nl_18, nl_19, nl_20, nl_21, nl_22, nl_23, nl_24, nl_25, nl_26, nl_27, nl_28, nl_31, nl_32, nl_42, nl_44, nl_46, nl_48, nl_49, nl_50, nl_51, nl_60, nl_75, nl_76, nl_99, nl_100, nl_108, nl_114, nl_117, nl_126, nl_255, nl_999, nl_2401, nl_9999, nl_12345, nl_65536, nl_1000000, nl_1103515245, nl_2147483647, iI_0, iI_neg, iI_add, iI_sub, iI_mul, iI_div, iI_mod, iI_lt, iI_le, iI_eq, iI_nat, iI_vp, ld_rd, ld_wl, lu_s, lu_t, lu_c, lu_j, forall_eq, Int.toNat_natCast, true_and, and_true, not_true, not_false_iff, Classical.not_not, forall_const, iI_inj]
      refine bo2 (sp_oI (by omega) (by omega) (by omega) (by omega)) (fun c => by omega) (fun c => ?_)
      have : ∀ v, v ≤ k → (∀ i, i < v → 32 ≤ byt w i ∧ byt w i ≤ 126) → P 15 [some (mj_r (13, 50, 0)), some (mj_l w), none, some (mj_i (iI (k : Int))), some (mj_i (iI (v : Int)))] [] M := by
        refine lp_dn (Q := fun v => (∀ i, i < v → 32 ≤ byt w i ∧ byt w i ≤ 126) → P 15 [some (mj_r (13, 50, 0)), some (mj_l w), none, some (mj_i (iI (k : Int))), some (mj_i (iI (v : Int)))] [] M) (n := k) (fun hb => absurd hb hok) (fun v hv ih hb => ?_)
        have hr := byt_r w v
        refine rg_C_type_15 hP ⟨fun z => ?_, fun z => ⟨_, _, sp_byteOf (by omega) (by omega), ?_⟩⟩
        · simp (disch := omega) only [nl_0, nl_1, nl_2, nl_3, nl_4, nl_5, nl_6, nl_7, nl_8, nl_9, nl_10, nl_11, nl_12, nl_13, nl_14, nl_15, nl_16, nl_17, nl_18, nl_19, nl_20, nl_21, nl_22, nl_23, nl_24, nl_25, nl_26, nl_27, nl_28, nl_31, nl_32, nl_42, nl_44, nl_46, nl_48, nl_49, nl_50, nl_51, nl_60, nl_75, nl_76, nl_99, nl_100, nl_108, nl_114, nl_117, nl_126, nl_255, nl_999, nl_2401, nl_9999, nl_12345, nl_65536, nl_1000000, nl_1103515245, nl_2147483647, iI_0, iI_neg, iI_add, iI_sub, iI_mul, iI_div, iI_mod, iI_lt, iI_le, iI_eq, iI_nat, iI_vp, ld_rd, ld_wl, lu_s, lu_t, lu_c, lu_j, forall_eq, Int.toNat_natCast, true_and, and_true, not_true, not_false_iff, Classical.not_not, forall_const, iI_inj] at z
          omega
        · simp (disch := omega) only [nl_0, nl_1, nl_2, nl_3, nl_4, nl_5, nl_6, nl_7, nl_8, nl_9, nl_10, nl_11, nl_12, nl_13, nl_14, nl_15, nl_16, nl_17, nl_18, nl_19, nl_20, nl_21, nl_22, nl_23, nl_24, nl_25, nl_26, nl_27, nl_28, nl_31, nl_32, nl_42, nl_44, nl_46, nl_48, nl_49, nl_50, nl_51, nl_60, nl_75, nl_76, nl_99, nl_100, nl_108, nl_114, nl_117, nl_126, nl_255, nl_999, nl_2401, nl_9999, nl_12345, nl_65536, nl_1000000, nl_1103515245, nl_2147483647, iI_0, iI_neg, iI_add, iI_sub, iI_mul, iI_div, iI_mod, iI_lt, iI_le, iI_eq, iI_nat, iI_vp, ld_rd, ld_wl, lu_s, lu_t, lu_c, lu_j, forall_eq, Int.toNat_natCast, true_and, and_true, not_true, not_false_iff, Classical.not_not, forall_const, iI_inj]
          refine bo2 (sp_oI (by omega) (by omega) (by omega) (by omega)) (fun c => by (first | exact mj_eq.rf | exact fi_n mj_eq.rf | exact fi_i rfl mj_eq.rf | exact rfl)) (fun c => ?_)
          refine ih (fun i hi => ?_)
          by_cases ei : i = v
          · subst ei; omega
          · exact hb i (by omega)
      exact this 0 (Nat.zero_le _) (fun i hi => absurd hi (by omega))
