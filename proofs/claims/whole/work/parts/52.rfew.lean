/-! contracts: the reference's fewest -/
theorem sp_mlastOver {d : Nat} (hd : 2 ≤ d) {A : lA} {M : mj_M} (hA : LI A) : mj_Sp d 127 [mj_r (30, 60, 0)] (mj_ld M 14 A) (some (mj_i (iI (lo A (nC A))))) (mj_ld M 14 A) := by
  have h1 := hA.nc
  refine en_m_lastOver (k := 1) hd fun e he P hP hQ => rg_m_lastOver_0 hP ?_
  refine lp_dn (Q := fun k => P 4 [some (mj_r (30, 60, 0)), some (mj_i (iI (lo A k))), some (mj_i (iI (k : Int)))] [] (mj_ld M 14 A)) (n := nC A) ?_ (fun k hk ih => ?_) 0 (Nat.zero_le _)
  · refine rg_m_lastOver_4 hP ⟨fun z => by (first | exact mj_eq.rf | exact fi_n mj_eq.rf | exact fi_i rfl mj_eq.rf | exact rfl), fun z => ?_⟩
    simp (disch := omega) only [nl_0, nl_1, nl_2, nl_3, nl_4, nl_5, nl_6, nl_7, nl_8, nl_9, nl_10, nl_11, nl_12, nl_13, nl_14, nl_15, nl_16, nl_17, nl_18, nl_19, nl_20, nl_21, nl_22, nl_23, nl_24, nl_25, nl_26, nl_27, nl_28, nl_31, nl_32, nl_42, nl_44, nl_46, nl_48, nl_49, nl_50, nl_51, nl_60, nl_75, nl_76, nl_99, nl_100, nl_108, nl_114, nl_117, nl_126, nl_255, nl_999, nl_2401, nl_9999, nl_12345, nl_65536, nl_1000000, nl_1103515245, nl_2147483647, iI_0, iI_neg, iI_add, iI_sub, iI_mul, iI_div, iI_mod, iI_lt, iI_le, iI_eq, iI_nat, iI_vp, ld_rd, ld_wl, lu_s, lu_t, lu_c, lu_j, forall_eq, Int.toNat_natCast, true_and, and_true, not_true, not_false_iff, Classical.not_not, forall_const, iI_inj, h1.1] at z
    omega
  · have e1 : lo A (k + 1) = if A 2 0 k ≠ 25 then (k : Int) else lo A k := rfl
    rw [e1] at ih
    refine rg_m_lastOver_4 hP ⟨fun z => ?_, fun z => ?_⟩
    · simp (disch := omega) only [nl_0, nl_1, nl_2, nl_3, nl_4, nl_5, nl_6, nl_7, nl_8, nl_9, nl_10, nl_11, nl_12, nl_13, nl_14, nl_15, nl_16, nl_17, nl_18, nl_19, nl_20, nl_21, nl_22, nl_23, nl_24, nl_25, nl_26, nl_27, nl_28, nl_31, nl_32, nl_42, nl_44, nl_46, nl_48, nl_49, nl_50, nl_51, nl_60, nl_75, nl_76, nl_99, nl_100, nl_108, nl_114, nl_117, nl_126, nl_255, nl_999, nl_2401, nl_9999, nl_12345, nl_65536, nl_1000000, nl_1103515245, nl_2147483647, iI_0, iI_neg, iI_add, iI_sub, iI_mul, iI_div, iI_mod, iI_lt, iI_le, iI_eq, iI_nat, iI_vp, ld_rd, ld_wl, lu_s, lu_t, lu_c, lu_j, forall_eq, Int.toNat_natCast, true_and, and_true, not_true, not_false_iff, Classical.not_not, forall_const, iI_inj, h1.1] at z
      omega
    · simp (disch := omega) only [nl_0, nl_1, nl_2, nl_3, nl_4, nl_5, nl_6, nl_7, nl_8, nl_9, nl_10, nl_11, nl_12, nl_13, nl_14, nl_15, nl_16, nl_17, nl_18, nl_19, nl_20, nl_21, nl_22, nl_23, nl_24, nl_25, nl_26, nl_27, nl_28, nl_31, nl_32, nl_42, nl_44, nl_46, nl_48, nl_49, nl_50, nl_51, nl_60, nl_75, nl_76, nl_99, nl_100, nl_108, nl_114, nl_117, nl_126, nl_255, nl_999, nl_2401, nl_9999, nl_12345, nl_65536, nl_1000000, nl_1103515245, nl_2147483647, iI_0, iI_neg, iI_add, iI_sub, iI_mul, iI_div, iI_mod, iI_lt, iI_le, iI_eq, iI_nat, iI_vp, ld_rd, ld_wl, lu_s, lu_t, lu_c, lu_j, forall_eq, Int.toNat_natCast, true_and, and_true, not_true, not_false_iff, Classical.not_not, forall_const, iI_inj]
      refine bo2 (sp_mOver (by omega) (by omega) hA) (fun c => ?_) (fun c => ?_)
      · have c2 : A 2 0 k ≠ 25 := c
        rw [if_pos c2] at ih
        exact ih
      · have c2 : ¬ (A 2 0 k ≠ 25) := c
        rw [if_neg c2] at ih
        exact ih
/-- the reference's row -/
def RW (M : mj_M) (r : Nat → Nat) : Prop := ∀ c, c < 6 → M 33 66 0 c = iI (r c : Int)
theorem LD_fr {M M' : mj_M} {i : Nat} {A : lA} (h : LD M i A) (e : M' i = M i) : LD M' i A := fun t c j ht ho => by rw [e]; exact h t c j ht ho
theorem sp_mbegins {k : Nat} {A : lA} {M : mj_M} (hA : LI A) (hk : k ≤ 9) : ∃ M', (∀ d, 3 ≤ d → mj_Sp d 126 [mj_r (30, 60, 0), mj_i (iI (k : Int))] (mj_ld M 14 A) (some (mj_i (iI (if 0 ≤ lo A (nC A) ∨ k = 0 then 1 else 0)))) (mj_ld M' 14 A)) ∧ fr [33] M M' ∧ RW M' (fun c => if (c : Int) = lo A (nC A) then k else 0) := by
  have hl := lo_r (A := A) (nC A)
  have h1 := hA.nc
  have key : ∀ c, c ≤ 6 → ∀ N, fr [33] M N → (∀ c', c' < c → N 33 66 0 c' = iI 0) → ∃ M', (fr [33] M M' ∧ RW M' (fun c => if (c : Int) = lo A (nC A) then k else 0)) ∧ Rn mj_c126 2 2 [some (mj_r (30, 60, 0)), some (mj_i (iI (k : Int))), some (mj_i (iI (c : Int)))] (mj_ld N 14 A) (some (mj_i (iI (if 0 ≤ lo A (nC A) ∨ k = 0 then 1 else 0)))) (mj_ld M' 14 A) := by
    refine lp_dn (Q := fun c => ∀ N, fr [33] M N → (∀ c', c' < c → N 33 66 0 c' = iI 0) → ∃ M', (fr [33] M M' ∧ RW M' (fun c => if (c : Int) = lo A (nC A) then k else 0)) ∧ Rn mj_c126 2 2 [some (mj_r (30, 60, 0)), some (mj_i (iI (k : Int))), some (mj_i (iI (c : Int)))] (mj_ld N 14 A) (some (mj_i (iI (if 0 ≤ lo A (nC A) ∨ k = 0 then 1 else 0)))) (mj_ld M' 14 A)) (n := 6) (fun N hf hz => ?_) (fun c hc ih N hf hz => ?_)
    · by_cases g : 0 ≤ lo A (nC A)
      · obtain ⟨l, el⟩ := nat_iR g
        refine ⟨mj_wl N (33, 66, 0, l) (iI (k : Int)), ⟨hf.wl (by decide), fun c hc => ?_⟩, fun e he P hP hQ => rg_m_begins_2 hP ⟨fun z => ⟨_, _, sp_mlastOver (by omega) hA, ?_⟩, fun z => ?_⟩⟩
        · by_cases e : c = l
          · subst e
            rw [wl_s]
            dsimp only
            rw [if_pos el.symm]
          · rw [wl_n (by omega), hz c hc]
            dsimp only
            rw [if_neg (by omega)]
            rfl
        · rw [el]
          simp (disch := omega) only [nl_0, nl_1, nl_2, nl_3, nl_4, nl_5, nl_6, nl_7, nl_8, nl_9, nl_10, nl_11, nl_12, nl_13, nl_14, nl_15, nl_16, nl_17, nl_18, nl_19, nl_20, nl_21, nl_22, nl_23, nl_24, nl_25, nl_26, nl_27, nl_28, nl_31, nl_32, nl_42, nl_44, nl_46, nl_48, nl_49, nl_50, nl_51, nl_60, nl_75, nl_76, nl_99, nl_100, nl_108, nl_114, nl_117, nl_126, nl_255, nl_999, nl_2401, nl_9999, nl_12345, nl_65536, nl_1000000, nl_1103515245, nl_2147483647, iI_0, iI_neg, iI_add, iI_sub, iI_mul, iI_div, iI_mod, iI_lt, iI_le, iI_eq, iI_nat, iI_vp, ld_rd, ld_wl, lu_s, lu_t, lu_c, lu_j, forall_eq, Int.toNat_natCast, true_and, and_true, not_true, not_false_iff, Classical.not_not, forall_const, iI_inj]
          rw [wl_ld (by decide)]
          refine ⟨fun z => by omega, fun z => ⟨fun z2 => ?_, fun z2 => by omega⟩⟩
          rw [if_pos (Or.inl (by omega))]
          (first | exact mj_eq.rf | exact fi_n mj_eq.rf | exact fi_i rfl mj_eq.rf | exact rfl)
        · simp (disch := omega) only [nl_0, nl_1, nl_2, nl_3, nl_4, nl_5, nl_6, nl_7, nl_8, nl_9, nl_10, nl_11, nl_12, nl_13, nl_14, nl_15, nl_16, nl_17, nl_18, nl_19, nl_20, nl_21, nl_22, nl_23, nl_24, nl_25, nl_26, nl_27, nl_28, nl_31, nl_32, nl_42, nl_44, nl_46, nl_48, nl_49, nl_50, nl_51, nl_60, nl_75, nl_76, nl_99, nl_100, nl_108, nl_114, nl_117, nl_126, nl_255, nl_999, nl_2401, nl_9999, nl_12345, nl_65536, nl_1000000, nl_1103515245, nl_2147483647, iI_0, iI_neg, iI_add, iI_sub, iI_mul, iI_div, iI_mod, iI_lt, iI_le, iI_eq, iI_nat, iI_vp, ld_rd, ld_wl, lu_s, lu_t, lu_c, lu_j, forall_eq, Int.toNat_natCast, true_and, and_true, not_true, not_false_iff, Classical.not_not, forall_const, iI_inj] at z
          omega
      · have eg : lo A (nC A) = -1 := by omega
        refine ⟨N, ⟨hf, fun c hc => by rw [hz c hc]; dsimp only; rw [if_neg (by omega)]; rfl⟩, fun e he P hP hQ => rg_m_begins_2 hP ⟨fun z => ⟨_, _, sp_mlastOver (by omega) hA, ?_⟩, fun z => ?_⟩⟩
        · rw [eg]
          simp (disch := omega) only [nl_0, nl_1, nl_2, nl_3, nl_4, nl_5, nl_6, nl_7, nl_8, nl_9, nl_10, nl_11, nl_12, nl_13, nl_14, nl_15, nl_16, nl_17, nl_18, nl_19, nl_20, nl_21, nl_22, nl_23, nl_24, nl_25, nl_26, nl_27, nl_28, nl_31, nl_32, nl_42, nl_44, nl_46, nl_48, nl_49, nl_50, nl_51, nl_60, nl_75, nl_76, nl_99, nl_100, nl_108, nl_114, nl_117, nl_126, nl_255, nl_999, nl_2401, nl_9999, nl_12345, nl_65536, nl_1000000, nl_1103515245, nl_2147483647, iI_0, iI_neg, iI_add, iI_sub, iI_mul, iI_div, iI_mod, iI_lt, iI_le, iI_eq, iI_nat, iI_vp, ld_rd, ld_wl, lu_s, lu_t, lu_c, lu_j, forall_eq, Int.toNat_natCast, true_and, and_true, not_true, not_false_iff, Classical.not_not, forall_const, iI_inj]
          refine ⟨fun z => ⟨fun z2 => by omega, fun z2 => ⟨fun z3 => ?_, fun z3 => ?_⟩⟩, fun z => by omega⟩
          · rw [if_neg (show ¬ ((0 : Int) ≤ -1 ∨ k = 0) by omega)]
            (first | exact mj_eq.rf | exact fi_n mj_eq.rf | exact fi_i rfl mj_eq.rf | exact rfl)
          · rw [if_pos (show ((0 : Int) ≤ -1 ∨ k = 0) by omega)]
            (first | exact mj_eq.rf | exact fi_n mj_eq.rf | exact fi_i rfl mj_eq.rf | exact rfl)
        · simp (disch := omega) only [nl_0, nl_1, nl_2, nl_3, nl_4, nl_5, nl_6, nl_7, nl_8, nl_9, nl_10, nl_11, nl_12, nl_13, nl_14, nl_15, nl_16, nl_17, nl_18, nl_19, nl_20, nl_21, nl_22, nl_23, nl_24, nl_25, nl_26, nl_27, nl_28, nl_31, nl_32, nl_42, nl_44, nl_46, nl_48, nl_49, nl_50, nl_51, nl_60, nl_75, nl_76, nl_99, nl_100, nl_108, nl_114, nl_117, nl_126, nl_255, nl_999, nl_2401, nl_9999, nl_12345, nl_65536, nl_1000000, nl_1103515245, nl_2147483647, iI_0, iI_neg, iI_add, iI_sub, iI_mul, iI_div, iI_mod, iI_lt, iI_le, iI_eq, iI_nat, iI_vp, ld_rd, ld_wl, lu_s, lu_t, lu_c, lu_j, forall_eq, Int.toNat_natCast, true_and, and_true, not_true, not_false_iff, Classical.not_not, forall_const, iI_inj] at z
          omega
    · obtain ⟨M', hG, hR⟩ := ih (mj_wl N (33, 66, 0, c) (iI 0)) (hf.wl (by decide)) (fun c' hc' => by
        by_cases e : c' = c
        · subst e; exact wl_s
        · rw [wl_n (by omega)]; exact hz c' (by omega))
      refine ⟨M', hG, fun e he P hP hQ => rg_m_begins_2 hP ⟨fun z => ?_, fun z => ?_⟩⟩
      · simp (disch := omega) only [nl_0, nl_1, nl_2, nl_3, nl_4, nl_5, nl_6, nl_7, nl_8, nl_9, nl_10, nl_11, nl_12, nl_13, nl_14, nl_15, nl_16, nl_17, nl_18, nl_19, nl_20, nl_21, nl_22, nl_23, nl_24, nl_25, nl_26, nl_27, nl_28, nl_31, nl_32, nl_42, nl_44, nl_46, nl_48, nl_49, nl_50, nl_51, nl_60, nl_75, nl_76, nl_99, nl_100, nl_108, nl_114, nl_117, nl_126, nl_255, nl_999, nl_2401, nl_9999, nl_12345, nl_65536, nl_1000000, nl_1103515245, nl_2147483647, iI_0, iI_neg, iI_add, iI_sub, iI_mul, iI_div, iI_mod, iI_lt, iI_le, iI_eq, iI_nat, iI_vp, ld_rd, ld_wl, lu_s, lu_t, lu_c, lu_j, forall_eq, Int.toNat_natCast, true_and, and_true, not_true, not_false_iff, Classical.not_not, forall_const, iI_inj] at z
        omega
      · simp (disch := omega) only [nl_0, nl_1, nl_2, nl_3, nl_4, nl_5, nl_6, nl_7, nl_8, nl_9, nl_10, nl_11, nl_12, nl_13, nl_14, nl_15, nl_16, nl_17, nl_18, nl_19, nl_20, nl_21, nl_22, nl_23, nl_24, nl_25, nl_26, nl_27, nl_28, nl_31, nl_32, nl_42, nl_44, nl_46, nl_48, nl_49, nl_50, nl_51, nl_60, nl_75, nl_76, nl_99, nl_100, nl_108, nl_114, nl_117, nl_126, nl_255, nl_999, nl_2401, nl_9999, nl_12345, nl_65536, nl_1000000, nl_1103515245, nl_2147483647, iI_0, iI_neg, iI_add, iI_sub, iI_mul, iI_div, iI_mod, iI_lt, iI_le, iI_eq, iI_nat, iI_vp, ld_rd, ld_wl, lu_s, lu_t, lu_c, lu_j, forall_eq, Int.toNat_natCast, true_and, and_true, not_true, not_false_iff, Classical.not_not, forall_const, iI_inj]
        rw [wl_ld (by decide)]
        exact hR e he P hP hQ
  obtain ⟨M', hG, hR⟩ := key 0 (by decide) M fr.r0 (fun c' h => absurd h (Nat.not_lt_zero c'))
  exact ⟨M', fun d hd => en_m_begins (k := 2) hd fun e he P hP hQ => rg_m_begins_0 hP (hR e he P hP hQ), hG⟩
/-- the next row, or none -/
def TN (A : lA) (r : Nat → Nat) (k : Nat) (M M' : mj_M) (b : Int) : Prop := fr [33] M M' ∧ ((b = 0 ∧ ∀ q, vr A q k → ¬ Lx r q) ∨ (b = 1 ∧ ∃ r', RW M' r' ∧ vr A r' k ∧ Lx r r' ∧ ∀ q, vr A q k → Lx r q → ¬ Lx q r'))
theorem sp_mturns {k : Nat} {A : lA} {M : mj_M} {r : Nat → Nat} (hA : LI A) (hk : k ≤ 9) (hr : vr A r k) (hR : RW M r) : ∃ M' b, (∀ d, 3 ≤ d → mj_Sp d 128 [mj_r (30, 60, 0)] (mj_ld M 14 A) (some (mj_i (iI b))) (mj_ld M' 14 A)) ∧ TN A r k M M' b := by
  have hl := lo_r (A := A) (nC A)
  have h1 := hA.nc
  have h9 := vr_9 hr hk
  by_cases g : 0 ≤ lo A (nC A)
  · obtain ⟨l, el⟩ := nat_iR g
    have hln : l < nC A := by omega
    have ht := vr_tail h1.2 hr el
    have key : ∀ j : Nat, j ≤ l → (∀ j', l - j ≤ j' → j' < l → op A j' → ¬ sn r (j' + 1) < k) → ∃ M' b, TN A r k M M' b ∧ Rn mj_c128 2 24 [some (mj_r (30, 60, 0)), some (mj_i (iI (l : Int))), some (mj_i (iI ((k : Int) - sn r (l - j)))), some (mj_i (iI ((l : Int) - 1 - (j : Int)))), none] (mj_ld M 14 A) (some (mj_i (iI b))) (mj_ld M' 14 A) := by
      refine lp_dn (Q := fun j => (∀ j', l - j ≤ j' → j' < l → op A j' → ¬ sn r (j' + 1) < k) → ∃ M' b, TN A r k M M' b ∧ Rn mj_c128 2 24 [some (mj_r (30, 60, 0)), some (mj_i (iI (l : Int))), some (mj_i (iI ((k : Int) - sn r (l - j)))), some (mj_i (iI ((l : Int) - 1 - (j : Int)))), none] (mj_ld M 14 A) (some (mj_i (iI b))) (mj_ld M' 14 A)) (n := l) (fun hmax => ?_) (fun j hj ih hmax => ?_)
      · refine ⟨M, 0, ⟨fr.r0, Or.inl ⟨rfl, fun q hq => nr_no h1.2 hr el (fun j' hj' ho => hmax j' (by omega) hj' ho) hq⟩⟩, fun e he P hP hQ => rg_m_turns_24 hP ⟨fun z => by (first | exact mj_eq.rf | exact fi_n mj_eq.rf | exact fi_i rfl mj_eq.rf | exact rfl), fun z => ?_⟩⟩
        simp (disch := omega) only [nl_0, nl_1, nl_2, nl_3, nl_4, nl_5, nl_6, nl_7, nl_8, nl_9, nl_10, nl_11, nl_12, nl_13, nl_14, nl_15, nl_16, nl_17, nl_18, nl_19, nl_20, nl_21, nl_22, nl_23, nl_24, nl_25, nl_26, nl_27, nl_28, nl_31, nl_32, nl_42, nl_44, nl_46, nl_48, nl_49, nl_50, nl_51, nl_60, nl_75, nl_76, nl_99, nl_100, nl_108, nl_114, nl_117, nl_126, nl_255, nl_999, nl_2401, nl_9999, nl_12345, nl_65536, nl_1000000, nl_1103515245, nl_2147483647, iI_0, iI_neg, iI_add, iI_sub, iI_mul, iI_div, iI_mod, iI_lt, iI_le, iI_eq, iI_nat, iI_vp, ld_rd, ld_wl, lu_s, lu_t, lu_c, lu_j, forall_eq, Int.toNat_natCast, true_and, and_true, not_true, not_false_iff, Classical.not_not, forall_const, iI_inj] at z
        omega
      · obtain ⟨c, ec⟩ : ∃ c, l - j = c + 1 := ⟨l - j - 1, by omega⟩
        have ec2 : (l : Int) - 1 - (j : Int) = (c : Int) := by omega
        have ec3 : (l : Int) - 1 - ((j + 1 : Nat) : Int) = (c : Int) + -1 := by omega
        have ec4 : l - (j + 1) = c := by omega
        have hc9 := h9 c (by omega)
        have hsc : sn r (c + 1) = sn r c + r c := sn_s r c
        have hs0 : 0 ≤ sn r c := sn_mono (r := r) (a := 0) c (by omega)
        have hs6 : sn r (c + 1) ≤ sn r (l + 1) := sn_mono (l + 1) (by omega)
        rw [ec, ec2]
        rw [ec4, ec3] at ih
        have hrc : M 33 66 0 c = iI (r c : Int) := hR c (by omega)
        have down : (op A c → ¬ sn r (c + 1) < k) → ∃ M' b, TN A r k M M' b ∧ Rn mj_c128 2 24 [some (mj_r (30, 60, 0)), some (mj_i (iI (l : Int))), some (mj_i (iI ((k : Int) - sn r (c + 1) + (r c : Int)))), some (mj_i (iI ((c : Int) + -1))), none] (mj_ld M 14 A) (some (mj_i (iI b))) (mj_ld M' 14 A) := fun hno => by
          have := ih fun j' h1 h2 ho => by
            by_cases e : j' = c
            · subst e; exact hno ho
            · exact hmax j' (by omega) h2 ho
          rw [show (k : Int) - sn r (c + 1) + (r c : Int) = (k : Int) - sn r c by omega]
          exact this
        by_cases ho : A 2 0 c = 25
        · obtain ⟨M', b, hT, hRn⟩ := down (fun h => absurd ho h.2)
          refine ⟨M', b, hT, fun e he P hP hQ => rg_m_turns_24 hP ⟨fun z => ?_, fun z => ?_⟩⟩
          · simp (disch := omega) only [nl_0, nl_1, nl_2, nl_3, nl_4, nl_5, nl_6, nl_7, nl_8, nl_9, nl_10, nl_11, nl_12, nl_13, nl_14, nl_15, nl_16, nl_17, nl_18, nl_19, nl_20, nl_21, nl_22, nl_23, nl_24, nl_25, nl_26, nl_27, nl_28, nl_31, nl_32, nl_42, nl_44, nl_46, nl_48, nl_49, nl_50, nl_51, nl_60, nl_75, nl_76, nl_99, nl_100, nl_108, nl_114, nl_117, nl_126, nl_255, nl_999, nl_2401, nl_9999, nl_12345, nl_65536, nl_1000000, nl_1103515245, nl_2147483647, iI_0, iI_neg, iI_add, iI_sub, iI_mul, iI_div, iI_mod, iI_lt, iI_le, iI_eq, iI_nat, iI_vp, ld_rd, ld_wl, lu_s, lu_t, lu_c, lu_j, forall_eq, Int.toNat_natCast, true_and, and_true, not_true, not_false_iff, Classical.not_not, forall_const, iI_inj] at z
            omega
          · refine ⟨_, _, sp_mOver (by omega) (by omega) hA, ?_⟩
            rw [if_neg (fun h => h (by rw [Int.toNat_natCast]; exact ho))]
            refine ⟨fun _ => ?_, fun h => absurd rfl h⟩
            simp (disch := omega) only [nl_0, nl_1, nl_2, nl_3, nl_4, nl_5, nl_6, nl_7, nl_8, nl_9, nl_10, nl_11, nl_12, nl_13, nl_14, nl_15, nl_16, nl_17, nl_18, nl_19, nl_20, nl_21, nl_22, nl_23, nl_24, nl_25, nl_26, nl_27, nl_28, nl_31, nl_32, nl_42, nl_44, nl_46, nl_48, nl_49, nl_50, nl_51, nl_60, nl_75, nl_76, nl_99, nl_100, nl_108, nl_114, nl_117, nl_126, nl_255, nl_999, nl_2401, nl_9999, nl_12345, nl_65536, nl_1000000, nl_1103515245, nl_2147483647, iI_0, iI_neg, iI_add, iI_sub, iI_mul, iI_div, iI_mod, iI_lt, iI_le, iI_eq, iI_nat, iI_vp, ld_rd, ld_wl, lu_s, lu_t, lu_c, lu_j, forall_eq, Int.toNat_natCast, true_and, and_true, not_true, not_false_iff, Classical.not_not, forall_const, iI_inj, ld_p, hrc]
            exact hRn e he P hP hQ
        · by_cases hb : sn r (c + 1) < k
          · -- here it turns
            have hmax2 : ∀ j', c < j' → j' < l → op A j' → ¬ sn r (j' + 1) < k := fun j' a1 a2 a3 => hmax j' (by omega) a2 a3
            have ok := nr_ok h1.2 hr el (by omega : c < l) ⟨by omega, ho⟩ hb hmax2
            have fill : ∀ t, t ≤ l + 1 → c + 1 ≤ t → ∀ N, fr [33] M N → (∀ c', c' < 6 → N 33 66 0 c' = iI (if c' < c then r c' else if c' = c then r c + 1 else if c' < t then 0 else r c' : Nat)) → ∃ M' b, TN A r k M M' b ∧ Rn mj_c128 2 55 [some (mj_r (30, 60, 0)), some (mj_i (iI (l : Int))), some (mj_i (iI ((k : Int) - sn r (c + 1)))), some (mj_i (iI (c : Int))), some (mj_i (iI (t : Int)))] (mj_ld N 14 A) (some (mj_i (iI b))) (mj_ld M' 14 A) := by
              refine lp_dn (Q := fun t => c + 1 ≤ t → ∀ N, fr [33] M N → (∀ c', c' < 6 → N 33 66 0 c' = iI (if c' < c then r c' else if c' = c then r c + 1 else if c' < t then 0 else r c' : Nat)) → ∃ M' b, TN A r k M M' b ∧ Rn mj_c128 2 55 [some (mj_r (30, 60, 0)), some (mj_i (iI (l : Int))), some (mj_i (iI ((k : Int) - sn r (c + 1)))), some (mj_i (iI (c : Int))), some (mj_i (iI (t : Int)))] (mj_ld N 14 A) (some (mj_i (iI b))) (mj_ld M' 14 A)) (n := l + 1) (fun _ N hf hz => ?_) (fun t ht2 ih2 htc N hf hz => ?_)
              · refine ⟨mj_wl N (33, 66, 0, l) (iI ((k : Int) - sn r (c + 1) - 1)), 1, ⟨hf.wl (by decide), Or.inr ⟨rfl, nr r k c l, fun c' hc' => ?_, ok.1, ok.2.1, ok.2.2⟩⟩, fun e he P hP hQ => rg_m_turns_55 hP ⟨fun z => ?_, fun z => ?_⟩⟩
                · by_cases e : c' = l
                  · subst e
                    rw [wl_s, nr_l (by omega)]
                    congr 1
                    omega
                  · rw [wl_n (by omega), hz c' hc']
                    unfold nr
                    by_cases a1 : c' < c
                    · rw [if_pos a1, if_pos a1]
                    · rw [if_neg a1, if_neg a1]
                      by_cases a2 : c' = c
                      · rw [if_pos a2, if_pos a2]
                      · rw [if_neg a2, if_neg a2, if_neg e]
                        by_cases a3 : c' < l + 1
                        · rw [if_pos a3]
                        · rw [if_neg a3, hr.1 c' hc' (fun ho => ho.2 (hl.2.2.1 c' (by omega) ho.1))]
                · simp (disch := omega) only [nl_0, nl_1, nl_2, nl_3, nl_4, nl_5, nl_6, nl_7, nl_8, nl_9, nl_10, nl_11, nl_12, nl_13, nl_14, nl_15, nl_16, nl_17, nl_18, nl_19, nl_20, nl_21, nl_22, nl_23, nl_24, nl_25, nl_26, nl_27, nl_28, nl_31, nl_32, nl_42, nl_44, nl_46, nl_48, nl_49, nl_50, nl_51, nl_60, nl_75, nl_76, nl_99, nl_100, nl_108, nl_114, nl_117, nl_126, nl_255, nl_999, nl_2401, nl_9999, nl_12345, nl_65536, nl_1000000, nl_1103515245, nl_2147483647, iI_0, iI_neg, iI_add, iI_sub, iI_mul, iI_div, iI_mod, iI_lt, iI_le, iI_eq, iI_nat, iI_vp, ld_rd, ld_wl, lu_s, lu_t, lu_c, lu_j, forall_eq, Int.toNat_natCast, true_and, and_true, not_true, not_false_iff, Classical.not_not, forall_const, iI_inj]
                  rw [wl_ld (by decide)]
                  (first | exact mj_eq.rf | exact fi_n mj_eq.rf | exact fi_i rfl mj_eq.rf | exact rfl)
                · simp (disch := omega) only [nl_0, nl_1, nl_2, nl_3, nl_4, nl_5, nl_6, nl_7, nl_8, nl_9, nl_10, nl_11, nl_12, nl_13, nl_14, nl_15, nl_16, nl_17, nl_18, nl_19, nl_20, nl_21, nl_22, nl_23, nl_24, nl_25, nl_26, nl_27, nl_28, nl_31, nl_32, nl_42, nl_44, nl_46, nl_48, nl_49, nl_50, nl_51, nl_60, nl_75, nl_76, nl_99, nl_100, nl_108, nl_114, nl_117, nl_126, nl_255, nl_999, nl_2401, nl_9999, nl_12345, nl_65536, nl_1000000, nl_1103515245, nl_2147483647, iI_0, iI_neg, iI_add, iI_sub, iI_mul, iI_div, iI_mod, iI_lt, iI_le, iI_eq, iI_nat, iI_vp, ld_rd, ld_wl, lu_s, lu_t, lu_c, lu_j, forall_eq, Int.toNat_natCast, true_and, and_true, not_true, not_false_iff, Classical.not_not, forall_const, iI_inj] at z
                  omega
              · obtain ⟨M', b, hT, hRn⟩ := ih2 (by omega) (mj_wl N (33, 66, 0, t) (iI 0)) (hf.wl (by decide)) (fun c' hc' => by
                  by_cases e : c' = t
                  · subst e
                    rw [wl_s, if_neg (by omega), if_neg (by omega), if_pos (by omega)]
                    rfl
                  · rw [wl_n (by omega), hz c' hc']
                    by_cases a1 : c' < t
                    · rw [if_pos a1, if_pos (show c' < t + 1 by omega)]
                    · rw [if_neg a1, if_neg (show ¬ c' < t + 1 by omega)])
                refine ⟨M', b, hT, fun e he P hP hQ => rg_m_turns_55 hP ⟨fun z => ?_, fun z => ?_⟩⟩
                · simp (disch := omega) only [nl_0, nl_1, nl_2, nl_3, nl_4, nl_5, nl_6, nl_7, nl_8, nl_9, nl_10, nl_11, nl_12, nl_13, nl_14, nl_15, nl_16, nl_17, nl_18, nl_19, nl_20, nl_21, nl_22, nl_23, nl_24, nl_25, nl_26, nl_27, nl_28, nl_31, nl_32, nl_42, nl_44, nl_46, nl_48, nl_49, nl_50, nl_51, nl_60, nl_75, nl_76, nl_99, nl_100, nl_108, nl_114, nl_117, nl_126, nl_255, nl_999, nl_2401, nl_9999, nl_12345, nl_65536, nl_1000000, nl_1103515245, nl_2147483647, iI_0, iI_neg, iI_add, iI_sub, iI_mul, iI_div, iI_mod, iI_lt, iI_le, iI_eq, iI_nat, iI_vp, ld_rd, ld_wl, lu_s, lu_t, lu_c, lu_j, forall_eq, Int.toNat_natCast, true_and, and_true, not_true, not_false_iff, Classical.not_not, forall_const, iI_inj] at z
                  omega
                · simp (disch := omega) only [nl_0, nl_1, nl_2, nl_3, nl_4, nl_5, nl_6, nl_7, nl_8, nl_9, nl_10, nl_11, nl_12, nl_13, nl_14, nl_15, nl_16, nl_17, nl_18, nl_19, nl_20, nl_21, nl_22, nl_23, nl_24, nl_25, nl_26, nl_27, nl_28, nl_31, nl_32, nl_42, nl_44, nl_46, nl_48, nl_49, nl_50, nl_51, nl_60, nl_75, nl_76, nl_99, nl_100, nl_108, nl_114, nl_117, nl_126, nl_255, nl_999, nl_2401, nl_9999, nl_12345, nl_65536, nl_1000000, nl_1103515245, nl_2147483647, iI_0, iI_neg, iI_add, iI_sub, iI_mul, iI_div, iI_mod, iI_lt, iI_le, iI_eq, iI_nat, iI_vp, ld_rd, ld_wl, lu_s, lu_t, lu_c, lu_j, forall_eq, Int.toNat_natCast, true_and, and_true, not_true, not_false_iff, Classical.not_not, forall_const, iI_inj]
                  rw [wl_ld (by decide)]
                  exact hRn e he P hP hQ
            obtain ⟨M', b, hT, hRn⟩ := fill (c + 1) (by omega) (Nat.le_refl _) (mj_wl M (33, 66, 0, c) (iI ((r c : Int) + 1))) (fr.r0.wl (by decide)) (fun c' hc' => by
              by_cases e : c' = c
              · subst e
                rw [wl_s, if_neg (Nat.lt_irrefl _), if_pos rfl]
                rfl
              · rw [wl_n (by omega), hR c' hc']
                by_cases a1 : c' < c
                · rw [if_pos a1]
                · rw [if_neg a1, if_neg e, if_neg (by omega)])
            refine ⟨M', b, hT, fun e he P hP hQ => rg_m_turns_24 hP ⟨fun z => ?_, fun z => ?_⟩⟩
            · simp (disch := omega) only [nl_0, nl_1, nl_2, nl_3, nl_4, nl_5, nl_6, nl_7, nl_8, nl_9, nl_10, nl_11, nl_12, nl_13, nl_14, nl_15, nl_16, nl_17, nl_18, nl_19, nl_20, nl_21, nl_22, nl_23, nl_24, nl_25, nl_26, nl_27, nl_28, nl_31, nl_32, nl_42, nl_44, nl_46, nl_48, nl_49, nl_50, nl_51, nl_60, nl_75, nl_76, nl_99, nl_100, nl_108, nl_114, nl_117, nl_126, nl_255, nl_999, nl_2401, nl_9999, nl_12345, nl_65536, nl_1000000, nl_1103515245, nl_2147483647, iI_0, iI_neg, iI_add, iI_sub, iI_mul, iI_div, iI_mod, iI_lt, iI_le, iI_eq, iI_nat, iI_vp, ld_rd, ld_wl, lu_s, lu_t, lu_c, lu_j, forall_eq, Int.toNat_natCast, true_and, and_true, not_true, not_false_iff, Classical.not_not, forall_const, iI_inj] at z
              omega
            · refine ⟨_, _, sp_mOver (by omega) (by omega) hA, ?_⟩
              rw [if_pos (show A 2 0 (c : Int).toNat ≠ 25 by rw [Int.toNat_natCast]; exact ho)]
              refine ⟨fun h => absurd h (by decide), fun _ => ⟨fun z2 => ?_, fun z2 => ?_⟩⟩
              · simp (disch := omega) only [nl_0, nl_1, nl_2, nl_3, nl_4, nl_5, nl_6, nl_7, nl_8, nl_9, nl_10, nl_11, nl_12, nl_13, nl_14, nl_15, nl_16, nl_17, nl_18, nl_19, nl_20, nl_21, nl_22, nl_23, nl_24, nl_25, nl_26, nl_27, nl_28, nl_31, nl_32, nl_42, nl_44, nl_46, nl_48, nl_49, nl_50, nl_51, nl_60, nl_75, nl_76, nl_99, nl_100, nl_108, nl_114, nl_117, nl_126, nl_255, nl_999, nl_2401, nl_9999, nl_12345, nl_65536, nl_1000000, nl_1103515245, nl_2147483647, iI_0, iI_neg, iI_add, iI_sub, iI_mul, iI_div, iI_mod, iI_lt, iI_le, iI_eq, iI_nat, iI_vp, ld_rd, ld_wl, lu_s, lu_t, lu_c, lu_j, forall_eq, Int.toNat_natCast, true_and, and_true, not_true, not_false_iff, Classical.not_not, forall_const, iI_inj] at z2
                omega
              · simp (disch := omega) only [nl_0, nl_1, nl_2, nl_3, nl_4, nl_5, nl_6, nl_7, nl_8, nl_9, nl_10, nl_11, nl_12, nl_13, nl_14, nl_15, nl_16, nl_17, nl_18, nl_19, nl_20, nl_21, nl_22, nl_23, nl_24, nl_25, nl_26, nl_27, nl_28, nl_31, nl_32, nl_42, nl_44, nl_46, nl_48, nl_49, nl_50, nl_51, nl_60, nl_75, nl_76, nl_99, nl_100, nl_108, nl_114, nl_117, nl_126, nl_255, nl_999, nl_2401, nl_9999, nl_12345, nl_65536, nl_1000000, nl_1103515245, nl_2147483647, iI_0, iI_neg, iI_add, iI_sub, iI_mul, iI_div, iI_mod, iI_lt, iI_le, iI_eq, iI_nat, iI_vp, ld_rd, ld_wl, lu_s, lu_t, lu_c, lu_j, forall_eq, Int.toNat_natCast, true_and, and_true, not_true, not_false_iff, Classical.not_not, forall_const, iI_inj, ld_p, hrc]
                rw [wl_ld (by decide)]
                exact hRn e he P hP hQ
          · obtain ⟨M', b, hT, hRn⟩ := down (fun _ => hb)
            refine ⟨M', b, hT, fun e he P hP hQ => rg_m_turns_24 hP ⟨fun z => ?_, fun z => ?_⟩⟩
            · simp (disch := omega) only [nl_0, nl_1, nl_2, nl_3, nl_4, nl_5, nl_6, nl_7, nl_8, nl_9, nl_10, nl_11, nl_12, nl_13, nl_14, nl_15, nl_16, nl_17, nl_18, nl_19, nl_20, nl_21, nl_22, nl_23, nl_24, nl_25, nl_26, nl_27, nl_28, nl_31, nl_32, nl_42, nl_44, nl_46, nl_48, nl_49, nl_50, nl_51, nl_60, nl_75, nl_76, nl_99, nl_100, nl_108, nl_114, nl_117, nl_126, nl_255, nl_999, nl_2401, nl_9999, nl_12345, nl_65536, nl_1000000, nl_1103515245, nl_2147483647, iI_0, iI_neg, iI_add, iI_sub, iI_mul, iI_div, iI_mod, iI_lt, iI_le, iI_eq, iI_nat, iI_vp, ld_rd, ld_wl, lu_s, lu_t, lu_c, lu_j, forall_eq, Int.toNat_natCast, true_and, and_true, not_true, not_false_iff, Classical.not_not, forall_const, iI_inj] at z
              omega
            · refine ⟨_, _, sp_mOver (by omega) (by omega) hA, ?_⟩
              rw [if_pos (show A 2 0 (c : Int).toNat ≠ 25 by rw [Int.toNat_natCast]; exact ho)]
              refine ⟨fun h => absurd h (by decide), fun _ => ⟨fun z2 => ?_, fun z2 => ?_⟩⟩
              · simp (disch := omega) only [nl_0, nl_1, nl_2, nl_3, nl_4, nl_5, nl_6, nl_7, nl_8, nl_9, nl_10, nl_11, nl_12, nl_13, nl_14, nl_15, nl_16, nl_17, nl_18, nl_19, nl_20, nl_21, nl_22, nl_23, nl_24, nl_25, nl_26, nl_27, nl_28, nl_31, nl_32, nl_42, nl_44, nl_46, nl_48, nl_49, nl_50, nl_51, nl_60, nl_75, nl_76, nl_99, nl_100, nl_108, nl_114, nl_117, nl_126, nl_255, nl_999, nl_2401, nl_9999, nl_12345, nl_65536, nl_1000000, nl_1103515245, nl_2147483647, iI_0, iI_neg, iI_add, iI_sub, iI_mul, iI_div, iI_mod, iI_lt, iI_le, iI_eq, iI_nat, iI_vp, ld_rd, ld_wl, lu_s, lu_t, lu_c, lu_j, forall_eq, Int.toNat_natCast, true_and, and_true, not_true, not_false_iff, Classical.not_not, forall_const, iI_inj, ld_p, hrc]
                exact hRn e he P hP hQ
              · simp (disch := omega) only [nl_0, nl_1, nl_2, nl_3, nl_4, nl_5, nl_6, nl_7, nl_8, nl_9, nl_10, nl_11, nl_12, nl_13, nl_14, nl_15, nl_16, nl_17, nl_18, nl_19, nl_20, nl_21, nl_22, nl_23, nl_24, nl_25, nl_26, nl_27, nl_28, nl_31, nl_32, nl_42, nl_44, nl_46, nl_48, nl_49, nl_50, nl_51, nl_60, nl_75, nl_76, nl_99, nl_100, nl_108, nl_114, nl_117, nl_126, nl_255, nl_999, nl_2401, nl_9999, nl_12345, nl_65536, nl_1000000, nl_1103515245, nl_2147483647, iI_0, iI_neg, iI_add, iI_sub, iI_mul, iI_div, iI_mod, iI_lt, iI_le, iI_eq, iI_nat, iI_vp, ld_rd, ld_wl, lu_s, lu_t, lu_c, lu_j, forall_eq, Int.toNat_natCast, true_and, and_true, not_true, not_false_iff, Classical.not_not, forall_const, iI_inj] at z2
                omega
    obtain ⟨M', b, hT, hRn⟩ := key 0 (Nat.zero_le _) (fun j' a1 a2 => by omega)
    refine ⟨M', b, fun d hd => en_m_turns (k := 2) hd fun e he P hP hQ => rg_m_turns_0 hP ⟨_, _, sp_mlastOver (by omega) hA, ?_⟩, hT⟩
    have hrl : M 33 66 0 l = iI (r l : Int) := hR l (by omega)
    have hsl : sn r (l + 1) = sn r l + r l := sn_s r l
    have e1 : (k : Int) - sn r (l - 0) = (r l : Int) := by
      rw [Nat.sub_zero]
      omega
    have e2 : (l : Int) - 1 - ((0 : Nat) : Int) = (l : Int) - 1 := Int.sub_zero _
    rw [e1, e2] at hRn
    rw [el]
    simp (disch := omega) only [nl_0, nl_1, nl_2, nl_3, nl_4, nl_5, nl_6, nl_7, nl_8, nl_9, nl_10, nl_11, nl_12, nl_13, nl_14, nl_15, nl_16, nl_17, nl_18, nl_19, nl_20, nl_21, nl_22, nl_23, nl_24, nl_25, nl_26, nl_27, nl_28, nl_31, nl_32, nl_42, nl_44, nl_46, nl_48, nl_49, nl_50, nl_51, nl_60, nl_75, nl_76, nl_99, nl_100, nl_108, nl_114, nl_117, nl_126, nl_255, nl_999, nl_2401, nl_9999, nl_12345, nl_65536, nl_1000000, nl_1103515245, nl_2147483647, iI_0, iI_neg, iI_add, iI_sub, iI_mul, iI_div, iI_mod, iI_lt, iI_le, iI_eq, iI_nat, iI_vp, ld_rd, ld_wl, lu_s, lu_t, lu_c, lu_j, forall_eq, Int.toNat_natCast, true_and, and_true, not_true, not_false_iff, Classical.not_not, forall_const, iI_inj, ld_p, hrl]
    exact ⟨fun _ => hRn e he P hP hQ, fun h => by omega⟩
  · have eg : lo A (nC A) = -1 := by omega
    refine ⟨M, 0, fun d hd => en_m_turns (k := 2) hd fun e he P hP hQ => rg_m_turns_0 hP ⟨_, _, sp_mlastOver (by omega) hA, ?_⟩, fr.r0, Or.inl ⟨rfl, fun q hq ⟨p, hp, _, lt⟩ => ?_⟩⟩
    · rw [eg]
      simp (disch := omega) only [nl_0, nl_1, nl_2, nl_3, nl_4, nl_5, nl_6, nl_7, nl_8, nl_9, nl_10, nl_11, nl_12, nl_13, nl_14, nl_15, nl_16, nl_17, nl_18, nl_19, nl_20, nl_21, nl_22, nl_23, nl_24, nl_25, nl_26, nl_27, nl_28, nl_31, nl_32, nl_42, nl_44, nl_46, nl_48, nl_49, nl_50, nl_51, nl_60, nl_75, nl_76, nl_99, nl_100, nl_108, nl_114, nl_117, nl_126, nl_255, nl_999, nl_2401, nl_9999, nl_12345, nl_65536, nl_1000000, nl_1103515245, nl_2147483647, iI_0, iI_neg, iI_add, iI_sub, iI_mul, iI_div, iI_mod, iI_lt, iI_le, iI_eq, iI_nat, iI_vp, ld_rd, ld_wl, lu_s, lu_t, lu_c, lu_j, forall_eq, Int.toNat_natCast, true_and, and_true, not_true, not_false_iff, Classical.not_not, forall_const, iI_inj]
      refine ⟨fun h => by omega, fun _ => rg_m_turns_24 hP ⟨fun _ => by (first | exact mj_eq.rf | exact fi_n mj_eq.rf | exact fi_i rfl mj_eq.rf | exact rfl), fun z => ?_⟩⟩
      simp (disch := omega) only [nl_0, nl_1, nl_2, nl_3, nl_4, nl_5, nl_6, nl_7, nl_8, nl_9, nl_10, nl_11, nl_12, nl_13, nl_14, nl_15, nl_16, nl_17, nl_18, nl_19, nl_20, nl_21, nl_22, nl_23, nl_24, nl_25, nl_26, nl_27, nl_28, nl_31, nl_32, nl_42, nl_44, nl_46, nl_48, nl_49, nl_50, nl_51, nl_60, nl_75, nl_76, nl_99, nl_100, nl_108, nl_114, nl_117, nl_126, nl_255, nl_999, nl_2401, nl_9999, nl_12345, nl_65536, nl_1000000, nl_1103515245, nl_2147483647, iI_0, iI_neg, iI_add, iI_sub, iI_mul, iI_div, iI_mod, iI_lt, iI_le, iI_eq, iI_nat, iI_vp, ld_rd, ld_wl, lu_s, lu_t, lu_c, lu_j, forall_eq, Int.toNat_natCast, true_and, and_true, not_true, not_false_iff, Classical.not_not, forall_const, iI_inj] at z
      omega
    · have ho : op A p := Classical.byContradiction fun ho => by
        have := hq.1 p hp ho
        omega
      exact ho.2 (hl.2.2.1 p (by omega) ho.1)
