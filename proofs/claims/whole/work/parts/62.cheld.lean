/-! contracts: the class's rows -/
theorem sp_layChoices {k : Nat} {A : lA} {N : mj_M} {ph : Nat → Nat} (hk : k ≤ 4) (hph : ∀ v, v < k → ph v < 7 ∧ ch A (ph v)) (hidx : ∀ v, v < k → N 12 36 0 v = iI (cn A (ph v) : Int)) (ho : ∀ x, x < 7 → ch A x → N 12 31 0 (cn A x) = iI (x : Int)) : ∃ N', (∀ d, 2 ≤ d → mj_Sp d 64 [mj_r (12, 30, 0), mj_i (iI (k : Int))] N none N') ∧ fr [12] N N' ∧ (∀ t c j, t ≠ 35 → N' 12 t c j = N 12 t c j) ∧ ∀ c, c < 7 → N' 12 35 0 c = iI (sB ph k c : Int) := by
  have h7 := cn_le (A := A) 7
  have key : ∀ v, v ≤ k → ∀ N1, fr [12] N N1 → (∀ t c j, t ≠ 35 → N1 12 t c j = N 12 t c j) → (∀ c, c < 7 → N1 12 35 0 c = iI (sB ph v c : Int)) → ∃ N', (fr [12] N N' ∧ (∀ t c j, t ≠ 35 → N' 12 t c j = N 12 t c j) ∧ ∀ c, c < 7 → N' 12 35 0 c = iI (sB ph k c : Int)) ∧ Rn mj_c64 1 10 [some (mj_r (12, 30, 0)), some (mj_i (iI (k : Int))), some (mj_i (iI (v : Int)))] N1 none N' := by
    refine lp_dn (Q := fun v => ∀ N1, fr [12] N N1 → (∀ t c j, t ≠ 35 → N1 12 t c j = N 12 t c j) → (∀ c, c < 7 → N1 12 35 0 c = iI (sB ph v c : Int)) → ∃ N', (fr [12] N N' ∧ (∀ t c j, t ≠ 35 → N' 12 t c j = N 12 t c j) ∧ ∀ c, c < 7 → N' 12 35 0 c = iI (sB ph k c : Int)) ∧ Rn mj_c64 1 10 [some (mj_r (12, 30, 0)), some (mj_i (iI (k : Int))), some (mj_i (iI (v : Int)))] N1 none N') (n := k) (fun N1 hf hs hb => ?_) (fun v hv ih N1 hf hs hb => ?_)
    · refine ⟨N1, ⟨hf, hs, hb⟩, fun e he P hP hQ => rg_Ly_layChoices_10 hP ⟨fun z => by (first | exact mj_eq.rf | exact fi_n mj_eq.rf | exact fi_i rfl mj_eq.rf | exact rfl), fun z => ?_⟩⟩
      simp (disch := omega) only [nl_0, nl_1, nl_2, nl_3, nl_4, nl_5, nl_6, nl_7, nl_8, nl_9, nl_10, nl_11, nl_12, nl_13, nl_14, nl_15, nl_16, nl_17, nl_18, nl_19, nl_20, nl_21, nl_22, nl_23, nl_24, nl_25, nl_26, nl_27, nl_28, nl_31, nl_32, nl_42, nl_44, nl_46, nl_48, nl_49, nl_50, nl_51, nl_60, nl_75, nl_76, nl_99, nl_100, nl_108, nl_114, nl_117, nl_126, nl_255, nl_999, nl_2401, nl_9999, nl_12345, nl_65536, nl_1000000, nl_1103515245, nl_2147483647, iI_0, iI_neg, iI_add, iI_sub, iI_mul, iI_div, iI_mod, iI_lt, iI_le, iI_eq, iI_nat, iI_vp, ld_rd, ld_wl, lu_s, lu_t, lu_c, lu_j, forall_eq, Int.toNat_natCast, true_and, and_true, not_true, not_false_iff, Classical.not_not, forall_const, iI_inj] at z
      omega
    · obtain ⟨p1, p2⟩ := hph v hv
      have hl := cn_lt p2 p1
      have e1 : N1 12 36 0 v = iI (cn A (ph v) : Int) := by rw [hs _ _ _ (by decide)]; exact hidx v hv
      have e2 : N1 12 31 0 (cn A (ph v)) = iI (ph v : Int) := by rw [hs _ _ _ (by decide)]; exact ho (ph v) p1 p2
      have e3 := hb (ph v) p1
      have hv4 : v < 4 := by omega
      have e4 := b_one hv4
      have hs16 : sB ph v (ph v) < 16 := sB_16 (by omega)
      have hl16 : 1 <<< v < 16 := by
        have : ∀ v : Fin 4, 1 <<< v.val < 16 := by decide
        exact this ⟨v, hv4⟩
      have e5 := b_or (l := 1 <<< v) hs16 hl16
      have e6 : sB ph (v + 1) (ph v) = sB ph v (ph v) ||| 1 <<< v := by
        show sB ph v (ph v) ||| (if ph v = ph v then 1 <<< v else 0) = _
        rw [if_pos rfl]
      obtain ⟨N', hG, hR⟩ := ih (mj_wl N1 (12, 35, 0, ph v) (iI ((sB ph v (ph v) ||| 1 <<< v : Nat) : Int))) (hf.wl (by decide)) (fun t c j ht => by rw [wl_n (by omega)]; exact hs t c j ht) (fun c hc => by
        by_cases g : c = ph v
        · rw [g, wl_s, e6]
        · rw [wl_n (by omega), hb c hc]
          have : sB ph (v + 1) c = sB ph v c := by
            show sB ph v c ||| (if c = ph v then 1 <<< v else 0) = _
            rw [if_neg g, Nat.or_zero]
          rw [this])
      refine ⟨N', hG, fun e he P hP hQ => rg_Ly_layChoices_10 hP ⟨fun z => ?_, fun z => ?_⟩⟩
      · simp (disch := omega) only [nl_0, nl_1, nl_2, nl_3, nl_4, nl_5, nl_6, nl_7, nl_8, nl_9, nl_10, nl_11, nl_12, nl_13, nl_14, nl_15, nl_16, nl_17, nl_18, nl_19, nl_20, nl_21, nl_22, nl_23, nl_24, nl_25, nl_26, nl_27, nl_28, nl_31, nl_32, nl_42, nl_44, nl_46, nl_48, nl_49, nl_50, nl_51, nl_60, nl_75, nl_76, nl_99, nl_100, nl_108, nl_114, nl_117, nl_126, nl_255, nl_999, nl_2401, nl_9999, nl_12345, nl_65536, nl_1000000, nl_1103515245, nl_2147483647, iI_0, iI_neg, iI_add, iI_sub, iI_mul, iI_div, iI_mod, iI_lt, iI_le, iI_eq, iI_nat, iI_vp, ld_rd, ld_wl, lu_s, lu_t, lu_c, lu_j, forall_eq, Int.toNat_natCast, true_and, and_true, not_true, not_false_iff, Classical.not_not, forall_const, iI_inj] at z
        omega
      · simp (disch := omega) only [nl_0, nl_1, nl_2, nl_3, nl_4, nl_5, nl_6, nl_7, nl_8, nl_9, nl_10, nl_11, nl_12, nl_13, nl_14, nl_15, nl_16, nl_17, nl_18, nl_19, nl_20, nl_21, nl_22, nl_23, nl_24, nl_25, nl_26, nl_27, nl_28, nl_31, nl_32, nl_42, nl_44, nl_46, nl_48, nl_49, nl_50, nl_51, nl_60, nl_75, nl_76, nl_99, nl_100, nl_108, nl_114, nl_117, nl_126, nl_255, nl_999, nl_2401, nl_9999, nl_12345, nl_65536, nl_1000000, nl_1103515245, nl_2147483647, iI_0, iI_neg, iI_add, iI_sub, iI_mul, iI_div, iI_mod, iI_lt, iI_le, iI_eq, iI_nat, iI_vp, ld_rd, ld_wl, lu_s, lu_t, lu_c, lu_j, forall_eq, Int.toNat_natCast, true_and, and_true, not_true, not_false_iff, Classical.not_not, forall_const, iI_inj, e1, e2, e3, e4, e5]
        exact hR e he P hP hQ
  obtain ⟨N', hG, hR⟩ := key 0 (Nat.zero_le _) (mj_fl N 12 35 0 7 (iI 0)) (fun i hi => fl_p (fun e => hi (by rw [e]; decide))) (fun t c j ht => fl_ne (by omega)) (fun c hc => by rw [fl_at hc]; rfl)
  refine ⟨N', fun d hd => en_Ly_layChoices (k := 1) hd fun e he P hP hQ => rg_Ly_layChoices_0 hP ?_, hG⟩
  simp (disch := omega) only [nl_0, nl_1, nl_2, nl_3, nl_4, nl_5, nl_6, nl_7, nl_8, nl_9, nl_10, nl_11, nl_12, nl_13, nl_14, nl_15, nl_16, nl_17, nl_18, nl_19, nl_20, nl_21, nl_22, nl_23, nl_24, nl_25, nl_26, nl_27, nl_28, nl_31, nl_32, nl_42, nl_44, nl_46, nl_48, nl_49, nl_50, nl_51, nl_60, nl_75, nl_76, nl_99, nl_100, nl_108, nl_114, nl_117, nl_126, nl_255, nl_999, nl_2401, nl_9999, nl_12345, nl_65536, nl_1000000, nl_1103515245, nl_2147483647, iI_0, iI_neg, iI_add, iI_sub, iI_mul, iI_div, iI_mod, iI_lt, iI_le, iI_eq, iI_nat, iI_vp, ld_rd, ld_wl, lu_s, lu_t, lu_c, lu_j, forall_eq, Int.toNat_natCast, true_and, and_true, not_true, not_false_iff, Classical.not_not, forall_const, iI_inj]
  exact ⟨_, sp_fill (i := 12) (t := 35) (c := 0) (n := 7) (by omega) (by decide) rfl rfl (by decide), hR e he P hP hQ⟩
theorem sp_isAsTold {d k L n m s i : Nat} {A : lA} {N : mj_M} {S F it : Nat → Int} {sb : Nat → Nat} (hd : 2 ≤ d) (hA : LJ A) (hk : k = nV A) (hP : PR A L n S F m N) (hm : m ≤ 12) (hs : ∀ c, c < 6 → op A c → N 12 35 0 c = iI (sb c : Int) ∧ sb c < 16 ∧ sb c &&& L = sb c) (src : ∀ t c j, t < 10 → N 0 t c j = iI (A t c j)) (hit : ∀ j, j < 25 → N 7 48 s j = iI (it j)) (hir : ∀ j, iR (it j)) (hi : i + k ≤ 25) : mj_Sp d 65 [mj_r (12, 30, 0), mj_r (0, 0, 0), mj_r (7, 48, s), mj_i (iI (i : Int))] N (some (mj_i (iI (if ∀ v, v < k → A 8 0 v + gsum A L n S F m sb v 6 = it (i + v) then 1 else 0)))) N := by
  have hnv := hA.li.nv
  have hho := hA.ho
  have nv0 : N 0 0 0 1 = iI (k : Int) := by rw [src _ _ _ (by decide), hnv.1, hk]
  refine en_Ly_isAsTold (k := 1) hd fun e he P hP' hQ => rg_Ly_isAsTold_0 hP' ?_
  refine lp_dn (Q := fun v => (∀ v', v' < v → A 8 0 v' + gsum A L n S F m sb v' 6 = it (i + v')) → P 3 [some (mj_r (12, 30, 0)), some (mj_r (0, 0, 0)), some (mj_r (7, 48, s)), some (mj_i (iI (i : Int))), some (mj_i (iI (v : Int)))] [] N) (n := k) (fun hall => ?_) (fun v hv ih hall => ?_) 0 (Nat.zero_le _) (fun v h => absurd h (Nat.not_lt_zero v))
  · refine rg_Ly_isAsTold_3 hP' ⟨fun z => ?_, fun z => ?_⟩
    · rw [if_pos hall]
      (first | exact mj_eq.rf | exact fi_n mj_eq.rf | exact fi_i rfl mj_eq.rf | exact rfl)
    · simp (disch := omega) only [nl_0, nl_1, nl_2, nl_3, nl_4, nl_5, nl_6, nl_7, nl_8, nl_9, nl_10, nl_11, nl_12, nl_13, nl_14, nl_15, nl_16, nl_17, nl_18, nl_19, nl_20, nl_21, nl_22, nl_23, nl_24, nl_25, nl_26, nl_27, nl_28, nl_31, nl_32, nl_42, nl_44, nl_46, nl_48, nl_49, nl_50, nl_51, nl_60, nl_75, nl_76, nl_99, nl_100, nl_108, nl_114, nl_117, nl_126, nl_255, nl_999, nl_2401, nl_9999, nl_12345, nl_65536, nl_1000000, nl_1103515245, nl_2147483647, iI_0, iI_neg, iI_add, iI_sub, iI_mul, iI_div, iI_mod, iI_lt, iI_le, iI_eq, iI_nat, iI_vp, ld_rd, ld_wl, lu_s, lu_t, lu_c, lu_j, forall_eq, Int.toNat_natCast, true_and, and_true, not_true, not_false_iff, Classical.not_not, forall_const, iI_inj, nv0] at z
      omega
  · have hwe := hA.we (v := v) (by omega)
    have hgr := gsum_r hA (L := L) (n := n) (m := m) (v := v) (S := S) (F := F) (s := sb)
    have hi2 := hir (i + v)
    unfold iR at hi2
    have r8 : N 0 8 0 v = iI (A 8 0 v) := src _ _ _ (by decide)
    have hlen : mj_len N (7, 48, s) = 25 := rfl
    have t1 : ((i : Int) + (v : Int)).toNat = i + v := by omega
    have hrd : mj_rd N (7, 48, s) (i + v) = iI (it (i + v)) := by
      unfold mj_rd
      rw [mj_aloc_p (show 48 < 60 by decide)]
      exact hit (i + v) (by omega)
    refine rg_Ly_isAsTold_3 hP' ⟨fun z => ?_, fun z => ?_⟩
    · simp (disch := omega) only [nl_0, nl_1, nl_2, nl_3, nl_4, nl_5, nl_6, nl_7, nl_8, nl_9, nl_10, nl_11, nl_12, nl_13, nl_14, nl_15, nl_16, nl_17, nl_18, nl_19, nl_20, nl_21, nl_22, nl_23, nl_24, nl_25, nl_26, nl_27, nl_28, nl_31, nl_32, nl_42, nl_44, nl_46, nl_48, nl_49, nl_50, nl_51, nl_60, nl_75, nl_76, nl_99, nl_100, nl_108, nl_114, nl_117, nl_126, nl_255, nl_999, nl_2401, nl_9999, nl_12345, nl_65536, nl_1000000, nl_1103515245, nl_2147483647, iI_0, iI_neg, iI_add, iI_sub, iI_mul, iI_div, iI_mod, iI_lt, iI_le, iI_eq, iI_nat, iI_vp, ld_rd, ld_wl, lu_s, lu_t, lu_c, lu_j, forall_eq, Int.toNat_natCast, true_and, and_true, not_true, not_false_iff, Classical.not_not, forall_const, iI_inj, nv0] at z
      omega
    · simp (disch := omega) only [nl_0, nl_1, nl_2, nl_3, nl_4, nl_5, nl_6, nl_7, nl_8, nl_9, nl_10, nl_11, nl_12, nl_13, nl_14, nl_15, nl_16, nl_17, nl_18, nl_19, nl_20, nl_21, nl_22, nl_23, nl_24, nl_25, nl_26, nl_27, nl_28, nl_31, nl_32, nl_42, nl_44, nl_46, nl_48, nl_49, nl_50, nl_51, nl_60, nl_75, nl_76, nl_99, nl_100, nl_108, nl_114, nl_117, nl_126, nl_255, nl_999, nl_2401, nl_9999, nl_12345, nl_65536, nl_1000000, nl_1103515245, nl_2147483647, iI_0, iI_neg, iI_add, iI_sub, iI_mul, iI_div, iI_mod, iI_lt, iI_le, iI_eq, iI_nat, iI_vp, ld_rd, ld_wl, lu_s, lu_t, lu_c, lu_j, forall_eq, Int.toNat_natCast, true_and, and_true, not_true, not_false_iff, Classical.not_not, forall_const, iI_inj]
      refine ⟨_, _, sp_gainOf (by omega) hA.li hP hs (by omega), ?_⟩
      rw [hlen]
      simp (disch := omega) only [nl_0, nl_1, nl_2, nl_3, nl_4, nl_5, nl_6, nl_7, nl_8, nl_9, nl_10, nl_11, nl_12, nl_13, nl_14, nl_15, nl_16, nl_17, nl_18, nl_19, nl_20, nl_21, nl_22, nl_23, nl_24, nl_25, nl_26, nl_27, nl_28, nl_31, nl_32, nl_42, nl_44, nl_46, nl_48, nl_49, nl_50, nl_51, nl_60, nl_75, nl_76, nl_99, nl_100, nl_108, nl_114, nl_117, nl_126, nl_255, nl_999, nl_2401, nl_9999, nl_12345, nl_65536, nl_1000000, nl_1103515245, nl_2147483647, iI_0, iI_neg, iI_add, iI_sub, iI_mul, iI_div, iI_mod, iI_lt, iI_le, iI_eq, iI_nat, iI_vp, ld_rd, ld_wl, lu_s, lu_t, lu_c, lu_j, forall_eq, Int.toNat_natCast, true_and, and_true, not_true, not_false_iff, Classical.not_not, forall_const, iI_inj, r8, t1, hrd]
      refine ⟨fun z2 => ih fun v' hv' => ?_, fun z2 => ?_⟩
      · by_cases e : v' = v
        · subst e; exact z2
        · exact hall v' (by omega)
      · rw [if_neg (fun h => z2 (h v hv))]
        (first | exact mj_eq.rf | exact fi_n mj_eq.rf | exact fi_i rfl mj_eq.rf | exact rfl)
theorem sp_noteRow {k fc : Nat} {A : lA} {N : mj_M} {ph : Nat → Nat} (hk : k ≤ 4) (hph : ∀ v, v < k → ph v < 7 ∧ ch A (ph v)) (hidx : ∀ v, v < k → N 12 36 0 v = iI (cn A (ph v) : Int)) (ho : ∀ x, x < 7 → ch A x → N 12 31 0 (cn A x) = iI (x : Int)) (hfc : fc ≤ 100000) (hf : N 12 30 0 1 = iI (fc : Int)) : ∃ N', (∀ d, 1 ≤ d → mj_Sp d 66 [mj_r (12, 30, 0), mj_i (iI (k : Int))] N none N') ∧ fr [12] N N' ∧ (∀ t c j, t ≠ 41 → (t ≠ 30 ∨ j ≠ 1) → N' 12 t c j = N 12 t c j) ∧ N' 12 30 0 1 = iI ((fc : Int) + 1) ∧ ∀ v, v < k → N' 12 41 0 v = if fc = 0 then iI (ph v : Int) else N 12 41 0 v := by
  have h7 := cn_le (A := A) 7
  by_cases g : fc = 0
  · subst g
    have key : ∀ v, v ≤ k → ∀ N1, fr [12] N N1 → (∀ t c j, t ≠ 41 → N1 12 t c j = N 12 t c j) → (∀ v', v' < v → N1 12 41 0 v' = iI (ph v' : Int)) → ∃ N', (fr [12] N N' ∧ (∀ t c j, t ≠ 41 → (t ≠ 30 ∨ j ≠ 1) → N' 12 t c j = N 12 t c j) ∧ N' 12 30 0 1 = iI (((0 : Nat) : Int) + 1) ∧ ∀ v, v < k → N' 12 41 0 v = iI (ph v : Int)) ∧ Rn mj_c66 0 9 [some (mj_r (12, 30, 0)), some (mj_i (iI (k : Int))), some (mj_i (iI (v : Int)))] N1 none N' := by
      refine lp_dn (Q := fun v => ∀ N1, fr [12] N N1 → (∀ t c j, t ≠ 41 → N1 12 t c j = N 12 t c j) → (∀ v', v' < v → N1 12 41 0 v' = iI (ph v' : Int)) → ∃ N', (fr [12] N N' ∧ (∀ t c j, t ≠ 41 → (t ≠ 30 ∨ j ≠ 1) → N' 12 t c j = N 12 t c j) ∧ N' 12 30 0 1 = iI (((0 : Nat) : Int) + 1) ∧ ∀ v, v < k → N' 12 41 0 v = iI (ph v : Int)) ∧ Rn mj_c66 0 9 [some (mj_r (12, 30, 0)), some (mj_i (iI (k : Int))), some (mj_i (iI (v : Int)))] N1 none N') (n := k) (fun N1 hf1 hs hp => ?_) (fun v hv ih N1 hf1 hs hp => ?_)
      · refine ⟨mj_wl N1 (12, 30, 0, 1) (iI (((0 : Nat) : Int) + 1)), ⟨hf1.wl (by decide), fun t c j h1 h2 => by rw [wl_n (by omega)]; exact hs t c j h1, wl_s, fun v hv => by rw [wl_n (by omega)]; exact hp v hv⟩, fun e he P hP hQ => rg_Ly_noteRow_9 hP ⟨fun z => ?_, fun z => ?_⟩⟩
        · have e0 : N1 12 30 0 1 = iI ((0 : Nat) : Int) := by rw [hs _ _ _ (by decide)]; exact hf
          simp (disch := omega) only [nl_0, nl_1, nl_2, nl_3, nl_4, nl_5, nl_6, nl_7, nl_8, nl_9, nl_10, nl_11, nl_12, nl_13, nl_14, nl_15, nl_16, nl_17, nl_18, nl_19, nl_20, nl_21, nl_22, nl_23, nl_24, nl_25, nl_26, nl_27, nl_28, nl_31, nl_32, nl_42, nl_44, nl_46, nl_48, nl_49, nl_50, nl_51, nl_60, nl_75, nl_76, nl_99, nl_100, nl_108, nl_114, nl_117, nl_126, nl_255, nl_999, nl_2401, nl_9999, nl_12345, nl_65536, nl_1000000, nl_1103515245, nl_2147483647, iI_0, iI_neg, iI_add, iI_sub, iI_mul, iI_div, iI_mod, iI_lt, iI_le, iI_eq, iI_nat, iI_vp, ld_rd, ld_wl, lu_s, lu_t, lu_c, lu_j, forall_eq, Int.toNat_natCast, true_and, and_true, not_true, not_false_iff, Classical.not_not, forall_const, iI_inj, e0]
          (first | exact mj_eq.rf | exact fi_n mj_eq.rf | exact fi_i rfl mj_eq.rf | exact rfl)
        · simp (disch := omega) only [nl_0, nl_1, nl_2, nl_3, nl_4, nl_5, nl_6, nl_7, nl_8, nl_9, nl_10, nl_11, nl_12, nl_13, nl_14, nl_15, nl_16, nl_17, nl_18, nl_19, nl_20, nl_21, nl_22, nl_23, nl_24, nl_25, nl_26, nl_27, nl_28, nl_31, nl_32, nl_42, nl_44, nl_46, nl_48, nl_49, nl_50, nl_51, nl_60, nl_75, nl_76, nl_99, nl_100, nl_108, nl_114, nl_117, nl_126, nl_255, nl_999, nl_2401, nl_9999, nl_12345, nl_65536, nl_1000000, nl_1103515245, nl_2147483647, iI_0, iI_neg, iI_add, iI_sub, iI_mul, iI_div, iI_mod, iI_lt, iI_le, iI_eq, iI_nat, iI_vp, ld_rd, ld_wl, lu_s, lu_t, lu_c, lu_j, forall_eq, Int.toNat_natCast, true_and, and_true, not_true, not_false_iff, Classical.not_not, forall_const, iI_inj] at z
          omega
      · obtain ⟨p1, p2⟩ := hph v hv
        have hl := cn_lt p2 p1
        have e1 : N1 12 36 0 v = iI (cn A (ph v) : Int) := by rw [hs _ _ _ (by decide)]; exact hidx v hv
        have e2 : N1 12 31 0 (cn A (ph v)) = iI (ph v : Int) := by rw [hs _ _ _ (by decide)]; exact ho (ph v) p1 p2
        obtain ⟨N', hG, hR⟩ := ih (mj_wl N1 (12, 41, 0, v) (iI (ph v : Int))) (hf1.wl (by decide)) (fun t c j h1 => by rw [wl_n (by omega)]; exact hs t c j h1) (fun v' hv' => by
          by_cases e : v' = v
          · subst e; exact wl_s
          · rw [wl_n (by omega)]; exact hp v' (by omega))
        refine ⟨N', hG, fun e he P hP hQ => rg_Ly_noteRow_9 hP ⟨fun z => ?_, fun z => ?_⟩⟩
        · simp (disch := omega) only [nl_0, nl_1, nl_2, nl_3, nl_4, nl_5, nl_6, nl_7, nl_8, nl_9, nl_10, nl_11, nl_12, nl_13, nl_14, nl_15, nl_16, nl_17, nl_18, nl_19, nl_20, nl_21, nl_22, nl_23, nl_24, nl_25, nl_26, nl_27, nl_28, nl_31, nl_32, nl_42, nl_44, nl_46, nl_48, nl_49, nl_50, nl_51, nl_60, nl_75, nl_76, nl_99, nl_100, nl_108, nl_114, nl_117, nl_126, nl_255, nl_999, nl_2401, nl_9999, nl_12345, nl_65536, nl_1000000, nl_1103515245, nl_2147483647, iI_0, iI_neg, iI_add, iI_sub, iI_mul, iI_div, iI_mod, iI_lt, iI_le, iI_eq, iI_nat, iI_vp, ld_rd, ld_wl, lu_s, lu_t, lu_c, lu_j, forall_eq, Int.toNat_natCast, true_and, and_true, not_true, not_false_iff, Classical.not_not, forall_const, iI_inj] at z
          omega
        · simp (disch := omega) only [nl_0, nl_1, nl_2, nl_3, nl_4, nl_5, nl_6, nl_7, nl_8, nl_9, nl_10, nl_11, nl_12, nl_13, nl_14, nl_15, nl_16, nl_17, nl_18, nl_19, nl_20, nl_21, nl_22, nl_23, nl_24, nl_25, nl_26, nl_27, nl_28, nl_31, nl_32, nl_42, nl_44, nl_46, nl_48, nl_49, nl_50, nl_51, nl_60, nl_75, nl_76, nl_99, nl_100, nl_108, nl_114, nl_117, nl_126, nl_255, nl_999, nl_2401, nl_9999, nl_12345, nl_65536, nl_1000000, nl_1103515245, nl_2147483647, iI_0, iI_neg, iI_add, iI_sub, iI_mul, iI_div, iI_mod, iI_lt, iI_le, iI_eq, iI_nat, iI_vp, ld_rd, ld_wl, lu_s, lu_t, lu_c, lu_j, forall_eq, Int.toNat_natCast, true_and, and_true, not_true, not_false_iff, Classical.not_not, forall_const, iI_inj, e1, e2]
          exact hR e he P hP hQ
    obtain ⟨N', ⟨g1, g2, g3, g4⟩, hR⟩ := key 0 (Nat.zero_le _) N fr.r0 (fun _ _ _ _ => rfl) (fun v h => absurd h (Nat.not_lt_zero v))
    refine ⟨N', fun d hd => en_Ly_noteRow (k := 0) hd fun e he P hP hQ => rg_Ly_noteRow_0 hP ?_, g1, g2, g3, fun v hv => by rw [if_pos rfl]; exact g4 v hv⟩
    have hf' : N 12 30 0 1 = iI 0 := hf
    simp (disch := omega) only [nl_0, nl_1, nl_2, nl_3, nl_4, nl_5, nl_6, nl_7, nl_8, nl_9, nl_10, nl_11, nl_12, nl_13, nl_14, nl_15, nl_16, nl_17, nl_18, nl_19, nl_20, nl_21, nl_22, nl_23, nl_24, nl_25, nl_26, nl_27, nl_28, nl_31, nl_32, nl_42, nl_44, nl_46, nl_48, nl_49, nl_50, nl_51, nl_60, nl_75, nl_76, nl_99, nl_100, nl_108, nl_114, nl_117, nl_126, nl_255, nl_999, nl_2401, nl_9999, nl_12345, nl_65536, nl_1000000, nl_1103515245, nl_2147483647, iI_0, iI_neg, iI_add, iI_sub, iI_mul, iI_div, iI_mod, iI_lt, iI_le, iI_eq, iI_nat, iI_vp, ld_rd, ld_wl, lu_s, lu_t, lu_c, lu_j, forall_eq, Int.toNat_natCast, true_and, and_true, not_true, not_false_iff, Classical.not_not, forall_const, iI_inj, hf']
    exact ⟨fun z => z.elim, hR e he P hP hQ⟩
  · refine ⟨mj_wl N (12, 30, 0, 1) (iI ((fc : Int) + 1)), fun d hd => en_Ly_noteRow (k := 0) hd fun e he P hP hQ => rg_Ly_noteRow_0 hP ?_, fr.r0.wl (by decide), fun t c j h1 h2 => wl_n (by omega), wl_s, fun v hv => by rw [if_neg g, wl_n (by omega)]⟩
    simp (disch := omega) only [nl_0, nl_1, nl_2, nl_3, nl_4, nl_5, nl_6, nl_7, nl_8, nl_9, nl_10, nl_11, nl_12, nl_13, nl_14, nl_15, nl_16, nl_17, nl_18, nl_19, nl_20, nl_21, nl_22, nl_23, nl_24, nl_25, nl_26, nl_27, nl_28, nl_31, nl_32, nl_42, nl_44, nl_46, nl_48, nl_49, nl_50, nl_51, nl_60, nl_75, nl_76, nl_99, nl_100, nl_108, nl_114, nl_117, nl_126, nl_255, nl_999, nl_2401, nl_9999, nl_12345, nl_65536, nl_1000000, nl_1103515245, nl_2147483647, iI_0, iI_neg, iI_add, iI_sub, iI_mul, iI_div, iI_mod, iI_lt, iI_le, iI_eq, iI_nat, iI_vp, ld_rd, ld_wl, lu_s, lu_t, lu_c, lu_j, forall_eq, Int.toNat_natCast, true_and, and_true, not_true, not_false_iff, Classical.not_not, forall_const, iI_inj, hf]
    exact ⟨fun _ => by (first | exact mj_eq.rf | exact fi_n mj_eq.rf | exact fi_i rfl mj_eq.rf | exact rfl), fun z => by omega⟩
/-- the next row, or none -/
def GO (A : lA) (k : Nat) (ph : Nat → Nat) (N N' : mj_M) (b : Int) : Prop := fr [12] N N' ∧ (∀ t c j, t ≠ 36 → N' 12 t c j = N 12 t c j) ∧ ((b = 0 ∧ ∀ c, cd7 ph k < c → c < 7 ^ k → ¬ vld A k c) ∨ (b = 1 ∧ ∃ ph', (∀ v, v < k → ph' v < 7 ∧ ch A (ph' v)) ∧ (∀ v, v < k → N' 12 36 0 v = iI (cn A (ph' v) : Int)) ∧ cd7 ph k < cd7 ph' k ∧ ∀ c, cd7 ph k < c → c < cd7 ph' k → ¬ vld A k c))
theorem cn_fst (A : lA) : ∃ f, f < 7 ∧ ch A f ∧ cn A f = 0 ∧ ∀ y, y < f → ¬ ch A y := by
  have h7 : cn A 7 = cn A 6 + 1 := cn_y (Or.inl rfl)
  obtain ⟨f, h1, h2, h3⟩ := cn_sur (A := A) 7 0 (by omega)
  refine ⟨f, h1, h2, h3, fun y hy hc => ?_⟩
  have := cn_lt hc hy
  omega
theorem sp_goOn {k : Nat} {A : lA} {N : mj_M} {ph : Nat → Nat} (hk : k ≤ 4) (hph : ∀ v, v < k → ph v < 7 ∧ ch A (ph v)) (h0 : N 12 30 0 0 = iI (cn A 7 : Int)) (hidx : ∀ v, v < k → N 12 36 0 v = iI (cn A (ph v) : Int)) : ∃ N' b, (∀ d, 1 ≤ d → mj_Sp d 67 [mj_r (12, 30, 0), mj_i (iI (k : Int))] N (some (mj_i (iI b))) N') ∧ GO A k ph N N' b := by
  obtain ⟨f, hf7, hfc, hf0, hfg⟩ := cn_fst A
  have h7 : cn A 7 = cn A 6 + 1 := cn_y (Or.inl rfl)
  have h7l := cn_le (A := A) 7
  have key : ∀ j : Nat, j ≤ k → ∀ N1, fr [12] N N1 → (∀ t c j, t ≠ 36 → N1 12 t c j = N 12 t c j) → (∀ v, v < k - j → N1 12 36 0 v = iI (cn A (ph v) : Int)) → (∀ v, k - j ≤ v → v < k → ph v = 6 ∧ N1 12 36 0 v = iI 0) → ∃ N' b, GO A k ph N N' b ∧ Rn mj_c67 0 4 [some (mj_r (12, 30, 0)), some (mj_i (iI (k : Int))), some (mj_i (iI ((k : Int) - 1 - (j : Int))))] N1 (some (mj_i (iI b))) N' := by
    refine lp_dn (Q := fun j => ∀ N1, fr [12] N N1 → (∀ t c j, t ≠ 36 → N1 12 t c j = N 12 t c j) → (∀ v, v < k - j → N1 12 36 0 v = iI (cn A (ph v) : Int)) → (∀ v, k - j ≤ v → v < k → ph v = 6 ∧ N1 12 36 0 v = iI 0) → ∃ N' b, GO A k ph N N' b ∧ Rn mj_c67 0 4 [some (mj_r (12, 30, 0)), some (mj_i (iI (k : Int))), some (mj_i (iI ((k : Int) - 1 - (j : Int))))] N1 (some (mj_i (iI b))) N') (n := k) (fun N1 hf hs hp h6 => ?_) (fun j hj ih N1 hf hs hp h6 => ?_)
    · refine ⟨N1, 0, ⟨hf, hs, Or.inl ⟨rfl, fun c h1 h2 => ?_⟩⟩, fun e he P hP hQ => rg_Ly_goOn_4 hP ⟨fun z => by (first | exact mj_eq.rf | exact fi_n mj_eq.rf | exact fi_i rfl mj_eq.rf | exact rfl), fun z => ?_⟩⟩
      · have := cd_last k (fun v hv => (h6 v (by omega) hv).1)
        omega
      · simp (disch := omega) only [nl_0, nl_1, nl_2, nl_3, nl_4, nl_5, nl_6, nl_7, nl_8, nl_9, nl_10, nl_11, nl_12, nl_13, nl_14, nl_15, nl_16, nl_17, nl_18, nl_19, nl_20, nl_21, nl_22, nl_23, nl_24, nl_25, nl_26, nl_27, nl_28, nl_31, nl_32, nl_42, nl_44, nl_46, nl_48, nl_49, nl_50, nl_51, nl_60, nl_75, nl_76, nl_99, nl_100, nl_108, nl_114, nl_117, nl_126, nl_255, nl_999, nl_2401, nl_9999, nl_12345, nl_65536, nl_1000000, nl_1103515245, nl_2147483647, iI_0, iI_neg, iI_add, iI_sub, iI_mul, iI_div, iI_mod, iI_lt, iI_le, iI_eq, iI_nat, iI_vp, ld_rd, ld_wl, lu_s, lu_t, lu_c, lu_j, forall_eq, Int.toNat_natCast, true_and, and_true, not_true, not_false_iff, Classical.not_not, forall_const, iI_inj] at z
        omega
    · obtain ⟨p, hp1, ep⟩ : ∃ p : Nat, p < k ∧ j = k - 1 - p := ⟨k - 1 - j, by omega, by omega⟩
      have e1 : (k : Int) - 1 - (j : Int) = (p : Int) := by omega
      have e2 : (k : Int) - 1 - ((j + 1 : Nat) : Int) = (p : Int) + -1 := by omega
      have e3 : k - j = p + 1 := by omega
      have e4 : k - (j + 1) = p := by omega
      rw [e1]
      rw [e2, e4] at ih
      rw [e3] at hp h6
      obtain ⟨q1, q2⟩ := hph p hp1
      have hv := hp p (by omega)
      have hl := cn_lt q2 q1
      have h00 : N1 12 30 0 0 = iI (cn A 7 : Int) := by rw [hs _ _ _ (by decide)]; exact h0
      by_cases g : ph p = 6
      · have g1 : cn A (ph p) + 1 = cn A 7 := by rw [g]; omega
        obtain ⟨N', b, hG, hR⟩ := ih (mj_wl (mj_wl N1 (12, 36, 0, p) (iI ((cn A (ph p) : Int) + 1))) (12, 36, 0, p) (iI 0)) ((hf.wl (by decide)).wl (by decide)) (fun t c j ht => by rw [wl_n (by omega), wl_n (by omega)]; exact hs t c j ht) (fun v hv => by rw [wl_n (by omega), wl_n (by omega)]; exact hp v (by omega)) (fun v h1 h2 => by
          by_cases e : v = p
          · subst e
            exact ⟨g, wl_s⟩
          · rw [wl_n (by omega), wl_n (by omega)]
            exact h6 v (by omega) h2)
        refine ⟨N', b, hG, fun e he P hP hQ => rg_Ly_goOn_4 hP ⟨fun z => ?_, fun z => ?_⟩⟩
        · simp (disch := omega) only [nl_0, nl_1, nl_2, nl_3, nl_4, nl_5, nl_6, nl_7, nl_8, nl_9, nl_10, nl_11, nl_12, nl_13, nl_14, nl_15, nl_16, nl_17, nl_18, nl_19, nl_20, nl_21, nl_22, nl_23, nl_24, nl_25, nl_26, nl_27, nl_28, nl_31, nl_32, nl_42, nl_44, nl_46, nl_48, nl_49, nl_50, nl_51, nl_60, nl_75, nl_76, nl_99, nl_100, nl_108, nl_114, nl_117, nl_126, nl_255, nl_999, nl_2401, nl_9999, nl_12345, nl_65536, nl_1000000, nl_1103515245, nl_2147483647, iI_0, iI_neg, iI_add, iI_sub, iI_mul, iI_div, iI_mod, iI_lt, iI_le, iI_eq, iI_nat, iI_vp, ld_rd, ld_wl, lu_s, lu_t, lu_c, lu_j, forall_eq, Int.toNat_natCast, true_and, and_true, not_true, not_false_iff, Classical.not_not, forall_const, iI_inj] at z
          omega
        · have w1 : mj_wl N1 (12, 36, 0, p) (iI ((cn A (ph p) : Int) + 1)) 12 30 0 0 = iI (cn A 7 : Int) := (wl_n (by omega)).trans h00
          have w2 : mj_wl N1 (12, 36, 0, p) (iI ((cn A (ph p) : Int) + 1)) 12 36 0 p = iI ((cn A (ph p) : Int) + 1) := wl_s
          simp (disch := omega) only [nl_0, nl_1, nl_2, nl_3, nl_4, nl_5, nl_6, nl_7, nl_8, nl_9, nl_10, nl_11, nl_12, nl_13, nl_14, nl_15, nl_16, nl_17, nl_18, nl_19, nl_20, nl_21, nl_22, nl_23, nl_24, nl_25, nl_26, nl_27, nl_28, nl_31, nl_32, nl_42, nl_44, nl_46, nl_48, nl_49, nl_50, nl_51, nl_60, nl_75, nl_76, nl_99, nl_100, nl_108, nl_114, nl_117, nl_126, nl_255, nl_999, nl_2401, nl_9999, nl_12345, nl_65536, nl_1000000, nl_1103515245, nl_2147483647, iI_0, iI_neg, iI_add, iI_sub, iI_mul, iI_div, iI_mod, iI_lt, iI_le, iI_eq, iI_nat, iI_vp, ld_rd, ld_wl, lu_s, lu_t, lu_c, lu_j, forall_eq, Int.toNat_natCast, true_and, and_true, not_true, not_false_iff, Classical.not_not, forall_const, iI_inj, hv, w1, w2]
          exact ⟨fun _ => hR e he P hP hQ, fun z => by omega⟩
      · have hlt6 : cn A (ph p) < cn A 6 := cn_lt q2 (by omega)
        obtain ⟨x', x1, x2, x3⟩ := cn_sur (A := A) 7 (cn A (ph p) + 1) (by omega)
        have hx : ph p < x' := Classical.byContradiction fun h => by
          have := cn_mono (A := A) (x := x') (ph p) (by omega)
          omega
        refine ⟨mj_wl N1 (12, 36, 0, p) (iI ((cn A (ph p) : Int) + 1)), 1, ⟨hf.wl (by decide), fun t c j ht => by rw [wl_n (by omega)]; exact hs t c j ht, Or.inr ⟨rfl, fun v => if v < p then ph v else if v = p then x' else f, fun v hv => ?_, fun v hv => ?_, ?_⟩⟩, fun e he P hP hQ => rg_Ly_goOn_4 hP ⟨fun z => ?_, fun z => ?_⟩⟩
        · try dsimp only
          split
          · exact hph v hv
          · split
            · exact ⟨x1, x2⟩
            · exact ⟨hf7, hfc⟩
        · try dsimp only
          by_cases a1 : v < p
          · rw [if_pos a1, wl_n (by omega)]
            exact hp v (by omega)
          · rw [if_neg a1]
            by_cases a2 : v = p
            · rw [if_pos a2, a2, wl_s, x3]
              rfl
            · rw [if_neg a2, wl_n (by omega), hf0]
              exact (h6 v (by omega) hv).2
        · refine cd_next (p := p) (x' := x') (f := f) (fun v hv => if_pos hv) ?_ hx x1 (fun y h1 h2 hc => ?_) hf7 hfg k hp1 (fun v h1 h2 => ⟨(h6 v (by omega) h2).1, ?_⟩)
          · rw [if_neg (Nat.lt_irrefl p), if_pos rfl]
          · have a1 := cn_lt q2 h1
            have a2 := cn_lt hc h2
            omega
          · rw [if_neg (by omega), if_neg (by omega)]
        · simp (disch := omega) only [nl_0, nl_1, nl_2, nl_3, nl_4, nl_5, nl_6, nl_7, nl_8, nl_9, nl_10, nl_11, nl_12, nl_13, nl_14, nl_15, nl_16, nl_17, nl_18, nl_19, nl_20, nl_21, nl_22, nl_23, nl_24, nl_25, nl_26, nl_27, nl_28, nl_31, nl_32, nl_42, nl_44, nl_46, nl_48, nl_49, nl_50, nl_51, nl_60, nl_75, nl_76, nl_99, nl_100, nl_108, nl_114, nl_117, nl_126, nl_255, nl_999, nl_2401, nl_9999, nl_12345, nl_65536, nl_1000000, nl_1103515245, nl_2147483647, iI_0, iI_neg, iI_add, iI_sub, iI_mul, iI_div, iI_mod, iI_lt, iI_le, iI_eq, iI_nat, iI_vp, ld_rd, ld_wl, lu_s, lu_t, lu_c, lu_j, forall_eq, Int.toNat_natCast, true_and, and_true, not_true, not_false_iff, Classical.not_not, forall_const, iI_inj] at z
          omega
        · have w1 : mj_wl N1 (12, 36, 0, p) (iI ((cn A (ph p) : Int) + 1)) 12 30 0 0 = iI (cn A 7 : Int) := (wl_n (by omega)).trans h00
          have w2 : mj_wl N1 (12, 36, 0, p) (iI ((cn A (ph p) : Int) + 1)) 12 36 0 p = iI ((cn A (ph p) : Int) + 1) := wl_s
          simp (disch := omega) only [nl_0, nl_1, nl_2, nl_3, nl_4, nl_5, nl_6, nl_7, nl_8, nl_9, nl_10, nl_11, nl_12, nl_13, nl_14, nl_15, nl_16, nl_17, nl_18, nl_19, nl_20, nl_21, nl_22, nl_23, nl_24, nl_25, nl_26, nl_27, nl_28, nl_31, nl_32, nl_42, nl_44, nl_46, nl_48, nl_49, nl_50, nl_51, nl_60, nl_75, nl_76, nl_99, nl_100, nl_108, nl_114, nl_117, nl_126, nl_255, nl_999, nl_2401, nl_9999, nl_12345, nl_65536, nl_1000000, nl_1103515245, nl_2147483647, iI_0, iI_neg, iI_add, iI_sub, iI_mul, iI_div, iI_mod, iI_lt, iI_le, iI_eq, iI_nat, iI_vp, ld_rd, ld_wl, lu_s, lu_t, lu_c, lu_j, forall_eq, Int.toNat_natCast, true_and, and_true, not_true, not_false_iff, Classical.not_not, forall_const, iI_inj, hv, w1, w2]
          exact ⟨fun z => by omega, fun _ => by (first | exact mj_eq.rf | exact fi_n mj_eq.rf | exact fi_i rfl mj_eq.rf | exact rfl)⟩
  obtain ⟨N', b, hG, hR⟩ := key 0 (Nat.zero_le _) N fr.r0 (fun _ _ _ _ => rfl) (fun v hv => hidx v (by omega)) (fun v h1 h2 => by omega)
  refine ⟨N', b, fun d hd => en_Ly_goOn (k := 0) hd fun e he P hP hQ => rg_Ly_goOn_0 hP ?_, hG⟩
  have e0 : (k : Int) - 1 - ((0 : Nat) : Int) = (k : Int) - 1 := Int.sub_zero _
  rw [e0] at hR
  simp (disch := omega) only [nl_0, nl_1, nl_2, nl_3, nl_4, nl_5, nl_6, nl_7, nl_8, nl_9, nl_10, nl_11, nl_12, nl_13, nl_14, nl_15, nl_16, nl_17, nl_18, nl_19, nl_20, nl_21, nl_22, nl_23, nl_24, nl_25, nl_26, nl_27, nl_28, nl_31, nl_32, nl_42, nl_44, nl_46, nl_48, nl_49, nl_50, nl_51, nl_60, nl_75, nl_76, nl_99, nl_100, nl_108, nl_114, nl_117, nl_126, nl_255, nl_999, nl_2401, nl_9999, nl_12345, nl_65536, nl_1000000, nl_1103515245, nl_2147483647, iI_0, iI_neg, iI_add, iI_sub, iI_mul, iI_div, iI_mod, iI_lt, iI_le, iI_eq, iI_nat, iI_vp, ld_rd, ld_wl, lu_s, lu_t, lu_c, lu_j, forall_eq, Int.toNat_natCast, true_and, and_true, not_true, not_false_iff, Classical.not_not, forall_const, iI_inj]
  exact hR e he P hP hQ
theorem sp_findRows {k n m s i : Nat} {A : lA} {M : mj_M} {S F it : Nat → Int} (hA : LJ A) (hM : mj_sM M) (hW : WD M 20 n S F) (hk : k = nV A) (hm : m ≤ 12) (hit : ∀ j, j < 25 → M 7 48 s j = iI (it j)) (hir : ∀ j, iR (it j)) (hi : i + k ≤ 25) : ∃ N', (∀ d, 8 ≤ d → mj_Sp d 57 [mj_r (12, 30, 0), mj_r (0, 0, 0), mj_i (iI (m : Int)), mj_r (7, 48, s), mj_i (iI (i : Int))] (mj_ld M 0 A) none N') ∧ fr [4, 12, 24] (mj_ld M 0 A) N' ∧ N' 12 30 0 1 = iI (cP (hB A n S F m i it k) (7 ^ k) : Int) ∧ (cP (hB A n S F m i it k) (7 ^ k) ≠ 0 → ∀ v, v < k → N' 12 41 0 v = iI (dgt (fP (hB A n S F m i it k) (7 ^ k)) k v : Int)) := by
  have hnv := hA.li.nv
  have hk4 : k ≤ 4 := by omega
  have hL := LL_16 hk4
  obtain ⟨f, hf7, hfc, hf0, hfg⟩ := cn_fst A
  obtain ⟨N1, spp, f1, z1, P1⟩ := sp_prepare (L := 1 <<< k - 1) (n := n) (m := m) hA hM hW hL hm
  have hp7 : 7 ^ k ≤ 2401 := by
    have h2 : 7 ^ k ≤ 7 ^ 4 := Nat.pow_le_pow_right (by decide) hk4
    have h3 : (7 : Nat) ^ 4 = 2401 := by decide
    omega
  have key : ∀ fu : Nat, ∀ N (ph : Nat → Nat) (r : Nat), fr [4, 12, 24] (mj_ld M 0 A) N → PR A (1 <<< k - 1) n S F m N → (∀ v, v < k → ph v < 7 ∧ ch A (ph v)) → (∀ v, v < k → N 12 36 0 v = iI (cn A (ph v) : Int)) → N 12 30 0 1 = iI (cP (hB A n S F m i it k) (cd7 ph k) : Int) → (cP (hB A n S F m i it k) (cd7 ph k) ≠ 0 → ∀ v, v < k → N 12 41 0 v = iI (dgt (fP (hB A n S F m i it k) (cd7 ph k)) k v : Int)) → r ≤ cd7 ph k → 7 ^ k ≤ cd7 ph k + fu → ∃ N', (fr [4, 12, 24] (mj_ld M 0 A) N' ∧ N' 12 30 0 1 = iI (cP (hB A n S F m i it k) (7 ^ k) : Int) ∧ (cP (hB A n S F m i it k) (7 ^ k) ≠ 0 → ∀ v, v < k → N' 12 41 0 v = iI (dgt (fP (hB A n S F m i it k) (7 ^ k)) k v : Int))) ∧ Rn mj_c57 7 28 [some (mj_r (12, 30, 0)), some (mj_r (0, 0, 0)), some (mj_i (iI (m : Int))), some (mj_r (7, 48, s)), some (mj_i (iI (i : Int))), some (mj_i (iI 1)), some (mj_i (iI (r : Int)))] N none N' := by
    intro fu
    induction fu with
    | zero =>
      intro N ph r hf hP hph hidx hc hp hr hfu
      have := cd7_lt k (fun v hv => (hph v hv).1)
      omega
    | succ fu ihf =>
      intro N ph r hf hP hph hidx hc hp hr hfu
      have hcd := cd7_lt k (fun v hv => (hph v hv).1)
      have hdg := dgt_cd k (fun v hv => (hph v hv).1)
      have nv0 : ∀ N2, fr [4, 12, 24] (mj_ld M 0 A) N2 → N2 0 0 0 1 = iI (k : Int) := fun N2 h2 => by
        rw [h2 0 (by decide), ld_rd (by decide), hnv.1, hk]
      obtain ⟨N2, sp2, g2, s2, b2⟩ := sp_layChoices hk4 hph hidx hP.2.1
      have hf2 : fr [4, 12, 24] (mj_ld M 0 A) N2 := fun j hj => (g2 j (fun h => hj (by rw [List.mem_singleton.mp h]; decide))).trans (hf j hj)
      have hP2 : PR A (1 <<< k - 1) n S F m N2 := hP.eq (s2 _ _ _ (by decide)) (fun t c j ht => s2 t c j (by omega))
      have spT : ∀ e, 2 ≤ e → mj_Sp e 65 [mj_r (12, 30, 0), mj_r (0, 0, 0), mj_r (7, 48, s), mj_i (iI (i : Int))] N2 (some (mj_i (iI (if ∀ v, v < k → A 8 0 v + gsum A (1 <<< k - 1) n S F m (sB ph k) v 6 = it (i + v) then 1 else 0)))) N2 := fun e he => sp_isAsTold he hA hk hP2 hm (fun c hc ho => ⟨b2 c (by omega), sB_16 hk4, sB_sub⟩) (fun t c j ht => by rw [hf2 0 (by decide)]; exact ld_rd ht) (fun j hj => by rw [hf2 7 (by decide), ld_p (by decide)]; exact hit j hj) hir hi
      have hH : hB A n S F m i it k (cd7 ph k) = true ↔ ∀ v, v < k → A 8 0 v + gsum A (1 <<< k - 1) n S F m (sB ph k) v 6 = it (i + v) := by
        rw [hB_t]
        have es : ∀ c, sB (dgt (cd7 ph k) k) k c = sB ph k c := fun c => sB_c k hdg
        have eg : ∀ v, gsum A (1 <<< k - 1) n S F m (sB (dgt (cd7 ph k) k) k) v 6 = gsum A (1 <<< k - 1) n S F m (sB ph k) v 6 := fun v => sm_c 6 (fun c hc => by rw [es c])
        constructor
        · intro h v hv
          rw [← eg v]
          exact h.2 v hv
        · intro h
          exact ⟨fun v hv => by rw [hdg v hv]; exact (hph v hv).2, fun v hv => by rw [eg v]; exact h v hv⟩
      -- behind the row
      have fin : ∀ (N3 : mj_M), fr [4, 12, 24] (mj_ld M 0 A) N3 → PR A (1 <<< k - 1) n S F m N3 → (∀ v, v < k → N3 12 36 0 v = iI (cn A (ph v) : Int)) → N3 12 30 0 1 = iI (cP (hB A n S F m i it k) (cd7 ph k + 1) : Int) → (cP (hB A n S F m i it k) (cd7 ph k + 1) ≠ 0 → ∀ v, v < k → N3 12 41 0 v = iI (dgt (fP (hB A n S F m i it k) (cd7 ph k + 1)) k v : Int)) → ∃ N' N4 b, (fr [4, 12, 24] (mj_ld M 0 A) N' ∧ N' 12 30 0 1 = iI (cP (hB A n S F m i it k) (7 ^ k) : Int) ∧ (cP (hB A n S F m i it k) (7 ^ k) ≠ 0 → ∀ v, v < k → N' 12 41 0 v = iI (dgt (fP (hB A n S F m i it k) (7 ^ k)) k v : Int))) ∧ (∀ e, 1 ≤ e → mj_Sp e 67 [mj_r (12, 30, 0), mj_i (iI (k : Int))] N3 (some (mj_i (iI b))) N4) ∧ Rn mj_c57 7 28 [some (mj_r (12, 30, 0)), some (mj_r (0, 0, 0)), some (mj_i (iI (m : Int))), some (mj_r (7, 48, s)), some (mj_i (iI (i : Int))), some (mj_i (iI b)), some (mj_i (iI ((r : Int) + 1)))] N4 none N' := by
        intro N3 hf3 hP3 hidx3 hc3 hp3
        obtain ⟨N4, b, sp4, g4, s4, hb⟩ := sp_goOn hk4 hph hP3.1 hidx3
        have hf4 : fr [4, 12, 24] (mj_ld M 0 A) N4 := fun j hj => (g4 j (fun h => hj (by rw [List.mem_singleton.mp h]; decide))).trans (hf3 j hj)
        rcases hb with ⟨rfl, hno⟩ | ⟨rfl, ph', hph', hidx', hlt, hgap⟩
        · have gap := cP_gap (H := hB A n S F m i it k) (7 ^ k) (show cd7 ph k + 1 ≤ 7 ^ k by omega) (fun c h1 h2 h => hno c (by omega) h2 (hB_t.mp h).1)
          refine ⟨N4, N4, 0, ⟨hf4, ?_, ?_⟩, sp4, fun e he P hP hQ => rg_Ly_findRows_28 hP ?_⟩
          · rw [s4 _ _ _ (by decide), gap.1]
            exact hc3
          · rw [gap.1, gap.2]
            intro h v hv
            rw [s4 _ _ _ (by decide)]
            exact hp3 h v hv
          · simp (disch := omega) only [nl_0, nl_1, nl_2, nl_3, nl_4, nl_5, nl_6, nl_7, nl_8, nl_9, nl_10, nl_11, nl_12, nl_13, nl_14, nl_15, nl_16, nl_17, nl_18, nl_19, nl_20, nl_21, nl_22, nl_23, nl_24, nl_25, nl_26, nl_27, nl_28, nl_31, nl_32, nl_42, nl_44, nl_46, nl_48, nl_49, nl_50, nl_51, nl_60, nl_75, nl_76, nl_99, nl_100, nl_108, nl_114, nl_117, nl_126, nl_255, nl_999, nl_2401, nl_9999, nl_12345, nl_65536, nl_1000000, nl_1103515245, nl_2147483647, iI_0, iI_neg, iI_add, iI_sub, iI_mul, iI_div, iI_mod, iI_lt, iI_le, iI_eq, iI_nat, iI_vp, ld_rd, ld_wl, lu_s, lu_t, lu_c, lu_j, forall_eq, Int.toNat_natCast, true_and, and_true, not_true, not_false_iff, Classical.not_not, forall_const, iI_inj]
            exact ⟨fun _ => mj_eq.rf, fun _ => ⟨mj_eq.rf, fun z => z.elim⟩⟩
        · have gap := cP_gap (H := hB A n S F m i it k) (cd7 ph' k) (show cd7 ph k + 1 ≤ cd7 ph' k by omega) (fun c h1 h2 h => hgap c (by omega) h2 (hB_t.mp h).1)
          obtain ⟨N', hG, hR⟩ := ihf N4 ph' (r + 1) hf4 (hP3.eq (s4 _ _ _ (by decide)) (fun t c j ht => s4 t c j (by omega))) hph' hidx' (by rw [s4 _ _ _ (by decide), gap.1]; exact hc3) (by
            rw [gap.1, gap.2]
            intro h v hv
            rw [s4 _ _ _ (by decide)]
            exact hp3 h v hv) (by omega) (by omega)
          exact ⟨N', N4, 1, hG, sp4, hR⟩
      by_cases hT : hB A n S F m i it k (cd7 ph k) = true
      · have hck := cP_le (H := hB A n S F m i it k) (cd7 ph k)
        obtain ⟨N3, sp3, g3, s3, c3, w3⟩ := sp_noteRow (N := N2) (fc := cP (hB A n S F m i it k) (cd7 ph k)) hk4 hph (fun v hv => by rw [s2 _ _ _ (by decide)]; exact hidx v hv) hP2.2.1 (by omega) (by rw [s2 _ _ _ (by decide)]; exact hc)
        have hf3 : fr [4, 12, 24] (mj_ld M 0 A) N3 := fun j hj => (g3 j (fun h => hj (by rw [List.mem_singleton.mp h]; decide))).trans (hf2 j hj)
        obtain ⟨N', N4, b, hG, sp4, hR⟩ := fin N3 hf3 (hP2.eq (s3 _ _ _ (by decide) (by decide)) (fun t c j ht => s3 t c j (by omega) (by omega))) (fun v hv => by rw [s3 _ _ _ (by decide) (Or.inl (by decide)), s2 _ _ _ (by decide)]; exact hidx v hv) (by rw [c3, cP_y hT]; rfl) (fun _ v hv => by
          rw [w3 v hv]
          have e : fP (hB A n S F m i it k) (cd7 ph k + 1) = if cP (hB A n S F m i it k) (cd7 ph k) = 0 ∧ hB A n S F m i it k (cd7 ph k) = true then cd7 ph k else fP (hB A n S F m i it k) (cd7 ph k) := rfl
          by_cases g0 : cP (hB A n S F m i it k) (cd7 ph k) = 0
          · rw [if_pos g0, e, if_pos ⟨g0, hT⟩, hdg v hv]
          · rw [if_neg g0, e, if_neg (fun z => g0 z.1), s2 _ _ _ (by decide)]
            exact hp g0 v hv)
        refine ⟨N', hG, fun e he P hP' hQ => rg_Ly_findRows_28 hP' ⟨fun z => ?_, fun z => ?_⟩⟩
        · simp (disch := omega) only [nl_0, nl_1, nl_2, nl_3, nl_4, nl_5, nl_6, nl_7, nl_8, nl_9, nl_10, nl_11, nl_12, nl_13, nl_14, nl_15, nl_16, nl_17, nl_18, nl_19, nl_20, nl_21, nl_22, nl_23, nl_24, nl_25, nl_26, nl_27, nl_28, nl_31, nl_32, nl_42, nl_44, nl_46, nl_48, nl_49, nl_50, nl_51, nl_60, nl_75, nl_76, nl_99, nl_100, nl_108, nl_114, nl_117, nl_126, nl_255, nl_999, nl_2401, nl_9999, nl_12345, nl_65536, nl_1000000, nl_1103515245, nl_2147483647, iI_0, iI_neg, iI_add, iI_sub, iI_mul, iI_div, iI_mod, iI_lt, iI_le, iI_eq, iI_nat, iI_vp, ld_rd, ld_wl, lu_s, lu_t, lu_c, lu_j, forall_eq, Int.toNat_natCast, true_and, and_true, not_true, not_false_iff, Classical.not_not, forall_const, iI_inj] at z
          omega
        · simp (disch := omega) only [nl_0, nl_1, nl_2, nl_3, nl_4, nl_5, nl_6, nl_7, nl_8, nl_9, nl_10, nl_11, nl_12, nl_13, nl_14, nl_15, nl_16, nl_17, nl_18, nl_19, nl_20, nl_21, nl_22, nl_23, nl_24, nl_25, nl_26, nl_27, nl_28, nl_31, nl_32, nl_42, nl_44, nl_46, nl_48, nl_49, nl_50, nl_51, nl_60, nl_75, nl_76, nl_99, nl_100, nl_108, nl_114, nl_117, nl_126, nl_255, nl_999, nl_2401, nl_9999, nl_12345, nl_65536, nl_1000000, nl_1103515245, nl_2147483647, iI_0, iI_neg, iI_add, iI_sub, iI_mul, iI_div, iI_mod, iI_lt, iI_le, iI_eq, iI_nat, iI_vp, ld_rd, ld_wl, lu_s, lu_t, lu_c, lu_j, forall_eq, Int.toNat_natCast, true_and, and_true, not_true, not_false_iff, Classical.not_not, forall_const, iI_inj, nv0 N hf]
          refine ⟨fun z => absurd z (by decide), fun _ => ⟨_, sp2 e (by omega), _, _, spT e (by omega), ?_⟩⟩
          rw [if_pos (hH.mp hT)]
          refine ⟨fun z => absurd z (by decide), fun _ => ?_⟩
          simp (disch := omega) only [nl_0, nl_1, nl_2, nl_3, nl_4, nl_5, nl_6, nl_7, nl_8, nl_9, nl_10, nl_11, nl_12, nl_13, nl_14, nl_15, nl_16, nl_17, nl_18, nl_19, nl_20, nl_21, nl_22, nl_23, nl_24, nl_25, nl_26, nl_27, nl_28, nl_31, nl_32, nl_42, nl_44, nl_46, nl_48, nl_49, nl_50, nl_51, nl_60, nl_75, nl_76, nl_99, nl_100, nl_108, nl_114, nl_117, nl_126, nl_255, nl_999, nl_2401, nl_9999, nl_12345, nl_65536, nl_1000000, nl_1103515245, nl_2147483647, iI_0, iI_neg, iI_add, iI_sub, iI_mul, iI_div, iI_mod, iI_lt, iI_le, iI_eq, iI_nat, iI_vp, ld_rd, ld_wl, lu_s, lu_t, lu_c, lu_j, forall_eq, Int.toNat_natCast, true_and, and_true, not_true, not_false_iff, Classical.not_not, forall_const, iI_inj, nv0 N2 hf2]
          refine ⟨_, sp3 e (by omega), ?_⟩
          simp (disch := omega) only [nl_0, nl_1, nl_2, nl_3, nl_4, nl_5, nl_6, nl_7, nl_8, nl_9, nl_10, nl_11, nl_12, nl_13, nl_14, nl_15, nl_16, nl_17, nl_18, nl_19, nl_20, nl_21, nl_22, nl_23, nl_24, nl_25, nl_26, nl_27, nl_28, nl_31, nl_32, nl_42, nl_44, nl_46, nl_48, nl_49, nl_50, nl_51, nl_60, nl_75, nl_76, nl_99, nl_100, nl_108, nl_114, nl_117, nl_126, nl_255, nl_999, nl_2401, nl_9999, nl_12345, nl_65536, nl_1000000, nl_1103515245, nl_2147483647, iI_0, iI_neg, iI_add, iI_sub, iI_mul, iI_div, iI_mod, iI_lt, iI_le, iI_eq, iI_nat, iI_vp, ld_rd, ld_wl, lu_s, lu_t, lu_c, lu_j, forall_eq, Int.toNat_natCast, true_and, and_true, not_true, not_false_iff, Classical.not_not, forall_const, iI_inj, nv0 N3 hf3]
          exact ⟨_, _, sp4 e (by omega), hR e he P hP' hQ⟩
      · have hn := cP_n hT
        obtain ⟨N', N4, b, hG, sp4, hR⟩ := fin N2 hf2 hP2 (fun v hv => by rw [s2 _ _ _ (by decide)]; exact hidx v hv) (by rw [s2 _ _ _ (by decide), hn.1]; exact hc) (by
          rw [hn.1, hn.2]
          intro h v hv
          rw [s2 _ _ _ (by decide)]
          exact hp h v hv)
        refine ⟨N', hG, fun e he P hP' hQ => rg_Ly_findRows_28 hP' ⟨fun z => ?_, fun z => ?_⟩⟩
        · simp (disch := omega) only [nl_0, nl_1, nl_2, nl_3, nl_4, nl_5, nl_6, nl_7, nl_8, nl_9, nl_10, nl_11, nl_12, nl_13, nl_14, nl_15, nl_16, nl_17, nl_18, nl_19, nl_20, nl_21, nl_22, nl_23, nl_24, nl_25, nl_26, nl_27, nl_28, nl_31, nl_32, nl_42, nl_44, nl_46, nl_48, nl_49, nl_50, nl_51, nl_60, nl_75, nl_76, nl_99, nl_100, nl_108, nl_114, nl_117, nl_126, nl_255, nl_999, nl_2401, nl_9999, nl_12345, nl_65536, nl_1000000, nl_1103515245, nl_2147483647, iI_0, iI_neg, iI_add, iI_sub, iI_mul, iI_div, iI_mod, iI_lt, iI_le, iI_eq, iI_nat, iI_vp, ld_rd, ld_wl, lu_s, lu_t, lu_c, lu_j, forall_eq, Int.toNat_natCast, true_and, and_true, not_true, not_false_iff, Classical.not_not, forall_const, iI_inj] at z
          omega
        · simp (disch := omega) only [nl_0, nl_1, nl_2, nl_3, nl_4, nl_5, nl_6, nl_7, nl_8, nl_9, nl_10, nl_11, nl_12, nl_13, nl_14, nl_15, nl_16, nl_17, nl_18, nl_19, nl_20, nl_21, nl_22, nl_23, nl_24, nl_25, nl_26, nl_27, nl_28, nl_31, nl_32, nl_42, nl_44, nl_46, nl_48, nl_49, nl_50, nl_51, nl_60, nl_75, nl_76, nl_99, nl_100, nl_108, nl_114, nl_117, nl_126, nl_255, nl_999, nl_2401, nl_9999, nl_12345, nl_65536, nl_1000000, nl_1103515245, nl_2147483647, iI_0, iI_neg, iI_add, iI_sub, iI_mul, iI_div, iI_mod, iI_lt, iI_le, iI_eq, iI_nat, iI_vp, ld_rd, ld_wl, lu_s, lu_t, lu_c, lu_j, forall_eq, Int.toNat_natCast, true_and, and_true, not_true, not_false_iff, Classical.not_not, forall_const, iI_inj, nv0 N hf]
          refine ⟨fun z => absurd z (by decide), fun _ => ⟨_, sp2 e (by omega), _, _, spT e (by omega), ?_⟩⟩
          rw [if_neg (fun h => hT (hH.mpr h))]
          refine ⟨fun _ => ?_, fun z => absurd rfl z⟩
          simp (disch := omega) only [nl_0, nl_1, nl_2, nl_3, nl_4, nl_5, nl_6, nl_7, nl_8, nl_9, nl_10, nl_11, nl_12, nl_13, nl_14, nl_15, nl_16, nl_17, nl_18, nl_19, nl_20, nl_21, nl_22, nl_23, nl_24, nl_25, nl_26, nl_27, nl_28, nl_31, nl_32, nl_42, nl_44, nl_46, nl_48, nl_49, nl_50, nl_51, nl_60, nl_75, nl_76, nl_99, nl_100, nl_108, nl_114, nl_117, nl_126, nl_255, nl_999, nl_2401, nl_9999, nl_12345, nl_65536, nl_1000000, nl_1103515245, nl_2147483647, iI_0, iI_neg, iI_add, iI_sub, iI_mul, iI_div, iI_mod, iI_lt, iI_le, iI_eq, iI_nat, iI_vp, ld_rd, ld_wl, lu_s, lu_t, lu_c, lu_j, forall_eq, Int.toNat_natCast, true_and, and_true, not_true, not_false_iff, Classical.not_not, forall_const, iI_inj, nv0 N2 hf2]
          exact ⟨_, _, sp4 e (by omega), hR e he P hP' hQ⟩
  have hl0 : fr [4, 12, 24] (mj_ld M 0 A) (mj_fl N1 12 36 0 4 (iI 0)) := fun j hj => by
    rw [fl_p (fun e => hj (by rw [e]; decide))]
    exact f1 j hj
  have gap0 := cP_gap (H := hB A n S F m i it k) (a := 0) (cd7 (fun _ => f) k) (Nat.zero_le _) (fun c _ h2 h => cd_first hf7 hfg k c h2 (hB_t.mp h).1)
  obtain ⟨N', hG, hR⟩ := key (7 ^ k) (mj_fl N1 12 36 0 4 (iI 0)) (fun _ => f) 0 hl0 (P1.eq (fl_ne (by omega)) (fun t c j ht => fl_ne (by omega))) (fun v hv => ⟨hf7, hfc⟩) (fun v hv => by rw [fl_at (by omega), hf0]; rfl) (by rw [fl_ne (by omega), gap0.1, z1]; rfl) (by rw [gap0.1]; exact fun h => absurd rfl h) (Nat.zero_le _) (by omega)
  refine ⟨N', fun d hd => en_Ly_findRows (k := 7) hd fun e he P hP hQ => rg_Ly_findRows_0 hP ?_, hG⟩
  have nv1 : A 0 0 1 = (k : Int) := by rw [hnv.1, hk]
  simp (disch := omega) only [nl_0, nl_1, nl_2, nl_3, nl_4, nl_5, nl_6, nl_7, nl_8, nl_9, nl_10, nl_11, nl_12, nl_13, nl_14, nl_15, nl_16, nl_17, nl_18, nl_19, nl_20, nl_21, nl_22, nl_23, nl_24, nl_25, nl_26, nl_27, nl_28, nl_31, nl_32, nl_42, nl_44, nl_46, nl_48, nl_49, nl_50, nl_51, nl_60, nl_75, nl_76, nl_99, nl_100, nl_108, nl_114, nl_117, nl_126, nl_255, nl_999, nl_2401, nl_9999, nl_12345, nl_65536, nl_1000000, nl_1103515245, nl_2147483647, iI_0, iI_neg, iI_add, iI_sub, iI_mul, iI_div, iI_mod, iI_lt, iI_le, iI_eq, iI_nat, iI_vp, ld_rd, ld_wl, lu_s, lu_t, lu_c, lu_j, forall_eq, Int.toNat_natCast, true_and, and_true, not_true, not_false_iff, Classical.not_not, forall_const, iI_inj, nv1]
  rw [b_all (show k < 5 by omega)]
  refine ⟨_, spp e he, _, sp_fill (i := 12) (t := 36) (c := 0) (n := 4) (by omega) (by decide) rfl rfl (by decide), ?_⟩
  exact hR e he P hP hQ
