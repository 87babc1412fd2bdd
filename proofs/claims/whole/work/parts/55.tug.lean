/-! contracts: the class's laying: prepare, gainOf, pairs -/
/-- the choices and the gains are there -/
def PR (A : lA) (L n : Nat) (S F : Nat → Int) (m : Nat) (N : mj_M) : Prop := N 12 30 0 0 = iI (cn A 7 : Int) ∧ (∀ x, x < 7 → ch A x → N 12 31 0 (cn A x) = iI (x : Int)) ∧ ∀ c, c < 6 → op A c → GN A L n S F m N c 16
theorem PR.eq {A : lA} {L n m : Nat} {S F : Nat → Int} {N N' : mj_M} (h : PR A L n S F m N) (e0 : N' 12 30 0 0 = N 12 30 0 0) (e1 : ∀ t c j, t = 31 ∨ t = 34 → N' 12 t c j = N 12 t c j) : PR A L n S F m N' :=
  ⟨e0.trans h.1, fun x hx hc => (e1 _ _ _ (by omega)).trans (h.2.1 x hx hc), fun c hc ho s hs hsub v hv => (e1 _ _ _ (by omega)).trans (h.2.2 c hc ho s hs hsub v hv)⟩
theorem op_lt {A : lA} (hA : LI A) {c : Nat} (h : op A c) : c < 6 := by
  have := hA.nc
  have := h.1
  omega
theorem sp_prepare {L n m : Nat} {A : lA} {M : mj_M} {S F : Nat → Int} (hA : LJ A) (hM : mj_sM M) (hW : WD M 20 n S F) (hL : L < 16) (hm : m ≤ 12) : ∃ N', (∀ d, 7 ≤ d → mj_Sp d 58 [mj_r (12, 30, 0), mj_r (0, 0, 0), mj_i (iI (L : Int)), mj_i (iI (m : Int))] (mj_ld M 0 A) none N') ∧ fr [4, 12, 24] (mj_ld M 0 A) N' ∧ N' 12 30 0 1 = iI 0 ∧ PR A L n S F m N' := by
  have h1 := hA.li.nc
  have hM0 : mj_sM (mj_ld M 0 A) := hM.ld (by decide)
  have key : ∀ c, c ≤ 6 → ∀ N T, fr [4, 12, 24] (mj_ld M 0 A) N → WD N 24 n S F → N 12 30 0 1 = iI 0 → N 12 30 0 0 = iI (cn A c : Int) → (∀ x, x < c → ch A x → N 12 31 0 (cn A x) = iI (x : Int)) → (∀ c', c' < c → op A c' → GN A L n S F m N c' 16) → TL A T → ∃ N', (fr [4, 12, 24] (mj_ld M 0 A) N' ∧ N' 12 30 0 1 = iI 0 ∧ PR A L n S F m N') ∧ Rn mj_c58 6 21 [some (mj_r (12, 30, 0)), some (mj_r (0, 0, 0)), some (mj_i (iI (L : Int))), some (mj_i (iI (m : Int))), some (mj_i (iI (c : Int)))] (mj_ld N 4 T) none N' := by
    refine lp_dn (Q := fun c => ∀ N T, fr [4, 12, 24] (mj_ld M 0 A) N → WD N 24 n S F → N 12 30 0 1 = iI 0 → N 12 30 0 0 = iI (cn A c : Int) → (∀ x, x < c → ch A x → N 12 31 0 (cn A x) = iI (x : Int)) → (∀ c', c' < c → op A c' → GN A L n S F m N c' 16) → TL A T → ∃ N', (fr [4, 12, 24] (mj_ld M 0 A) N' ∧ N' 12 30 0 1 = iI 0 ∧ PR A L n S F m N') ∧ Rn mj_c58 6 21 [some (mj_r (12, 30, 0)), some (mj_r (0, 0, 0)), some (mj_i (iI (L : Int))), some (mj_i (iI (m : Int))), some (mj_i (iI (c : Int)))] (mj_ld N 4 T) none N') (n := 6) (fun N T hf hW2 hf0 ho hp hg hT => ?_) (fun c hc ih N T hf hW2 hf0 ho hp hg hT => ?_)
    · have h6 := cn_le (A := A) 6
      have h7 : cn A 7 = cn A 6 + 1 := cn_y (Or.inl rfl)
      refine ⟨mj_ld (mj_wl (mj_wl N (12, 31, 0, cn A 6) (iI 6)) (12, 30, 0, 0) (iI ((cn A 6 : Int) + 1))) 4 T, ⟨fun i hi => ?_, ?_, ?_, fun x hx hcx => ?_, fun c' hc' hoc => fun s hs hsub v hv => ?_⟩, fun e he P hP hQ => rg_Ly_prepare_21 hP ⟨fun z => ?_, fun z => ?_⟩⟩
      · have h4 : i ≠ 4 := fun e => hi (by rw [e]; decide)
        have h12 : i ≠ 12 := fun e => hi (by rw [e]; decide)
        rw [ld_p h4, wl_p h12, wl_p h12]
        exact hf i hi
      · rw [ld_p (by decide), wl_n (by omega), wl_n (by omega)]
        exact hf0
      · rw [ld_p (by decide), wl_s, h7]
        rfl
      · rw [ld_p (by decide), wl_n (by omega)]
        by_cases e : x = 6
        · subst e
          rw [wl_s]
          rfl
        · have := cn_lt (y := 6) hcx (by omega)
          rw [wl_n (by omega)]
          exact hp x (by omega) hcx
      · rw [ld_p (by decide), wl_n (by omega), wl_n (by omega)]
        exact hg c' hc' hoc s hs hsub v hv
      · simp (disch := omega) only [nl_0, nl_1, nl_2, nl_3, nl_4, nl_5, nl_6, nl_7, nl_8, nl_9, nl_10, nl_11, nl_12, nl_13, nl_14, nl_15, nl_16, nl_17, nl_18, nl_19, nl_20, nl_21, nl_22, nl_23, nl_24, nl_25, nl_26, nl_27, nl_28, nl_31, nl_32, nl_42, nl_44, nl_46, nl_48, nl_49, nl_50, nl_51, nl_60, nl_75, nl_76, nl_99, nl_100, nl_108, nl_114, nl_117, nl_126, nl_255, nl_999, nl_2401, nl_9999, nl_12345, nl_65536, nl_1000000, nl_1103515245, nl_2147483647, iI_0, iI_neg, iI_add, iI_sub, iI_mul, iI_div, iI_mod, iI_lt, iI_le, iI_eq, iI_nat, iI_vp, ld_rd, ld_wl, lu_s, lu_t, lu_c, lu_j, forall_eq, Int.toNat_natCast, true_and, and_true, not_true, not_false_iff, Classical.not_not, forall_const, iI_inj, ld_p, ho, wl_ld, wl_n]
        (first | exact mj_eq.rf | exact fi_n mj_eq.rf | exact fi_i rfl mj_eq.rf | exact rfl)
      · simp (disch := omega) only [nl_0, nl_1, nl_2, nl_3, nl_4, nl_5, nl_6, nl_7, nl_8, nl_9, nl_10, nl_11, nl_12, nl_13, nl_14, nl_15, nl_16, nl_17, nl_18, nl_19, nl_20, nl_21, nl_22, nl_23, nl_24, nl_25, nl_26, nl_27, nl_28, nl_31, nl_32, nl_42, nl_44, nl_46, nl_48, nl_49, nl_50, nl_51, nl_60, nl_75, nl_76, nl_99, nl_100, nl_108, nl_114, nl_117, nl_126, nl_255, nl_999, nl_2401, nl_9999, nl_12345, nl_65536, nl_1000000, nl_1103515245, nl_2147483647, iI_0, iI_neg, iI_add, iI_sub, iI_mul, iI_div, iI_mod, iI_lt, iI_le, iI_eq, iI_nat, iI_vp, ld_rd, ld_wl, lu_s, lu_t, lu_c, lu_j, forall_eq, Int.toNat_natCast, true_and, and_true, not_true, not_false_iff, Classical.not_not, forall_const, iI_inj] at z
        omega
    · have hcn := cn_le (A := A) c
      have src : ∀ t c j, t < 10 → N 0 t c j = iI (A t c j) := fun t c j ht => by rw [hf 0 (by decide)]; exact ld_rd ht
      have eK : mj_ld (mj_ld N 4 T) 0 A = mj_ld N 4 T := ld_abs fun t i j ht => by rw [ld_ne (by decide)]; exact src t i j ht
      have hov : ∀ e, 6 ≤ e → mj_Sp e 38 [mj_r (0, 0, 0), mj_i (iI (c : Int))] (mj_ld N 4 T) (some (mj_i (iI (if op A c then 1 else 0)))) (mj_ld N 4 T) := fun e he => by
        have h := sp_isOver (d := e) (i := 0) (by omega) (A := A) (M := mj_ld N 4 T) (z := (c : Int)) (by omega) hA.li
        rw [eK] at h
        have e1 : (if (0 ≤ (c : Int) ∧ (c : Int) < A 0 0 0) ∧ A 2 0 (c : Int).toNat ≠ 25 then (1 : Int) else 0) = if op A c then 1 else 0 := by
          by_cases ho : op A c
          · rw [if_pos ho, if_pos ⟨by have := ho.1; omega, ho.2⟩]
          · rw [if_neg ho, if_neg (fun z => ho ⟨by omega, z.2⟩)]
        rw [e1] at h
        exact h
      by_cases hoc : op A c
      · have hcc : ch A c := Or.inr hoc
        have hM2 : mj_sM (mj_wl (mj_wl N (12, 31, 0, cn A c) (iI (c : Int))) (12, 30, 0, 0) (iI ((cn A c : Int) + 1))) := by
          have := hf.sM hM0 (by decide)
          refine ⟨fun j hj => ?_, fun j hj => ?_⟩
          · rw [wl_p (by decide), wl_p (by decide)]; exact this.1 j hj
          · rw [wl_p (by decide), wl_p (by decide)]; exact this.2 j hj
        obtain ⟨N3, T3, sp3, hT3, f3, o3, g3⟩ := sp_LyLearnGains (L := L) (n := n) (m := m) (S := S) (F := F) (N0 := mj_wl (mj_wl N (12, 31, 0, cn A c) (iI (c : Int))) (12, 30, 0, 0) (iI ((cn A c : Int) + 1))) hA hM2 ((hW2.wl (by decide)).wl (by decide)) (fun t c j ht => by rw [wl_p (by decide), wl_p (by decide)]; exact src t c j ht) hT hoc.1 hL hm
        obtain ⟨N', hG, hR⟩ := ih N3 T3 (fun i hi => by
            have h12 : i ≠ 12 := fun e => hi (by rw [e]; decide)
            rw [f3 i (fun h => h12 (List.mem_singleton.mp h)), wl_p h12, wl_p h12]
            exact hf i hi) (by
            unfold WD
            rw [f3 24 (by decide), wl_p (by decide), wl_p (by decide)]
            exact hW2) (by rw [o3 _ _ _ (by omega), wl_n (by omega), wl_n (by omega)]; exact hf0) (by
            rw [o3 _ _ _ (by omega), wl_s, cn_y hcc]
            rfl) (fun x hx hcx => by
            rw [o3 _ _ _ (by omega), wl_n (by omega)]
            by_cases e : x = c
            · subst e
              exact wl_s
            · have := cn_lt (y := c) hcx (by omega)
              rw [wl_n (by omega)]
              exact hp x (by omega) hcx) (fun c' hc' hoc' s hs hsub v hv => by
            by_cases e : c' = c
            · subst e
              exact g3 s hs hsub v hv
            · rw [o3 _ _ _ (by omega), wl_n (by omega), wl_n (by omega)]
              exact hg c' (by omega) hoc' s hs hsub v hv) hT3
        refine ⟨N', hG, fun e he P hP hQ => rg_Ly_prepare_21 hP ⟨fun z => ?_, fun z => ⟨_, _, hov e he, ?_⟩⟩⟩
        · simp (disch := omega) only [nl_0, nl_1, nl_2, nl_3, nl_4, nl_5, nl_6, nl_7, nl_8, nl_9, nl_10, nl_11, nl_12, nl_13, nl_14, nl_15, nl_16, nl_17, nl_18, nl_19, nl_20, nl_21, nl_22, nl_23, nl_24, nl_25, nl_26, nl_27, nl_28, nl_31, nl_32, nl_42, nl_44, nl_46, nl_48, nl_49, nl_50, nl_51, nl_60, nl_75, nl_76, nl_99, nl_100, nl_108, nl_114, nl_117, nl_126, nl_255, nl_999, nl_2401, nl_9999, nl_12345, nl_65536, nl_1000000, nl_1103515245, nl_2147483647, iI_0, iI_neg, iI_add, iI_sub, iI_mul, iI_div, iI_mod, iI_lt, iI_le, iI_eq, iI_nat, iI_vp, ld_rd, ld_wl, lu_s, lu_t, lu_c, lu_j, forall_eq, Int.toNat_natCast, true_and, and_true, not_true, not_false_iff, Classical.not_not, forall_const, iI_inj] at z
          omega
        · rw [if_pos hoc]
          simp (disch := omega) only [nl_0, nl_1, nl_2, nl_3, nl_4, nl_5, nl_6, nl_7, nl_8, nl_9, nl_10, nl_11, nl_12, nl_13, nl_14, nl_15, nl_16, nl_17, nl_18, nl_19, nl_20, nl_21, nl_22, nl_23, nl_24, nl_25, nl_26, nl_27, nl_28, nl_31, nl_32, nl_42, nl_44, nl_46, nl_48, nl_49, nl_50, nl_51, nl_60, nl_75, nl_76, nl_99, nl_100, nl_108, nl_114, nl_117, nl_126, nl_255, nl_999, nl_2401, nl_9999, nl_12345, nl_65536, nl_1000000, nl_1103515245, nl_2147483647, iI_0, iI_neg, iI_add, iI_sub, iI_mul, iI_div, iI_mod, iI_lt, iI_le, iI_eq, iI_nat, iI_vp, ld_rd, ld_wl, lu_s, lu_t, lu_c, lu_j, forall_eq, Int.toNat_natCast, true_and, and_true, not_true, not_false_iff, Classical.not_not, forall_const, iI_inj, ld_p, ho, wl_ld, wl_n]
          refine ⟨fun z => absurd z (by decide), fun _ => ⟨_, sp3 e he, ?_⟩⟩
          exact hR e he P hP hQ
      · have hcc : ¬ ch A c := fun h => by
          rcases h with h | h
          · omega
          · exact hoc h
        obtain ⟨N', hG, hR⟩ := ih N T hf hW2 hf0 (by rw [cn_n hcc]; exact ho) (fun x hx hcx => by
          by_cases e : x = c
          · subst e; exact absurd hcx hcc
          · exact hp x (by omega) hcx) (fun c' hc' hoc' => by
          by_cases e : c' = c
          · subst e; exact absurd hoc' hoc
          · exact hg c' (by omega) hoc') hT
        refine ⟨N', hG, fun e he P hP hQ => rg_Ly_prepare_21 hP ⟨fun z => ?_, fun z => ⟨_, _, hov e he, ?_⟩⟩⟩
        · simp (disch := omega) only [nl_0, nl_1, nl_2, nl_3, nl_4, nl_5, nl_6, nl_7, nl_8, nl_9, nl_10, nl_11, nl_12, nl_13, nl_14, nl_15, nl_16, nl_17, nl_18, nl_19, nl_20, nl_21, nl_22, nl_23, nl_24, nl_25, nl_26, nl_27, nl_28, nl_31, nl_32, nl_42, nl_44, nl_46, nl_48, nl_49, nl_50, nl_51, nl_60, nl_75, nl_76, nl_99, nl_100, nl_108, nl_114, nl_117, nl_126, nl_255, nl_999, nl_2401, nl_9999, nl_12345, nl_65536, nl_1000000, nl_1103515245, nl_2147483647, iI_0, iI_neg, iI_add, iI_sub, iI_mul, iI_div, iI_mod, iI_lt, iI_le, iI_eq, iI_nat, iI_vp, ld_rd, ld_wl, lu_s, lu_t, lu_c, lu_j, forall_eq, Int.toNat_natCast, true_and, and_true, not_true, not_false_iff, Classical.not_not, forall_const, iI_inj] at z
          omega
        · rw [if_neg hoc]
          simp (disch := omega) only [nl_0, nl_1, nl_2, nl_3, nl_4, nl_5, nl_6, nl_7, nl_8, nl_9, nl_10, nl_11, nl_12, nl_13, nl_14, nl_15, nl_16, nl_17, nl_18, nl_19, nl_20, nl_21, nl_22, nl_23, nl_24, nl_25, nl_26, nl_27, nl_28, nl_31, nl_32, nl_42, nl_44, nl_46, nl_48, nl_49, nl_50, nl_51, nl_60, nl_75, nl_76, nl_99, nl_100, nl_108, nl_114, nl_117, nl_126, nl_255, nl_999, nl_2401, nl_9999, nl_12345, nl_65536, nl_1000000, nl_1103515245, nl_2147483647, iI_0, iI_neg, iI_add, iI_sub, iI_mul, iI_div, iI_mod, iI_lt, iI_le, iI_eq, iI_nat, iI_vp, ld_rd, ld_wl, lu_s, lu_t, lu_c, lu_j, forall_eq, Int.toNat_natCast, true_and, and_true, not_true, not_false_iff, Classical.not_not, forall_const, iI_inj]
          exact ⟨hR e he P hP hQ, fun z => z.elim⟩
  -- the start
  have st : ∀ e, 6 ≤ e → mj_Sp e 33 [mj_r (4, 20, 0), mj_r (0, 0, 0)] (mj_wl (mj_wl (mj_ld M 0 A) (12, 30, 0, 1) (iI 0)) (12, 30, 0, 0) (iI 0)) none (mj_ld (wcp (mj_wl (mj_wl (mj_ld M 0 A) (12, 30, 0, 1) (iI 0)) (12, 30, 0, 0) (iI 0)) (20 + 0) (20 + 4)) 4 A) := fun e he => by
    have := sp_start (d := e) (i0 := 4) (i1 := 0) (by omega) (A := A) (B := lT (mj_wl (mj_wl (mj_ld M 0 A) (12, 30, 0, 1) (iI 0)) (12, 30, 0, 0) (iI 0)) 4) (M := mj_wl (mj_wl (mj_ld M 0 A) (12, 30, 0, 1) (iI 0)) (12, 30, 0, 0) (iI 0)) (by decide) (fun t c j ht => by rw [wl_p (by decide), wl_p (by decide)]; exact ld_rd ht)
    rw [ld_self] at this
    exact this
  obtain ⟨N', hG, hR⟩ := key 0 (by decide) (wcp (mj_wl (mj_wl (mj_ld M 0 A) (12, 30, 0, 1) (iI 0)) (12, 30, 0, 0) (iI 0)) (20 + 0) (20 + 4)) A (fun i hi => by
      have h12 : i ≠ 12 := fun e => hi (by rw [e]; decide)
      rw [wcp_ne (fun e => hi (by rw [e]; decide)), wl_p h12, wl_p h12]) ((hW.ld.wl (by decide)).wl (by decide)).cp (by rw [wcp_ne (by decide), wl_n (by omega), wl_s]) (by rw [wcp_ne (by decide), wl_s]; rfl) (fun x hx => absurd hx (Nat.not_lt_zero x)) (fun x hx => absurd hx (Nat.not_lt_zero x)) ⟨hA.li, fun _ _ _ _ => rfl⟩
  refine ⟨N', fun d hd => en_Ly_prepare (k := 6) hd fun e he P hP hQ => rg_Ly_prepare_0 hP ?_, hG⟩
  simp (disch := omega) only [nl_0, nl_1, nl_2, nl_3, nl_4, nl_5, nl_6, nl_7, nl_8, nl_9, nl_10, nl_11, nl_12, nl_13, nl_14, nl_15, nl_16, nl_17, nl_18, nl_19, nl_20, nl_21, nl_22, nl_23, nl_24, nl_25, nl_26, nl_27, nl_28, nl_31, nl_32, nl_42, nl_44, nl_46, nl_48, nl_49, nl_50, nl_51, nl_60, nl_75, nl_76, nl_99, nl_100, nl_108, nl_114, nl_117, nl_126, nl_255, nl_999, nl_2401, nl_9999, nl_12345, nl_65536, nl_1000000, nl_1103515245, nl_2147483647, iI_0, iI_neg, iI_add, iI_sub, iI_mul, iI_div, iI_mod, iI_lt, iI_le, iI_eq, iI_nat, iI_vp, ld_rd, ld_wl, lu_s, lu_t, lu_c, lu_j, forall_eq, Int.toNat_natCast, true_and, and_true, not_true, not_false_iff, Classical.not_not, forall_const, iI_inj]
  exact ⟨_, st e he, hR e he P hP hQ⟩
theorem sp_gainOf {d L n m v : Nat} {A : lA} {N : mj_M} {S F : Nat → Int} {s : Nat → Nat} (hd : 1 ≤ d) (hA : LI A) (hP : PR A L n S F m N) (hs : ∀ c, c < 6 → op A c → N 12 35 0 c = iI (s c : Int) ∧ s c < 16 ∧ s c &&& L = s c) (hv : v < 4) : mj_Sp d 61 [mj_r (12, 30, 0), mj_i (iI (v : Int))] N (some (mj_i (iI (gsum A L n S F m s v 6)))) N := by
  have h7 : cn A 7 = cn A 6 + 1 := cn_y (Or.inl rfl)
  have h6 := cn_le (A := A) 6
  refine en_Ly_gainOf (k := 0) hd fun e he P hP' hQ => rg_Ly_gainOf_0 hP' ?_
  refine lp_dn (Q := fun x => ∀ o4, P 4 [some (mj_r (12, 30, 0)), some (mj_i (iI (v : Int))), some (mj_i (iI (gsum A L n S F m s v x))), some (mj_i (iI (cn A x : Int))), o4] [] N) (n := 6) (fun o4 => ?_) (fun x hx ih o4 => ?_) 0 (Nat.zero_le _) none
  · refine rg_Ly_gainOf_4 hP' ⟨fun z => by (first | exact mj_eq.rf | exact fi_n mj_eq.rf | exact fi_i rfl mj_eq.rf | exact rfl), fun z => ?_⟩
    simp (disch := omega) only [nl_0, nl_1, nl_2, nl_3, nl_4, nl_5, nl_6, nl_7, nl_8, nl_9, nl_10, nl_11, nl_12, nl_13, nl_14, nl_15, nl_16, nl_17, nl_18, nl_19, nl_20, nl_21, nl_22, nl_23, nl_24, nl_25, nl_26, nl_27, nl_28, nl_31, nl_32, nl_42, nl_44, nl_46, nl_48, nl_49, nl_50, nl_51, nl_60, nl_75, nl_76, nl_99, nl_100, nl_108, nl_114, nl_117, nl_126, nl_255, nl_999, nl_2401, nl_9999, nl_12345, nl_65536, nl_1000000, nl_1103515245, nl_2147483647, iI_0, iI_neg, iI_add, iI_sub, iI_mul, iI_div, iI_mod, iI_lt, iI_le, iI_eq, iI_nat, iI_vp, ld_rd, ld_wl, lu_s, lu_t, lu_c, lu_j, forall_eq, Int.toNat_natCast, true_and, and_true, not_true, not_false_iff, Classical.not_not, forall_const, iI_inj, hP.1, h7] at z
    omega
  · have e1 : gsum A L n S F m s v (x + 1) = gsum A L n S F m s v x + if op A x then GL A L n S F m x (s x) v else 0 := rfl
    by_cases ho : op A x
    · have hc : ch A x := Or.inr ho
      have hlt := cn_lt (y := 6) hc hx
      obtain ⟨q1, q2, q3⟩ := hs x hx ho
      have g1 := hP.2.2 x hx ho (s x) q2 q3 v hv
      have p1 := hP.2.1 x (by omega) hc
      have t1 : ((s x : Int) * 4 + (v : Int)).toNat = 4 * s x + v := by omega
      rw [e1, if_pos ho, cn_y hc] at ih
      refine rg_Ly_gainOf_4 hP' ⟨fun z => ?_, fun z => ?_⟩
      · simp (disch := omega) only [nl_0, nl_1, nl_2, nl_3, nl_4, nl_5, nl_6, nl_7, nl_8, nl_9, nl_10, nl_11, nl_12, nl_13, nl_14, nl_15, nl_16, nl_17, nl_18, nl_19, nl_20, nl_21, nl_22, nl_23, nl_24, nl_25, nl_26, nl_27, nl_28, nl_31, nl_32, nl_42, nl_44, nl_46, nl_48, nl_49, nl_50, nl_51, nl_60, nl_75, nl_76, nl_99, nl_100, nl_108, nl_114, nl_117, nl_126, nl_255, nl_999, nl_2401, nl_9999, nl_12345, nl_65536, nl_1000000, nl_1103515245, nl_2147483647, iI_0, iI_neg, iI_add, iI_sub, iI_mul, iI_div, iI_mod, iI_lt, iI_le, iI_eq, iI_nat, iI_vp, ld_rd, ld_wl, lu_s, lu_t, lu_c, lu_j, forall_eq, Int.toNat_natCast, true_and, and_true, not_true, not_false_iff, Classical.not_not, forall_const, iI_inj, hP.1, h7] at z
        omega
      · simp (disch := omega) only [nl_0, nl_1, nl_2, nl_3, nl_4, nl_5, nl_6, nl_7, nl_8, nl_9, nl_10, nl_11, nl_12, nl_13, nl_14, nl_15, nl_16, nl_17, nl_18, nl_19, nl_20, nl_21, nl_22, nl_23, nl_24, nl_25, nl_26, nl_27, nl_28, nl_31, nl_32, nl_42, nl_44, nl_46, nl_48, nl_49, nl_50, nl_51, nl_60, nl_75, nl_76, nl_99, nl_100, nl_108, nl_114, nl_117, nl_126, nl_255, nl_999, nl_2401, nl_9999, nl_12345, nl_65536, nl_1000000, nl_1103515245, nl_2147483647, iI_0, iI_neg, iI_add, iI_sub, iI_mul, iI_div, iI_mod, iI_lt, iI_le, iI_eq, iI_nat, iI_vp, ld_rd, ld_wl, lu_s, lu_t, lu_c, lu_j, forall_eq, Int.toNat_natCast, true_and, and_true, not_true, not_false_iff, Classical.not_not, forall_const, iI_inj, p1, q1, t1, g1]
        exact ih _
    · have hc : ¬ ch A x := fun h => by
        rcases h with h | h
        · omega
        · exact ho h
      rw [e1, if_neg ho, Int.add_zero, cn_n hc] at ih
      exact ih _
/-! pairs in their order -/
abbrev Kp (A : lA) (W1 W2 : Nat → Nat → Int) (k : Nat) : Prop := ch A (k / 7) ∧ ch A (k % 7) ∧ ∀ o, o < 7 → (¬ ch A o ∨ (W1 o (k % 7) ≤ W1 (k / 7) (k % 7) ∧ W2 (k / 7) o ≤ W2 (k / 7) (k % 7)))
def cK (A : lA) (W1 W2 : Nat → Nat → Int) : Nat → Nat
  | 0 => 0
  | k + 1 => cK A W1 W2 k + if Kp A W1 W2 k then 1 else 0
def fK (A : lA) (W1 W2 : Nat → Nat → Int) : Nat → Int
  | 0 => -4
  | k + 1 => if cK A W1 W2 k = 0 ∧ Kp A W1 W2 k then 10 * ((k / 7 : Nat) : Int) + ((k % 7 : Nat) : Int) else fK A W1 W2 k
theorem cK_le {A : lA} {W1 W2 : Nat → Nat → Int} : ∀ k, cK A W1 W2 k ≤ k
  | 0 => Nat.le_refl 0
  | k + 1 => by
    have := cK_le (A := A) (W1 := W1) (W2 := W2) k
    show cK A W1 W2 k + (if Kp A W1 W2 k then 1 else 0) ≤ k + 1
    split <;> omega
theorem cK_y {A : lA} {W1 W2 : Nat → Nat → Int} {k : Nat} (h : Kp A W1 W2 k) : cK A W1 W2 (k + 1) = cK A W1 W2 k + 1 := by
  show cK A W1 W2 k + (if Kp A W1 W2 k then 1 else 0) = _
  rw [if_pos h]
theorem cK_n {A : lA} {W1 W2 : Nat → Nat → Int} {k : Nat} (h : ¬ Kp A W1 W2 k) : cK A W1 W2 (k + 1) = cK A W1 W2 k ∧ fK A W1 W2 (k + 1) = fK A W1 W2 k := by
  refine ⟨?_, if_neg (fun z => h z.2)⟩
  show cK A W1 W2 k + (if Kp A W1 W2 k then 1 else 0) = _
  rw [if_neg h]
  rfl
theorem cK_row {A : lA} {W1 W2 : Nat → Nat → Int} {x : Nat} (h : ¬ ch A x) : ∀ j, j ≤ 7 → cK A W1 W2 (7 * x + j) = cK A W1 W2 (7 * x) ∧ fK A W1 W2 (7 * x + j) = fK A W1 W2 (7 * x)
  | 0, _ => ⟨rfl, rfl⟩
  | j + 1, hj => by
    have ih := cK_row (W1 := W1) (W2 := W2) h j (by omega)
    have hn : ¬ Kp A W1 W2 (7 * x + j) := fun z => h (by have := z.1; rw [show (7 * x + j) / 7 = x by omega] at this; exact this)
    have := cK_n hn
    exact ⟨this.1.trans ih.1, this.2.trans ih.2⟩
theorem sp_isKept {d x y : Nat} {A : lA} {N : mj_M} {W1 W2 : Nat → Nat → Int} (hd : 1 ≤ d) (h0 : N 12 30 0 0 = iI (cn A 7 : Int)) (hx : x < 7) (hy : y < 7) (hcx : ch A x) (hcy : ch A y) (hw : ∀ x y, x < 7 → y < 7 → ch A x → ch A y → N 12 38 (cn A x) (cn A y) = iI (W1 x y) ∧ N 12 40 (cn A x) (cn A y) = iI (W2 x y)) (hb : ∀ x y, -1000 ≤ W1 x y ∧ W1 x y ≤ 1000 ∧ -1000 ≤ W2 x y ∧ W2 x y ≤ 1000) : mj_Sp d 62 [mj_r (12, 30, 0), mj_i (iI (cn A x : Int)), mj_i (iI (cn A y : Int))] N (some (mj_i (iI (if Kp A W1 W2 (7 * x + y) then 1 else 0)))) N := by
  have h7 := cn_le (A := A) 7
  have hlx := cn_lt hcx hx
  have hly := cn_lt hcy hy
  have e1 : (7 * x + y) / 7 = x := by omega
  have e2 : (7 * x + y) % 7 = y := by omega
  have hk : Kp A W1 W2 (7 * x + y) ↔ ∀ o, o < 7 → (¬ ch A o ∨ (W1 o y ≤ W1 x y ∧ W2 x o ≤ W2 x y)) := by
    unfold Kp
    rw [e1, e2]
    exact ⟨fun z => z.2.2, fun z => ⟨hcx, hcy, z⟩⟩
  refine en_Ly_isKeptByBoth (k := 0) hd fun e he P hP hQ => rg_Ly_isKeptByBoth_0 hP ?_
  refine lp_dn (Q := fun o => (∀ o', o' < o → (¬ ch A o' ∨ (W1 o' y ≤ W1 x y ∧ W2 x o' ≤ W2 x y))) → P 2 [some (mj_r (12, 30, 0)), some (mj_i (iI (cn A x : Int))), some (mj_i (iI (cn A y : Int))), some (mj_i (iI (cn A o : Int)))] [] N) (n := 7) (fun hall => ?_) (fun o ho ih hall => ?_) 0 (Nat.zero_le _) (fun o h => absurd h (Nat.not_lt_zero o))
  · refine rg_Ly_isKeptByBoth_2 hP ⟨fun z => ?_, fun z => ?_⟩
    · rw [if_pos (hk.mpr hall)]
      (first | exact mj_eq.rf | exact fi_n mj_eq.rf | exact fi_i rfl mj_eq.rf | exact rfl)
    · simp (disch := omega) only [nl_0, nl_1, nl_2, nl_3, nl_4, nl_5, nl_6, nl_7, nl_8, nl_9, nl_10, nl_11, nl_12, nl_13, nl_14, nl_15, nl_16, nl_17, nl_18, nl_19, nl_20, nl_21, nl_22, nl_23, nl_24, nl_25, nl_26, nl_27, nl_28, nl_31, nl_32, nl_42, nl_44, nl_46, nl_48, nl_49, nl_50, nl_51, nl_60, nl_75, nl_76, nl_99, nl_100, nl_108, nl_114, nl_117, nl_126, nl_255, nl_999, nl_2401, nl_9999, nl_12345, nl_65536, nl_1000000, nl_1103515245, nl_2147483647, iI_0, iI_neg, iI_add, iI_sub, iI_mul, iI_div, iI_mod, iI_lt, iI_le, iI_eq, iI_nat, iI_vp, ld_rd, ld_wl, lu_s, lu_t, lu_c, lu_j, forall_eq, Int.toNat_natCast, true_and, and_true, not_true, not_false_iff, Classical.not_not, forall_const, iI_inj, h0] at z
      omega
  · by_cases hco : ch A o
    · have hlo := cn_lt hco ho
      have w1 := hw x y hx hy hcx hcy
      have w2 := hw o y ho hy hco hcy
      have w3 := hw x o hx ho hcx hco
      have b1 := hb x y
      have b2 := hb o y
      have b3 := hb x o
      refine rg_Ly_isKeptByBoth_2 hP ⟨fun z => ?_, fun z => ?_⟩
      · simp (disch := omega) only [nl_0, nl_1, nl_2, nl_3, nl_4, nl_5, nl_6, nl_7, nl_8, nl_9, nl_10, nl_11, nl_12, nl_13, nl_14, nl_15, nl_16, nl_17, nl_18, nl_19, nl_20, nl_21, nl_22, nl_23, nl_24, nl_25, nl_26, nl_27, nl_28, nl_31, nl_32, nl_42, nl_44, nl_46, nl_48, nl_49, nl_50, nl_51, nl_60, nl_75, nl_76, nl_99, nl_100, nl_108, nl_114, nl_117, nl_126, nl_255, nl_999, nl_2401, nl_9999, nl_12345, nl_65536, nl_1000000, nl_1103515245, nl_2147483647, iI_0, iI_neg, iI_add, iI_sub, iI_mul, iI_div, iI_mod, iI_lt, iI_le, iI_eq, iI_nat, iI_vp, ld_rd, ld_wl, lu_s, lu_t, lu_c, lu_j, forall_eq, Int.toNat_natCast, true_and, and_true, not_true, not_false_iff, Classical.not_not, forall_const, iI_inj, h0] at z
        omega
      · simp (disch := omega) only [nl_0, nl_1, nl_2, nl_3, nl_4, nl_5, nl_6, nl_7, nl_8, nl_9, nl_10, nl_11, nl_12, nl_13, nl_14, nl_15, nl_16, nl_17, nl_18, nl_19, nl_20, nl_21, nl_22, nl_23, nl_24, nl_25, nl_26, nl_27, nl_28, nl_31, nl_32, nl_42, nl_44, nl_46, nl_48, nl_49, nl_50, nl_51, nl_60, nl_75, nl_76, nl_99, nl_100, nl_108, nl_114, nl_117, nl_126, nl_255, nl_999, nl_2401, nl_9999, nl_12345, nl_65536, nl_1000000, nl_1103515245, nl_2147483647, iI_0, iI_neg, iI_add, iI_sub, iI_mul, iI_div, iI_mod, iI_lt, iI_le, iI_eq, iI_nat, iI_vp, ld_rd, ld_wl, lu_s, lu_t, lu_c, lu_j, forall_eq, Int.toNat_natCast, true_and, and_true, not_true, not_false_iff, Classical.not_not, forall_const, iI_inj, w1.1, w1.2, w2.1, w3.2]
        refine ⟨fun z1 => ?_, fun z1 => ⟨fun z2 => ?_, fun z2 => ?_⟩⟩
        · rw [if_neg (fun h => by
            rcases hk.mp h o ho with g | g
            · exact g hco
            · omega)]
          (first | exact mj_eq.rf | exact fi_n mj_eq.rf | exact fi_i rfl mj_eq.rf | exact rfl)
        · rw [cn_y hco] at ih
          refine ih fun o' ho' => ?_
          by_cases e : o' = o
          · subst e
            exact Or.inr ⟨by omega, z2⟩
          · exact hall o' (by omega)
        · rw [if_neg (fun h => by
            rcases hk.mp h o ho with g | g
            · exact g hco
            · omega)]
          (first | exact mj_eq.rf | exact fi_n mj_eq.rf | exact fi_i rfl mj_eq.rf | exact rfl)
    · rw [cn_n hco] at ih
      refine ih fun o' ho' => ?_
      by_cases e : o' = o
      · subst e
        exact Or.inl hco
      · exact hall o' (by omega)
