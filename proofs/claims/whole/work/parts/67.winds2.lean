/-! contracts: the reference's winds -/
def RD (N : mj_M) (m : Nat) (S F : Nat → Int) : Prop := ∀ j, j < m → N 33 65 0 (2 * j) = iI (S j) ∧ N 33 65 0 (2 * j + 1) = iI (F j)
def RG (m : Nat) (S F : Nat → Int) : Prop := ∀ j, j < m → (0 ≤ S j ∧ S j ≤ 3) ∧ 0 ≤ F j ∧ F j ≤ 3
theorem RD.p {N N' : mj_M} {m : Nat} {S F : Nat → Int} (h : RD N m S F) (e : ∀ j, N' 33 65 0 j = N 33 65 0 j) : RD N' m S F := fun j hj => by
  rw [e, e]
  exact h j hj
theorem k_lay {m : Nat} {S F : Nat → Int} {N : mj_M} {x2 : Int32} (hm : m ≤ 12) (hR : RD N m S F) (hG : RG m S F) (h10 : N 34 10 0 0 = iI (m : Int)) : ∃ N', Rn mj_c109 0 125 [some (mj_r (30, 60, 0)), some (mj_i (iI (m : Int))), some (mj_i x2), some (mj_i (iI 0))] N (some (mj_i (iI (m : Int)))) N' ∧ fr [34] N N' ∧ WD N' 34 m S F := by
  have main : ∀ v, v ≤ m → ∀ N1, fr [34] N N1 → N1 34 10 0 0 = iI (m : Int) → (∀ j, j < v → N1 34 11 0 j = iI (S j) ∧ N1 34 12 0 j = iI (F j)) → ∃ N', Rn mj_c109 0 125 [some (mj_r (30, 60, 0)), some (mj_i (iI (m : Int))), some (mj_i x2), some (mj_i (iI (v : Int)))] N1 (some (mj_i (iI (m : Int)))) N' ∧ fr [34] N N' ∧ WD N' 34 m S F := by
    refine lp_dn (Q := fun v => ∀ N1, fr [34] N N1 → N1 34 10 0 0 = iI (m : Int) → (∀ j, j < v → N1 34 11 0 j = iI (S j) ∧ N1 34 12 0 j = iI (F j)) → ∃ N', Rn mj_c109 0 125 [some (mj_r (30, 60, 0)), some (mj_i (iI (m : Int))), some (mj_i x2), some (mj_i (iI (v : Int)))] N1 (some (mj_i (iI (m : Int)))) N' ∧ fr [34] N N' ∧ WD N' 34 m S F) (n := m) (fun N1 hf h0 hj => ?_) (fun v hv ih N1 hf h0 hj => ?_)
    · refine ⟨N1, fun e he P hP hQ => rg_m_winds_125 hP ⟨fun z => by (first | exact mj_eq.rf | exact fi_n mj_eq.rf | exact fi_i rfl mj_eq.rf | exact rfl), fun z => ?_⟩, hf, h0, hm, fun j hjm => ⟨(hj j hjm).1, (hj j hjm).2, hG j hjm⟩⟩
      simp (disch := omega) only [nl_0, nl_1, nl_2, nl_3, nl_4, nl_5, nl_6, nl_7, nl_8, nl_9, nl_10, nl_11, nl_12, nl_13, nl_14, nl_15, nl_16, nl_17, nl_18, nl_19, nl_20, nl_21, nl_22, nl_23, nl_24, nl_25, nl_26, nl_27, nl_28, nl_31, nl_32, nl_42, nl_44, nl_46, nl_48, nl_49, nl_50, nl_51, nl_60, nl_75, nl_76, nl_99, nl_100, nl_108, nl_114, nl_117, nl_126, nl_255, nl_999, nl_2401, nl_9999, nl_12345, nl_65536, nl_1000000, nl_1103515245, nl_2147483647, iI_0, iI_neg, iI_add, iI_sub, iI_mul, iI_div, iI_mod, iI_lt, iI_le, iI_eq, iI_nat, iI_vp, ld_rd, ld_wl, lu_s, lu_t, lu_c, lu_j, forall_eq, Int.toNat_natCast, true_and, and_true, not_true, not_false_iff, Classical.not_not, forall_const, iI_inj] at z
      omega
    · have e2 : (2 : Int) * (v : Int) = ((2 * v : Nat) : Int) := by omega
      have e3 : ((2 * v : Nat) : Int) + 1 = ((2 * v + 1 : Nat) : Int) := by omega
      have e4 : (v : Int) + 1 = ((v + 1 : Nat) : Int) := by omega
      have hv2 := hR v hv
      have h33 : N1 33 = N 33 := hf 33 (by decide)
      obtain ⟨N', hr, h1, h2⟩ := ih (mj_wl (mj_wl N1 (34, 11, 0, v) (iI (S v))) (34, 12, 0, v) (iI (F v))) ((hf.wl (by decide)).wl (by decide)) (by rw [wl_n (by omega), wl_n (by omega)]; exact h0) (fun j hjv => by
        by_cases e : j = v
        · subst e
          rw [wl_n (by omega), wl_s, wl_s]
          exact ⟨rfl, rfl⟩
        · rw [wl_n (by omega), wl_n (by omega), wl_n (by omega), wl_n (by omega)]
          exact hj j (by omega))
      refine ⟨N', fun e he P hP hQ => rg_m_winds_125 hP ⟨fun z => ?_, fun z => ?_⟩, h1, h2⟩
      · simp (disch := omega) only [nl_0, nl_1, nl_2, nl_3, nl_4, nl_5, nl_6, nl_7, nl_8, nl_9, nl_10, nl_11, nl_12, nl_13, nl_14, nl_15, nl_16, nl_17, nl_18, nl_19, nl_20, nl_21, nl_22, nl_23, nl_24, nl_25, nl_26, nl_27, nl_28, nl_31, nl_32, nl_42, nl_44, nl_46, nl_48, nl_49, nl_50, nl_51, nl_60, nl_75, nl_76, nl_99, nl_100, nl_108, nl_114, nl_117, nl_126, nl_255, nl_999, nl_2401, nl_9999, nl_12345, nl_65536, nl_1000000, nl_1103515245, nl_2147483647, iI_0, iI_neg, iI_add, iI_sub, iI_mul, iI_div, iI_mod, iI_lt, iI_le, iI_eq, iI_nat, iI_vp, ld_rd, ld_wl, lu_s, lu_t, lu_c, lu_j, forall_eq, Int.toNat_natCast, true_and, and_true, not_true, not_false_iff, Classical.not_not, forall_const, iI_inj] at z
        omega
      · have := hr e he P hP hQ
        simp (disch := omega) only [nl_0, nl_1, nl_2, nl_3, nl_4, nl_5, nl_6, nl_7, nl_8, nl_9, nl_10, nl_11, nl_12, nl_13, nl_14, nl_15, nl_16, nl_17, nl_18, nl_19, nl_20, nl_21, nl_22, nl_23, nl_24, nl_25, nl_26, nl_27, nl_28, nl_31, nl_32, nl_42, nl_44, nl_46, nl_48, nl_49, nl_50, nl_51, nl_60, nl_75, nl_76, nl_99, nl_100, nl_108, nl_114, nl_117, nl_126, nl_255, nl_999, nl_2401, nl_9999, nl_12345, nl_65536, nl_1000000, nl_1103515245, nl_2147483647, iI_0, iI_neg, iI_add, iI_sub, iI_mul, iI_div, iI_mod, iI_lt, iI_le, iI_eq, iI_nat, iI_vp, ld_rd, ld_wl, lu_s, lu_t, lu_c, lu_j, forall_eq, Int.toNat_natCast, true_and, and_true, not_true, not_false_iff, Classical.not_not, forall_const, iI_inj, e2, e3, e4, wl_n, h33, hv2.1, hv2.2]
        exact this
  exact main 0 (Nat.zero_le _) N fr.r0 h10 (fun j hj => absurd hj (by omega))
/-- what comes of the winds: an answer and, if they were told, the winds -/
def WA (R : Int) (m : Nat) (S F : Nat → Int) : Prop := iR R ∧ (0 < R → R = m ∧ m ≤ 12 ∧ RG m S F)
def WN (N N' : mj_M) (R : Int) (m : Nat) (S F : Nat → Int) : Prop := fr [32, 33, 34] N N' ∧ N' 32 63 0 0 = iI 0 ∧ (0 < R → WD N' 34 m S F) ∧ (¬ 0 < R → N' 34 = N 34)
theorem fr.one {ps : List Nat} {p : Nat} {N N' : mj_M} (f : fr [p] N N') (h : p ∈ ps) : fr ps N N' := fun i hi => f i (fun z => hi (List.mem_singleton.mp z ▸ h))
theorem WN.of {N N1 N' : mj_M} {R : Int} {m : Nat} {S F : Nat → Int} (h : WN N1 N' R m S F) (f : fr [33] N N1) : WN N N' R m S F := by
  obtain ⟨h1, h2, h3, h4⟩ := h
  have f2 : fr [32, 33, 34] N N1 := f.one (by decide)
  exact ⟨f2.tr h1, h2, h3, fun z => (h4 z).trans (f 34 (by decide))⟩
theorem k_ex1 {e0 m : Nat} {N : mj_M} {m' : Nat} {S F : Nat → Int} (h1 : N 33 63 0 1 = iI 1) (h0 : N 33 63 0 0 = iI (e0 : Int)) (he0 : e0 ≤ 48) : ∃ N', Rn mj_c109 2 14 [some (mj_r (30, 60, 0)), some (mj_i (iI (m : Int))), some (mj_i (iI 0)), none] N (some (mj_i (iI (-20 - (e0 : Int))))) N' ∧ WN N N' (-20 - (e0 : Int)) m' S F := by
  refine ⟨mj_wl (mj_wl N (33, 63, 0, 1) (iI 1)) (32, 63, 0, 0) (iI 0), fun e he P hP hQ => rg_m_winds_14 hP ?_, (fr.r0.wl (by decide)).wl (by decide), wl_s, fun z => by omega, fun z => by rw [wl_p (by omega), wl_p (by omega)]⟩
  simp (disch := omega) only [nl_0, nl_1, nl_2, nl_3, nl_4, nl_5, nl_6, nl_7, nl_8, nl_9, nl_10, nl_11, nl_12, nl_13, nl_14, nl_15, nl_16, nl_17, nl_18, nl_19, nl_20, nl_21, nl_22, nl_23, nl_24, nl_25, nl_26, nl_27, nl_28, nl_31, nl_32, nl_42, nl_44, nl_46, nl_48, nl_49, nl_50, nl_51, nl_60, nl_75, nl_76, nl_99, nl_100, nl_108, nl_114, nl_117, nl_126, nl_255, nl_999, nl_2401, nl_9999, nl_12345, nl_65536, nl_1000000, nl_1103515245, nl_2147483647, iI_0, iI_neg, iI_add, iI_sub, iI_mul, iI_div, iI_mod, iI_lt, iI_le, iI_eq, iI_nat, iI_vp, ld_rd, ld_wl, lu_s, lu_t, lu_c, lu_j, forall_eq, Int.toNat_natCast, true_and, and_true, not_true, not_false_iff, Classical.not_not, forall_const, iI_inj, h1, h0, wl_s, wl_n]
  exact ⟨⟨fun _ => ⟨fun z => absurd z (by decide), fun _ => by (first | exact mj_eq.rf | exact fi_n mj_eq.rf | exact fi_i rfl mj_eq.rf | exact rfl)⟩, fun z => absurd z (by decide)⟩, fun z => z.elim⟩
theorem k_ex2 {n p q m : Nat} {T : Nat → Int} {N : mj_M} {S F : Nat → Int} (hT : TI n T) (h : TF N n T) (h1 : N 33 63 0 1 = iI 0) (hp : N 33 63 0 0 = iI (p : Int)) (hq : SK n T p q) (hm0 : 0 < m) (hm : m ≤ 12) (hR : RD N m S F) (hG : RG m S F) : (q < n → ∀ m' S' F', ∃ N', Rn mj_c109 2 14 [some (mj_r (30, 60, 0)), some (mj_i (iI (m : Int))), some (mj_i (iI 0)), none] N (some (mj_i (iI (-20 - (q : Int))))) N' ∧ WN N N' (-20 - (q : Int)) m' S' F') ∧ (¬ q < n → ∃ N', Rn mj_c109 2 14 [some (mj_r (30, 60, 0)), some (mj_i (iI (m : Int))), some (mj_i (iI 0)), none] N (some (mj_i (iI (m : Int)))) N' ∧ WN N N' (m : Int) m S F) := by
  have hn := hT.1
  refine ⟨fun g m' S' F' => ?_, fun g => ?_⟩
  · have hv : hb n T q = T q := if_pos g
    have ht := hT.2 q g
    refine ⟨mj_wl (mj_wl (mj_wl N (33, 63, 0, 0) (iI (q : Int))) (33, 63, 0, 1) (iI 1)) (32, 63, 0, 0) (iI 0), fun e he P hP hQ => rg_m_winds_14 hP ?_, ((fr.r0.wl (by decide)).wl (by decide)).wl (by decide), wl_s, fun z => by omega, fun z => by rw [wl_p (by omega), wl_p (by omega), wl_p (by omega)]⟩
    have hh := sp_here (d := e) hT h hp hq (by omega)
    rw [hv] at hh
    simp (disch := omega) only [nl_0, nl_1, nl_2, nl_3, nl_4, nl_5, nl_6, nl_7, nl_8, nl_9, nl_10, nl_11, nl_12, nl_13, nl_14, nl_15, nl_16, nl_17, nl_18, nl_19, nl_20, nl_21, nl_22, nl_23, nl_24, nl_25, nl_26, nl_27, nl_28, nl_31, nl_32, nl_42, nl_44, nl_46, nl_48, nl_49, nl_50, nl_51, nl_60, nl_75, nl_76, nl_99, nl_100, nl_108, nl_114, nl_117, nl_126, nl_255, nl_999, nl_2401, nl_9999, nl_12345, nl_65536, nl_1000000, nl_1103515245, nl_2147483647, iI_0, iI_neg, iI_add, iI_sub, iI_mul, iI_div, iI_mod, iI_lt, iI_le, iI_eq, iI_nat, iI_vp, ld_rd, ld_wl, lu_s, lu_t, lu_c, lu_j, forall_eq, Int.toNat_natCast, true_and, and_true, not_true, not_false_iff, Classical.not_not, forall_const, iI_inj, h1]
    refine ⟨⟨fun z => z.elim, _, _, hh, ?_⟩, fun z => z.elim⟩
    simp (disch := omega) only [nl_0, nl_1, nl_2, nl_3, nl_4, nl_5, nl_6, nl_7, nl_8, nl_9, nl_10, nl_11, nl_12, nl_13, nl_14, nl_15, nl_16, nl_17, nl_18, nl_19, nl_20, nl_21, nl_22, nl_23, nl_24, nl_25, nl_26, nl_27, nl_28, nl_31, nl_32, nl_42, nl_44, nl_46, nl_48, nl_49, nl_50, nl_51, nl_60, nl_75, nl_76, nl_99, nl_100, nl_108, nl_114, nl_117, nl_126, nl_255, nl_999, nl_2401, nl_9999, nl_12345, nl_65536, nl_1000000, nl_1103515245, nl_2147483647, iI_0, iI_neg, iI_add, iI_sub, iI_mul, iI_div, iI_mod, iI_lt, iI_le, iI_eq, iI_nat, iI_vp, ld_rd, ld_wl, lu_s, lu_t, lu_c, lu_j, forall_eq, Int.toNat_natCast, true_and, and_true, not_true, not_false_iff, Classical.not_not, forall_const, iI_inj, wl_s, wl_n]
    exact ⟨fun z => by omega, fun _ => ⟨fun z => absurd z (by decide), fun _ => by (first | exact mj_eq.rf | exact fi_n mj_eq.rf | exact fi_i rfl mj_eq.rf | exact rfl)⟩⟩
  · have hv : hb n T q = 0 := if_neg g
    obtain ⟨N', hr, f, w⟩ := k_lay (N := mj_wl (mj_wl (mj_wl (mj_wl N (33, 63, 0, 0) (iI (q : Int))) (33, 63, 0, 1) (iI 0)) (32, 63, 0, 0) (iI 0)) (34, 10, 0, 0) (iI (m : Int))) (x2 := iI 0) hm (hR.p fun j => by rw [wl_n (by omega), wl_n (by omega), wl_n (by omega), wl_n (by omega)]) hG wl_s
    refine ⟨N', fun e he P hP hQ => rg_m_winds_14 hP ?_, fr.tr ((((fr.r0.wl (by decide)).wl (by decide)).wl (by decide)).wl (by decide)) (f.one (by decide)), ?_, fun z => w, fun z => by omega⟩
    · have hh := sp_here (d := e) hT h hp hq (by omega)
      rw [hv] at hh
      simp (disch := omega) only [nl_0, nl_1, nl_2, nl_3, nl_4, nl_5, nl_6, nl_7, nl_8, nl_9, nl_10, nl_11, nl_12, nl_13, nl_14, nl_15, nl_16, nl_17, nl_18, nl_19, nl_20, nl_21, nl_22, nl_23, nl_24, nl_25, nl_26, nl_27, nl_28, nl_31, nl_32, nl_42, nl_44, nl_46, nl_48, nl_49, nl_50, nl_51, nl_60, nl_75, nl_76, nl_99, nl_100, nl_108, nl_114, nl_117, nl_126, nl_255, nl_999, nl_2401, nl_9999, nl_12345, nl_65536, nl_1000000, nl_1103515245, nl_2147483647, iI_0, iI_neg, iI_add, iI_sub, iI_mul, iI_div, iI_mod, iI_lt, iI_le, iI_eq, iI_nat, iI_vp, ld_rd, ld_wl, lu_s, lu_t, lu_c, lu_j, forall_eq, Int.toNat_natCast, true_and, and_true, not_true, not_false_iff, Classical.not_not, forall_const, iI_inj, h1]
      refine ⟨⟨fun z => z.elim, _, _, hh, ?_⟩, fun z => z.elim⟩
      have := hr e (by omega) P hP hQ
      simp (disch := omega) only [nl_0, nl_1, nl_2, nl_3, nl_4, nl_5, nl_6, nl_7, nl_8, nl_9, nl_10, nl_11, nl_12, nl_13, nl_14, nl_15, nl_16, nl_17, nl_18, nl_19, nl_20, nl_21, nl_22, nl_23, nl_24, nl_25, nl_26, nl_27, nl_28, nl_31, nl_32, nl_42, nl_44, nl_46, nl_48, nl_49, nl_50, nl_51, nl_60, nl_75, nl_76, nl_99, nl_100, nl_108, nl_114, nl_117, nl_126, nl_255, nl_999, nl_2401, nl_9999, nl_12345, nl_65536, nl_1000000, nl_1103515245, nl_2147483647, iI_0, iI_neg, iI_add, iI_sub, iI_mul, iI_div, iI_mod, iI_lt, iI_le, iI_eq, iI_nat, iI_vp, ld_rd, ld_wl, lu_s, lu_t, lu_c, lu_j, forall_eq, Int.toNat_natCast, true_and, and_true, not_true, not_false_iff, Classical.not_not, forall_const, iI_inj, wl_s, wl_n]
      exact ⟨⟨this, fun z => z.elim⟩, fun z => z.elim⟩
    · rw [f 32 (by decide), wl_p (by omega), wl_s]
