/-! contracts: the reference's fewest, whole -/
/-- the land with a village's strings laid by a row, up to a cloud -/
def hw (A : lA) (v : Nat) (r : Nat → Nat) (k : Nat) : lA := fun t i x => if t = 4 ∧ i < k ∧ x = v then (r i : Int) else A t i x
theorem hw_0 {A : lA} {v : Nat} {r : Nat → Nat} : hw A v r 0 = A := by
  funext t i x
  exact if_neg (by omega)
theorem hw_s {A : lA} {v k : Nat} {r : Nat → Nat} : lu (hw A v r k) 4 k v (r k : Int) = hw A v r (k + 1) := by
  funext t i x
  unfold lu hw
  by_cases h1 : t = 4 ∧ i = k ∧ x = v
  · rw [if_pos h1, if_pos (by omega), h1.2.1]
  · rw [if_neg h1]
    by_cases h4 : t = 4 ∧ i < k ∧ x = v
    · rw [if_pos h4, if_pos (by omega)]
    · rw [if_neg h4, if_neg (by omega)]
theorem hw_lo {A : lA} {v k t i x : Nat} {r : Nat → Nat} (h : t ≠ 4) : hw A v r k t i x = A t i x := if_neg fun z => h z.1
theorem hw_LI {A : lA} (h : LI A) {v k : Nat} {r : Nat → Nat} (hv : v < nV A) (h9 : ∀ c, c < 6 → r c ≤ 9) : LI (hw A v r k) := by
  refine ⟨h.1, h.2.1, h.2.2.1, h.2.2.2.1, fun c hc => h.kd hc, fun c hc => h.fd hc, fun c hc => h.wa hc, fun c' v' hc' hv' => ?_, fun c' v' hc' hv' hn => ?_, fun v hv => h.hm hv, fun u v hu hv e => h.ap hu hv e⟩
  · have := h9 c' hc'
    unfold hw
    split
    · omega
    · exact h.st hc' hv'
  · have hn2 : nV A ≤ v' := hn
    unfold hw
    rw [if_neg (by omega)]
    exact h.s0 hc' hv' hn2
theorem hw_ag {A : lA} {v c : Nat} {r : Nat → Nat} (hc : c < 6) : ag c (hw A v r 6) (lu A 4 c v (r c : Int)) := fun t i j z => by
  unfold vw at z
  unfold hw lu
  by_cases h1 : t = 4 ∧ i = c ∧ j = v
  · rw [if_pos h1, if_pos (by omega), h1.2.1]
  · rw [if_neg h1, if_neg (by omega)]
theorem hw_wet {A : lA} (hA : LI A) {v n m k : Nat} {S F : Nat → Int} {r : Nat → Nat} (hr : vr A r k) : gs (hw A v r 6) n S F m 8 0 v = A 8 0 v + sm (fun c => gg A v n S F m c (r c)) 6 := by
  have h1 := hA.nc
  have e0 : nC (hw A v r 6) = nC A := rfl
  have e8 : hw A v r 6 8 0 v = A 8 0 v := hw_lo (by decide)
  rw [gs_wet, e0, e8]
  congr 1
  rw [sm_0 (s := fun c => gg A v n S F m c (r c)) 6 h1.2 (fun c hc1 hc2 => by
    have ho : ¬ op A c := fun h => by have := h.1; omega
    show gg A v n S F m c (r c) = 0
    unfold gg
    rw [if_neg ho, if_pos (hr.1 c hc2 ho)])]
  refine sm_c _ (fun c hc => ?_)
  have hc6 : c < 6 := by omega
  by_cases ho : op A c
  · unfold gg
    rw [if_pos ho, (hw_ag hc6).k_ga rfl m]
    rfl
  · have h25 : A 2 0 c = 25 := Classical.byContradiction fun h => ho ⟨hc, h⟩
    unfold gg
    rw [if_neg ho, if_pos (hr.1 c hc6 ho), ga_aw (show hw A v r 6 2 0 c = 25 from h25)]
theorem sp_misEnough {v n m k : Nat} {A : lA} {M : mj_M} {S F : Nat → Int} {r : Nat → Nat} (hA : LJ A) (hW : WD M 34 n S F) (hv : v < nV A) (hm : m ≤ 12) (hk : k ≤ 9) (hr : vr A r k) (hR : RW M r) : ∃ M' b, (∀ d, 6 ≤ d → mj_Sp d 129 [mj_r (30, 60, 0), mj_i (iI (v : Int)), mj_i (iI (m : Int))] (mj_ld M 14 A) (some (mj_i (iI b))) (mj_ld M' 14 A)) ∧ fr [15] M M' ∧ ((b = 0 ∧ ¬ en A v n S F m r) ∨ (b = 1 ∧ en A v n S F m r)) := by
  have h1 := hA.li.nc
  have h2 := hA.li.nv
  have hh := hA.ho
  have h9 := vr_9 hr hk
  have hL := hw_LI (k := 6) hA.li hv h9
  have hwe := hA.we (v := v) (by omega)
  have hth := hA.th (v := v) (by omega)
  have hw1 := hw_wet hA.li (v := v) (n := n) (m := m) (S := S) (F := F) hr
  have hb : 0 ≤ sm (fun c => gg A v n S F m c (r c)) 6 ∧ sm (fun c => gg A v n S F m c (r c)) 6 ≤ 60 * 6 := by
    have hc : ∀ c, c < 6 → 0 ≤ gg A v n S F m c (r c) ∧ gg A v n S F m c (r c) ≤ 60 := fun c hc => by
      have := gg_r hA.li (n := n) (m := m) (c := c) (s := r c) (S := S) (F := F) hv (h9 c hc) hm
      refine ⟨?_, this.2⟩
      unfold gg
      by_cases ho : op A c
      · rw [if_pos ho]
        have h9c := h9 c hc
        exact (ga_r (hA.li.l4 (x := (r c : Int)) (c := c) (by omega) hv) hc m).1
      · rw [if_neg ho, if_pos (hr.1 c hc ho)]
        exact Int.le_refl _
    exact ⟨sm_nn 6 (fun c h => (hc c h).1), sm_le 6 (fun c h => (hc c h).2)⟩
  have core : ∀ b : Int, ((b = 0 ∧ ¬ en A v n S F m r) ∨ (b = 1 ∧ en A v n S F m r)) → ∀ d, 6 ≤ d → mj_Sp d 129 [mj_r (30, 60, 0), mj_i (iI (v : Int)), mj_i (iI (m : Int))] (mj_ld M 14 A) (some (mj_i (iI b))) (mj_ld (mj_ld M 15 (kk A (lT M 15) 76)) 14 A) := by
    intro b hbn d hd
    have e0 : mj_ld M 14 A = mj_ld (mj_ld M 15 (lT M 15)) 14 A := by rw [ld_self]
    rw [e0]
    refine en_m_isEnough (k := 5) hd fun e he P hP hQ => rg_m_isEnough_0 hP ⟨_, sp_mkeeps (by omega), ?_⟩
    have e1 : mj_ld (mj_ld M 15 (kk A (lT M 15) 76)) 14 A = mj_ld (mj_ld M 15 (kk A (lT M 15) 76)) 14 (hw A v r 0) := by rw [hw_0]
    rw [e1]
    refine lp_dn (Q := fun c => P 6 [some (mj_r (30, 60, 0)), some (mj_i (iI (v : Int))), some (mj_i (iI (m : Int))), some (mj_i (iI (c : Int)))] [] (mj_ld (mj_ld M 15 (kk A (lT M 15) 76)) 14 (hw A v r c))) (n := 6) ?_ (fun c hc ih => ?_) 0 (Nat.zero_le _)
    · refine rg_m_isEnough_6 hP ⟨fun z => ⟨_, _, sp_mgoes (by omega) hL hW.ld ?_ (by omega), ?_⟩, fun z => ?_⟩
      · rw [hw_lo (by decide)]
        omega
      · have e7 : gs (hw A v r 6) n S F m 7 0 v = A 7 0 v := (gs_lo (by omega) m).trans (hw_lo (by decide))
        have back : mj_eq (mj_ld (mj_ld M 15 (kk A (lT M 15) 76)) 14 (kk (kk A (lT M 15) 76) (gs (hw A v r 6) n S F m) 76)) (mj_ld (mj_ld M 15 (kk A (lT M 15) 76)) 14 A) := LD_back fun t i j h => (gs_lo (by omega) m).trans (hw_lo (by omega))
        simp (disch := omega) only [nl_0, nl_1, nl_2, nl_3, nl_4, nl_5, nl_6, nl_7, nl_8, nl_9, nl_10, nl_11, nl_12, nl_13, nl_14, nl_15, nl_16, nl_17, nl_18, nl_19, nl_20, nl_21, nl_22, nl_23, nl_24, nl_25, nl_26, nl_27, nl_28, nl_31, nl_32, nl_42, nl_44, nl_46, nl_48, nl_49, nl_50, nl_51, nl_60, nl_75, nl_76, nl_99, nl_100, nl_108, nl_114, nl_117, nl_126, nl_255, nl_999, nl_2401, nl_9999, nl_12345, nl_65536, nl_1000000, nl_1103515245, nl_2147483647, iI_0, iI_neg, iI_add, iI_sub, iI_mul, iI_div, iI_mod, iI_lt, iI_le, iI_eq, iI_nat, iI_vp, ld_rd, ld_wl, lu_s, lu_t, lu_c, lu_j, forall_eq, Int.toNat_natCast, true_and, and_true, not_true, not_false_iff, Classical.not_not, forall_const, iI_inj, nd, nlW, hw1, e7]
        refine ⟨fun z => ⟨_, sp_mback (by omega), ?_⟩, fun z => ⟨_, sp_mback (by omega), ?_⟩⟩
        · have : b = 0 := by
            rcases hbn with h | h
            · exact h.1
            · have := h.2
              unfold en at this
              omega
          subst this
          exact fi_i rfl back
        · have : b = 1 := by
            rcases hbn with h | h
            · exact absurd (show en A v n S F m r by unfold en; omega) h.2
            · exact h.1
          subst this
          exact fi_i rfl back
      · simp (disch := omega) only [nl_0, nl_1, nl_2, nl_3, nl_4, nl_5, nl_6, nl_7, nl_8, nl_9, nl_10, nl_11, nl_12, nl_13, nl_14, nl_15, nl_16, nl_17, nl_18, nl_19, nl_20, nl_21, nl_22, nl_23, nl_24, nl_25, nl_26, nl_27, nl_28, nl_31, nl_32, nl_42, nl_44, nl_46, nl_48, nl_49, nl_50, nl_51, nl_60, nl_75, nl_76, nl_99, nl_100, nl_108, nl_114, nl_117, nl_126, nl_255, nl_999, nl_2401, nl_9999, nl_12345, nl_65536, nl_1000000, nl_1103515245, nl_2147483647, iI_0, iI_neg, iI_add, iI_sub, iI_mul, iI_div, iI_mod, iI_lt, iI_le, iI_eq, iI_nat, iI_vp, ld_rd, ld_wl, lu_s, lu_t, lu_c, lu_j, forall_eq, Int.toNat_natCast, true_and, and_true, not_true, not_false_iff, Classical.not_not, forall_const, iI_inj] at z
        omega
    · have hrc : M 33 66 0 c = iI (r c : Int) := hR c hc
      refine rg_m_isEnough_6 hP ⟨fun z => ?_, fun z => ?_⟩
      · simp (disch := omega) only [nl_0, nl_1, nl_2, nl_3, nl_4, nl_5, nl_6, nl_7, nl_8, nl_9, nl_10, nl_11, nl_12, nl_13, nl_14, nl_15, nl_16, nl_17, nl_18, nl_19, nl_20, nl_21, nl_22, nl_23, nl_24, nl_25, nl_26, nl_27, nl_28, nl_31, nl_32, nl_42, nl_44, nl_46, nl_48, nl_49, nl_50, nl_51, nl_60, nl_75, nl_76, nl_99, nl_100, nl_108, nl_114, nl_117, nl_126, nl_255, nl_999, nl_2401, nl_9999, nl_12345, nl_65536, nl_1000000, nl_1103515245, nl_2147483647, iI_0, iI_neg, iI_add, iI_sub, iI_mul, iI_div, iI_mod, iI_lt, iI_le, iI_eq, iI_nat, iI_vp, ld_rd, ld_wl, lu_s, lu_t, lu_c, lu_j, forall_eq, Int.toNat_natCast, true_and, and_true, not_true, not_false_iff, Classical.not_not, forall_const, iI_inj] at z
        omega
      · simp (disch := omega) only [nl_0, nl_1, nl_2, nl_3, nl_4, nl_5, nl_6, nl_7, nl_8, nl_9, nl_10, nl_11, nl_12, nl_13, nl_14, nl_15, nl_16, nl_17, nl_18, nl_19, nl_20, nl_21, nl_22, nl_23, nl_24, nl_25, nl_26, nl_27, nl_28, nl_31, nl_32, nl_42, nl_44, nl_46, nl_48, nl_49, nl_50, nl_51, nl_60, nl_75, nl_76, nl_99, nl_100, nl_108, nl_114, nl_117, nl_126, nl_255, nl_999, nl_2401, nl_9999, nl_12345, nl_65536, nl_1000000, nl_1103515245, nl_2147483647, iI_0, iI_neg, iI_add, iI_sub, iI_mul, iI_div, iI_mod, iI_lt, iI_le, iI_eq, iI_nat, iI_vp, ld_rd, ld_wl, lu_s, lu_t, lu_c, lu_j, forall_eq, Int.toNat_natCast, true_and, and_true, not_true, not_false_iff, Classical.not_not, forall_const, iI_inj, ld_p, hrc, nw, nlh, hw_s]
        exact ih
  by_cases he : en A v n S F m r
  · exact ⟨_, 1, core 1 (Or.inr ⟨rfl, he⟩), fun i hi => ld_p (fun e => hi (by rw [e]; decide)), Or.inr ⟨rfl, he⟩⟩
  · exact ⟨_, 0, core 0 (Or.inl ⟨rfl, he⟩), fun i hi => ld_p (fun e => hi (by rw [e]; decide)), Or.inl ⟨rfl, he⟩⟩
theorem m_fewest {A : lA} {M : mj_M} {n : Nat} {S F : Nat → Int} {v m i : Int} (hv : iR v) (hm : iR m) (hi : iR i) (hA : LJ A) (hW : WD M 34 n S F) : ∃ (M' : mj_M) (r : Int), (∀ d, 7 ≤ d → mj_Sp d 130 [mj_r (30, 60, 0), mj_i (iI v), mj_i (iI m), mj_i (iI i)] (mj_ld M 14 A) (some (mj_i (iI r))) (mj_ld M' 14 A)) ∧ FW A n S F v m i r ∧ fr [15, 33] M M' := by
  unfold iR at hv hm hi
  have h1 := hA.li.nv
  have h2 := hA.li.nc
  by_cases g : ¬ (0 ≤ v ∧ v < A 0 0 1) ∨ m < 1 ∨ 12 < m ∨ i < -1 ∨ 5 < i
  · refine ⟨M, -1, fun d hd => en_m_fewest (k := 6) hd fun e he P hP hQ => rg_m_fewest_0 hP ?_, Or.inl ⟨g, rfl⟩, fr.r0⟩
    simp (disch := omega) only [nl_0, nl_1, nl_2, nl_3, nl_4, nl_5, nl_6, nl_7, nl_8, nl_9, nl_10, nl_11, nl_12, nl_13, nl_14, nl_15, nl_16, nl_17, nl_18, nl_19, nl_20, nl_21, nl_22, nl_23, nl_24, nl_25, nl_26, nl_27, nl_28, nl_31, nl_32, nl_42, nl_44, nl_46, nl_48, nl_49, nl_50, nl_51, nl_60, nl_75, nl_76, nl_99, nl_100, nl_108, nl_114, nl_117, nl_126, nl_255, nl_999, nl_2401, nl_9999, nl_12345, nl_65536, nl_1000000, nl_1103515245, nl_2147483647, iI_0, iI_neg, iI_add, iI_sub, iI_mul, iI_div, iI_mod, iI_lt, iI_le, iI_eq, iI_nat, iI_vp, ld_rd, ld_wl, lu_s, lu_t, lu_c, lu_j, forall_eq, Int.toNat_natCast, true_and, and_true, not_true, not_false_iff, Classical.not_not, forall_const, iI_inj, lI_iI, lI_neg, ll_1, ll_12, ll_5]
    refine bo2 (sp_mVillage (by omega) hv hA.li) (fun c1 => bo2 (sp_mI (by omega) (by omega) (by omega) (by omega)) (fun c2 => bo1 (sp_mI (by omega) (by omega) (by omega) (by omega)) (fun c3 => by omega) (fun c3 => ?_)) (fun c2 => ?_)) (fun c1 => ?_)
    · (first | exact mj_eq.rf | exact fi_n mj_eq.rf | exact fi_i rfl mj_eq.rf | exact rfl)
    · (first | exact mj_eq.rf | exact fi_n mj_eq.rf | exact fi_i rfl mj_eq.rf | exact rfl)
    · (first | exact mj_eq.rf | exact fi_n mj_eq.rf | exact fi_i rfl mj_eq.rf | exact rfl)
  · obtain ⟨w, rfl⟩ := nat_iR (show 0 ≤ v by omega)
    obtain ⟨q, rfl⟩ := nat_iR (show 0 ≤ m by omega)
    have hsg := hA.sg (v := w) (by omega)
    have ht0 := hA.t0 (v := w) (by omega)
    obtain ⟨has, eh⟩ := nat_iR (show 0 ≤ A 6 0 w by omega)
    have hl := lo_r (A := A) (nC A)
    have key : ∀ k : Nat, k ≤ has + 1 → ∀ N o5, fr [15, 33] M N → (∀ k' : Nat, k' < k → ∀ q', vr A q' k' → ¬ en A w n S F q q') → ∃ (M' : mj_M) (r : Int), (FW A n S F w q i r ∧ fr [15, 33] M M') ∧ Rn mj_c130 6 39 [some (mj_r (30, 60, 0)), some (mj_i (iI (w : Int))), some (mj_i (iI (q : Int))), some (mj_i (iI i)), some (mj_i (iI (k : Int))), o5] (mj_ld N 14 A) (some (mj_i (iI r))) (mj_ld M' 14 A) := by
      refine lp_dn (Q := fun k => ∀ N o5, fr [15, 33] M N → (∀ k' : Nat, k' < k → ∀ q', vr A q' k' → ¬ en A w n S F q q') → ∃ (M' : mj_M) (r : Int), (FW A n S F w q i r ∧ fr [15, 33] M M') ∧ Rn mj_c130 6 39 [some (mj_r (30, 60, 0)), some (mj_i (iI (w : Int))), some (mj_i (iI (q : Int))), some (mj_i (iI i)), some (mj_i (iI (k : Int))), o5] (mj_ld N 14 A) (some (mj_i (iI r))) (mj_ld M' 14 A)) (n := has + 1) (fun N o5 hf hno => ?_) (fun k hk ih N o5 hf hno => ?_)
      · refine ⟨N, -4, ⟨Or.inr (Or.inl ⟨g, fun k hk q' => hno k (by have : A 6 0 (w : Int).toNat = (has : Int) := eh; omega) q', rfl⟩), hf⟩, fun e he P hP hQ => rg_m_fewest_39 hP ?_⟩
        simp (disch := omega) only [nl_0, nl_1, nl_2, nl_3, nl_4, nl_5, nl_6, nl_7, nl_8, nl_9, nl_10, nl_11, nl_12, nl_13, nl_14, nl_15, nl_16, nl_17, nl_18, nl_19, nl_20, nl_21, nl_22, nl_23, nl_24, nl_25, nl_26, nl_27, nl_28, nl_31, nl_32, nl_42, nl_44, nl_46, nl_48, nl_49, nl_50, nl_51, nl_60, nl_75, nl_76, nl_99, nl_100, nl_108, nl_114, nl_117, nl_126, nl_255, nl_999, nl_2401, nl_9999, nl_12345, nl_65536, nl_1000000, nl_1103515245, nl_2147483647, iI_0, iI_neg, iI_add, iI_sub, iI_mul, iI_div, iI_mod, iI_lt, iI_le, iI_eq, iI_nat, iI_vp, ld_rd, ld_wl, lu_s, lu_t, lu_c, lu_j, forall_eq, Int.toNat_natCast, true_and, and_true, not_true, not_false_iff, Classical.not_not, forall_const, iI_inj, nd, nlH]
        exact ⟨fun z => by (first | exact mj_eq.rf | exact fi_n mj_eq.rf | exact fi_i rfl mj_eq.rf | exact rfl), fun z => by omega⟩
      · obtain ⟨N1, spb, fb, rb⟩ := sp_mbegins (k := k) (A := A) (M := N) hA.li (by omega)
        have hf1 : fr [15, 33] M N1 := fun j hj => (fb j (fun h => hj (by rw [List.mem_singleton.mp h]; decide))).trans (hf j hj)
        -- the rows of this sum, from a row on
        have inner : ∀ f : Nat, ∀ N (r : Nat → Nat), fr [15, 33] M N → RW N r → vr A r k → (∀ q', vr A q' k → Lx q' r → ¬ en A w n S F q q') → 1000000 ≤ cdr r 6 + f → ∃ (M' : mj_M) (r : Int), (FW A n S F w q i r ∧ fr [15, 33] M M') ∧ Rn mj_c130 6 61 [some (mj_r (30, 60, 0)), some (mj_i (iI (w : Int))), some (mj_i (iI (q : Int))), some (mj_i (iI i)), some (mj_i (iI (k : Int))), some (mj_i (iI 1))] (mj_ld N 14 A) (some (mj_i (iI r))) (mj_ld M' 14 A) := by
          intro f
          induction f with
          | zero =>
            intro N r hf hR hr hmin hc
            have := cdr_le (vr_9 hr (by omega))
            omega
          | succ f ihf =>
            intro N r hf hR hr hmin hc
            have hWN : WD N 34 n S F := by
              unfold WD
              rw [hf 34 (by decide)]
              exact hW
            obtain ⟨N2, b, spe, fe, hb⟩ := sp_misEnough hA hWN (show w < nV A by omega) (show q ≤ 12 by omega) (by omega) hr hR
            have hf2 : fr [15, 33] M N2 := fun j hj => (fe j (fun h => hj (by rw [List.mem_singleton.mp h]; decide))).trans (hf j hj)
            have hR2 : RW N2 r := fun c hc => by rw [fe 33 (by decide)]; exact hR c hc
            rcases hb with ⟨rfl, hne⟩ | ⟨rfl, he⟩
            · obtain ⟨N3, b3, spt, ft, hb3⟩ := sp_mturns (M := N2) hA.li (by omega) hr hR2
              have hf3 : fr [15, 33] M N3 := fun j hj => (ft j (fun h => hj (by rw [List.mem_singleton.mp h]; decide))).trans (hf2 j hj)
              rcases hb3 with ⟨rfl, hlast⟩ | ⟨rfl, r', hR3, hr3, hlt, hnx⟩
              · obtain ⟨M', rr, hG, hRn⟩ := ih N3 (some (mj_i (iI 0))) hf3 (fun k' hk' q' hq' => by
                  by_cases e : k' = k
                  · subst e
                    rcases lx_tri q' r with h | h | h
                    · exact hmin q' hq' h
                    · intro hen
                      refine hne ?_
                      unfold en at hen ⊢
                      rw [sm_c 6 (fun c hc => by rw [← h c hc])]
                      exact hen
                    · exact absurd h (hlast q' hq')
                  · exact hno k' (by omega) q' hq')
                refine ⟨M', rr, hG, fun e he P hP hQ => rg_m_fewest_61 hP ?_⟩
                simp (disch := omega) only [nl_0, nl_1, nl_2, nl_3, nl_4, nl_5, nl_6, nl_7, nl_8, nl_9, nl_10, nl_11, nl_12, nl_13, nl_14, nl_15, nl_16, nl_17, nl_18, nl_19, nl_20, nl_21, nl_22, nl_23, nl_24, nl_25, nl_26, nl_27, nl_28, nl_31, nl_32, nl_42, nl_44, nl_46, nl_48, nl_49, nl_50, nl_51, nl_60, nl_75, nl_76, nl_99, nl_100, nl_108, nl_114, nl_117, nl_126, nl_255, nl_999, nl_2401, nl_9999, nl_12345, nl_65536, nl_1000000, nl_1103515245, nl_2147483647, iI_0, iI_neg, iI_add, iI_sub, iI_mul, iI_div, iI_mod, iI_lt, iI_le, iI_eq, iI_nat, iI_vp, ld_rd, ld_wl, lu_s, lu_t, lu_c, lu_j, forall_eq, Int.toNat_natCast, true_and, and_true, not_true, not_false_iff, Classical.not_not, forall_const, iI_inj]
                refine ⟨fun z => by omega, fun _ => ⟨_, _, spe e he, fun _ => ⟨_, _, spt e (by omega), rg_m_fewest_61 hP ?_⟩, fun z => absurd rfl z⟩⟩
                simp (disch := omega) only [nl_0, nl_1, nl_2, nl_3, nl_4, nl_5, nl_6, nl_7, nl_8, nl_9, nl_10, nl_11, nl_12, nl_13, nl_14, nl_15, nl_16, nl_17, nl_18, nl_19, nl_20, nl_21, nl_22, nl_23, nl_24, nl_25, nl_26, nl_27, nl_28, nl_31, nl_32, nl_42, nl_44, nl_46, nl_48, nl_49, nl_50, nl_51, nl_60, nl_75, nl_76, nl_99, nl_100, nl_108, nl_114, nl_117, nl_126, nl_255, nl_999, nl_2401, nl_9999, nl_12345, nl_65536, nl_1000000, nl_1103515245, nl_2147483647, iI_0, iI_neg, iI_add, iI_sub, iI_mul, iI_div, iI_mod, iI_lt, iI_le, iI_eq, iI_nat, iI_vp, ld_rd, ld_wl, lu_s, lu_t, lu_c, lu_j, forall_eq, Int.toNat_natCast, true_and, and_true, not_true, not_false_iff, Classical.not_not, forall_const, iI_inj]
                exact ⟨hRn e he P hP hQ, fun z => z.elim⟩
              · obtain ⟨M', rr, hG, hRn⟩ := ihf N3 r' hf3 hR3 hr3 (fun q' hq' hl => by
                  rcases lx_tri q' r with h | h | h
                  · exact hmin q' hq' h
                  · intro hen
                    refine hne ?_
                    unfold en at hen ⊢
                    rw [sm_c 6 (fun c hc => by rw [← h c hc])]
                    exact hen
                  · exact absurd hl (hnx q' hq' h)) (by have := cdr_lt (vr_9 hr (by omega)) hlt; omega)
                refine ⟨M', rr, hG, fun e he P hP hQ => rg_m_fewest_61 hP ?_⟩
                simp (disch := omega) only [nl_0, nl_1, nl_2, nl_3, nl_4, nl_5, nl_6, nl_7, nl_8, nl_9, nl_10, nl_11, nl_12, nl_13, nl_14, nl_15, nl_16, nl_17, nl_18, nl_19, nl_20, nl_21, nl_22, nl_23, nl_24, nl_25, nl_26, nl_27, nl_28, nl_31, nl_32, nl_42, nl_44, nl_46, nl_48, nl_49, nl_50, nl_51, nl_60, nl_75, nl_76, nl_99, nl_100, nl_108, nl_114, nl_117, nl_126, nl_255, nl_999, nl_2401, nl_9999, nl_12345, nl_65536, nl_1000000, nl_1103515245, nl_2147483647, iI_0, iI_neg, iI_add, iI_sub, iI_mul, iI_div, iI_mod, iI_lt, iI_le, iI_eq, iI_nat, iI_vp, ld_rd, ld_wl, lu_s, lu_t, lu_c, lu_j, forall_eq, Int.toNat_natCast, true_and, and_true, not_true, not_false_iff, Classical.not_not, forall_const, iI_inj]
                exact ⟨fun z => by omega, fun _ => ⟨_, _, spe e he, fun _ => ⟨_, _, spt e (by omega), hRn e he P hP hQ⟩, fun z => absurd rfl z⟩⟩
            · refine ⟨N2, if i < 0 then (k : Int) else (r i.toNat : Int), ⟨Or.inr (Or.inr ⟨g, k, r, by have : A 6 0 (w : Int).toNat = (has : Int) := eh; omega, hno, hr, he, fun q' hq' hen hl => hmin q' hq' hl hen, rfl⟩), hf2⟩, fun e he P hP hQ => rg_m_fewest_61 hP ?_⟩
              simp (disch := omega) only [nl_0, nl_1, nl_2, nl_3, nl_4, nl_5, nl_6, nl_7, nl_8, nl_9, nl_10, nl_11, nl_12, nl_13, nl_14, nl_15, nl_16, nl_17, nl_18, nl_19, nl_20, nl_21, nl_22, nl_23, nl_24, nl_25, nl_26, nl_27, nl_28, nl_31, nl_32, nl_42, nl_44, nl_46, nl_48, nl_49, nl_50, nl_51, nl_60, nl_75, nl_76, nl_99, nl_100, nl_108, nl_114, nl_117, nl_126, nl_255, nl_999, nl_2401, nl_9999, nl_12345, nl_65536, nl_1000000, nl_1103515245, nl_2147483647, iI_0, iI_neg, iI_add, iI_sub, iI_mul, iI_div, iI_mod, iI_lt, iI_le, iI_eq, iI_nat, iI_vp, ld_rd, ld_wl, lu_s, lu_t, lu_c, lu_j, forall_eq, Int.toNat_natCast, true_and, and_true, not_true, not_false_iff, Classical.not_not, forall_const, iI_inj]
              refine ⟨fun z => by omega, fun _ => ⟨_, _, spe e he, fun z => absurd z (by decide), fun _ => ?_⟩⟩
              refine ⟨fun z2 => ?_, fun z2 => ?_⟩
              · rw [if_neg (by omega)]
                simp (disch := omega) only [nl_0, nl_1, nl_2, nl_3, nl_4, nl_5, nl_6, nl_7, nl_8, nl_9, nl_10, nl_11, nl_12, nl_13, nl_14, nl_15, nl_16, nl_17, nl_18, nl_19, nl_20, nl_21, nl_22, nl_23, nl_24, nl_25, nl_26, nl_27, nl_28, nl_31, nl_32, nl_42, nl_44, nl_46, nl_48, nl_49, nl_50, nl_51, nl_60, nl_75, nl_76, nl_99, nl_100, nl_108, nl_114, nl_117, nl_126, nl_255, nl_999, nl_2401, nl_9999, nl_12345, nl_65536, nl_1000000, nl_1103515245, nl_2147483647, iI_0, iI_neg, iI_add, iI_sub, iI_mul, iI_div, iI_mod, iI_lt, iI_le, iI_eq, iI_nat, iI_vp, ld_rd, ld_wl, lu_s, lu_t, lu_c, lu_j, forall_eq, Int.toNat_natCast, true_and, and_true, not_true, not_false_iff, Classical.not_not, forall_const, iI_inj, ld_p, hR2 i.toNat (by omega)]
                (first | exact mj_eq.rf | exact fi_n mj_eq.rf | exact fi_i rfl mj_eq.rf | exact rfl)
              · rw [if_pos (by omega)]
                (first | exact mj_eq.rf | exact fi_n mj_eq.rf | exact fi_i rfl mj_eq.rf | exact rfl)
        have e6 : mj_rd (mj_ld N 14 A) (14, 61, 0) (42 + (w : Int)).toNat = iI (has : Int) := by
          rw [nd, nlH (by omega) (by omega), Int.toNat_natCast, eh]
        by_cases hb : 0 ≤ lo A (nC A) ∨ k = 0
        · -- a first row
          have hv1 : vr A (fun c => if (c : Int) = lo A (nC A) then k else 0) k := by
            by_cases g2 : 0 ≤ lo A (nC A)
            · obtain ⟨l, el⟩ := nat_iR g2
              refine ⟨fun c hc ho => if_neg (fun e => ho ⟨by omega, hl.2.2.2 c e.symm⟩), ?_⟩
              have e0 : sn (fun c => if (c : Int) = lo A (nC A) then k else 0) l = 0 := by
                have : ∀ a, a ≤ l → sn (fun c => if (c : Int) = lo A (nC A) then k else 0) a = 0 := fun a => by
                  induction a with
                  | zero => exact fun _ => rfl
                  | succ a ih =>
                    intro ha
                    rw [sn_s, ih (by omega)]
                    rw [if_neg (by omega)]
                    rfl
                exact this l (Nat.le_refl _)
              have e1 : sn (fun c => if (c : Int) = lo A (nC A) then k else 0) (l + 1) = k := by
                rw [sn_s, e0]
                rw [if_pos el.symm]
                omega
              have e2 := sn_0 (r := fun c => if (c : Int) = lo A (nC A) then k else 0) (a := l + 1) (by omega) (fun j h1 h2 => if_neg (by omega))
              exact e2.trans e1
            · have hk0 : k = 0 := by
                rcases hb with h | h
                · exact absurd h g2
                · exact h
              refine ⟨fun c hc ho => if_neg (by omega), ?_⟩
              have e2 := sn_0 (r := fun c => if (c : Int) = lo A (nC A) then k else 0) (a := 0) (by omega) (fun j h1 h2 => if_neg (by omega))
              rw [hk0]
              rw [hk0] at e2
              exact e2
          obtain ⟨M', rr, hG, hRn⟩ := inner 1000000 N1 _ hf1 rb hv1 (fun q' hq' ⟨p, hp, e, lt⟩ => by
            exfalso
            by_cases g3 : (p : Int) = lo A (nC A)
            · -- behind the last there is nothing, ahead of it zeros
              dsimp only at lt
              rw [if_pos g3] at lt
              have z0 : sn q' p = 0 := by
                have : ∀ a, a ≤ p → sn q' a = 0 := fun a => by
                  induction a with
                  | zero => exact fun _ => rfl
                  | succ a ih =>
                    intro ha
                    have ea := e a (by omega)
                    dsimp only at ea
                    rw [if_neg (by omega)] at ea
                    rw [sn_s, ih (by omega), ea]
                    rfl
                exact this p (Nat.le_refl _)
              have t := vr_tail h2.2 hq' (l := p) g3.symm
              have s := sn_s q' p
              omega
            · dsimp only at lt
              rw [if_neg g3] at lt
              omega) (by omega)
          refine ⟨M', rr, hG, fun e he P hP hQ => rg_m_fewest_39 hP ?_⟩
          simp (disch := omega) only [nl_0, nl_1, nl_2, nl_3, nl_4, nl_5, nl_6, nl_7, nl_8, nl_9, nl_10, nl_11, nl_12, nl_13, nl_14, nl_15, nl_16, nl_17, nl_18, nl_19, nl_20, nl_21, nl_22, nl_23, nl_24, nl_25, nl_26, nl_27, nl_28, nl_31, nl_32, nl_42, nl_44, nl_46, nl_48, nl_49, nl_50, nl_51, nl_60, nl_75, nl_76, nl_99, nl_100, nl_108, nl_114, nl_117, nl_126, nl_255, nl_999, nl_2401, nl_9999, nl_12345, nl_65536, nl_1000000, nl_1103515245, nl_2147483647, iI_0, iI_neg, iI_add, iI_sub, iI_mul, iI_div, iI_mod, iI_lt, iI_le, iI_eq, iI_nat, iI_vp, ld_rd, ld_wl, lu_s, lu_t, lu_c, lu_j, forall_eq, Int.toNat_natCast, true_and, and_true, not_true, not_false_iff, Classical.not_not, forall_const, iI_inj, e6]
          refine ⟨fun z => by omega, fun _ => ⟨_, _, spb e (by omega), ?_⟩⟩
          rw [if_pos hb]
          exact hRn e he P hP hQ
        · obtain ⟨M', rr, hG, hRn⟩ := ih N1 (some (mj_i (iI 0))) hf1 (fun k' hk' q' hq' => by
            by_cases e : k' = k
            · subst e
              exfalso
              have z0 : ∀ c, c < 6 → q' c = 0 := fun c hc => Classical.byContradiction fun h => by
                have ho : op A c := Classical.byContradiction fun ho => h (hq'.1 c hc ho)
                exact ho.2 (hl.2.2.1 c (by omega) ho.1)
              have e2 := sn_0 (r := q') (a := 0) (by omega) (fun j _ h => z0 j h)
              have e3 : sn q' 6 = k' := hq'.2
              have e4 : sn q' 0 = 0 := rfl
              omega
            · exact hno k' (by omega) q' hq')
          refine ⟨M', rr, hG, fun e he P hP hQ => rg_m_fewest_39 hP ?_⟩
          simp (disch := omega) only [nl_0, nl_1, nl_2, nl_3, nl_4, nl_5, nl_6, nl_7, nl_8, nl_9, nl_10, nl_11, nl_12, nl_13, nl_14, nl_15, nl_16, nl_17, nl_18, nl_19, nl_20, nl_21, nl_22, nl_23, nl_24, nl_25, nl_26, nl_27, nl_28, nl_31, nl_32, nl_42, nl_44, nl_46, nl_48, nl_49, nl_50, nl_51, nl_60, nl_75, nl_76, nl_99, nl_100, nl_108, nl_114, nl_117, nl_126, nl_255, nl_999, nl_2401, nl_9999, nl_12345, nl_65536, nl_1000000, nl_1103515245, nl_2147483647, iI_0, iI_neg, iI_add, iI_sub, iI_mul, iI_div, iI_mod, iI_lt, iI_le, iI_eq, iI_nat, iI_vp, ld_rd, ld_wl, lu_s, lu_t, lu_c, lu_j, forall_eq, Int.toNat_natCast, true_and, and_true, not_true, not_false_iff, Classical.not_not, forall_const, iI_inj, e6]
          refine ⟨fun z => by omega, fun _ => ⟨_, _, spb e (by omega), ?_⟩⟩
          rw [if_neg hb]
          refine rg_m_fewest_61 hP ?_
          simp (disch := omega) only [nl_0, nl_1, nl_2, nl_3, nl_4, nl_5, nl_6, nl_7, nl_8, nl_9, nl_10, nl_11, nl_12, nl_13, nl_14, nl_15, nl_16, nl_17, nl_18, nl_19, nl_20, nl_21, nl_22, nl_23, nl_24, nl_25, nl_26, nl_27, nl_28, nl_31, nl_32, nl_42, nl_44, nl_46, nl_48, nl_49, nl_50, nl_51, nl_60, nl_75, nl_76, nl_99, nl_100, nl_108, nl_114, nl_117, nl_126, nl_255, nl_999, nl_2401, nl_9999, nl_12345, nl_65536, nl_1000000, nl_1103515245, nl_2147483647, iI_0, iI_neg, iI_add, iI_sub, iI_mul, iI_div, iI_mod, iI_lt, iI_le, iI_eq, iI_nat, iI_vp, ld_rd, ld_wl, lu_s, lu_t, lu_c, lu_j, forall_eq, Int.toNat_natCast, true_and, and_true, not_true, not_false_iff, Classical.not_not, forall_const, iI_inj]
          exact ⟨hRn e he P hP hQ, fun z => z.elim⟩
    obtain ⟨M', rr, ⟨hF, hfr⟩, hRn⟩ := key 0 (Nat.zero_le _) M none fr.r0 (fun k' h => absurd h (Nat.not_lt_zero k'))
    refine ⟨M', rr, fun d hd => en_m_fewest (k := 6) hd fun e he P hP hQ => rg_m_fewest_0 hP ?_, hF, hfr⟩
    simp (disch := omega) only [nl_0, nl_1, nl_2, nl_3, nl_4, nl_5, nl_6, nl_7, nl_8, nl_9, nl_10, nl_11, nl_12, nl_13, nl_14, nl_15, nl_16, nl_17, nl_18, nl_19, nl_20, nl_21, nl_22, nl_23, nl_24, nl_25, nl_26, nl_27, nl_28, nl_31, nl_32, nl_42, nl_44, nl_46, nl_48, nl_49, nl_50, nl_51, nl_60, nl_75, nl_76, nl_99, nl_100, nl_108, nl_114, nl_117, nl_126, nl_255, nl_999, nl_2401, nl_9999, nl_12345, nl_65536, nl_1000000, nl_1103515245, nl_2147483647, iI_0, iI_neg, iI_add, iI_sub, iI_mul, iI_div, iI_mod, iI_lt, iI_le, iI_eq, iI_nat, iI_vp, ld_rd, ld_wl, lu_s, lu_t, lu_c, lu_j, forall_eq, Int.toNat_natCast, true_and, and_true, not_true, not_false_iff, Classical.not_not, forall_const, iI_inj, lI_iI, lI_neg, ll_1, ll_12, ll_5]
    exact bo2 (sp_mVillage (by omega) hv hA.li) (fun c1 => bo2 (sp_mI (by omega) (by omega) (by omega) (by omega)) (fun c2 => bo1 (sp_mI (by omega) (by omega) (by omega) (by omega)) (fun c3 => hRn e he P hP hQ) (fun c3 => by omega)) (fun c2 => by omega)) (fun c1 => by omega)
