/-! contracts: fewest -/
def en (A : lA) (v n : Nat) (S F : Nat → Int) (m : Nat) (q : Nat → Nat) : Prop := A 7 0 v - A 8 0 v ≤ sm (fun c => gg A v n S F m c (q c)) 6
/-- what fewest is to answer -/
def FW (A : lA) (n : Nat) (S F : Nat → Int) (v m i r : Int) : Prop :=
  ((¬ (0 ≤ v ∧ v < A 0 0 1) ∨ m < 1 ∨ 12 < m ∨ i < -1 ∨ 5 < i) ∧ r = -1) ∨
  (¬ (¬ (0 ≤ v ∧ v < A 0 0 1) ∨ m < 1 ∨ 12 < m ∨ i < -1 ∨ 5 < i) ∧ (∀ k : Nat, (k : Int) ≤ A 6 0 v.toNat → ∀ q, vr A q k → ¬ en A v.toNat n S F m.toNat q) ∧ r = -4) ∨
  (¬ (¬ (0 ≤ v ∧ v < A 0 0 1) ∨ m < 1 ∨ 12 < m ∨ i < -1 ∨ 5 < i) ∧ ∃ (k : Nat) (row : Nat → Nat), (k : Int) ≤ A 6 0 v.toNat ∧ (∀ k' : Nat, k' < k → ∀ q, vr A q k' → ¬ en A v.toNat n S F m.toNat q) ∧ vr A row k ∧ en A v.toNat n S F m.toNat row ∧ (∀ q, vr A q k → en A v.toNat n S F m.toNat q → ¬ Lx q row) ∧ r = if i < 0 then (k : Int) else (row i.toNat : Int))
theorem FW_un {A : lA} {n : Nat} {S F : Nat → Int} {v m i r r' : Int} (h : FW A n S F v m i r) (h' : FW A n S F v m i r') : r = r' := by
  rcases h with ⟨b, e⟩ | ⟨b, f, e⟩ | ⟨b, k, row, k1, k2, k3, k4, k5, e⟩ <;> rcases h' with ⟨b', e'⟩ | ⟨b', f', e'⟩ | ⟨b', k', row', k1', k2', k3', k4', k5', e'⟩
  · rw [e, e']
  · exact absurd b b'
  · exact absurd b b'
  · exact absurd b' b
  · rw [e, e']
  · exact absurd k4' (f k' k1' row' k3')
  · exact absurd b' b
  · exact absurd k4 (f' k k1 row k3)
  · have ek : k = k' := by
      by_cases g1 : k < k'
      · exact absurd k4 (k2' k g1 row k3)
      · by_cases g2 : k' < k
        · exact absurd k4' (k2 k' g2 row' k3')
        · omega
    subst ek
    rcases lx_tri row row' with g | g | g
    · exact absurd g (k5' row k3 k4)
    · rw [e, e']
      split
      · rfl
      · rw [g i.toNat (by omega)]
    · exact absurd g (k5 row' k3' k4')
theorem sp_plan {v n m : Nat} {A : lA} {M : mj_M} {S F : Nat → Int} (hA : LJ A) (hM : mj_sM M) (hW : WD M 20 n S F) (hz : ∀ j, j < 10 → M 11 26 6 j = 0) (hv : v < nV A) (hm : m ≤ 12) : ∃ (N' : mj_M) (r : Int), (∀ d, 8 ≤ d → mj_Sp d 47 [mj_r (11, 21, 0), mj_r (0, 0, 0), mj_i (iI (v : Int)), mj_i (iI (m : Int))] (mj_ld M 0 A) (some (mj_i (iI r))) N') ∧ fr [3, 11, 23] (mj_ld M 0 A) N' ∧ (∀ j, N' 11 26 6 j = M 11 26 6 j) ∧ ((r = -1 ∧ ∀ k : Nat, (k : Int) ≤ A 6 0 v → mo (gg A v n S F m) 0 k < A 7 0 v - A 8 0 v) ∨ ∃ (k : Nat) (row : Nat → Nat), r = k ∧ (k : Int) ≤ A 6 0 v ∧ A 7 0 v - A 8 0 v ≤ mo (gg A v n S F m) 0 k ∧ (∀ k', k' < k → mo (gg A v n S F m) 0 k' < A 7 0 v - A 8 0 v) ∧ (∀ c, c < 6 → N' 11 27 0 c = iI (row c : Int)) ∧ ∀ c, c < 6 → gr (gg A v n S F m) k (A 7 0 v - A 8 0 v) row c) := by
  have hh := hA.ho
  have h2 := hA.li.nv
  have hsg := hA.sg (v := v) (by omega)
  have ht0 := hA.t0 (v := v) (by omega)
  have hth := hA.th (v := v) (by omega)
  have hwe := hA.we (v := v) (by omega)
  obtain ⟨has, eh⟩ : ∃ has : Nat, A 6 0 v = has := ⟨(A 6 0 v).toNat, nat_of (by omega)⟩
  have hr : ∀ c s, c < 6 → s ≤ 9 → -1000000 ≤ gg A v n S F m c s ∧ gg A v n S F m c s ≤ 60 := fun c s _ hs => gg_r hA.li hv hs hm
  obtain ⟨N1, sp1, GI1⟩ := sp_SuLearnGains (m := m) (has := has) hA.li hh hM hW hv hm (by omega)
  -- a row of gains that is small everywhere
  let g : Nat → Nat → Int := fun c s => if s ≤ 9 then gg A v n S F m c s else 0
  have hg : ∀ c s, s ≤ 9 → g c s = gg A v n S F m c s := fun c s h => if_pos h
  have hgr : ∀ c s, c < 6 → -1000000 ≤ g c s ∧ g c s ≤ 60 := fun c s hc => by
    by_cases e : s ≤ 9
    · rw [hg c s e]; exact hr c s hc e
    · show -1000000 ≤ (if s ≤ 9 then gg A v n S F m c s else 0) ∧ (if s ≤ 9 then gg A v n S F m c s else 0) ≤ 60
      rw [if_neg e]
      omega
  have hmo : ∀ j c k : Nat, c + j = 6 → k ≤ 9 → mo g c k = mo (gg A v n S F m) c k := fun j => by
    induction j with
    | zero =>
      intro c k hc hk
      have : c = 6 := by omega
      subst this
      rfl
    | succ j ih =>
      intro c k hc hk
      rw [mo_s (by omega), mo_s (by omega)]
      refine mxs_c (k + 1) (fun s hs => ?_)
      rw [hg c s (by omega), ih (c + 1) (k - s) (by omega) (by omega)]
  have fz : ∀ j, N1 11 26 6 j = M 11 26 6 j := fun j => by rw [GI1.2.2.1 j, ld_p (by decide)]
  obtain ⟨N2, sp2, f2, e24, e26, tb⟩ := sp_learnMost (has := has) (g := g) (N0 := N1) (by omega) (fun c s hc hs => by rw [hg c s (by omega)]; exact GI1.2.2.2.1 c hc s hs) (fun j hj => by rw [fz]; exact hz j hj) hgr
  have hTB : TB N2 g has := ⟨fun c s hc hs => by rw [e24, hg c s (by omega)]; exact GI1.2.2.2.1 c hc s hs, fun c hc k hk => by
    by_cases e : c = 6
    · subst e
      rw [e26, fz, hz k (by omega), mo_6]
      rfl
    · exact tb c (by omega) k hk⟩
  have fr2 : fr [3, 11, 23] (mj_ld M 0 A) N2 := fun i hi => (f2 i (fun h => hi (by rw [List.mem_singleton.mp h]; decide))).trans (GI1.1 i hi)
  have key : ∀ k : Nat, k ≤ has + 1 → (∀ k', k' < k → mo g 0 k' < A 7 0 v - A 8 0 v) → ∃ (N' : mj_M) (r : Int), (fr [3, 11, 23] (mj_ld M 0 A) N' ∧ (∀ j, N' 11 26 6 j = M 11 26 6 j) ∧ ((r = -1 ∧ ∀ k : Nat, k ≤ has → mo g 0 k < A 7 0 v - A 8 0 v) ∨ ∃ (k : Nat) (row : Nat → Nat), r = k ∧ k ≤ has ∧ A 7 0 v - A 8 0 v ≤ mo g 0 k ∧ (∀ k', k' < k → mo g 0 k' < A 7 0 v - A 8 0 v) ∧ (∀ c, c < 6 → N' 11 27 0 c = iI (row c : Int)) ∧ ∀ c, c < 6 → gr g k (A 7 0 v - A 8 0 v) row c)) ∧ Rn mj_c47 7 46 [some (mj_r (11, 21, 0)), some (mj_r (0, 0, 0)), some (mj_i (iI (v : Int))), some (mj_i (iI (m : Int))), some (mj_i (iI (has : Int))), some (mj_i (iI (A 7 0 v - A 8 0 v))), some (mj_i (iI (k : Int)))] N2 (some (mj_i (iI r))) N' := by
    refine lp_dn (Q := fun k => (∀ k', k' < k → mo g 0 k' < A 7 0 v - A 8 0 v) → ∃ (N' : mj_M) (r : Int), (fr [3, 11, 23] (mj_ld M 0 A) N' ∧ (∀ j, N' 11 26 6 j = M 11 26 6 j) ∧ ((r = -1 ∧ ∀ k : Nat, k ≤ has → mo g 0 k < A 7 0 v - A 8 0 v) ∨ ∃ (k : Nat) (row : Nat → Nat), r = k ∧ k ≤ has ∧ A 7 0 v - A 8 0 v ≤ mo g 0 k ∧ (∀ k', k' < k → mo g 0 k' < A 7 0 v - A 8 0 v) ∧ (∀ c, c < 6 → N' 11 27 0 c = iI (row c : Int)) ∧ ∀ c, c < 6 → gr g k (A 7 0 v - A 8 0 v) row c)) ∧ Rn mj_c47 7 46 [some (mj_r (11, 21, 0)), some (mj_r (0, 0, 0)), some (mj_i (iI (v : Int))), some (mj_i (iI (m : Int))), some (mj_i (iI (has : Int))), some (mj_i (iI (A 7 0 v - A 8 0 v))), some (mj_i (iI (k : Int)))] N2 (some (mj_i (iI r))) N') (n := has + 1) (fun hk => ?_) (fun k hk ih hk2 => ?_)
    · refine ⟨N2, -1, ⟨fr2, fun j => by rw [e26, fz], Or.inl ⟨rfl, fun k hk3 => hk k (by omega)⟩⟩, fun e he P hP hQ => rg_Su_plan_46 hP ⟨fun z => by (first | exact mj_eq.rf | exact fi_n mj_eq.rf | exact fi_i rfl mj_eq.rf | exact rfl), fun z => ?_⟩⟩
      simp (disch := omega) only [nl_0, nl_1, nl_2, nl_3, nl_4, nl_5, nl_6, nl_7, nl_8, nl_9, nl_10, nl_11, nl_12, nl_13, nl_14, nl_15, nl_16, nl_17, nl_18, nl_19, nl_20, nl_21, nl_22, nl_23, nl_24, nl_25, nl_26, nl_27, nl_28, nl_31, nl_32, nl_42, nl_44, nl_46, nl_48, nl_49, nl_50, nl_51, nl_60, nl_75, nl_76, nl_99, nl_100, nl_108, nl_114, nl_117, nl_126, nl_255, nl_999, nl_2401, nl_9999, nl_12345, nl_65536, nl_1000000, nl_1103515245, nl_2147483647, iI_0, iI_neg, iI_add, iI_sub, iI_mul, iI_div, iI_mod, iI_lt, iI_le, iI_eq, iI_nat, iI_vp, ld_rd, ld_wl, lu_s, lu_t, lu_c, lu_j, forall_eq, Int.toNat_natCast, true_and, and_true, not_true, not_false_iff, Classical.not_not, forall_const, iI_inj] at z
      omega
    · have b2 := mo_r (g := g) (fun c s hc => (hgr c s hc).2) 6 0 k (by omega)
      have r1 : N2 11 26 0 k = iI (mo g 0 k) := hTB.2 0 (by omega) k (by omega)
      by_cases g1 : A 7 0 v - A 8 0 v ≤ mo g 0 k
      · obtain ⟨N3, row, sp3, f3, z3, w3, gr3⟩ := sp_layFirstRow (k := k) (miss := A 7 0 v - A 8 0 v) hTB (by omega) (by omega) hgr (by omega)
        refine ⟨N3, (k : Int), ⟨fun i hi => (f3 i (fun h => hi (by rw [List.mem_singleton.mp h]; decide))).trans (fr2 i hi), fun j => by rw [z3, e26, fz], Or.inr ⟨k, row, rfl, by omega, g1, hk2, w3, gr3⟩⟩, fun e he P hP hQ => rg_Su_plan_46 hP ⟨fun z => ?_, fun z => ?_⟩⟩
        · simp (disch := omega) only [nl_0, nl_1, nl_2, nl_3, nl_4, nl_5, nl_6, nl_7, nl_8, nl_9, nl_10, nl_11, nl_12, nl_13, nl_14, nl_15, nl_16, nl_17, nl_18, nl_19, nl_20, nl_21, nl_22, nl_23, nl_24, nl_25, nl_26, nl_27, nl_28, nl_31, nl_32, nl_42, nl_44, nl_46, nl_48, nl_49, nl_50, nl_51, nl_60, nl_75, nl_76, nl_99, nl_100, nl_108, nl_114, nl_117, nl_126, nl_255, nl_999, nl_2401, nl_9999, nl_12345, nl_65536, nl_1000000, nl_1103515245, nl_2147483647, iI_0, iI_neg, iI_add, iI_sub, iI_mul, iI_div, iI_mod, iI_lt, iI_le, iI_eq, iI_nat, iI_vp, ld_rd, ld_wl, lu_s, lu_t, lu_c, lu_j, forall_eq, Int.toNat_natCast, true_and, and_true, not_true, not_false_iff, Classical.not_not, forall_const, iI_inj] at z
          omega
        · simp (disch := omega) only [nl_0, nl_1, nl_2, nl_3, nl_4, nl_5, nl_6, nl_7, nl_8, nl_9, nl_10, nl_11, nl_12, nl_13, nl_14, nl_15, nl_16, nl_17, nl_18, nl_19, nl_20, nl_21, nl_22, nl_23, nl_24, nl_25, nl_26, nl_27, nl_28, nl_31, nl_32, nl_42, nl_44, nl_46, nl_48, nl_49, nl_50, nl_51, nl_60, nl_75, nl_76, nl_99, nl_100, nl_108, nl_114, nl_117, nl_126, nl_255, nl_999, nl_2401, nl_9999, nl_12345, nl_65536, nl_1000000, nl_1103515245, nl_2147483647, iI_0, iI_neg, iI_add, iI_sub, iI_mul, iI_div, iI_mod, iI_lt, iI_le, iI_eq, iI_nat, iI_vp, ld_rd, ld_wl, lu_s, lu_t, lu_c, lu_j, forall_eq, Int.toNat_natCast, true_and, and_true, not_true, not_false_iff, Classical.not_not, forall_const, iI_inj, r1, tn0]
          exact ⟨fun z => by omega, fun z => ⟨_, sp3 e (by omega), by (first | exact mj_eq.rf | exact fi_n mj_eq.rf | exact fi_i rfl mj_eq.rf | exact rfl)⟩⟩
      · obtain ⟨N', r, hG, hR⟩ := ih fun k' hk' => by
          by_cases e : k' = k
          · subst e; omega
          · exact hk2 k' (by omega)
        refine ⟨N', r, hG, fun e he P hP hQ => rg_Su_plan_46 hP ⟨fun z => ?_, fun z => ?_⟩⟩
        · simp (disch := omega) only [nl_0, nl_1, nl_2, nl_3, nl_4, nl_5, nl_6, nl_7, nl_8, nl_9, nl_10, nl_11, nl_12, nl_13, nl_14, nl_15, nl_16, nl_17, nl_18, nl_19, nl_20, nl_21, nl_22, nl_23, nl_24, nl_25, nl_26, nl_27, nl_28, nl_31, nl_32, nl_42, nl_44, nl_46, nl_48, nl_49, nl_50, nl_51, nl_60, nl_75, nl_76, nl_99, nl_100, nl_108, nl_114, nl_117, nl_126, nl_255, nl_999, nl_2401, nl_9999, nl_12345, nl_65536, nl_1000000, nl_1103515245, nl_2147483647, iI_0, iI_neg, iI_add, iI_sub, iI_mul, iI_div, iI_mod, iI_lt, iI_le, iI_eq, iI_nat, iI_vp, ld_rd, ld_wl, lu_s, lu_t, lu_c, lu_j, forall_eq, Int.toNat_natCast, true_and, and_true, not_true, not_false_iff, Classical.not_not, forall_const, iI_inj] at z
          omega
        · simp (disch := omega) only [nl_0, nl_1, nl_2, nl_3, nl_4, nl_5, nl_6, nl_7, nl_8, nl_9, nl_10, nl_11, nl_12, nl_13, nl_14, nl_15, nl_16, nl_17, nl_18, nl_19, nl_20, nl_21, nl_22, nl_23, nl_24, nl_25, nl_26, nl_27, nl_28, nl_31, nl_32, nl_42, nl_44, nl_46, nl_48, nl_49, nl_50, nl_51, nl_60, nl_75, nl_76, nl_99, nl_100, nl_108, nl_114, nl_117, nl_126, nl_255, nl_999, nl_2401, nl_9999, nl_12345, nl_65536, nl_1000000, nl_1103515245, nl_2147483647, iI_0, iI_neg, iI_add, iI_sub, iI_mul, iI_div, iI_mod, iI_lt, iI_le, iI_eq, iI_nat, iI_vp, ld_rd, ld_wl, lu_s, lu_t, lu_c, lu_j, forall_eq, Int.toNat_natCast, true_and, and_true, not_true, not_false_iff, Classical.not_not, forall_const, iI_inj, r1, tn0]
          exact ⟨fun z => hR e he P hP hQ, fun z => by omega⟩
  obtain ⟨N', r, ⟨q1, q2, q3⟩, hR⟩ := key 0 (Nat.zero_le _) (fun k' h => absurd h (Nat.not_lt_zero k'))
  refine ⟨N', r, fun d hd => en_Su_plan (k := 7) hd fun e he P hP hQ => rg_Su_plan_0 hP ?_, q1, q2, ?_⟩
  · simp (disch := omega) only [nl_0, nl_1, nl_2, nl_3, nl_4, nl_5, nl_6, nl_7, nl_8, nl_9, nl_10, nl_11, nl_12, nl_13, nl_14, nl_15, nl_16, nl_17, nl_18, nl_19, nl_20, nl_21, nl_22, nl_23, nl_24, nl_25, nl_26, nl_27, nl_28, nl_31, nl_32, nl_42, nl_44, nl_46, nl_48, nl_49, nl_50, nl_51, nl_60, nl_75, nl_76, nl_99, nl_100, nl_108, nl_114, nl_117, nl_126, nl_255, nl_999, nl_2401, nl_9999, nl_12345, nl_65536, nl_1000000, nl_1103515245, nl_2147483647, iI_0, iI_neg, iI_add, iI_sub, iI_mul, iI_div, iI_mod, iI_lt, iI_le, iI_eq, iI_nat, iI_vp, ld_rd, ld_wl, lu_s, lu_t, lu_c, lu_j, forall_eq, Int.toNat_natCast, true_and, and_true, not_true, not_false_iff, Classical.not_not, forall_const, iI_inj, iI_if]
    have e9 : (if 9 < A 6 0 v then 9 else A 6 0 v) = (has : Int) := by
      rw [if_neg (by omega), eh]
    rw [e9]
    exact ⟨by omega, _, sp1 e he, _, sp2 e (by omega), hR e he P hP hQ⟩
  · rcases q3 with ⟨h1, h3⟩ | ⟨k, row, h1, h3, h4, h5, h6, h7⟩
    · exact Or.inl ⟨h1, fun k hk => by rw [← hmo 6 0 k (by omega) (by omega)]; exact h3 k (by omega)⟩
    · refine Or.inr ⟨k, row, h1, by omega, by rw [← hmo 6 0 k (by omega) (by omega)]; exact h4, fun k' hk' => by rw [← hmo 6 0 k' (by omega) (by omega)]; exact h5 k' hk', h6, fun c hc => ?_⟩
      have hb : ∀ c, c ≤ 6 → 0 ≤ (k : Int) - sn row c := fun c => by
        induction c with
        | zero => intro _; show (0 : Int) ≤ (k : Int) - 0; omega
        | succ c ih =>
          intro hc2
          have := (h7 c (by omega)).1
          have := sn_s row c
          omega
      have hrow : ∀ c, c < 6 → row c ≤ 9 := fun c hc => by
        have := (h7 c hc).1
        have : 0 ≤ sn row c := sn_mono (r := row) (a := 0) c (by omega)
        omega
      obtain ⟨z1, z2, z3⟩ := h7 c hc
      have hsn : 0 ≤ sn row c := sn_mono (r := row) (a := 0) c (by omega)
      have es : sm (fun c => g c (row c)) c = sm (fun c => gg A v n S F m c (row c)) c := sm_c c (fun j hj => hg j _ (hrow j (by omega)))
      rw [es] at z2 z3
      refine ⟨z1, fun s hs => ?_, fun h => ?_⟩
      · have := z2 s hs
        have h9 := hrow c hc
        rw [hg c s (by omega), hmo (6 - (c + 1)) (c + 1) _ (by omega) (by omega)] at this
        exact this
      · have := z3 h
        have h9 := hrow c hc
        rw [hg c _ h9, hmo (6 - (c + 1)) (c + 1) _ (by omega) (by omega)] at this
        exact this
theorem c_fewest {d : Nat} (hd : 9 ≤ d) {A : lA} {M : mj_M} {n : Nat} {S F : Nat → Int} {v m i : Int} (hv : iR v) (hm : iR m) (hi : iR i) (hM : mj_sM M) (hA : LJ A) (hW : WD M 20 n S F) (hz : ∀ j, j < 10 → M 11 26 6 j = 0) : ∃ (M' : mj_M) (r : Int), mj_Sp d 18 [mj_r (13, 50, 0), mj_i (iI v), mj_i (iI m), mj_i (iI i)] (mj_ld M 0 A) (some (mj_i (iI r))) M' ∧ FW A n S F v m i r ∧ fr [3, 11, 23] (mj_ld M 0 A) M' ∧ (∀ j, M' 11 26 6 j = M 11 26 6 j) := by
  unfold iR at hv hm hi
  have h1 := hA.li.nv
  by_cases g : ¬ (0 ≤ v ∧ v < A 0 0 1) ∨ m < 1 ∨ 12 < m ∨ i < -1 ∨ 5 < i
  · refine ⟨mj_ld M 0 A, -1, en_C_fewest (k := 8) hd fun e he P hP hQ => rg_C_fewest_0 hP ?_, Or.inl ⟨g, rfl⟩, fr.r0, fun j => by rw [ld_p (by decide)]⟩
    simp (disch := omega) only [nl_0, nl_1, nl_2, nl_3, nl_4, nl_5, nl_6, nl_7, nl_8, nl_9, nl_10, nl_11, nl_12, nl_13, nl_14, nl_15, nl_16, nl_17, nl_18, nl_19, nl_20, nl_21, nl_22, nl_23, nl_24, nl_25, nl_26, nl_27, nl_28, nl_31, nl_32, nl_42, nl_44, nl_46, nl_48, nl_49, nl_50, nl_51, nl_60, nl_75, nl_76, nl_99, nl_100, nl_108, nl_114, nl_117, nl_126, nl_255, nl_999, nl_2401, nl_9999, nl_12345, nl_65536, nl_1000000, nl_1103515245, nl_2147483647, iI_0, iI_neg, iI_add, iI_sub, iI_mul, iI_div, iI_mod, iI_lt, iI_le, iI_eq, iI_nat, iI_vp, ld_rd, ld_wl, lu_s, lu_t, lu_c, lu_j, forall_eq, Int.toNat_natCast, true_and, and_true, not_true, not_false_iff, Classical.not_not, forall_const, iI_inj]
    refine bo2 (sp_isVillage (by omega) hv hA.li) (fun c1 => bo1 (sp_oI (by omega) (by omega) (by omega) (by omega)) (fun c2 => ?_) (fun c2 => bo2 (sp_oI (by omega) (by omega) (by omega) (by omega)) (fun c3 => ?_) (fun c3 => by omega))) (fun c1 => ?_)
    · (first | exact mj_eq.rf | exact fi_n mj_eq.rf | exact fi_i rfl mj_eq.rf | exact rfl)
    · (first | exact mj_eq.rf | exact fi_n mj_eq.rf | exact fi_i rfl mj_eq.rf | exact rfl)
    · (first | exact mj_eq.rf | exact fi_n mj_eq.rf | exact fi_i rfl mj_eq.rf | exact rfl)
  · obtain ⟨w, rfl⟩ := nat_iR (show 0 ≤ v by omega)
    obtain ⟨q, rfl⟩ := nat_iR (show 0 ≤ m by omega)
    have hr : ∀ c s, c < 6 → s ≤ 9 → gg A w n S F q c s ≤ 60 := fun c s _ hs => (gg_r hA.li (by omega) hs (by omega)).2
    have hsg := hA.sg (v := w) (by omega)
    have hwe := hA.we (v := w) (by omega)
    have hth := hA.th (v := w) (by omega)
    have hho := hA.ho
    obtain ⟨N', r, spl, f1, z1, hc⟩ := sp_plan (m := q) hA hM hW hz (show w < nV A by omega) (by omega)
    have hlow : ∀ k : Nat, mo (gg A w n S F q) 0 k < A 7 0 w - A 8 0 w → ∀ r, vr A r k → ¬ en A w n S F q r := fun k hk r hr he => by
      have := mo_ge (g := gg A w n S F q) (r := r) 6 0 k (by omega) (by have h0 : sn r 0 = 0 := rfl; have h6 : sn r 6 = k := hr.2; omega)
      have e0 : gt (gg A w n S F q) r 0 = sm (fun c => gg A w n S F q c (r c)) 6 := by
        unfold gt
        have : sm (fun c => gg A w n S F q c (r c)) 0 = 0 := rfl
        omega
      unfold en at he
      omega
    rcases hc with ⟨e1, hno⟩ | ⟨k, row, e1, hk, hge, hlt, hrow, hgr⟩
    · subst e1
      refine ⟨N', -4, en_C_fewest (k := 8) hd fun e he P hP hQ => rg_C_fewest_0 hP ?_, Or.inr (Or.inl ⟨g, fun k hk r hr => hlow k (hno k hk) r hr, rfl⟩), f1, z1⟩
      simp (disch := omega) only [nl_0, nl_1, nl_2, nl_3, nl_4, nl_5, nl_6, nl_7, nl_8, nl_9, nl_10, nl_11, nl_12, nl_13, nl_14, nl_15, nl_16, nl_17, nl_18, nl_19, nl_20, nl_21, nl_22, nl_23, nl_24, nl_25, nl_26, nl_27, nl_28, nl_31, nl_32, nl_42, nl_44, nl_46, nl_48, nl_49, nl_50, nl_51, nl_60, nl_75, nl_76, nl_99, nl_100, nl_108, nl_114, nl_117, nl_126, nl_255, nl_999, nl_2401, nl_9999, nl_12345, nl_65536, nl_1000000, nl_1103515245, nl_2147483647, iI_0, iI_neg, iI_add, iI_sub, iI_mul, iI_div, iI_mod, iI_lt, iI_le, iI_eq, iI_nat, iI_vp, ld_rd, ld_wl, lu_s, lu_t, lu_c, lu_j, forall_eq, Int.toNat_natCast, true_and, and_true, not_true, not_false_iff, Classical.not_not, forall_const, iI_inj]
      refine bo2 (sp_isVillage (by omega) hv hA.li) (fun c1 => bo1 (sp_oI (by omega) (by omega) (by omega) (by omega)) (fun c2 => by omega) (fun c2 => bo2 (sp_oI (by omega) (by omega) (by omega) (by omega)) (fun c3 => by omega) (fun c3 => ⟨_, _, spl e he, ?_⟩))) (fun c1 => by omega)
      simp (disch := omega) only [nl_0, nl_1, nl_2, nl_3, nl_4, nl_5, nl_6, nl_7, nl_8, nl_9, nl_10, nl_11, nl_12, nl_13, nl_14, nl_15, nl_16, nl_17, nl_18, nl_19, nl_20, nl_21, nl_22, nl_23, nl_24, nl_25, nl_26, nl_27, nl_28, nl_31, nl_32, nl_42, nl_44, nl_46, nl_48, nl_49, nl_50, nl_51, nl_60, nl_75, nl_76, nl_99, nl_100, nl_108, nl_114, nl_117, nl_126, nl_255, nl_999, nl_2401, nl_9999, nl_12345, nl_65536, nl_1000000, nl_1103515245, nl_2147483647, iI_0, iI_neg, iI_add, iI_sub, iI_mul, iI_div, iI_mod, iI_lt, iI_le, iI_eq, iI_nat, iI_vp, ld_rd, ld_wl, lu_s, lu_t, lu_c, lu_j, forall_eq, Int.toNat_natCast, true_and, and_true, not_true, not_false_iff, Classical.not_not, forall_const, iI_inj]
      exact ⟨fun z => by omega, fun z => by (first | exact mj_eq.rf | exact fi_n mj_eq.rf | exact fi_i rfl mj_eq.rf | exact rfl)⟩
    · subst e1
      -- small gains for all strings
      let g' : Nat → Nat → Int := fun c s => if s ≤ 9 then gg A w n S F q c s else (if op A c then 0 else -1000000)
      have hg' : ∀ c s, s ≤ 9 → g' c s = gg A w n S F q c s := fun c s h => if_pos h
      have hmo : ∀ j c k : Nat, c + j = 6 → k ≤ 9 → mo g' c k = mo (gg A w n S F q) c k := fun j => by
        induction j with
        | zero =>
          intro c k hc hk
          have : c = 6 := by omega
          subst this
          rfl
        | succ j ih =>
          intro c k hc hk
          rw [mo_s (by omega), mo_s (by omega)]
          refine mxs_c (k + 1) (fun s hs => ?_)
          rw [hg' c s (by omega), ih (c + 1) (k - s) (by omega) (by omega)]
      have hrow9 : ∀ c, c < 6 → row c ≤ 9 := fun c hc => by
        have := (hgr c hc).1
        have : 0 ≤ sn row c := sn_mono (r := row) (a := 0) c (by omega)
        omega
      have es : ∀ (r : Nat → Nat), (∀ c, c < 6 → r c ≤ 9) → ∀ c, c ≤ 6 → sm (fun c => g' c (r c)) c = sm (fun c => gg A w n S F q c (r c)) c := fun r h9 c hc => sm_c c (fun j hj => hg' j _ (h9 j (by omega)))
      have fk := few_ok (A := A) (g := g') (k := k) (m := A 7 0 w - A 8 0 w) (r := row) (by omega) (fun c s hc => by
        by_cases e : s ≤ 9
        · rw [hg' c s e]; exact hr c s hc e
        · show (if s ≤ 9 then gg A w n S F q c s else (if op A c then 0 else -1000000)) ≤ 60
          rw [if_neg e]
          split <;> omega) (fun c s hc ho h0 => by
        show (if s ≤ 9 then gg A w n S F q c s else (if op A c then 0 else -1000000)) = -1000000
        split
        · unfold gg
          rw [if_neg ho, if_neg (by omega)]
        · first | rfl | rw [if_neg ho]) (by rw [hmo 6 0 k (by omega) (by omega)]; exact hge) (fun k' hk' => by rw [hmo 6 0 k' (by omega) (by omega)]; exact hlt k' hk') (fun c hc => by
        obtain ⟨z1, z2, z3⟩ := hgr c hc
        have h9 := hrow9 c hc
        have hsn : 0 ≤ sn row c := sn_mono (r := row) (a := 0) c (by omega)
        refine ⟨z1, fun s hs => ?_, fun h => ?_⟩
        · rw [es row hrow9 c (by omega), hg' c s (by omega), hmo (6 - (c + 1)) (c + 1) _ (by omega) (by omega)]
          exact z2 s hs
        · rw [es row hrow9 c (by omega), hg' c _ h9, hmo (6 - (c + 1)) (c + 1) _ (by omega) (by omega)]
          exact z3 h)
      refine ⟨N', if i < 0 then (k : Int) else (row i.toNat : Int), en_C_fewest (k := 8) hd fun e he P hP hQ => rg_C_fewest_0 hP ?_, Or.inr (Or.inr ⟨g, k, row, hk, fun k' hk' r hr => hlow k' (hlt k' hk') r hr, fk.1, ?_, fun r hr he => fk.2.2 r hr ?_, rfl⟩), f1, z1⟩
      · simp (disch := omega) only [nl_0, nl_1, nl_2, nl_3, nl_4, nl_5, nl_6, nl_7, nl_8, nl_9, nl_10, nl_11, nl_12, nl_13, nl_14, nl_15, nl_16, nl_17, nl_18, nl_19, nl_20, nl_21, nl_22, nl_23, nl_24, nl_25, nl_26, nl_27, nl_28, nl_31, nl_32, nl_42, nl_44, nl_46, nl_48, nl_49, nl_50, nl_51, nl_60, nl_75, nl_76, nl_99, nl_100, nl_108, nl_114, nl_117, nl_126, nl_255, nl_999, nl_2401, nl_9999, nl_12345, nl_65536, nl_1000000, nl_1103515245, nl_2147483647, iI_0, iI_neg, iI_add, iI_sub, iI_mul, iI_div, iI_mod, iI_lt, iI_le, iI_eq, iI_nat, iI_vp, ld_rd, ld_wl, lu_s, lu_t, lu_c, lu_j, forall_eq, Int.toNat_natCast, true_and, and_true, not_true, not_false_iff, Classical.not_not, forall_const, iI_inj]
        refine bo2 (sp_isVillage (by omega) hv hA.li) (fun c1 => bo1 (sp_oI (by omega) (by omega) (by omega) (by omega)) (fun c2 => by omega) (fun c2 => bo2 (sp_oI (by omega) (by omega) (by omega) (by omega)) (fun c3 => by omega) (fun c3 => ⟨_, _, spl e he, ?_⟩))) (fun c1 => by omega)
        simp (disch := omega) only [nl_0, nl_1, nl_2, nl_3, nl_4, nl_5, nl_6, nl_7, nl_8, nl_9, nl_10, nl_11, nl_12, nl_13, nl_14, nl_15, nl_16, nl_17, nl_18, nl_19, nl_20, nl_21, nl_22, nl_23, nl_24, nl_25, nl_26, nl_27, nl_28, nl_31, nl_32, nl_42, nl_44, nl_46, nl_48, nl_49, nl_50, nl_51, nl_60, nl_75, nl_76, nl_99, nl_100, nl_108, nl_114, nl_117, nl_126, nl_255, nl_999, nl_2401, nl_9999, nl_12345, nl_65536, nl_1000000, nl_1103515245, nl_2147483647, iI_0, iI_neg, iI_add, iI_sub, iI_mul, iI_div, iI_mod, iI_lt, iI_le, iI_eq, iI_nat, iI_vp, ld_rd, ld_wl, lu_s, lu_t, lu_c, lu_j, forall_eq, Int.toNat_natCast, true_and, and_true, not_true, not_false_iff, Classical.not_not, forall_const, iI_inj]
        refine ⟨fun z => ⟨fun z2 => ?_, fun z2 => ?_⟩, fun z => by omega⟩
        · rw [if_neg (by omega)]
          simp (disch := omega) only [nl_0, nl_1, nl_2, nl_3, nl_4, nl_5, nl_6, nl_7, nl_8, nl_9, nl_10, nl_11, nl_12, nl_13, nl_14, nl_15, nl_16, nl_17, nl_18, nl_19, nl_20, nl_21, nl_22, nl_23, nl_24, nl_25, nl_26, nl_27, nl_28, nl_31, nl_32, nl_42, nl_44, nl_46, nl_48, nl_49, nl_50, nl_51, nl_60, nl_75, nl_76, nl_99, nl_100, nl_108, nl_114, nl_117, nl_126, nl_255, nl_999, nl_2401, nl_9999, nl_12345, nl_65536, nl_1000000, nl_1103515245, nl_2147483647, iI_0, iI_neg, iI_add, iI_sub, iI_mul, iI_div, iI_mod, iI_lt, iI_le, iI_eq, iI_nat, iI_vp, ld_rd, ld_wl, lu_s, lu_t, lu_c, lu_j, forall_eq, Int.toNat_natCast, true_and, and_true, not_true, not_false_iff, Classical.not_not, forall_const, iI_inj, hrow i.toNat (by omega)]
          (first | exact mj_eq.rf | exact fi_n mj_eq.rf | exact fi_i rfl mj_eq.rf | exact rfl)
        · rw [if_pos (by omega)]
          (first | exact mj_eq.rf | exact fi_n mj_eq.rf | exact fi_i rfl mj_eq.rf | exact rfl)
      · have := fk.2.1
        rw [es row hrow9 6 (by omega)] at this
        exact this
      · rw [es r (vr_9 hr (by omega)) 6 (by omega)]
        exact he
