/-! contracts: what would be: wet, where -/
def lT (M : mj_M) (i : Nat) : lA := fun t c j => (M i t c j).toInt
theorem ld_self {M : mj_M} {i : Nat} : mj_ld M i (lT M i) = M := by
  funext i' t c j
  unfold mj_ld lT
  by_cases h : i' = i ∧ t < 10
  · rw [if_pos h, ← iI_to, h.1]
  · rw [if_neg h]
/-- the row `now` laid over another land, up to a place -/
def kk (A K : lA) : Nat → lA
  | 0 => K
  | k + 1 => lu (kk A K k) (mj_nloc k).1 (mj_nloc k).2.1 (mj_nloc k).2.2 (A (mj_nloc k).1 (mj_nloc k).2.1 (mj_nloc k).2.2)
theorem kk_in {A K : lA} {t c j : Nat} : ∀ n k, k < n → mj_nloc k = (t, c, j) → kk A K n t c j = A t c j
  | 0, k, h, _ => absurd h (Nat.not_lt_zero k)
  | n + 1, k, h, e => by
    show lu (kk A K n) _ _ _ _ t c j = _
    by_cases g : mj_nloc n = (t, c, j)
    · rw [g]
      exact lu_s
    · have hkn : k < n := by
        by_cases g2 : k = n
        · exact absurd (g2 ▸ e) g
        · omega
      unfold lu
      rw [if_neg (fun z => g (Prod.ext z.1.symm (Prod.ext z.2.1.symm z.2.2.symm)))]
      exact kk_in n k hkn e
theorem kk_or {A K : lA} {t c j : Nat} : ∀ n, kk A K n t c j = A t c j ∨ kk A K n t c j = K t c j
  | 0 => Or.inr rfl
  | n + 1 => by
    show lu (kk A K n) _ _ _ _ t c j = _ ∨ lu (kk A K n) _ _ _ _ t c j = _
    unfold lu
    split
    · next h => exact Or.inl (by rw [h.1, h.2.1, h.2.2])
    · exact kk_or n
theorem nl_of {t c j : Nat} (h : (t = 2 ∧ c = 0 ∧ j < 6) ∨ (t = 3 ∧ c = 0 ∧ j < 6) ∨ (t = 1 ∧ c = 0 ∧ j < 6) ∨ (t = 4 ∧ c < 6 ∧ j < 4) ∨ (t = 6 ∧ c = 0 ∧ j < 4) ∨ (t = 8 ∧ c = 0 ∧ j < 4) ∨ (t = 9 ∧ c = 0 ∧ j < 25) ∨ (t = 0 ∧ c = 0 ∧ j = 2)) : ∃ k, k < 76 ∧ mj_nloc k = (t, c, j) := by
  rcases h with ⟨h1, h2, h3⟩ | ⟨h1, h2, h3⟩ | ⟨h1, h2, h3⟩ | ⟨h1, h2, h3⟩ | ⟨h1, h2, h3⟩ | ⟨h1, h2, h3⟩ | ⟨h1, h2, h3⟩ | ⟨h1, h2, h3⟩ <;> subst h1
  · exact ⟨(0 + (j : Int)).toNat, by omega, by rw [nlf (by omega) (by omega), h2, Int.toNat_natCast]⟩
  · exact ⟨(6 + (j : Int)).toNat, by omega, by rw [nlw (by omega) (by omega), h2, Int.toNat_natCast]⟩
  · exact ⟨(12 + (j : Int)).toNat, by omega, by rw [nlk (by omega) (by omega), h2, Int.toNat_natCast]⟩
  · exact ⟨(18 + 6 * (j : Int) + (c : Int)).toNat, by omega, by rw [nlh (by omega) (by omega) (by omega) (by omega), Int.toNat_natCast, Int.toNat_natCast]⟩
  · exact ⟨(42 + (j : Int)).toNat, by omega, by rw [nlH (by omega) (by omega), h2, Int.toNat_natCast]⟩
  · exact ⟨(46 + (j : Int)).toNat, by omega, by rw [nlW (by omega) (by omega), h2, Int.toNat_natCast]⟩
  · exact ⟨(50 + (j : Int)).toNat, by omega, by rw [nlF (by omega) (by omega), h2, Int.toNat_natCast]⟩
  · exact ⟨(75 : Int).toNat, by decide, by rw [nlT, h2, h3]⟩
theorem kk_back {A B K : lA} (h : ∀ t i j, t = 0 ∧ j ≠ 2 ∨ t = 5 ∨ t = 7 → B t i j = A t i j) {t c j : Nat} (ht : t < 10) (ho : mj_ok t c j = true) : kk (kk A K 76) B 76 t c j = A t c j := by
  have go : (∃ k, k < 76 ∧ mj_nloc k = (t, c, j)) → kk (kk A K 76) B 76 t c j = A t c j := fun ⟨k, hk, e⟩ => (kk_in 76 k hk e).trans (kk_in 76 k hk e)
  have no : B t c j = A t c j → kk (kk A K 76) B 76 t c j = A t c j ∨ True := fun _ => Or.inr trivial
  clear no
  have ot : (t = 0 ∧ j ≠ 2 ∨ t = 5 ∨ t = 7) → kk (kk A K 76) B 76 t c j = A t c j := fun g => by
    have nk : ∀ (X Y : lA) (n : Nat), kk X Y n t c j = Y t c j := fun X Y n => by
      induction n with
      | zero => rfl
      | succ n ih =>
        show lu (kk X Y n) _ _ _ _ t c j = _
        unfold lu
        rw [if_neg (fun z => ?_)]
        · exact ih
        · obtain ⟨z1, z2, z3⟩ := z
          unfold mj_nloc at z1 z3
          revert z1 z3
          repeat' split
          all_goals (intro z1 z3; dsimp only at z1 z3; omega)
    rw [nk, h t c j g]
  have : t = 0 ∨ t = 1 ∨ t = 2 ∨ t = 3 ∨ t = 4 ∨ t = 5 ∨ t = 6 ∨ t = 7 ∨ t = 8 ∨ t = 9 := by omega
  rcases this with e | e | e | e | e | e | e | e | e | e <;> subst e
  · have g := ok0 ho
    by_cases e : j = 2
    · exact go (nl_of (by omega))
    · exact ot (by omega)
  · have g := ok1 ho
    exact go (nl_of (by omega))
  · have g := ok2 ho
    exact go (nl_of (by omega))
  · have g := ok3 ho
    exact go (nl_of (by omega))
  · have g := okc ho
    exact go (nl_of (by omega))
  · exact ot (by omega)
  · have g := ok6 ho
    exact go (nl_of (by omega))
  · exact ot (by omega)
  · have g := ok8 ho
    exact go (nl_of (by omega))
  · have g := ok9 ho
    exact go (nl_of (by omega))
theorem sp_mkeeps {d : Nat} (hd : 1 ≤ d) {A K : lA} {M : mj_M} : mj_Sp d 122 [mj_r (30, 60, 0)] (mj_ld (mj_ld M 15 K) 14 A) none (mj_ld (mj_ld M 15 (kk A K 76)) 14 A) := by
  refine en_m_keeps (k := 0) hd fun e he P hP hQ => rg_m_keeps_0 hP ?_
  refine lp_dn (Q := fun k => P 2 [some (mj_r (30, 60, 0)), some (mj_i (iI (k : Int)))] [] (mj_ld (mj_ld M 15 (kk A K k)) 14 A)) (n := 76) ?_ (fun k hk ih => ?_) 0 (Nat.zero_le _)
  · refine rg_m_keeps_2 hP ⟨fun z => by (first | exact mj_eq.rf | exact fi_n mj_eq.rf | exact fi_i rfl mj_eq.rf | exact rfl), fun z => ?_⟩
    simp (disch := omega) only [nl_0, nl_1, nl_2, nl_3, nl_4, nl_5, nl_6, nl_7, nl_8, nl_9, nl_10, nl_11, nl_12, nl_13, nl_14, nl_15, nl_16, nl_17, nl_18, nl_19, nl_20, nl_21, nl_22, nl_23, nl_24, nl_25, nl_26, nl_27, nl_28, nl_31, nl_32, nl_42, nl_44, nl_46, nl_48, nl_49, nl_50, nl_51, nl_60, nl_75, nl_76, nl_99, nl_100, nl_108, nl_114, nl_117, nl_126, nl_255, nl_999, nl_2401, nl_9999, nl_12345, nl_65536, nl_1000000, nl_1103515245, nl_2147483647, iI_0, iI_neg, iI_add, iI_sub, iI_mul, iI_div, iI_mod, iI_lt, iI_le, iI_eq, iI_nat, iI_vp, ld_rd, ld_wl, lu_s, lu_t, lu_c, lu_j, forall_eq, Int.toNat_natCast, true_and, and_true, not_true, not_false_iff, Classical.not_not, forall_const, iI_inj] at z
    omega
  · have e1 : mj_wr (mj_ld (mj_ld M 15 (kk A K k)) 14 A) (15, 61, 0) k (iI (A (mj_nloc k).1 (mj_nloc k).2.1 (mj_nloc k).2.2)) = mj_ld (mj_ld M 15 (kk A K (k + 1))) 14 A := by
      show mj_wl _ (15, (mj_nloc k).1, (mj_nloc k).2.1, (mj_nloc k).2.2) _ = _
      rw [ld_wn (Or.inl (by decide)), ld_wl (nl_lt k)]
      rfl
    refine rg_m_keeps_2 hP ?_
    simp (disch := omega) only [nl_0, nl_1, nl_2, nl_3, nl_4, nl_5, nl_6, nl_7, nl_8, nl_9, nl_10, nl_11, nl_12, nl_13, nl_14, nl_15, nl_16, nl_17, nl_18, nl_19, nl_20, nl_21, nl_22, nl_23, nl_24, nl_25, nl_26, nl_27, nl_28, nl_31, nl_32, nl_42, nl_44, nl_46, nl_48, nl_49, nl_50, nl_51, nl_60, nl_75, nl_76, nl_99, nl_100, nl_108, nl_114, nl_117, nl_126, nl_255, nl_999, nl_2401, nl_9999, nl_12345, nl_65536, nl_1000000, nl_1103515245, nl_2147483647, iI_0, iI_neg, iI_add, iI_sub, iI_mul, iI_div, iI_mod, iI_lt, iI_le, iI_eq, iI_nat, iI_vp, ld_rd, ld_wl, lu_s, lu_t, lu_c, lu_j, forall_eq, Int.toNat_natCast, true_and, and_true, not_true, not_false_iff, Classical.not_not, forall_const, iI_inj, nd, e1]
    exact ⟨fun z => by omega, fun z => ih⟩
theorem sp_mback {d : Nat} (hd : 1 ≤ d) {A K : lA} {M : mj_M} : mj_Sp d 123 [mj_r (30, 60, 0)] (mj_ld (mj_ld M 15 K) 14 A) none (mj_ld (mj_ld M 15 K) 14 (kk K A 76)) := by
  refine en_m_back (k := 0) hd fun e he P hP hQ => rg_m_back_0 hP ?_
  refine lp_dn (Q := fun k => P 2 [some (mj_r (30, 60, 0)), some (mj_i (iI (k : Int)))] [] (mj_ld (mj_ld M 15 K) 14 (kk K A k))) (n := 76) ?_ (fun k hk ih => ?_) 0 (Nat.zero_le _)
  · refine rg_m_back_2 hP ⟨fun z => by (first | exact mj_eq.rf | exact fi_n mj_eq.rf | exact fi_i rfl mj_eq.rf | exact rfl), fun z => ?_⟩
    simp (disch := omega) only [nl_0, nl_1, nl_2, nl_3, nl_4, nl_5, nl_6, nl_7, nl_8, nl_9, nl_10, nl_11, nl_12, nl_13, nl_14, nl_15, nl_16, nl_17, nl_18, nl_19, nl_20, nl_21, nl_22, nl_23, nl_24, nl_25, nl_26, nl_27, nl_28, nl_31, nl_32, nl_42, nl_44, nl_46, nl_48, nl_49, nl_50, nl_51, nl_60, nl_75, nl_76, nl_99, nl_100, nl_108, nl_114, nl_117, nl_126, nl_255, nl_999, nl_2401, nl_9999, nl_12345, nl_65536, nl_1000000, nl_1103515245, nl_2147483647, iI_0, iI_neg, iI_add, iI_sub, iI_mul, iI_div, iI_mod, iI_lt, iI_le, iI_eq, iI_nat, iI_vp, ld_rd, ld_wl, lu_s, lu_t, lu_c, lu_j, forall_eq, Int.toNat_natCast, true_and, and_true, not_true, not_false_iff, Classical.not_not, forall_const, iI_inj] at z
    omega
  · have e0 : mj_rd (mj_ld (mj_ld M 15 K) 14 (kk K A k)) (15, 61, 0) k = iI (K (mj_nloc k).1 (mj_nloc k).2.1 (mj_nloc k).2.2) := by
      show mj_ld (mj_ld M 15 K) 14 (kk K A k) 15 (mj_nloc k).1 (mj_nloc k).2.1 (mj_nloc k).2.2 = _
      rw [ld_ne (by decide), ld_rd (nl_lt k)]
    have e1 : mj_wr (mj_ld (mj_ld M 15 K) 14 (kk K A k)) (14, 61, 0) k (iI (K (mj_nloc k).1 (mj_nloc k).2.1 (mj_nloc k).2.2)) = mj_ld (mj_ld M 15 K) 14 (kk K A (k + 1)) := nw
    refine rg_m_back_2 hP ?_
    simp (disch := omega) only [nl_0, nl_1, nl_2, nl_3, nl_4, nl_5, nl_6, nl_7, nl_8, nl_9, nl_10, nl_11, nl_12, nl_13, nl_14, nl_15, nl_16, nl_17, nl_18, nl_19, nl_20, nl_21, nl_22, nl_23, nl_24, nl_25, nl_26, nl_27, nl_28, nl_31, nl_32, nl_42, nl_44, nl_46, nl_48, nl_49, nl_50, nl_51, nl_60, nl_75, nl_76, nl_99, nl_100, nl_108, nl_114, nl_117, nl_126, nl_255, nl_999, nl_2401, nl_9999, nl_12345, nl_65536, nl_1000000, nl_1103515245, nl_2147483647, iI_0, iI_neg, iI_add, iI_sub, iI_mul, iI_div, iI_mod, iI_lt, iI_le, iI_eq, iI_nat, iI_vp, ld_rd, ld_wl, lu_s, lu_t, lu_c, lu_j, forall_eq, Int.toNat_natCast, true_and, and_true, not_true, not_false_iff, Classical.not_not, forall_const, iI_inj, e0, e1]
    exact ⟨fun z => by omega, fun z => ih⟩
/-- memory that is the same but in some parts -/
def fr (ps : List Nat) (N N' : mj_M) : Prop := ∀ i, i ∉ ps → N' i = N i
theorem fr.r0 {ps : List Nat} {N : mj_M} : fr ps N N := fun _ _ => rfl
theorem fr_ld {M : mj_M} {i : Nat} {A : lA} {k : Nat} (h : k ≠ i) : mj_ld M i A k = M k := by
  funext t c j
  exact ld_ne h
/-- the reference tries: it keeps, something happens, it goes, it goes back -/
theorem LD_back {M : mj_M} {A B K : lA} (h : ∀ t i j, t = 0 ∧ j ≠ 2 ∨ t = 5 ∨ t = 7 → B t i j = A t i j) : mj_eq (mj_ld M 14 (kk (kk A K 76) B 76)) (mj_ld M 14 A) := ld_ok fun _ _ _ ht ho => kk_back h ht ho
theorem nat_iR {z : Int} (h : 0 ≤ z) : ∃ n : Nat, z = n := ⟨z.toNat, nat_of h⟩
def s_wet (A : lA) (n : Nat) (S F : Nat → Int) (v m : Int) : Int := if ¬ (0 ≤ v ∧ v < A 0 0 1) ∨ m < 1 ∨ 24 < m then -1 else A 8 0 v.toNat + sm (fun c => ga A n S F c v.toNat m.toNat) (nC A)
theorem m_wet {d : Nat} (hd : 6 ≤ d) {A : lA} {M : mj_M} {n : Nat} {S F : Nat → Int} {v m : Int} (hv : iR v) (hm : iR m) (hA : LJ A) (hW : WD M 34 n S F) : ∃ M', mj_Sp d 124 [mj_r (30, 60, 0), mj_i (iI v), mj_i (iI m)] (mj_ld M 14 A) (some (mj_i (iI (s_wet A n S F v m)))) M' ∧ fr [14, 15] M M' ∧ LD M' 14 A := by
  unfold iR at hv hm
  have h1 := hA.li.nv
  have hh := hA.ho
  by_cases g : ¬ (0 ≤ v ∧ v < A 0 0 1) ∨ m < 1 ∨ 24 < m
  · refine ⟨mj_ld M 14 A, ?_, fun i hi => fr_ld (by simp only [List.mem_cons] at hi; omega), LD.ld⟩
    rw [show s_wet A n S F v m = -1 from if_pos g]
    refine en_m_wet (k := 5) hd fun e he P hP hQ => rg_m_wet_0 hP ?_
    simp (disch := omega) only [nl_0, nl_1, nl_2, nl_3, nl_4, nl_5, nl_6, nl_7, nl_8, nl_9, nl_10, nl_11, nl_12, nl_13, nl_14, nl_15, nl_16, nl_17, nl_18, nl_19, nl_20, nl_21, nl_22, nl_23, nl_24, nl_25, nl_26, nl_27, nl_28, nl_31, nl_32, nl_42, nl_44, nl_46, nl_48, nl_49, nl_50, nl_51, nl_60, nl_75, nl_76, nl_99, nl_100, nl_108, nl_114, nl_117, nl_126, nl_255, nl_999, nl_2401, nl_9999, nl_12345, nl_65536, nl_1000000, nl_1103515245, nl_2147483647, iI_0, iI_neg, iI_add, iI_sub, iI_mul, iI_div, iI_mod, iI_lt, iI_le, iI_eq, iI_nat, iI_vp, ld_rd, ld_wl, lu_s, lu_t, lu_c, lu_j, forall_eq, Int.toNat_natCast, true_and, and_true, not_true, not_false_iff, Classical.not_not, forall_const, iI_inj, lI_iI, ll_1, ll_24]
    refine bo2 (sp_mVillage (by omega) hv hA.li) (fun c1 => bo1 (sp_mI (by omega) (by omega) (by omega) (by omega)) (fun c2 => by omega) (fun c2 => ?_)) (fun c1 => ?_)
    · (first | exact mj_eq.rf | exact fi_n mj_eq.rf | exact fi_i rfl mj_eq.rf | exact rfl)
    · (first | exact mj_eq.rf | exact fi_n mj_eq.rf | exact fi_i rfl mj_eq.rf | exact rfl)
  · obtain ⟨w, rfl⟩ := nat_iR (show 0 ≤ v by omega)
    obtain ⟨q, rfl⟩ := nat_iR (show 0 ≤ m by omega)
    refine ⟨mj_ld (mj_ld M 15 (kk A (lT M 15) 76)) 14 A, ?_, fun i hi => by rw [fr_ld (by simp only [List.mem_cons] at hi; omega), fr_ld (by simp only [List.mem_cons] at hi; omega)], LD.ld⟩
    have es : s_wet A n S F w q = A 8 0 w + sm (fun c => ga A n S F c w q) (nC A) := if_neg g
    rw [es, ← gs_wet]
    have e0 : mj_ld M 14 A = mj_ld (mj_ld M 15 (lT M 15)) 14 A := by rw [ld_self]
    rw [e0]
    refine en_m_wet (k := 5) hd fun e he P hP hQ => rg_m_wet_0 hP ?_
    simp (disch := omega) only [nl_0, nl_1, nl_2, nl_3, nl_4, nl_5, nl_6, nl_7, nl_8, nl_9, nl_10, nl_11, nl_12, nl_13, nl_14, nl_15, nl_16, nl_17, nl_18, nl_19, nl_20, nl_21, nl_22, nl_23, nl_24, nl_25, nl_26, nl_27, nl_28, nl_31, nl_32, nl_42, nl_44, nl_46, nl_48, nl_49, nl_50, nl_51, nl_60, nl_75, nl_76, nl_99, nl_100, nl_108, nl_114, nl_117, nl_126, nl_255, nl_999, nl_2401, nl_9999, nl_12345, nl_65536, nl_1000000, nl_1103515245, nl_2147483647, iI_0, iI_neg, iI_add, iI_sub, iI_mul, iI_div, iI_mod, iI_lt, iI_le, iI_eq, iI_nat, iI_vp, ld_rd, ld_wl, lu_s, lu_t, lu_c, lu_j, forall_eq, Int.toNat_natCast, true_and, and_true, not_true, not_false_iff, Classical.not_not, forall_const, iI_inj, lI_iI, ll_1, ll_24]
    refine bo2 (sp_mVillage (by omega) hv hA.li) (fun c1 => bo1 (sp_mI (by omega) (by omega) (by omega) (by omega)) (fun c2 => ?_) (fun c2 => by omega)) (fun c1 => by omega)
    refine ⟨_, sp_mkeeps (by omega), _, _, sp_mgoes (by omega) hA.li hW.ld (by omega) (by omega), ?_⟩
    simp (disch := omega) only [nl_0, nl_1, nl_2, nl_3, nl_4, nl_5, nl_6, nl_7, nl_8, nl_9, nl_10, nl_11, nl_12, nl_13, nl_14, nl_15, nl_16, nl_17, nl_18, nl_19, nl_20, nl_21, nl_22, nl_23, nl_24, nl_25, nl_26, nl_27, nl_28, nl_31, nl_32, nl_42, nl_44, nl_46, nl_48, nl_49, nl_50, nl_51, nl_60, nl_75, nl_76, nl_99, nl_100, nl_108, nl_114, nl_117, nl_126, nl_255, nl_999, nl_2401, nl_9999, nl_12345, nl_65536, nl_1000000, nl_1103515245, nl_2147483647, iI_0, iI_neg, iI_add, iI_sub, iI_mul, iI_div, iI_mod, iI_lt, iI_le, iI_eq, iI_nat, iI_vp, ld_rd, ld_wl, lu_s, lu_t, lu_c, lu_j, forall_eq, Int.toNat_natCast, true_and, and_true, not_true, not_false_iff, Classical.not_not, forall_const, iI_inj, nd, nlW]
    exact ⟨_, sp_mback (by omega), LD_back (A := A) (B := gs A n S F q) fun t i j h => gs_lo (by omega) q⟩
/-- each of the first k clouds followed -/
def fos (A : lA) (n : Nat) (S F : Nat → Int) (m : Nat) : Nat → lA
  | 0 => A
  | k + 1 => fo (fos A n S F m k) n S F k m
theorem fos_LI {A : lA} {n m : Nat} {S F : Nat → Int} (h : LI A) : ∀ k, k ≤ 6 → LI (fos A n S F m k)
  | 0, _ => h
  | k + 1, hk => fo_LI (fos_LI h k (by omega)) (by omega) m
theorem fos_lo {A : lA} {n m : Nat} {S F : Nat → Int} {t i j : Nat} (h : t = 0 ∨ t = 1 ∨ t = 5 ∨ t = 7) : ∀ k, fos A n S F m k t i j = A t i j
  | 0 => rfl
  | k + 1 => (fo_lo h m).trans (fos_lo h k)
theorem fos_ag {A : lA} {n m c : Nat} {S F : Nat → Int} : ∀ k, k ≤ c → ag c (fos A n S F m k) A
  | 0, _ => ag.r0
  | k + 1, h => (fo_ot (by omega) m).tr (fos_ag k (by omega))
theorem fos_wet {A : lA} {n m v : Nat} {S F : Nat → Int} : ∀ k, fos A n S F m k 8 0 v = A 8 0 v + sm (fun c => ga A n S F c v m) k
  | 0 => (Int.add_zero _).symm
  | k + 1 => by
    show fo _ n S F k m 8 0 v = A 8 0 v + (sm (fun c => ga A n S F c v m) k + ga A n S F k v m)
    rw [fo_wet, fos_wet k, (fos_ag (A := A) (n := n) (m := m) (S := S) (F := F) k (Nat.le_refl k)).k_ga (fos_lo (by omega) k) m]
    omega
theorem ld_src {M : mj_M} {i : Nat} {A : lA} : ∀ t c j, t < 10 → mj_ld M i A i t c j = iI (A t c j) := fun _ _ _ h => ld_rd h
theorem c_wet {d : Nat} (hd : 6 ≤ d) {A : lA} {M : mj_M} {n : Nat} {S F : Nat → Int} {v m : Int} (hv : iR v) (hm : iR m) (hM : mj_sM M) (hA : LJ A) (hW : WD M 20 n S F) : ∃ M', mj_Sp d 17 [mj_r (13, 50, 0), mj_i (iI v), mj_i (iI m)] (mj_ld M 0 A) (some (mj_i (iI (s_wet A n S F v m)))) M' ∧ fr [2, 22] (mj_ld M 0 A) M' := by
  unfold iR at hv hm
  have h1 := hA.li.nv
  have h2 := hA.li.nc
  have hh := hA.ho
  by_cases g : ¬ (0 ≤ v ∧ v < A 0 0 1) ∨ m < 1 ∨ 24 < m
  · refine ⟨mj_ld M 0 A, ?_, fr.r0⟩
    rw [show s_wet A n S F v m = -1 from if_pos g]
    refine en_C_wet (k := 5) hd fun e he P hP hQ => rg_C_wet_0 hP ?_
    simp (disch := omega) only [nl_0, nl_1, nl_2, nl_3, nl_4, nl_5, nl_6, nl_7, nl_8, nl_9, nl_10, nl_11, nl_12, nl_13, nl_14, nl_15, nl_16, nl_17, nl_18, nl_19, nl_20, nl_21, nl_22, nl_23, nl_24, nl_25, nl_26, nl_27, nl_28, nl_31, nl_32, nl_42, nl_44, nl_46, nl_48, nl_49, nl_50, nl_51, nl_60, nl_75, nl_76, nl_99, nl_100, nl_108, nl_114, nl_117, nl_126, nl_255, nl_999, nl_2401, nl_9999, nl_12345, nl_65536, nl_1000000, nl_1103515245, nl_2147483647, iI_0, iI_neg, iI_add, iI_sub, iI_mul, iI_div, iI_mod, iI_lt, iI_le, iI_eq, iI_nat, iI_vp, ld_rd, ld_wl, lu_s, lu_t, lu_c, lu_j, forall_eq, Int.toNat_natCast, true_and, and_true, not_true, not_false_iff, Classical.not_not, forall_const, iI_inj]
    refine bo2 (sp_isVillage (by omega) hv hA.li) (fun c1 => bo2 (sp_oI (by omega) (by omega) (by omega) (by omega)) (fun c2 => ?_) (fun c2 => by omega)) (fun c1 => ?_)
    · (first | exact mj_eq.rf | exact fi_n mj_eq.rf | exact fi_i rfl mj_eq.rf | exact rfl)
    · (first | exact mj_eq.rf | exact fi_n mj_eq.rf | exact fi_i rfl mj_eq.rf | exact rfl)
  · obtain ⟨w, rfl⟩ := nat_iR (show 0 ≤ v by omega)
    obtain ⟨q, rfl⟩ := nat_iR (show 0 ≤ m by omega)
    refine ⟨mj_ld (wcp (mj_ld M 0 A) (20 + 0) (20 + 2)) 2 (fos A n S F q (nC A)), ?_, fun i hi => by
      simp only [List.mem_cons] at hi
      rw [fr_ld (by omega), wcp_ne (by omega)]⟩
    have es : s_wet A n S F w q = A 8 0 w + sm (fun c => ga A n S F c w q) (nC A) := if_neg g
    rw [es, ← fos_wet]
    have hWN : WD (wcp (mj_ld M 0 A) (20 + 0) (20 + 2)) (20 + 2) n S F := hW.ld.cp
    have r0 : ∀ T : lA, mj_ld (wcp (mj_ld M 0 A) (20 + 0) (20 + 2)) 2 T 0 0 0 0 = iI (nC A : Int) := fun T => by
      rw [ld_ne (by decide), wcp_ne (by decide), ld_rd (by decide), h2.1]
    have hMN : mj_sM (wcp (mj_ld M 0 A) (20 + 0) (20 + 2)) := by
      refine ⟨fun j hj => ?_, fun j hj => ?_⟩
      · rw [wcp_ne (by decide), ld_ne (by decide)]; exact hM.1 j hj
      · rw [wcp_ne (by decide), ld_ne (by decide)]; exact hM.2 j hj
    refine en_C_wet (k := 5) hd fun e he P hP hQ => rg_C_wet_0 hP ?_
    simp (disch := omega) only [nl_0, nl_1, nl_2, nl_3, nl_4, nl_5, nl_6, nl_7, nl_8, nl_9, nl_10, nl_11, nl_12, nl_13, nl_14, nl_15, nl_16, nl_17, nl_18, nl_19, nl_20, nl_21, nl_22, nl_23, nl_24, nl_25, nl_26, nl_27, nl_28, nl_31, nl_32, nl_42, nl_44, nl_46, nl_48, nl_49, nl_50, nl_51, nl_60, nl_75, nl_76, nl_99, nl_100, nl_108, nl_114, nl_117, nl_126, nl_255, nl_999, nl_2401, nl_9999, nl_12345, nl_65536, nl_1000000, nl_1103515245, nl_2147483647, iI_0, iI_neg, iI_add, iI_sub, iI_mul, iI_div, iI_mod, iI_lt, iI_le, iI_eq, iI_nat, iI_vp, ld_rd, ld_wl, lu_s, lu_t, lu_c, lu_j, forall_eq, Int.toNat_natCast, true_and, and_true, not_true, not_false_iff, Classical.not_not, forall_const, iI_inj]
    refine bo2 (sp_isVillage (by omega) hv hA.li) (fun c1 => bo2 (sp_oI (by omega) (by omega) (by omega) (by omega)) (fun c2 => by omega) (fun c2 => ?_)) (fun c1 => by omega)
    have st := sp_start (d := e) (i0 := 2) (i1 := 0) (by omega) (A := A) (B := lT (mj_ld M 0 A) 2) (M := mj_ld M 0 A) (by decide) ld_src
    rw [ld_self] at st
    refine ⟨_, st, ?_⟩
    generalize wcp (mj_ld M 0 A) (20 + 0) (20 + 2) = N at hWN r0 hMN hP ⊢
    refine lp_dn (Q := fun k => P 36 [some (mj_r (13, 50, 0)), some (mj_i (iI (w : Int))), some (mj_i (iI (q : Int))), some (mj_i (iI (k : Int)))] [] (mj_ld N 2 (fos A n S F q k))) (n := nC A) ?_ (fun k hk ih => ?_) 0 (Nat.zero_le _)
    · refine rg_C_wet_36 hP ⟨fun z => ?_, fun z => ?_⟩
      · simp (disch := omega) only [nl_0, nl_1, nl_2, nl_3, nl_4, nl_5, nl_6, nl_7, nl_8, nl_9, nl_10, nl_11, nl_12, nl_13, nl_14, nl_15, nl_16, nl_17, nl_18, nl_19, nl_20, nl_21, nl_22, nl_23, nl_24, nl_25, nl_26, nl_27, nl_28, nl_31, nl_32, nl_42, nl_44, nl_46, nl_48, nl_49, nl_50, nl_51, nl_60, nl_75, nl_76, nl_99, nl_100, nl_108, nl_114, nl_117, nl_126, nl_255, nl_999, nl_2401, nl_9999, nl_12345, nl_65536, nl_1000000, nl_1103515245, nl_2147483647, iI_0, iI_neg, iI_add, iI_sub, iI_mul, iI_div, iI_mod, iI_lt, iI_le, iI_eq, iI_nat, iI_vp, ld_rd, ld_wl, lu_s, lu_t, lu_c, lu_j, forall_eq, Int.toNat_natCast, true_and, and_true, not_true, not_false_iff, Classical.not_not, forall_const, iI_inj]
        (first | exact mj_eq.rf | exact fi_n mj_eq.rf | exact fi_i rfl mj_eq.rf | exact rfl)
      · simp (disch := omega) only [nl_0, nl_1, nl_2, nl_3, nl_4, nl_5, nl_6, nl_7, nl_8, nl_9, nl_10, nl_11, nl_12, nl_13, nl_14, nl_15, nl_16, nl_17, nl_18, nl_19, nl_20, nl_21, nl_22, nl_23, nl_24, nl_25, nl_26, nl_27, nl_28, nl_31, nl_32, nl_42, nl_44, nl_46, nl_48, nl_49, nl_50, nl_51, nl_60, nl_75, nl_76, nl_99, nl_100, nl_108, nl_114, nl_117, nl_126, nl_255, nl_999, nl_2401, nl_9999, nl_12345, nl_65536, nl_1000000, nl_1103515245, nl_2147483647, iI_0, iI_neg, iI_add, iI_sub, iI_mul, iI_div, iI_mod, iI_lt, iI_le, iI_eq, iI_nat, iI_vp, ld_rd, ld_wl, lu_s, lu_t, lu_c, lu_j, forall_eq, Int.toNat_natCast, true_and, and_true, not_true, not_false_iff, Classical.not_not, forall_const, iI_inj, r0] at z
        omega
    · refine rg_C_wet_36 hP ⟨fun z => ?_, fun z => ?_⟩
      · simp (disch := omega) only [nl_0, nl_1, nl_2, nl_3, nl_4, nl_5, nl_6, nl_7, nl_8, nl_9, nl_10, nl_11, nl_12, nl_13, nl_14, nl_15, nl_16, nl_17, nl_18, nl_19, nl_20, nl_21, nl_22, nl_23, nl_24, nl_25, nl_26, nl_27, nl_28, nl_31, nl_32, nl_42, nl_44, nl_46, nl_48, nl_49, nl_50, nl_51, nl_60, nl_75, nl_76, nl_99, nl_100, nl_108, nl_114, nl_117, nl_126, nl_255, nl_999, nl_2401, nl_9999, nl_12345, nl_65536, nl_1000000, nl_1103515245, nl_2147483647, iI_0, iI_neg, iI_add, iI_sub, iI_mul, iI_div, iI_mod, iI_lt, iI_le, iI_eq, iI_nat, iI_vp, ld_rd, ld_wl, lu_s, lu_t, lu_c, lu_j, forall_eq, Int.toNat_natCast, true_and, and_true, not_true, not_false_iff, Classical.not_not, forall_const, iI_inj, r0] at z
        omega
      · refine ⟨_, sp_follow (by omega) hMN (by decide) (fos_LI hA.li k (by omega)) ?_ hWN ?_ (by omega), ?_⟩
        · show k < (fos A n S F q k 0 0 0).toNat
          rw [fos_lo (by omega)]
          exact hk
        · rw [fos_lo (by omega)]
          omega
        · simp (disch := omega) only [nl_0, nl_1, nl_2, nl_3, nl_4, nl_5, nl_6, nl_7, nl_8, nl_9, nl_10, nl_11, nl_12, nl_13, nl_14, nl_15, nl_16, nl_17, nl_18, nl_19, nl_20, nl_21, nl_22, nl_23, nl_24, nl_25, nl_26, nl_27, nl_28, nl_31, nl_32, nl_42, nl_44, nl_46, nl_48, nl_49, nl_50, nl_51, nl_60, nl_75, nl_76, nl_99, nl_100, nl_108, nl_114, nl_117, nl_126, nl_255, nl_999, nl_2401, nl_9999, nl_12345, nl_65536, nl_1000000, nl_1103515245, nl_2147483647, iI_0, iI_neg, iI_add, iI_sub, iI_mul, iI_div, iI_mod, iI_lt, iI_le, iI_eq, iI_nat, iI_vp, ld_rd, ld_wl, lu_s, lu_t, lu_c, lu_j, forall_eq, Int.toNat_natCast, true_and, and_true, not_true, not_false_iff, Classical.not_not, forall_const, iI_inj]
          exact ih
def s_where (A : lA) (n : Nat) (S F : Nat → Int) (c m l : Int) : Int := if ¬ (0 ≤ c ∧ c < A 0 0 0) ∨ m < 1 ∨ 24 < m ∨ l < 0 ∨ 1 < l then -1 else if l = 1 then fo (lg A c.toNat 4) n S F c.toNat m.toNat 2 0 c.toNat else fo A n S F c.toNat m.toNat 2 0 c.toNat
theorem lg_LI {A : lA} (h : LI A) {c k : Nat} : LI (lg A c k) := by
  refine h.up (fun t i j g => lg_t (by omega)) (fun c hc => by rw [lg_t (by decide)]; exact h.fd hc) (fun c hc => by rw [lg_t (by decide)]; exact h.wa hc) (fun c v hc hv => ?_)
  unfold lg
  split
  · exact Or.inr rfl
  · exact Or.inl rfl
theorem m_where {d : Nat} (hd : 6 ≤ d) {A : lA} {M : mj_M} {n : Nat} {S F : Nat → Int} {c m l : Int} (hc : iR c) (hm : iR m) (hl : iR l) (hA : LJ A) (hW : WD M 34 n S F) : ∃ M', mj_Sp d 125 [mj_r (30, 60, 0), mj_i (iI c), mj_i (iI m), mj_i (iI l)] (mj_ld M 14 A) (some (mj_i (iI (s_where A n S F c m l)))) M' ∧ fr [14, 15] M M' ∧ LD M' 14 A := by
  unfold iR at hc hm hl
  have h2 := hA.li.nc
  have hh := hA.ho
  by_cases g : ¬ (0 ≤ c ∧ c < A 0 0 0) ∨ m < 1 ∨ 24 < m ∨ l < 0 ∨ 1 < l
  · refine ⟨mj_ld M 14 A, ?_, fun i hi => fr_ld (by simp only [List.mem_cons] at hi; omega), LD.ld⟩
    rw [show s_where A n S F c m l = -1 from if_pos g]
    refine en_m_where (k := 5) hd fun e he P hP hQ => rg_m_where_0 hP ?_
    simp (disch := omega) only [nl_0, nl_1, nl_2, nl_3, nl_4, nl_5, nl_6, nl_7, nl_8, nl_9, nl_10, nl_11, nl_12, nl_13, nl_14, nl_15, nl_16, nl_17, nl_18, nl_19, nl_20, nl_21, nl_22, nl_23, nl_24, nl_25, nl_26, nl_27, nl_28, nl_31, nl_32, nl_42, nl_44, nl_46, nl_48, nl_49, nl_50, nl_51, nl_60, nl_75, nl_76, nl_99, nl_100, nl_108, nl_114, nl_117, nl_126, nl_255, nl_999, nl_2401, nl_9999, nl_12345, nl_65536, nl_1000000, nl_1103515245, nl_2147483647, iI_0, iI_neg, iI_add, iI_sub, iI_mul, iI_div, iI_mod, iI_lt, iI_le, iI_eq, iI_nat, iI_vp, ld_rd, ld_wl, lu_s, lu_t, lu_c, lu_j, forall_eq, Int.toNat_natCast, true_and, and_true, not_true, not_false_iff, Classical.not_not, forall_const, iI_inj, lI_iI, ll_0, ll_1, ll_24]
    refine bo2 (sp_mCloud (by omega) hc hA.li) (fun c1 => bo2 (sp_mI (by omega) (by omega) (by omega) (by omega)) (fun c2 => bo1 (sp_mI (by omega) (by omega) (by omega) (by omega)) (fun c3 => by omega) (fun c3 => ?_)) (fun c2 => ?_)) (fun c1 => ?_)
    · (first | exact mj_eq.rf | exact fi_n mj_eq.rf | exact fi_i rfl mj_eq.rf | exact rfl)
    · (first | exact mj_eq.rf | exact fi_n mj_eq.rf | exact fi_i rfl mj_eq.rf | exact rfl)
    · (first | exact mj_eq.rf | exact fi_n mj_eq.rf | exact fi_i rfl mj_eq.rf | exact rfl)
  · obtain ⟨w, rfl⟩ := nat_iR (show 0 ≤ c by omega)
    obtain ⟨q, rfl⟩ := nat_iR (show 0 ≤ m by omega)
    refine ⟨mj_ld (mj_ld M 15 (kk A (lT M 15) 76)) 14 A, ?_, fun i hi => by rw [fr_ld (by simp only [List.mem_cons] at hi; omega), fr_ld (by simp only [List.mem_cons] at hi; omega)], LD.ld⟩
    have es : s_where A n S F w q l = if l = 1 then fo (lg A w 4) n S F w q 2 0 w else fo A n S F w q 2 0 w := if_neg g
    rw [es]
    have e0 : mj_ld M 14 A = mj_ld (mj_ld M 15 (lT M 15)) 14 A := by rw [ld_self]
    rw [e0]
    refine en_m_where (k := 5) hd fun e he P hP hQ => rg_m_where_0 hP ?_
    simp (disch := omega) only [nl_0, nl_1, nl_2, nl_3, nl_4, nl_5, nl_6, nl_7, nl_8, nl_9, nl_10, nl_11, nl_12, nl_13, nl_14, nl_15, nl_16, nl_17, nl_18, nl_19, nl_20, nl_21, nl_22, nl_23, nl_24, nl_25, nl_26, nl_27, nl_28, nl_31, nl_32, nl_42, nl_44, nl_46, nl_48, nl_49, nl_50, nl_51, nl_60, nl_75, nl_76, nl_99, nl_100, nl_108, nl_114, nl_117, nl_126, nl_255, nl_999, nl_2401, nl_9999, nl_12345, nl_65536, nl_1000000, nl_1103515245, nl_2147483647, iI_0, iI_neg, iI_add, iI_sub, iI_mul, iI_div, iI_mod, iI_lt, iI_le, iI_eq, iI_nat, iI_vp, ld_rd, ld_wl, lu_s, lu_t, lu_c, lu_j, forall_eq, Int.toNat_natCast, true_and, and_true, not_true, not_false_iff, Classical.not_not, forall_const, iI_inj, lI_iI, ll_0, ll_1, ll_24]
    refine bo2 (sp_mCloud (by omega) hc hA.li) (fun c1 => bo2 (sp_mI (by omega) (by omega) (by omega) (by omega)) (fun c2 => bo1 (sp_mI (by omega) (by omega) (by omega) (by omega)) (fun c3 => ?_) (fun c3 => by omega)) (fun c2 => by omega)) (fun c1 => by omega)
    refine ⟨_, sp_mkeeps (by omega), fun z => ?_, fun z => ?_⟩
    · rw [if_neg z]
      have hf := (gs_LI (n := n) (S := S) (F := F) hA.li q).fd (c := w) (by omega)
      refine ⟨_, _, sp_mgoes (by omega) hA.li hW.ld (by omega) (by omega), ?_⟩
      simp (disch := omega) only [nl_0, nl_1, nl_2, nl_3, nl_4, nl_5, nl_6, nl_7, nl_8, nl_9, nl_10, nl_11, nl_12, nl_13, nl_14, nl_15, nl_16, nl_17, nl_18, nl_19, nl_20, nl_21, nl_22, nl_23, nl_24, nl_25, nl_26, nl_27, nl_28, nl_31, nl_32, nl_42, nl_44, nl_46, nl_48, nl_49, nl_50, nl_51, nl_60, nl_75, nl_76, nl_99, nl_100, nl_108, nl_114, nl_117, nl_126, nl_255, nl_999, nl_2401, nl_9999, nl_12345, nl_65536, nl_1000000, nl_1103515245, nl_2147483647, iI_0, iI_neg, iI_add, iI_sub, iI_mul, iI_div, iI_mod, iI_lt, iI_le, iI_eq, iI_nat, iI_vp, ld_rd, ld_wl, lu_s, lu_t, lu_c, lu_j, forall_eq, Int.toNat_natCast, true_and, and_true, not_true, not_false_iff, Classical.not_not, forall_const, iI_inj, nd, nlf]
      exact ⟨_, sp_mback (by omega), fi_i (congrArg iI ((gs_ag (by omega) q).fd)) (LD_back fun t i j h => gs_lo (by omega) q)⟩
    · rw [if_pos z]
      refine ⟨_, sp_letGo (by omega) (by omega), _, _, sp_mgoes (by omega) (lg_LI hA.li) hW.ld ?_ (by omega), ?_⟩
      · rw [lg_t (by decide)]
        omega
      · simp (disch := omega) only [nl_0, nl_1, nl_2, nl_3, nl_4, nl_5, nl_6, nl_7, nl_8, nl_9, nl_10, nl_11, nl_12, nl_13, nl_14, nl_15, nl_16, nl_17, nl_18, nl_19, nl_20, nl_21, nl_22, nl_23, nl_24, nl_25, nl_26, nl_27, nl_28, nl_31, nl_32, nl_42, nl_44, nl_46, nl_48, nl_49, nl_50, nl_51, nl_60, nl_75, nl_76, nl_99, nl_100, nl_108, nl_114, nl_117, nl_126, nl_255, nl_999, nl_2401, nl_9999, nl_12345, nl_65536, nl_1000000, nl_1103515245, nl_2147483647, iI_0, iI_neg, iI_add, iI_sub, iI_mul, iI_div, iI_mod, iI_lt, iI_le, iI_eq, iI_nat, iI_vp, ld_rd, ld_wl, lu_s, lu_t, lu_c, lu_j, forall_eq, Int.toNat_natCast, true_and, and_true, not_true, not_false_iff, Classical.not_not, forall_const, iI_inj, nd, nlf]
        exact ⟨_, sp_mback (by omega), fi_i (congrArg iI ((gs_ag (by show w < (lg A w 4 0 0 0).toNat; rw [lg_t (by decide)]; omega) q).fd)) (LD_back fun t i j h => (gs_lo (by omega) q).trans (lg_t (by omega)))⟩
theorem c_where {d : Nat} (hd : 6 ≤ d) {A : lA} {M : mj_M} {n : Nat} {S F : Nat → Int} {c m l : Int} (hc : iR c) (hm : iR m) (hl : iR l) (hM : mj_sM M) (hA : LJ A) (hW : WD M 20 n S F) : ∃ M', mj_Sp d 18 [mj_r (13, 50, 0), mj_i (iI c), mj_i (iI m), mj_i (iI l)] (mj_ld M 0 A) (some (mj_i (iI (s_where A n S F c m l)))) M' ∧ fr [2, 22] (mj_ld M 0 A) M' := by
  unfold iR at hc hm hl
  have h2 := hA.li.nc
  have hh := hA.ho
  by_cases g : ¬ (0 ≤ c ∧ c < A 0 0 0) ∨ m < 1 ∨ 24 < m ∨ l < 0 ∨ 1 < l
  · refine ⟨mj_ld M 0 A, ?_, fr.r0⟩
    rw [show s_where A n S F c m l = -1 from if_pos g]
    refine en_C_where (k := 5) hd fun e he P hP hQ => rg_C_where_0 hP ?_
    simp (disch := omega) only [nl_0, nl_1, nl_2, nl_3, nl_4, nl_5, nl_6, nl_7, nl_8, nl_9, nl_10, nl_11, nl_12, nl_13, nl_14, nl_15, nl_16, nl_17, nl_18, nl_19, nl_20, nl_21, nl_22, nl_23, nl_24, nl_25, nl_26, nl_27, nl_28, nl_31, nl_32, nl_42, nl_44, nl_46, nl_48, nl_49, nl_50, nl_51, nl_60, nl_75, nl_76, nl_99, nl_100, nl_108, nl_114, nl_117, nl_126, nl_255, nl_999, nl_2401, nl_9999, nl_12345, nl_65536, nl_1000000, nl_1103515245, nl_2147483647, iI_0, iI_neg, iI_add, iI_sub, iI_mul, iI_div, iI_mod, iI_lt, iI_le, iI_eq, iI_nat, iI_vp, ld_rd, ld_wl, lu_s, lu_t, lu_c, lu_j, forall_eq, Int.toNat_natCast, true_and, and_true, not_true, not_false_iff, Classical.not_not, forall_const, iI_inj]
    refine bo2 (sp_isCloud (by omega) hc hA.li) (fun c1 => bo1 (sp_oI (by omega) (by omega) (by omega) (by omega)) (fun c2 => ?_) (fun c2 => bo2 (sp_oI (by omega) (by omega) (by omega) (by omega)) (fun c3 => ?_) (fun c3 => by omega))) (fun c1 => ?_)
    · (first | exact mj_eq.rf | exact fi_n mj_eq.rf | exact fi_i rfl mj_eq.rf | exact rfl)
    · (first | exact mj_eq.rf | exact fi_n mj_eq.rf | exact fi_i rfl mj_eq.rf | exact rfl)
    · (first | exact mj_eq.rf | exact fi_n mj_eq.rf | exact fi_i rfl mj_eq.rf | exact rfl)
  · obtain ⟨w, rfl⟩ := nat_iR (show 0 ≤ c by omega)
    obtain ⟨q, rfl⟩ := nat_iR (show 0 ≤ m by omega)
    have es : s_where A n S F w q l = if l = 1 then fo (lg A w 4) n S F w q 2 0 w else fo A n S F w q 2 0 w := if_neg g
    rw [es]
    have hWN : WD (wcp (mj_ld M 0 A) (20 + 0) (20 + 2)) (20 + 2) n S F := hW.ld.cp
    have hMN : mj_sM (wcp (mj_ld M 0 A) (20 + 0) (20 + 2)) := by
      refine ⟨fun j hj => ?_, fun j hj => ?_⟩
      · rw [wcp_ne (by decide), ld_ne (by decide)]; exact hM.1 j hj
      · rw [wcp_ne (by decide), ld_ne (by decide)]; exact hM.2 j hj
    refine ⟨mj_ld (wcp (mj_ld M 0 A) (20 + 0) (20 + 2)) 2 (if l = 1 then fo (lg A w 4) n S F w q else fo A n S F w q), ?_, fun i hi => by
      simp only [List.mem_cons] at hi
      rw [fr_ld (by omega), wcp_ne (by omega)]⟩
    refine en_C_where (k := 5) hd fun e he P hP hQ => rg_C_where_0 hP ?_
    simp (disch := omega) only [nl_0, nl_1, nl_2, nl_3, nl_4, nl_5, nl_6, nl_7, nl_8, nl_9, nl_10, nl_11, nl_12, nl_13, nl_14, nl_15, nl_16, nl_17, nl_18, nl_19, nl_20, nl_21, nl_22, nl_23, nl_24, nl_25, nl_26, nl_27, nl_28, nl_31, nl_32, nl_42, nl_44, nl_46, nl_48, nl_49, nl_50, nl_51, nl_60, nl_75, nl_76, nl_99, nl_100, nl_108, nl_114, nl_117, nl_126, nl_255, nl_999, nl_2401, nl_9999, nl_12345, nl_65536, nl_1000000, nl_1103515245, nl_2147483647, iI_0, iI_neg, iI_add, iI_sub, iI_mul, iI_div, iI_mod, iI_lt, iI_le, iI_eq, iI_nat, iI_vp, ld_rd, ld_wl, lu_s, lu_t, lu_c, lu_j, forall_eq, Int.toNat_natCast, true_and, and_true, not_true, not_false_iff, Classical.not_not, forall_const, iI_inj]
    refine bo2 (sp_isCloud (by omega) hc hA.li) (fun c1 => bo1 (sp_oI (by omega) (by omega) (by omega) (by omega)) (fun c2 => by omega) (fun c2 => bo2 (sp_oI (by omega) (by omega) (by omega) (by omega)) (fun c3 => by omega) (fun c3 => ?_))) (fun c1 => by omega)
    have st := sp_start (d := e) (i0 := 2) (i1 := 0) (by omega) (A := A) (B := lT (mj_ld M 0 A) 2) (M := mj_ld M 0 A) (by decide) ld_src
    rw [ld_self] at st
    refine ⟨_, st, fun z => ?_, fun z => ?_⟩
    · rw [if_neg z, if_neg z]
      refine ⟨_, sp_follow (by omega) hMN (by decide) hA.li (by omega) hWN (by omega) (by omega), ?_⟩
      simp (disch := omega) only [nl_0, nl_1, nl_2, nl_3, nl_4, nl_5, nl_6, nl_7, nl_8, nl_9, nl_10, nl_11, nl_12, nl_13, nl_14, nl_15, nl_16, nl_17, nl_18, nl_19, nl_20, nl_21, nl_22, nl_23, nl_24, nl_25, nl_26, nl_27, nl_28, nl_31, nl_32, nl_42, nl_44, nl_46, nl_48, nl_49, nl_50, nl_51, nl_60, nl_75, nl_76, nl_99, nl_100, nl_108, nl_114, nl_117, nl_126, nl_255, nl_999, nl_2401, nl_9999, nl_12345, nl_65536, nl_1000000, nl_1103515245, nl_2147483647, iI_0, iI_neg, iI_add, iI_sub, iI_mul, iI_div, iI_mod, iI_lt, iI_le, iI_eq, iI_nat, iI_vp, ld_rd, ld_wl, lu_s, lu_t, lu_c, lu_j, forall_eq, Int.toNat_natCast, true_and, and_true, not_true, not_false_iff, Classical.not_not, forall_const, iI_inj]
      (first | exact mj_eq.rf | exact fi_n mj_eq.rf | exact fi_i rfl mj_eq.rf | exact rfl)
    · rw [if_pos z, if_pos z]
      refine ⟨_, sp_fill4 (by omega), _, sp_follow (by omega) hMN (by decide) (lg_LI hA.li) ?_ hWN ?_ (by omega), ?_⟩
      · show w < (lg A w 4 0 0 0).toNat
        rw [lg_t (by decide)]
        omega
      · rw [lg_t (by decide)]
        omega
      · simp (disch := omega) only [nl_0, nl_1, nl_2, nl_3, nl_4, nl_5, nl_6, nl_7, nl_8, nl_9, nl_10, nl_11, nl_12, nl_13, nl_14, nl_15, nl_16, nl_17, nl_18, nl_19, nl_20, nl_21, nl_22, nl_23, nl_24, nl_25, nl_26, nl_27, nl_28, nl_31, nl_32, nl_42, nl_44, nl_46, nl_48, nl_49, nl_50, nl_51, nl_60, nl_75, nl_76, nl_99, nl_100, nl_108, nl_114, nl_117, nl_126, nl_255, nl_999, nl_2401, nl_9999, nl_12345, nl_65536, nl_1000000, nl_1103515245, nl_2147483647, iI_0, iI_neg, iI_add, iI_sub, iI_mul, iI_div, iI_mod, iI_lt, iI_le, iI_eq, iI_nat, iI_vp, ld_rd, ld_wl, lu_s, lu_t, lu_c, lu_j, forall_eq, Int.toNat_natCast, true_and, and_true, not_true, not_false_iff, Classical.not_not, forall_const, iI_inj]
        (first | exact mj_eq.rf | exact fi_n mj_eq.rf | exact fi_i rfl mj_eq.rf | exact rfl)
