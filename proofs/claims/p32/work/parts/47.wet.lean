/-! contracts: what would be: wet, where -/
def lT (M : mj_M) (i : Nat) : lA := fun t c j => (M i t c j).toInt
theorem ld_self {M : mj_M} {i : Nat} : mj_ld M i (lT M i) = M := by
  funext i' t c j
  unfold mj_ld lT
  by_cases h : i' = i ∧ t < 10
  · rw [if_pos h, ← iI_to, h.1]
  · rw [if_neg h]
/-- memory that is the same but in some parts -/
def fr (ps : List Nat) (N N' : mj_M) : Prop := ∀ i, i ∉ ps → N' i = N i
theorem fr.r0 {ps : List Nat} {N : mj_M} : fr ps N N := fun _ _ => rfl
theorem fr_ld {M : mj_M} {i : Nat} {A : lA} {k : Nat} (h : k ≠ i) : mj_ld M i A k = M k := by
  funext t c j
  exact ld_ne h
theorem nat_iR {z : Int} (h : 0 ≤ z) : ∃ n : Nat, z = n := ⟨z.toNat, nat_of h⟩
def s_wet (A : lA) (n : Nat) (S F : Nat → Int) (v m : Int) : Int := if ¬ (0 ≤ v ∧ v < A 0 0 1) ∨ m < 1 ∨ 24 < m then -1 else A 8 0 v.toNat + sm (fun c => ga A n S F c v.toNat m.toNat) (nC A)
/-- each of the first k clouds followed -/
def fos (A : lA) (n : Nat) (S F : Nat → Int) (m : Nat) : Nat → lA
  | 0 => A
  | k + 1 => fo (fos A n S F m k) n S F k m
theorem fos_LI {A : lA} {n m : Nat} {S F : Nat → Int} (h : LI A) : ∀ k, k ≤ 6 → LI (fos A n S F m k)
  | 0, _ => h
  | k + 1, hk => fo_LI (fos_LI h k (by omega)) (by omega) m
theorem fos_lo {A : lA} {n m : Nat} {S F : Nat → Int} {t i j : Nat} (h : t = 0 ∨ t = 1 ∨ t = 5 ∨ t = 7) : ∀ k, fos A n S F m k t i j = A t i j
  | 0 => rfl
  | k + 1 => (fo_lo h m).trans (fos_lo h k)
theorem fos_ag {A : lA} {n m c : Nat} {S F : Nat → Int} : ∀ k, k ≤ c → ag c (fos A n S F m k) A
  | 0, _ => ag.r0
  | k + 1, h => (fo_ot (by omega) m).tr (fos_ag k (by omega))
theorem fos_wet {A : lA} {n m v : Nat} {S F : Nat → Int} : ∀ k, fos A n S F m k 8 0 v = A 8 0 v + sm (fun c => ga A n S F c v m) k
  | 0 => (Int.add_zero _).symm
  | k + 1 => by
    show fo _ n S F k m 8 0 v = A 8 0 v + (sm (fun c => ga A n S F c v m) k + ga A n S F k v m)
    rw [fo_wet, fos_wet k, (fos_ag (A := A) (n := n) (m := m) (S := S) (F := F) k (Nat.le_refl k)).k_ga (fos_lo (by omega) k) m]
    omega
theorem ld_src {M : mj_M} {i : Nat} {A : lA} : ∀ t c j, t < 10 → mj_ld M i A i t c j = iI (A t c j) := fun _ _ _ h => ld_rd h
def s_where (A : lA) (n : Nat) (S F : Nat → Int) (c m l : Int) : Int := if ¬ (0 ≤ c ∧ c < A 0 0 0) ∨ m < 1 ∨ 24 < m ∨ l < 0 ∨ 1 < l then -1 else if l = 1 then fo (lg A c.toNat 4) n S F c.toNat m.toNat 2 0 c.toNat else fo A n S F c.toNat m.toNat 2 0 c.toNat
theorem lg_LI {A : lA} (h : LI A) {c k : Nat} : LI (lg A c k) := by
  refine h.up (fun t i j g => lg_t (by omega)) (fun c hc => by rw [lg_t (by decide)]; exact h.fd hc) (fun c hc => by rw [lg_t (by decide)]; exact h.wa hc) (fun c v hc hv => ?_)
  unfold lg
  split
  · exact Or.inr rfl
  · exact Or.inl rfl
theorem c_where {d : Nat} (hd : 6 ≤ d) {A : lA} {M : mj_M} {n : Nat} {S F : Nat → Int} {c m l : Int} (hc : iR c) (hm : iR m) (hl : iR l) (hM : mj_sM M) (hA : LJ A) (hW : WD M 20 n S F) : ∃ M', mj_Sp d 17 [mj_r (13, 50, 0), mj_i (iI c), mj_i (iI m), mj_i (iI l)] (mj_ld M 0 A) (some (mj_i (iI (s_where A n S F c m l)))) M' ∧ fr [2, 22] (mj_ld M 0 A) M' := by
  unfold iR at hc hm hl
  have h2 := hA.li.nc
  have hh := hA.ho
  by_cases g : ¬ (0 ≤ c ∧ c < A 0 0 0) ∨ m < 1 ∨ 24 < m ∨ l < 0 ∨ 1 < l
  · refine ⟨mj_ld M 0 A, ?_, fr.r0⟩
    rw [show s_where A n S F c m l = -1 from if_pos g]
    refine en_C_where (k := 5) hd fun e he P hP hQ => rg_C_where_0 hP ?_
    simp (disch := omega) only [nl_0, nl_1, nl_2, nl_3, nl_4, nl_5, nl_6, nl_7, nl_8, nl_9, nl_10, nl_11, nl_12, nl_13, nl_14, nl_15, nl_16, nl_17, nl_18, nl_19, nl_20, nl_21, nl_22, nl_23, nl_24, nl_25, nl_26, nl_27, nl_28, nl_31, nl_32, nl_42, nl_44, nl_46, nl_48, nl_49, nl_50, nl_51, nl_60, nl_75, nl_76, nl_99, nl_100, nl_108, nl_114, nl_117, nl_126, nl_255, nl_999, nl_2401, nl_9999, nl_12345, nl_65536, nl_1000000, nl_1103515245, nl_2147483647, iI_0, iI_neg, iI_add, iI_sub, iI_mul, iI_div, iI_mod, iI_lt, iI_le, iI_eq, iI_nat, iI_vp, ld_rd, ld_wl, lu_s, lu_t, lu_c, lu_j, forall_eq, Int.toNat_natCast, true_and, and_true, not_true, not_false_iff, Classical.not_not, forall_const, iI_inj]
    refine bo2 (sp_isCloud (by omega) hc hA.li) (fun c1 => bo1 (sp_oI (by omega) (by omega) (by omega) (by omega)) (fun c2 => ?_) (fun c2 => bo2 (sp_oI (by omega) (by omega) (by omega) (by omega)) (fun c3 => ?_) (fun c3 => by omega))) (fun c1 => ?_)
    · (first | exact mj_eq.rf | exact fi_n mj_eq.rf | exact fi_i rfl mj_eq.rf | exact rfl)
    · (first | exact mj_eq.rf | exact fi_n mj_eq.rf | exact fi_i rfl mj_eq.rf | exact rfl)
    · (first | exact mj_eq.rf | exact fi_n mj_eq.rf | exact fi_i rfl mj_eq.rf | exact rfl)
  · obtain ⟨w, rfl⟩ := nat_iR (show 0 ≤ c by omega)
    obtain ⟨q, rfl⟩ := nat_iR (show 0 ≤ m by omega)
    have es : s_where A n S F w q l = if l = 1 then fo (lg A w 4) n S F w q 2 0 w else fo A n S F w q 2 0 w := if_neg g
    rw [es]
    have hWN : WD (wcp (mj_ld M 0 A) (20 + 0) (20 + 2)) (20 + 2) n S F := hW.ld.cp
    have hMN : mj_sM (wcp (mj_ld M 0 A) (20 + 0) (20 + 2)) := by
      refine ⟨fun j hj => ?_, fun j hj => ?_⟩
      · rw [wcp_ne (by decide), ld_ne (by decide)]; exact hM.1 j hj
      · rw [wcp_ne (by decide), ld_ne (by decide)]; exact hM.2 j hj
    refine ⟨mj_ld (wcp (mj_ld M 0 A) (20 + 0) (20 + 2)) 2 (if l = 1 then fo (lg A w 4) n S F w q else fo A n S F w q), ?_, fun i hi => by
      simp only [List.mem_cons] at hi
      rw [fr_ld (by omega), wcp_ne (by omega)]⟩
    refine en_C_where (k := 5) hd fun e he P hP hQ => rg_C_where_0 hP ?_
    simp (disch := omega) only [nl_0, nl_1, nl_2, nl_3, nl_4, nl_5, nl_6, nl_7, nl_8, nl_9, nl_10, nl_11, nl_12, nl_13, nl_14, nl_15, nl_16, nl_17, nl_18, nl_19, nl_20, nl_21, nl_22, nl_23, nl_24, nl_25, nl_26, nl_27, nl_28, nl_31, nl_32, nl_42, nl_44, nl_46, nl_48, nl_49, nl_50, nl_51, nl_60, nl_75, nl_76, nl_99, nl_100, nl_108, nl_114, nl_117, nl_126, nl_255, nl_999, nl_2401, nl_9999, nl_12345, nl_65536, nl_1000000, nl_1103515245, nl_2147483647, iI_0, iI_neg, iI_add, iI_sub, iI_mul, iI_div, iI_mod, iI_lt, iI_le, iI_eq, iI_nat, iI_vp, ld_rd, ld_wl, lu_s, lu_t, lu_c, lu_j, forall_eq, Int.toNat_natCast, true_and, and_true, not_true, not_false_iff, Classical.not_not, forall_const, iI_inj]
    refine bo2 (sp_isCloud (by omega) hc hA.li) (fun c1 => bo1 (sp_oI (by omega) (by omega) (by omega) (by omega)) (fun c2 => by omega) (fun c2 => bo2 (sp_oI (by omega) (by omega) (by omega) (by omega)) (fun c3 => by omega) (fun c3 => ?_))) (fun c1 => by omega)
    have st := sp_start (d := e) (i0 := 2) (i1 := 0) (by omega) (A := A) (B := lT (mj_ld M 0 A) 2) (M := mj_ld M 0 A) (by decide) ld_src
    rw [ld_self] at st
    refine ⟨_, st, fun z => ?_, fun z => ?_⟩
    · rw [if_neg z, if_neg z]
      refine ⟨_, sp_follow (by omega) hMN (by decide) hA.li (by omega) hWN (by omega) (by omega), ?_⟩
      simp (disch := omega) only [nl_0, nl_1, nl_2, nl_3, nl_4, nl_5, nl_6, nl_7, nl_8, nl_9, nl_10, nl_11, nl_12, nl_13, nl_14, nl_15, nl_16, nl_17, nl_18, nl_19, nl_20, nl_21, nl_22, nl_23, nl_24, nl_25, nl_26, nl_27, nl_28, nl_31, nl_32, nl_42, nl_44, nl_46, nl_48, nl_49, nl_50, nl_51, nl_60, nl_75, nl_76, nl_99, nl_100, nl_108, nl_114, nl_117, nl_126, nl_255, nl_999, nl_2401, nl_9999, nl_12345, nl_65536, nl_1000000, nl_1103515245, nl_2147483647, iI_0, iI_neg, iI_add, iI_sub, iI_mul, iI_div, iI_mod, iI_lt, iI_le, iI_eq, iI_nat, iI_vp, ld_rd, ld_wl, lu_s, lu_t, lu_c, lu_j, forall_eq, Int.toNat_natCast, true_and, and_true, not_true, not_false_iff, Classical.not_not, forall_const, iI_inj]
      (first | exact mj_eq.rf | exact fi_n mj_eq.rf | exact fi_i rfl mj_eq.rf | exact rfl)
    · rw [if_pos z, if_pos z]
      refine ⟨_, sp_fill4 (by omega), _, sp_follow (by omega) hMN (by decide) (lg_LI hA.li) ?_ hWN ?_ (by omega), ?_⟩
      · show w < (lg A w 4 0 0 0).toNat
        rw [lg_t (by decide)]
        omega
      · rw [lg_t (by decide)]
        omega
      · simp (disch := omega) only [nl_0, nl_1, nl_2, nl_3, nl_4, nl_5, nl_6, nl_7, nl_8, nl_9, nl_10, nl_11, nl_12, nl_13, nl_14, nl_15, nl_16, nl_17, nl_18, nl_19, nl_20, nl_21, nl_22, nl_23, nl_24, nl_25, nl_26, nl_27, nl_28, nl_31, nl_32, nl_42, nl_44, nl_46, nl_48, nl_49, nl_50, nl_51, nl_60, nl_75, nl_76, nl_99, nl_100, nl_108, nl_114, nl_117, nl_126, nl_255, nl_999, nl_2401, nl_9999, nl_12345, nl_65536, nl_1000000, nl_1103515245, nl_2147483647, iI_0, iI_neg, iI_add, iI_sub, iI_mul, iI_div, iI_mod, iI_lt, iI_le, iI_eq, iI_nat, iI_vp, ld_rd, ld_wl, lu_s, lu_t, lu_c, lu_j, forall_eq, Int.toNat_natCast, true_and, and_true, not_true, not_false_iff, Classical.not_not, forall_const, iI_inj]
        (first | exact mj_eq.rf | exact fi_n mj_eq.rf | exact fi_i rfl mj_eq.rf | exact rfl)
