/-! contracts: tug -/
theorem fK_0 {A : lA} {W1 W2 : Nat → Nat → Int} : ∀ k, cK A W1 W2 k = 0 → fK A W1 W2 k = -4
  | 0, _ => rfl
  | k + 1, h => by
    by_cases g : Kp A W1 W2 k
    · rw [cK_y g] at h
      omega
    · have := cK_n g
      rw [this.1] at h
      rw [this.2]
      exact fK_0 k h
def kc (k : Nat) : Int := 10 * ((k / 7 : Nat) : Int) + ((k % 7 : Nat) : Int)
theorem fK_at {A : lA} {W1 W2 : Nat → Nat → Int} : ∀ n, ((∀ c, c < n → ¬ Kp A W1 W2 c) ∧ cK A W1 W2 n = 0 ∧ fK A W1 W2 n = -4) ∨ ∃ c, c < n ∧ Kp A W1 W2 c ∧ (∀ c', c' < c → ¬ Kp A W1 W2 c') ∧ cK A W1 W2 n ≠ 0 ∧ fK A W1 W2 n = kc c
  | 0 => Or.inl ⟨fun c h => absurd h (Nat.not_lt_zero c), rfl, rfl⟩
  | n + 1 => by
    have ih := fK_at (A := A) (W1 := W1) (W2 := W2) n
    by_cases g : Kp A W1 W2 n
    · rcases ih with ⟨h1, h2, h3⟩ | ⟨c, h1, h2, h3, h4, h5⟩
      · refine Or.inr ⟨n, by omega, g, h1, by rw [cK_y g]; omega, ?_⟩
        show (if cK A W1 W2 n = 0 ∧ Kp A W1 W2 n then _ else _) = _
        rw [if_pos ⟨h2, g⟩]
        rfl
      · refine Or.inr ⟨c, by omega, h2, h3, by rw [cK_y g]; omega, ?_⟩
        show (if cK A W1 W2 n = 0 ∧ Kp A W1 W2 n then _ else _) = _
        rw [if_neg (fun z => h4 z.1)]
        exact h5
    · have hn := cK_n g
      rcases ih with ⟨h1, h2, h3⟩ | ⟨c, h1, h2, h3, h4, h5⟩
      · refine Or.inl ⟨fun c hc => ?_, by rw [hn.1]; exact h2, by rw [hn.2]; exact h3⟩
        by_cases e : c = n
        · subst e; exact g
        · exact h1 c (by omega)
      · exact Or.inr ⟨c, by omega, h2, h3, by rw [hn.1]; exact h4, by rw [hn.2]; exact h5⟩
def s_tug (A : lA) (n : Nat) (S F : Nat → Int) (a b m w : Int) : Int := if ¬ (0 ≤ a ∧ a < A 0 0 1) ∨ ¬ (0 ≤ b ∧ b < A 0 0 1) ∨ a = b ∨ m < 1 ∨ 12 < m ∨ w < 0 ∨ 1 < w then -1 else if w = 0 then (cK A (fun x y => tW A a.toNat b.toNat n S F m.toNat x y a.toNat) (fun x y => tW A a.toNat b.toNat n S F m.toNat x y b.toNat) 49 : Int) else fK A (fun x y => tW A a.toNat b.toNat n S F m.toNat x y a.toNat) (fun x y => tW A a.toNat b.toNat n S F m.toNat x y b.toNat) 49
theorem c_tug {d : Nat} (hd : 9 ≤ d) {A : lA} {M : mj_M} {n : Nat} {S F : Nat → Int} {a b m w : Int} (ha : iR a) (hb : iR b) (hm : iR m) (hw : iR w) (hM : mj_sM M) (hA : LJ A) (hW : WD M 20 n S F) : ∃ M', mj_Sp d 20 [mj_r (13, 50, 0), mj_i (iI a), mj_i (iI b), mj_i (iI m), mj_i (iI w)] (mj_ld M 0 A) (some (mj_i (iI (s_tug A n S F a b m w)))) M' ∧ fr [4, 12, 24] (mj_ld M 0 A) M' := by
  unfold iR at ha hb hm hw
  have h1 := hA.li.nv
  by_cases g : ¬ (0 ≤ a ∧ a < A 0 0 1) ∨ ¬ (0 ≤ b ∧ b < A 0 0 1) ∨ a = b ∨ m < 1 ∨ 12 < m ∨ w < 0 ∨ 1 < w
  · refine ⟨mj_ld M 0 A, ?_, fr.r0⟩
    rw [show s_tug A n S F a b m w = -1 from if_pos g]
    refine en_C_tug (k := 8) hd fun e he P hP hQ => rg_C_tug_0 hP ?_
    simp (disch := omega) only [nl_0, nl_1, nl_2, nl_3, nl_4, nl_5, nl_6, nl_7, nl_8, nl_9, nl_10, nl_11, nl_12, nl_13, nl_14, nl_15, nl_16, nl_17, nl_18, nl_19, nl_20, nl_21, nl_22, nl_23, nl_24, nl_25, nl_26, nl_27, nl_28, nl_31, nl_32, nl_42, nl_44, nl_46, nl_48, nl_49, nl_50, nl_51, nl_60, nl_75, nl_76, nl_99, nl_100, nl_108, nl_114, nl_117, nl_126, nl_255, nl_999, nl_2401, nl_9999, nl_12345, nl_65536, nl_1000000, nl_1103515245, nl_2147483647, iI_0, iI_neg, iI_add, iI_sub, iI_mul, iI_div, iI_mod, iI_lt, iI_le, iI_eq, iI_nat, iI_vp, ld_rd, ld_wl, lu_s, lu_t, lu_c, lu_j, forall_eq, Int.toNat_natCast, true_and, and_true, not_true, not_false_iff, Classical.not_not, forall_const, iI_inj]
    refine bo2 (sp_isVillage (by omega) ha hA.li) (fun c1 => bo2 (sp_isVillage (by omega) hb hA.li) (fun c2 => ⟨fun c3 => ?_, fun c3 => bo1 (sp_oI (by omega) (by omega) (by omega) (by omega)) (fun c4 => ?_) (fun c4 => bo2 (sp_oI (by omega) (by omega) (by omega) (by omega)) (fun c5 => ?_) (fun c5 => by omega))⟩) (fun c2 => ?_)) (fun c1 => ?_)
    · (first | exact mj_eq.rf | exact fi_n mj_eq.rf | exact fi_i rfl mj_eq.rf | exact rfl)
    · (first | exact mj_eq.rf | exact fi_n mj_eq.rf | exact fi_i rfl mj_eq.rf | exact rfl)
    · (first | exact mj_eq.rf | exact fi_n mj_eq.rf | exact fi_i rfl mj_eq.rf | exact rfl)
    · (first | exact mj_eq.rf | exact fi_n mj_eq.rf | exact fi_i rfl mj_eq.rf | exact rfl)
    · (first | exact mj_eq.rf | exact fi_n mj_eq.rf | exact fi_i rfl mj_eq.rf | exact rfl)
  · obtain ⟨a, rfl⟩ := nat_iR (show 0 ≤ a by omega)
    obtain ⟨b, rfl⟩ := nat_iR (show 0 ≤ b by omega)
    obtain ⟨q, rfl⟩ := nat_iR (show 0 ≤ m by omega)
    obtain ⟨N', spp, f1, z1, p1⟩ := sp_findPairs (a := a) (b := b) (m := q) hA hM hW (show a < nV A by omega) (show b < nV A by omega) (by omega)
    refine ⟨N', ?_, f1⟩
    have es : s_tug A n S F a b q w = if w = 0 then (cK A (fun x y => tW A a b n S F q x y a) (fun x y => tW A a b n S F q x y b) 49 : Int) else fK A (fun x y => tW A a b n S F q x y a) (fun x y => tW A a b n S F q x y b) 49 := if_neg g
    rw [es]
    have hck := cK_le (A := A) (W1 := fun x y => tW A a b n S F q x y a) (W2 := fun x y => tW A a b n S F q x y b) 49
    have hf0 := fK_0 (A := A) (W1 := fun x y => tW A a b n S F q x y a) (W2 := fun x y => tW A a b n S F q x y b) 49
    generalize cK A (fun x y => tW A a b n S F q x y a) (fun x y => tW A a b n S F q x y b) 49 = ck at z1 p1 hck hf0 ⊢
    generalize fK A (fun x y => tW A a b n S F q x y a) (fun x y => tW A a b n S F q x y b) 49 = fk at p1 hf0 ⊢
    have p2 : Unit → _ := fun _ => p1
    clear p1
    refine en_C_tug (k := 8) hd fun e he P hP hQ => rg_C_tug_0 hP ?_
    simp (disch := omega) only [nl_0, nl_1, nl_2, nl_3, nl_4, nl_5, nl_6, nl_7, nl_8, nl_9, nl_10, nl_11, nl_12, nl_13, nl_14, nl_15, nl_16, nl_17, nl_18, nl_19, nl_20, nl_21, nl_22, nl_23, nl_24, nl_25, nl_26, nl_27, nl_28, nl_31, nl_32, nl_42, nl_44, nl_46, nl_48, nl_49, nl_50, nl_51, nl_60, nl_75, nl_76, nl_99, nl_100, nl_108, nl_114, nl_117, nl_126, nl_255, nl_999, nl_2401, nl_9999, nl_12345, nl_65536, nl_1000000, nl_1103515245, nl_2147483647, iI_0, iI_neg, iI_add, iI_sub, iI_mul, iI_div, iI_mod, iI_lt, iI_le, iI_eq, iI_nat, iI_vp, ld_rd, ld_wl, lu_s, lu_t, lu_c, lu_j, forall_eq, Int.toNat_natCast, true_and, and_true, not_true, not_false_iff, Classical.not_not, forall_const, iI_inj]
    refine bo2 (sp_isVillage (by omega) ha hA.li) (fun c1 => bo2 (sp_isVillage (by omega) hb hA.li) (fun c2 => ⟨fun c3 => by omega, fun c3 => bo1 (sp_oI (by omega) (by omega) (by omega) (by omega)) (fun c4 => by omega) (fun c4 => bo2 (sp_oI (by omega) (by omega) (by omega) (by omega)) (fun c5 => by omega) (fun c5 => ⟨_, spp e he, ?_⟩))⟩) (fun c2 => by omega)) (fun c1 => by omega)
    simp (disch := omega) only [nl_0, nl_1, nl_2, nl_3, nl_4, nl_5, nl_6, nl_7, nl_8, nl_9, nl_10, nl_11, nl_12, nl_13, nl_14, nl_15, nl_16, nl_17, nl_18, nl_19, nl_20, nl_21, nl_22, nl_23, nl_24, nl_25, nl_26, nl_27, nl_28, nl_31, nl_32, nl_42, nl_44, nl_46, nl_48, nl_49, nl_50, nl_51, nl_60, nl_75, nl_76, nl_99, nl_100, nl_108, nl_114, nl_117, nl_126, nl_255, nl_999, nl_2401, nl_9999, nl_12345, nl_65536, nl_1000000, nl_1103515245, nl_2147483647, iI_0, iI_neg, iI_add, iI_sub, iI_mul, iI_div, iI_mod, iI_lt, iI_le, iI_eq, iI_nat, iI_vp, ld_rd, ld_wl, lu_s, lu_t, lu_c, lu_j, forall_eq, Int.toNat_natCast, true_and, and_true, not_true, not_false_iff, Classical.not_not, forall_const, iI_inj, z1, tn0]
    refine ⟨fun z => ⟨fun z2 => ?_, fun z2 => ?_⟩, fun z => ?_⟩
    · have hck1 : ck ≠ 0 := by omega
      obtain ⟨p, q', hp, hq, e1, e2, e3⟩ := p2 () hck1
      have t1 : (1 : Int).toNat = 1 := rfl
      simp (disch := omega) only [nl_0, nl_1, nl_2, nl_3, nl_4, nl_5, nl_6, nl_7, nl_8, nl_9, nl_10, nl_11, nl_12, nl_13, nl_14, nl_15, nl_16, nl_17, nl_18, nl_19, nl_20, nl_21, nl_22, nl_23, nl_24, nl_25, nl_26, nl_27, nl_28, nl_31, nl_32, nl_42, nl_44, nl_46, nl_48, nl_49, nl_50, nl_51, nl_60, nl_75, nl_76, nl_99, nl_100, nl_108, nl_114, nl_117, nl_126, nl_255, nl_999, nl_2401, nl_9999, nl_12345, nl_65536, nl_1000000, nl_1103515245, nl_2147483647, iI_0, iI_neg, iI_add, iI_sub, iI_mul, iI_div, iI_mod, iI_lt, iI_le, iI_eq, iI_nat, iI_vp, ld_rd, ld_wl, lu_s, lu_t, lu_c, lu_j, forall_eq, Int.toNat_natCast, true_and, and_true, not_true, not_false_iff, Classical.not_not, forall_const, iI_inj, t1, e1, e2]
      rw [if_neg z, e3]
      (first | exact mj_eq.rf | exact fi_n mj_eq.rf | exact fi_i rfl mj_eq.rf | exact rfl)
    · rw [if_neg z, hf0 (by omega)]
      (first | exact mj_eq.rf | exact fi_n mj_eq.rf | exact fi_i rfl mj_eq.rf | exact rfl)
    · rw [if_pos z]
      (first | exact mj_eq.rf | exact fi_n mj_eq.rf | exact fi_i rfl mj_eq.rf | exact rfl)
/-! the reference's tug -/
def ls1 (A : lA) (v c : Nat) : lA := fun t i j => if t = 4 ∧ j = v ∧ i < 6 then (if i = c then A 6 0 v else 0) else A t i j
/-- no string of a village, up to a cloud -/
def lz (A : lA) (v k : Nat) : lA := fun t i j => if t = 4 ∧ j = v ∧ i < k then 0 else A t i j
theorem lz_0 {A : lA} {v : Nat} : lz A v 0 = A := by
  funext t i j
  exact if_neg (by omega)
theorem lz_s {A : lA} {v k : Nat} : lu (lz A v k) 4 k v 0 = lz A v (k + 1) := by
  funext t i j
  unfold lu lz
  by_cases h1 : t = 4 ∧ i = k ∧ j = v
  · rw [if_pos h1, if_pos (by omega)]
  · rw [if_neg h1]
    by_cases h4 : t = 4 ∧ j = v ∧ i < k
    · rw [if_pos h4, if_pos (by omega)]
    · rw [if_neg h4, if_neg (by omega)]
theorem sp_mlays {d v c : Nat} (hd : 1 ≤ d) {A : lA} {M : mj_M} (hv : v < 4) (hc : c < 7) : mj_Sp d 131 [mj_r (30, 60, 0), mj_i (iI (v : Int)), mj_i (iI (c : Int))] (mj_ld M 14 A) none (mj_ld M 14 (ls1 A v c)) := by
  refine en_m_lays (k := 0) hd fun e he P hP hQ => rg_m_lays_0 hP ?_
  have e0 : mj_ld M 14 A = mj_ld M 14 (lz A v 0) := by rw [lz_0]
  rw [e0]
  refine lp_dn (Q := fun k => P 2 [some (mj_r (30, 60, 0)), some (mj_i (iI (v : Int))), some (mj_i (iI (c : Int))), some (mj_i (iI (k : Int)))] [] (mj_ld M 14 (lz A v k))) (n := 6) ?_ (fun k hk ih => ?_) 0 (Nat.zero_le _)
  · refine rg_m_lays_2 hP ⟨fun z => ?_, fun z => ?_⟩
    · have e6 : lz A v 6 6 0 v = A 6 0 v := if_neg (by omega)
      simp (disch := omega) only [nl_0, nl_1, nl_2, nl_3, nl_4, nl_5, nl_6, nl_7, nl_8, nl_9, nl_10, nl_11, nl_12, nl_13, nl_14, nl_15, nl_16, nl_17, nl_18, nl_19, nl_20, nl_21, nl_22, nl_23, nl_24, nl_25, nl_26, nl_27, nl_28, nl_31, nl_32, nl_42, nl_44, nl_46, nl_48, nl_49, nl_50, nl_51, nl_60, nl_75, nl_76, nl_99, nl_100, nl_108, nl_114, nl_117, nl_126, nl_255, nl_999, nl_2401, nl_9999, nl_12345, nl_65536, nl_1000000, nl_1103515245, nl_2147483647, iI_0, iI_neg, iI_add, iI_sub, iI_mul, iI_div, iI_mod, iI_lt, iI_le, iI_eq, iI_nat, iI_vp, ld_rd, ld_wl, lu_s, lu_t, lu_c, lu_j, forall_eq, Int.toNat_natCast, true_and, and_true, not_true, not_false_iff, Classical.not_not, forall_const, iI_inj]
      refine ⟨fun z => mj_eq.of ?_, fun z => ?_⟩
      · congr 1
        funext t i j
        unfold lz ls1
        by_cases h : t = 4 ∧ j = v ∧ i < 6
        · rw [if_pos h, if_pos h, if_neg (by omega)]
        · rw [if_neg h, if_neg h]
      · simp (disch := omega) only [nl_0, nl_1, nl_2, nl_3, nl_4, nl_5, nl_6, nl_7, nl_8, nl_9, nl_10, nl_11, nl_12, nl_13, nl_14, nl_15, nl_16, nl_17, nl_18, nl_19, nl_20, nl_21, nl_22, nl_23, nl_24, nl_25, nl_26, nl_27, nl_28, nl_31, nl_32, nl_42, nl_44, nl_46, nl_48, nl_49, nl_50, nl_51, nl_60, nl_75, nl_76, nl_99, nl_100, nl_108, nl_114, nl_117, nl_126, nl_255, nl_999, nl_2401, nl_9999, nl_12345, nl_65536, nl_1000000, nl_1103515245, nl_2147483647, iI_0, iI_neg, iI_add, iI_sub, iI_mul, iI_div, iI_mod, iI_lt, iI_le, iI_eq, iI_nat, iI_vp, ld_rd, ld_wl, lu_s, lu_t, lu_c, lu_j, forall_eq, Int.toNat_natCast, true_and, and_true, not_true, not_false_iff, Classical.not_not, forall_const, iI_inj, nd, nw, nlH, nlh, e6]
        refine mj_eq.of ?_
        congr 1
        funext t i j
        unfold lu lz ls1
        by_cases h : t = 4 ∧ j = v ∧ i < 6
        · by_cases h2 : i = c
          · rw [if_pos ⟨h.1, h2, h.2.1⟩, if_pos h, if_pos h2]
          · rw [if_neg (fun z => h2 z.2.1), if_pos h, if_pos h, if_neg h2]
        · rw [if_neg (fun z => h ⟨z.1, z.2.2, by omega⟩), if_neg h, if_neg h]
    · simp (disch := omega) only [nl_0, nl_1, nl_2, nl_3, nl_4, nl_5, nl_6, nl_7, nl_8, nl_9, nl_10, nl_11, nl_12, nl_13, nl_14, nl_15, nl_16, nl_17, nl_18, nl_19, nl_20, nl_21, nl_22, nl_23, nl_24, nl_25, nl_26, nl_27, nl_28, nl_31, nl_32, nl_42, nl_44, nl_46, nl_48, nl_49, nl_50, nl_51, nl_60, nl_75, nl_76, nl_99, nl_100, nl_108, nl_114, nl_117, nl_126, nl_255, nl_999, nl_2401, nl_9999, nl_12345, nl_65536, nl_1000000, nl_1103515245, nl_2147483647, iI_0, iI_neg, iI_add, iI_sub, iI_mul, iI_div, iI_mod, iI_lt, iI_le, iI_eq, iI_nat, iI_vp, ld_rd, ld_wl, lu_s, lu_t, lu_c, lu_j, forall_eq, Int.toNat_natCast, true_and, and_true, not_true, not_false_iff, Classical.not_not, forall_const, iI_inj] at z
      omega
  · refine rg_m_lays_2 hP ?_
    simp (disch := omega) only [nl_0, nl_1, nl_2, nl_3, nl_4, nl_5, nl_6, nl_7, nl_8, nl_9, nl_10, nl_11, nl_12, nl_13, nl_14, nl_15, nl_16, nl_17, nl_18, nl_19, nl_20, nl_21, nl_22, nl_23, nl_24, nl_25, nl_26, nl_27, nl_28, nl_31, nl_32, nl_42, nl_44, nl_46, nl_48, nl_49, nl_50, nl_51, nl_60, nl_75, nl_76, nl_99, nl_100, nl_108, nl_114, nl_117, nl_126, nl_255, nl_999, nl_2401, nl_9999, nl_12345, nl_65536, nl_1000000, nl_1103515245, nl_2147483647, iI_0, iI_neg, iI_add, iI_sub, iI_mul, iI_div, iI_mod, iI_lt, iI_le, iI_eq, iI_nat, iI_vp, ld_rd, ld_wl, lu_s, lu_t, lu_c, lu_j, forall_eq, Int.toNat_natCast, true_and, and_true, not_true, not_false_iff, Classical.not_not, forall_const, iI_inj, nd, nw, nlh, lz_s]
    exact ⟨fun z => by omega, fun z => ih⟩
theorem sp_misChoice {d x : Nat} (hd : 2 ≤ d) {A : lA} {M : mj_M} (hA : LI A) (hx : x < 7) : mj_Sp d 132 [mj_r (30, 60, 0), mj_i (iI (x : Int))] (mj_ld M 14 A) (some (mj_i (iI (if ch A x then 1 else 0)))) (mj_ld M 14 A) := by
  have h1 := hA.nc
  refine en_m_isChoice (k := 1) hd fun e he P hP hQ => rg_m_isChoice_0 hP ?_
  simp (disch := omega) only [nl_0, nl_1, nl_2, nl_3, nl_4, nl_5, nl_6, nl_7, nl_8, nl_9, nl_10, nl_11, nl_12, nl_13, nl_14, nl_15, nl_16, nl_17, nl_18, nl_19, nl_20, nl_21, nl_22, nl_23, nl_24, nl_25, nl_26, nl_27, nl_28, nl_31, nl_32, nl_42, nl_44, nl_46, nl_48, nl_49, nl_50, nl_51, nl_60, nl_75, nl_76, nl_99, nl_100, nl_108, nl_114, nl_117, nl_126, nl_255, nl_999, nl_2401, nl_9999, nl_12345, nl_65536, nl_1000000, nl_1103515245, nl_2147483647, iI_0, iI_neg, iI_add, iI_sub, iI_mul, iI_div, iI_mod, iI_lt, iI_le, iI_eq, iI_nat, iI_vp, ld_rd, ld_wl, lu_s, lu_t, lu_c, lu_j, forall_eq, Int.toNat_natCast, true_and, and_true, not_true, not_false_iff, Classical.not_not, forall_const, iI_inj, h1.1]
  refine ⟨fun z => ?_, fun z => ⟨fun z2 => ?_, fun z2 => bo2 (sp_mOver (by omega) (by omega) hA) (fun z3 => ?_) (fun z3 => ?_)⟩⟩
  · rw [if_pos (Or.inl (by omega))]
    (first | exact mj_eq.rf | exact fi_n mj_eq.rf | exact fi_i rfl mj_eq.rf | exact rfl)
  · rw [if_neg (fun h => by
      rcases h with h | h
      · omega
      · have := h.1; omega)]
    (first | exact mj_eq.rf | exact fi_n mj_eq.rf | exact fi_i rfl mj_eq.rf | exact rfl)
  · have z4 : A 2 0 x ≠ 25 := z3
    rw [if_pos (Or.inr ⟨by omega, z4⟩)]
    (first | exact mj_eq.rf | exact fi_n mj_eq.rf | exact fi_i rfl mj_eq.rf | exact rfl)
  · have z4 : ¬ (A 2 0 x ≠ 25) := z3
    rw [if_neg (fun h => by
      rcases h with h | h
      · omega
      · exact z4 h.2)]
    (first | exact mj_eq.rf | exact fi_n mj_eq.rf | exact fi_i rfl mj_eq.rf | exact rfl)
/-- what the reference finds of a pair -/
def tF (A : lA) (a : Nat) (W : Nat → Nat → Int) (k : Nat) : Int := if ch A (k / 7) ∧ ch A (k % 7) then A 8 0 a + W (k / 7) (k % 7) else -1
def fD (A : lA) (W1 W2 : Nat → Nat → Int) : Nat → Int
  | 0 => -4
  | j + 1 => if Kp A W1 W2 (48 - j) then kc (48 - j) else fD A W1 W2 j
theorem fD_at {A : lA} {W1 W2 : Nat → Nat → Int} : ∀ j, j ≤ 49 → ((∀ c, 49 - j ≤ c → c < 49 → ¬ Kp A W1 W2 c) ∧ fD A W1 W2 j = -4) ∨ ∃ c, 49 - j ≤ c ∧ c < 49 ∧ Kp A W1 W2 c ∧ (∀ c', 49 - j ≤ c' → c' < c → ¬ Kp A W1 W2 c') ∧ fD A W1 W2 j = kc c
  | 0, _ => Or.inl ⟨fun c h1 h2 => by omega, rfl⟩
  | j + 1, hj => by
    have e : fD A W1 W2 (j + 1) = if Kp A W1 W2 (48 - j) then kc (48 - j) else fD A W1 W2 j := rfl
    by_cases g : Kp A W1 W2 (48 - j)
    · rw [if_pos g] at e
      exact Or.inr ⟨48 - j, by omega, by omega, g, fun c' h1 h2 => by omega, e⟩
    · rw [if_neg g] at e
      rw [e]
      rcases fD_at (A := A) (W1 := W1) (W2 := W2) j (by omega) with ⟨h1, h2⟩ | ⟨c, h1, h2, h3, h4, h5⟩
      · refine Or.inl ⟨fun c h3 h4 => ?_, h2⟩
        by_cases e : c = 48 - j
        · subst e; exact g
        · exact h1 c (by omega) h4
      · refine Or.inr ⟨c, by omega, h2, h3, fun c' h6 h7 => ?_, h5⟩
        by_cases e : c' = 48 - j
        · subst e; exact g
        · exact h4 c' (by omega) h7
theorem fD_fK {A : lA} {W1 W2 : Nat → Nat → Int} : fD A W1 W2 49 = fK A W1 W2 49 := by
  rcases fD_at (A := A) (W1 := W1) (W2 := W2) 49 (Nat.le_refl _) with ⟨h1, h2⟩ | ⟨c, h1, h2, h3, h4, h5⟩ <;> rcases fK_at (A := A) (W1 := W1) (W2 := W2) 49 with ⟨k1, k2, k3⟩ | ⟨c', k1, k2, k3, k4, k5⟩
  · rw [h2, k3]
  · exact absurd k2 (h1 c' (by omega) k1)
  · exact absurd h3 (k1 c h2)
  · have : c = c' := by
      by_cases g1 : c < c'
      · exact absurd h3 (k3 c g1)
      · by_cases g2 : c' < c
        · exact absurd k2 (h4 c' (by omega) g2)
        · omega
    rw [h5, k5, this]
def tp (a b x y : Nat) : Nat → Nat := fun j => if j = a then x else if j = b then y else 7
theorem tp_a {a b x y : Nat} : tp a b x y a = x := if_pos rfl
theorem tp_b {a b x y : Nat} (h : b ≠ a) : tp a b x y b = y := by
  unfold tp
  rw [if_neg h, if_pos rfl]
theorem m_tug {A : lA} {M : mj_M} {n : Nat} {S F : Nat → Int} {a b m w : Int} (ha : iR a) (hb : iR b) (hm : iR m) (hw : iR w) (hA : LJ A) (hW : WD M 34 n S F) : ∃ M', (∀ d, 7 ≤ d → mj_Sp d 133 [mj_r (30, 60, 0), mj_i (iI a), mj_i (iI b), mj_i (iI m), mj_i (iI w)] (mj_ld M 14 A) (some (mj_i (iI (s_tug A n S F a b m w)))) (mj_ld M' 14 A)) ∧ fr [15, 33] M M' := by
  unfold iR at ha hb hm hw
  have h1 := hA.li.nv
  have hh := hA.ho
  by_cases g : ¬ (0 ≤ a ∧ a < A 0 0 1) ∨ ¬ (0 ≤ b ∧ b < A 0 0 1) ∨ a = b ∨ m < 1 ∨ 12 < m ∨ w < 0 ∨ 1 < w
  · refine ⟨M, fun d hd => ?_, fr.r0⟩
    rw [show s_tug A n S F a b m w = -1 from if_pos g]
    refine en_m_tug (k := 6) hd fun e he P hP hQ => rg_m_tug_0 hP ?_
    simp (disch := omega) only [nl_0, nl_1, nl_2, nl_3, nl_4, nl_5, nl_6, nl_7, nl_8, nl_9, nl_10, nl_11, nl_12, nl_13, nl_14, nl_15, nl_16, nl_17, nl_18, nl_19, nl_20, nl_21, nl_22, nl_23, nl_24, nl_25, nl_26, nl_27, nl_28, nl_31, nl_32, nl_42, nl_44, nl_46, nl_48, nl_49, nl_50, nl_51, nl_60, nl_75, nl_76, nl_99, nl_100, nl_108, nl_114, nl_117, nl_126, nl_255, nl_999, nl_2401, nl_9999, nl_12345, nl_65536, nl_1000000, nl_1103515245, nl_2147483647, iI_0, iI_neg, iI_add, iI_sub, iI_mul, iI_div, iI_mod, iI_lt, iI_le, iI_eq, iI_nat, iI_vp, ld_rd, ld_wl, lu_s, lu_t, lu_c, lu_j, forall_eq, Int.toNat_natCast, true_and, and_true, not_true, not_false_iff, Classical.not_not, forall_const, iI_inj, lI_iI, ll_0, ll_1, ll_12]
    refine bo2 (sp_mVillage (by omega) ha hA.li) (fun c1 => bo2 (sp_mVillage (by omega) hb hA.li) (fun c2 => ⟨fun c3 => ?_, fun c3 => bo2 (sp_mI (by omega) (by omega) (by omega) (by omega)) (fun c4 => bo1 (sp_mI (by omega) (by omega) (by omega) (by omega)) (fun c5 => by omega) (fun c5 => ?_)) (fun c4 => ?_)⟩) (fun c2 => ?_)) (fun c1 => ?_)
    · (first | exact mj_eq.rf | exact fi_n mj_eq.rf | exact fi_i rfl mj_eq.rf | exact rfl)
    · (first | exact mj_eq.rf | exact fi_n mj_eq.rf | exact fi_i rfl mj_eq.rf | exact rfl)
    · (first | exact mj_eq.rf | exact fi_n mj_eq.rf | exact fi_i rfl mj_eq.rf | exact rfl)
    · (first | exact mj_eq.rf | exact fi_n mj_eq.rf | exact fi_i rfl mj_eq.rf | exact rfl)
    · (first | exact mj_eq.rf | exact fi_n mj_eq.rf | exact fi_i rfl mj_eq.rf | exact rfl)
  · obtain ⟨a, rfl⟩ := nat_iR (show 0 ≤ a by omega)
    obtain ⟨b, rfl⟩ := nat_iR (show 0 ≤ b by omega)
    obtain ⟨q, rfl⟩ := nat_iR (show 0 ≤ m by omega)
    have ha4 : a < 4 := by omega
    have hb4 : b < 4 := by omega
    have hab : a ≠ b := by omega
    have es : s_tug A n S F a b q w = if w = 0 then (cK A (fun x y => tW A a b n S F q x y a) (fun x y => tW A a b n S F q x y b) 49 : Int) else fK A (fun x y => tW A a b n S F q x y a) (fun x y => tW A a b n S F q x y b) 49 := if_neg g
    rw [es]
    have hbd : ∀ x y, 0 ≤ tW A a b n S F q x y a ∧ tW A a b n S F q x y a ≤ 360 ∧ 0 ≤ tW A a b n S F q x y b ∧ tW A a b n S F q x y b ≤ 360 := fun x y => by
      have e1 := gsum_r hA (L := 1 <<< a ||| 1 <<< b) (n := n) (m := q) (v := a) (S := S) (F := F) (s := sT a b x y)
      have e2 := gsum_r hA (L := 1 <<< a ||| 1 <<< b) (n := n) (m := q) (v := b) (S := S) (F := F) (s := sT a b x y)
      unfold tW
      omega
    -- the wetness of a pair
    have hwet : ∀ x y v, (v = a ∨ v = b) → gs (rl A (1 <<< a ||| 1 <<< b) (tp a b x y)) n S F q 8 0 v = A 8 0 v + tW A a b n S F q x y v := fun x y v hv => by
      refine rl_wet hA.li (s := sT a b x y) (fun c hc j hj hL => ?_)
      rw [sT_bit ha4 hb4 hj]
      rcases (sL_bit ha4 hb4 hj).mp hL with e | e
      · subst e
        rw [tp_a]
        exact ⟨fun h => Or.inl ⟨h.symm, rfl⟩, fun h => by
          rcases h with h | h
          · exact h.1.symm
          · exact absurd h.2 hab⟩
      · subst e
        rw [tp_b (fun z => hab z.symm)]
        exact ⟨fun h => Or.inr ⟨h.symm, rfl⟩, fun h => by
          rcases h with h | h
          · exact absurd h.2 (fun z => hab z.symm)
          · exact h.1.symm⟩
    have hland : ∀ (N : mj_M) (x y : Nat), mj_eq (mj_ld N 14 (ls1 (ls1 A a x) b y)) (mj_ld N 14 (rl A (1 <<< a ||| 1 <<< b) (tp a b x y))) := fun N x y => ld_ok fun t c j ht ho => by
      by_cases e4 : t = 4
      · subst e4
        have ho4 := okc ho
        have hlb : (1 <<< a ||| 1 <<< b : Nat).testBit j = true ↔ j = a ∨ j = b := sL_bit ha4 hb4 ho4.2
        unfold ls1 rl
        by_cases e1 : j = b
        · have hna : ¬ j = a := by omega
          rw [if_pos (show 4 = 4 ∧ j = b ∧ c < 6 from ⟨rfl, e1, ho4.1⟩), if_pos (show 4 = 4 ∧ j < 4 ∧ (1 <<< a ||| 1 <<< b : Nat).testBit j = true from ⟨rfl, ho4.2, hlb.mpr (Or.inr e1)⟩), e1, tp_b (fun z => hab z.symm)]
          have e6 : (if 6 = 4 ∧ b = a ∧ 0 < 6 then (if 0 = x then A 6 0 a else 0) else A 6 0 b) = A 6 0 b := if_neg (by omega)
          rw [e6]
          by_cases e2 : c = y
          · rw [if_pos e2, if_pos e2.symm]
          · rw [if_neg e2, if_neg (fun z => e2 z.symm)]
        · rw [if_neg (fun z => e1 z.2.1)]
          by_cases e2 : j = a
          · rw [if_pos (show 4 = 4 ∧ j = a ∧ c < 6 from ⟨rfl, e2, ho4.1⟩), if_pos (show 4 = 4 ∧ j < 4 ∧ (1 <<< a ||| 1 <<< b : Nat).testBit j = true from ⟨rfl, ho4.2, hlb.mpr (Or.inl e2)⟩), e2, tp_a]
            by_cases e3 : c = x
            · rw [if_pos e3, if_pos e3.symm]
            · rw [if_neg e3, if_neg (fun z => e3 z.symm)]
          · rw [if_neg (fun z => e2 z.2.1), if_neg (fun z => by
              rcases hlb.mp z.2.2 with h | h
              · exact e2 h
              · exact e1 h)]
      · unfold ls1 rl
        rw [if_neg (fun z => e4 z.1), if_neg (fun z => e4 z.1), if_neg (fun z => e4 z.1)]
    have hweA := hA.we ha4
    have hweB := hA.we hb4
    generalize hW1 : (fun x y => tW A a b n S F q x y a) = W1
    generalize hW2 : (fun x y => tW A a b n S F q x y b) = W2
    have w1e : ∀ x y, tW A a b n S F q x y a = W1 x y := fun x y => by rw [← hW1]
    have w2e : ∀ x y, tW A a b n S F q x y b = W2 x y := fun x y => by rw [← hW2]
    have hbd2 : ∀ x y, 0 ≤ W1 x y ∧ W1 x y ≤ 360 ∧ 0 ≤ W2 x y ∧ W2 x y ≤ 360 := fun x y => by
      rw [← w1e, ← w2e]
      exact hbd x y
    clear hW1 hW2
    have hF1 : ∀ k, -1 ≤ tF A a W1 k ∧ tF A a W1 k ≤ 400000 := fun k => by
      have := hbd2 (k / 7) (k % 7)
      unfold tF
      split <;> omega
    have hF2 : ∀ k, -1 ≤ tF A b W2 k ∧ tF A b W2 k ≤ 400000 := fun k => by
      have := hbd2 (k / 7) (k % 7)
      unfold tF
      split <;> omega
    have hck := cK_le (A := A) (W1 := W1) (W2 := W2)
    -- the counting
    have count : ∀ N, (∀ k, k < 49 → N 33 67 0 k = iI (tF A a W1 k) ∧ N 33 68 0 k = iI (tF A b W2 k)) → ∀ o8 o9, Rn mj_c133 6 179 [some (mj_r (30, 60, 0)), some (mj_i (iI (a : Int))), some (mj_i (iI (b : Int))), some (mj_i (iI (q : Int))), some (mj_i (iI w)), some (mj_i (iI 0)), some (mj_i (iI (-4))), some (mj_i (iI 48)), o8, o9] (mj_ld N 14 A) (some (mj_i (iI (if w = 0 then (cK A W1 W2 49 : Int) else fK A W1 W2 49)))) (mj_ld N 14 A) := by
      intro N hN o8 o9 e he P hP hQ
      have key : ∀ j : Nat, j ≤ 49 → ∀ o8 o9, P 179 [some (mj_r (30, 60, 0)), some (mj_i (iI (a : Int))), some (mj_i (iI (b : Int))), some (mj_i (iI (q : Int))), some (mj_i (iI w)), some (mj_i (iI ((cK A W1 W2 49 : Int) - (cK A W1 W2 (49 - j) : Int)))), some (mj_i (iI (fD A W1 W2 j))), some (mj_i (iI (48 - (j : Int)))), o8, o9] [] (mj_ld N 14 A) := by
        refine lp_dn (Q := fun j => ∀ o8 o9, P 179 [some (mj_r (30, 60, 0)), some (mj_i (iI (a : Int))), some (mj_i (iI (b : Int))), some (mj_i (iI (q : Int))), some (mj_i (iI w)), some (mj_i (iI ((cK A W1 W2 49 : Int) - (cK A W1 W2 (49 - j) : Int)))), some (mj_i (iI (fD A W1 W2 j))), some (mj_i (iI (48 - (j : Int)))), o8, o9] [] (mj_ld N 14 A)) (n := 49) (fun o8 o9 => ?_) (fun j hj ih o8 o9 => ?_)
        · refine rg_m_tug_179 hP ⟨fun z => ?_, fun z => ?_⟩
          · have e0 : (cK A W1 W2 (49 - 49) : Int) = 0 := rfl
            rw [e0, Int.sub_zero, fD_fK]
            simp (disch := omega) only [nl_0, nl_1, nl_2, nl_3, nl_4, nl_5, nl_6, nl_7, nl_8, nl_9, nl_10, nl_11, nl_12, nl_13, nl_14, nl_15, nl_16, nl_17, nl_18, nl_19, nl_20, nl_21, nl_22, nl_23, nl_24, nl_25, nl_26, nl_27, nl_28, nl_31, nl_32, nl_42, nl_44, nl_46, nl_48, nl_49, nl_50, nl_51, nl_60, nl_75, nl_76, nl_99, nl_100, nl_108, nl_114, nl_117, nl_126, nl_255, nl_999, nl_2401, nl_9999, nl_12345, nl_65536, nl_1000000, nl_1103515245, nl_2147483647, iI_0, iI_neg, iI_add, iI_sub, iI_mul, iI_div, iI_mod, iI_lt, iI_le, iI_eq, iI_nat, iI_vp, ld_rd, ld_wl, lu_s, lu_t, lu_c, lu_j, forall_eq, Int.toNat_natCast, true_and, and_true, not_true, not_false_iff, Classical.not_not, forall_const, iI_inj]
            refine ⟨fun z2 => ?_, fun z2 => ?_⟩
            · rw [if_neg z2]
              (first | exact mj_eq.rf | exact fi_n mj_eq.rf | exact fi_i rfl mj_eq.rf | exact rfl)
            · rw [if_pos z2]
              (first | exact mj_eq.rf | exact fi_n mj_eq.rf | exact fi_i rfl mj_eq.rf | exact rfl)
          · simp (disch := omega) only [nl_0, nl_1, nl_2, nl_3, nl_4, nl_5, nl_6, nl_7, nl_8, nl_9, nl_10, nl_11, nl_12, nl_13, nl_14, nl_15, nl_16, nl_17, nl_18, nl_19, nl_20, nl_21, nl_22, nl_23, nl_24, nl_25, nl_26, nl_27, nl_28, nl_31, nl_32, nl_42, nl_44, nl_46, nl_48, nl_49, nl_50, nl_51, nl_60, nl_75, nl_76, nl_99, nl_100, nl_108, nl_114, nl_117, nl_126, nl_255, nl_999, nl_2401, nl_9999, nl_12345, nl_65536, nl_1000000, nl_1103515245, nl_2147483647, iI_0, iI_neg, iI_add, iI_sub, iI_mul, iI_div, iI_mod, iI_lt, iI_le, iI_eq, iI_nat, iI_vp, ld_rd, ld_wl, lu_s, lu_t, lu_c, lu_j, forall_eq, Int.toNat_natCast, true_and, and_true, not_true, not_false_iff, Classical.not_not, forall_const, iI_inj] at z
            omega
        · obtain ⟨k, hk, ek⟩ : ∃ k : Nat, k < 49 ∧ j = 48 - k := ⟨48 - j, by omega, by omega⟩
          have e1 : 48 - (j : Int) = (k : Int) := by omega
          have e2 : 49 - j = k + 1 := by omega
          have e3 : 49 - (j + 1) = k := by omega
          have e4 : 48 - ((j + 1 : Nat) : Int) = (k : Int) + -1 := by omega
          have e5 : fD A W1 W2 (j + 1) = if Kp A W1 W2 k then kc k else fD A W1 W2 j := by
            show (if Kp A W1 W2 (48 - j) then kc (48 - j) else fD A W1 W2 j) = _
            rw [show 48 - j = k by omega]
          rw [e3, e4, e5] at ih
          rw [e1, e2]
          have hNk := hN k hk
          have hk7 : k / 7 < 7 ∧ k % 7 < 7 := by omega
          -- is it kept
          have inner : ∀ o, o ≤ 7 → ∀ bb : Int, ((bb = 1 ∧ 0 ≤ tF A a W1 k ∧ ∀ o', o' < o → (tF A a W1 (7 * o' + k % 7) ≤ tF A a W1 k ∧ tF A b W2 (7 * (k / 7) + o') ≤ tF A b W2 k)) ∨ (bb = 0 ∧ ¬ (0 ≤ tF A a W1 k ∧ ∀ o', o' < o → (tF A a W1 (7 * o' + k % 7) ≤ tF A a W1 k ∧ tF A b W2 (7 * (k / 7) + o') ≤ tF A b W2 k)))) → P 204 [some (mj_r (30, 60, 0)), some (mj_i (iI (a : Int))), some (mj_i (iI (b : Int))), some (mj_i (iI (q : Int))), some (mj_i (iI w)), some (mj_i (iI ((cK A W1 W2 49 : Int) - (cK A W1 W2 (k + 1) : Int)))), some (mj_i (iI (fD A W1 W2 j))), some (mj_i (iI (k : Int))), some (mj_i (iI bb)), some (mj_i (iI (o : Int)))] [] (mj_ld N 14 A) := by
            refine lp_dn (Q := fun o => ∀ bb : Int, ((bb = 1 ∧ 0 ≤ tF A a W1 k ∧ ∀ o', o' < o → (tF A a W1 (7 * o' + k % 7) ≤ tF A a W1 k ∧ tF A b W2 (7 * (k / 7) + o') ≤ tF A b W2 k)) ∨ (bb = 0 ∧ ¬ (0 ≤ tF A a W1 k ∧ ∀ o', o' < o → (tF A a W1 (7 * o' + k % 7) ≤ tF A a W1 k ∧ tF A b W2 (7 * (k / 7) + o') ≤ tF A b W2 k)))) → P 204 [some (mj_r (30, 60, 0)), some (mj_i (iI (a : Int))), some (mj_i (iI (b : Int))), some (mj_i (iI (q : Int))), some (mj_i (iI w)), some (mj_i (iI ((cK A W1 W2 49 : Int) - (cK A W1 W2 (k + 1) : Int)))), some (mj_i (iI (fD A W1 W2 j))), some (mj_i (iI (k : Int))), some (mj_i (iI bb)), some (mj_i (iI (o : Int)))] [] (mj_ld N 14 A)) (n := 7) (fun bb hbb => ?_) (fun o ho ih2 bb hbb => ?_)
            · -- all seen
              have hkp : (0 ≤ tF A a W1 k ∧ ∀ o', o' < 7 → (tF A a W1 (7 * o' + k % 7) ≤ tF A a W1 k ∧ tF A b W2 (7 * (k / 7) + o') ≤ tF A b W2 k)) ↔ Kp A W1 W2 k := by
                have dm : ∀ o', o' < 7 → (7 * o' + k % 7) / 7 = o' ∧ (7 * o' + k % 7) % 7 = k % 7 ∧ (7 * (k / 7) + o') / 7 = k / 7 ∧ (7 * (k / 7) + o') % 7 = o' := fun o' h => by omega
                constructor
                · intro ⟨p1, p2⟩
                  have hch : ch A (k / 7) ∧ ch A (k % 7) := Classical.byContradiction fun h => by
                    unfold tF at p1
                    rw [if_neg h] at p1
                    omega
                  refine ⟨hch.1, hch.2, fun o' ho' => ?_⟩
                  by_cases hco : ch A o'
                  · right
                    have d := dm o' ho'
                    have := p2 o' ho'
                    unfold tF at this
                    rw [d.1, d.2.1, d.2.2.1, d.2.2.2, if_pos ⟨hco, hch.2⟩, if_pos hch, if_pos ⟨hch.1, hco⟩, if_pos hch] at this
                    omega
                  · exact Or.inl hco
                · intro ⟨p1, p2, p3⟩
                  have hb0 := hbd2 (k / 7) (k % 7)
                  refine ⟨by unfold tF; rw [if_pos ⟨p1, p2⟩]; omega, fun o' ho' => ?_⟩
                  have d := dm o' ho'
                  have f0 : tF A a W1 k = A 8 0 a + W1 (k / 7) (k % 7) := if_pos ⟨p1, p2⟩
                  have f0' : tF A b W2 k = A 8 0 b + W2 (k / 7) (k % 7) := if_pos ⟨p1, p2⟩
                  have f1 : tF A a W1 (7 * o' + k % 7) = if ch A o' ∧ ch A (k % 7) then A 8 0 a + W1 o' (k % 7) else -1 := by
                    unfold tF
                    rw [d.1, d.2.1]
                  have f2 : tF A b W2 (7 * (k / 7) + o') = if ch A (k / 7) ∧ ch A o' then A 8 0 b + W2 (k / 7) o' else -1 := by
                    unfold tF
                    rw [d.2.2.1, d.2.2.2]
                  rw [f0, f0', f1, f2]
                  by_cases hco : ch A o'
                  · rw [if_pos ⟨hco, p2⟩, if_pos ⟨p1, hco⟩]
                    rcases p3 o' ho' with h | h
                    · exact absurd hco h
                    · omega
                  · rw [if_neg (fun z => hco z.1), if_neg (fun z => hco z.2)]
                    omega
              rcases hbb with ⟨rfl, hy⟩ | ⟨rfl, hn⟩
              · have hK := hkp.mp hy
                rw [if_pos hK, show (cK A W1 W2 49 : Int) - (cK A W1 W2 k : Int) = (cK A W1 W2 49 : Int) - (cK A W1 W2 (k + 1) : Int) + 1 by rw [cK_y hK]; omega] at ih
                refine rg_m_tug_204 hP ⟨fun z => ?_, fun z => ?_⟩
                · simp (disch := omega) only [nl_0, nl_1, nl_2, nl_3, nl_4, nl_5, nl_6, nl_7, nl_8, nl_9, nl_10, nl_11, nl_12, nl_13, nl_14, nl_15, nl_16, nl_17, nl_18, nl_19, nl_20, nl_21, nl_22, nl_23, nl_24, nl_25, nl_26, nl_27, nl_28, nl_31, nl_32, nl_42, nl_44, nl_46, nl_48, nl_49, nl_50, nl_51, nl_60, nl_75, nl_76, nl_99, nl_100, nl_108, nl_114, nl_117, nl_126, nl_255, nl_999, nl_2401, nl_9999, nl_12345, nl_65536, nl_1000000, nl_1103515245, nl_2147483647, iI_0, iI_neg, iI_add, iI_sub, iI_mul, iI_div, iI_mod, iI_lt, iI_le, iI_eq, iI_nat, iI_vp, ld_rd, ld_wl, lu_s, lu_t, lu_c, lu_j, forall_eq, Int.toNat_natCast, true_and, and_true, not_true, not_false_iff, Classical.not_not, forall_const, iI_inj]
                  refine ⟨fun z => absurd z (by decide), fun _ => ⟨fun z => absurd z (by decide), fun _ => ⟨by decide, by decide, ?_⟩⟩⟩
                  exact ih _ _
                · simp (disch := omega) only [nl_0, nl_1, nl_2, nl_3, nl_4, nl_5, nl_6, nl_7, nl_8, nl_9, nl_10, nl_11, nl_12, nl_13, nl_14, nl_15, nl_16, nl_17, nl_18, nl_19, nl_20, nl_21, nl_22, nl_23, nl_24, nl_25, nl_26, nl_27, nl_28, nl_31, nl_32, nl_42, nl_44, nl_46, nl_48, nl_49, nl_50, nl_51, nl_60, nl_75, nl_76, nl_99, nl_100, nl_108, nl_114, nl_117, nl_126, nl_255, nl_999, nl_2401, nl_9999, nl_12345, nl_65536, nl_1000000, nl_1103515245, nl_2147483647, iI_0, iI_neg, iI_add, iI_sub, iI_mul, iI_div, iI_mod, iI_lt, iI_le, iI_eq, iI_nat, iI_vp, ld_rd, ld_wl, lu_s, lu_t, lu_c, lu_j, forall_eq, Int.toNat_natCast, true_and, and_true, not_true, not_false_iff, Classical.not_not, forall_const, iI_inj] at z
                  omega
              · have hK : ¬ Kp A W1 W2 k := fun h => hn (hkp.mpr h)
                rw [if_neg hK, show (cK A W1 W2 49 : Int) - (cK A W1 W2 k : Int) = (cK A W1 W2 49 : Int) - (cK A W1 W2 (k + 1) : Int) + 0 by rw [(cK_n hK).1]; omega] at ih
                refine rg_m_tug_204 hP ⟨fun z => ?_, fun z => ?_⟩
                · simp (disch := omega) only [nl_0, nl_1, nl_2, nl_3, nl_4, nl_5, nl_6, nl_7, nl_8, nl_9, nl_10, nl_11, nl_12, nl_13, nl_14, nl_15, nl_16, nl_17, nl_18, nl_19, nl_20, nl_21, nl_22, nl_23, nl_24, nl_25, nl_26, nl_27, nl_28, nl_31, nl_32, nl_42, nl_44, nl_46, nl_48, nl_49, nl_50, nl_51, nl_60, nl_75, nl_76, nl_99, nl_100, nl_108, nl_114, nl_117, nl_126, nl_255, nl_999, nl_2401, nl_9999, nl_12345, nl_65536, nl_1000000, nl_1103515245, nl_2147483647, iI_0, iI_neg, iI_add, iI_sub, iI_mul, iI_div, iI_mod, iI_lt, iI_le, iI_eq, iI_nat, iI_vp, ld_rd, ld_wl, lu_s, lu_t, lu_c, lu_j, forall_eq, Int.toNat_natCast, true_and, and_true, not_true, not_false_iff, Classical.not_not, forall_const, iI_inj]
                  exact ⟨⟨ih _ _, fun z => z.elim⟩, fun z => z.elim⟩
                · simp (disch := omega) only [nl_0, nl_1, nl_2, nl_3, nl_4, nl_5, nl_6, nl_7, nl_8, nl_9, nl_10, nl_11, nl_12, nl_13, nl_14, nl_15, nl_16, nl_17, nl_18, nl_19, nl_20, nl_21, nl_22, nl_23, nl_24, nl_25, nl_26, nl_27, nl_28, nl_31, nl_32, nl_42, nl_44, nl_46, nl_48, nl_49, nl_50, nl_51, nl_60, nl_75, nl_76, nl_99, nl_100, nl_108, nl_114, nl_117, nl_126, nl_255, nl_999, nl_2401, nl_9999, nl_12345, nl_65536, nl_1000000, nl_1103515245, nl_2147483647, iI_0, iI_neg, iI_add, iI_sub, iI_mul, iI_div, iI_mod, iI_lt, iI_le, iI_eq, iI_nat, iI_vp, ld_rd, ld_wl, lu_s, lu_t, lu_c, lu_j, forall_eq, Int.toNat_natCast, true_and, and_true, not_true, not_false_iff, Classical.not_not, forall_const, iI_inj] at z
                  omega
            · have a1 := hN (7 * o + k % 7) (by omega)
              have a2 := hN (7 * (k / 7) + o) (by omega)
              have b1 := hF1 k
              have b2 := hF1 (7 * o + k % 7)
              have b3 := hF2 k
              have b4 := hF2 (7 * (k / 7) + o)
              have t1 : (7 * (o : Int) + (k : Int) % 7).toNat = 7 * o + k % 7 := by omega
              have t2 : (7 * ((k : Int) / 7) + (o : Int)).toNat = 7 * (k / 7) + o := by omega
              refine rg_m_tug_204 hP ⟨fun z => ?_, fun z => ?_⟩
              · simp (disch := omega) only [nl_0, nl_1, nl_2, nl_3, nl_4, nl_5, nl_6, nl_7, nl_8, nl_9, nl_10, nl_11, nl_12, nl_13, nl_14, nl_15, nl_16, nl_17, nl_18, nl_19, nl_20, nl_21, nl_22, nl_23, nl_24, nl_25, nl_26, nl_27, nl_28, nl_31, nl_32, nl_42, nl_44, nl_46, nl_48, nl_49, nl_50, nl_51, nl_60, nl_75, nl_76, nl_99, nl_100, nl_108, nl_114, nl_117, nl_126, nl_255, nl_999, nl_2401, nl_9999, nl_12345, nl_65536, nl_1000000, nl_1103515245, nl_2147483647, iI_0, iI_neg, iI_add, iI_sub, iI_mul, iI_div, iI_mod, iI_lt, iI_le, iI_eq, iI_nat, iI_vp, ld_rd, ld_wl, lu_s, lu_t, lu_c, lu_j, forall_eq, Int.toNat_natCast, true_and, and_true, not_true, not_false_iff, Classical.not_not, forall_const, iI_inj] at z
                omega
              · rcases hbb with ⟨rfl, hy⟩ | ⟨rfl, hn⟩
                · simp (disch := omega) only [nl_0, nl_1, nl_2, nl_3, nl_4, nl_5, nl_6, nl_7, nl_8, nl_9, nl_10, nl_11, nl_12, nl_13, nl_14, nl_15, nl_16, nl_17, nl_18, nl_19, nl_20, nl_21, nl_22, nl_23, nl_24, nl_25, nl_26, nl_27, nl_28, nl_31, nl_32, nl_42, nl_44, nl_46, nl_48, nl_49, nl_50, nl_51, nl_60, nl_75, nl_76, nl_99, nl_100, nl_108, nl_114, nl_117, nl_126, nl_255, nl_999, nl_2401, nl_9999, nl_12345, nl_65536, nl_1000000, nl_1103515245, nl_2147483647, iI_0, iI_neg, iI_add, iI_sub, iI_mul, iI_div, iI_mod, iI_lt, iI_le, iI_eq, iI_nat, iI_vp, ld_rd, ld_wl, lu_s, lu_t, lu_c, lu_j, forall_eq, Int.toNat_natCast, true_and, and_true, not_true, not_false_iff, Classical.not_not, forall_const, iI_inj, t1, t2, ld_p, hNk.1, hNk.2, a1.1, a2.2]
                  refine ⟨fun z => absurd z (by decide), fun _ => ⟨by decide, fun z2 => ?_, fun z2 => ⟨by decide, fun z3 => ?_, fun z3 => ?_⟩⟩⟩
                  · exact ih2 0 (Or.inr ⟨rfl, fun h => by have := (h.2 o (by omega)).1; omega⟩)
                  · exact ih2 0 (Or.inr ⟨rfl, fun h => by have := (h.2 o (by omega)).2; omega⟩)
                  · refine ih2 1 (Or.inl ⟨rfl, hy.1, fun o' ho' => ?_⟩)
                    by_cases e : o' = o
                    · subst e
                      exact ⟨by omega, by omega⟩
                    · exact hy.2 o' (by omega)
                · simp (disch := omega) only [nl_0, nl_1, nl_2, nl_3, nl_4, nl_5, nl_6, nl_7, nl_8, nl_9, nl_10, nl_11, nl_12, nl_13, nl_14, nl_15, nl_16, nl_17, nl_18, nl_19, nl_20, nl_21, nl_22, nl_23, nl_24, nl_25, nl_26, nl_27, nl_28, nl_31, nl_32, nl_42, nl_44, nl_46, nl_48, nl_49, nl_50, nl_51, nl_60, nl_75, nl_76, nl_99, nl_100, nl_108, nl_114, nl_117, nl_126, nl_255, nl_999, nl_2401, nl_9999, nl_12345, nl_65536, nl_1000000, nl_1103515245, nl_2147483647, iI_0, iI_neg, iI_add, iI_sub, iI_mul, iI_div, iI_mod, iI_lt, iI_le, iI_eq, iI_nat, iI_vp, ld_rd, ld_wl, lu_s, lu_t, lu_c, lu_j, forall_eq, Int.toNat_natCast, true_and, and_true, not_true, not_false_iff, Classical.not_not, forall_const, iI_inj]
                  refine ⟨?_, fun z => z.elim⟩
                  exact ih2 0 (Or.inr ⟨rfl, fun h => hn ⟨h.1, fun o' ho' => h.2 o' (by omega)⟩⟩)
          have b1 := hF1 k
          refine rg_m_tug_179 hP ⟨fun z => ?_, fun z => ?_⟩
          · simp (disch := omega) only [nl_0, nl_1, nl_2, nl_3, nl_4, nl_5, nl_6, nl_7, nl_8, nl_9, nl_10, nl_11, nl_12, nl_13, nl_14, nl_15, nl_16, nl_17, nl_18, nl_19, nl_20, nl_21, nl_22, nl_23, nl_24, nl_25, nl_26, nl_27, nl_28, nl_31, nl_32, nl_42, nl_44, nl_46, nl_48, nl_49, nl_50, nl_51, nl_60, nl_75, nl_76, nl_99, nl_100, nl_108, nl_114, nl_117, nl_126, nl_255, nl_999, nl_2401, nl_9999, nl_12345, nl_65536, nl_1000000, nl_1103515245, nl_2147483647, iI_0, iI_neg, iI_add, iI_sub, iI_mul, iI_div, iI_mod, iI_lt, iI_le, iI_eq, iI_nat, iI_vp, ld_rd, ld_wl, lu_s, lu_t, lu_c, lu_j, forall_eq, Int.toNat_natCast, true_and, and_true, not_true, not_false_iff, Classical.not_not, forall_const, iI_inj] at z
            omega
          · simp (disch := omega) only [nl_0, nl_1, nl_2, nl_3, nl_4, nl_5, nl_6, nl_7, nl_8, nl_9, nl_10, nl_11, nl_12, nl_13, nl_14, nl_15, nl_16, nl_17, nl_18, nl_19, nl_20, nl_21, nl_22, nl_23, nl_24, nl_25, nl_26, nl_27, nl_28, nl_31, nl_32, nl_42, nl_44, nl_46, nl_48, nl_49, nl_50, nl_51, nl_60, nl_75, nl_76, nl_99, nl_100, nl_108, nl_114, nl_117, nl_126, nl_255, nl_999, nl_2401, nl_9999, nl_12345, nl_65536, nl_1000000, nl_1103515245, nl_2147483647, iI_0, iI_neg, iI_add, iI_sub, iI_mul, iI_div, iI_mod, iI_lt, iI_le, iI_eq, iI_nat, iI_vp, ld_rd, ld_wl, lu_s, lu_t, lu_c, lu_j, forall_eq, Int.toNat_natCast, true_and, and_true, not_true, not_false_iff, Classical.not_not, forall_const, iI_inj, ld_p, hNk.1]
            refine ⟨fun z => ?_, fun z => ?_⟩
            · exact inner 0 (Nat.zero_le _) 0 (Or.inr ⟨rfl, fun h => by omega⟩)
            · exact inner 0 (Nat.zero_le _) 1 (Or.inl ⟨rfl, by omega, fun o' h => absurd h (Nat.not_lt_zero o')⟩)
      have := key 0 (Nat.zero_le _) o8 o9
      have e0 : (cK A W1 W2 49 : Int) - (cK A W1 W2 (49 - 0) : Int) = 0 := Int.sub_self _
      rw [e0] at this
      exact this
    -- the trials
    have key : ∀ k, k ≤ 49 → ∀ N, fr [15, 33] M N → (∀ k', k' < k → N 33 67 0 k' = iI (tF A a W1 k') ∧ N 33 68 0 k' = iI (tF A b W2 k')) → ∃ M', fr [15, 33] M M' ∧ Rn mj_c133 6 49 [some (mj_r (30, 60, 0)), some (mj_i (iI (a : Int))), some (mj_i (iI (b : Int))), some (mj_i (iI (q : Int))), some (mj_i (iI w)), some (mj_i (iI (k : Int))), none, none, none, none] (mj_ld N 14 A) (some (mj_i (iI (if w = 0 then (cK A W1 W2 49 : Int) else fK A W1 W2 49)))) (mj_ld M' 14 A) := by
      refine lp_dn (Q := fun k => ∀ N, fr [15, 33] M N → (∀ k', k' < k → N 33 67 0 k' = iI (tF A a W1 k') ∧ N 33 68 0 k' = iI (tF A b W2 k')) → ∃ M', fr [15, 33] M M' ∧ Rn mj_c133 6 49 [some (mj_r (30, 60, 0)), some (mj_i (iI (a : Int))), some (mj_i (iI (b : Int))), some (mj_i (iI (q : Int))), some (mj_i (iI w)), some (mj_i (iI (k : Int))), none, none, none, none] (mj_ld N 14 A) (some (mj_i (iI (if w = 0 then (cK A W1 W2 49 : Int) else fK A W1 W2 49)))) (mj_ld M' 14 A)) (n := 49) (fun N hf hN => ?_) (fun k hk ih N hf hN => ?_)
      · refine ⟨N, hf, fun e he P hP hQ => rg_m_tug_49 hP ⟨fun z => ?_, fun z => ?_⟩⟩
        · exact count N hN none none e he P hP hQ
        · simp (disch := omega) only [nl_0, nl_1, nl_2, nl_3, nl_4, nl_5, nl_6, nl_7, nl_8, nl_9, nl_10, nl_11, nl_12, nl_13, nl_14, nl_15, nl_16, nl_17, nl_18, nl_19, nl_20, nl_21, nl_22, nl_23, nl_24, nl_25, nl_26, nl_27, nl_28, nl_31, nl_32, nl_42, nl_44, nl_46, nl_48, nl_49, nl_50, nl_51, nl_60, nl_75, nl_76, nl_99, nl_100, nl_108, nl_114, nl_117, nl_126, nl_255, nl_999, nl_2401, nl_9999, nl_12345, nl_65536, nl_1000000, nl_1103515245, nl_2147483647, iI_0, iI_neg, iI_add, iI_sub, iI_mul, iI_div, iI_mod, iI_lt, iI_le, iI_eq, iI_nat, iI_vp, ld_rd, ld_wl, lu_s, lu_t, lu_c, lu_j, forall_eq, Int.toNat_natCast, true_and, and_true, not_true, not_false_iff, Classical.not_not, forall_const, iI_inj] at z
          omega
      · have hk7 : k / 7 < 7 ∧ k % 7 < 7 := by omega
        have t1 : (k : Int) / 7 = ((k / 7 : Nat) : Int) := by omega
        have t2 : (k : Int) % 7 = ((k % 7 : Nat) : Int) := by omega
        have dn : ∀ N2 : mj_M, fr [15, 33] M N2 → (∀ k', k' < k → N2 33 67 0 k' = iI (tF A a W1 k') ∧ N2 33 68 0 k' = iI (tF A b W2 k')) → N2 33 67 0 k = iI (tF A a W1 k) → N2 33 68 0 k = iI (tF A b W2 k) → ∃ M', fr [15, 33] M M' ∧ Rn mj_c133 6 49 [some (mj_r (30, 60, 0)), some (mj_i (iI (a : Int))), some (mj_i (iI (b : Int))), some (mj_i (iI (q : Int))), some (mj_i (iI w)), some (mj_i (iI ((k : Int) + 1))), none, none, none, none] (mj_ld N2 14 A) (some (mj_i (iI (if w = 0 then (cK A W1 W2 49 : Int) else fK A W1 W2 49)))) (mj_ld M' 14 A) := fun N2 hf2 h1 h2 h3 => ih N2 hf2 fun k' hk' => by
          by_cases e : k' = k
          · subst e; exact ⟨h2, h3⟩
          · exact h1 k' (by omega)
        by_cases hch : ch A (k / 7) ∧ ch A (k % 7)
        · have ef1 : tF A a W1 k = A 8 0 a + W1 (k / 7) (k % 7) := if_pos hch
          have ef2 : tF A b W2 k = A 8 0 b + W2 (k / 7) (k % 7) := if_pos hch
          have hwa := hwet (k / 7) (k % 7) a (Or.inl rfl)
          have hwb := hwet (k / 7) (k % 7) b (Or.inr rfl)
          rw [w1e, ← ef1] at hwa
          rw [w2e, ← ef2] at hwb
          -- the memory while it is tried
          have hf1 : fr [15, 33] M (mj_wl (mj_wl N (33, 67, 0, k) (iI (-1))) (33, 68, 0, k) (iI (-1))) := (hf.wl (by decide)).wl (by decide)
          have hr1 : ∀ k', k' < k → mj_wl (mj_wl N (33, 67, 0, k) (iI (-1))) (33, 68, 0, k) (iI (-1)) 33 67 0 k' = iI (tF A a W1 k') ∧ mj_wl (mj_wl N (33, 67, 0, k) (iI (-1))) (33, 68, 0, k) (iI (-1)) 33 68 0 k' = iI (tF A b W2 k') := fun k' hk' => by
            rw [wl_n (by omega), wl_n (by omega), wl_n (by omega), wl_n (by omega)]
            exact hN k' hk'
          generalize hN1 : mj_wl (mj_wl N (33, 67, 0, k) (iI (-1))) (33, 68, 0, k) (iI (-1)) = N1 at hf1 hr1
          have hWN : WD N1 34 n S F := by
            unfold WD
            rw [hf1 34 (by decide)]
            exact hW
          obtain ⟨M', hfM, hR⟩ := dn (mj_ld (mj_wl (mj_wl N1 (33, 67, 0, k) (iI (tF A a W1 k))) (33, 68, 0, k) (iI (tF A b W2 k))) 15 (kk A (lT N1 15) 76)) (fun i hi => by
              rw [ld_p (fun e => hi (by rw [e]; decide))]
              exact ((hf1.wl (by decide)).wl (by decide)) i hi) (fun k' hk' => by
              rw [ld_p (by decide), wl_n (by omega), wl_n (by omega), wl_n (by omega), wl_n (by omega)]
              exact hr1 k' hk') (by rw [ld_p (by decide), wl_n (by omega), wl_s]) (by rw [ld_p (by decide), wl_s])
          refine ⟨M', hfM, fun e he P hP hQ => rg_m_tug_49 hP ⟨fun z => ?_, fun z => ?_⟩⟩
          · simp (disch := omega) only [nl_0, nl_1, nl_2, nl_3, nl_4, nl_5, nl_6, nl_7, nl_8, nl_9, nl_10, nl_11, nl_12, nl_13, nl_14, nl_15, nl_16, nl_17, nl_18, nl_19, nl_20, nl_21, nl_22, nl_23, nl_24, nl_25, nl_26, nl_27, nl_28, nl_31, nl_32, nl_42, nl_44, nl_46, nl_48, nl_49, nl_50, nl_51, nl_60, nl_75, nl_76, nl_99, nl_100, nl_108, nl_114, nl_117, nl_126, nl_255, nl_999, nl_2401, nl_9999, nl_12345, nl_65536, nl_1000000, nl_1103515245, nl_2147483647, iI_0, iI_neg, iI_add, iI_sub, iI_mul, iI_div, iI_mod, iI_lt, iI_le, iI_eq, iI_nat, iI_vp, ld_rd, ld_wl, lu_s, lu_t, lu_c, lu_j, forall_eq, Int.toNat_natCast, true_and, and_true, not_true, not_false_iff, Classical.not_not, forall_const, iI_inj] at z
            omega
          · simp (disch := omega) only [nl_0, nl_1, nl_2, nl_3, nl_4, nl_5, nl_6, nl_7, nl_8, nl_9, nl_10, nl_11, nl_12, nl_13, nl_14, nl_15, nl_16, nl_17, nl_18, nl_19, nl_20, nl_21, nl_22, nl_23, nl_24, nl_25, nl_26, nl_27, nl_28, nl_31, nl_32, nl_42, nl_44, nl_46, nl_48, nl_49, nl_50, nl_51, nl_60, nl_75, nl_76, nl_99, nl_100, nl_108, nl_114, nl_117, nl_126, nl_255, nl_999, nl_2401, nl_9999, nl_12345, nl_65536, nl_1000000, nl_1103515245, nl_2147483647, iI_0, iI_neg, iI_add, iI_sub, iI_mul, iI_div, iI_mod, iI_lt, iI_le, iI_eq, iI_nat, iI_vp, ld_rd, ld_wl, lu_s, lu_t, lu_c, lu_j, forall_eq, Int.toNat_natCast, true_and, and_true, not_true, not_false_iff, Classical.not_not, forall_const, iI_inj, wl_ld, t1, t2]
            rw [hN1]
            refine ⟨by decide, _, _, sp_misChoice (by omega) hA.li hk7.1, ?_⟩
            rw [if_pos hch.1]
            refine ⟨fun z => absurd z (by decide), fun _ => ⟨by decide, _, _, sp_misChoice (by omega) hA.li hk7.2, ?_⟩⟩
            rw [if_pos hch.2]
            refine ⟨fun z => absurd z (by decide), fun _ => ?_⟩
            have e0 : mj_ld N1 14 A = mj_ld (mj_ld N1 15 (lT N1 15)) 14 A := by rw [ld_self]
            rw [e0]
            refine ⟨_, sp_mkeeps (by omega), by decide, _, sp_mlays (by omega) ha4 hk7.1, by decide, _, sp_mlays (by omega) hb4 hk7.2, _, _, sp_in (hland _ _ _) (sp_mgoes (by omega) (rl_LI hA) hWN.ld ?_ (by omega)), ?_⟩
            · rw [rl_lo (by decide)]
              omega
            · simp (disch := omega) only [nl_0, nl_1, nl_2, nl_3, nl_4, nl_5, nl_6, nl_7, nl_8, nl_9, nl_10, nl_11, nl_12, nl_13, nl_14, nl_15, nl_16, nl_17, nl_18, nl_19, nl_20, nl_21, nl_22, nl_23, nl_24, nl_25, nl_26, nl_27, nl_28, nl_31, nl_32, nl_42, nl_44, nl_46, nl_48, nl_49, nl_50, nl_51, nl_60, nl_75, nl_76, nl_99, nl_100, nl_108, nl_114, nl_117, nl_126, nl_255, nl_999, nl_2401, nl_9999, nl_12345, nl_65536, nl_1000000, nl_1103515245, nl_2147483647, iI_0, iI_neg, iI_add, iI_sub, iI_mul, iI_div, iI_mod, iI_lt, iI_le, iI_eq, iI_nat, iI_vp, ld_rd, ld_wl, lu_s, lu_t, lu_c, lu_j, forall_eq, Int.toNat_natCast, true_and, and_true, not_true, not_false_iff, Classical.not_not, forall_const, iI_inj, nd, nlW, hwa, hwb, wl_ld]
              refine ⟨_, sp_mback (by omega), ?_⟩
              exact hQ _ _ _ _ _ (LD_back (A := A) fun t i j h => (gs_lo (by omega) q).trans (rl_lo (by omega))) (hR e he P hP hQ)
        · have ef1 : tF A a W1 k = -1 := if_neg hch
          have ef2 : tF A b W2 k = -1 := if_neg hch
          obtain ⟨M', hfM, hR⟩ := dn (mj_wl (mj_wl N (33, 67, 0, k) (iI (-1))) (33, 68, 0, k) (iI (-1))) ((hf.wl (by decide)).wl (by decide)) (fun k' hk' => by
              rw [wl_n (by omega), wl_n (by omega), wl_n (by omega), wl_n (by omega)]
              exact hN k' hk') (by rw [wl_n (by omega), wl_s, ef1]) (by rw [wl_s, ef2])
          refine ⟨M', hfM, fun e he P hP hQ => rg_m_tug_49 hP ⟨fun z => ?_, fun z => ?_⟩⟩
          · simp (disch := omega) only [nl_0, nl_1, nl_2, nl_3, nl_4, nl_5, nl_6, nl_7, nl_8, nl_9, nl_10, nl_11, nl_12, nl_13, nl_14, nl_15, nl_16, nl_17, nl_18, nl_19, nl_20, nl_21, nl_22, nl_23, nl_24, nl_25, nl_26, nl_27, nl_28, nl_31, nl_32, nl_42, nl_44, nl_46, nl_48, nl_49, nl_50, nl_51, nl_60, nl_75, nl_76, nl_99, nl_100, nl_108, nl_114, nl_117, nl_126, nl_255, nl_999, nl_2401, nl_9999, nl_12345, nl_65536, nl_1000000, nl_1103515245, nl_2147483647, iI_0, iI_neg, iI_add, iI_sub, iI_mul, iI_div, iI_mod, iI_lt, iI_le, iI_eq, iI_nat, iI_vp, ld_rd, ld_wl, lu_s, lu_t, lu_c, lu_j, forall_eq, Int.toNat_natCast, true_and, and_true, not_true, not_false_iff, Classical.not_not, forall_const, iI_inj] at z
            omega
          · simp (disch := omega) only [nl_0, nl_1, nl_2, nl_3, nl_4, nl_5, nl_6, nl_7, nl_8, nl_9, nl_10, nl_11, nl_12, nl_13, nl_14, nl_15, nl_16, nl_17, nl_18, nl_19, nl_20, nl_21, nl_22, nl_23, nl_24, nl_25, nl_26, nl_27, nl_28, nl_31, nl_32, nl_42, nl_44, nl_46, nl_48, nl_49, nl_50, nl_51, nl_60, nl_75, nl_76, nl_99, nl_100, nl_108, nl_114, nl_117, nl_126, nl_255, nl_999, nl_2401, nl_9999, nl_12345, nl_65536, nl_1000000, nl_1103515245, nl_2147483647, iI_0, iI_neg, iI_add, iI_sub, iI_mul, iI_div, iI_mod, iI_lt, iI_le, iI_eq, iI_nat, iI_vp, ld_rd, ld_wl, lu_s, lu_t, lu_c, lu_j, forall_eq, Int.toNat_natCast, true_and, and_true, not_true, not_false_iff, Classical.not_not, forall_const, iI_inj, wl_ld, t1, t2]
            refine ⟨by decide, _, _, sp_misChoice (by omega) hA.li hk7.1, ?_⟩
            by_cases h1 : ch A (k / 7)
            · have h2 : ¬ ch A (k % 7) := fun h => hch ⟨h1, h⟩
              rw [if_pos h1]
              refine ⟨fun z => absurd z (by decide), fun _ => ⟨by decide, _, _, sp_misChoice (by omega) hA.li hk7.2, ?_⟩⟩
              rw [if_neg h2]
              exact ⟨fun _ => hR e he P hP hQ, fun z => absurd rfl z⟩
            · rw [if_neg h1]
              exact ⟨fun _ => hR e he P hP hQ, fun z => absurd rfl z⟩
    obtain ⟨M', hfM, hR⟩ := key 0 (Nat.zero_le _) M fr.r0 (fun k' h => absurd h (Nat.not_lt_zero k'))
    refine ⟨M', fun d hd => en_m_tug (k := 6) hd fun e he P hP hQ => rg_m_tug_0 hP ?_, hfM⟩
    simp (disch := omega) only [nl_0, nl_1, nl_2, nl_3, nl_4, nl_5, nl_6, nl_7, nl_8, nl_9, nl_10, nl_11, nl_12, nl_13, nl_14, nl_15, nl_16, nl_17, nl_18, nl_19, nl_20, nl_21, nl_22, nl_23, nl_24, nl_25, nl_26, nl_27, nl_28, nl_31, nl_32, nl_42, nl_44, nl_46, nl_48, nl_49, nl_50, nl_51, nl_60, nl_75, nl_76, nl_99, nl_100, nl_108, nl_114, nl_117, nl_126, nl_255, nl_999, nl_2401, nl_9999, nl_12345, nl_65536, nl_1000000, nl_1103515245, nl_2147483647, iI_0, iI_neg, iI_add, iI_sub, iI_mul, iI_div, iI_mod, iI_lt, iI_le, iI_eq, iI_nat, iI_vp, ld_rd, ld_wl, lu_s, lu_t, lu_c, lu_j, forall_eq, Int.toNat_natCast, true_and, and_true, not_true, not_false_iff, Classical.not_not, forall_const, iI_inj, lI_iI, ll_0, ll_1, ll_12]
    exact bo2 (sp_mVillage (by omega) ha hA.li) (fun c1 => bo2 (sp_mVillage (by omega) hb hA.li) (fun c2 => ⟨fun c3 => by omega, fun c3 => bo2 (sp_mI (by omega) (by omega) (by omega) (by omega)) (fun c4 => bo1 (sp_mI (by omega) (by omega) (by omega) (by omega)) (fun c5 => hR e he P hP hQ) (fun c5 => by omega)) (fun c4 => by omega)⟩) (fun c2 => by omega)) (fun c1 => by omega)
