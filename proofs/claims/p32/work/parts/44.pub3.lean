/-! contracts: holds, join, split, salt, fallen, count, seed -/
theorem td_le {A B : lA} (hA : LI A) {v : Nat} (hv : v < 4) (h : ∀ c, c < 6 → B 4 c v = A 4 c v ∨ B 4 c v = 0) : td B v ≤ td A v := by
  have : ∀ n, n ≤ 6 → sm (fun c => B 4 c v) n ≤ sm (fun c => A 4 c v) n := fun n => by
    induction n with
    | zero => exact fun _ => Int.le_refl _
    | succ n ih =>
      intro hn
      show sm (fun c => B 4 c v) n + B 4 n v ≤ sm (fun c => A 4 c v) n + A 4 n v
      have h1 := ih (by omega)
      have h2 := hA.st (c := n) (by omega) hv
      rcases h n (by omega) with e | e <;> omega
  exact this 6 (Nat.le_refl _)
theorem k_hold {A : lA} (hA : LJ A) {v c x : Int} : LJ (s_hold A v c x).2 := by
  have h1 := hA.li.nv
  have h2 := hA.li.nc
  unfold s_hold
  split
  · exact hA
  · split
    · exact hA
    · split
      · exact hA
      · show LJ (lu A 4 c.toNat v.toNat x)
        have hL : LI (lu A 4 c.toNat v.toNat x) := by
          have e0 : ∀ t i j, t ≠ 4 → lu A 4 c.toNat v.toNat x t i j = A t i j := fun t i j h => lu_t h
          refine ⟨hA.li.1, hA.li.2.1, hA.li.2.2.1, hA.li.2.2.2.1, fun c hc => hA.li.kd hc, fun c hc => hA.li.fd hc, fun c hc => hA.li.wa hc, fun c' v' hc hv => ?_, fun c' v' hc hv hn => ?_, fun v hv => hA.li.hm hv, fun u v hu hv e => hA.li.ap hu hv e⟩
          · unfold lu
            split
            · omega
            · exact hA.li.st hc hv
          · have hn2 : nV A ≤ v' := hn
            unfold lu
            rw [if_neg (by omega)]
            exact hA.li.s0 hc hv hn2
        refine ⟨hL, fun v' hv' => ?_, fun v hv hn => hA.z6 hv hn, fun v hv => hA.th hv, fun v hv => hA.we hv, hA.ho, hA.dr, fun c' v' hc hv hn => ?_⟩
        · show td _ v' ≤ A 6 0 v' ∧ A 6 0 v' ≤ 9
          by_cases g : v' = v.toNat
          · subst g
            have := sm_up (g := fun k => A 4 k v.toNat) (h := fun k => lu A 4 c.toNat v.toNat x 4 k v.toNat) (c := c.toNat) 6 (by omega) (fun k hk hkc => lu_c hkc)
            have e1 : lu A 4 c.toNat v.toNat x 4 c.toNat v.toNat = x := lu_s
            have e2 : td (lu A 4 c.toNat v.toNat x) v.toNat = td A v.toNat - A 4 c.toNat v.toNat + x := by
              rw [e1] at this
              exact this
            have := hA.sg hv'
            omega
          · rw [td_eq (A := A) (fun c hc => lu_j g)]
            exact hA.sg hv'
        · have hn2 : nC A ≤ c' := hn
          rw [lu_c (by omega)]
          exact hA.z4 hc hv hn2
def s_holds (A : lA) (v c : Int) : Int × lA := if ¬ (0 ≤ v ∧ v < A 0 0 1) ∨ ¬ (0 ≤ c ∧ c < A 0 0 0) then (-1, A) else (A 4 c.toNat v.toNat, A)
theorem c_holds {d : Nat} (hd : 3 ≤ d) {A : lA} {M : mj_M} {v c : Int} (hv : iR v) (hc : iR c) (hA : LI A) : mj_Sp d 6 [mj_r (13, 50, 0), mj_i (iI v), mj_i (iI c)] (mj_ld M 0 A) (some (mj_i (iI (s_holds A v c).1))) (mj_ld M 0 (s_holds A v c).2) := by
  unfold iR at hv hc
  have h1 := hA.nv
  have h2 := hA.nc
  refine en_C_holds (k := 2) hd fun e he P hP hQ => rg_C_holds_0 hP ?_
  simp (disch := omega) only [nl_0, nl_1, nl_2, nl_3, nl_4, nl_5, nl_6, nl_7, nl_8, nl_9, nl_10, nl_11, nl_12, nl_13, nl_14, nl_15, nl_16, nl_17, nl_18, nl_19, nl_20, nl_21, nl_22, nl_23, nl_24, nl_25, nl_26, nl_27, nl_28, nl_31, nl_32, nl_42, nl_44, nl_46, nl_48, nl_49, nl_50, nl_51, nl_60, nl_75, nl_76, nl_99, nl_100, nl_108, nl_114, nl_117, nl_126, nl_255, nl_999, nl_2401, nl_9999, nl_12345, nl_65536, nl_1000000, nl_1103515245, nl_2147483647, iI_0, iI_neg, iI_add, iI_sub, iI_mul, iI_div, iI_mod, iI_lt, iI_le, iI_eq, iI_nat, iI_vp, ld_rd, ld_wl, lu_s, lu_t, lu_c, lu_j, forall_eq, Int.toNat_natCast, true_and, and_true, not_true, not_false_iff, Classical.not_not, forall_const, iI_inj]
  refine bo2 (sp_isVillage (by omega) hv hA) (fun c1 => bo1 (sp_isCloud (by omega) hc hA) (fun c2 => ?_) (fun c2 => ?_)) (fun c1 => ?_)
  · simp (disch := omega) only [nl_0, nl_1, nl_2, nl_3, nl_4, nl_5, nl_6, nl_7, nl_8, nl_9, nl_10, nl_11, nl_12, nl_13, nl_14, nl_15, nl_16, nl_17, nl_18, nl_19, nl_20, nl_21, nl_22, nl_23, nl_24, nl_25, nl_26, nl_27, nl_28, nl_31, nl_32, nl_42, nl_44, nl_46, nl_48, nl_49, nl_50, nl_51, nl_60, nl_75, nl_76, nl_99, nl_100, nl_108, nl_114, nl_117, nl_126, nl_255, nl_999, nl_2401, nl_9999, nl_12345, nl_65536, nl_1000000, nl_1103515245, nl_2147483647, iI_0, iI_neg, iI_add, iI_sub, iI_mul, iI_div, iI_mod, iI_lt, iI_le, iI_eq, iI_nat, iI_vp, ld_rd, ld_wl, lu_s, lu_t, lu_c, lu_j, forall_eq, Int.toNat_natCast, true_and, and_true, not_true, not_false_iff, Classical.not_not, forall_const, iI_inj]
    (unfold s_holds; (repeat' split) <;> first | (first | exact mj_eq.rf | exact fi_n mj_eq.rf | exact fi_i rfl mj_eq.rf | exact rfl) | (exfalso; omega))
  · (unfold s_holds; (repeat' split) <;> first | (first | exact mj_eq.rf | exact fi_n mj_eq.rf | exact fi_i rfl mj_eq.rf | exact rfl) | (exfalso; omega))
  · (unfold s_holds; (repeat' split) <;> first | (first | exact mj_eq.rf | exact fi_n mj_eq.rf | exact fi_i rfl mj_eq.rf | exact rfl) | (exfalso; omega))
def jm (A : lA) (a b : Nat) : Int := if 999 < A 3 0 a + A 3 0 b then 999 else A 3 0 a + A 3 0 b
def jn (A : lA) (a b : Nat) : lA := lg (lu (lu (lu (lu A 3 0 a (jm A a b)) 9 0 (A 2 0 a).toNat (A 9 0 (A 2 0 a).toNat + (A 3 0 a + A 3 0 b - jm A a b))) 3 0 b 0) 2 0 b 25) b 4
theorem sp_joinClouds {d i a b : Nat} (hd : 2 ≤ d) {A : lA} {M : mj_M} (hA : LI A) (ha : a < 6) (hb : b < 6) (hab : a ≠ b) (h25 : A 2 0 a ≠ 25) : mj_Sp d 38 [mj_r (i, 0, 0), mj_i (iI (a : Int)), mj_i (iI (b : Int))] (mj_ld M i A) none (mj_ld M i (jn A a b)) := by
  have hwa := hA.wa ha
  have hwb := hA.wa hb
  have hfa := hA.fd ha
  refine en_La_joinClouds (k := 1) hd fun e he P hP hQ => rg_La_joinClouds_0 hP ?_
  simp (disch := omega) only [nl_0, nl_1, nl_2, nl_3, nl_4, nl_5, nl_6, nl_7, nl_8, nl_9, nl_10, nl_11, nl_12, nl_13, nl_14, nl_15, nl_16, nl_17, nl_18, nl_19, nl_20, nl_21, nl_22, nl_23, nl_24, nl_25, nl_26, nl_27, nl_28, nl_31, nl_32, nl_42, nl_44, nl_46, nl_48, nl_49, nl_50, nl_51, nl_60, nl_75, nl_76, nl_99, nl_100, nl_108, nl_114, nl_117, nl_126, nl_255, nl_999, nl_2401, nl_9999, nl_12345, nl_65536, nl_1000000, nl_1103515245, nl_2147483647, iI_0, iI_neg, iI_add, iI_sub, iI_mul, iI_div, iI_mod, iI_lt, iI_le, iI_eq, iI_nat, iI_vp, ld_rd, ld_wl, lu_s, lu_t, lu_c, lu_j, forall_eq, Int.toNat_natCast, true_and, and_true, not_true, not_false_iff, Classical.not_not, forall_const, iI_inj, iI_if]
  refine ⟨by omega, _, sp_fill4 (by omega), ?_⟩
  (first | exact mj_eq.rf | exact fi_n mj_eq.rf | exact fi_i rfl mj_eq.rf | exact rfl)
def s_join (A : lA) (a b : Int) : Int × lA := if ¬ (0 ≤ a ∧ a < A 0 0 0) ∨ ¬ (0 ≤ b ∧ b < A 0 0 0) ∨ a = b then (-1, A) else if A 2 0 a.toNat = 25 ∨ A 2 0 a.toNat ≠ A 2 0 b.toNat then (-2, A) else (jm A a.toNat b.toNat, jn A a.toNat b.toNat)
theorem jn_wa {A : lA} {a b : Nat} (hab : a ≠ b) : jn A a b 3 0 a = jm A a b := by
  unfold jn
  rw [lg_t (by decide), lu_t (by decide), lu_j hab, lu_t (by decide), lu_s]
theorem c_join {d : Nat} (hd : 3 ≤ d) {A : lA} {M : mj_M} {a b : Int} (ha : iR a) (hb : iR b) (hA : LI A) : mj_Sp d 7 [mj_r (13, 50, 0), mj_i (iI a), mj_i (iI b)] (mj_ld M 0 A) (some (mj_i (iI (s_join A a b).1))) (mj_ld M 0 (s_join A a b).2) := by
  unfold iR at ha hb
  have h2 := hA.nc
  refine en_C_join (k := 2) hd fun e he P hP hQ => rg_C_join_0 hP ?_
  simp (disch := omega) only [nl_0, nl_1, nl_2, nl_3, nl_4, nl_5, nl_6, nl_7, nl_8, nl_9, nl_10, nl_11, nl_12, nl_13, nl_14, nl_15, nl_16, nl_17, nl_18, nl_19, nl_20, nl_21, nl_22, nl_23, nl_24, nl_25, nl_26, nl_27, nl_28, nl_31, nl_32, nl_42, nl_44, nl_46, nl_48, nl_49, nl_50, nl_51, nl_60, nl_75, nl_76, nl_99, nl_100, nl_108, nl_114, nl_117, nl_126, nl_255, nl_999, nl_2401, nl_9999, nl_12345, nl_65536, nl_1000000, nl_1103515245, nl_2147483647, iI_0, iI_neg, iI_add, iI_sub, iI_mul, iI_div, iI_mod, iI_lt, iI_le, iI_eq, iI_nat, iI_vp, ld_rd, ld_wl, lu_s, lu_t, lu_c, lu_j, forall_eq, Int.toNat_natCast, true_and, and_true, not_true, not_false_iff, Classical.not_not, forall_const, iI_inj]
  refine bo2 (sp_isCloud (by omega) ha hA) (fun c1 => bo2 (sp_isCloud (by omega) hb hA) (fun c2 => ⟨fun c3 => bo2 (sp_isOver (by omega) ha hA) (fun c4 => ?_) (fun c4 => ?_), fun c3 => ?_⟩) (fun c2 => ?_)) (fun c1 => ?_)
  · have hfa := hA.fd (c := a.toNat) (by omega)
    have hfb := hA.fd (c := b.toNat) (by omega)
    simp (disch := omega) only [nl_0, nl_1, nl_2, nl_3, nl_4, nl_5, nl_6, nl_7, nl_8, nl_9, nl_10, nl_11, nl_12, nl_13, nl_14, nl_15, nl_16, nl_17, nl_18, nl_19, nl_20, nl_21, nl_22, nl_23, nl_24, nl_25, nl_26, nl_27, nl_28, nl_31, nl_32, nl_42, nl_44, nl_46, nl_48, nl_49, nl_50, nl_51, nl_60, nl_75, nl_76, nl_99, nl_100, nl_108, nl_114, nl_117, nl_126, nl_255, nl_999, nl_2401, nl_9999, nl_12345, nl_65536, nl_1000000, nl_1103515245, nl_2147483647, iI_0, iI_neg, iI_add, iI_sub, iI_mul, iI_div, iI_mod, iI_lt, iI_le, iI_eq, iI_nat, iI_vp, ld_rd, ld_wl, lu_s, lu_t, lu_c, lu_j, forall_eq, Int.toNat_natCast, true_and, and_true, not_true, not_false_iff, Classical.not_not, forall_const, iI_inj]
    refine ⟨fun c5 => ?_, fun c5 => ?_⟩
    · refine (fun k => by rw [nat_of c1.1, nat_of c2.1]; exact k) ?_
      refine ⟨_, sp_joinClouds (by omega) hA (by omega) (by omega) (by omega) c4.2, ?_⟩
      rw [← nat_of c1.1, ← nat_of c2.1]
      simp (disch := omega) only [nl_0, nl_1, nl_2, nl_3, nl_4, nl_5, nl_6, nl_7, nl_8, nl_9, nl_10, nl_11, nl_12, nl_13, nl_14, nl_15, nl_16, nl_17, nl_18, nl_19, nl_20, nl_21, nl_22, nl_23, nl_24, nl_25, nl_26, nl_27, nl_28, nl_31, nl_32, nl_42, nl_44, nl_46, nl_48, nl_49, nl_50, nl_51, nl_60, nl_75, nl_76, nl_99, nl_100, nl_108, nl_114, nl_117, nl_126, nl_255, nl_999, nl_2401, nl_9999, nl_12345, nl_65536, nl_1000000, nl_1103515245, nl_2147483647, iI_0, iI_neg, iI_add, iI_sub, iI_mul, iI_div, iI_mod, iI_lt, iI_le, iI_eq, iI_nat, iI_vp, ld_rd, ld_wl, lu_s, lu_t, lu_c, lu_j, forall_eq, Int.toNat_natCast, true_and, and_true, not_true, not_false_iff, Classical.not_not, forall_const, iI_inj, jn_wa]
      (unfold s_join; (repeat' split) <;> first | (first | exact mj_eq.rf | exact fi_n mj_eq.rf | exact fi_i rfl mj_eq.rf | exact rfl) | (exfalso; omega))
    · (unfold s_join; (repeat' split) <;> first | (first | exact mj_eq.rf | exact fi_n mj_eq.rf | exact fi_i rfl mj_eq.rf | exact rfl) | (exfalso; omega))
  · (unfold s_join; (repeat' split) <;> first | (first | exact mj_eq.rf | exact fi_n mj_eq.rf | exact fi_i rfl mj_eq.rf | exact rfl) | (exfalso; omega))
  · (unfold s_join; (repeat' split) <;> first | (first | exact mj_eq.rf | exact fi_n mj_eq.rf | exact fi_i rfl mj_eq.rf | exact rfl) | (exfalso; omega))
  · (unfold s_join; (repeat' split) <;> first | (first | exact mj_eq.rf | exact fi_n mj_eq.rf | exact fi_i rfl mj_eq.rf | exact rfl) | (exfalso; omega))
  · (unfold s_join; (repeat' split) <;> first | (first | exact mj_eq.rf | exact fi_n mj_eq.rf | exact fi_i rfl mj_eq.rf | exact rfl) | (exfalso; omega))
theorem jn_lo {A : lA} {a b t i j : Nat} (h : t ≠ 2 ∧ t ≠ 3 ∧ t ≠ 4 ∧ t ≠ 9) : jn A a b t i j = A t i j := by
  unfold jn
  rw [lg_t (by omega), lu_t (by omega), lu_t (by omega), lu_t (by omega), lu_t (by omega)]
theorem jn_4 {A : lA} {a b c v : Nat} : jn A a b 4 c v = A 4 c v ∨ jn A a b 4 c v = 0 := by
  unfold jn lg
  split
  · exact Or.inr rfl
  · exact Or.inl (by rw [lu_t (by decide), lu_t (by decide), lu_t (by decide), lu_t (by decide)])
theorem jn_LJ {A : lA} (hA : LJ A) {a b : Nat} (ha : a < 6) (hb : b < 6) : LJ (jn A a b) := by
  have hwa := hA.li.wa ha
  have hwb := hA.li.wa hb
  have hm : 0 ≤ jm A a b ∧ jm A a b ≤ 999 := by
    unfold jm
    split <;> omega
  have hL : LI (jn A a b) := by
    refine hA.li.up (fun t i j h => jn_lo (by omega)) (fun c hc => ?_) (fun c hc => ?_) (fun c v hc hv => jn_4)
    · unfold jn
      rw [lg_t (by decide)]
      by_cases g : c = b
      · subst g; rw [lu_s]; omega
      · rw [lu_j g, lu_t (by decide), lu_t (by decide), lu_t (by decide)]; exact hA.li.fd hc
    · unfold jn
      rw [lg_t (by decide), lu_t (by decide)]
      by_cases g : c = b
      · subst g; rw [lu_s]; omega
      · rw [lu_j g, lu_t (by decide)]
        by_cases g2 : c = a
        · subst g2; rw [lu_s]; exact hm
        · rw [lu_j g2]; exact hA.li.wa hc
  have e0 : ∀ j, jn A a b 0 0 j = A 0 0 j := fun j => jn_lo (by omega)
  refine hA.up hL (by unfold nV; rw [e0]) (by unfold nC; rw [e0]; exact Nat.le_refl _) (fun v hv => jn_lo (by omega)) (fun v hv => by rw [jn_lo (by omega), e0]; exact hA.we hv) (by rw [e0]; exact hA.ho) (by rw [e0]; exact hA.dr) (fun c v hc hv => jn_4) (fun v hv => ?_) (fun v hv hn => jn_lo (by omega))
  have := td_le (B := jn A a b) hA.li hv (fun c hc => jn_4)
  have := hA.sg hv
  rw [jn_lo (by omega)]
  omega
theorem k_join {A : lA} (hA : LJ A) {a b : Int} : LJ (s_join A a b).2 := by
  have h2 := hA.li.nc
  unfold s_join
  split
  · exact hA
  · split
    · exact hA
    · exact jn_LJ hA (by omega) (by omega)
def s_split (A : lA) (c w : Int) : Int × lA := if ¬ (0 ≤ c ∧ c < A 0 0 0) ∨ w < 1 ∨ 999 < w then (-1, A) else if A 2 0 c.toNat = 25 ∨ A 3 0 c.toNat ≤ w then (-2, A) else if 6 ≤ A 0 0 0 then (-3, A) else (A 0 0 0, ac (lu A 3 0 c.toNat (A 3 0 c.toNat - w)) (A 1 0 c.toNat) (A 2 0 c.toNat) w)
theorem c_split {d : Nat} (hd : 3 ≤ d) {A : lA} {M : mj_M} {c w : Int} (hc : iR c) (hw : iR w) (hA : LI A) : mj_Sp d 8 [mj_r (13, 50, 0), mj_i (iI c), mj_i (iI w)] (mj_ld M 0 A) (some (mj_i (iI (s_split A c w).1))) (mj_ld M 0 (s_split A c w).2) := by
  unfold iR at hc hw
  have h2 := hA.nc
  refine en_C_split (k := 2) hd fun e he P hP hQ => rg_C_split_0 hP ?_
  simp (disch := omega) only [nl_0, nl_1, nl_2, nl_3, nl_4, nl_5, nl_6, nl_7, nl_8, nl_9, nl_10, nl_11, nl_12, nl_13, nl_14, nl_15, nl_16, nl_17, nl_18, nl_19, nl_20, nl_21, nl_22, nl_23, nl_24, nl_25, nl_26, nl_27, nl_28, nl_31, nl_32, nl_42, nl_44, nl_46, nl_48, nl_49, nl_50, nl_51, nl_60, nl_75, nl_76, nl_99, nl_100, nl_108, nl_114, nl_117, nl_126, nl_255, nl_999, nl_2401, nl_9999, nl_12345, nl_65536, nl_1000000, nl_1103515245, nl_2147483647, iI_0, iI_neg, iI_add, iI_sub, iI_mul, iI_div, iI_mod, iI_lt, iI_le, iI_eq, iI_nat, iI_vp, ld_rd, ld_wl, lu_s, lu_t, lu_c, lu_j, forall_eq, Int.toNat_natCast, true_and, and_true, not_true, not_false_iff, Classical.not_not, forall_const, iI_inj]
  refine bo2 (sp_isCloud (by omega) hc hA) (fun c1 => bo2 (sp_oI (by omega) (by omega) (by omega) (by omega)) (fun c2 => ?_) (fun c2 => bo2 (sp_isOver (by omega) hc hA) (fun c3 => ?_) (fun c3 => ?_))) (fun c1 => ?_)
  · (unfold s_split; (repeat' split) <;> first | (first | exact mj_eq.rf | exact fi_n mj_eq.rf | exact fi_i rfl mj_eq.rf | exact rfl) | (exfalso; omega))
  · have hwa := hA.wa (c := c.toNat) (by omega)
    simp (disch := omega) only [nl_0, nl_1, nl_2, nl_3, nl_4, nl_5, nl_6, nl_7, nl_8, nl_9, nl_10, nl_11, nl_12, nl_13, nl_14, nl_15, nl_16, nl_17, nl_18, nl_19, nl_20, nl_21, nl_22, nl_23, nl_24, nl_25, nl_26, nl_27, nl_28, nl_31, nl_32, nl_42, nl_44, nl_46, nl_48, nl_49, nl_50, nl_51, nl_60, nl_75, nl_76, nl_99, nl_100, nl_108, nl_114, nl_117, nl_126, nl_255, nl_999, nl_2401, nl_9999, nl_12345, nl_65536, nl_1000000, nl_1103515245, nl_2147483647, iI_0, iI_neg, iI_add, iI_sub, iI_mul, iI_div, iI_mod, iI_lt, iI_le, iI_eq, iI_nat, iI_vp, ld_rd, ld_wl, lu_s, lu_t, lu_c, lu_j, forall_eq, Int.toNat_natCast, true_and, and_true, not_true, not_false_iff, Classical.not_not, forall_const, iI_inj]
    refine ⟨fun c4 => ⟨fun c5 => ?_, fun c5 => ?_⟩, fun c4 => ?_⟩
    · have e : s_split A c w = (A 0 0 0, ac (lu A 3 0 c.toNat (A 3 0 c.toNat - w)) (A 1 0 c.toNat) (A 2 0 c.toNat) w) := by
        unfold s_split
        rw [if_neg (by omega), if_neg (by omega), if_neg (by omega)]
      rw [e]
      refine ⟨_, _, sp_addCloud (by omega) (hA.l3 (by omega)) ?_, ?_⟩
      · show nC A < 6
        omega
      · (first | exact mj_eq.rf | exact fi_n mj_eq.rf | exact fi_i rfl mj_eq.rf | exact rfl)
    · (unfold s_split; (repeat' split) <;> first | (first | exact mj_eq.rf | exact fi_n mj_eq.rf | exact fi_i rfl mj_eq.rf | exact rfl) | (exfalso; omega))
    · (unfold s_split; (repeat' split) <;> first | (first | exact mj_eq.rf | exact fi_n mj_eq.rf | exact fi_i rfl mj_eq.rf | exact rfl) | (exfalso; omega))
  · (unfold s_split; (repeat' split) <;> first | (first | exact mj_eq.rf | exact fi_n mj_eq.rf | exact fi_i rfl mj_eq.rf | exact rfl) | (exfalso; omega))
  · (unfold s_split; (repeat' split) <;> first | (first | exact mj_eq.rf | exact fi_n mj_eq.rf | exact fi_i rfl mj_eq.rf | exact rfl) | (exfalso; omega))
theorem k_split {A : lA} (hA : LJ A) {c w : Int} : LJ (s_split A c w).2 := by
  have h2 := hA.li.nc
  unfold s_split
  split
  · exact hA
  · split
    · exact hA
    · split
      · exact hA
      · have hf := hA.li.fd (c := c.toNat) (by omega)
        have hk := hA.li.kd (c := c.toNat) (by omega)
        have hw := hA.li.wa (c := c.toNat) (by omega)
        refine ac_LJ ?_ (show nC A < 6 by omega) hk (by omega) (by omega)
        refine hA.up (hA.li.l3 (by omega)) rfl (Nat.le_refl _) (fun v hv => lu_t (by decide)) (fun v hv => hA.we hv) hA.ho hA.dr (fun c v hc hv => Or.inl (lu_t (by decide))) (fun v hv => ?_) (fun v hv hn => lu_t (by decide))
        exact hA.sg hv
theorem LI.l1 {A : lA} (h : LI A) {c : Nat} {v : Int} (hv : 0 ≤ v ∧ v ≤ 3) : LI (lu A 1 0 c v) := by
  refine ⟨h.1, h.2.1, h.2.2.1, h.2.2.2.1, fun c' hc => ?_, fun c hc => h.fd hc, fun c hc => h.wa hc, fun c v hc hv => h.st hc hv, fun c v hc hv hn => h.s0 hc hv hn, fun v hv => h.hm hv, fun u v hu hv e => h.ap hu hv e⟩
  by_cases e : c' = c
  · subst e; rw [lu_s]; exact hv
  · rw [lu_j e]; exact h.kd hc
def s_salt (A : lA) (c : Int) : Int × lA := if ¬ (0 ≤ c ∧ c < A 0 0 0) then (-1, A) else if A 2 0 c.toNat = 25 then (-2, A) else (A 1 0 c.toNat, lu A 1 0 c.toNat 3)
theorem c_salt {d : Nat} (hd : 3 ≤ d) {A : lA} {M : mj_M} {c : Int} (hc : iR c) (hA : LI A) : mj_Sp d 9 [mj_r (13, 50, 0), mj_i (iI c)] (mj_ld M 0 A) (some (mj_i (iI (s_salt A c).1))) (mj_ld M 0 (s_salt A c).2) := by
  unfold iR at hc
  have h2 := hA.nc
  refine en_C_salt (k := 2) hd fun e he P hP hQ => rg_C_salt_0 hP ?_
  simp (disch := omega) only [nl_0, nl_1, nl_2, nl_3, nl_4, nl_5, nl_6, nl_7, nl_8, nl_9, nl_10, nl_11, nl_12, nl_13, nl_14, nl_15, nl_16, nl_17, nl_18, nl_19, nl_20, nl_21, nl_22, nl_23, nl_24, nl_25, nl_26, nl_27, nl_28, nl_31, nl_32, nl_42, nl_44, nl_46, nl_48, nl_49, nl_50, nl_51, nl_60, nl_75, nl_76, nl_99, nl_100, nl_108, nl_114, nl_117, nl_126, nl_255, nl_999, nl_2401, nl_9999, nl_12345, nl_65536, nl_1000000, nl_1103515245, nl_2147483647, iI_0, iI_neg, iI_add, iI_sub, iI_mul, iI_div, iI_mod, iI_lt, iI_le, iI_eq, iI_nat, iI_vp, ld_rd, ld_wl, lu_s, lu_t, lu_c, lu_j, forall_eq, Int.toNat_natCast, true_and, and_true, not_true, not_false_iff, Classical.not_not, forall_const, iI_inj]
  refine bo1 (sp_isCloud (by omega) hc hA) (fun c1 => bo1 (sp_isOver (by omega) hc hA) (fun c3 => ?_) (fun c3 => ?_)) (fun c1 => ?_)
  · simp (disch := omega) only [nl_0, nl_1, nl_2, nl_3, nl_4, nl_5, nl_6, nl_7, nl_8, nl_9, nl_10, nl_11, nl_12, nl_13, nl_14, nl_15, nl_16, nl_17, nl_18, nl_19, nl_20, nl_21, nl_22, nl_23, nl_24, nl_25, nl_26, nl_27, nl_28, nl_31, nl_32, nl_42, nl_44, nl_46, nl_48, nl_49, nl_50, nl_51, nl_60, nl_75, nl_76, nl_99, nl_100, nl_108, nl_114, nl_117, nl_126, nl_255, nl_999, nl_2401, nl_9999, nl_12345, nl_65536, nl_1000000, nl_1103515245, nl_2147483647, iI_0, iI_neg, iI_add, iI_sub, iI_mul, iI_div, iI_mod, iI_lt, iI_le, iI_eq, iI_nat, iI_vp, ld_rd, ld_wl, lu_s, lu_t, lu_c, lu_j, forall_eq, Int.toNat_natCast, true_and, and_true, not_true, not_false_iff, Classical.not_not, forall_const, iI_inj]
    (unfold s_salt; (repeat' split) <;> first | (first | exact mj_eq.rf | exact fi_n mj_eq.rf | exact fi_i rfl mj_eq.rf | exact rfl) | (exfalso; omega))
  · (unfold s_salt; (repeat' split) <;> first | (first | exact mj_eq.rf | exact fi_n mj_eq.rf | exact fi_i rfl mj_eq.rf | exact rfl) | (exfalso; omega))
  · (unfold s_salt; (repeat' split) <;> first | (first | exact mj_eq.rf | exact fi_n mj_eq.rf | exact fi_i rfl mj_eq.rf | exact rfl) | (exfalso; omega))
theorem k_salt {A : lA} (hA : LJ A) {c : Int} : LJ (s_salt A c).2 := by
  unfold s_salt
  split
  · exact hA
  · split
    · exact hA
    · show LJ (lu A 1 0 c.toNat 3)
      exact hA.up (hA.li.l1 (by decide)) rfl (Nat.le_refl _) (fun v hv => rfl) (fun v hv => hA.we hv) hA.ho hA.dr (fun c v hc hv => Or.inl rfl) (fun v hv => hA.sg hv) (fun v hv hn => rfl)
def s_fallen (A : lA) (f : Int) : Int × lA := if f < 0 ∨ 24 < f then (-1, A) else (A 9 0 f.toNat, A)
theorem c_fallen {d : Nat} (hd : 2 ≤ d) {A : lA} {M : mj_M} {f : Int} (hf : iR f) : mj_Sp d 12 [mj_r (13, 50, 0), mj_i (iI f)] (mj_ld M 0 A) (some (mj_i (iI (s_fallen A f).1))) (mj_ld M 0 (s_fallen A f).2) := by
  unfold iR at hf
  refine en_C_fallen (k := 1) hd fun e he P hP hQ => rg_C_fallen_0 hP ?_
  simp (disch := omega) only [nl_0, nl_1, nl_2, nl_3, nl_4, nl_5, nl_6, nl_7, nl_8, nl_9, nl_10, nl_11, nl_12, nl_13, nl_14, nl_15, nl_16, nl_17, nl_18, nl_19, nl_20, nl_21, nl_22, nl_23, nl_24, nl_25, nl_26, nl_27, nl_28, nl_31, nl_32, nl_42, nl_44, nl_46, nl_48, nl_49, nl_50, nl_51, nl_60, nl_75, nl_76, nl_99, nl_100, nl_108, nl_114, nl_117, nl_126, nl_255, nl_999, nl_2401, nl_9999, nl_12345, nl_65536, nl_1000000, nl_1103515245, nl_2147483647, iI_0, iI_neg, iI_add, iI_sub, iI_mul, iI_div, iI_mod, iI_lt, iI_le, iI_eq, iI_nat, iI_vp, ld_rd, ld_wl, lu_s, lu_t, lu_c, lu_j, forall_eq, Int.toNat_natCast, true_and, and_true, not_true, not_false_iff, Classical.not_not, forall_const, iI_inj]
  refine bo2 (sp_oI (by omega) (by omega) (by omega) (by omega)) (fun c1 => ?_) (fun c1 => ?_)
  · (unfold s_fallen; (repeat' split) <;> first | (first | exact mj_eq.rf | exact fi_n mj_eq.rf | exact fi_i rfl mj_eq.rf | exact rfl) | (exfalso; omega))
  · simp (disch := omega) only [nl_0, nl_1, nl_2, nl_3, nl_4, nl_5, nl_6, nl_7, nl_8, nl_9, nl_10, nl_11, nl_12, nl_13, nl_14, nl_15, nl_16, nl_17, nl_18, nl_19, nl_20, nl_21, nl_22, nl_23, nl_24, nl_25, nl_26, nl_27, nl_28, nl_31, nl_32, nl_42, nl_44, nl_46, nl_48, nl_49, nl_50, nl_51, nl_60, nl_75, nl_76, nl_99, nl_100, nl_108, nl_114, nl_117, nl_126, nl_255, nl_999, nl_2401, nl_9999, nl_12345, nl_65536, nl_1000000, nl_1103515245, nl_2147483647, iI_0, iI_neg, iI_add, iI_sub, iI_mul, iI_div, iI_mod, iI_lt, iI_le, iI_eq, iI_nat, iI_vp, ld_rd, ld_wl, lu_s, lu_t, lu_c, lu_j, forall_eq, Int.toNat_natCast, true_and, and_true, not_true, not_false_iff, Classical.not_not, forall_const, iI_inj]
    (unfold s_fallen; (repeat' split) <;> first | (first | exact mj_eq.rf | exact fi_n mj_eq.rf | exact fi_i rfl mj_eq.rf | exact rfl) | (exfalso; omega))
def s_seed (A : lA) (v : Int) : Int × lA := if v < 0 then (-1, A) else (A 0 0 3, lu A 0 0 3 v)
theorem c_seed {d : Nat} (hd : 1 ≤ d) {A : lA} {M : mj_M} {v : Int} (hv : iR v) : mj_Sp d 16 [mj_r (13, 50, 0), mj_i (iI v)] (mj_ld M 0 A) (some (mj_i (iI (s_seed A v).1))) (mj_ld M 0 (s_seed A v).2) := by
  unfold iR at hv
  refine en_C_seed (k := 0) hd fun e he P hP hQ => rg_C_seed_0 hP ?_
  simp (disch := omega) only [nl_0, nl_1, nl_2, nl_3, nl_4, nl_5, nl_6, nl_7, nl_8, nl_9, nl_10, nl_11, nl_12, nl_13, nl_14, nl_15, nl_16, nl_17, nl_18, nl_19, nl_20, nl_21, nl_22, nl_23, nl_24, nl_25, nl_26, nl_27, nl_28, nl_31, nl_32, nl_42, nl_44, nl_46, nl_48, nl_49, nl_50, nl_51, nl_60, nl_75, nl_76, nl_99, nl_100, nl_108, nl_114, nl_117, nl_126, nl_255, nl_999, nl_2401, nl_9999, nl_12345, nl_65536, nl_1000000, nl_1103515245, nl_2147483647, iI_0, iI_neg, iI_add, iI_sub, iI_mul, iI_div, iI_mod, iI_lt, iI_le, iI_eq, iI_nat, iI_vp, ld_rd, ld_wl, lu_s, lu_t, lu_c, lu_j, forall_eq, Int.toNat_natCast, true_and, and_true, not_true, not_false_iff, Classical.not_not, forall_const, iI_inj]
  refine ⟨fun c => ?_, fun c => ?_⟩
  · (unfold s_seed; (repeat' split) <;> first | (first | exact mj_eq.rf | exact fi_n mj_eq.rf | exact fi_i rfl mj_eq.rf | exact rfl) | (exfalso; omega))
  · (unfold s_seed; (repeat' split) <;> first | (first | exact mj_eq.rf | exact fi_n mj_eq.rf | exact fi_i rfl mj_eq.rf | exact rfl) | (exfalso; omega))
theorem LJ.l3 {A : lA} (hA : LJ A) {v : Int} (hv : 0 ≤ v ∧ v ≤ 2147483647) : LJ (lu A 0 0 3 v) :=
  hA.up (hA.li.l0 (by decide)) rfl (Nat.le_refl _) (fun v hv => rfl) (fun v hv => hA.we hv) hA.ho hv (fun c v hc hv => Or.inl rfl) (fun v hv => hA.sg hv) (fun v hv hn => rfl)
theorem k_seed {A : lA} (hA : LJ A) {v : Int} (hv : iR v) : LJ (s_seed A v).2 := by
  unfold iR at hv
  unfold s_seed
  split
  · exact hA
  · exact hA.l3 (by omega)
