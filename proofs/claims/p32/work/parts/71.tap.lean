/-! the text of winds that the law types, and how it is read -/
def lt_ (s : Int) : Int := if s = 0 then 117 else if s = 1 then 108 else if s = 2 then 114 else 100
theorem lt_r (s : Int) : 100 ≤ lt_ s ∧ lt_ s ≤ 117 := by
  unfold lt_
  repeat' split
  all_goals omega
theorem sd_lt {s : Int} (h : 0 ≤ s ∧ s ≤ 3) : sd (lt_ s) = s := by
  have : s = 0 ∨ s = 1 ∨ s = 2 ∨ s = 3 := by omega
  rcases this with h | h | h | h <;> subst h <;> decide
/-- sign j of the text -/
def tx (L : Nat) (xs : Nat → Int32) (j : Nat) : Int := if j % 3 = 0 then lt_ (gw L xs (j / 3) % 4) else if j % 3 = 1 then 48 + gw L xs (j / 3) / 4 else 44
theorem tx_0 {L : Nat} {xs : Nat → Int32} (k : Nat) : tx L xs (3 * k) = lt_ (gw L xs k % 4) := by
  unfold tx
  rw [if_pos (by omega), show 3 * k / 3 = k by omega]
theorem tx_1 {L : Nat} {xs : Nat → Int32} (k : Nat) : tx L xs (3 * k + 1) = 48 + gw L xs k / 4 := by
  unfold tx
  rw [if_neg (by omega), if_pos (by omega), show (3 * k + 1) / 3 = k by omega]
theorem tx_2 {L : Nat} {xs : Nat → Int32} (k : Nat) : tx L xs (3 * k + 2) = 44 := by
  unfold tx
  rw [if_neg (by omega), if_neg (by omega)]
theorem tx_r {L : Nat} {xs : Nat → Int32} (j : Nat) : 44 ≤ tx L xs j ∧ tx L xs j ≤ 117 := by
  have h1 := lt_r (gw L xs (j / 3) % 4)
  have h2 := gw_r L xs (j / 3)
  unfold tx
  repeat' split
  all_goals omega
theorem byt_0 {z : Int} (h1 : 0 ≤ z) (h2 : z < 256) : byt (lI z) 0 = z := by
  obtain ⟨n, rfl⟩ := nat_iR h1
  have key : ∀ n : Fin 256, byt (lI (n.val : Int)) 0 = (n.val : Int) := by decide +kernel
  exact key ⟨n, by omega⟩
/-- one more sign is typed -/
theorem ty_one {d n : Nat} (hd : 3 ≤ d) {T : Nat → Int} {z : Int} {M : mj_M} (h : TC M n T) (hn : n < 48) (hz : z = T n) (hT : ∀ j, 32 ≤ T j ∧ T j ≤ 126) : ∃ M', mj_Sp d 10 [mj_r (13, 50, 0), mj_l (lI z), mj_i (iI 1)] M (some (mj_i (iI ((n : Int) + 1)))) M' ∧ fr [6] M M' ∧ TC M' (n + 1) T := by
  have hr := hT n
  have hb := byt_0 (z := z) (by omega) (by omega)
  have k1 : (1 : Int).toNat = 1 := rfl
  have hY : TY n T (lI z) 1 ((n : Int) + 1) (n + (1 : Int).toNat) (tyT n T (lI z) (1 : Int).toNat) := Or.inr ⟨⟨by omega, by omega, fun i hi => by
    have : i = 0 := by omega
    subst this
    rw [hb, hz]
    exact hr, by omega⟩, rfl, rfl, rfl⟩
  obtain ⟨M', s3, f3, t3⟩ := c_type hd (k := 1) (by unfold iR; omega) h ⟨by omega, fun j _ => hT j⟩ hY
  refine ⟨M', s3, f3, t3.1, fun j hj => ?_⟩
  rw [t3.2 j hj]
  unfold tyT
  by_cases g : j < n
  · rw [if_pos g]
  · rw [if_neg g]
    have : j = n := by omega
    subst this
    rw [Nat.sub_self, k1, show 1 - 1 - 0 = 0 from rfl, hb, hz]
theorem TC.cg {M : mj_M} {n : Nat} {T T' : Nat → Int} (h : TC M n T) (e : ∀ j, j < n → T j = T' j) : TC M n T' := ⟨h.1, fun j hj => by rw [← e j hj]; exact h.2 j hj⟩
theorem ups_at {S : Nat → Int} {m : Nat} {x : Int} (h : S m = x) : ups S m x = S := by
  funext j
  unfold ups
  split
  · next e => rw [e, h]
  · rfl
theorem fr.mo_ {ps qs : List Nat} {N N' : mj_M} (f : fr ps N N') (h : ∀ i ∈ ps, i ∈ qs) : fr qs N N' := fun i hi => f i (fun z => hi (h i z))
/-- a letter and a digit are read -/
theorem rd_one {n p m : Nat} {T S F : Nat → Int} {s f : Int} {M : mj_M} (hM : TC M n T) (hn : n ≤ 48) (hp : p + 1 < n) (hW : WD M 25 m S F) (hm : m < 12) (h1 : T p = lt_ s) (hs : 0 ≤ s ∧ s ≤ 3) (h2 : T (p + 1) = 48 + f) (hf : 0 ≤ f ∧ f ≤ 3) :
    ∃ M2, fr [25] M M2 ∧ WD M2 25 (m + 1) (ups S m s) (ups F m f) ∧ ∀ o5 x3 r M', (∀ o5 x3, Rn mj_c54 2 12 [some (mj_r (6, 45, 0)), some (mj_r (25, 10, 0)), some (mj_i (iI 2)), some (mj_i x3), some (mj_i (iI ((p + 2 : Nat) : Int))), o5] M2 r M') → Rn mj_c54 2 12 [some (mj_r (6, 45, 0)), some (mj_r (25, 10, 0)), some (mj_i (iI 0)), some (mj_i x3), some (mj_i (iI (p : Int))), o5] M r M' := by
  obtain ⟨M2, sp2, f2, w2⟩ := sp_wadd (s := s) (f := f) hW hm hs hf
  have hl := lt_r s
  have hsd := sd_lt hs
  have e1 : (p : Int) + 1 = ((p + 1 : Nat) : Int) := by omega
  have e2 : ((p + 1 : Nat) : Int) + 1 = ((p + 2 : Nat) : Int) := by omega
  refine ⟨M2, f2, w2, fun o5 x3 r M' hend e he P hP hQ => rg_Ta_readInto_12 hP ?_⟩
  have h4 := hM.2 p (by omega)
  have h42 := hM.2 (p + 1) (by omega)
  rw [h1] at h4
  rw [h2] at h42
  simp (disch := omega) only [nl_0, nl_1, nl_2, nl_3, nl_4, nl_5, nl_6, nl_7, nl_8, nl_9, nl_10, nl_11, nl_12, nl_13, nl_14, nl_15, nl_16, nl_17, nl_18, nl_19, nl_20, nl_21, nl_22, nl_23, nl_24, nl_25, nl_26, nl_27, nl_28, nl_31, nl_32, nl_42, nl_44, nl_46, nl_48, nl_49, nl_50, nl_51, nl_60, nl_75, nl_76, nl_99, nl_100, nl_108, nl_114, nl_117, nl_126, nl_255, nl_999, nl_2401, nl_9999, nl_12345, nl_65536, nl_1000000, nl_1103515245, nl_2147483647, nl_30, nl_55, nl_107, nl_200, nl_512, nl_15485957, iI_0, iI_neg, iI_add, iI_sub, iI_mul, iI_div, iI_mod, iI_lt, iI_le, iI_eq, iI_nat, iI_vp, ld_rd, ld_wl, lu_s, lu_t, lu_c, lu_j, forall_eq, Int.toNat_natCast, true_and, and_true, not_true, not_false_iff, Classical.not_not, forall_const, iI_inj, hM.1, h4, hW.1]
  refine ⟨fun z => by omega, fun _ => ⟨fun _ => ⟨_, _, sp_can0 (by omega) (by unfold iR; omega), ?_⟩, fun z => by omega⟩⟩
  rw [if_pos (by omega)]
  simp (disch := omega) only [nl_0, nl_1, nl_2, nl_3, nl_4, nl_5, nl_6, nl_7, nl_8, nl_9, nl_10, nl_11, nl_12, nl_13, nl_14, nl_15, nl_16, nl_17, nl_18, nl_19, nl_20, nl_21, nl_22, nl_23, nl_24, nl_25, nl_26, nl_27, nl_28, nl_31, nl_32, nl_42, nl_44, nl_46, nl_48, nl_49, nl_50, nl_51, nl_60, nl_75, nl_76, nl_99, nl_100, nl_108, nl_114, nl_117, nl_126, nl_255, nl_999, nl_2401, nl_9999, nl_12345, nl_65536, nl_1000000, nl_1103515245, nl_2147483647, nl_30, nl_55, nl_107, nl_200, nl_512, nl_15485957, iI_0, iI_neg, iI_add, iI_sub, iI_mul, iI_div, iI_mod, iI_lt, iI_le, iI_eq, iI_nat, iI_vp, ld_rd, ld_wl, lu_s, lu_t, lu_c, lu_j, forall_eq, Int.toNat_natCast, true_and, and_true, not_true, not_false_iff, Classical.not_not, forall_const, iI_inj, e1]
  refine ⟨fun _ => ⟨fun z => (by first | exact z.elim | exact absurd rfl z | exact absurd z (by decide) | (exfalso; omega)), _, _, sp_side (by omega) (by unfold iR; omega), ?_⟩, fun z => (by first | exact z.elim | exact absurd rfl z | exact absurd z (by decide) | (exfalso; omega))⟩
  rw [hsd]
  refine rg_Ta_readInto_12 hP ?_
  simp (disch := omega) only [nl_0, nl_1, nl_2, nl_3, nl_4, nl_5, nl_6, nl_7, nl_8, nl_9, nl_10, nl_11, nl_12, nl_13, nl_14, nl_15, nl_16, nl_17, nl_18, nl_19, nl_20, nl_21, nl_22, nl_23, nl_24, nl_25, nl_26, nl_27, nl_28, nl_31, nl_32, nl_42, nl_44, nl_46, nl_48, nl_49, nl_50, nl_51, nl_60, nl_75, nl_76, nl_99, nl_100, nl_108, nl_114, nl_117, nl_126, nl_255, nl_999, nl_2401, nl_9999, nl_12345, nl_65536, nl_1000000, nl_1103515245, nl_2147483647, nl_30, nl_55, nl_107, nl_200, nl_512, nl_15485957, iI_0, iI_neg, iI_add, iI_sub, iI_mul, iI_div, iI_mod, iI_lt, iI_le, iI_eq, iI_nat, iI_vp, ld_rd, ld_wl, lu_s, lu_t, lu_c, lu_j, forall_eq, Int.toNat_natCast, true_and, and_true, not_true, not_false_iff, Classical.not_not, forall_const, iI_inj, hM.1, h42, hW.1]
  refine ⟨fun z => by omega, fun _ => ⟨fun _ => ⟨_, _, sp_can1 (by omega) (by unfold iR; omega), ?_⟩, fun z => by omega⟩⟩
  rw [if_pos (by omega)]
  have e3 : 48 + f - 48 = f := by omega
  simp (disch := omega) only [nl_0, nl_1, nl_2, nl_3, nl_4, nl_5, nl_6, nl_7, nl_8, nl_9, nl_10, nl_11, nl_12, nl_13, nl_14, nl_15, nl_16, nl_17, nl_18, nl_19, nl_20, nl_21, nl_22, nl_23, nl_24, nl_25, nl_26, nl_27, nl_28, nl_31, nl_32, nl_42, nl_44, nl_46, nl_48, nl_49, nl_50, nl_51, nl_60, nl_75, nl_76, nl_99, nl_100, nl_108, nl_114, nl_117, nl_126, nl_255, nl_999, nl_2401, nl_9999, nl_12345, nl_65536, nl_1000000, nl_1103515245, nl_2147483647, nl_30, nl_55, nl_107, nl_200, nl_512, nl_15485957, iI_0, iI_neg, iI_add, iI_sub, iI_mul, iI_div, iI_mod, iI_lt, iI_le, iI_eq, iI_nat, iI_vp, ld_rd, ld_wl, lu_s, lu_t, lu_c, lu_j, forall_eq, Int.toNat_natCast, true_and, and_true, not_true, not_false_iff, Classical.not_not, forall_const, iI_inj, e2, e3]
  exact ⟨fun _ => ⟨fun _ => ⟨fun z => (by first | exact z.elim | exact absurd rfl z | exact absurd z (by decide) | (exfalso; omega)), M2, sp2 e (by omega), hend _ _ e he P hP hQ⟩, fun z => (by first | exact z.elim | exact absurd rfl z | exact absurd z (by decide) | (exfalso; omega))⟩, fun z => (by first | exact z.elim | exact absurd rfl z | exact absurd z (by decide) | (exfalso; omega))⟩
theorem rd_comma {n p m : Nat} {T S F : Nat → Int} {M M' : mj_M} {o5 : Option mj_V} {x3 : Int32} {r : Option mj_V} (hM : TC M n T) (hn : n ≤ 48) (hp : p < n) (hW : WD M 25 m S F) (hm : m < 12) (h1 : T p = 44) (hend : ∀ o5, Rn mj_c54 2 12 [some (mj_r (6, 45, 0)), some (mj_r (25, 10, 0)), some (mj_i (iI 0)), some (mj_i x3), some (mj_i (iI ((p + 1 : Nat) : Int))), o5] M r M') : Rn mj_c54 2 12 [some (mj_r (6, 45, 0)), some (mj_r (25, 10, 0)), some (mj_i (iI 2)), some (mj_i x3), some (mj_i (iI (p : Int))), o5] M r M' := by
  have e1 : (p : Int) + 1 = ((p + 1 : Nat) : Int) := by omega
  refine fun e he P hP hQ => rg_Ta_readInto_12 hP ?_
  have h4 := hM.2 p (by omega)
  rw [h1] at h4
  simp (disch := omega) only [nl_0, nl_1, nl_2, nl_3, nl_4, nl_5, nl_6, nl_7, nl_8, nl_9, nl_10, nl_11, nl_12, nl_13, nl_14, nl_15, nl_16, nl_17, nl_18, nl_19, nl_20, nl_21, nl_22, nl_23, nl_24, nl_25, nl_26, nl_27, nl_28, nl_31, nl_32, nl_42, nl_44, nl_46, nl_48, nl_49, nl_50, nl_51, nl_60, nl_75, nl_76, nl_99, nl_100, nl_108, nl_114, nl_117, nl_126, nl_255, nl_999, nl_2401, nl_9999, nl_12345, nl_65536, nl_1000000, nl_1103515245, nl_2147483647, nl_30, nl_55, nl_107, nl_200, nl_512, nl_15485957, iI_0, iI_neg, iI_add, iI_sub, iI_mul, iI_div, iI_mod, iI_lt, iI_le, iI_eq, iI_nat, iI_vp, ld_rd, ld_wl, lu_s, lu_t, lu_c, lu_j, forall_eq, Int.toNat_natCast, true_and, and_true, not_true, not_false_iff, Classical.not_not, forall_const, iI_inj, hM.1, h4, hW.1]
  refine ⟨fun z => by omega, fun _ => ⟨fun _ => ⟨_, _, sp_can2 (by omega) (by unfold iR; omega) (by omega), ?_⟩, fun z => (by first | exact z.elim | exact absurd rfl z | exact absurd z (by decide) | (exfalso; omega))⟩⟩
  rw [if_pos ⟨rfl, hm⟩]
  simp (disch := omega) only [nl_0, nl_1, nl_2, nl_3, nl_4, nl_5, nl_6, nl_7, nl_8, nl_9, nl_10, nl_11, nl_12, nl_13, nl_14, nl_15, nl_16, nl_17, nl_18, nl_19, nl_20, nl_21, nl_22, nl_23, nl_24, nl_25, nl_26, nl_27, nl_28, nl_31, nl_32, nl_42, nl_44, nl_46, nl_48, nl_49, nl_50, nl_51, nl_60, nl_75, nl_76, nl_99, nl_100, nl_108, nl_114, nl_117, nl_126, nl_255, nl_999, nl_2401, nl_9999, nl_12345, nl_65536, nl_1000000, nl_1103515245, nl_2147483647, nl_30, nl_55, nl_107, nl_200, nl_512, nl_15485957, iI_0, iI_neg, iI_add, iI_sub, iI_mul, iI_div, iI_mod, iI_lt, iI_le, iI_eq, iI_nat, iI_vp, ld_rd, ld_wl, lu_s, lu_t, lu_c, lu_j, forall_eq, Int.toNat_natCast, true_and, and_true, not_true, not_false_iff, Classical.not_not, forall_const, iI_inj, e1]
  exact ⟨fun _ => ⟨fun _ => ⟨fun _ => hend _ e he P hP hQ, fun z => (by first | exact z.elim | exact absurd rfl z | exact absurd z (by decide) | (exfalso; omega))⟩, fun z => (by first | exact z.elim | exact absurd rfl z | exact absurd z (by decide) | (exfalso; omega))⟩, fun z => (by first | exact z.elim | exact absurd rfl z | exact absurd z (by decide) | (exfalso; omega))⟩
theorem rd_end {n m : Nat} {T S F : Nat → Int} {M : mj_M} {o5 : Option mj_V} {x3 : Int32} (hM : TC M n T) (hn : n ≤ 48) (hW : WD M 25 m S F) : Rn mj_c54 2 12 [some (mj_r (6, 45, 0)), some (mj_r (25, 10, 0)), some (mj_i (iI 2)), some (mj_i x3), some (mj_i (iI (n : Int))), o5] M (some (mj_i (iI (m : Int)))) M := by
  refine fun e he P hP hQ => rg_Ta_readInto_12 hP ?_
  simp (disch := omega) only [nl_0, nl_1, nl_2, nl_3, nl_4, nl_5, nl_6, nl_7, nl_8, nl_9, nl_10, nl_11, nl_12, nl_13, nl_14, nl_15, nl_16, nl_17, nl_18, nl_19, nl_20, nl_21, nl_22, nl_23, nl_24, nl_25, nl_26, nl_27, nl_28, nl_31, nl_32, nl_42, nl_44, nl_46, nl_48, nl_49, nl_50, nl_51, nl_60, nl_75, nl_76, nl_99, nl_100, nl_108, nl_114, nl_117, nl_126, nl_255, nl_999, nl_2401, nl_9999, nl_12345, nl_65536, nl_1000000, nl_1103515245, nl_2147483647, nl_30, nl_55, nl_107, nl_200, nl_512, nl_15485957, iI_0, iI_neg, iI_add, iI_sub, iI_mul, iI_div, iI_mod, iI_lt, iI_le, iI_eq, iI_nat, iI_vp, ld_rd, ld_wl, lu_s, lu_t, lu_c, lu_j, forall_eq, Int.toNat_natCast, true_and, and_true, not_true, not_false_iff, Classical.not_not, forall_const, iI_inj, hM.1, hW.1]
  exact ⟨fun _ => ⟨fun z => (by first | exact z.elim | exact absurd rfl z | exact absurd z (by decide) | (exfalso; omega)), by (first | exact mj_eq.rf | exact fi_n mj_eq.rf | exact fi_i rfl mj_eq.rf | exact rfl)⟩, fun z => by omega⟩
def tS (L : Nat) (xs : Nat → Int32) (k : Nat) : Int := gw L xs k % 4
def tF (L : Nat) (xs : Nat → Int32) (k : Nat) : Int := gw L xs k / 4
theorem rd_run {L : Nat} {xs : Nat → Int32} {W : Nat} (hW : W ≤ 5) : ∀ (r k : Nat) (M : mj_M), k + r + 1 = W → TC M (3 * W - 1) (tx L xs) → WD M 25 k (tS L xs) (tF L xs) → ∃ M', (∀ (o5 : Option mj_V) (x3 : Int32), Rn mj_c54 2 12 [some (mj_r (6, 45, 0)), some (mj_r (25, 10, 0)), some (mj_i (iI 0)), some (mj_i x3), some (mj_i (iI ((3 * k : Nat) : Int))), o5] M (some (mj_i (iI (W : Int)))) M') ∧ fr [25] M M' ∧ WD M' 25 W (tS L xs) (tF L xs) := by
  intro r
  induction r with
  | zero =>
    intro k M hk hM hD
    have hg := gw_r L xs k
    obtain ⟨M2, f2, w2, g2⟩ := rd_one (s := tS L xs k) (f := tF L xs k) hM (by omega) (p := 3 * k) (by omega) hD (by omega) (tx_0 k) (by unfold tS; omega) (tx_1 k) (by unfold tF; omega)
    rw [ups_at rfl, ups_at rfl] at w2
    have hM2 := hM.fr f2 (by decide)
    refine ⟨M2, fun o5 x3 => g2 _ _ _ _ (fun o5 x3 => ?_), f2, ?_⟩
    · have := rd_end (m := k + 1) (o5 := o5) (x3 := x3) hM2 (by omega) w2
      rw [show 3 * W - 1 = 3 * k + 2 by omega] at this
      rw [show W = k + 1 by omega]
      exact this
    · rw [show W = k + 1 by omega]
      exact w2
  | succ r ih =>
    intro k M hk hM hD
    have hg := gw_r L xs k
    obtain ⟨M2, f2, w2, g2⟩ := rd_one (s := tS L xs k) (f := tF L xs k) hM (by omega) (p := 3 * k) (by omega) hD (by omega) (tx_0 k) (by unfold tS; omega) (tx_1 k) (by unfold tF; omega)
    rw [ups_at rfl, ups_at rfl] at w2
    have hM2 := hM.fr f2 (by decide)
    obtain ⟨M3, g3, f3, w3⟩ := ih (k + 1) M2 (by omega) hM2 w2
    refine ⟨M3, fun o5 x3 => g2 _ _ _ _ (fun o5 x3 => ?_), f2.tr f3, w3⟩
    exact rd_comma (m := k + 1) hM2 (by omega) (p := 3 * k + 2) (by omega) w2 (by omega) (tx_2 k) (fun o5 => g3 o5 x3)
/-- the winds of the text are read -/
theorem c_rwinds {L : Nat} {xs : Nat → Int32} {W : Nat} (h1 : 1 ≤ W) (hW : W ≤ 5) {M : mj_M} (hM : TC M (3 * W - 1) (tx L xs)) : ∃ M', (∀ d, 5 ≤ d → mj_Sp d 11 [mj_r (13, 50, 0)] M (some (mj_i (iI (W : Int)))) M') ∧ fr [6, 20, 25] M M' ∧ WD M' 20 W (tS L xs) (tF L xs) := by
  have f0 : fr [25] M (mj_wl M (25, 10, 0, 0) (iI 0)) := fr.r0.wl (by decide)
  obtain ⟨M', hr', f', w'⟩ := rd_run hW (W - 1) 0 (mj_wl M (25, 10, 0, 0) (iI 0)) (by omega) (hM.fr f0 (by decide)) ⟨wl_s, by omega, fun j hj => absurd hj (by omega)⟩
  have f1 : fr [25] M M' := f0.tr f'
  have sp1 : ∀ d, 4 ≤ d → mj_Sp d 54 [mj_r (6, 45, 0), mj_r (25, 10, 0)] M (some (mj_i (iI (W : Int)))) M' := fun d hd => en_Ta_readInto (k := 3) hd fun e he P hP hQ => rg_Ta_readInto_0 hP (by
    have := hr' none (iI 0) e (by omega) P hP hQ
    simp (disch := omega) only [nl_0, nl_1, nl_2, nl_3, nl_4, nl_5, nl_6, nl_7, nl_8, nl_9, nl_10, nl_11, nl_12, nl_13, nl_14, nl_15, nl_16, nl_17, nl_18, nl_19, nl_20, nl_21, nl_22, nl_23, nl_24, nl_25, nl_26, nl_27, nl_28, nl_31, nl_32, nl_42, nl_44, nl_46, nl_48, nl_49, nl_50, nl_51, nl_60, nl_75, nl_76, nl_99, nl_100, nl_108, nl_114, nl_117, nl_126, nl_255, nl_999, nl_2401, nl_9999, nl_12345, nl_65536, nl_1000000, nl_1103515245, nl_2147483647, nl_30, nl_55, nl_107, nl_200, nl_512, nl_15485957, iI_0, iI_neg, iI_add, iI_sub, iI_mul, iI_div, iI_mod, iI_lt, iI_le, iI_eq, iI_nat, iI_vp, ld_rd, ld_wl, lu_s, lu_t, lu_c, lu_j, forall_eq, Int.toNat_natCast, true_and, and_true, not_true, not_false_iff, Classical.not_not, forall_const, iI_inj]
    exact this)
  refine ⟨wcp (mj_wl M' (6, 45, 0, 0) (iI 0)) 25 20, fun d hd => en_C_winds (k := 4) hd fun e he P hP hQ => rg_C_winds_0 hP ⟨_, _, sp1 e he, ?_⟩, ?_, WD.cp (w'.wl (by decide))⟩
  · simp (disch := omega) only [nl_0, nl_1, nl_2, nl_3, nl_4, nl_5, nl_6, nl_7, nl_8, nl_9, nl_10, nl_11, nl_12, nl_13, nl_14, nl_15, nl_16, nl_17, nl_18, nl_19, nl_20, nl_21, nl_22, nl_23, nl_24, nl_25, nl_26, nl_27, nl_28, nl_31, nl_32, nl_42, nl_44, nl_46, nl_48, nl_49, nl_50, nl_51, nl_60, nl_75, nl_76, nl_99, nl_100, nl_108, nl_114, nl_117, nl_126, nl_255, nl_999, nl_2401, nl_9999, nl_12345, nl_65536, nl_1000000, nl_1103515245, nl_2147483647, nl_30, nl_55, nl_107, nl_200, nl_512, nl_15485957, iI_0, iI_neg, iI_add, iI_sub, iI_mul, iI_div, iI_mod, iI_lt, iI_le, iI_eq, iI_nat, iI_vp, ld_rd, ld_wl, lu_s, lu_t, lu_c, lu_j, forall_eq, Int.toNat_natCast, true_and, and_true, not_true, not_false_iff, Classical.not_not, forall_const, iI_inj]
    exact ⟨fun z => by omega, fun _ => ⟨_, sp_wtake (p := 20) (by omega) (by omega), by (first | exact mj_eq.rf | exact fi_n mj_eq.rf | exact fi_i rfl mj_eq.rf | exact rfl)⟩⟩
  · exact ((f1.mo_ (by decide)).wl (by decide)).tr (fun i hi => wcp_ne (fun e => hi (by rw [e]; decide)))
