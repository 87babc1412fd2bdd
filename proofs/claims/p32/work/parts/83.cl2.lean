/-! each cloud, held by one alone -/
def KW (B : lA) (W : mj_S) : Prop := ∀ j, j < nC B → W 73 0 j = iI (B 2 0 j) ∧ W 73 0 (6 + j) = iI (B 3 0 j) ∧ W 73 0 (12 + j) = iI (B 1 0 j) ∧ B 2 0 j ≤ 24
theorem S2.w {L : Nat} {xs : Nat → Int32} {M : mj_M} {A B : lA} {W : mj_S} (h : S2 L xs M A B W) {j : Nat} : M 17 73 0 j = W 73 0 j := by rw [h.2.2]
theorem wF_le {L : Nat} {xs : Nat → Int32} (h : Int) : 0 ≤ wS (gW L xs).toNat (tF L xs) h ∧ wS (gW L xs).toNat (tF L xs) h ≤ gS L xs := by
  have hs := gs_r L xs (gW L xs).toNat
  unfold wS gS
  split
  · omega
  · next hn =>
    have hl : h.toNat % (gW L xs).toNat < (gW L xs).toNat := Nat.mod_lt _ (by omega)
    have h1 := gs_m L xs _ _ hl
    have h2 := gw_r L xs (h.toNat % (gW L xs).toNat)
    unfold tF
    omega
theorem lu4 {A B : lA} {c v : Nat} {x : Int} (h : ∀ t i j, t ≠ 4 → A t i j = B t i j) : ∀ t i j, t ≠ 4 → lu A 4 c v x t i j = B t i j := fun t i j ht => by
  rw [lu_t ht]
  exact h t i j ht
theorem ap_r {a b : Int} (ha : 0 ≤ a ∧ a ≤ 25) (hb : 0 ≤ b ∧ b ≤ 25) : 0 ≤ ap a b ∧ ap a b ≤ 20 := by
  unfold ap ab
  refine ⟨?_, ?_⟩
  all_goals repeat' split
  all_goals omega
theorem c2_free {d : Nat} (hd : 9 ≤ d) {L : Nat} {xs : Nat → Int32} {M : mj_M} {B : lA} {W : mj_S} {x4 x7 : Int32} {o12 o13 o14 o15 o16 : Option mj_V} {k : Nat} (hS : S2 L xs M B B W) (hK : KW B W) (hk : k < nC B) :
    ∃ M' A, Go mj_c70 d 750 [some (mj_r (41, 82, 0)), none, none, some (mj_i (iI 1)), some (mj_i x4), some (mj_i (iI (((nV B : Nat) : Int)))), none, some (mj_i x7), some (mj_r (13, 50, 0)), some (mj_r (17, 73, 0)), some (mj_i (iI ((k : Int)))), some (mj_i (iI (0))), o12, o13, o14, o15, o16] [] M 786 [some (mj_r (41, 82, 0)), none, none, some (mj_i (iI 1)), some (mj_i x4), some (mj_i (iI (((nV B : Nat) : Int)))), none, some (mj_i x7), some (mj_r (13, 50, 0)), some (mj_r (17, 73, 0)), some (mj_i (iI ((k : Int)))), some (mj_i (iI (((nV B : Nat) : Int)))), o12, o13, o14, o15, o16] [] M' ∧ S2 L xs M' A B W ∧ (∀ t i j, t ≠ 4 → A t i j = B t i j) ∧ ∀ v, v < nV B → A 4 k v = 0 := by
  have hB := hS.2.1.2.2.1
  have hnc := hB.li.nc
  have hnv := hB.li.nv
  have hkk := hK k hk
  obtain ⟨ls, M1, g1, A, h1, hsame, hz, rfl⟩ := go_lp (d := d) (c := mj_c70) (pc := 750) (n := nV B) (I := fun v ls M => ∃ A, S2 L xs M A B W ∧ (∀ t i j, t ≠ 4 → A t i j = B t i j) ∧ (∀ v', v' < v → A 4 k v' = 0) ∧ ls = [some (mj_r (41, 82, 0)), none, none, some (mj_i (iI 1)), some (mj_i x4), some (mj_i (iI (((nV B : Nat) : Int)))), none, some (mj_i x7), some (mj_r (13, 50, 0)), some (mj_r (17, 73, 0)), some (mj_i (iI ((k : Int)))), some (mj_i (iI ((v : Int)))), o12, o13, o14, o15, o16]) (fun v ls M hv ⟨A, hS, hsame, hz, e⟩ => by
    subst e
    have hA := hS.1.2.2.1
    have e1 : (v : Int) + 1 = ((v + 1 : Nat) : Int) := by omega
    have ea : A 0 0 0 = B 0 0 0 := hsame 0 0 0 (by decide)
    have eb : A 0 0 1 = B 0 0 1 := hsame 0 0 1 (by decide)
    have ec : A 2 0 k = B 2 0 k := hsame 2 0 k (by decide)
    have e25 : A 2 0 k ≠ 25 := by omega
    have hst := hA.li.st (c := k) (v := v) (by omega) (by omega)
    have hsg := hA.sg (v := v) (by omega)
    have es : s_hold A (v : Int) (k : Int) 0 = (A 4 k v, lu A 4 k v 0) := by
      unfold s_hold
      rw [if_neg (by omega), Int.toNat_natCast, Int.toNat_natCast, if_neg e25, if_neg (by omega)]
    obtain ⟨M2, s2, h2⟩ := p_hold (d := d) (by omega) hS (v := (v : Int)) (c := (k : Int)) (x := 0) (by unfold iR; omega) (by unfold iR; omega) (by unfold iR; omega)
    rw [es] at s2 h2
    refine ⟨_, M2, fun P R hP hQ hend => rg_L_law_750 hP ?_, lu A 4 k v 0, h2, lu4 hsame, fun v' hv' => ?_, rfl⟩
    · simp (disch := omega) only [nl_0, nl_1, nl_2, nl_3, nl_4, nl_5, nl_6, nl_7, nl_8, nl_9, nl_10, nl_11, nl_12, nl_13, nl_14, nl_15, nl_16, nl_17, nl_18, nl_19, nl_20, nl_21, nl_22, nl_23, nl_24, nl_25, nl_26, nl_27, nl_28, nl_31, nl_32, nl_42, nl_44, nl_46, nl_48, nl_49, nl_50, nl_51, nl_60, nl_75, nl_76, nl_99, nl_100, nl_108, nl_114, nl_117, nl_126, nl_255, nl_999, nl_2401, nl_9999, nl_12345, nl_65536, nl_1000000, nl_1103515245, nl_2147483647, nl_30, nl_55, nl_107, nl_200, nl_512, nl_15485957, iI_0, iI_neg, iI_add, iI_sub, iI_mul, iI_div, iI_mod, iI_lt, iI_le, iI_eq, iI_nat, iI_vp, ld_rd, ld_wl, lu_s, lu_t, lu_c, lu_j, forall_eq, Int.toNat_natCast, true_and, and_true, not_true, not_false_iff, Classical.not_not, forall_const, iI_inj]
      refine ⟨fun z => by omega, fun _ => ⟨fun z => (by first | exact z.elim | exact absurd rfl z | exact absurd z (by decide) | (exfalso; omega)), fun _ => ⟨_, _, s2, ?_⟩⟩⟩
      simp (disch := omega) only [nl_0, nl_1, nl_2, nl_3, nl_4, nl_5, nl_6, nl_7, nl_8, nl_9, nl_10, nl_11, nl_12, nl_13, nl_14, nl_15, nl_16, nl_17, nl_18, nl_19, nl_20, nl_21, nl_22, nl_23, nl_24, nl_25, nl_26, nl_27, nl_28, nl_31, nl_32, nl_42, nl_44, nl_46, nl_48, nl_49, nl_50, nl_51, nl_60, nl_75, nl_76, nl_99, nl_100, nl_108, nl_114, nl_117, nl_126, nl_255, nl_999, nl_2401, nl_9999, nl_12345, nl_65536, nl_1000000, nl_1103515245, nl_2147483647, nl_30, nl_55, nl_107, nl_200, nl_512, nl_15485957, iI_0, iI_neg, iI_add, iI_sub, iI_mul, iI_div, iI_mod, iI_lt, iI_le, iI_eq, iI_nat, iI_vp, ld_rd, ld_wl, lu_s, lu_t, lu_c, lu_j, forall_eq, Int.toNat_natCast, true_and, and_true, not_true, not_false_iff, Classical.not_not, forall_const, iI_inj]
      refine ⟨fun z => by omega, fun _ => rg_L_law_779 hP ?_⟩
      simp (disch := omega) only [nl_0, nl_1, nl_2, nl_3, nl_4, nl_5, nl_6, nl_7, nl_8, nl_9, nl_10, nl_11, nl_12, nl_13, nl_14, nl_15, nl_16, nl_17, nl_18, nl_19, nl_20, nl_21, nl_22, nl_23, nl_24, nl_25, nl_26, nl_27, nl_28, nl_31, nl_32, nl_42, nl_44, nl_46, nl_48, nl_49, nl_50, nl_51, nl_60, nl_75, nl_76, nl_99, nl_100, nl_108, nl_114, nl_117, nl_126, nl_255, nl_999, nl_2401, nl_9999, nl_12345, nl_65536, nl_1000000, nl_1103515245, nl_2147483647, nl_30, nl_55, nl_107, nl_200, nl_512, nl_15485957, iI_0, iI_neg, iI_add, iI_sub, iI_mul, iI_div, iI_mod, iI_lt, iI_le, iI_eq, iI_nat, iI_vp, ld_rd, ld_wl, lu_s, lu_t, lu_c, lu_j, forall_eq, Int.toNat_natCast, true_and, and_true, not_true, not_false_iff, Classical.not_not, forall_const, iI_inj, e1]
      exact hend
    · by_cases g : v' = v
      · rw [g, lu_s]
      · rw [lu_j g]
        exact hz v' (by omega)) (nV B) 0 [some (mj_r (41, 82, 0)), none, none, some (mj_i (iI 1)), some (mj_i x4), some (mj_i (iI (((nV B : Nat) : Int)))), none, some (mj_i x7), some (mj_r (13, 50, 0)), some (mj_r (17, 73, 0)), some (mj_i (iI ((k : Int)))), some (mj_i (iI (((0 : Nat) : Int)))), o12, o13, o14, o15, o16] M (by omega) ⟨B, hS, fun _ _ _ _ => rfl, fun v' hv' => absurd hv' (Nat.not_lt_zero v'), rfl⟩
  refine ⟨M1, A, g1.tr (fun P R hP hQ hend => rg_L_law_750 hP ?_), h1, hsame, hz⟩
  simp (disch := omega) only [nl_0, nl_1, nl_2, nl_3, nl_4, nl_5, nl_6, nl_7, nl_8, nl_9, nl_10, nl_11, nl_12, nl_13, nl_14, nl_15, nl_16, nl_17, nl_18, nl_19, nl_20, nl_21, nl_22, nl_23, nl_24, nl_25, nl_26, nl_27, nl_28, nl_31, nl_32, nl_42, nl_44, nl_46, nl_48, nl_49, nl_50, nl_51, nl_60, nl_75, nl_76, nl_99, nl_100, nl_108, nl_114, nl_117, nl_126, nl_255, nl_999, nl_2401, nl_9999, nl_12345, nl_65536, nl_1000000, nl_1103515245, nl_2147483647, nl_30, nl_55, nl_107, nl_200, nl_512, nl_15485957, iI_0, iI_neg, iI_add, iI_sub, iI_mul, iI_div, iI_mod, iI_lt, iI_le, iI_eq, iI_nat, iI_vp, ld_rd, ld_wl, lu_s, lu_t, lu_c, lu_j, forall_eq, Int.toNat_natCast, true_and, and_true, not_true, not_false_iff, Classical.not_not, forall_const, iI_inj]
  exact ⟨fun _ => hend, fun z => by omega⟩
theorem c2_one {L : Nat} {xs : Nat → Int32} {M : mj_M} {B : lA} {W : mj_S} {o12 o13 o14 o15 o16 : Option mj_V} {k : Nat} {ls : mj_L} (hls : ls = [some (mj_r (41, 82, 0)), none, none, some (mj_i (iI 1)), some (mj_i (iI (gN L xs))), some (mj_i (iI (gM L xs))), none, some (mj_i (iI (gS L xs))), some (mj_r (13, 50, 0)), some (mj_r (17, 73, 0)), some (mj_i (iI ((k : Int)))), some (mj_i (iI (0))), o12, o13, o14, o15, o16]) (hS : S2 L xs M B B W) (hK : KW B W) (hk : k < nC B) (hv : ((nV B : Nat) : Int) = gM L xs) (hm : 0 < nV B) (hh : B 0 0 2 = 0) :
    ∃ M' p11 p12 p13 p14 p15 p16, Go mj_c70 10 750 ls [] M 731 [some (mj_r (41, 82, 0)), none, none, some (mj_i (iI 1)), some (mj_i (iI (gN L xs))), some (mj_i (iI (gM L xs))), none, some (mj_i (iI (gS L xs))), some (mj_r (13, 50, 0)), some (mj_r (17, 73, 0)), some (mj_i (iI (((k + 1 : Nat) : Int)))), some (mj_i p11), some (mj_i p12), some (mj_i p13), some (mj_i p14), some (mj_i p15), some (mj_i p16)] [] M' ∧ S2 L xs M' B B W := by
  subst hls
  have hB := hS.2.1.2.2.1
  have hnc := hB.li.nc
  have hnv := hB.li.nv
  have hkk := hK k hk
  have hfd := hB.li.fd (c := k) (by omega)
  have hkd := hB.li.kd (c := k) (by omega)
  have hgS : 0 ≤ gS L xs ∧ gS L xs ≤ 3 := gs_r L xs _
  have e1 : (k : Int) + 1 = ((k + 1 : Nat) : Int) := by omega
  have e12 : (12 + (k : Int)).toNat = 12 + k := by omega
  obtain ⟨M1, A, g1, h1, hsame, hz⟩ := c2_free (d := 10) (by omega) (x4 := iI (gN L xs)) (x7 := iI (gS L xs)) (o12 := o12) (o13 := o13) (o14 := o14) (o15 := o15) (o16 := o16) hS hK hk
  have hA := h1.1.2.2.1
  -- the village
  have hs25 := sc_r L xs 25
  have hvr : 0 ≤ sc L xs 25 % gM L xs ∧ sc L xs 25 % gM L xs < gM L xs := ⟨Int.emod_nonneg _ (by omega), Int.emod_lt_of_pos _ (by omega)⟩
  obtain ⟨v, hve⟩ := nat_iR hvr.1
  have hvl : v < nV B := by omega
  have en : nV A = nV B := by unfold nV; rw [hsame 0 0 1 (by decide)]
  have ecn : nC A = nC B := by unfold nC; rw [hsame 0 0 0 (by decide)]
  have hvo := v_of hA.li (v := v) (by omega)
  have hsg := hA.sg (v := v) (by omega)
  have ht0 := hA.t0 (v := v) (by omega)
  generalize hh1 : A 6 0 v - td A v = h at hvo
  have hhr : 0 ≤ h ∧ h ≤ 9 := by omega
  have e25 : A 2 0 k ≠ 25 := by rw [hsame 2 0 k (by decide)]; omega
  have e5 : A 5 0 v = B 5 0 v := hsame 5 0 v (by decide)
  have hhm := hB.li.hm (v := v) (by omega)
  have es : s_hold A (v : Int) (k : Int) h = (0, lu A 4 k v h) := by
    have hz0 := hz v hvl
    have ea := hsame 0 0 0 (by decide)
    have eb := hsame 0 0 1 (by decide)
    unfold s_hold
    rw [if_neg (by omega), Int.toNat_natCast, Int.toNat_natCast, if_neg e25, hz0, if_neg (by omega)]
  obtain ⟨M2, s2, h2⟩ := p_of (d := 10) (by omega) h1 (v := (v : Int)) (w := 4) (by unfold iR; omega) (by unfold iR; omega)
  obtain ⟨M3, s3, h3⟩ := p_hold (d := 10) (by omega) h2 (v := (v : Int)) (c := (k : Int)) (x := h) (by unfold iR; omega) (by unfold iR; omega) (by unfold iR; omega)
  rw [hvo.2.2.2.2] at s2
  rw [es] at s3 h3
  have h3 : S2 L xs M3 (lu A 4 k v h) B W := h3
  have s3 : mj_Sp 10 5 [mj_r (13, 50, 0), mj_i (iI (v : Int)), mj_i (iI (k : Int)), mj_i (iI h)] M2 (some (mj_i (iI 0))) M3 := s3
  have hsame2 : ∀ t i j, t ≠ 4 → lu A 4 k v h t i j = B t i j := lu4 hsame
  have hz2 : ∀ j, j < 4 → j ≠ v → lu A 4 k v h 4 k j = 0 := fun j hj hjv => by
    rw [lu_j hjv]
    by_cases g : j < nV B
    · exact hz j g
    · exact hA.li.s0 (by omega) hj (by omega)
  have hzv : lu A 4 k v h 4 k v = h := lu_s
  have hJ2 := h3.1.2.2.1
  generalize lu A 4 k v h = A2 at s3 h3 hsame2 hz2 hzv hJ2
  have en2 : nV A2 = nV B := by unfold nV; rw [hsame2 0 0 1 (by decide)]
  have ecn2 : nC A2 = nC B := by unfold nC; rw [hsame2 0 0 0 (by decide)]
  have hn2 := hJ2.li.nc
  have hvo2 := v_of hJ2.li (v := v) (by omega)
  have e52 : A2 5 0 v = B 5 0 v := hsame2 5 0 v (by decide)
  have e22 : A2 2 0 k = B 2 0 k := hsame2 2 0 k (by decide)
  have e12' : A2 1 0 k = B 1 0 k := hsame2 1 0 k (by decide)
  rw [e52] at hvo2
  obtain ⟨M4, s4, h4⟩ := p_of (d := 10) (by omega) h3 (v := (v : Int)) (w := 0) (by unfold iR; omega) (by unfold iR; omega)
  rw [hvo2.1] at s4
  obtain ⟨M5, s5, h5⟩ := p_where (d := 10) (by omega) h4 (c := (k : Int)) (m := 1) (l := 0) (by unfold iR; omega) (by unfold iR; omega) (by unfold iR; omega)
  have ew : s_where A2 (gW L xs).toNat (tS L xs) (tF L xs) (k : Int) 1 0 = fo A2 (gW L xs).toNat (tS L xs) (tF L xs) k 1 2 0 k := by
    unfold s_where
    rw [if_neg (by omega), if_neg (by decide), Int.toNat_natCast]
    rfl
  rw [ew] at s5
  have hy := (fo_LI (n := (gW L xs).toNat) (S := tS L xs) (F := tF L xs) hJ2.li (c := k) (by omega) 1).fd (c := k) (by omega)
  have hnear : 0 < h → gS L xs * wt (B 1 0 k) ≤ h → fo A2 (gW L xs).toNat (tS L xs) (tF L xs) k 1 2 0 k = tw (B 2 0 k) (B 5 0 v) := fun hp hn => by
    have hw := wt_r (A2 1 0 k)
    have hf := wF_le (L := L) (xs := xs) (A2 0 0 2 + ((0 : Nat) : Int))
    have hmul : wS (gW L xs).toNat (tF L xs) (A2 0 0 2 + ((0 : Nat) : Int)) * wt (A2 1 0 k) ≤ gS L xs * wt (A2 1 0 k) := Int.mul_le_mul_of_nonneg_right hf.2 (by omega)
    rw [← e12'] at hn
    have := near hJ2.li (c := k) (v := v) (by omega) (by omega) (h := h) (s := wS (gW L xs).toNat (tS L xs) (A2 0 0 2 + ((0 : Nat) : Int))) (f := wS (gW L xs).toNat (tF L xs) (A2 0 0 2 + ((0 : Nat) : Int))) hz2 hzv hp (by omega) (by rw [e22]; omega)
    rw [e22, e52] at this
    exact this
  generalize fo A2 (gW L xs).toNat (tS L xs) (tF L xs) k 1 2 0 k = y at s5 hy hnear
  have htw := tw_r (f := B 2 0 k) (h := B 5 0 v) hfd.1 hkk.2.2.2 hhm.1 hhm.2
  have hap := ap_tw (f := B 2 0 k) (h := B 5 0 v) ⟨hfd.1, hkk.2.2.2⟩ hhm
  have hapr := ap_r (a := B 2 0 k) (b := B 5 0 v) ⟨hfd.1, by omega⟩ ⟨hhm.1, by omega⟩
  have hapy := ap_r (a := y) (b := B 5 0 v) ⟨hy.1, by omega⟩ ⟨hhm.1, by omega⟩
  -- what is needed
  obtain ⟨nd, hnd, hnr, g2⟩ : ∃ nd : Int, nd = gS L xs * wt (B 1 0 k) ∧ (0 ≤ nd ∧ nd ≤ 6) ∧ Go mj_c70 10 786 [some (mj_r (41, 82, 0)), none, none, some (mj_i (iI 1)), some (mj_i (iI (gN L xs))), some (mj_i (iI (((nV B : Nat) : Int)))), none, some (mj_i (iI (gS L xs))), some (mj_r (13, 50, 0)), some (mj_r (17, 73, 0)), some (mj_i (iI ((k : Int)))), some (mj_i (iI (((nV B : Nat) : Int)))), o12, o13, o14, o15, o16] [] M1 852 [some (mj_r (41, 82, 0)), none, none, some (mj_i (iI 1)), some (mj_i (iI (gN L xs))), some (mj_i (iI (((nV B : Nat) : Int)))), none, some (mj_i (iI (gS L xs))), some (mj_r (13, 50, 0)), some (mj_r (17, 73, 0)), some (mj_i (iI ((k : Int)))), some (mj_i (iI ((v : Int)))), some (mj_i (iI (h))), some (mj_i (iI (nd))), o14, o15, o16] [mj_i (iI 1)] M3 := by
    by_cases c2 : B 1 0 k = 2
    · refine ⟨gS L xs * 2, by unfold wt; rw [if_pos c2], by omega, fun P R hP hQ hend => rg_L_law_786 hP ⟨_, _, sp_cell (k := 25) (by omega) h1.1.1 (by omega), ?_⟩⟩
      simp (disch := omega) only [nl_0, nl_1, nl_2, nl_3, nl_4, nl_5, nl_6, nl_7, nl_8, nl_9, nl_10, nl_11, nl_12, nl_13, nl_14, nl_15, nl_16, nl_17, nl_18, nl_19, nl_20, nl_21, nl_22, nl_23, nl_24, nl_25, nl_26, nl_27, nl_28, nl_31, nl_32, nl_42, nl_44, nl_46, nl_48, nl_49, nl_50, nl_51, nl_60, nl_75, nl_76, nl_99, nl_100, nl_108, nl_114, nl_117, nl_126, nl_255, nl_999, nl_2401, nl_9999, nl_12345, nl_65536, nl_1000000, nl_1103515245, nl_2147483647, nl_30, nl_55, nl_107, nl_200, nl_512, nl_15485957, iI_0, iI_neg, iI_add, iI_sub, iI_mul, iI_div, iI_mod, iI_lt, iI_le, iI_eq, iI_nat, iI_vp, ld_rd, ld_wl, lu_s, lu_t, lu_c, lu_j, forall_eq, Int.toNat_natCast, true_and, and_true, not_true, not_false_iff, Classical.not_not, forall_const, iI_inj]
      rw [hv, hve]
      refine ⟨by omega, _, _, s2, ?_⟩
      simp (disch := omega) only [nl_0, nl_1, nl_2, nl_3, nl_4, nl_5, nl_6, nl_7, nl_8, nl_9, nl_10, nl_11, nl_12, nl_13, nl_14, nl_15, nl_16, nl_17, nl_18, nl_19, nl_20, nl_21, nl_22, nl_23, nl_24, nl_25, nl_26, nl_27, nl_28, nl_31, nl_32, nl_42, nl_44, nl_46, nl_48, nl_49, nl_50, nl_51, nl_60, nl_75, nl_76, nl_99, nl_100, nl_108, nl_114, nl_117, nl_126, nl_255, nl_999, nl_2401, nl_9999, nl_12345, nl_65536, nl_1000000, nl_1103515245, nl_2147483647, nl_30, nl_55, nl_107, nl_200, nl_512, nl_15485957, iI_0, iI_neg, iI_add, iI_sub, iI_mul, iI_div, iI_mod, iI_lt, iI_le, iI_eq, iI_nat, iI_vp, ld_rd, ld_wl, lu_s, lu_t, lu_c, lu_j, forall_eq, Int.toNat_natCast, true_and, and_true, not_true, not_false_iff, Classical.not_not, forall_const, iI_inj, e12, h2.w, hkk.2.2.1]
      refine ⟨fun z => absurd c2 z, fun _ => rg_L_law_826 hP ?_⟩
      simp (disch := omega) only [nl_0, nl_1, nl_2, nl_3, nl_4, nl_5, nl_6, nl_7, nl_8, nl_9, nl_10, nl_11, nl_12, nl_13, nl_14, nl_15, nl_16, nl_17, nl_18, nl_19, nl_20, nl_21, nl_22, nl_23, nl_24, nl_25, nl_26, nl_27, nl_28, nl_31, nl_32, nl_42, nl_44, nl_46, nl_48, nl_49, nl_50, nl_51, nl_60, nl_75, nl_76, nl_99, nl_100, nl_108, nl_114, nl_117, nl_126, nl_255, nl_999, nl_2401, nl_9999, nl_12345, nl_65536, nl_1000000, nl_1103515245, nl_2147483647, nl_30, nl_55, nl_107, nl_200, nl_512, nl_15485957, iI_0, iI_neg, iI_add, iI_sub, iI_mul, iI_div, iI_mod, iI_lt, iI_le, iI_eq, iI_nat, iI_vp, ld_rd, ld_wl, lu_s, lu_t, lu_c, lu_j, forall_eq, Int.toNat_natCast, true_and, and_true, not_true, not_false_iff, Classical.not_not, forall_const, iI_inj]
      refine ⟨fun z => (by first | exact z.elim | exact absurd rfl z | exact absurd z (by decide) | (exfalso; omega)), fun _ => ⟨_, _, s3, ?_⟩⟩
      simp (disch := omega) only [nl_0, nl_1, nl_2, nl_3, nl_4, nl_5, nl_6, nl_7, nl_8, nl_9, nl_10, nl_11, nl_12, nl_13, nl_14, nl_15, nl_16, nl_17, nl_18, nl_19, nl_20, nl_21, nl_22, nl_23, nl_24, nl_25, nl_26, nl_27, nl_28, nl_31, nl_32, nl_42, nl_44, nl_46, nl_48, nl_49, nl_50, nl_51, nl_60, nl_75, nl_76, nl_99, nl_100, nl_108, nl_114, nl_117, nl_126, nl_255, nl_999, nl_2401, nl_9999, nl_12345, nl_65536, nl_1000000, nl_1103515245, nl_2147483647, nl_30, nl_55, nl_107, nl_200, nl_512, nl_15485957, iI_0, iI_neg, iI_add, iI_sub, iI_mul, iI_div, iI_mod, iI_lt, iI_le, iI_eq, iI_nat, iI_vp, ld_rd, ld_wl, lu_s, lu_t, lu_c, lu_j, forall_eq, Int.toNat_natCast, true_and, and_true, not_true, not_false_iff, Classical.not_not, forall_const, iI_inj]
      rw [hv] at hend
      exact ⟨fun z => (by first | exact z.elim | exact absurd rfl z | exact absurd z (by decide) | (exfalso; omega)), hend⟩
    · refine ⟨gS L xs * 1, by unfold wt; rw [if_neg c2], by omega, fun P R hP hQ hend => rg_L_law_786 hP ⟨_, _, sp_cell (k := 25) (by omega) h1.1.1 (by omega), ?_⟩⟩
      simp (disch := omega) only [nl_0, nl_1, nl_2, nl_3, nl_4, nl_5, nl_6, nl_7, nl_8, nl_9, nl_10, nl_11, nl_12, nl_13, nl_14, nl_15, nl_16, nl_17, nl_18, nl_19, nl_20, nl_21, nl_22, nl_23, nl_24, nl_25, nl_26, nl_27, nl_28, nl_31, nl_32, nl_42, nl_44, nl_46, nl_48, nl_49, nl_50, nl_51, nl_60, nl_75, nl_76, nl_99, nl_100, nl_108, nl_114, nl_117, nl_126, nl_255, nl_999, nl_2401, nl_9999, nl_12345, nl_65536, nl_1000000, nl_1103515245, nl_2147483647, nl_30, nl_55, nl_107, nl_200, nl_512, nl_15485957, iI_0, iI_neg, iI_add, iI_sub, iI_mul, iI_div, iI_mod, iI_lt, iI_le, iI_eq, iI_nat, iI_vp, ld_rd, ld_wl, lu_s, lu_t, lu_c, lu_j, forall_eq, Int.toNat_natCast, true_and, and_true, not_true, not_false_iff, Classical.not_not, forall_const, iI_inj]
      rw [hv, hve]
      refine ⟨by omega, _, _, s2, ?_⟩
      simp (disch := omega) only [nl_0, nl_1, nl_2, nl_3, nl_4, nl_5, nl_6, nl_7, nl_8, nl_9, nl_10, nl_11, nl_12, nl_13, nl_14, nl_15, nl_16, nl_17, nl_18, nl_19, nl_20, nl_21, nl_22, nl_23, nl_24, nl_25, nl_26, nl_27, nl_28, nl_31, nl_32, nl_42, nl_44, nl_46, nl_48, nl_49, nl_50, nl_51, nl_60, nl_75, nl_76, nl_99, nl_100, nl_108, nl_114, nl_117, nl_126, nl_255, nl_999, nl_2401, nl_9999, nl_12345, nl_65536, nl_1000000, nl_1103515245, nl_2147483647, nl_30, nl_55, nl_107, nl_200, nl_512, nl_15485957, iI_0, iI_neg, iI_add, iI_sub, iI_mul, iI_div, iI_mod, iI_lt, iI_le, iI_eq, iI_nat, iI_vp, ld_rd, ld_wl, lu_s, lu_t, lu_c, lu_j, forall_eq, Int.toNat_natCast, true_and, and_true, not_true, not_false_iff, Classical.not_not, forall_const, iI_inj, e12, h2.w, hkk.2.2.1]
      refine ⟨fun _ => rg_L_law_826 hP ?_, fun z => absurd z c2⟩
      simp (disch := omega) only [nl_0, nl_1, nl_2, nl_3, nl_4, nl_5, nl_6, nl_7, nl_8, nl_9, nl_10, nl_11, nl_12, nl_13, nl_14, nl_15, nl_16, nl_17, nl_18, nl_19, nl_20, nl_21, nl_22, nl_23, nl_24, nl_25, nl_26, nl_27, nl_28, nl_31, nl_32, nl_42, nl_44, nl_46, nl_48, nl_49, nl_50, nl_51, nl_60, nl_75, nl_76, nl_99, nl_100, nl_108, nl_114, nl_117, nl_126, nl_255, nl_999, nl_2401, nl_9999, nl_12345, nl_65536, nl_1000000, nl_1103515245, nl_2147483647, nl_30, nl_55, nl_107, nl_200, nl_512, nl_15485957, iI_0, iI_neg, iI_add, iI_sub, iI_mul, iI_div, iI_mod, iI_lt, iI_le, iI_eq, iI_nat, iI_vp, ld_rd, ld_wl, lu_s, lu_t, lu_c, lu_j, forall_eq, Int.toNat_natCast, true_and, and_true, not_true, not_false_iff, Classical.not_not, forall_const, iI_inj]
      refine ⟨fun z => (by first | exact z.elim | exact absurd rfl z | exact absurd z (by decide) | (exfalso; omega)), fun _ => ⟨_, _, s3, ?_⟩⟩
      simp (disch := omega) only [nl_0, nl_1, nl_2, nl_3, nl_4, nl_5, nl_6, nl_7, nl_8, nl_9, nl_10, nl_11, nl_12, nl_13, nl_14, nl_15, nl_16, nl_17, nl_18, nl_19, nl_20, nl_21, nl_22, nl_23, nl_24, nl_25, nl_26, nl_27, nl_28, nl_31, nl_32, nl_42, nl_44, nl_46, nl_48, nl_49, nl_50, nl_51, nl_60, nl_75, nl_76, nl_99, nl_100, nl_108, nl_114, nl_117, nl_126, nl_255, nl_999, nl_2401, nl_9999, nl_12345, nl_65536, nl_1000000, nl_1103515245, nl_2147483647, nl_30, nl_55, nl_107, nl_200, nl_512, nl_15485957, iI_0, iI_neg, iI_add, iI_sub, iI_mul, iI_div, iI_mod, iI_lt, iI_le, iI_eq, iI_nat, iI_vp, ld_rd, ld_wl, lu_s, lu_t, lu_c, lu_j, forall_eq, Int.toNat_natCast, true_and, and_true, not_true, not_false_iff, Classical.not_not, forall_const, iI_inj]
      rw [hv] at hend
      exact ⟨fun z => (by first | exact z.elim | exact absurd rfl z | exact absurd z (by decide) | (exfalso; omega)), hend⟩
  rw [← hnd] at hnear
  have g3 : Go mj_c70 10 852 [some (mj_r (41, 82, 0)), none, none, some (mj_i (iI 1)), some (mj_i (iI (gN L xs))), some (mj_i (iI (((nV B : Nat) : Int)))), none, some (mj_i (iI (gS L xs))), some (mj_r (13, 50, 0)), some (mj_r (17, 73, 0)), some (mj_i (iI ((k : Int)))), some (mj_i (iI ((v : Int)))), some (mj_i (iI (h))), some (mj_i (iI (nd))), o14, o15, o16] [mj_i (iI 1)] M3 941 [some (mj_r (41, 82, 0)), none, none, some (mj_i (iI 1)), some (mj_i (iI (gN L xs))), some (mj_i (iI (((nV B : Nat) : Int)))), none, some (mj_i (iI (gS L xs))), some (mj_r (13, 50, 0)), some (mj_r (17, 73, 0)), some (mj_i (iI ((k : Int)))), some (mj_i (iI ((v : Int)))), some (mj_i (iI (h))), some (mj_i (iI (nd))), some (mj_i (iI (B 5 0 v))), some (mj_i (iI (ap (B 2 0 k) (B 5 0 v)))), some (mj_i (iI (y)))] [] M5 := fun P R hP hQ hend => rg_L_law_852 hP (by
    refine ⟨_, _, s4, ?_⟩
    simp (disch := omega) only [nl_0, nl_1, nl_2, nl_3, nl_4, nl_5, nl_6, nl_7, nl_8, nl_9, nl_10, nl_11, nl_12, nl_13, nl_14, nl_15, nl_16, nl_17, nl_18, nl_19, nl_20, nl_21, nl_22, nl_23, nl_24, nl_25, nl_26, nl_27, nl_28, nl_31, nl_32, nl_42, nl_44, nl_46, nl_48, nl_49, nl_50, nl_51, nl_60, nl_75, nl_76, nl_99, nl_100, nl_108, nl_114, nl_117, nl_126, nl_255, nl_999, nl_2401, nl_9999, nl_12345, nl_65536, nl_1000000, nl_1103515245, nl_2147483647, nl_30, nl_55, nl_107, nl_200, nl_512, nl_15485957, iI_0, iI_neg, iI_add, iI_sub, iI_mul, iI_div, iI_mod, iI_lt, iI_le, iI_eq, iI_nat, iI_vp, ld_rd, ld_wl, lu_s, lu_t, lu_c, lu_j, forall_eq, Int.toNat_natCast, true_and, and_true, not_true, not_false_iff, Classical.not_not, forall_const, iI_inj, h4.w, hkk.1]
    refine ⟨_, _, sp_apart (by omega) ⟨hfd.1, by omega⟩ ⟨hhm.1, by omega⟩, _, _, s5, ?_⟩
    simp (disch := omega) only [nl_0, nl_1, nl_2, nl_3, nl_4, nl_5, nl_6, nl_7, nl_8, nl_9, nl_10, nl_11, nl_12, nl_13, nl_14, nl_15, nl_16, nl_17, nl_18, nl_19, nl_20, nl_21, nl_22, nl_23, nl_24, nl_25, nl_26, nl_27, nl_28, nl_31, nl_32, nl_42, nl_44, nl_46, nl_48, nl_49, nl_50, nl_51, nl_60, nl_75, nl_76, nl_99, nl_100, nl_108, nl_114, nl_117, nl_126, nl_255, nl_999, nl_2401, nl_9999, nl_12345, nl_65536, nl_1000000, nl_1103515245, nl_2147483647, nl_30, nl_55, nl_107, nl_200, nl_512, nl_15485957, iI_0, iI_neg, iI_add, iI_sub, iI_mul, iI_div, iI_mod, iI_lt, iI_le, iI_eq, iI_nat, iI_vp, ld_rd, ld_wl, lu_s, lu_t, lu_c, lu_j, forall_eq, Int.toNat_natCast, true_and, and_true, not_true, not_false_iff, Classical.not_not, forall_const, iI_inj, h5.w, hkk.1]
    refine ⟨fun z => (by first | exact z.elim | exact absurd rfl z | exact absurd z (by decide) | (exfalso; omega)), fun _ => ⟨fun _ => hend, fun c0 => ⟨fun _ => hend, fun c1 => ⟨fun c2 => ?_, fun c2 => ?_⟩⟩⟩⟩
    · have ey := hnear (by omega) (by omega)
      refine ⟨fun z => by omega, fun _ => ⟨_, _, sp_apart (by omega) ⟨hy.1, by omega⟩ ⟨hhm.1, by omega⟩, ?_⟩⟩
      have := hap.2 c2
      rw [← ey] at this
      simp (disch := omega) only [nl_0, nl_1, nl_2, nl_3, nl_4, nl_5, nl_6, nl_7, nl_8, nl_9, nl_10, nl_11, nl_12, nl_13, nl_14, nl_15, nl_16, nl_17, nl_18, nl_19, nl_20, nl_21, nl_22, nl_23, nl_24, nl_25, nl_26, nl_27, nl_28, nl_31, nl_32, nl_42, nl_44, nl_46, nl_48, nl_49, nl_50, nl_51, nl_60, nl_75, nl_76, nl_99, nl_100, nl_108, nl_114, nl_117, nl_126, nl_255, nl_999, nl_2401, nl_9999, nl_12345, nl_65536, nl_1000000, nl_1103515245, nl_2147483647, nl_30, nl_55, nl_107, nl_200, nl_512, nl_15485957, iI_0, iI_neg, iI_add, iI_sub, iI_mul, iI_div, iI_mod, iI_lt, iI_le, iI_eq, iI_nat, iI_vp, ld_rd, ld_wl, lu_s, lu_t, lu_c, lu_j, forall_eq, Int.toNat_natCast, true_and, and_true, not_true, not_false_iff, Classical.not_not, forall_const, iI_inj]
      exact ⟨fun z => absurd this z, fun _ => hend⟩
    · have ey := hnear (by omega) (by omega)
      have := hap.1 c2
      exact ⟨fun z => absurd (ey.trans this) z, fun _ => hend⟩)
  -- in still air
  have g4 : ∃ M6, S2 L xs M6 A2 B W ∧ Go mj_c70 10 941 [some (mj_r (41, 82, 0)), none, none, some (mj_i (iI 1)), some (mj_i (iI (gN L xs))), some (mj_i (iI (((nV B : Nat) : Int)))), none, some (mj_i (iI (gS L xs))), some (mj_r (13, 50, 0)), some (mj_r (17, 73, 0)), some (mj_i (iI ((k : Int)))), some (mj_i (iI ((v : Int)))), some (mj_i (iI (h))), some (mj_i (iI (nd))), some (mj_i (iI (B 5 0 v))), some (mj_i (iI (ap (B 2 0 k) (B 5 0 v)))), some (mj_i (iI (y)))] [] M5 979 [some (mj_r (41, 82, 0)), none, none, some (mj_i (iI 1)), some (mj_i (iI (gN L xs))), some (mj_i (iI (((nV B : Nat) : Int)))), none, some (mj_i (iI (gS L xs))), some (mj_r (13, 50, 0)), some (mj_r (17, 73, 0)), some (mj_i (iI ((k : Int)))), some (mj_i (iI ((v : Int)))), some (mj_i (iI (h))), some (mj_i (iI (nd))), some (mj_i (iI (B 5 0 v))), some (mj_i (iI (ap (B 2 0 k) (B 5 0 v)))), some (mj_i (iI (y)))] [] M6 := by
    by_cases c3 : 0 < gS L xs
    · refine ⟨M5, h5, fun P R hP hQ hend => rg_L_law_941 hP ?_⟩
      simp (disch := omega) only [nl_0, nl_1, nl_2, nl_3, nl_4, nl_5, nl_6, nl_7, nl_8, nl_9, nl_10, nl_11, nl_12, nl_13, nl_14, nl_15, nl_16, nl_17, nl_18, nl_19, nl_20, nl_21, nl_22, nl_23, nl_24, nl_25, nl_26, nl_27, nl_28, nl_31, nl_32, nl_42, nl_44, nl_46, nl_48, nl_49, nl_50, nl_51, nl_60, nl_75, nl_76, nl_99, nl_100, nl_108, nl_114, nl_117, nl_126, nl_255, nl_999, nl_2401, nl_9999, nl_12345, nl_65536, nl_1000000, nl_1103515245, nl_2147483647, nl_30, nl_55, nl_107, nl_200, nl_512, nl_15485957, iI_0, iI_neg, iI_add, iI_sub, iI_mul, iI_div, iI_mod, iI_lt, iI_le, iI_eq, iI_nat, iI_vp, ld_rd, ld_wl, lu_s, lu_t, lu_c, lu_j, forall_eq, Int.toNat_natCast, true_and, and_true, not_true, not_false_iff, Classical.not_not, forall_const, iI_inj]
      exact ⟨fun _ => hend, fun z => absurd c3 z⟩
    · have hF : ∀ q, wS (gW L xs).toNat (tF L xs) q = 0 := fun q => by
        have := wF_le (L := L) (xs := xs) q
        omega
      obtain ⟨M6, s6, h6⟩ := p_where (d := 10) (by omega) h5 (c := (k : Int)) (m := 24) (l := 0) (by unfold iR; omega) (by unfold iR; omega) (by unfold iR; omega)
      obtain ⟨M7, s7, h7⟩ := p_where (d := 10) (by omega) h6 (c := (k : Int)) (m := 24) (l := 1) (by unfold iR; omega) (by unfold iR; omega) (by unfold iR; omega)
      have ew6 : s_where A2 (gW L xs).toNat (tS L xs) (tF L xs) (k : Int) 24 0 = fo A2 (gW L xs).toNat (tS L xs) (tF L xs) k 24 2 0 k := by
        unfold s_where
        rw [if_neg (by omega), if_neg (by decide), Int.toNat_natCast]
        rfl
      have ew7 : s_where A2 (gW L xs).toNat (tS L xs) (tF L xs) (k : Int) 24 1 = B 2 0 k := by
        unfold s_where
        rw [if_neg (by omega), if_pos rfl, Int.toNat_natCast]
        have := (still (lg_LI hJ2.li (c := k) (k := 4)) (n := (gW L xs).toNat) (S := tS L xs) (F := tF L xs) (c := k) (by omega) hF (by rw [lg_t (by decide), e22]; exact hkk.2.2.2) 24).2 (fun j hj => by rw [lg_at, if_pos ⟨rfl, hj⟩])
        rw [lg_t (t := 2) (by decide), e22] at this
        exact this
      have hs6 := (still hJ2.li (n := (gW L xs).toNat) (S := tS L xs) (F := tF L xs) (c := k) (by omega) hF (by rw [e22]; exact hkk.2.2.2) 24).1
      have hs6' := (fo_LI (n := (gW L xs).toNat) (S := tS L xs) (F := tF L xs) hJ2.li (c := k) (by omega) 24).fd (c := k) (by omega)
      rw [ew6] at s6
      rw [ew7] at s7
      generalize fo A2 (gW L xs).toNat (tS L xs) (tF L xs) k 24 2 0 k = y6 at s6 hs6 hs6'
      refine ⟨M7, h7, fun P R hP hQ hend => rg_L_law_941 hP ?_⟩
      simp (disch := omega) only [nl_0, nl_1, nl_2, nl_3, nl_4, nl_5, nl_6, nl_7, nl_8, nl_9, nl_10, nl_11, nl_12, nl_13, nl_14, nl_15, nl_16, nl_17, nl_18, nl_19, nl_20, nl_21, nl_22, nl_23, nl_24, nl_25, nl_26, nl_27, nl_28, nl_31, nl_32, nl_42, nl_44, nl_46, nl_48, nl_49, nl_50, nl_51, nl_60, nl_75, nl_76, nl_99, nl_100, nl_108, nl_114, nl_117, nl_126, nl_255, nl_999, nl_2401, nl_9999, nl_12345, nl_65536, nl_1000000, nl_1103515245, nl_2147483647, nl_30, nl_55, nl_107, nl_200, nl_512, nl_15485957, iI_0, iI_neg, iI_add, iI_sub, iI_mul, iI_div, iI_mod, iI_lt, iI_le, iI_eq, iI_nat, iI_vp, ld_rd, ld_wl, lu_s, lu_t, lu_c, lu_j, forall_eq, Int.toNat_natCast, true_and, and_true, not_true, not_false_iff, Classical.not_not, forall_const, iI_inj]
      refine ⟨fun z => absurd z c3, fun _ => ⟨_, _, s6, ?_⟩⟩
      simp (disch := omega) only [nl_0, nl_1, nl_2, nl_3, nl_4, nl_5, nl_6, nl_7, nl_8, nl_9, nl_10, nl_11, nl_12, nl_13, nl_14, nl_15, nl_16, nl_17, nl_18, nl_19, nl_20, nl_21, nl_22, nl_23, nl_24, nl_25, nl_26, nl_27, nl_28, nl_31, nl_32, nl_42, nl_44, nl_46, nl_48, nl_49, nl_50, nl_51, nl_60, nl_75, nl_76, nl_99, nl_100, nl_108, nl_114, nl_117, nl_126, nl_255, nl_999, nl_2401, nl_9999, nl_12345, nl_65536, nl_1000000, nl_1103515245, nl_2147483647, nl_30, nl_55, nl_107, nl_200, nl_512, nl_15485957, iI_0, iI_neg, iI_add, iI_sub, iI_mul, iI_div, iI_mod, iI_lt, iI_le, iI_eq, iI_nat, iI_vp, ld_rd, ld_wl, lu_s, lu_t, lu_c, lu_j, forall_eq, Int.toNat_natCast, true_and, and_true, not_true, not_false_iff, Classical.not_not, forall_const, iI_inj]
      refine ⟨fun z => by omega, fun _ => ⟨_, _, s7, ?_⟩⟩
      simp (disch := omega) only [nl_0, nl_1, nl_2, nl_3, nl_4, nl_5, nl_6, nl_7, nl_8, nl_9, nl_10, nl_11, nl_12, nl_13, nl_14, nl_15, nl_16, nl_17, nl_18, nl_19, nl_20, nl_21, nl_22, nl_23, nl_24, nl_25, nl_26, nl_27, nl_28, nl_31, nl_32, nl_42, nl_44, nl_46, nl_48, nl_49, nl_50, nl_51, nl_60, nl_75, nl_76, nl_99, nl_100, nl_108, nl_114, nl_117, nl_126, nl_255, nl_999, nl_2401, nl_9999, nl_12345, nl_65536, nl_1000000, nl_1103515245, nl_2147483647, nl_30, nl_55, nl_107, nl_200, nl_512, nl_15485957, iI_0, iI_neg, iI_add, iI_sub, iI_mul, iI_div, iI_mod, iI_lt, iI_le, iI_eq, iI_nat, iI_vp, ld_rd, ld_wl, lu_s, lu_t, lu_c, lu_j, forall_eq, Int.toNat_natCast, true_and, and_true, not_true, not_false_iff, Classical.not_not, forall_const, iI_inj, h7.w, hkk.1]
      exact ⟨fun z => (by first | exact z.elim | exact absurd rfl z | exact absurd z (by decide) | (exfalso; omega)), hend⟩
  obtain ⟨M6, h6, g4⟩ := g4
  obtain ⟨M8, s8, h8⟩ := p_rest (d := 10) (by omega) h6
  rw [hv] at g1 g2 g3 g4
  refine ⟨M8, iI (v : Int), iI h, iI nd, iI (B 5 0 v), iI (ap (B 2 0 k) (B 5 0 v)), iI y, (((g1.tr g2).tr g3).tr g4).tr (fun P R hP hQ hend => rg_L_law_979 hP ⟨_, _, s8, ?_⟩), h8⟩
  simp (disch := omega) only [nl_0, nl_1, nl_2, nl_3, nl_4, nl_5, nl_6, nl_7, nl_8, nl_9, nl_10, nl_11, nl_12, nl_13, nl_14, nl_15, nl_16, nl_17, nl_18, nl_19, nl_20, nl_21, nl_22, nl_23, nl_24, nl_25, nl_26, nl_27, nl_28, nl_31, nl_32, nl_42, nl_44, nl_46, nl_48, nl_49, nl_50, nl_51, nl_60, nl_75, nl_76, nl_99, nl_100, nl_108, nl_114, nl_117, nl_126, nl_255, nl_999, nl_2401, nl_9999, nl_12345, nl_65536, nl_1000000, nl_1103515245, nl_2147483647, nl_30, nl_55, nl_107, nl_200, nl_512, nl_15485957, iI_0, iI_neg, iI_add, iI_sub, iI_mul, iI_div, iI_mod, iI_lt, iI_le, iI_eq, iI_nat, iI_vp, ld_rd, ld_wl, lu_s, lu_t, lu_c, lu_j, forall_eq, Int.toNat_natCast, true_and, and_true, not_true, not_false_iff, Classical.not_not, forall_const, iI_inj]
  refine ⟨fun z => (by first | exact z.elim | exact absurd rfl z | exact absurd z (by decide) | (exfalso; omega)), rg_L_law_993 hP ?_⟩
  simp (disch := omega) only [nl_0, nl_1, nl_2, nl_3, nl_4, nl_5, nl_6, nl_7, nl_8, nl_9, nl_10, nl_11, nl_12, nl_13, nl_14, nl_15, nl_16, nl_17, nl_18, nl_19, nl_20, nl_21, nl_22, nl_23, nl_24, nl_25, nl_26, nl_27, nl_28, nl_31, nl_32, nl_42, nl_44, nl_46, nl_48, nl_49, nl_50, nl_51, nl_60, nl_75, nl_76, nl_99, nl_100, nl_108, nl_114, nl_117, nl_126, nl_255, nl_999, nl_2401, nl_9999, nl_12345, nl_65536, nl_1000000, nl_1103515245, nl_2147483647, nl_30, nl_55, nl_107, nl_200, nl_512, nl_15485957, iI_0, iI_neg, iI_add, iI_sub, iI_mul, iI_div, iI_mod, iI_lt, iI_le, iI_eq, iI_nat, iI_vp, ld_rd, ld_wl, lu_s, lu_t, lu_c, lu_j, forall_eq, Int.toNat_natCast, true_and, and_true, not_true, not_false_iff, Classical.not_not, forall_const, iI_inj, e1]
  exact hend
