/-! villages that lay all their string: sets as bits -/
abbrev ch (A : lA) (x : Nat) : Prop := x = 6 ∨ op A x
/-- how many choices are ahead of one -/
def cn (A : lA) : Nat → Nat
  | 0 => 0
  | x + 1 => cn A x + if ch A x then 1 else 0
theorem cn_le {A : lA} : ∀ x, cn A x ≤ x
  | 0 => Nat.le_refl 0
  | x + 1 => by
    have := cn_le (A := A) x
    show cn A x + (if ch A x then 1 else 0) ≤ x + 1
    split <;> omega
theorem cn_y {A : lA} {x : Nat} (h : ch A x) : cn A (x + 1) = cn A x + 1 := by
  show cn A x + (if ch A x then 1 else 0) = _
  rw [if_pos h]
theorem cn_n {A : lA} {x : Nat} (h : ¬ ch A x) : cn A (x + 1) = cn A x := by
  show cn A x + (if ch A x then 1 else 0) = _
  rw [if_neg h]
  rfl
theorem cn_mono {A : lA} {x : Nat} : ∀ y, x ≤ y → cn A x ≤ cn A y
  | 0, h => by rw [show x = 0 by omega]; exact Nat.le_refl _
  | y + 1, h => by
    by_cases e : x = y + 1
    · rw [e]; exact Nat.le_refl _
    · have := cn_mono (A := A) (x := x) y (by omega)
      by_cases g : ch A y
      · rw [cn_y g]; omega
      · rw [cn_n g]; exact this
theorem cn_lt {A : lA} {x y : Nat} (h : ch A x) (hxy : x < y) : cn A x < cn A y := by
  have := cn_mono (A := A) (x := x + 1) y hxy
  rw [cn_y h] at this
  omega
theorem cn_inj {A : lA} {x y : Nat} (hx : ch A x) (hy : ch A y) (e : cn A x = cn A y) : x = y := by
  by_cases g : x < y
  · have := cn_lt hx g; omega
  · by_cases g2 : y < x
    · have := cn_lt hy g2; omega
    · omega
/-- a land on which of some villages each lays its string by one set on all clouds -/
def lyc (A : lA) (L s : Nat) : lA := fun t i j => if t = 4 ∧ j < 4 ∧ L.testBit j = true then (if s.testBit j = true then A 6 0 j else 0) else A t i j
theorem lyc_lo {A : lA} {L s t i j : Nat} (h : t ≠ 4) : lyc A L s t i j = A t i j := if_neg fun z => h z.1
theorem lyc_LI {A : lA} (h : LJ A) {L s : Nat} : LI (lyc A L s) := by
  have hl := h.li
  have hs : ∀ v, v < 4 → 0 ≤ A 6 0 v ∧ A 6 0 v ≤ 9 := fun v hv => by
    have := h.sg hv
    have := h.t0 hv
    omega
  refine ⟨hl.1, hl.2.1, hl.2.2.1, hl.2.2.2.1, fun c hc => hl.kd hc, fun c hc => hl.fd hc, fun c hc => hl.wa hc, fun c' v' hc' hv' => ?_, fun c' v' hc' hv' hn => ?_, fun v hv => hl.hm hv, fun u v hu hv e => hl.ap hu hv e⟩
  · have := hs v' hv'
    unfold lyc
    split
    · split <;> omega
    · exact hl.st hc' hv'
  · have hn2 : nV A ≤ v' := hn
    unfold lyc
    split
    · split
      · exact h.z6 hv' hn2
      · rfl
    · exact hl.s0 hc' hv' hn2
def GL (A : lA) (L n : Nat) (S F : Nat → Int) (m c s v : Nat) : Int := ga (lyc A L s) n S F c v m
/-- a land on which of some villages each lays its string on one cloud -/
def rl (A : lA) (L : Nat) (ph : Nat → Nat) : lA := fun t i j => if t = 4 ∧ j < 4 ∧ L.testBit j = true then (if ph j = i then A 6 0 j else 0) else A t i j
theorem rl_lo {A : lA} {L t i j : Nat} {ph : Nat → Nat} (h : t ≠ 4) : rl A L ph t i j = A t i j := if_neg fun z => h z.1
theorem rl_LI {A : lA} (h : LJ A) {L : Nat} {ph : Nat → Nat} : LI (rl A L ph) := by
  have hl := h.li
  have hs : ∀ v, v < 4 → 0 ≤ A 6 0 v ∧ A 6 0 v ≤ 9 := fun v hv => by
    have := h.sg hv
    have := h.t0 hv
    omega
  refine ⟨hl.1, hl.2.1, hl.2.2.1, hl.2.2.2.1, fun c hc => hl.kd hc, fun c hc => hl.fd hc, fun c hc => hl.wa hc, fun c' v' hc' hv' => ?_, fun c' v' hc' hv' hn => ?_, fun v hv => hl.hm hv, fun u v hu hv e => hl.ap hu hv e⟩
  · have := hs v' hv'
    unfold rl
    split
    · split <;> omega
    · exact hl.st hc' hv'
  · have hn2 : nV A ≤ v' := hn
    unfold rl
    split
    · split
      · exact h.z6 hv' hn2
      · rfl
    · exact hl.s0 hc' hv' hn2
theorem rl_ag {A : lA} {L s c : Nat} {ph : Nat → Nat} (h : ∀ j, j < 4 → L.testBit j = true → (ph j = c ↔ s.testBit j = true)) : ag c (rl A L ph) (lyc A L s) := fun t i j z => by
  unfold vw at z
  unfold rl lyc
  by_cases g : t = 4 ∧ j < 4 ∧ L.testBit j = true
  · have hi : i = c := by omega
    rw [if_pos g, if_pos g, hi]
    by_cases g2 : ph j = c
    · rw [if_pos g2, if_pos ((h j g.2.1 g.2.2).mp g2)]
    · rw [if_neg g2, if_neg (fun z => g2 ((h j g.2.1 g.2.2).mpr z))]
  · rw [if_neg g, if_neg g]
/-- what all clouds give, by sets -/
def gsum (A : lA) (L n : Nat) (S F : Nat → Int) (m : Nat) (s : Nat → Nat) (v : Nat) : Nat → Int := sm (fun c => if op A c then GL A L n S F m c (s c) v else 0)
theorem rl_wet {A : lA} (hA : LI A) {L n m v : Nat} {S F : Nat → Int} {ph s : Nat → Nat} (h : ∀ c, c < 6 → ∀ j, j < 4 → L.testBit j = true → (ph j = c ↔ (s c).testBit j = true)) : gs (rl A L ph) n S F m 8 0 v = A 8 0 v + gsum A L n S F m s v 6 := by
  have h1 := hA.nc
  have e0 : nC (rl A L ph) = nC A := rfl
  have e8 : rl A L ph 8 0 v = A 8 0 v := rl_lo (by decide)
  rw [gs_wet, e0, e8]
  congr 1
  unfold gsum
  rw [sm_0 (s := fun c => if op A c then GL A L n S F m c (s c) v else 0) 6 h1.2 (fun c hc1 hc2 => if_neg (fun z => by have := z.1; omega))]
  refine sm_c _ (fun c hc => ?_)
  by_cases ho : op A c
  · rw [if_pos ho, (rl_ag (h c (by omega))).k_ga rfl m]
    rfl
  · have h25 : A 2 0 c = 25 := Classical.byContradiction fun h => ho ⟨hc, h⟩
    rw [if_neg ho, ga_aw (show rl A L ph 2 0 c = 25 from h25)]
theorem GL_r {A : lA} (h : LJ A) {L n m c s v : Nat} {S F : Nat → Int} (hc : c < 6) : 0 ≤ GL A L n S F m c s v ∧ GL A L n S F m c s v ≤ 5 * m := ga_r (lyc_LI h) hc m
theorem gsum_r {A : lA} (h : LJ A) {L n m v : Nat} {S F : Nat → Int} {s : Nat → Nat} : 0 ≤ gsum A L n S F m s v 6 ∧ gsum A L n S F m s v 6 ≤ 5 * m * 6 := by
  have hb : ∀ c, c < 6 → 0 ≤ (if op A c then GL A L n S F m c (s c) v else 0) ∧ (if op A c then GL A L n S F m c (s c) v else 0) ≤ 5 * (m : Int) := fun c hc => by
    have := GL_r h (L := L) (n := n) (m := m) (s := s c) (v := v) (S := S) (F := F) hc
    split <;> omega
  exact ⟨sm_nn 6 (fun c hc => (hb c hc).1), sm_le 6 (fun c hc => (hb c hc).2)⟩
/-! bits of small numbers -/
theorem bt_sub : ∀ s : Fin 16, ∀ l : Fin 16, (decide (iI (s.val : Int) &&& (iI (l.val : Int) ^^^ iI (-1)) = iI 0)) = decide (s.val &&& l.val = s.val) := by decide +kernel
theorem bt_bit : ∀ s : Fin 16, ∀ v : Fin 4, (decide ((iI (s.val : Int) >>> (iI (v.val : Int) &&& 31)) &&& iI 1 = iI 1)) = s.val.testBit v.val := by decide +kernel
theorem bt_one : ∀ v : Fin 4, iI 1 <<< (iI (v.val : Int) &&& 31) = iI ((1 <<< v.val : Nat) : Int) := by decide +kernel
theorem bt_or : ∀ s : Fin 16, ∀ l : Fin 16, iI (s.val : Int) ||| iI (l.val : Int) = iI ((s.val ||| l.val : Nat) : Int) := by decide +kernel
theorem bt_all : ∀ v : Fin 5, iI 1 <<< (iI (v.val : Int) &&& 31) - iI 1 = iI ((1 <<< v.val - 1 : Nat) : Int) := by decide +kernel
theorem b_sub {s l : Nat} (hs : s < 16) (hl : l < 16) : (iI (s : Int) &&& (iI (l : Int) ^^^ iI (-1)) = iI 0) = (s &&& l = s) := by
  have := bt_sub ⟨s, hs⟩ ⟨l, hl⟩
  exact propext (by rw [decide_eq_decide] at this; exact this)
theorem b_bit {s v : Nat} (hs : s < 16) (hv : v < 4) : ((iI (s : Int) >>> (iI (v : Int) &&& 31)) &&& iI 1 = iI 1) = (s.testBit v = true) := by
  have := bt_bit ⟨s, hs⟩ ⟨v, hv⟩
  exact propext ⟨fun h => by rw [← this]; exact decide_eq_true h, fun h => by rw [← this] at h; exact of_decide_eq_true h⟩
theorem b_one {v : Nat} (hv : v < 4) : iI 1 <<< (iI (v : Int) &&& 31) = iI ((1 <<< v : Nat) : Int) := bt_one ⟨v, hv⟩
theorem b_or {s l : Nat} (hs : s < 16) (hl : l < 16) : iI (s : Int) ||| iI (l : Int) = iI ((s ||| l : Nat) : Int) := bt_or ⟨s, hs⟩ ⟨l, hl⟩
theorem b_all {v : Nat} (hv : v < 5) : iI 1 <<< (iI (v : Int) &&& 31) - iI 1 = iI ((1 <<< v - 1 : Nat) : Int) := bt_all ⟨v, hv⟩
/-! contracts: the laying's gains -/
/-- what is laid of a cloud, up to a village -/
def lb (A T : lA) (c L s k : Nat) : lA := fun t i j => if t = 4 ∧ i = c ∧ j < k ∧ L.testBit j = true then (if s.testBit j = true then A 6 0 j else 0) else tk T A c t i j
theorem lb_0 {A T : lA} {c L s : Nat} : lb A T c L s 0 = tk T A c := by
  funext t i j
  exact if_neg (by omega)
theorem lb_n {A T : lA} {c L s k : Nat} (h : ¬ L.testBit k = true) : lb A T c L s (k + 1) = lb A T c L s k := by
  funext t i j
  unfold lb
  by_cases g : t = 4 ∧ i = c ∧ j < k ∧ L.testBit j = true
  · rw [if_pos g, if_pos ⟨g.1, g.2.1, by omega, g.2.2.2⟩]
  · rw [if_neg g, if_neg (fun z => by
      by_cases e : j = k
      · exact h (e ▸ z.2.2.2)
      · exact g ⟨z.1, z.2.1, by omega, z.2.2.2⟩)]
theorem lb_y {A T : lA} {c L s k : Nat} (h : L.testBit k = true) : lu (lb A T c L s k) 4 c k (if s.testBit k = true then A 6 0 k else 0) = lb A T c L s (k + 1) := by
  funext t i j
  unfold lu lb
  by_cases e : t = 4 ∧ i = c ∧ j = k
  · obtain ⟨e1, e2, e3⟩ := e
    subst e1
    subst e2
    subst e3
    rw [if_pos ⟨rfl, rfl, rfl⟩]
    exact (if_pos ⟨rfl, rfl, by omega, h⟩).symm
  · rw [if_neg e]
    by_cases g : t = 4 ∧ i = c ∧ j < k ∧ L.testBit j = true
    · rw [if_pos g]
      exact (if_pos ⟨g.1, g.2.1, by omega, g.2.2.2⟩).symm
    · rw [if_neg g, if_neg (fun z => by
        by_cases e2 : j = k
        · exact e ⟨z.1, z.2.1, e2⟩
        · exact g ⟨z.1, z.2.1, by omega, z.2.2.2⟩)]
theorem lb_hi {A T : lA} {c L s k t i j : Nat} (h : t = 0 ∨ t = 5) (hT : ∀ t i j, t = 0 ∨ t = 5 → T t i j = A t i j) : lb A T c L s k t i j = A t i j := by
  unfold lb
  rw [if_neg (by omega), tk_at, if_neg (by omega)]
  exact hT t i j h
theorem sp_layBy {d c L s : Nat} (hd : 3 ≤ d) {A T : lA} {N : mj_M} (hA : LJ A) (src : ∀ t c j, t < 10 → N 0 t c j = iI (A t c j)) (hc : c < 6) (hL : L < 16) (hs : s < 16) : mj_Sp d 60 [mj_r (12, 30, 0), mj_r (0, 0, 0), mj_i (iI (L : Int)), mj_i (iI (c : Int)), mj_i (iI (s : Int))] (mj_ld N 4 T) none (mj_ld N 4 (lb A T c L s 4)) := by
  refine en_Ly_layBy (k := 2) hd fun e he P hP hQ => rg_Ly_layBy_0 hP ⟨_, sp_takeCloud (by omega) hc (by decide) src, ?_⟩
  rw [← lb_0 (L := L) (s := s)]
  refine lp_dn (Q := fun k => P 19 [some (mj_r (12, 30, 0)), some (mj_r (0, 0, 0)), some (mj_i (iI (L : Int))), some (mj_i (iI (c : Int))), some (mj_i (iI (s : Int))), some (mj_r (4, 0, 0)), some (mj_i (iI (k : Int)))] [] (mj_ld N 4 (lb A T c L s k))) (n := 4) ?_ (fun k hk ih => ?_) 0 (Nat.zero_le _)
  · refine rg_Ly_layBy_19 hP ⟨fun z => by (first | exact mj_eq.rf | exact fi_n mj_eq.rf | exact fi_i rfl mj_eq.rf | exact rfl), fun z => ?_⟩
    simp (disch := omega) only [nl_0, nl_1, nl_2, nl_3, nl_4, nl_5, nl_6, nl_7, nl_8, nl_9, nl_10, nl_11, nl_12, nl_13, nl_14, nl_15, nl_16, nl_17, nl_18, nl_19, nl_20, nl_21, nl_22, nl_23, nl_24, nl_25, nl_26, nl_27, nl_28, nl_31, nl_32, nl_42, nl_44, nl_46, nl_48, nl_49, nl_50, nl_51, nl_60, nl_75, nl_76, nl_99, nl_100, nl_108, nl_114, nl_117, nl_126, nl_255, nl_999, nl_2401, nl_9999, nl_12345, nl_65536, nl_1000000, nl_1103515245, nl_2147483647, iI_0, iI_neg, iI_add, iI_sub, iI_mul, iI_div, iI_mod, iI_lt, iI_le, iI_eq, iI_nat, iI_vp, ld_rd, ld_wl, lu_s, lu_t, lu_c, lu_j, forall_eq, Int.toNat_natCast, true_and, and_true, not_true, not_false_iff, Classical.not_not, forall_const, iI_inj] at z
    omega
  · have r6 : mj_ld N 4 (lb A T c L s k) 0 6 0 k = iI (A 6 0 k) := (ld_ne (by decide)).trans (src _ _ _ (by decide))
    have b1 : ((iI (L : Int) >>> (iI (k : Int) &&& 31)) &&& iI 1 = iI 1) = (L.testBit k = true) := b_bit hL hk
    have b2 : ((iI (s : Int) >>> (iI (k : Int) &&& 31)) &&& iI 1 = iI 1) = (s.testBit k = true) := b_bit hs hk
    refine rg_Ly_layBy_19 hP ⟨fun z => ?_, fun z => ?_⟩
    · simp (disch := omega) only [nl_0, nl_1, nl_2, nl_3, nl_4, nl_5, nl_6, nl_7, nl_8, nl_9, nl_10, nl_11, nl_12, nl_13, nl_14, nl_15, nl_16, nl_17, nl_18, nl_19, nl_20, nl_21, nl_22, nl_23, nl_24, nl_25, nl_26, nl_27, nl_28, nl_31, nl_32, nl_42, nl_44, nl_46, nl_48, nl_49, nl_50, nl_51, nl_60, nl_75, nl_76, nl_99, nl_100, nl_108, nl_114, nl_117, nl_126, nl_255, nl_999, nl_2401, nl_9999, nl_12345, nl_65536, nl_1000000, nl_1103515245, nl_2147483647, iI_0, iI_neg, iI_add, iI_sub, iI_mul, iI_div, iI_mod, iI_lt, iI_le, iI_eq, iI_nat, iI_vp, ld_rd, ld_wl, lu_s, lu_t, lu_c, lu_j, forall_eq, Int.toNat_natCast, true_and, and_true, not_true, not_false_iff, Classical.not_not, forall_const, iI_inj] at z
      omega
    · simp (disch := omega) only [nl_0, nl_1, nl_2, nl_3, nl_4, nl_5, nl_6, nl_7, nl_8, nl_9, nl_10, nl_11, nl_12, nl_13, nl_14, nl_15, nl_16, nl_17, nl_18, nl_19, nl_20, nl_21, nl_22, nl_23, nl_24, nl_25, nl_26, nl_27, nl_28, nl_31, nl_32, nl_42, nl_44, nl_46, nl_48, nl_49, nl_50, nl_51, nl_60, nl_75, nl_76, nl_99, nl_100, nl_108, nl_114, nl_117, nl_126, nl_255, nl_999, nl_2401, nl_9999, nl_12345, nl_65536, nl_1000000, nl_1103515245, nl_2147483647, iI_0, iI_neg, iI_add, iI_sub, iI_mul, iI_div, iI_mod, iI_lt, iI_le, iI_eq, iI_nat, iI_vp, ld_rd, ld_wl, lu_s, lu_t, lu_c, lu_j, forall_eq, Int.toNat_natCast, true_and, and_true, not_true, not_false_iff, Classical.not_not, forall_const, iI_inj, b1, b2, r6]
      refine ⟨fun z1 => ?_, fun z1 => ⟨fun z2 => ?_, fun z2 => ?_⟩⟩
      · rw [lb_n z1] at ih
        exact ih
      · have e := lb_y (A := A) (T := T) (c := c) (s := s) z1
        rw [if_neg z2] at e
        rw [e]
        exact ih
      · have e := lb_y (A := A) (T := T) (c := c) (s := s) z1
        rw [if_pos z2] at e
        rw [e]
        exact ih
/-- the wetness of a land is none -/
def w0 (A : lA) : lA := fun t i j => if t = 8 ∧ i = 0 ∧ j < 4 then 0 else A t i j
theorem fl_w0 {N : mj_M} {i : Nat} {A : lA} : mj_fl (mj_ld N i A) i 8 0 4 (iI 0) = mj_ld N i (w0 A) := by
  funext i' t c' j
  unfold mj_fl mj_ld w0
  by_cases h : i' = i ∧ t = 8 ∧ c' = 0 ∧ j < 4
  · rw [if_pos h, if_pos ⟨h.1, by omega⟩, if_pos h.2]
  · rw [if_neg h]
    by_cases h2 : i' = i ∧ t < 10
    · rw [if_pos h2, if_pos h2, if_neg (fun z => h ⟨h2.1, z⟩)]
    · rw [if_neg h2, if_neg h2]
theorem sp_fillw {d i : Nat} (hd : 1 ≤ d) {M : mj_M} {A : lA} : mj_Sp d 149 [mj_r (i, 8, 0), mj_i (iI 0)] (mj_ld M i A) none (mj_ld M i (w0 A)) := by
  have h := sp_fill hd (i := i) (t := 8) (c := 0) (n := 4) (M := mj_ld M i A) (v := iI 0) (by decide) rfl rfl (by decide)
  rw [fl_w0] at h
  exact h
theorem w0_hi {A : lA} {t i j : Nat} (h : t ≠ 8) : w0 A t i j = A t i j := if_neg fun z => h z.1
theorem lw_TL {A T : lA} (hA : LJ A) (h : TL A T) {c L s : Nat} (hc : c < 6) : TL A (w0 (lb A T c L s 4)) := by
  have e05 : ∀ t i j, t = 0 ∨ t = 5 → w0 (lb A T c L s 4) t i j = A t i j := fun t i j ht => by
    rw [w0_hi (by omega)]
    exact lb_hi ht h.2
  have ht := (TL_tk hA.li h hc).1
  have hs : ∀ v, v < 4 → 0 ≤ A 6 0 v ∧ A 6 0 v ≤ 9 := fun v hv => by
    have := hA.sg hv
    have := hA.t0 hv
    omega
  have eV : nV (w0 (lb A T c L s 4)) = nV A := by unfold nV; rw [e05 _ _ _ (by omega)]
  have eT : nV (tk T A c) = nV A := by unfold nV; rw [(TL_tk hA.li h hc).2 _ _ _ (by omega)]
  have eo : ∀ t i j, t ≠ 8 → t ≠ 4 → w0 (lb A T c L s 4) t i j = tk T A c t i j := fun t i j h8 h4 => by
    rw [w0_hi h8]
    exact if_neg (fun z => h4 z.1)
  refine ⟨⟨by rw [e05 _ _ _ (by omega)]; exact hA.li.1, by rw [e05 _ _ _ (by omega)]; exact hA.li.2.1, by rw [e05 _ _ _ (by omega)]; exact hA.li.2.2.1, by rw [e05 _ _ _ (by omega)]; exact hA.li.2.2.2.1, fun c' hc' => by rw [eo _ _ _ (by decide) (by decide)]; exact ht.kd hc', fun c' hc' => by rw [eo _ _ _ (by decide) (by decide)]; exact ht.fd hc', fun c' hc' => by rw [eo _ _ _ (by decide) (by decide)]; exact ht.wa hc', fun c' v hc' hv => ?_, fun c' v hc' hv hn => ?_, fun v hv => by rw [e05 _ _ _ (by omega)]; exact hA.li.hm hv, fun u v hu hv e => ?_⟩, e05⟩
  · rw [w0_hi (by decide)]
    unfold lb
    have := hs v hv
    split
    · split <;> omega
    · exact ht.st hc' hv
  · rw [w0_hi (by decide)]
    unfold lb
    split
    · split
      · exact hA.z6 hv (by omega)
      · rfl
    · exact ht.s0 hc' hv (by omega)
  · rw [e05 _ _ _ (by omega), e05 _ _ _ (by omega)] at e
    exact hA.li.ap (by omega) (by omega) e
theorem lw_ag {A T : lA} (h : ∀ t i j, t = 0 ∨ t = 5 → T t i j = A t i j) {c L s : Nat} : ag c (w0 (lb A T c L s 4)) (lyc A L s) := fun t i j z => by
  unfold vw at z
  rw [w0_hi (by omega)]
  unfold lb lyc
  by_cases g : t = 4 ∧ j < 4 ∧ L.testBit j = true
  · rw [if_pos ⟨g.1, by omega, g.2⟩, if_pos g]
  · rw [if_neg (fun z => g ⟨z.1, z.2.2⟩), if_neg g, tk_at]
    split
    · rfl
    · exact h t i j (by omega)
/-- a row of four numbers laid into the gains -/
theorem cp_out {N : mj_M} {T : lA} {c s : Nat} : mj_cp (mj_ld N 4 T) (4, 8, 0) (12, 34, c) 0 (4 * s) 4 = mj_ld (fun i t c' j => if i = 12 ∧ t = 34 ∧ c' = c ∧ 4 * s ≤ j ∧ j < 4 * s + 4 then iI (T 8 0 (j - 4 * s)) else N i t c' j) 4 T := by
  funext i t c' j
  unfold mj_cp mj_up
  dsimp only
  by_cases h : i = 12
  · subst h
    rw [if_pos rfl]
    by_cases g : t = 34 ∧ c' = c ∧ 4 * s ≤ j ∧ j < 4 * s + 4
    · rw [if_pos g, ld_rd (show 8 < 10 by decide), Nat.zero_add]
      exact ((ld_ne (show 12 ≠ 4 by decide)).trans (if_pos ⟨rfl, g⟩)).symm
    · rw [if_neg g, ld_ne (show 12 ≠ 4 by decide)]
      exact ((ld_ne (show 12 ≠ 4 by decide)).trans (if_neg (fun z => g z.2))).symm
  · rw [if_neg h]
    unfold mj_ld
    by_cases g : i = 4 ∧ t < 10
    · rw [if_pos g, if_pos g]
    · rw [if_neg g, if_neg g]
      dsimp only
      rw [if_neg (fun z => h z.1)]
/-- the gains that are known of a cloud, up to a set -/
def GN (A : lA) (L n : Nat) (S F : Nat → Int) (m : Nat) (N : mj_M) (c k : Nat) : Prop := ∀ s, s < k → s &&& L = s → ∀ v, v < 4 → N 12 34 c (4 * s + v) = iI (GL A L n S F m c s v)
theorem sp_LyLearnGains {c L n m : Nat} {A T : lA} {N0 : mj_M} {S F : Nat → Int} (hA : LJ A) (hM : mj_sM N0) (hW : WD N0 24 n S F) (src : ∀ t c j, t < 10 → N0 0 t c j = iI (A t c j)) (hT : TL A T) (hc : c < nC A) (hL : L < 16) (hm : m ≤ 12) : ∃ (N' : mj_M) (T' : lA), (∀ d, 6 ≤ d → mj_Sp d 59 [mj_r (12, 30, 0), mj_r (0, 0, 0), mj_i (iI (L : Int)), mj_i (iI (m : Int)), mj_i (iI (c : Int))] (mj_ld N0 4 T) none (mj_ld N' 4 T')) ∧ TL A T' ∧ fr [12] N0 N' ∧ (∀ t c' j, t ≠ 34 ∨ c' ≠ c → N' 12 t c' j = N0 12 t c' j) ∧ GN A L n S F m N' c 16 := by
  have h1 := hA.li.nc
  have hh := hA.ho
  have key : ∀ s : Nat, s ≤ 16 → ∀ N T, fr [12] N0 N → (∀ t c' j, t ≠ 34 ∨ c' ≠ c → N 12 t c' j = N0 12 t c' j) → GN A L n S F m N c s → TL A T → ∃ (N' : mj_M) (T' : lA), (TL A T' ∧ fr [12] N0 N' ∧ (∀ t c' j, t ≠ 34 ∨ c' ≠ c → N' 12 t c' j = N0 12 t c' j) ∧ GN A L n S F m N' c 16) ∧ Rn mj_c59 5 3 [some (mj_r (12, 30, 0)), some (mj_r (0, 0, 0)), some (mj_i (iI (L : Int))), some (mj_i (iI (m : Int))), some (mj_i (iI (c : Int))), some (mj_i (iI (s : Int)))] (mj_ld N 4 T) none (mj_ld N' 4 T') := by
    refine lp_dn (Q := fun s => ∀ N T, fr [12] N0 N → (∀ t c' j, t ≠ 34 ∨ c' ≠ c → N 12 t c' j = N0 12 t c' j) → GN A L n S F m N c s → TL A T → ∃ (N' : mj_M) (T' : lA), (TL A T' ∧ fr [12] N0 N' ∧ (∀ t c' j, t ≠ 34 ∨ c' ≠ c → N' 12 t c' j = N0 12 t c' j) ∧ GN A L n S F m N' c 16) ∧ Rn mj_c59 5 3 [some (mj_r (12, 30, 0)), some (mj_r (0, 0, 0)), some (mj_i (iI (L : Int))), some (mj_i (iI (m : Int))), some (mj_i (iI (c : Int))), some (mj_i (iI (s : Int)))] (mj_ld N 4 T) none (mj_ld N' 4 T')) (n := 16) (fun N T hf ho hG hT => ?_) (fun s hs ih N T hf ho hG hT => ?_)
    · refine ⟨N, T, ⟨hT, hf, ho, hG⟩, fun e he P hP hQ => rg_Ly_learnGains_3 hP ⟨fun z => by (first | exact mj_eq.rf | exact fi_n mj_eq.rf | exact fi_i rfl mj_eq.rf | exact rfl), fun z => ?_⟩⟩
      simp (disch := omega) only [nl_0, nl_1, nl_2, nl_3, nl_4, nl_5, nl_6, nl_7, nl_8, nl_9, nl_10, nl_11, nl_12, nl_13, nl_14, nl_15, nl_16, nl_17, nl_18, nl_19, nl_20, nl_21, nl_22, nl_23, nl_24, nl_25, nl_26, nl_27, nl_28, nl_31, nl_32, nl_42, nl_44, nl_46, nl_48, nl_49, nl_50, nl_51, nl_60, nl_75, nl_76, nl_99, nl_100, nl_108, nl_114, nl_117, nl_126, nl_255, nl_999, nl_2401, nl_9999, nl_12345, nl_65536, nl_1000000, nl_1103515245, nl_2147483647, iI_0, iI_neg, iI_add, iI_sub, iI_mul, iI_div, iI_mod, iI_lt, iI_le, iI_eq, iI_nat, iI_vp, ld_rd, ld_wl, lu_s, lu_t, lu_c, lu_j, forall_eq, Int.toNat_natCast, true_and, and_true, not_true, not_false_iff, Classical.not_not, forall_const, iI_inj] at z
      omega
    · have hb := b_sub (l := L) hs hL
      by_cases g : s &&& L = s
      · have hT2 := lw_TL (L := L) (s := s) hA hT (show c < 6 by omega)
        have hwet : ∀ v, v < 4 → fo (w0 (lb A T c L s 4)) n S F c m 8 0 v = GL A L n S F m c s v := fun v hv => by
          rw [fo_wet, (lw_ag hT.2).k_ga (by rw [hT2.2 _ _ _ (by omega), lyc_lo (by decide)]) m]
          have e0 : w0 (lb A T c L s 4) 8 0 v = 0 := if_pos ⟨rfl, rfl, hv⟩
          rw [e0, Int.zero_add]
          rfl
        obtain ⟨N', T', hG', hR⟩ := ih (fun i t c' j => if i = 12 ∧ t = 34 ∧ c' = c ∧ 4 * s ≤ j ∧ j < 4 * s + 4 then iI (fo (w0 (lb A T c L s 4)) n S F c m 8 0 (j - 4 * s)) else N i t c' j) (fo (w0 (lb A T c L s 4)) n S F c m) (fun i hi => by
          funext t c' j
          have : i ≠ 12 := fun e => hi (by rw [e]; decide)
          try dsimp only
          rw [if_neg (fun z => this z.1), hf i hi]) (fun t c' j h => by
          try dsimp only
          rw [if_neg (by omega)]
          exact ho t c' j h) (fun s' hs' hsub v hv => by
          try dsimp only
          by_cases e : s' = s
          · subst e
            rw [if_pos ⟨rfl, rfl, rfl, by omega, by omega⟩, show 4 * s' + v - 4 * s' = v by omega, hwet v hv]
          · rw [if_neg (by omega)]
            exact hG s' (by omega) hsub v hv) (hT2.fo (by omega) m)
        refine ⟨N', T', hG', fun e he P hP hQ => rg_Ly_learnGains_3 hP ⟨fun z => ?_, fun z => ?_⟩⟩
        · simp (disch := omega) only [nl_0, nl_1, nl_2, nl_3, nl_4, nl_5, nl_6, nl_7, nl_8, nl_9, nl_10, nl_11, nl_12, nl_13, nl_14, nl_15, nl_16, nl_17, nl_18, nl_19, nl_20, nl_21, nl_22, nl_23, nl_24, nl_25, nl_26, nl_27, nl_28, nl_31, nl_32, nl_42, nl_44, nl_46, nl_48, nl_49, nl_50, nl_51, nl_60, nl_75, nl_76, nl_99, nl_100, nl_108, nl_114, nl_117, nl_126, nl_255, nl_999, nl_2401, nl_9999, nl_12345, nl_65536, nl_1000000, nl_1103515245, nl_2147483647, iI_0, iI_neg, iI_add, iI_sub, iI_mul, iI_div, iI_mod, iI_lt, iI_le, iI_eq, iI_nat, iI_vp, ld_rd, ld_wl, lu_s, lu_t, lu_c, lu_j, forall_eq, Int.toNat_natCast, true_and, and_true, not_true, not_false_iff, Classical.not_not, forall_const, iI_inj] at z
          omega
        · have src2 : ∀ t c j, t < 10 → N 0 t c j = iI (A t c j) := fun t c j ht => by rw [hf 0 (by decide)]; exact src t c j ht
          have hM2 : mj_sM N := hf.sM hM (by decide)
          have hW2 : WD N 24 n S F := by
            unfold WD
            rw [hf 24 (by decide)]
            exact hW
          have t4 : ((s : Int) * 4).toNat = 4 * s := by omega
          simp (disch := omega) only [nl_0, nl_1, nl_2, nl_3, nl_4, nl_5, nl_6, nl_7, nl_8, nl_9, nl_10, nl_11, nl_12, nl_13, nl_14, nl_15, nl_16, nl_17, nl_18, nl_19, nl_20, nl_21, nl_22, nl_23, nl_24, nl_25, nl_26, nl_27, nl_28, nl_31, nl_32, nl_42, nl_44, nl_46, nl_48, nl_49, nl_50, nl_51, nl_60, nl_75, nl_76, nl_99, nl_100, nl_108, nl_114, nl_117, nl_126, nl_255, nl_999, nl_2401, nl_9999, nl_12345, nl_65536, nl_1000000, nl_1103515245, nl_2147483647, iI_0, iI_neg, iI_add, iI_sub, iI_mul, iI_div, iI_mod, iI_lt, iI_le, iI_eq, iI_nat, iI_vp, ld_rd, ld_wl, lu_s, lu_t, lu_c, lu_j, forall_eq, Int.toNat_natCast, true_and, and_true, not_true, not_false_iff, Classical.not_not, forall_const, iI_inj, hb, t4]
          refine ⟨fun z => absurd g z, fun _ => ⟨_, sp_layBy (by omega) hA src2 (by omega) hL hs, _, sp_fillw (by omega), _, sp_follow (by omega) hM2 (by decide) hT2.1 ?_ hW2 ?_ (by omega), by omega, by decide, by omega, by decide, by decide, by omega, ?_⟩⟩
          · show c < (w0 (lb A T c L s 4) 0 0 0).toNat
            rw [hT2.2 _ _ _ (by omega)]
            exact hc
          · rw [hT2.2 _ _ _ (by omega)]
            omega
          · rw [tn0, tn4, cp_out]
            exact hR e he P hP hQ
      · obtain ⟨N', T', hG', hR⟩ := ih N T hf ho (fun s' hs' hsub v hv => by
          by_cases e : s' = s
          · subst e; exact absurd hsub g
          · exact hG s' (by omega) hsub v hv) hT
        refine ⟨N', T', hG', fun e he P hP hQ => rg_Ly_learnGains_3 hP ⟨fun z => ?_, fun z => ?_⟩⟩
        · simp (disch := omega) only [nl_0, nl_1, nl_2, nl_3, nl_4, nl_5, nl_6, nl_7, nl_8, nl_9, nl_10, nl_11, nl_12, nl_13, nl_14, nl_15, nl_16, nl_17, nl_18, nl_19, nl_20, nl_21, nl_22, nl_23, nl_24, nl_25, nl_26, nl_27, nl_28, nl_31, nl_32, nl_42, nl_44, nl_46, nl_48, nl_49, nl_50, nl_51, nl_60, nl_75, nl_76, nl_99, nl_100, nl_108, nl_114, nl_117, nl_126, nl_255, nl_999, nl_2401, nl_9999, nl_12345, nl_65536, nl_1000000, nl_1103515245, nl_2147483647, iI_0, iI_neg, iI_add, iI_sub, iI_mul, iI_div, iI_mod, iI_lt, iI_le, iI_eq, iI_nat, iI_vp, ld_rd, ld_wl, lu_s, lu_t, lu_c, lu_j, forall_eq, Int.toNat_natCast, true_and, and_true, not_true, not_false_iff, Classical.not_not, forall_const, iI_inj] at z
          omega
        · simp (disch := omega) only [nl_0, nl_1, nl_2, nl_3, nl_4, nl_5, nl_6, nl_7, nl_8, nl_9, nl_10, nl_11, nl_12, nl_13, nl_14, nl_15, nl_16, nl_17, nl_18, nl_19, nl_20, nl_21, nl_22, nl_23, nl_24, nl_25, nl_26, nl_27, nl_28, nl_31, nl_32, nl_42, nl_44, nl_46, nl_48, nl_49, nl_50, nl_51, nl_60, nl_75, nl_76, nl_99, nl_100, nl_108, nl_114, nl_117, nl_126, nl_255, nl_999, nl_2401, nl_9999, nl_12345, nl_65536, nl_1000000, nl_1103515245, nl_2147483647, iI_0, iI_neg, iI_add, iI_sub, iI_mul, iI_div, iI_mod, iI_lt, iI_le, iI_eq, iI_nat, iI_vp, ld_rd, ld_wl, lu_s, lu_t, lu_c, lu_j, forall_eq, Int.toNat_natCast, true_and, and_true, not_true, not_false_iff, Classical.not_not, forall_const, iI_inj, hb]
          exact ⟨fun _ => hR e he P hP hQ, fun z => absurd z g⟩
  obtain ⟨N', T', hG, hR⟩ := key 0 (Nat.zero_le _) N0 T fr.r0 (fun _ _ _ _ => rfl) (fun s h => absurd h (Nat.not_lt_zero s)) hT
  exact ⟨N', T', fun d hd => en_Ly_learnGains (k := 5) hd fun e he P hP hQ => rg_Ly_learnGains_0 hP (hR e he P hP hQ), hG⟩
