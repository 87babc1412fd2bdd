/-! contracts: the class's supply -/
/-- from a label the method runs to an answer and a memory -/
def Rn (c : mj_C) (k pc : Nat) (ls : mj_L) (M : mj_M) (r : Option mj_V) (N : mj_M) : Prop := ∀ e : Nat, k ≤ e → ∀ P : Nat → mj_L → List mj_V → mj_M → Prop, mj_Cl c (mj_Sp e) (0 < e) P (fun v M1 => v = r ∧ mj_eq M1 N) → mj_Q P → P pc ls [] M
theorem wl_s {N : mj_M} {p t c j : Nat} {v : Int32} : mj_wl N (p, t, c, j) v p t c j = v := by
  unfold mj_wl mj_up mj_us
  rw [if_pos rfl]
  exact if_pos ⟨rfl, rfl, rfl⟩
theorem wl_n {N : mj_M} {p t c j p' t' c' j' : Nat} {v : Int32} (h : p' ≠ p ∨ t' ≠ t ∨ c' ≠ c ∨ j' ≠ j) : mj_wl N (p, t, c, j) v p' t' c' j' = N p' t' c' j' := by
  unfold mj_wl mj_up mj_us
  dsimp only
  by_cases g : p' = p
  · rw [if_pos g, if_neg (by omega), g]
  · rw [if_neg g]
theorem wl_p {N : mj_M} {p t c j p' : Nat} {v : Int32} (h : p' ≠ p) : mj_wl N (p, t, c, j) v p' = N p' := by
  funext t' c' j'
  exact wl_n (Or.inl h)
theorem wl_ld {M : mj_M} {i p t c j : Nat} {A : lA} {v : Int32} (h : 10 ≤ t) : mj_wl (mj_ld M i A) (p, t, c, j) v = mj_ld (mj_wl M (p, t, c, j) v) i A := ld_wn (Or.inr h)
theorem fr.tr {ps : List Nat} {N N' N'' : mj_M} (h : fr ps N N') (g : fr ps N' N'') : fr ps N N'' := fun i hi => (g i hi).trans (h i hi)
theorem fr.wl {ps : List Nat} {N N' : mj_M} (h : fr ps N N') {p t c j : Nat} {v : Int32} (hp : p ∈ ps) : fr ps N (mj_wl N' (p, t, c, j) v) := fun i hi => by
  have hip : i ≠ p := fun e => by subst e; exact hi hp
  rw [wl_p hip]
  exact h i hi
theorem fr.sM {ps : List Nat} {N N' : mj_M} (h : fr ps N N') (hM : mj_sM N) (h40 : 40 ∉ ps) : mj_sM N' := ⟨fun j hj => by rw [h 40 h40]; exact hM.1 j hj, fun j hj => by rw [h 40 h40]; exact hM.2 j hj⟩
theorem ld_p {M : mj_M} {i k : Nat} {A : lA} (h : k ≠ i) : mj_ld M i A k = M k := fr_ld h
theorem WD.wl {M : mj_M} {p n q t c j : Nat} {S F : Nat → Int} {v : Int32} (h : WD M p n S F) (hq : q ≠ p) : WD (mj_wl M (q, t, c, j) v) p n S F := by
  unfold WD
  rw [wl_p (fun e => hq e.symm)]
  exact h
theorem ld_abs {K : mj_M} {i : Nat} {A : lA} (h : ∀ t c j, t < 10 → K i t c j = iI (A t c j)) : mj_ld K i A = K := by
  funext i' t c j
  unfold mj_ld
  by_cases g : i' = i ∧ t < 10
  · rw [if_pos g, g.1, h t c j g.2]
  · rw [if_neg g]
/-- a trial land: it has the hour, the counts and the homes of the land -/
def TL (A T : lA) : Prop := LI T ∧ ∀ t i j, t = 0 ∨ t = 5 → T t i j = A t i j
theorem tk_at {B A : lA} {c t i j : Nat} : tk B A c t i j = if ((t = 1 ∨ t = 2 ∨ t = 3) ∧ i = 0 ∧ j = c) ∨ (t = 4 ∧ i = c) then A t i j else B t i j := rfl
theorem TL_tk {A T : lA} (hA : LI A) (h : TL A T) {c : Nat} (hc : c < 6) : TL A (tk T A c) := by
  have e05 : ∀ t i j, t = 0 ∨ t = 5 → tk T A c t i j = A t i j := fun t i j ht => by
    rw [tk_at, if_neg (by omega)]
    exact h.2 t i j ht
  have hv : nV (tk T A c) = nV A := by unfold nV; rw [e05 _ _ _ (by omega)]
  have hv2 : nV T = nV A := by unfold nV; rw [h.2 _ _ _ (by omega)]
  have hT := h.1
  refine ⟨⟨by rw [e05 _ _ _ (by omega)]; exact hA.1, by rw [e05 _ _ _ (by omega)]; exact hA.2.1, by rw [e05 _ _ _ (by omega)]; exact hA.2.2.1, by rw [e05 _ _ _ (by omega)]; exact hA.2.2.2.1, fun c' hc' => ?_, fun c' hc' => ?_, fun c' hc' => ?_, fun c' v hc' hv' => ?_, fun c' v hc' hv' hn => ?_, fun v hv' => by rw [e05 _ _ _ (by omega)]; exact hA.hm hv', fun u v hu hv' e => ?_⟩, e05⟩
  · rw [tk_at]
    split
    · exact hA.kd hc'
    · exact hT.kd hc'
  · rw [tk_at]
    split
    · exact hA.fd hc'
    · exact hT.fd hc'
  · rw [tk_at]
    split
    · exact hA.wa hc'
    · exact hT.wa hc'
  · rw [tk_at]
    split
    · exact hA.st hc' hv'
    · exact hT.st hc' hv'
  · rw [tk_at]
    split
    · exact hA.s0 hc' hv' (by omega)
    · exact hT.s0 hc' hv' (by omega)
  · rw [e05 _ _ _ (by omega), e05 _ _ _ (by omega)] at e
    exact hA.ap (by omega) (by omega) e
theorem LI.l4 {A : lA} (h : LI A) {c v : Nat} {x : Int} (hx : 0 ≤ x ∧ x ≤ 9) (hv : v < nV A) : LI (lu A 4 c v x) := by
  refine ⟨h.1, h.2.1, h.2.2.1, h.2.2.2.1, fun c hc => h.kd hc, fun c hc => h.fd hc, fun c hc => h.wa hc, fun c' v' hc' hv' => ?_, fun c' v' hc' hv' hn => ?_, fun v hv => h.hm hv, fun u v hu hv e => h.ap hu hv e⟩
  · unfold lu
    split
    · exact hx
    · exact h.st hc' hv'
  · have hn2 : nV A ≤ v' := hn
    unfold lu
    rw [if_neg (by omega)]
    exact h.s0 hc' hv' hn2
theorem TL.fo {A T : lA} (h : TL A T) {n c : Nat} {S F : Nat → Int} (hc : c < 6) (m : Nat) : TL A (fo T n S F c m) := ⟨fo_LI h.1 hc m, fun t i j ht => (fo_lo (by omega) m).trans (h.2 t i j ht)⟩
/-- the trial's land behind a gain by strings -/
def g1 (A T : lA) (v n : Nat) (S F : Nat → Int) (m c s : Nat) : lA := fo (lu (lu (tk T A c) 4 c v s) 8 0 v 0) n S F c m
def gG (A : lA) (v n : Nat) (S F : Nat → Int) (m c s : Nat) : Int := ga (lu A 4 c v s) n S F c v m
theorem g1_TL {A T : lA} (hA : LI A) (h : TL A T) {v n m c s : Nat} {S F : Nat → Int} (hc : c < 6) (hv : v < nV A) (hs : s ≤ 9) : TL A (lu (lu (tk T A c) 4 c v s) 8 0 v 0) := by
  have h1 := TL_tk hA h hc
  refine ⟨(h1.1.l4 (by omega) ?_).hi (by decide), fun t i j ht => ?_⟩
  · have : nV (tk T A c) = nV A := by unfold nV; rw [h1.2 _ _ _ (by omega)]
    omega
  · rw [lu_t (by omega), lu_t (by omega)]
    exact h1.2 t i j ht
theorem g1_ag {A T : lA} (h : ∀ t i j, t = 0 ∨ t = 5 → T t i j = A t i j) {v c s : Nat} : ag c (lu (lu (tk T A c) 4 c v s) 8 0 v 0) (lu A 4 c v s) := fun t i j z => by
  unfold vw at z
  rw [lu_t (by omega)]
  unfold lu
  split
  · rfl
  · rw [tk_at]
    split
    · rfl
    · exact h t i j (by omega)
theorem sp_gainBy {d v n m c s : Nat} (hd : 6 ≤ d) {A T : lA} {N : mj_M} {S F : Nat → Int} (hA : LI A) (hh : 0 ≤ A 0 0 2 ∧ A 0 0 2 ≤ 9999) (h : TL A T) (hM : mj_sM N) (hW : WD N 23 n S F) (src : ∀ t c j, t < 10 → N 0 t c j = iI (A t c j)) (hv : v < nV A) (hc : c < nC A) (hs : s ≤ 9) (hm : m ≤ 12) : mj_Sp d 49 [mj_r (11, 21, 0), mj_r (0, 0, 0), mj_i (iI (v : Int)), mj_i (iI (m : Int)), mj_i (iI (c : Int)), mj_i (iI (s : Int))] (mj_ld N 3 T) (some (mj_i (iI (gG A v n S F m c s)))) (mj_ld N 3 (g1 A T v n S F m c s)) := by
  have h1 := hA.nc
  have h2 := hA.nv
  have h3 := g1_TL (n := n) (S := S) (F := F) (m := m) (s := s) hA h (show c < 6 by omega) hv hs
  have e8 : g1 A T v n S F m c s 8 0 v = gG A v n S F m c s := by
    unfold g1
    rw [fo_wet, lu_s, (g1_ag h.2).k_ga ?_ m, Int.zero_add]
    · rfl
    · rw [h3.2 _ _ _ (by omega), lu_t (by decide)]
  refine en_Su_gainBy (k := 5) hd fun e he P hP hQ => rg_Su_gainBy_0 hP ?_
  refine ⟨_, sp_takeCloud (by omega) (by omega) (by decide) src, ?_⟩
  simp (disch := omega) only [nl_0, nl_1, nl_2, nl_3, nl_4, nl_5, nl_6, nl_7, nl_8, nl_9, nl_10, nl_11, nl_12, nl_13, nl_14, nl_15, nl_16, nl_17, nl_18, nl_19, nl_20, nl_21, nl_22, nl_23, nl_24, nl_25, nl_26, nl_27, nl_28, nl_31, nl_32, nl_42, nl_44, nl_46, nl_48, nl_49, nl_50, nl_51, nl_60, nl_75, nl_76, nl_99, nl_100, nl_108, nl_114, nl_117, nl_126, nl_255, nl_999, nl_2401, nl_9999, nl_12345, nl_65536, nl_1000000, nl_1103515245, nl_2147483647, iI_0, iI_neg, iI_add, iI_sub, iI_mul, iI_div, iI_mod, iI_lt, iI_le, iI_eq, iI_nat, iI_vp, ld_rd, ld_wl, lu_s, lu_t, lu_c, lu_j, forall_eq, Int.toNat_natCast, true_and, and_true, not_true, not_false_iff, Classical.not_not, forall_const, iI_inj]
  refine ⟨_, sp_follow (by omega) hM (by decide) h3.1 ?_ hW ?_ (by omega), ?_⟩
  · show c < (lu (lu (tk T A c) 4 c v s) 8 0 v 0 0 0 0).toNat
    rw [h3.2 _ _ _ (by omega)]
    exact hc
  · rw [h3.2 _ _ _ (by omega)]
    omega
  · have e9 : fo (lu (lu (tk T A c) 4 c v s) 8 0 v 0) n S F c m 8 0 v = gG A v n S F m c s := e8
    simp (disch := omega) only [nl_0, nl_1, nl_2, nl_3, nl_4, nl_5, nl_6, nl_7, nl_8, nl_9, nl_10, nl_11, nl_12, nl_13, nl_14, nl_15, nl_16, nl_17, nl_18, nl_19, nl_20, nl_21, nl_22, nl_23, nl_24, nl_25, nl_26, nl_27, nl_28, nl_31, nl_32, nl_42, nl_44, nl_46, nl_48, nl_49, nl_50, nl_51, nl_60, nl_75, nl_76, nl_99, nl_100, nl_108, nl_114, nl_117, nl_126, nl_255, nl_999, nl_2401, nl_9999, nl_12345, nl_65536, nl_1000000, nl_1103515245, nl_2147483647, iI_0, iI_neg, iI_add, iI_sub, iI_mul, iI_div, iI_mod, iI_lt, iI_le, iI_eq, iI_nat, iI_vp, ld_rd, ld_wl, lu_s, lu_t, lu_c, lu_j, forall_eq, Int.toNat_natCast, true_and, and_true, not_true, not_false_iff, Classical.not_not, forall_const, iI_inj, e9]
    (first | exact mj_eq.rf | exact fi_n mj_eq.rf | exact fi_i rfl mj_eq.rf | exact rfl)
def gg (A : lA) (v n : Nat) (S F : Nat → Int) (m c s : Nat) : Int := if op A c then gG A v n S F m c s else if s = 0 then 0 else -1000000
theorem gg_r {A : lA} (hA : LI A) {v n m c s : Nat} {S F : Nat → Int} (hv : v < nV A) (hs : s ≤ 9) (hm : m ≤ 12) : -1000000 ≤ gg A v n S F m c s ∧ gg A v n S F m c s ≤ 60 := by
  have h1 := hA.nc
  unfold gg
  by_cases h : op A c
  · rw [if_pos h]
    have := ga_r (hA.l4 (x := (s : Int)) (c := c) (by omega) hv) (n := n) (v := v) (S := S) (F := F) (show c < 6 by have := h.1; omega) m
    unfold gG
    omega
  · rw [if_neg h]
    split <;> omega
/-- the gains that are known, and what stays -/
def GI (N0 : mj_M) (A : lA) (v n : Nat) (S F : Nat → Int) (m has : Nat) (N : mj_M) (c s : Nat) : Prop := fr [3, 11, 23] N0 N ∧ WD N 23 n S F ∧ (∀ j, N 11 26 6 j = N0 11 26 6 j) ∧ (∀ c', c' < c → ∀ s', s' ≤ has → N 11 24 c' s' = iI (gg A v n S F m c' s')) ∧ ∀ s', s' < s → N 11 24 c s' = iI (gg A v n S F m c s')
theorem GI.wr {N0 N : mj_M} {A : lA} {v n m has c s : Nat} {S F : Nat → Int} (h : GI N0 A v n S F m has N c s) {x : Int} (hx : x = gg A v n S F m c s) : GI N0 A v n S F m has (mj_wl N (11, 24, c, s) (iI x)) c (s + 1) := by
  subst hx
  refine ⟨h.1.wl (by decide), h.2.1.wl (by decide), fun j => by rw [wl_n (by omega)]; exact h.2.2.1 j, fun c' hc' s' hs' => by rw [wl_n (by omega)]; exact h.2.2.2.1 c' hc' s' hs', fun s' hs' => ?_⟩
  by_cases e : s' = s
  · subst e; exact wl_s
  · rw [wl_n (by omega)]
    exact h.2.2.2.2 s' (by omega)
theorem sp_SuLearnGains {v n m has : Nat} {A : lA} {M : mj_M} {S F : Nat → Int} (hA : LI A) (hh : 0 ≤ A 0 0 2 ∧ A 0 0 2 ≤ 9999) (hM : mj_sM M) (hW : WD M 20 n S F) (hv : v < nV A) (hm : m ≤ 12) (hs : has ≤ 9) : ∃ N', (∀ d, 7 ≤ d → mj_Sp d 48 [mj_r (11, 21, 0), mj_r (0, 0, 0), mj_i (iI (v : Int)), mj_i (iI (m : Int)), mj_i (iI (has : Int))] (mj_ld M 0 A) none N') ∧ GI (mj_ld M 0 A) A v n S F m has N' 6 0 := by
  have h1 := hA.nc
  have h2 := hA.nv
  have hM0 : mj_sM (mj_ld M 0 A) := hM.ld (by decide)
  have base : ∀ (c s : Nat) (N : mj_M) (T : lA), GI (mj_ld M 0 A) A v n S F m has N c s → mj_sM N ∧ WD N 23 n S F ∧ (∀ t c j, t < 10 → N 0 t c j = iI (A t c j)) := fun c s N T h => ⟨h.1.sM hM0 (by decide), h.2.1, fun t c j ht => by rw [h.1 0 (by decide)]; exact ld_rd ht⟩
  have outer : ∀ c, c ≤ 6 → ∀ N T o6 o7, GI (mj_ld M 0 A) A v n S F m has N c 0 → TL A T → ∃ N', GI (mj_ld M 0 A) A v n S F m has N' 6 0 ∧ Rn mj_c48 6 11 [some (mj_r (11, 21, 0)), some (mj_r (0, 0, 0)), some (mj_i (iI (v : Int))), some (mj_i (iI (m : Int))), some (mj_i (iI (has : Int))), some (mj_i (iI (c : Int))), o6, o7] (mj_ld N 3 T) none N' := by
    refine lp_dn (Q := fun c => ∀ N T o6 o7, GI (mj_ld M 0 A) A v n S F m has N c 0 → TL A T → ∃ N', GI (mj_ld M 0 A) A v n S F m has N' 6 0 ∧ Rn mj_c48 6 11 [some (mj_r (11, 21, 0)), some (mj_r (0, 0, 0)), some (mj_i (iI (v : Int))), some (mj_i (iI (m : Int))), some (mj_i (iI (has : Int))), some (mj_i (iI (c : Int))), o6, o7] (mj_ld N 3 T) none N') (n := 6) (fun N T o6 o7 hN hT => ?_) (fun c hc ih N T o6 o7 hN hT => ?_)
    · refine ⟨mj_ld N 3 T, ⟨fun i hi => ?_, hN.2.1.ld, fun j => by rw [ld_p (by decide)]; exact hN.2.2.1 j, fun c' hc' s' hs' => by rw [ld_p (by decide)]; exact hN.2.2.2.1 c' hc' s' hs', fun s' hs' => by omega⟩, fun e he P hP hQ => rg_Su_learnGains_11 hP ⟨fun z => by (first | exact mj_eq.rf | exact fi_n mj_eq.rf | exact fi_i rfl mj_eq.rf | exact rfl), fun z => ?_⟩⟩
      · rw [ld_p (fun e => hi (by rw [e]; decide))]
        exact hN.1 i hi
      · simp (disch := omega) only [nl_0, nl_1, nl_2, nl_3, nl_4, nl_5, nl_6, nl_7, nl_8, nl_9, nl_10, nl_11, nl_12, nl_13, nl_14, nl_15, nl_16, nl_17, nl_18, nl_19, nl_20, nl_21, nl_22, nl_23, nl_24, nl_25, nl_26, nl_27, nl_28, nl_31, nl_32, nl_42, nl_44, nl_46, nl_48, nl_49, nl_50, nl_51, nl_60, nl_75, nl_76, nl_99, nl_100, nl_108, nl_114, nl_117, nl_126, nl_255, nl_999, nl_2401, nl_9999, nl_12345, nl_65536, nl_1000000, nl_1103515245, nl_2147483647, iI_0, iI_neg, iI_add, iI_sub, iI_mul, iI_div, iI_mod, iI_lt, iI_le, iI_eq, iI_nat, iI_vp, ld_rd, ld_wl, lu_s, lu_t, lu_c, lu_j, forall_eq, Int.toNat_natCast, true_and, and_true, not_true, not_false_iff, Classical.not_not, forall_const, iI_inj] at z
        omega
    · have inner : ∀ s, s ≤ has + 1 → 1 ≤ s → ∀ N T, GI (mj_ld M 0 A) A v n S F m has N c s → TL A T → ∃ N', GI (mj_ld M 0 A) A v n S F m has N' 6 0 ∧ Rn mj_c48 6 57 [some (mj_r (11, 21, 0)), some (mj_r (0, 0, 0)), some (mj_i (iI (v : Int))), some (mj_i (iI (m : Int))), some (mj_i (iI (has : Int))), some (mj_i (iI (c : Int))), some (mj_i (iI (if op A c then 1 else 0))), some (mj_i (iI (s : Int)))] (mj_ld N 3 T) none N' := by
        refine lp_dn (Q := fun s => 1 ≤ s → ∀ N T, GI (mj_ld M 0 A) A v n S F m has N c s → TL A T → ∃ N', GI (mj_ld M 0 A) A v n S F m has N' 6 0 ∧ Rn mj_c48 6 57 [some (mj_r (11, 21, 0)), some (mj_r (0, 0, 0)), some (mj_i (iI (v : Int))), some (mj_i (iI (m : Int))), some (mj_i (iI (has : Int))), some (mj_i (iI (c : Int))), some (mj_i (iI (if op A c then 1 else 0))), some (mj_i (iI (s : Int)))] (mj_ld N 3 T) none N') (n := has + 1) (fun h1s N T hN hT => ?_) (fun s hs ih2 h1s N T hN hT => ?_)
        · obtain ⟨N', hG, hR⟩ := ih N T (some (mj_i (iI (if op A c then 1 else 0)))) (some (mj_i (iI ((has + 1 : Nat) : Int)))) ⟨hN.1, hN.2.1, hN.2.2.1, fun c' hc' s' hs' => by
            by_cases e : c' = c
            · subst e; exact hN.2.2.2.2 s' (by omega)
            · exact hN.2.2.2.1 c' (by omega) s' hs', fun s' hs' => by omega⟩ hT
          refine ⟨N', hG, fun e he P hP hQ => rg_Su_learnGains_57 hP ⟨fun z => ?_, fun z => ?_⟩⟩
          · simp (disch := omega) only [nl_0, nl_1, nl_2, nl_3, nl_4, nl_5, nl_6, nl_7, nl_8, nl_9, nl_10, nl_11, nl_12, nl_13, nl_14, nl_15, nl_16, nl_17, nl_18, nl_19, nl_20, nl_21, nl_22, nl_23, nl_24, nl_25, nl_26, nl_27, nl_28, nl_31, nl_32, nl_42, nl_44, nl_46, nl_48, nl_49, nl_50, nl_51, nl_60, nl_75, nl_76, nl_99, nl_100, nl_108, nl_114, nl_117, nl_126, nl_255, nl_999, nl_2401, nl_9999, nl_12345, nl_65536, nl_1000000, nl_1103515245, nl_2147483647, iI_0, iI_neg, iI_add, iI_sub, iI_mul, iI_div, iI_mod, iI_lt, iI_le, iI_eq, iI_nat, iI_vp, ld_rd, ld_wl, lu_s, lu_t, lu_c, lu_j, forall_eq, Int.toNat_natCast, true_and, and_true, not_true, not_false_iff, Classical.not_not, forall_const, iI_inj]
            exact hR e he P hP hQ
          · simp (disch := omega) only [nl_0, nl_1, nl_2, nl_3, nl_4, nl_5, nl_6, nl_7, nl_8, nl_9, nl_10, nl_11, nl_12, nl_13, nl_14, nl_15, nl_16, nl_17, nl_18, nl_19, nl_20, nl_21, nl_22, nl_23, nl_24, nl_25, nl_26, nl_27, nl_28, nl_31, nl_32, nl_42, nl_44, nl_46, nl_48, nl_49, nl_50, nl_51, nl_60, nl_75, nl_76, nl_99, nl_100, nl_108, nl_114, nl_117, nl_126, nl_255, nl_999, nl_2401, nl_9999, nl_12345, nl_65536, nl_1000000, nl_1103515245, nl_2147483647, iI_0, iI_neg, iI_add, iI_sub, iI_mul, iI_div, iI_mod, iI_lt, iI_le, iI_eq, iI_nat, iI_vp, ld_rd, ld_wl, lu_s, lu_t, lu_c, lu_j, forall_eq, Int.toNat_natCast, true_and, and_true, not_true, not_false_iff, Classical.not_not, forall_const, iI_inj] at z
            omega
        · have hb := base c s N T hN
          by_cases ho : op A c
          · have egg : gG A v n S F m c s = gg A v n S F m c s := (if_pos ho).symm
            obtain ⟨N', hG, hR⟩ := ih2 (by omega) (mj_wl N (11, 24, c, s) (iI (gG A v n S F m c s))) (g1 A T v n S F m c s) (hN.wr egg) ((g1_TL (n := n) (S := S) (F := F) (m := m) hA hT hc hv (by omega)).fo hc m)
            refine ⟨N', hG, fun e he P hP hQ => rg_Su_learnGains_57 hP ⟨fun z => ?_, fun z => ?_⟩⟩
            · simp (disch := omega) only [nl_0, nl_1, nl_2, nl_3, nl_4, nl_5, nl_6, nl_7, nl_8, nl_9, nl_10, nl_11, nl_12, nl_13, nl_14, nl_15, nl_16, nl_17, nl_18, nl_19, nl_20, nl_21, nl_22, nl_23, nl_24, nl_25, nl_26, nl_27, nl_28, nl_31, nl_32, nl_42, nl_44, nl_46, nl_48, nl_49, nl_50, nl_51, nl_60, nl_75, nl_76, nl_99, nl_100, nl_108, nl_114, nl_117, nl_126, nl_255, nl_999, nl_2401, nl_9999, nl_12345, nl_65536, nl_1000000, nl_1103515245, nl_2147483647, iI_0, iI_neg, iI_add, iI_sub, iI_mul, iI_div, iI_mod, iI_lt, iI_le, iI_eq, iI_nat, iI_vp, ld_rd, ld_wl, lu_s, lu_t, lu_c, lu_j, forall_eq, Int.toNat_natCast, true_and, and_true, not_true, not_false_iff, Classical.not_not, forall_const, iI_inj] at z
              omega
            · simp (disch := omega) only [nl_0, nl_1, nl_2, nl_3, nl_4, nl_5, nl_6, nl_7, nl_8, nl_9, nl_10, nl_11, nl_12, nl_13, nl_14, nl_15, nl_16, nl_17, nl_18, nl_19, nl_20, nl_21, nl_22, nl_23, nl_24, nl_25, nl_26, nl_27, nl_28, nl_31, nl_32, nl_42, nl_44, nl_46, nl_48, nl_49, nl_50, nl_51, nl_60, nl_75, nl_76, nl_99, nl_100, nl_108, nl_114, nl_117, nl_126, nl_255, nl_999, nl_2401, nl_9999, nl_12345, nl_65536, nl_1000000, nl_1103515245, nl_2147483647, iI_0, iI_neg, iI_add, iI_sub, iI_mul, iI_div, iI_mod, iI_lt, iI_le, iI_eq, iI_nat, iI_vp, ld_rd, ld_wl, lu_s, lu_t, lu_c, lu_j, forall_eq, Int.toNat_natCast, true_and, and_true, not_true, not_false_iff, Classical.not_not, forall_const, iI_inj]
              rw [if_pos ho] at hR ⊢
              refine ⟨fun z => absurd z (by decide), fun z => ⟨_, _, sp_gainBy (by omega) hA hh hT hb.1 hb.2.1 hb.2.2 hv ho.1 (by omega) hm, ?_⟩⟩
              rw [wl_ld (by decide)]
              exact hR e he P hP hQ
          · obtain ⟨N', hG, hR⟩ := ih2 (by omega) (mj_wl N (11, 24, c, s) (iI (-1000000))) T (hN.wr (by unfold gg; rw [if_neg ho, if_neg (by omega)])) hT
            refine ⟨N', hG, fun e he P hP hQ => rg_Su_learnGains_57 hP ⟨fun z => ?_, fun z => ?_⟩⟩
            · simp (disch := omega) only [nl_0, nl_1, nl_2, nl_3, nl_4, nl_5, nl_6, nl_7, nl_8, nl_9, nl_10, nl_11, nl_12, nl_13, nl_14, nl_15, nl_16, nl_17, nl_18, nl_19, nl_20, nl_21, nl_22, nl_23, nl_24, nl_25, nl_26, nl_27, nl_28, nl_31, nl_32, nl_42, nl_44, nl_46, nl_48, nl_49, nl_50, nl_51, nl_60, nl_75, nl_76, nl_99, nl_100, nl_108, nl_114, nl_117, nl_126, nl_255, nl_999, nl_2401, nl_9999, nl_12345, nl_65536, nl_1000000, nl_1103515245, nl_2147483647, iI_0, iI_neg, iI_add, iI_sub, iI_mul, iI_div, iI_mod, iI_lt, iI_le, iI_eq, iI_nat, iI_vp, ld_rd, ld_wl, lu_s, lu_t, lu_c, lu_j, forall_eq, Int.toNat_natCast, true_and, and_true, not_true, not_false_iff, Classical.not_not, forall_const, iI_inj] at z
              omega
            · simp (disch := omega) only [nl_0, nl_1, nl_2, nl_3, nl_4, nl_5, nl_6, nl_7, nl_8, nl_9, nl_10, nl_11, nl_12, nl_13, nl_14, nl_15, nl_16, nl_17, nl_18, nl_19, nl_20, nl_21, nl_22, nl_23, nl_24, nl_25, nl_26, nl_27, nl_28, nl_31, nl_32, nl_42, nl_44, nl_46, nl_48, nl_49, nl_50, nl_51, nl_60, nl_75, nl_76, nl_99, nl_100, nl_108, nl_114, nl_117, nl_126, nl_255, nl_999, nl_2401, nl_9999, nl_12345, nl_65536, nl_1000000, nl_1103515245, nl_2147483647, iI_0, iI_neg, iI_add, iI_sub, iI_mul, iI_div, iI_mod, iI_lt, iI_le, iI_eq, iI_nat, iI_vp, ld_rd, ld_wl, lu_s, lu_t, lu_c, lu_j, forall_eq, Int.toNat_natCast, true_and, and_true, not_true, not_false_iff, Classical.not_not, forall_const, iI_inj]
              rw [if_neg ho] at hR ⊢
              refine ⟨fun _ => ?_, fun z => absurd rfl z⟩
              rw [wl_ld (by decide)]
              exact hR e he P hP hQ
      have hb := base c 0 N T hN
      have eK : mj_ld (mj_ld N 3 T) 0 A = mj_ld N 3 T := ld_abs fun t i j ht => by rw [ld_ne (by decide)]; exact hb.2.2 t i j ht
      have hov : ∀ e, 6 ≤ e → mj_Sp e 29 [mj_r (0, 0, 0), mj_i (iI (c : Int))] (mj_ld N 3 T) (some (mj_i (iI (if op A c then 1 else 0)))) (mj_ld N 3 T) := fun e he => by
        have h := sp_isOver (d := e) (i := 0) (by omega) (A := A) (M := mj_ld N 3 T) (z := (c : Int)) (by omega) hA
        rw [eK] at h
        have e1 : (if (0 ≤ (c : Int) ∧ (c : Int) < A 0 0 0) ∧ A 2 0 (c : Int).toNat ≠ 25 then (1 : Int) else 0) = if op A c then 1 else 0 := by
          by_cases ho : op A c
          · rw [if_pos ho, if_pos ⟨by have := ho.1; omega, ho.2⟩]
          · rw [if_neg ho, if_neg (fun z => ho ⟨by omega, z.2⟩)]
        rw [e1] at h
        exact h
      by_cases ho : op A c
      · have egg : gG A v n S F m c 0 = gg A v n S F m c 0 := (if_pos ho).symm
        obtain ⟨N', hG, hR⟩ := inner 1 (by omega) (by omega) (mj_wl N (11, 24, c, 0) (iI (gG A v n S F m c 0))) (g1 A T v n S F m c 0) (hN.wr egg) ((g1_TL (n := n) (S := S) (F := F) (m := m) hA hT hc hv (by omega)).fo hc m)
        refine ⟨N', hG, fun e he P hP hQ => rg_Su_learnGains_11 hP ⟨fun z => ?_, fun z => ⟨_, _, hov e he, ?_⟩⟩⟩
        · simp (disch := omega) only [nl_0, nl_1, nl_2, nl_3, nl_4, nl_5, nl_6, nl_7, nl_8, nl_9, nl_10, nl_11, nl_12, nl_13, nl_14, nl_15, nl_16, nl_17, nl_18, nl_19, nl_20, nl_21, nl_22, nl_23, nl_24, nl_25, nl_26, nl_27, nl_28, nl_31, nl_32, nl_42, nl_44, nl_46, nl_48, nl_49, nl_50, nl_51, nl_60, nl_75, nl_76, nl_99, nl_100, nl_108, nl_114, nl_117, nl_126, nl_255, nl_999, nl_2401, nl_9999, nl_12345, nl_65536, nl_1000000, nl_1103515245, nl_2147483647, iI_0, iI_neg, iI_add, iI_sub, iI_mul, iI_div, iI_mod, iI_lt, iI_le, iI_eq, iI_nat, iI_vp, ld_rd, ld_wl, lu_s, lu_t, lu_c, lu_j, forall_eq, Int.toNat_natCast, true_and, and_true, not_true, not_false_iff, Classical.not_not, forall_const, iI_inj] at z
          omega
        · simp (disch := omega) only [nl_0, nl_1, nl_2, nl_3, nl_4, nl_5, nl_6, nl_7, nl_8, nl_9, nl_10, nl_11, nl_12, nl_13, nl_14, nl_15, nl_16, nl_17, nl_18, nl_19, nl_20, nl_21, nl_22, nl_23, nl_24, nl_25, nl_26, nl_27, nl_28, nl_31, nl_32, nl_42, nl_44, nl_46, nl_48, nl_49, nl_50, nl_51, nl_60, nl_75, nl_76, nl_99, nl_100, nl_108, nl_114, nl_117, nl_126, nl_255, nl_999, nl_2401, nl_9999, nl_12345, nl_65536, nl_1000000, nl_1103515245, nl_2147483647, iI_0, iI_neg, iI_add, iI_sub, iI_mul, iI_div, iI_mod, iI_lt, iI_le, iI_eq, iI_nat, iI_vp, ld_rd, ld_wl, lu_s, lu_t, lu_c, lu_j, forall_eq, Int.toNat_natCast, true_and, and_true, not_true, not_false_iff, Classical.not_not, forall_const, iI_inj]
          rw [if_pos ho] at hR ⊢
          refine ⟨fun z => absurd z (by decide), fun z => ⟨_, _, sp_gainBy (s := 0) (by omega) hA hh hT hb.1 hb.2.1 hb.2.2 hv ho.1 (by omega) hm, ?_⟩⟩
          rw [wl_ld (by decide)]
          exact hR e he P hP hQ
      · obtain ⟨N', hG, hR⟩ := inner 1 (by omega) (by omega) (mj_wl N (11, 24, c, 0) (iI 0)) T (hN.wr (by unfold gg; rw [if_neg ho, if_pos rfl])) hT
        refine ⟨N', hG, fun e he P hP hQ => rg_Su_learnGains_11 hP ⟨fun z => ?_, fun z => ⟨_, _, hov e he, ?_⟩⟩⟩
        · simp (disch := omega) only [nl_0, nl_1, nl_2, nl_3, nl_4, nl_5, nl_6, nl_7, nl_8, nl_9, nl_10, nl_11, nl_12, nl_13, nl_14, nl_15, nl_16, nl_17, nl_18, nl_19, nl_20, nl_21, nl_22, nl_23, nl_24, nl_25, nl_26, nl_27, nl_28, nl_31, nl_32, nl_42, nl_44, nl_46, nl_48, nl_49, nl_50, nl_51, nl_60, nl_75, nl_76, nl_99, nl_100, nl_108, nl_114, nl_117, nl_126, nl_255, nl_999, nl_2401, nl_9999, nl_12345, nl_65536, nl_1000000, nl_1103515245, nl_2147483647, iI_0, iI_neg, iI_add, iI_sub, iI_mul, iI_div, iI_mod, iI_lt, iI_le, iI_eq, iI_nat, iI_vp, ld_rd, ld_wl, lu_s, lu_t, lu_c, lu_j, forall_eq, Int.toNat_natCast, true_and, and_true, not_true, not_false_iff, Classical.not_not, forall_const, iI_inj] at z
          omega
        · simp (disch := omega) only [nl_0, nl_1, nl_2, nl_3, nl_4, nl_5, nl_6, nl_7, nl_8, nl_9, nl_10, nl_11, nl_12, nl_13, nl_14, nl_15, nl_16, nl_17, nl_18, nl_19, nl_20, nl_21, nl_22, nl_23, nl_24, nl_25, nl_26, nl_27, nl_28, nl_31, nl_32, nl_42, nl_44, nl_46, nl_48, nl_49, nl_50, nl_51, nl_60, nl_75, nl_76, nl_99, nl_100, nl_108, nl_114, nl_117, nl_126, nl_255, nl_999, nl_2401, nl_9999, nl_12345, nl_65536, nl_1000000, nl_1103515245, nl_2147483647, iI_0, iI_neg, iI_add, iI_sub, iI_mul, iI_div, iI_mod, iI_lt, iI_le, iI_eq, iI_nat, iI_vp, ld_rd, ld_wl, lu_s, lu_t, lu_c, lu_j, forall_eq, Int.toNat_natCast, true_and, and_true, not_true, not_false_iff, Classical.not_not, forall_const, iI_inj]
          rw [if_neg ho] at hR ⊢
          refine ⟨fun _ => ?_, fun z => absurd rfl z⟩
          rw [wl_ld (by decide)]
          exact hR e he P hP hQ
  have hN0 : GI (mj_ld M 0 A) A v n S F m has (wcp (mj_ld M 0 A) (20 + 0) (20 + 3)) 0 0 := by
    refine ⟨fun i hi => wcp_ne (fun e => hi (by rw [e]; decide)), hW.ld.cp, fun j => by rw [wcp_ne (by decide)], fun c' hc' => absurd hc' (Nat.not_lt_zero c'), fun s' hs' => absurd hs' (Nat.not_lt_zero s')⟩
  obtain ⟨N', hG, hR⟩ := outer 0 (by decide) _ A none none hN0 ⟨hA, fun _ _ _ _ => rfl⟩
  refine ⟨N', fun d hd => en_Su_learnGains (k := 6) hd fun e he P hP hQ => rg_Su_learnGains_0 hP ?_, hG⟩
  have st := sp_start (d := e) (i0 := 3) (i1 := 0) (by omega) (A := A) (B := lT (mj_ld M 0 A) 3) (M := mj_ld M 0 A) (by decide) ld_src
  rw [ld_self] at st
  exact ⟨_, st, hR e he P hP hQ⟩
