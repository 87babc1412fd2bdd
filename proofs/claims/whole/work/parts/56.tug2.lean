/-! contracts: the class's pairs -/
theorem fl_at {M : mj_M} {i t c n j : Nat} {v : Int32} (h : j < n) : mj_fl M i t c n v i t c j = v := if_pos ⟨rfl, rfl, rfl, h⟩
theorem fl_ne {M : mj_M} {i t c n i' t' c' j : Nat} {v : Int32} (h : i' ≠ i ∨ t' ≠ t ∨ c' ≠ c ∨ n ≤ j) : mj_fl M i t c n v i' t' c' j = M i' t' c' j := if_neg (by omega)
theorem fl_p {M : mj_M} {i t c n i' : Nat} {v : Int32} (h : i' ≠ i) : mj_fl M i t c n v i' = M i' := by
  funext t' c' j
  exact fl_ne (Or.inl h)
def sT (a b x y c : Nat) : Nat := (if c = x then 1 <<< a else 0) ||| (if c = y then 1 <<< b else 0)
theorem sT_all : ∀ a b : Fin 4, ∀ p q : Bool, ((if p then 1 <<< a.val else 0) ||| (if q then 1 <<< b.val else 0)) < 16 ∧ (((if p then 1 <<< a.val else 0) ||| (if q then 1 <<< b.val else 0)) &&& (1 <<< a.val ||| 1 <<< b.val)) = ((if p then 1 <<< a.val else 0) ||| (if q then 1 <<< b.val else 0)) ∧ ∀ j : Fin 4, ((if p then 1 <<< a.val else 0) ||| (if q then 1 <<< b.val else 0)).testBit j.val = ((p && decide (j = a)) || (q && decide (j = b))) := by decide +kernel
theorem sT_b (a b x y c : Nat) : sT a b x y c = ((if decide (c = x) then 1 <<< a else 0) ||| (if decide (c = y) then 1 <<< b else 0)) := by
  unfold sT
  simp only [decide_eq_true_eq]
theorem sT_ok {a b x y c : Nat} (ha : a < 4) (hb : b < 4) : sT a b x y c < 16 ∧ sT a b x y c &&& (1 <<< a ||| 1 <<< b) = sT a b x y c := by
  have := sT_all ⟨a, ha⟩ ⟨b, hb⟩ (decide (c = x)) (decide (c = y))
  rw [sT_b]
  exact ⟨this.1, this.2.1⟩
theorem sT_bit {a b x y c j : Nat} (ha : a < 4) (hb : b < 4) (hj : j < 4) : (sT a b x y c).testBit j = true ↔ (c = x ∧ j = a) ∨ (c = y ∧ j = b) := by
  have := (sT_all ⟨a, ha⟩ ⟨b, hb⟩ (decide (c = x)) (decide (c = y))).2.2 ⟨j, hj⟩
  rw [sT_b]
  dsimp only at this
  rw [this]
  simp only [Bool.or_eq_true, Bool.and_eq_true, decide_eq_true_eq, Fin.mk.injEq]
theorem sL_ok {a b : Nat} (ha : a < 4) (hb : b < 4) : 1 <<< a < 16 ∧ 1 <<< b < 16 ∧ 1 <<< a ||| 1 <<< b < 16 := by
  have : ∀ a b : Fin 4, 1 <<< a.val < 16 ∧ 1 <<< b.val < 16 ∧ 1 <<< a.val ||| 1 <<< b.val < 16 := by decide
  exact this ⟨a, ha⟩ ⟨b, hb⟩
theorem sL_bit {a b j : Nat} (ha : a < 4) (hb : b < 4) (hj : j < 4) : (1 <<< a ||| 1 <<< b : Nat).testBit j = true ↔ j = a ∨ j = b := by
  have : ∀ a b j : Fin 4, (1 <<< a.val ||| 1 <<< b.val : Nat).testBit j.val = (decide (j = a) || decide (j = b)) := by decide +kernel
  rw [this ⟨a, ha⟩ ⟨b, hb⟩ ⟨j, hj⟩]
  simp only [Bool.or_eq_true, decide_eq_true_eq, Fin.mk.injEq]
def tW (A : lA) (a b n : Nat) (S F : Nat → Int) (m x y v : Nat) : Int := gsum A (1 <<< a ||| 1 <<< b) n S F m (sT a b x y) v 6
theorem sp_noteFound {d x y k : Nat} {N : mj_M} (hd : 1 ≤ d) (hk : k ≤ 1000) (h : N 12 30 0 1 = iI (k : Int)) : mj_Sp d 63 [mj_r (12, 30, 0), mj_i (iI (x : Int)), mj_i (iI (y : Int))] N none (if k = 0 then mj_wl (mj_wl (mj_wl N (12, 41, 0, 0) (iI (x : Int))) (12, 41, 0, 1) (iI (y : Int))) (12, 30, 0, 1) (iI ((k : Int) + 1)) else mj_wl N (12, 30, 0, 1) (iI ((k : Int) + 1))) := by
  refine en_Ly_noteFound (k := 0) hd fun e he P hP hQ => rg_Ly_noteFound_0 hP ?_
  by_cases g : k = 0
  · subst g
    rw [if_pos rfl]
    simp (disch := omega) only [nl_0, nl_1, nl_2, nl_3, nl_4, nl_5, nl_6, nl_7, nl_8, nl_9, nl_10, nl_11, nl_12, nl_13, nl_14, nl_15, nl_16, nl_17, nl_18, nl_19, nl_20, nl_21, nl_22, nl_23, nl_24, nl_25, nl_26, nl_27, nl_28, nl_31, nl_32, nl_42, nl_44, nl_46, nl_48, nl_49, nl_50, nl_51, nl_60, nl_75, nl_76, nl_99, nl_100, nl_108, nl_114, nl_117, nl_126, nl_255, nl_999, nl_2401, nl_9999, nl_12345, nl_65536, nl_1000000, nl_1103515245, nl_2147483647, iI_0, iI_neg, iI_add, iI_sub, iI_mul, iI_div, iI_mod, iI_lt, iI_le, iI_eq, iI_nat, iI_vp, ld_rd, ld_wl, lu_s, lu_t, lu_c, lu_j, forall_eq, Int.toNat_natCast, true_and, and_true, not_true, not_false_iff, Classical.not_not, forall_const, iI_inj, h, tn0]
    refine ⟨fun z => absurd rfl z, fun _ => ?_⟩
    have e : mj_wl (mj_wl N (12, 41, 0, 0) (iI (x : Int))) (12, 41, 0, (1 : Int).toNat) (iI (y : Int)) 12 30 0 1 = iI ((0 : Nat) : Int) := by rw [wl_n (by omega), wl_n (by omega)]; exact h
    simp (disch := omega) only [nl_0, nl_1, nl_2, nl_3, nl_4, nl_5, nl_6, nl_7, nl_8, nl_9, nl_10, nl_11, nl_12, nl_13, nl_14, nl_15, nl_16, nl_17, nl_18, nl_19, nl_20, nl_21, nl_22, nl_23, nl_24, nl_25, nl_26, nl_27, nl_28, nl_31, nl_32, nl_42, nl_44, nl_46, nl_48, nl_49, nl_50, nl_51, nl_60, nl_75, nl_76, nl_99, nl_100, nl_108, nl_114, nl_117, nl_126, nl_255, nl_999, nl_2401, nl_9999, nl_12345, nl_65536, nl_1000000, nl_1103515245, nl_2147483647, iI_0, iI_neg, iI_add, iI_sub, iI_mul, iI_div, iI_mod, iI_lt, iI_le, iI_eq, iI_nat, iI_vp, ld_rd, ld_wl, lu_s, lu_t, lu_c, lu_j, forall_eq, Int.toNat_natCast, true_and, and_true, not_true, not_false_iff, Classical.not_not, forall_const, iI_inj, e]
    (first | exact mj_eq.rf | exact fi_n mj_eq.rf | exact fi_i rfl mj_eq.rf | exact rfl)
  · rw [if_neg g]
    simp (disch := omega) only [nl_0, nl_1, nl_2, nl_3, nl_4, nl_5, nl_6, nl_7, nl_8, nl_9, nl_10, nl_11, nl_12, nl_13, nl_14, nl_15, nl_16, nl_17, nl_18, nl_19, nl_20, nl_21, nl_22, nl_23, nl_24, nl_25, nl_26, nl_27, nl_28, nl_31, nl_32, nl_42, nl_44, nl_46, nl_48, nl_49, nl_50, nl_51, nl_60, nl_75, nl_76, nl_99, nl_100, nl_108, nl_114, nl_117, nl_126, nl_255, nl_999, nl_2401, nl_9999, nl_12345, nl_65536, nl_1000000, nl_1103515245, nl_2147483647, iI_0, iI_neg, iI_add, iI_sub, iI_mul, iI_div, iI_mod, iI_lt, iI_le, iI_eq, iI_nat, iI_vp, ld_rd, ld_wl, lu_s, lu_t, lu_c, lu_j, forall_eq, Int.toNat_natCast, true_and, and_true, not_true, not_false_iff, Classical.not_not, forall_const, iI_inj, h]
    exact ⟨fun z => by (first | exact mj_eq.rf | exact fi_n mj_eq.rf | exact fi_i rfl mj_eq.rf | exact rfl), fun z => by omega⟩
theorem sp_findPairs {a b n m : Nat} {A : lA} {M : mj_M} {S F : Nat → Int} (hA : LJ A) (hM : mj_sM M) (hW : WD M 20 n S F) (ha : a < nV A) (hb : b < nV A) (hm : m ≤ 12) : ∃ N', (∀ d, 8 ≤ d → mj_Sp d 56 [mj_r (12, 30, 0), mj_r (0, 0, 0), mj_i (iI (a : Int)), mj_i (iI (b : Int)), mj_i (iI (m : Int))] (mj_ld M 0 A) none N') ∧ fr [4, 12, 24] (mj_ld M 0 A) N' ∧ N' 12 30 0 1 = iI (cK A (fun x y => tW A a b n S F m x y a) (fun x y => tW A a b n S F m x y b) 49 : Int) ∧ (cK A (fun x y => tW A a b n S F m x y a) (fun x y => tW A a b n S F m x y b) 49 ≠ 0 → ∃ p q : Nat, p < 7 ∧ q < 7 ∧ N' 12 41 0 0 = iI (p : Int) ∧ N' 12 41 0 1 = iI (q : Int) ∧ fK A (fun x y => tW A a b n S F m x y a) (fun x y => tW A a b n S F m x y b) 49 = 10 * (p : Int) + (q : Int)) := by
  have hnv := hA.li.nv
  have ha4 : a < 4 := by omega
  have hb4 : b < 4 := by omega
  have hsl := sL_ok ha4 hb4
  obtain ⟨N1, spp, f1, z1, P1⟩ := sp_prepare (L := 1 <<< a ||| 1 <<< b) (n := n) (m := m) hA hM hW hsl.2.2 hm
  have hor : iI ((1 <<< a : Nat) : Int) ||| iI ((1 <<< b : Nat) : Int) = iI ((1 <<< a ||| 1 <<< b : Nat) : Int) := b_or hsl.1 hsl.2.1
  have hoa := b_one ha4
  have hob := b_one hb4
  -- the second loops
  have hbd : ∀ x y, -1000 ≤ tW A a b n S F m x y a ∧ tW A a b n S F m x y a ≤ 1000 ∧ -1000 ≤ tW A a b n S F m x y b ∧ tW A a b n S F m x y b ≤ 1000 := fun x y => by
    have e1 := gsum_r hA (L := 1 <<< a ||| 1 <<< b) (n := n) (m := m) (v := a) (S := S) (F := F) (s := sT a b x y)
    have e2 := gsum_r hA (L := 1 <<< a ||| 1 <<< b) (n := n) (m := m) (v := b) (S := S) (F := F) (s := sT a b x y)
    unfold tW
    omega
  have h77 := cn_le (A := A) 7
  generalize hW1 : (fun x y => tW A a b n S F m x y a) = W1
  generalize hW2 : (fun x y => tW A a b n S F m x y b) = W2
  have w1e : ∀ x y, tW A a b n S F m x y a = W1 x y := fun x y => by rw [← hW1]
  have w2e : ∀ x y, tW A a b n S F m x y b = W2 x y := fun x y => by rw [← hW2]
  have hbd2 : ∀ x y, -1000 ≤ W1 x y ∧ W1 x y ≤ 1000 ∧ -1000 ≤ W2 x y ∧ W2 x y ≤ 1000 := fun x y => by
    rw [← w1e, ← w2e]
    exact hbd x y
  clear hW1 hW2
  -- the state of the second loops
  have second : ∀ N, fr [4, 12, 24] (mj_ld M 0 A) N → PR A (1 <<< a ||| 1 <<< b) n S F m N → N 12 30 0 1 = iI 0 → (∀ x y, x < 7 → y < 7 → ch A x → ch A y → N 12 38 (cn A x) (cn A y) = iI (W1 x y) ∧ N 12 40 (cn A x) (cn A y) = iI (W2 x y)) → ∀ o6, ∃ N', (fr [4, 12, 24] (mj_ld M 0 A) N' ∧ N' 12 30 0 1 = iI (cK A W1 W2 49 : Int) ∧ (cK A W1 W2 49 ≠ 0 → ∃ p q : Nat, p < 7 ∧ q < 7 ∧ N' 12 41 0 0 = iI (p : Int) ∧ N' 12 41 0 1 = iI (q : Int) ∧ fK A W1 W2 49 = 10 * (p : Int) + (q : Int))) ∧ Rn mj_c56 7 127 [some (mj_r (12, 30, 0)), some (mj_r (0, 0, 0)), some (mj_i (iI (a : Int))), some (mj_i (iI (b : Int))), some (mj_i (iI (m : Int))), some (mj_i (iI 0)), o6] N none N' := by
    intro N0 hf0 hP0 hz0 hw0
    have key : ∀ x, x ≤ 7 → ∀ N o6, (fr [4, 12, 24] (mj_ld M 0 A) N ∧ (∀ t c j, t = 31 ∨ t = 34 ∨ t = 38 ∨ t = 40 → N 12 t c j = N0 12 t c j) ∧ N 12 30 0 0 = N0 12 30 0 0) → N 12 30 0 1 = iI (cK A W1 W2 (7 * x) : Int) → (cK A W1 W2 (7 * x) ≠ 0 → ∃ p q : Nat, p < 7 ∧ q < 7 ∧ N 12 41 0 0 = iI (p : Int) ∧ N 12 41 0 1 = iI (q : Int) ∧ fK A W1 W2 (7 * x) = 10 * (p : Int) + (q : Int)) → ∃ N', (fr [4, 12, 24] (mj_ld M 0 A) N' ∧ N' 12 30 0 1 = iI (cK A W1 W2 49 : Int) ∧ (cK A W1 W2 49 ≠ 0 → ∃ p q : Nat, p < 7 ∧ q < 7 ∧ N' 12 41 0 0 = iI (p : Int) ∧ N' 12 41 0 1 = iI (q : Int) ∧ fK A W1 W2 49 = 10 * (p : Int) + (q : Int))) ∧ Rn mj_c56 7 127 [some (mj_r (12, 30, 0)), some (mj_r (0, 0, 0)), some (mj_i (iI (a : Int))), some (mj_i (iI (b : Int))), some (mj_i (iI (m : Int))), some (mj_i (iI (cn A x : Int))), o6] N none N' := by
      refine lp_dn (Q := fun x => ∀ N o6, (fr [4, 12, 24] (mj_ld M 0 A) N ∧ (∀ t c j, t = 31 ∨ t = 34 ∨ t = 38 ∨ t = 40 → N 12 t c j = N0 12 t c j) ∧ N 12 30 0 0 = N0 12 30 0 0) → N 12 30 0 1 = iI (cK A W1 W2 (7 * x) : Int) → (cK A W1 W2 (7 * x) ≠ 0 → ∃ p q : Nat, p < 7 ∧ q < 7 ∧ N 12 41 0 0 = iI (p : Int) ∧ N 12 41 0 1 = iI (q : Int) ∧ fK A W1 W2 (7 * x) = 10 * (p : Int) + (q : Int)) → ∃ N', (fr [4, 12, 24] (mj_ld M 0 A) N' ∧ N' 12 30 0 1 = iI (cK A W1 W2 49 : Int) ∧ (cK A W1 W2 49 ≠ 0 → ∃ p q : Nat, p < 7 ∧ q < 7 ∧ N' 12 41 0 0 = iI (p : Int) ∧ N' 12 41 0 1 = iI (q : Int) ∧ fK A W1 W2 49 = 10 * (p : Int) + (q : Int))) ∧ Rn mj_c56 7 127 [some (mj_r (12, 30, 0)), some (mj_r (0, 0, 0)), some (mj_i (iI (a : Int))), some (mj_i (iI (b : Int))), some (mj_i (iI (m : Int))), some (mj_i (iI (cn A x : Int))), o6] N none N') (n := 7) (fun N o6 hs hc hp => ?_) (fun x hx ih N o6 hs hc hp => ?_)
      · refine ⟨N, ⟨hs.1, hc, hp⟩, fun e he P hP hQ => rg_Ly_findPairs_127 hP ⟨fun z => by (first | exact mj_eq.rf | exact fi_n mj_eq.rf | exact fi_i rfl mj_eq.rf | exact rfl), fun z => ?_⟩⟩
        have e0 : N 12 30 0 0 = iI (cn A 7 : Int) := hs.2.2.trans hP0.1
        simp (disch := omega) only [nl_0, nl_1, nl_2, nl_3, nl_4, nl_5, nl_6, nl_7, nl_8, nl_9, nl_10, nl_11, nl_12, nl_13, nl_14, nl_15, nl_16, nl_17, nl_18, nl_19, nl_20, nl_21, nl_22, nl_23, nl_24, nl_25, nl_26, nl_27, nl_28, nl_31, nl_32, nl_42, nl_44, nl_46, nl_48, nl_49, nl_50, nl_51, nl_60, nl_75, nl_76, nl_99, nl_100, nl_108, nl_114, nl_117, nl_126, nl_255, nl_999, nl_2401, nl_9999, nl_12345, nl_65536, nl_1000000, nl_1103515245, nl_2147483647, iI_0, iI_neg, iI_add, iI_sub, iI_mul, iI_div, iI_mod, iI_lt, iI_le, iI_eq, iI_nat, iI_vp, ld_rd, ld_wl, lu_s, lu_t, lu_c, lu_j, forall_eq, Int.toNat_natCast, true_and, and_true, not_true, not_false_iff, Classical.not_not, forall_const, iI_inj, e0] at z
        omega
      · by_cases hcx : ch A x
        · have hlx := cn_lt hcx hx
          have inner : ∀ y, y ≤ 7 → ∀ N, (fr [4, 12, 24] (mj_ld M 0 A) N ∧ (∀ t c j, t = 31 ∨ t = 34 ∨ t = 38 ∨ t = 40 → N 12 t c j = N0 12 t c j) ∧ N 12 30 0 0 = N0 12 30 0 0) → N 12 30 0 1 = iI (cK A W1 W2 (7 * x + y) : Int) → (cK A W1 W2 (7 * x + y) ≠ 0 → ∃ p q : Nat, p < 7 ∧ q < 7 ∧ N 12 41 0 0 = iI (p : Int) ∧ N 12 41 0 1 = iI (q : Int) ∧ fK A W1 W2 (7 * x + y) = 10 * (p : Int) + (q : Int)) → ∃ N', (fr [4, 12, 24] (mj_ld M 0 A) N' ∧ N' 12 30 0 1 = iI (cK A W1 W2 49 : Int) ∧ (cK A W1 W2 49 ≠ 0 → ∃ p q : Nat, p < 7 ∧ q < 7 ∧ N' 12 41 0 0 = iI (p : Int) ∧ N' 12 41 0 1 = iI (q : Int) ∧ fK A W1 W2 49 = 10 * (p : Int) + (q : Int))) ∧ Rn mj_c56 7 139 [some (mj_r (12, 30, 0)), some (mj_r (0, 0, 0)), some (mj_i (iI (a : Int))), some (mj_i (iI (b : Int))), some (mj_i (iI (m : Int))), some (mj_i (iI (cn A x : Int))), some (mj_i (iI (cn A y : Int)))] N none N' := by
            refine lp_dn (Q := fun y => ∀ N, (fr [4, 12, 24] (mj_ld M 0 A) N ∧ (∀ t c j, t = 31 ∨ t = 34 ∨ t = 38 ∨ t = 40 → N 12 t c j = N0 12 t c j) ∧ N 12 30 0 0 = N0 12 30 0 0) → N 12 30 0 1 = iI (cK A W1 W2 (7 * x + y) : Int) → (cK A W1 W2 (7 * x + y) ≠ 0 → ∃ p q : Nat, p < 7 ∧ q < 7 ∧ N 12 41 0 0 = iI (p : Int) ∧ N 12 41 0 1 = iI (q : Int) ∧ fK A W1 W2 (7 * x + y) = 10 * (p : Int) + (q : Int)) → ∃ N', (fr [4, 12, 24] (mj_ld M 0 A) N' ∧ N' 12 30 0 1 = iI (cK A W1 W2 49 : Int) ∧ (cK A W1 W2 49 ≠ 0 → ∃ p q : Nat, p < 7 ∧ q < 7 ∧ N' 12 41 0 0 = iI (p : Int) ∧ N' 12 41 0 1 = iI (q : Int) ∧ fK A W1 W2 49 = 10 * (p : Int) + (q : Int))) ∧ Rn mj_c56 7 139 [some (mj_r (12, 30, 0)), some (mj_r (0, 0, 0)), some (mj_i (iI (a : Int))), some (mj_i (iI (b : Int))), some (mj_i (iI (m : Int))), some (mj_i (iI (cn A x : Int))), some (mj_i (iI (cn A y : Int)))] N none N') (n := 7) (fun N hs hc hp => ?_) (fun y hy ih2 N hs hc hp => ?_)
            · have e0 : N 12 30 0 0 = iI (cn A 7 : Int) := hs.2.2.trans hP0.1
              obtain ⟨N', hG, hR⟩ := ih N (some (mj_i (iI (cn A 7 : Int)))) hs hc hp
              refine ⟨N', hG, fun e he P hP hQ => rg_Ly_findPairs_139 hP ⟨fun z => ?_, fun z => ?_⟩⟩
              · simp (disch := omega) only [nl_0, nl_1, nl_2, nl_3, nl_4, nl_5, nl_6, nl_7, nl_8, nl_9, nl_10, nl_11, nl_12, nl_13, nl_14, nl_15, nl_16, nl_17, nl_18, nl_19, nl_20, nl_21, nl_22, nl_23, nl_24, nl_25, nl_26, nl_27, nl_28, nl_31, nl_32, nl_42, nl_44, nl_46, nl_48, nl_49, nl_50, nl_51, nl_60, nl_75, nl_76, nl_99, nl_100, nl_108, nl_114, nl_117, nl_126, nl_255, nl_999, nl_2401, nl_9999, nl_12345, nl_65536, nl_1000000, nl_1103515245, nl_2147483647, iI_0, iI_neg, iI_add, iI_sub, iI_mul, iI_div, iI_mod, iI_lt, iI_le, iI_eq, iI_nat, iI_vp, ld_rd, ld_wl, lu_s, lu_t, lu_c, lu_j, forall_eq, Int.toNat_natCast, true_and, and_true, not_true, not_false_iff, Classical.not_not, forall_const, iI_inj]
                rw [cn_y hcx] at hR
                exact hR e he P hP hQ
              · simp (disch := omega) only [nl_0, nl_1, nl_2, nl_3, nl_4, nl_5, nl_6, nl_7, nl_8, nl_9, nl_10, nl_11, nl_12, nl_13, nl_14, nl_15, nl_16, nl_17, nl_18, nl_19, nl_20, nl_21, nl_22, nl_23, nl_24, nl_25, nl_26, nl_27, nl_28, nl_31, nl_32, nl_42, nl_44, nl_46, nl_48, nl_49, nl_50, nl_51, nl_60, nl_75, nl_76, nl_99, nl_100, nl_108, nl_114, nl_117, nl_126, nl_255, nl_999, nl_2401, nl_9999, nl_12345, nl_65536, nl_1000000, nl_1103515245, nl_2147483647, iI_0, iI_neg, iI_add, iI_sub, iI_mul, iI_div, iI_mod, iI_lt, iI_le, iI_eq, iI_nat, iI_vp, ld_rd, ld_wl, lu_s, lu_t, lu_c, lu_j, forall_eq, Int.toNat_natCast, true_and, and_true, not_true, not_false_iff, Classical.not_not, forall_const, iI_inj, e0] at z
                omega
            · by_cases hcy : ch A y
              · have e0 : N 12 30 0 0 = iI (cn A 7 : Int) := hs.2.2.trans hP0.1
                have hly := cn_lt hcy hy
                have hck := cK_le (A := A) (W1 := W1) (W2 := W2) (7 * x + y)
                have hkept : ∀ e, 7 ≤ e → mj_Sp e 62 [mj_r (12, 30, 0), mj_i (iI (cn A x : Int)), mj_i (iI (cn A y : Int))] N (some (mj_i (iI (if Kp A W1 W2 (7 * x + y) then 1 else 0)))) N := fun e he => sp_isKept (by omega) e0 hx hy hcx hcy (fun x y hx hy h1 h2 => ⟨(hs.2.1 _ _ _ (by omega)).trans (hw0 x y hx hy h1 h2).1, (hs.2.1 _ _ _ (by omega)).trans (hw0 x y hx hy h1 h2).2⟩) hbd2
                have ex : (7 * x + y) / 7 = x := by omega
                have ey : (7 * x + y) % 7 = y := by omega
                by_cases hk : Kp A W1 W2 (7 * x + y)
                · have p1 : N 12 31 0 (cn A x) = iI (x : Int) := (hs.2.1 _ _ _ (by omega)).trans (hP0.2.1 x hx hcx)
                  have p2 : N 12 31 0 (cn A y) = iI (y : Int) := (hs.2.1 _ _ _ (by omega)).trans (hP0.2.1 y hy hcy)
                  have hcy2 := cK_y hk
                  obtain ⟨N', hG, hR⟩ := ih2 (if cK A W1 W2 (7 * x + y) = 0 then mj_wl (mj_wl (mj_wl N (12, 41, 0, 0) (iI (x : Int))) (12, 41, 0, 1) (iI (y : Int))) (12, 30, 0, 1) (iI ((cK A W1 W2 (7 * x + y) : Int) + 1)) else mj_wl N (12, 30, 0, 1) (iI ((cK A W1 W2 (7 * x + y) : Int) + 1))) ⟨by
                      split
                      · exact ((hs.1.wl (by decide)).wl (by decide)).wl (by decide)
                      · exact hs.1.wl (by decide), fun t c j ht => by
                      split
                      · rw [wl_n (by omega), wl_n (by omega), wl_n (by omega)]; exact hs.2.1 t c j ht
                      · rw [wl_n (by omega)]; exact hs.2.1 t c j ht, by
                      split
                      · rw [wl_n (by omega), wl_n (by omega), wl_n (by omega)]; exact hs.2.2
                      · rw [wl_n (by omega)]; exact hs.2.2⟩ (by
                      show _ = iI ((cK A W1 W2 (7 * x + y + 1) : Nat) : Int)
                      rw [hcy2]
                      split
                      · rw [wl_s]; rfl
                      · rw [wl_s]; rfl) (fun _ => by
                      show ∃ p q : Nat, p < 7 ∧ q < 7 ∧ _ ∧ _ ∧ fK A W1 W2 (7 * x + y + 1) = _
                      by_cases g : cK A W1 W2 (7 * x + y) = 0
                      · rw [if_pos g]
                        refine ⟨x, y, hx, hy, by rw [wl_n (by omega), wl_n (by omega), wl_s], by rw [wl_n (by omega), wl_s], ?_⟩
                        show (if cK A W1 W2 (7 * x + y) = 0 ∧ Kp A W1 W2 (7 * x + y) then _ else _) = _
                        rw [if_pos ⟨g, hk⟩, ex, ey]
                      · rw [if_neg g]
                        obtain ⟨p, q, hp1, hp2, hp3, hp4, hp5⟩ := hp g
                        refine ⟨p, q, hp1, hp2, by rw [wl_n (by omega)]; exact hp3, by rw [wl_n (by omega)]; exact hp4, ?_⟩
                        show (if cK A W1 W2 (7 * x + y) = 0 ∧ Kp A W1 W2 (7 * x + y) then _ else _) = _
                        rw [if_neg (fun z => g z.1)]
                        exact hp5)
                  refine ⟨N', hG, fun e he P hP hQ => rg_Ly_findPairs_139 hP ⟨fun z => ?_, fun z => ⟨_, _, hkept e he, ?_⟩⟩⟩
                  · simp (disch := omega) only [nl_0, nl_1, nl_2, nl_3, nl_4, nl_5, nl_6, nl_7, nl_8, nl_9, nl_10, nl_11, nl_12, nl_13, nl_14, nl_15, nl_16, nl_17, nl_18, nl_19, nl_20, nl_21, nl_22, nl_23, nl_24, nl_25, nl_26, nl_27, nl_28, nl_31, nl_32, nl_42, nl_44, nl_46, nl_48, nl_49, nl_50, nl_51, nl_60, nl_75, nl_76, nl_99, nl_100, nl_108, nl_114, nl_117, nl_126, nl_255, nl_999, nl_2401, nl_9999, nl_12345, nl_65536, nl_1000000, nl_1103515245, nl_2147483647, iI_0, iI_neg, iI_add, iI_sub, iI_mul, iI_div, iI_mod, iI_lt, iI_le, iI_eq, iI_nat, iI_vp, ld_rd, ld_wl, lu_s, lu_t, lu_c, lu_j, forall_eq, Int.toNat_natCast, true_and, and_true, not_true, not_false_iff, Classical.not_not, forall_const, iI_inj, e0] at z
                    omega
                  · rw [if_pos hk]
                    refine ⟨fun z => absurd z (by decide), fun _ => ?_⟩
                    simp (disch := omega) only [nl_0, nl_1, nl_2, nl_3, nl_4, nl_5, nl_6, nl_7, nl_8, nl_9, nl_10, nl_11, nl_12, nl_13, nl_14, nl_15, nl_16, nl_17, nl_18, nl_19, nl_20, nl_21, nl_22, nl_23, nl_24, nl_25, nl_26, nl_27, nl_28, nl_31, nl_32, nl_42, nl_44, nl_46, nl_48, nl_49, nl_50, nl_51, nl_60, nl_75, nl_76, nl_99, nl_100, nl_108, nl_114, nl_117, nl_126, nl_255, nl_999, nl_2401, nl_9999, nl_12345, nl_65536, nl_1000000, nl_1103515245, nl_2147483647, iI_0, iI_neg, iI_add, iI_sub, iI_mul, iI_div, iI_mod, iI_lt, iI_le, iI_eq, iI_nat, iI_vp, ld_rd, ld_wl, lu_s, lu_t, lu_c, lu_j, forall_eq, Int.toNat_natCast, true_and, and_true, not_true, not_false_iff, Classical.not_not, forall_const, iI_inj, p1, p2]
                    refine ⟨_, sp_noteFound (by omega) (by omega) hc, ?_⟩
                    rw [cn_y hcy] at hR
                    exact hR e he P hP hQ
                · have hn := cK_n hk
                  obtain ⟨N', hG, hR⟩ := ih2 N hs (by show _ = iI ((cK A W1 W2 (7 * x + y + 1) : Nat) : Int); rw [hn.1]; exact hc) (by show cK A W1 W2 (7 * x + y + 1) ≠ 0 → ∃ p q : Nat, p < 7 ∧ q < 7 ∧ _ ∧ _ ∧ fK A W1 W2 (7 * x + y + 1) = _; rw [hn.1, hn.2]; exact hp)
                  refine ⟨N', hG, fun e he P hP hQ => rg_Ly_findPairs_139 hP ⟨fun z => ?_, fun z => ⟨_, _, hkept e he, ?_⟩⟩⟩
                  · simp (disch := omega) only [nl_0, nl_1, nl_2, nl_3, nl_4, nl_5, nl_6, nl_7, nl_8, nl_9, nl_10, nl_11, nl_12, nl_13, nl_14, nl_15, nl_16, nl_17, nl_18, nl_19, nl_20, nl_21, nl_22, nl_23, nl_24, nl_25, nl_26, nl_27, nl_28, nl_31, nl_32, nl_42, nl_44, nl_46, nl_48, nl_49, nl_50, nl_51, nl_60, nl_75, nl_76, nl_99, nl_100, nl_108, nl_114, nl_117, nl_126, nl_255, nl_999, nl_2401, nl_9999, nl_12345, nl_65536, nl_1000000, nl_1103515245, nl_2147483647, iI_0, iI_neg, iI_add, iI_sub, iI_mul, iI_div, iI_mod, iI_lt, iI_le, iI_eq, iI_nat, iI_vp, ld_rd, ld_wl, lu_s, lu_t, lu_c, lu_j, forall_eq, Int.toNat_natCast, true_and, and_true, not_true, not_false_iff, Classical.not_not, forall_const, iI_inj, e0] at z
                    omega
                  · rw [if_neg hk]
                    refine ⟨fun _ => ?_, fun z => absurd rfl z⟩
                    simp (disch := omega) only [nl_0, nl_1, nl_2, nl_3, nl_4, nl_5, nl_6, nl_7, nl_8, nl_9, nl_10, nl_11, nl_12, nl_13, nl_14, nl_15, nl_16, nl_17, nl_18, nl_19, nl_20, nl_21, nl_22, nl_23, nl_24, nl_25, nl_26, nl_27, nl_28, nl_31, nl_32, nl_42, nl_44, nl_46, nl_48, nl_49, nl_50, nl_51, nl_60, nl_75, nl_76, nl_99, nl_100, nl_108, nl_114, nl_117, nl_126, nl_255, nl_999, nl_2401, nl_9999, nl_12345, nl_65536, nl_1000000, nl_1103515245, nl_2147483647, iI_0, iI_neg, iI_add, iI_sub, iI_mul, iI_div, iI_mod, iI_lt, iI_le, iI_eq, iI_nat, iI_vp, ld_rd, ld_wl, lu_s, lu_t, lu_c, lu_j, forall_eq, Int.toNat_natCast, true_and, and_true, not_true, not_false_iff, Classical.not_not, forall_const, iI_inj]
                    rw [cn_y hcy] at hR
                    exact hR e he P hP hQ
              · have hk : ¬ Kp A W1 W2 (7 * x + y) := fun z => hcy (by have := z.2.1; rw [show (7 * x + y) % 7 = y by omega] at this; exact this)
                have hn := cK_n hk
                rw [cn_n hcy] at ih2
                exact ih2 N hs (by show _ = iI ((cK A W1 W2 (7 * x + y + 1) : Nat) : Int); rw [hn.1]; exact hc) (by show cK A W1 W2 (7 * x + y + 1) ≠ 0 → ∃ p q : Nat, p < 7 ∧ q < 7 ∧ _ ∧ _ ∧ fK A W1 W2 (7 * x + y + 1) = _; rw [hn.1, hn.2]; exact hp)
          have e0 : N 12 30 0 0 = iI (cn A 7 : Int) := hs.2.2.trans hP0.1
          obtain ⟨N', hG, hR⟩ := inner 0 (Nat.zero_le _) N hs hc hp
          refine ⟨N', hG, fun e he P hP hQ => rg_Ly_findPairs_127 hP ⟨fun z => ?_, fun z => ?_⟩⟩
          · simp (disch := omega) only [nl_0, nl_1, nl_2, nl_3, nl_4, nl_5, nl_6, nl_7, nl_8, nl_9, nl_10, nl_11, nl_12, nl_13, nl_14, nl_15, nl_16, nl_17, nl_18, nl_19, nl_20, nl_21, nl_22, nl_23, nl_24, nl_25, nl_26, nl_27, nl_28, nl_31, nl_32, nl_42, nl_44, nl_46, nl_48, nl_49, nl_50, nl_51, nl_60, nl_75, nl_76, nl_99, nl_100, nl_108, nl_114, nl_117, nl_126, nl_255, nl_999, nl_2401, nl_9999, nl_12345, nl_65536, nl_1000000, nl_1103515245, nl_2147483647, iI_0, iI_neg, iI_add, iI_sub, iI_mul, iI_div, iI_mod, iI_lt, iI_le, iI_eq, iI_nat, iI_vp, ld_rd, ld_wl, lu_s, lu_t, lu_c, lu_j, forall_eq, Int.toNat_natCast, true_and, and_true, not_true, not_false_iff, Classical.not_not, forall_const, iI_inj, e0] at z
            omega
          · exact hR e he P hP hQ
        · have hr := cK_row (W1 := W1) (W2 := W2) hcx 7 (Nat.le_refl _)
          rw [cn_n hcx] at ih
          exact ih N o6 hs (by rw [show 7 * (x + 1) = 7 * x + 7 by omega, hr.1]; exact hc) (by rw [show 7 * (x + 1) = 7 * x + 7 by omega, hr.1, hr.2]; exact hp)
    intro o6
    exact key 0 (Nat.zero_le _) N0 o6 ⟨hf0, fun _ _ _ _ => rfl, rfl⟩ (by rw [hz0]; rfl) (fun h => absurd rfl h)
  -- the first loops
  have first : ∀ x, x ≤ 7 → ∀ N o6, fr [4, 12, 24] (mj_ld M 0 A) N → PR A (1 <<< a ||| 1 <<< b) n S F m N → N 12 30 0 1 = iI 0 → (∀ x' y, x' < x → y < 7 → ch A x' → ch A y → N 12 38 (cn A x') (cn A y) = iI (W1 x' y) ∧ N 12 40 (cn A x') (cn A y) = iI (W2 x' y)) → ∃ N', (fr [4, 12, 24] (mj_ld M 0 A) N' ∧ N' 12 30 0 1 = iI (cK A W1 W2 49 : Int) ∧ (cK A W1 W2 49 ≠ 0 → ∃ p q : Nat, p < 7 ∧ q < 7 ∧ N' 12 41 0 0 = iI (p : Int) ∧ N' 12 41 0 1 = iI (q : Int) ∧ fK A W1 W2 49 = 10 * (p : Int) + (q : Int))) ∧ Rn mj_c56 7 17 [some (mj_r (12, 30, 0)), some (mj_r (0, 0, 0)), some (mj_i (iI (a : Int))), some (mj_i (iI (b : Int))), some (mj_i (iI (m : Int))), some (mj_i (iI (cn A x : Int))), o6] N none N' := by
    refine lp_dn (Q := fun x => ∀ N o6, fr [4, 12, 24] (mj_ld M 0 A) N → PR A (1 <<< a ||| 1 <<< b) n S F m N → N 12 30 0 1 = iI 0 → (∀ x' y, x' < x → y < 7 → ch A x' → ch A y → N 12 38 (cn A x') (cn A y) = iI (W1 x' y) ∧ N 12 40 (cn A x') (cn A y) = iI (W2 x' y)) → ∃ N', (fr [4, 12, 24] (mj_ld M 0 A) N' ∧ N' 12 30 0 1 = iI (cK A W1 W2 49 : Int) ∧ (cK A W1 W2 49 ≠ 0 → ∃ p q : Nat, p < 7 ∧ q < 7 ∧ N' 12 41 0 0 = iI (p : Int) ∧ N' 12 41 0 1 = iI (q : Int) ∧ fK A W1 W2 49 = 10 * (p : Int) + (q : Int))) ∧ Rn mj_c56 7 17 [some (mj_r (12, 30, 0)), some (mj_r (0, 0, 0)), some (mj_i (iI (a : Int))), some (mj_i (iI (b : Int))), some (mj_i (iI (m : Int))), some (mj_i (iI (cn A x : Int))), o6] N none N') (n := 7) (fun N o6 hf hP hz hw => ?_) (fun x hx ih N o6 hf hP hz hw => ?_)
    · obtain ⟨N', hG, hR⟩ := second N hf hP hz (fun x y hx hy h1 h2 => hw x y hx hy h1 h2) o6
      refine ⟨N', hG, fun e he P hP' hQ => rg_Ly_findPairs_17 hP' ⟨fun z => ?_, fun z => ?_⟩⟩
      · exact hR e he P hP' hQ
      · simp (disch := omega) only [nl_0, nl_1, nl_2, nl_3, nl_4, nl_5, nl_6, nl_7, nl_8, nl_9, nl_10, nl_11, nl_12, nl_13, nl_14, nl_15, nl_16, nl_17, nl_18, nl_19, nl_20, nl_21, nl_22, nl_23, nl_24, nl_25, nl_26, nl_27, nl_28, nl_31, nl_32, nl_42, nl_44, nl_46, nl_48, nl_49, nl_50, nl_51, nl_60, nl_75, nl_76, nl_99, nl_100, nl_108, nl_114, nl_117, nl_126, nl_255, nl_999, nl_2401, nl_9999, nl_12345, nl_65536, nl_1000000, nl_1103515245, nl_2147483647, iI_0, iI_neg, iI_add, iI_sub, iI_mul, iI_div, iI_mod, iI_lt, iI_le, iI_eq, iI_nat, iI_vp, ld_rd, ld_wl, lu_s, lu_t, lu_c, lu_j, forall_eq, Int.toNat_natCast, true_and, and_true, not_true, not_false_iff, Classical.not_not, forall_const, iI_inj, hP.1] at z
        omega
    · by_cases hcx : ch A x
      · have hlx := cn_lt hcx hx
        have inner : ∀ y, y ≤ 7 → ∀ N, fr [4, 12, 24] (mj_ld M 0 A) N → PR A (1 <<< a ||| 1 <<< b) n S F m N → N 12 30 0 1 = iI 0 → (∀ x' y', x' < x ∨ (x' = x ∧ y' < y) → y' < 7 → ch A x' → ch A y' → N 12 38 (cn A x') (cn A y') = iI (W1 x' y') ∧ N 12 40 (cn A x') (cn A y') = iI (W2 x' y')) → ∃ N', (fr [4, 12, 24] (mj_ld M 0 A) N' ∧ N' 12 30 0 1 = iI (cK A W1 W2 49 : Int) ∧ (cK A W1 W2 49 ≠ 0 → ∃ p q : Nat, p < 7 ∧ q < 7 ∧ N' 12 41 0 0 = iI (p : Int) ∧ N' 12 41 0 1 = iI (q : Int) ∧ fK A W1 W2 49 = 10 * (p : Int) + (q : Int))) ∧ Rn mj_c56 7 29 [some (mj_r (12, 30, 0)), some (mj_r (0, 0, 0)), some (mj_i (iI (a : Int))), some (mj_i (iI (b : Int))), some (mj_i (iI (m : Int))), some (mj_i (iI (cn A x : Int))), some (mj_i (iI (cn A y : Int)))] N none N' := by
          refine lp_dn (Q := fun y => ∀ N, fr [4, 12, 24] (mj_ld M 0 A) N → PR A (1 <<< a ||| 1 <<< b) n S F m N → N 12 30 0 1 = iI 0 → (∀ x' y', x' < x ∨ (x' = x ∧ y' < y) → y' < 7 → ch A x' → ch A y' → N 12 38 (cn A x') (cn A y') = iI (W1 x' y') ∧ N 12 40 (cn A x') (cn A y') = iI (W2 x' y')) → ∃ N', (fr [4, 12, 24] (mj_ld M 0 A) N' ∧ N' 12 30 0 1 = iI (cK A W1 W2 49 : Int) ∧ (cK A W1 W2 49 ≠ 0 → ∃ p q : Nat, p < 7 ∧ q < 7 ∧ N' 12 41 0 0 = iI (p : Int) ∧ N' 12 41 0 1 = iI (q : Int) ∧ fK A W1 W2 49 = 10 * (p : Int) + (q : Int))) ∧ Rn mj_c56 7 29 [some (mj_r (12, 30, 0)), some (mj_r (0, 0, 0)), some (mj_i (iI (a : Int))), some (mj_i (iI (b : Int))), some (mj_i (iI (m : Int))), some (mj_i (iI (cn A x : Int))), some (mj_i (iI (cn A y : Int)))] N none N') (n := 7) (fun N hf hP hz hw => ?_) (fun y hy ih2 N hf hP hz hw => ?_)
          · obtain ⟨N', hG, hR⟩ := ih N (some (mj_i (iI (cn A 7 : Int)))) hf hP hz (fun x' y' h1 h2 h3 h4 => hw x' y' (by omega) h2 h3 h4)
            refine ⟨N', hG, fun e he P hP' hQ => rg_Ly_findPairs_29 hP' ⟨fun z => ?_, fun z => ?_⟩⟩
            · simp (disch := omega) only [nl_0, nl_1, nl_2, nl_3, nl_4, nl_5, nl_6, nl_7, nl_8, nl_9, nl_10, nl_11, nl_12, nl_13, nl_14, nl_15, nl_16, nl_17, nl_18, nl_19, nl_20, nl_21, nl_22, nl_23, nl_24, nl_25, nl_26, nl_27, nl_28, nl_31, nl_32, nl_42, nl_44, nl_46, nl_48, nl_49, nl_50, nl_51, nl_60, nl_75, nl_76, nl_99, nl_100, nl_108, nl_114, nl_117, nl_126, nl_255, nl_999, nl_2401, nl_9999, nl_12345, nl_65536, nl_1000000, nl_1103515245, nl_2147483647, iI_0, iI_neg, iI_add, iI_sub, iI_mul, iI_div, iI_mod, iI_lt, iI_le, iI_eq, iI_nat, iI_vp, ld_rd, ld_wl, lu_s, lu_t, lu_c, lu_j, forall_eq, Int.toNat_natCast, true_and, and_true, not_true, not_false_iff, Classical.not_not, forall_const, iI_inj]
              rw [cn_y hcx] at hR
              exact hR e he P hP' hQ
            · simp (disch := omega) only [nl_0, nl_1, nl_2, nl_3, nl_4, nl_5, nl_6, nl_7, nl_8, nl_9, nl_10, nl_11, nl_12, nl_13, nl_14, nl_15, nl_16, nl_17, nl_18, nl_19, nl_20, nl_21, nl_22, nl_23, nl_24, nl_25, nl_26, nl_27, nl_28, nl_31, nl_32, nl_42, nl_44, nl_46, nl_48, nl_49, nl_50, nl_51, nl_60, nl_75, nl_76, nl_99, nl_100, nl_108, nl_114, nl_117, nl_126, nl_255, nl_999, nl_2401, nl_9999, nl_12345, nl_65536, nl_1000000, nl_1103515245, nl_2147483647, iI_0, iI_neg, iI_add, iI_sub, iI_mul, iI_div, iI_mod, iI_lt, iI_le, iI_eq, iI_nat, iI_vp, ld_rd, ld_wl, lu_s, lu_t, lu_c, lu_j, forall_eq, Int.toNat_natCast, true_and, and_true, not_true, not_false_iff, Classical.not_not, forall_const, iI_inj, hP.1] at z
              omega
          · by_cases hcy : ch A y
            · have hly := cn_lt hcy hy
              -- the memories
              have q1 : ∀ c, mj_wl (mj_wl (mj_fl N 12 35 0 7 (iI 0)) (12, 35, 0, x) (iI ((1 <<< a : Nat) : Int))) (12, 35, 0, y) (iI ((sT a b x y y : Nat) : Int)) 12 35 0 c = if c < 7 then iI ((sT a b x y c : Nat) : Int) else N 12 35 0 c := fun c => by
                by_cases g1 : c = y
                · subst g1
                  rw [wl_s, if_pos hy]
                · rw [wl_n (by omega)]
                  by_cases g2 : c = x
                  · subst g2
                    rw [wl_s, if_pos hx]
                    unfold sT
                    rw [if_pos rfl, if_neg g1, Nat.or_zero]
                  · rw [wl_n (by omega)]
                    by_cases g3 : c < 7
                    · rw [fl_at g3, if_pos g3]
                      unfold sT
                      rw [if_neg g2, if_neg g1]
                      rfl
                    · rw [fl_ne (by omega), if_neg g3]
              have q2 : ∀ t c j, t ≠ 35 → mj_wl (mj_wl (mj_fl N 12 35 0 7 (iI 0)) (12, 35, 0, x) (iI ((1 <<< a : Nat) : Int))) (12, 35, 0, y) (iI ((sT a b x y y : Nat) : Int)) 12 t c j = N 12 t c j := fun t c j ht => by
                rw [wl_n (by omega), wl_n (by omega), fl_ne (by omega)]
              have q3 : fr [4, 12, 24] (mj_ld M 0 A) (mj_wl (mj_wl (mj_fl N 12 35 0 7 (iI 0)) (12, 35, 0, x) (iI ((1 <<< a : Nat) : Int))) (12, 35, 0, y) (iI ((sT a b x y y : Nat) : Int))) := by
                refine fr.wl (fr.wl (fun i hi => ?_) (by decide)) (by decide)
                rw [fl_p (fun e => hi (by rw [e]; decide))]
                exact hf i hi
              have q4 : (iI 0 ||| iI ((1 <<< a : Nat) : Int)) = iI ((1 <<< a : Nat) : Int) := by
                have := b_or (s := 0) (l := 1 <<< a) (by decide) hsl.1
                rw [Nat.zero_or] at this
                exact this
              have q5 : (mj_wl (mj_fl N 12 35 0 7 (iI 0)) (12, 35, 0, x) (iI ((1 <<< a : Nat) : Int)) 12 35 0 y ||| iI ((1 <<< b : Nat) : Int)) = iI ((sT a b x y y : Nat) : Int) := by
                unfold sT
                rw [if_pos rfl]
                by_cases g : y = x
                · subst g
                  rw [wl_s, if_pos rfl]
                  exact hor
                · rw [wl_n (by omega), fl_at hy, if_neg g]
                  exact b_or (s := 0) (l := 1 <<< b) (by decide) hsl.2.1
              have r1 : mj_fl N 12 35 0 7 (iI 0) 12 31 0 (cn A x) = iI (x : Int) := (fl_ne (by omega)).trans (hP.2.1 x hx hcx)
              have r2 : mj_wl (mj_fl N 12 35 0 7 (iI 0)) (12, 35, 0, x) (iI ((1 <<< a : Nat) : Int)) 12 31 0 (cn A y) = iI (y : Int) := (wl_n (by omega)).trans ((fl_ne (by omega)).trans (hP.2.1 y hy hcy))
              have r3 : mj_fl N 12 35 0 7 (iI 0) 12 35 0 x = iI 0 := fl_at hx
              generalize hN4 : mj_wl (mj_wl (mj_fl N 12 35 0 7 (iI 0)) (12, 35, 0, x) (iI ((1 <<< a : Nat) : Int))) (12, 35, 0, y) (iI ((sT a b x y y : Nat) : Int)) = N4 at q1 q2 q3
              have P4 : PR A (1 <<< a ||| 1 <<< b) n S F m N4 := hP.eq (q2 _ _ _ (by decide)) (fun t c j ht => q2 _ _ _ (by omega))
              have P7 : PR A (1 <<< a ||| 1 <<< b) n S F m (mj_wl N4 (12, 38, cn A x, cn A y) (iI (W1 x y))) := P4.eq (wl_n (by omega)) (fun t c j ht => wl_n (by omega))
              have ga1 : ∀ e, 1 ≤ e → mj_Sp e 61 [mj_r (12, 30, 0), mj_i (iI (a : Int))] N4 (some (mj_i (iI (W1 x y)))) N4 := fun e he => by
                rw [← w1e]
                exact sp_gainOf he hA.li P4 (fun c hc ho => ⟨by rw [q1, if_pos (by omega)], sT_ok ha4 hb4⟩) ha4
              have ga2 : ∀ e, 1 ≤ e → mj_Sp e 61 [mj_r (12, 30, 0), mj_i (iI (b : Int))] (mj_wl N4 (12, 38, cn A x, cn A y) (iI (W1 x y))) (some (mj_i (iI (W2 x y)))) (mj_wl N4 (12, 38, cn A x, cn A y) (iI (W1 x y))) := fun e he => by
                rw [← w2e]
                exact sp_gainOf he hA.li P7 (fun c hc ho => ⟨by rw [wl_n (by omega), q1, if_pos (by omega)], sT_ok ha4 hb4⟩) hb4
              obtain ⟨N', hG, hR⟩ := ih2 (mj_wl (mj_wl N4 (12, 38, cn A x, cn A y) (iI (W1 x y))) (12, 40, cn A x, cn A y) (iI (W2 x y))) ((q3.wl (by decide)).wl (by decide)) (P7.eq (wl_n (by omega)) (fun t c j ht => wl_n (by omega))) (by rw [wl_n (by omega), wl_n (by omega), q2 _ _ _ (by decide)]; exact hz) (fun x' y' h1 h2 h3 h4 => by
                by_cases g : x' = x ∧ y' = y
                · obtain ⟨g1, g2⟩ := g
                  subst g1
                  subst g2
                  exact ⟨by rw [wl_n (by omega), wl_s], by rw [wl_s]⟩
                · have hne : cn A x' ≠ cn A x ∨ cn A y' ≠ cn A y := Classical.byContradiction fun hh => by
                    have e1 := cn_inj h3 hcx (by omega)
                    have e2 := cn_inj h4 hcy (by omega)
                    exact g ⟨e1, e2⟩
                  have := hw x' y' (by omega) h2 h3 h4
                  exact ⟨by rw [wl_n (by omega), wl_n (by omega), q2 _ _ _ (by decide)]; exact this.1, by rw [wl_n (by omega), wl_n (by omega), q2 _ _ _ (by decide)]; exact this.2⟩)
              refine ⟨N', hG, fun e he P hP' hQ => rg_Ly_findPairs_29 hP' ⟨fun z => ?_, fun z => ⟨_, sp_fill (i := 12) (t := 35) (c := 0) (n := 7) (by omega) (by decide) rfl rfl (by decide), ?_⟩⟩⟩
              · simp (disch := omega) only [nl_0, nl_1, nl_2, nl_3, nl_4, nl_5, nl_6, nl_7, nl_8, nl_9, nl_10, nl_11, nl_12, nl_13, nl_14, nl_15, nl_16, nl_17, nl_18, nl_19, nl_20, nl_21, nl_22, nl_23, nl_24, nl_25, nl_26, nl_27, nl_28, nl_31, nl_32, nl_42, nl_44, nl_46, nl_48, nl_49, nl_50, nl_51, nl_60, nl_75, nl_76, nl_99, nl_100, nl_108, nl_114, nl_117, nl_126, nl_255, nl_999, nl_2401, nl_9999, nl_12345, nl_65536, nl_1000000, nl_1103515245, nl_2147483647, iI_0, iI_neg, iI_add, iI_sub, iI_mul, iI_div, iI_mod, iI_lt, iI_le, iI_eq, iI_nat, iI_vp, ld_rd, ld_wl, lu_s, lu_t, lu_c, lu_j, forall_eq, Int.toNat_natCast, true_and, and_true, not_true, not_false_iff, Classical.not_not, forall_const, iI_inj, hP.1] at z
                omega
              · simp (disch := omega) only [nl_0, nl_1, nl_2, nl_3, nl_4, nl_5, nl_6, nl_7, nl_8, nl_9, nl_10, nl_11, nl_12, nl_13, nl_14, nl_15, nl_16, nl_17, nl_18, nl_19, nl_20, nl_21, nl_22, nl_23, nl_24, nl_25, nl_26, nl_27, nl_28, nl_31, nl_32, nl_42, nl_44, nl_46, nl_48, nl_49, nl_50, nl_51, nl_60, nl_75, nl_76, nl_99, nl_100, nl_108, nl_114, nl_117, nl_126, nl_255, nl_999, nl_2401, nl_9999, nl_12345, nl_65536, nl_1000000, nl_1103515245, nl_2147483647, iI_0, iI_neg, iI_add, iI_sub, iI_mul, iI_div, iI_mod, iI_lt, iI_le, iI_eq, iI_nat, iI_vp, ld_rd, ld_wl, lu_s, lu_t, lu_c, lu_j, forall_eq, Int.toNat_natCast, true_and, and_true, not_true, not_false_iff, Classical.not_not, forall_const, iI_inj, r1, r2, r3, hoa, hob, q4, q5]
                rw [hN4]
                refine ⟨_, _, ga1 e (by omega), ?_⟩
                try simp (disch := omega) only [nl_0, nl_1, nl_2, nl_3, nl_4, nl_5, nl_6, nl_7, nl_8, nl_9, nl_10, nl_11, nl_12, nl_13, nl_14, nl_15, nl_16, nl_17, nl_18, nl_19, nl_20, nl_21, nl_22, nl_23, nl_24, nl_25, nl_26, nl_27, nl_28, nl_31, nl_32, nl_42, nl_44, nl_46, nl_48, nl_49, nl_50, nl_51, nl_60, nl_75, nl_76, nl_99, nl_100, nl_108, nl_114, nl_117, nl_126, nl_255, nl_999, nl_2401, nl_9999, nl_12345, nl_65536, nl_1000000, nl_1103515245, nl_2147483647, iI_0, iI_neg, iI_add, iI_sub, iI_mul, iI_div, iI_mod, iI_lt, iI_le, iI_eq, iI_nat, iI_vp, ld_rd, ld_wl, lu_s, lu_t, lu_c, lu_j, forall_eq, Int.toNat_natCast, true_and, and_true, not_true, not_false_iff, Classical.not_not, forall_const, iI_inj]
                refine ⟨_, _, ga2 e (by omega), ?_⟩
                try simp (disch := omega) only [nl_0, nl_1, nl_2, nl_3, nl_4, nl_5, nl_6, nl_7, nl_8, nl_9, nl_10, nl_11, nl_12, nl_13, nl_14, nl_15, nl_16, nl_17, nl_18, nl_19, nl_20, nl_21, nl_22, nl_23, nl_24, nl_25, nl_26, nl_27, nl_28, nl_31, nl_32, nl_42, nl_44, nl_46, nl_48, nl_49, nl_50, nl_51, nl_60, nl_75, nl_76, nl_99, nl_100, nl_108, nl_114, nl_117, nl_126, nl_255, nl_999, nl_2401, nl_9999, nl_12345, nl_65536, nl_1000000, nl_1103515245, nl_2147483647, iI_0, iI_neg, iI_add, iI_sub, iI_mul, iI_div, iI_mod, iI_lt, iI_le, iI_eq, iI_nat, iI_vp, ld_rd, ld_wl, lu_s, lu_t, lu_c, lu_j, forall_eq, Int.toNat_natCast, true_and, and_true, not_true, not_false_iff, Classical.not_not, forall_const, iI_inj]
                rw [cn_y hcy] at hR
                exact hR e he P hP' hQ
            · rw [cn_n hcy] at ih2
              refine ih2 N hf hP hz (fun x' y' h1 h2 h3 h4 => hw x' y' ?_ h2 h3 h4)
              by_cases g : y' = y
              · subst g; exact absurd h4 hcy
              · omega
        obtain ⟨N', hG, hR⟩ := inner 0 (Nat.zero_le _) N hf hP hz (fun x' y' h1 h2 h3 h4 => hw x' y' (by omega) h2 h3 h4)
        refine ⟨N', hG, fun e he P hP' hQ => rg_Ly_findPairs_17 hP' ⟨fun z => ?_, fun z => ?_⟩⟩
        · simp (disch := omega) only [nl_0, nl_1, nl_2, nl_3, nl_4, nl_5, nl_6, nl_7, nl_8, nl_9, nl_10, nl_11, nl_12, nl_13, nl_14, nl_15, nl_16, nl_17, nl_18, nl_19, nl_20, nl_21, nl_22, nl_23, nl_24, nl_25, nl_26, nl_27, nl_28, nl_31, nl_32, nl_42, nl_44, nl_46, nl_48, nl_49, nl_50, nl_51, nl_60, nl_75, nl_76, nl_99, nl_100, nl_108, nl_114, nl_117, nl_126, nl_255, nl_999, nl_2401, nl_9999, nl_12345, nl_65536, nl_1000000, nl_1103515245, nl_2147483647, iI_0, iI_neg, iI_add, iI_sub, iI_mul, iI_div, iI_mod, iI_lt, iI_le, iI_eq, iI_nat, iI_vp, ld_rd, ld_wl, lu_s, lu_t, lu_c, lu_j, forall_eq, Int.toNat_natCast, true_and, and_true, not_true, not_false_iff, Classical.not_not, forall_const, iI_inj, hP.1] at z
          omega
        · exact hR e he P hP' hQ
      · rw [cn_n hcx] at ih
        refine ih N o6 hf hP hz (fun x' y' h1 h2 h3 h4 => hw x' y' ?_ h2 h3 h4)
        by_cases g : x' = x
        · subst g; exact absurd h3 hcx
        · omega
  obtain ⟨N', hG, hR⟩ := first 0 (Nat.zero_le _) N1 none f1 P1 z1 (fun x' y h => absurd h (Nat.not_lt_zero x'))
  refine ⟨N', fun d hd => en_Ly_findPairs (k := 7) hd fun e he P hP hQ => rg_Ly_findPairs_0 hP ?_, hG⟩
  simp (disch := omega) only [nl_0, nl_1, nl_2, nl_3, nl_4, nl_5, nl_6, nl_7, nl_8, nl_9, nl_10, nl_11, nl_12, nl_13, nl_14, nl_15, nl_16, nl_17, nl_18, nl_19, nl_20, nl_21, nl_22, nl_23, nl_24, nl_25, nl_26, nl_27, nl_28, nl_31, nl_32, nl_42, nl_44, nl_46, nl_48, nl_49, nl_50, nl_51, nl_60, nl_75, nl_76, nl_99, nl_100, nl_108, nl_114, nl_117, nl_126, nl_255, nl_999, nl_2401, nl_9999, nl_12345, nl_65536, nl_1000000, nl_1103515245, nl_2147483647, iI_0, iI_neg, iI_add, iI_sub, iI_mul, iI_div, iI_mod, iI_lt, iI_le, iI_eq, iI_nat, iI_vp, ld_rd, ld_wl, lu_s, lu_t, lu_c, lu_j, forall_eq, Int.toNat_natCast, true_and, and_true, not_true, not_false_iff, Classical.not_not, forall_const, iI_inj, hoa, hob, hor]
  exact ⟨_, spp e he, hR e he P hP hQ⟩
