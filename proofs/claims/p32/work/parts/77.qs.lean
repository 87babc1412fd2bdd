/-! the law's questions -/
theorem q_told {d : Nat} (hd : 3 ≤ d) {L : Nat} {xs : Nat → Int32} {M : mj_M} {A : lA} {n : Nat} {S F : Nat → Int} (h : ST L xs M A n S F) {c w : Int} (hc : iR c) (hw : iR w) : ∃ M', mj_Sp d 2 [mj_r (13, 50, 0), mj_i (iI c), mj_i (iI w)] M (some (mj_i (iI (s_told A c w).1))) M' ∧ fr [0] M M' ∧ ST L xs M' A n S F :=
  st_call h h.2.2.1 (by have := c_told (M := M) hd hc hw h.2.2.1.li; rw [s_told2] at this; exact this)
theorem q_of {d : Nat} (hd : 3 ≤ d) {L : Nat} {xs : Nat → Int32} {M : mj_M} {A : lA} {n : Nat} {S F : Nat → Int} (h : ST L xs M A n S F) {v w : Int} (hv : iR v) (hw : iR w) : ∃ M', mj_Sp d 3 [mj_r (13, 50, 0), mj_i (iI v), mj_i (iI w)] M (some (mj_i (iI (s_of A v w).1))) M' ∧ fr [0] M M' ∧ ST L xs M' A n S F :=
  st_call h h.2.2.1 (by have := c_of (M := M) hd hv hw h.2.2.1; rw [s_of2] at this; exact this)
theorem q_holds {d : Nat} (hd : 3 ≤ d) {L : Nat} {xs : Nat → Int32} {M : mj_M} {A : lA} {n : Nat} {S F : Nat → Int} (h : ST L xs M A n S F) {v c : Int} (hv : iR v) (hc : iR c) : ∃ M', mj_Sp d 6 [mj_r (13, 50, 0), mj_i (iI v), mj_i (iI c)] M (some (mj_i (iI (s_holds A v c).1))) M' ∧ fr [0] M M' ∧ ST L xs M' A n S F :=
  st_call h h.2.2.1 (by have := c_holds (M := M) hd hv hc h.2.2.1.li; rw [s_holds2] at this; exact this)
theorem q_fallen {d : Nat} (hd : 2 ≤ d) {L : Nat} {xs : Nat → Int32} {M : mj_M} {A : lA} {n : Nat} {S F : Nat → Int} (h : ST L xs M A n S F) {f : Int} (hf : iR f) : ∃ M', mj_Sp d 12 [mj_r (13, 50, 0), mj_i (iI f)] M (some (mj_i (iI (s_fallen A f).1))) M' ∧ fr [0] M M' ∧ ST L xs M' A n S F :=
  st_call h h.2.2.1 (by have := c_fallen (M := M) (A := A) hd hf; rw [s_fallen2] at this; exact this)
theorem q_count {d : Nat} (hd : 4 ≤ d) {L : Nat} {xs : Nat → Int32} {M : mj_M} {A : lA} {n : Nat} {S F : Nat → Int} (h : ST L xs M A n S F) {w : Int} (hw : iR w) : ∃ M', mj_Sp d 13 [mj_r (13, 50, 0), mj_i (iI w)] M (some (mj_i (iI (s_count A n w).1))) M' ∧ fr [0] M M' ∧ ST L xs M' A n S F :=
  st_call h h.2.2.1 (by have := c_count (M := M) (A := A) hd hw h.2.2.1.li h.2.2.2.1; rw [s_count2] at this; exact this)
/-! what they answer -/
theorem v_told {A : lA} (h : LI A) {c : Nat} (hc : c < nC A) : (s_told A c 0).1 = A 1 0 c ∧ (s_told A c 1).1 = A 2 0 c ∧ (s_told A c 2).1 = A 3 0 c ∧ (s_told A c 3).1 = sm (A 4 c) 4 := by
  have := h.nc
  have hn : ¬ ¬ (0 ≤ (c : Int) ∧ (c : Int) < A 0 0 0) := by omega
  unfold s_told
  refine ⟨?_, ?_, ?_, ?_⟩
  · rw [if_neg hn, if_pos rfl, Int.toNat_natCast]
  · rw [if_neg hn, if_neg (by decide), if_pos rfl, Int.toNat_natCast]
  · rw [if_neg hn, if_neg (by decide), if_neg (by decide), if_pos rfl, Int.toNat_natCast]
  · rw [if_neg hn, if_neg (by decide), if_neg (by decide), if_neg (by decide), if_pos rfl, Int.toNat_natCast]
theorem v_told0 {A : lA} (h : LI A) {c : Nat} (hc : nC A ≤ c) (w : Int) : (s_told A c w).1 = -1 := by
  have := h.nc
  unfold s_told
  rw [if_pos (by omega)]
theorem v_of {A : lA} (h : LI A) {v : Nat} (hv : v < nV A) : (s_of A v 0).1 = A 5 0 v ∧ (s_of A v 1).1 = A 6 0 v ∧ (s_of A v 2).1 = A 7 0 v ∧ (s_of A v 3).1 = A 8 0 v ∧ (s_of A v 4).1 = A 6 0 v - td A v := by
  have := h.nv
  have hn : ¬ ¬ (0 ≤ (v : Int) ∧ (v : Int) < A 0 0 1) := by omega
  unfold s_of
  refine ⟨?_, ?_, ?_, ?_, ?_⟩
  · rw [if_neg hn, if_pos rfl, Int.toNat_natCast]
  · rw [if_neg hn, if_neg (by decide), if_pos rfl, Int.toNat_natCast]
  · rw [if_neg hn, if_neg (by decide), if_neg (by decide), if_pos rfl, Int.toNat_natCast]
  · rw [if_neg hn, if_neg (by decide), if_neg (by decide), if_neg (by decide), if_pos rfl, Int.toNat_natCast]
  · rw [if_neg hn, if_neg (by decide), if_neg (by decide), if_neg (by decide), if_neg (by decide), if_pos rfl, Int.toNat_natCast]
theorem v_holds {A : lA} (h : LI A) {v c : Nat} (hv : v < nV A) : (s_holds A v c).1 = if c < nC A then A 4 c v else -1 := by
  have h1 := h.nc
  have h2 := h.nv
  unfold s_holds
  by_cases g : c < nC A
  · rw [if_neg (by omega), if_pos g, Int.toNat_natCast, Int.toNat_natCast]
  · rw [if_pos (by omega), if_neg g]
theorem v_fallen {A : lA} {f : Int} (hf : 0 ≤ f ∧ f ≤ 24) : (s_fallen A f).1 = A 9 0 f.toNat := by
  unfold s_fallen
  rw [if_neg (by omega)]
theorem v_count {A : lA} {n : Nat} : (s_count A n 0).1 = ov A (nC A) ∧ (s_count A n 2).1 = A 0 0 2 ∧ (s_count A n 4).1 = wo A (nC A) ∧ (s_count A n 5).1 = wa A (nC A) ∧ (s_count A n 6).1 = ft A := by
  unfold s_count
  exact ⟨rfl, rfl, rfl, rfl, rfl⟩
theorem ov_nn {A : lA} (n : Nat) : 0 ≤ ov A n ∧ ov A n ≤ n := by
  have h1 : 0 ≤ ov A n := sm_nn n (fun j _ => by show 0 ≤ if A 2 0 j = 25 then (0 : Int) else 1; split <;> omega)
  have h2 := sm_le (s := fun c => if A 2 0 c = 25 then (0 : Int) else 1) (b := 1) n (fun j _ => by show (if A 2 0 j = 25 then (0 : Int) else 1) ≤ 1; split <;> omega)
  have h2 : ov A n ≤ 1 * (n : Int) := h2
  omega
theorem ft_nn {A : lA} (h : P3 A) : 0 ≤ ft A := sm_nn 25 (fun j hj => h j hj)
theorem sw_nn {A : lA} (h : LI A) : 0 ≤ sm (A 3 0) (nC A) := sm_nn _ (fun j hj => (h.wa (c := j) (by have := h.nc; omega)).1)
theorem wow {A : lA} : wo A (nC A) + wa A (nC A) = sm (A 3 0) (nC A) := by
  have := wa_wo (A := A) (nC A)
  omega
theorem wo_nn {A : lA} (h : LI A) : 0 ≤ wo A (nC A) ∧ 0 ≤ wa A (nC A) := by
  have hn := h.nc
  refine ⟨sm_nn _ (fun j hj => ?_), sm_nn _ (fun j hj => ?_)⟩
  · have := h.wa (c := j) (by omega)
    show 0 ≤ if A 2 0 j = 25 then 0 else A 3 0 j
    split <;> omega
  · have := h.wa (c := j) (by omega)
    show 0 ≤ if A 2 0 j = 25 then A 3 0 j else 0
    split <;> omega
theorem sm_mem {s : Nat → Int} {v : Nat} : ∀ n, v < n → (∀ j, j < n → 0 ≤ s j) → s v ≤ sm s n
  | 0, h, _ => absurd h (Nat.not_lt_zero v)
  | n + 1, h, h0 => by
    have h1 := sm_nn n (fun j hj => h0 j (by omega))
    have h2 := h0 n (by omega)
    show s v ≤ sm s n + s n
    by_cases e : v = n
    · rw [e]; omega
    · have := sm_mem (s := s) (v := v) n (by omega) (fun j hj => h0 j (by omega))
      omega
/-! which clouds are away, as bits -/
theorem bi_or : ∀ g : Fin 64, ∀ k : Fin 6, (iI (g.val : Int) ||| iI 1 <<< (iI (k.val : Int) &&& 31)) = iI ((g.val ||| 1 <<< k.val : Nat) : Int) := by decide +kernel
theorem bi_o0 : ∀ g : Fin 64, (iI (g.val : Int) ||| iI 0) = iI (g.val : Int) := by decide +kernel
theorem bi_at : ∀ g : Fin 64, ∀ k : Fin 6, (decide (((iI (g.val : Int) >>> (iI (k.val : Int) &&& 31)) &&& iI 1) = iI 0)) = !g.val.testBit k.val := by decide +kernel
theorem bi_up : ∀ g : Fin 64, ∀ k : Fin 6, (g.val ||| 1 <<< k.val) < 64 ∧ ∀ c : Fin 6, (g.val ||| 1 <<< k.val).testBit c.val = (g.val.testBit c.val || c.val == k.val) := by decide +kernel
def BG (A : lA) (g k : Nat) : Prop := g < 64 ∧ ∀ c, c < 6 → g.testBit c = decide (c < k ∧ A 2 0 c = 25)
theorem BG.y {A : lA} {g k : Nat} (h : BG A g k) (hk : k < 6) (e : A 2 0 k = 25) : BG A (g ||| 1 <<< k) (k + 1) := by
  have hu := bi_up ⟨g, h.1⟩ ⟨k, hk⟩
  refine ⟨hu.1, fun c hc => ?_⟩
  have := hu.2 ⟨c, hc⟩
  dsimp only at this
  rw [this, h.2 c hc]
  by_cases g1 : c = k
  · subst g1
    simp [e]
  · have : (c == k) = false := by simp [g1]
    rw [this, Bool.or_false]
    congr 1
    exact propext ⟨fun z => ⟨by omega, z.2⟩, fun z => ⟨by omega, z.2⟩⟩
theorem BG.n {A : lA} {g k : Nat} (h : BG A g k) (e : A 2 0 k ≠ 25) : BG A g (k + 1) := by
  refine ⟨h.1, fun c hc => ?_⟩
  rw [h.2 c hc]
  congr 1
  refine propext ⟨fun z => ⟨by omega, z.2⟩, fun z => ⟨?_, z.2⟩⟩
  by_cases g1 : c = k
  · subst g1
    exact absurd z.2 e
  · omega
theorem BG.tst {A : lA} {g k c : Nat} (h : BG A g k) (hc : c < 6) : (((iI (g : Int) >>> (iI (c : Int) &&& 31)) &&& iI 1) = iI 0) = ¬ (c < k ∧ A 2 0 c = 25) := by
  have h1 := bi_at ⟨g, h.1⟩ ⟨c, hc⟩
  dsimp only at h1
  rw [h.2 c hc] at h1
  refine propext ⟨fun z y => ?_, fun z => ?_⟩
  · rw [decide_eq_true z, decide_eq_true y] at h1
    cases h1
  · rw [decide_eq_false z] at h1
    exact of_decide_eq_true h1
