/-! contracts: checks, sums, fills -/
theorem iI_sc (k : Nat) : iI (k : Int) + nI 1 = iI ((k + 1 : Nat) : Int) := by
  rw [iI_nI, iI_add]
  rfl
theorem iI_z : nI 0 = iI ((0 : Nat) : Int) := rfl
theorem lt_to (x y : Int32) : (x < y) = (x.toInt < y.toInt) := propext Int32.lt_iff_toInt_lt
theorem le_to (x y : Int32) : (x ≤ y) = (x.toInt ≤ y.toInt) := propext Int32.le_iff_toInt_le
theorem nI_to {n : Nat} (h : n < 2147483648) : (nI n).toInt = (n : Int) := nI_toInt h
theorem nn_to {n : Nat} (h : n < 2147483648) : (-(nI n)).toInt = -(n : Int) := by
  rw [iI_nI, iI_neg, iI_toInt (by omega) (by omega)]
theorem sp_out {d : Nat} (hd : 1 ≤ d) {x a b : Int32} {M : mj_M} : mj_Sp d 21 [mj_i x, mj_i a, mj_i b] M (some (mj_i (iI (if x.toInt < a.toInt ∨ b.toInt < x.toInt then 1 else 0)))) M := by
  refine en_C_isOutside (k := 0) hd fun e he P hP hQ => rg_C_isOutside_0 hP ⟨fun c => ?_, fun c => ⟨fun c2 => ?_, fun c2 => ?_⟩⟩
  · rw [lt_to] at c
    exact fi_i (by rw [if_pos (Or.inl c)]; rfl) mj_eq.rf
  · rw [lt_to] at c
    rw [le_to] at c2
    exact fi_i (by rw [if_neg (by omega)]; rfl) mj_eq.rf
  · rw [le_to] at c2
    exact fi_i (by rw [if_pos (by omega)]; rfl) mj_eq.rf
theorem sp_outN {d : Nat} (hd : 1 ≤ d) {x : Int32} {a b : Nat} (ha : a < 2147483648) (hb : b < 2147483648) {M : mj_M} : mj_Sp d 21 [mj_i x, mj_i (nI a), mj_i (nI b)] M (some (mj_i (iI (if x.toInt < a ∨ b < x.toInt then 1 else 0)))) M := by
  have h := sp_out hd (x := x) (a := nI a) (b := nI b) (M := M)
  simp only [nI_to ha, nI_to hb] at h
  exact h
theorem sp_outM {d : Nat} (hd : 1 ≤ d) {x : Int32} {a b : Nat} (ha : a < 2147483648) (hb : b < 2147483648) {M : mj_M} : mj_Sp d 21 [mj_i x, mj_i (-(nI a)), mj_i (nI b)] M (some (mj_i (iI (if x.toInt < -(a : Int) ∨ b < x.toInt then 1 else 0)))) M := by
  have h := sp_out hd (x := x) (a := -(nI a)) (b := nI b) (M := M)
  simp only [nn_to ha, nI_to hb] at h
  exact h
/-- the reference's check -/
theorem l64_to (x : Int32) : x.toInt64 = lI x.toInt := by
  have h := iI_rng x
  have e := lI_iI h.1 h.2
  rw [← iI_to] at e
  exact e
/-! sums -/
def sm (g : Nat → Int) : Nat → Int
  | 0 => 0
  | n + 1 => sm g n + g n
theorem sm_c {f g : Nat → Int} : ∀ n : Nat, (∀ j, j < n → f j = g j) → sm f n = sm g n
  | 0, _ => rfl
  | n + 1, h => by
    show sm f n + f n = sm g n + g n
    rw [sm_c n (fun j hj => h j (by omega)), h n (by omega)]
theorem sp_sum {d : Nat} (hd : 1 ≤ d) {q : mj_Id} {M : mj_M} {n : Nat} {g : Nat → Int} (ha : mj_ia q.2.1 = true) (hn : mj_len M q = n) (hb : n < 2147483648) (hg : ∀ j, j < n → mj_rd M q j = iI (g j)) : mj_Sp d 23 [mj_r q] M (some (mj_i (iI (sm g n)))) M := by
  refine en_C_sumOf (k := 0) hd fun e he P hP hQ => rg_C_sumOf_0 hP ⟨ha, fun x3 e3 => ?_⟩
  subst e3
  rw [hn]
  refine lp_dn (Q := fun k => ∀ o5, P 10 [some (mj_r q), some (mj_i (iI (sm g k))), some (mj_r q), some (mj_i (nI n)), some (mj_i (iI (k : Int))), o5] [] M) (n := n) (fun o5 => ?_) (fun k hk ih o5 => ?_) 0 (Nat.zero_le n) none
  · refine rg_C_sumOf_10 hP ⟨fun c => fi_i rfl mj_eq.rf, fun c => absurd ?_ c⟩
    rw [iI_nI]
    exact Int32.le_refl _
  · refine rg_C_sumOf_10 hP ⟨fun c => ?_, fun c => ?_⟩
    · rw [iI_nI, iI_le (by omega) (by omega) (by omega) (by omega)] at c
      omega
    · rw [hn, iI_nat (by omega) (by omega), show ((k : Int)).toNat = k from Int.toNat_natCast k, hg k hk]
      refine ⟨iI_in (by omega) (by omega) (by omega), fun x5 e5 x1 e1 x4 e4 => ?_⟩
      subst e5
      rw [e1, e4, iI_add, iI_sc]
      exact ih _
/-! fills -/
def mj_fl (M : mj_M) (i t c n : Nat) (v : Int32) : mj_M := fun i' t' c' j => if i' = i ∧ t' = t ∧ c' = c ∧ j < n then v else M i' t' c' j
theorem fl_sc {M : mj_M} {i t c k : Nat} {v : Int32} : mj_wl (mj_fl M i t c k v) (i, t, c, k) v = mj_fl M i t c (k + 1) v := by
  funext i' t' c' j'
  unfold mj_wl mj_up mj_us mj_fl
  dsimp only
  by_cases h : i' = i
  · subst h
    rw [if_pos rfl]
    by_cases g : t' = t ∧ c' = c ∧ j' = k
    · rw [if_pos g, if_pos ⟨rfl, g.1, g.2.1, by omega⟩]
    · rw [if_neg g]
      by_cases g2 : t' = t ∧ c' = c ∧ j' < k
      · rw [if_pos ⟨rfl, g2⟩, if_pos ⟨rfl, g2.1, g2.2.1, by omega⟩]
      · rw [if_neg (fun z => g2 z.2), if_neg (fun z => by omega)]
  · rw [if_neg h, if_neg (fun z => h z.1), if_neg (fun z => h z.1)]
theorem sp_fill {d : Nat} (hd : 1 ≤ d) {i t c n : Nat} {M : mj_M} {v : Int32} (ht : t < 60) (ha : mj_ia t = true) (hn : (mj_tl.lookup t).getD 0 = n) (hb : n < 2147483648) : mj_Sp d 61 [mj_r (i, t, c), mj_i v] M none (mj_fl M i t c n v) := by
  have hlen : ∀ N : mj_M, mj_len N (i, t, c) = n := fun N => by
    unfold mj_len
    split
    · next h => exact absurd h (by show ¬ t = 82; omega)
    · exact hn
  refine en_J_fill (k := 0) hd fun e he P hP hQ => rg_J_fill_0 hP ⟨ha, fun x3 e3 => ?_⟩
  subst e3
  rw [hlen]
  have h0 : mj_eq M (mj_fl M i t c 0 v) := mj_eq.of (by funext i' t' c' j'; unfold mj_fl; rw [if_neg (by omega)])
  refine hQ _ _ _ _ _ h0 ?_
  refine lp_dn (Q := fun k => P 5 [some (mj_r (i, t, c)), some (mj_i v), some (mj_i (iI (k : Int))), some (mj_i (nI n))] [] (mj_fl M i t c k v)) (n := n) ?_ (fun k hk ih => ?_) 0 (Nat.zero_le n)
  · refine rg_J_fill_5 hP ⟨fun z => fi_n mj_eq.rf, fun z => absurd ?_ z⟩
    rw [iI_nI]
    exact Int32.le_refl _
  · refine rg_J_fill_5 hP ⟨fun z => ?_, fun z => ?_⟩
    · rw [iI_nI, iI_le (by omega) (by omega) (by omega) (by omega)] at z
      omega
    · rw [hlen, iI_nat (by omega) (by omega), show ((k : Int)).toNat = k from Int.toNat_natCast k]
      refine ⟨?_, iI_in (by omega) (by omega) (by omega), fun M1 e1 x2 e2 => ?_⟩
      · exact Nat.ble_eq_true_of_le (by show t + 1 ≤ 80; omega)
      · rw [e1, e2, iI_sc]
        unfold mj_wr
        rw [mj_aloc_p (by exact ht)]
        rw [fl_sc]
        exact ih
