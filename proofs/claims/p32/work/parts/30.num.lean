/-! numbers: Int32 by an Int -/
def iI (z : Int) : Int32 := Int32.ofInt z
def lI (z : Int) : Int64 := Int64.ofInt z
theorem iI_nI (n : Nat) : nI n = iI (n : Int) := by
  unfold nI iI
  rw [Int32.ofInt_eq_ofNat]
theorem iI_0 : (0 : Int32) = iI 0 := rfl
theorem iI_1 : (1 : Int32) = iI 1 := rfl
theorem iI_add (a b : Int) : iI a + iI b = iI (a + b) := (Int32.ofInt_add a b).symm
theorem iI_sub (a b : Int) : iI a - iI b = iI (a - b) := (Int32.ofInt_sub a b).symm
theorem iI_mul (a b : Int) : iI a * iI b = iI (a * b) := (Int32.ofInt_mul a b).symm
theorem iI_neg (a : Int) : -iI a = iI (-a) := (Int32.ofInt_neg a).symm
theorem iI_to (x : Int32) : x = iI x.toInt := (Int32.ofInt_toInt x).symm
theorem iI_toInt {z : Int} (h : -2147483648 ≤ z) (h2 : z < 2147483648) : (iI z).toInt = z := by
  unfold iI
  rw [Int32.toInt_ofInt]
  exact Int.bmod_eq_of_le (m := 4294967296) (by omega) (by omega)
theorem iI_rng (x : Int32) : -2147483648 ≤ x.toInt ∧ x.toInt < 2147483648 := ⟨Int32.le_toInt x, Int32.toInt_lt x⟩
theorem iI_le {a b : Int} (h1 : -2147483648 ≤ a) (h2 : a < 2147483648) (h3 : -2147483648 ≤ b) (h4 : b < 2147483648) : (iI a ≤ iI b) = (a ≤ b) := by
  rw [Int32.le_iff_toInt_le, iI_toInt h1 h2, iI_toInt h3 h4]
theorem iI_lt {a b : Int} (h1 : -2147483648 ≤ a) (h2 : a < 2147483648) (h3 : -2147483648 ≤ b) (h4 : b < 2147483648) : (iI a < iI b) = (a < b) := by
  rw [Int32.lt_iff_toInt_lt, iI_toInt h1 h2, iI_toInt h3 h4]
theorem iI_eq {a b : Int} (h1 : -2147483648 ≤ a) (h2 : a < 2147483648) (h3 : -2147483648 ≤ b) (h4 : b < 2147483648) : (iI a = iI b) = (a = b) := by
  rw [← Int32.toInt_inj, iI_toInt h1 h2, iI_toInt h3 h4]
theorem iI_nat {z : Int} (h1 : 0 ≤ z) (h2 : z < 2147483648) : (iI z).toNatClampNeg = z.toNat := by
  have h : iI z = nI z.toNat := by
    rw [iI_nI]
    congr 1
    omega
  rw [h, nI_clamp (by omega)]
theorem iI_in {z : Int} {N : Nat} (h1 : 0 ≤ z) (h2 : z < N) (h3 : N < 2147483648) : vp_in (iI z) N := by
  show ¬ (iI z < 0 ∨ N ≤ (iI z).toNatClampNeg)
  rw [iI_nat h1 (by omega), iI_0, iI_lt (by omega) (by omega) (by omega) (by omega)]
  omega
theorem iI_div {a b : Int} (h1 : 0 ≤ a) (h2 : a < 2147483648) (h3 : 0 < b) (h4 : b < 2147483648) : iI a / iI b = iI (a / b) := by
  apply Int32.toInt_inj.mp
  have h5 : 0 ≤ a / b := Int.ediv_nonneg h1 (by omega)
  have h6 : a / b ≤ a := Int.ediv_le_self b h1
  rw [Int32.toInt_div, iI_toInt (by omega) h2, iI_toInt (by omega) h4, iI_toInt (by omega) (by omega), Int.tdiv_eq_ediv_of_nonneg h1]
  exact Int.bmod_eq_of_le (by omega) (by omega)
theorem iI_mod {a b : Int} (h1 : 0 ≤ a) (h2 : a < 2147483648) (h3 : 0 < b) (h4 : b < 2147483648) : iI a % iI b = iI (a % b) := by
  apply Int32.toInt_inj.mp
  have h5 : 0 ≤ a % b := Int.emod_nonneg a (by omega)
  have h6 : a % b < b := Int.emod_lt_of_pos a h3
  rw [Int32.toInt_mod, iI_toInt (by omega) h2, iI_toInt (by omega) h4, iI_toInt (by omega) (by omega), Int.tmod_eq_emod_of_nonneg h1]
theorem lI_lN (n : Nat) : lN n = lI (n : Int) := by
  unfold lN lI
  rw [Int64.ofInt_eq_ofNat]
theorem lI_iI {z : Int} (h1 : -2147483648 ≤ z) (h2 : z < 2147483648) : (iI z).toInt64 = lI z := by
  apply Int64.toInt_inj.mp
  rw [Int32.toInt_toInt64, iI_toInt h1 h2]
  unfold lI
  rw [Int64.toInt_ofInt]
  exact (Int.bmod_eq_of_le (m := 18446744073709551616) (by omega) (by omega)).symm
theorem lI_toInt {z : Int} (h : -9223372036854775808 ≤ z) (h2 : z < 9223372036854775808) : (lI z).toInt = z := by
  unfold lI
  rw [Int64.toInt_ofInt]
  exact Int.bmod_eq_of_le (m := 18446744073709551616) (by omega) (by omega)
theorem lI_cmp {a b : Int} (h1 : -9223372036854775808 ≤ a) (h2 : a < 9223372036854775808) (h3 : -9223372036854775808 ≤ b) (h4 : b < 9223372036854775808) : (lg_cmp (lI a) (lI b) < 0) = (a < b) ∧ (0 < lg_cmp (lI a) (lI b)) = (b < a) := by
  have e1 : (lI b < lI a) = (b < a) := by rw [Int64.lt_iff_toInt_lt, lI_toInt h1 h2, lI_toInt h3 h4]
  have e2 : (lI a = lI b) = (a = b) := by rw [← Int64.toInt_inj, lI_toInt h1 h2, lI_toInt h3 h4]
  unfold lg_cmp
  simp only [gt_iff_lt, e1, e2]
  by_cases h : b < a
  · rw [if_pos h]
    exact ⟨propext ⟨fun z => absurd z (by decide), fun z => by omega⟩, propext ⟨fun _ => h, fun _ => by decide⟩⟩
  · rw [if_neg h]
    by_cases g : a = b
    · rw [if_pos g]
      exact ⟨propext ⟨fun z => absurd z (by decide), fun z => by omega⟩, propext ⟨fun z => absurd z (by decide), fun z => by omega⟩⟩
    · rw [if_neg g]
      exact ⟨propext ⟨fun _ => by omega, fun _ => by decide⟩, propext ⟨fun z => absurd z (by decide), fun z => absurd z h⟩⟩
