/-! contracts: the tape -/
/-- a byte of a long -/
def byt (w : Int64) (k : Nat) : Int := ((w.toBitVec >>> (8 * k)) &&& 255#64).toNat
theorem m255 : ∀ j : Fin 64, (255#64).getLsbD j.val = decide (j.val < 8) := by decide
theorem ssr (x : BitVec 64) {s : Nat} (hs : s ≤ 56) : x.sshiftRight s &&& 255#64 = (x >>> s) &&& 255#64 := by
  apply BitVec.eq_of_getLsbD_eq
  intro j hj
  rw [BitVec.getLsbD_and, BitVec.getLsbD_and, m255 ⟨j, hj⟩]
  by_cases g : j < 8
  · rw [BitVec.getLsbD_sshiftRight, BitVec.getLsbD_ushiftRight]
    have h1 : ¬ (64 ≤ j) := by omega
    have h2 : s + j < 64 := by omega
    simp [h1, h2]
  · simp [g]
theorem byt_r (w : Int64) (k : Nat) : 0 ≤ byt w k ∧ byt w k ≤ 255 := by
  unfold byt
  have e : ((w.toBitVec >>> (8 * k)) &&& 255#64).toNat = (w.toBitVec >>> (8 * k)).toNat % 256 := by
    rw [BitVec.toNat_and]
    have : (255#64).toNat = 2 ^ 8 - 1 := by decide
    rw [this, Nat.and_two_pow_sub_one_eq_mod]
  rw [e]
  omega
theorem byt_c (x : BitVec 64) : ((x.signExtend 32) &&& 255#32).toNat = (x &&& 255#64).toNat := by
  rw [BitVec.signExtend_eq_setWidth_of_le _ (by decide), BitVec.toNat_and, BitVec.toNat_and, BitVec.toNat_setWidth]
  have h1 : (255#32).toNat = 2 ^ 8 - 1 := by decide
  have h2 : (255#64).toNat = 2 ^ 8 - 1 := by decide
  rw [h1, h2, Nat.and_two_pow_sub_one_eq_mod, Nat.and_two_pow_sub_one_eq_mod]
  omega
theorem iI_tn {x : Int32} {z : Int} (h : (x.toBitVec.toNat : Int) = z) (h2 : z < 256) : x = iI z := by
  apply Int32.toBitVec_inj.mp
  apply BitVec.eq_of_toNat_eq
  show x.toBitVec.toNat = (BitVec.ofInt 32 z).toNat
  rw [BitVec.toNat_ofInt]
  omega
theorem lI_tn {x : Int64} {z : Int} (h : (x.toBitVec.toNat : Int) = z) (h2 : z < 256) : x = lI z := by
  apply Int64.toBitVec_inj.mp
  apply BitVec.eq_of_toNat_eq
  show x.toBitVec.toNat = (BitVec.ofInt 64 z).toNat
  rw [BitVec.toNat_ofInt]
  omega
theorem byt_C {w : Int64} {k : Nat} (hk : k < 8) : ((w.toUInt64 >>> ((iI 8 * iI (k : Int)).toInt64.toUInt64 &&& Int64.toUInt64 63)).toInt64.toInt32 &&& iI 255) = iI (byt w k) := by
  have hr := byt_r w k
  refine iI_tn ?_ (by omega)
  have key : ∀ x : BitVec 64, x = w.toBitVec >>> (8 * k) → ((((x.signExtend 32) &&& 255#32).toNat : Nat) : Int) = byt w k := fun x hx => by
    rw [byt_c, hx]
    rfl
  have : k = 0 ∨ k = 1 ∨ k = 2 ∨ k = 3 ∨ k = 4 ∨ k = 5 ∨ k = 6 ∨ k = 7 := by omega
  rcases this with h | h | h | h | h | h | h | h <;> subst h <;> exact key _ rfl
theorem byt_R {w : Int64} {k : Nat} (hk : k < 8) : ((w >>> ((iI 8 * iI (k : Int)).toInt64 &&& 63)) &&& lN 255) = lI (byt w k) := by
  have hr := byt_r w k
  refine lI_tn ?_ (by omega)
  have key : ∀ x : BitVec 64, x = w.toBitVec.sshiftRight (8 * k) → (((x &&& 255#64).toNat : Nat) : Int) = byt w k := fun x hx => by
    rw [hx, ssr _ (by omega)]
    rfl
  have : k = 0 ∨ k = 1 ∨ k = 2 ∨ k = 3 ∨ k = 4 ∨ k = 5 ∨ k = 6 ∨ k = 7 := by omega
  rcases this with h | h | h | h | h | h | h | h <;> subst h <;> exact key _ rfl
theorem lI_32 {z : Int} (h1 : 0 ≤ z) (h2 : z < 256) : (lI z).toInt32 = iI z := by
  refine iI_tn ?_ h2
  show (((BitVec.ofInt 64 z).signExtend 32).toNat : Int) = z
  rw [BitVec.signExtend_eq_setWidth_of_le _ (by decide), BitVec.toNat_setWidth, BitVec.toNat_ofInt]
  omega
