/-! contracts: winds read from the tape -/
def sd (x : Int) : Int := if x = 117 then 0 else if x = 108 then 1 else if x = 114 then 2 else if x = 100 then 3 else -1
theorem sd_r (x : Int) : -1 ≤ sd x ∧ sd x ≤ 3 := by
  unfold sd
  repeat' split
  all_goals omega
def ups (S : Nat → Int) (m : Nat) (x : Int) : Nat → Int := fun j => if j = m then x else S j
theorem sp_side {d : Nat} (hd : 1 ≤ d) {x : Int} {M : mj_M} (hx : iR x) : mj_Sp d 56 [mj_i (iI x)] M (some (mj_i (iI (sd x)))) M := by
  unfold iR at hx
  refine en_Ta_sideOf (k := 0) hd fun e he P hP hQ => rg_Ta_sideOf_0 hP ?_
  simp (disch := omega) only [nl_0, nl_1, nl_2, nl_3, nl_4, nl_5, nl_6, nl_7, nl_8, nl_9, nl_10, nl_11, nl_12, nl_13, nl_14, nl_15, nl_16, nl_17, nl_18, nl_19, nl_20, nl_21, nl_22, nl_23, nl_24, nl_25, nl_26, nl_27, nl_28, nl_31, nl_32, nl_42, nl_44, nl_46, nl_48, nl_49, nl_50, nl_51, nl_60, nl_75, nl_76, nl_99, nl_100, nl_108, nl_114, nl_117, nl_126, nl_255, nl_999, nl_2401, nl_9999, nl_12345, nl_65536, nl_1000000, nl_1103515245, nl_2147483647, iI_0, iI_neg, iI_add, iI_sub, iI_mul, iI_div, iI_mod, iI_lt, iI_le, iI_eq, iI_nat, iI_vp, ld_rd, ld_wl, lu_s, lu_t, lu_c, lu_j, forall_eq, Int.toNat_natCast, true_and, and_true, not_true, not_false_iff, Classical.not_not, forall_const, iI_inj]
  refine ⟨fun z => ?_, fun z => ⟨fun z2 => ?_, fun z2 => ⟨fun z3 => ?_, fun z3 => ⟨fun z4 => ?_, fun z4 => ?_⟩⟩⟩⟩
  · rw [show sd x = 3 from by subst z; rfl]; (first | exact mj_eq.rf | exact fi_n mj_eq.rf | exact fi_i rfl mj_eq.rf | exact rfl)
  · rw [show sd x = 1 from by subst z2; rfl]; (first | exact mj_eq.rf | exact fi_n mj_eq.rf | exact fi_i rfl mj_eq.rf | exact rfl)
  · rw [show sd x = 2 from by subst z3; rfl]; (first | exact mj_eq.rf | exact fi_n mj_eq.rf | exact fi_i rfl mj_eq.rf | exact rfl)
  · rw [show sd x = 0 from by subst z4; rfl]; (first | exact mj_eq.rf | exact fi_n mj_eq.rf | exact fi_i rfl mj_eq.rf | exact rfl)
  · rw [show sd x = -1 from by unfold sd; rw [if_neg z4, if_neg z2, if_neg z3, if_neg z]]; (first | exact mj_eq.rf | exact fi_n mj_eq.rf | exact fi_i rfl mj_eq.rf | exact rfl)
/-- the place of the first sign that is no blank, or the end -/
def SK (n : Nat) (T : Nat → Int) (p q : Nat) : Prop := p ≤ q ∧ q ≤ n ∧ (∀ j, p ≤ j → j < q → T j = 32) ∧ (q < n → T q ≠ 32)
theorem SK.ex {n : Nat} {T : Nat → Int} : ∀ r p, p + r = n → ∃ q, SK n T p q
  | 0, p, h => ⟨p, Nat.le_refl _, by omega, fun j h1 h2 => absurd h1 (by omega), fun h1 => absurd h1 (by omega)⟩
  | r + 1, p, h => by
    by_cases g : T p = 32
    · obtain ⟨q, h1, h2, h3, h4⟩ := SK.ex (n := n) (T := T) r (p + 1) (by omega)
      refine ⟨q, by omega, h2, fun j h5 h6 => ?_, h4⟩
      by_cases e : j = p
      · rw [e]; exact g
      · exact h3 j (by omega) h6
    · exact ⟨p, Nat.le_refl _, by omega, fun j h1 h2 => absurd h1 (by omega), fun _ => g⟩
theorem SK.at {n : Nat} {T : Nat → Int} {p q : Nat} (h : SK n T p q) : SK n T q q := ⟨Nat.le_refl _, h.2.1, fun j h1 h2 => absurd h1 (by omega), h.2.2.2⟩
/-- the sign there, or none -/
def hb (n : Nat) (T : Nat → Int) (q : Nat) : Int := if q < n then T q else 0
theorem hb_r {n : Nat} {T : Nat → Int} (h : TI n T) (q : Nat) : 0 ≤ hb n T q ∧ hb n T q ≤ 126 := by
  unfold hb
  split
  · have := h.2 q (by omega)
    omega
  · omega
theorem wl_self {N : mj_M} {p t c j : Nat} {v : Int32} (h : N p t c j = v) : mj_wl N (p, t, c, j) v = N := by
  funext p' t' c' j'
  by_cases g : p' ≠ p ∨ t' ≠ t ∨ c' ≠ c ∨ j' ≠ j
  · exact wl_n g
  · have h1 : p' = p := by omega
    have h2 : t' = t := by omega
    have h3 : c' = c := by omega
    have h4 : j' = j := by omega
    rw [h1, h2, h3, h4, wl_s, h]
theorem wl_wl {N : mj_M} {p t c j : Nat} {v w : Int32} : mj_wl (mj_wl N (p, t, c, j) v) (p, t, c, j) w = mj_wl N (p, t, c, j) w := by
  funext p' t' c' j'
  by_cases g : p' ≠ p ∨ t' ≠ t ∨ c' ≠ c ∨ j' ≠ j
  · rw [wl_n g, wl_n g, wl_n g]
  · have h1 : p' = p := by omega
    have h2 : t' = t := by omega
    have h3 : c' = c := by omega
    have h4 : j' = j := by omega
    rw [h1, h2, h3, h4, wl_s, wl_s]
theorem TF.wl {N : mj_M} {n : Nat} {T : Nat → Int} (h : TF N n T) {p t c j : Nat} {v : Int32} (hp : p ≠ 32) : TF (mj_wl N (p, t, c, j) v) n T := by
  unfold TF
  rw [wl_p (fun e => hp e.symm)]
  exact h
