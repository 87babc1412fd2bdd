/-! contracts: the image -/
abbrev lc : Type := Nat × Nat × Nat × Nat
def sr (l : lc) : lc := (l.1 - 2, l.2)
def gL (M : mj_M) (l : lc) : Int32 := M l.1 l.2.1 l.2.2.1 l.2.2.2
theorem sr_1 {l : lc} : (sr l).1 = l.1 - 2 := rfl
theorem gL_s {M : mj_M} {l : lc} {v : Int32} : gL (mj_wl M l v) l = v := wl_s
theorem gL_n {M : mj_M} {l l' : lc} {v : Int32} (h : l' ≠ l) : gL (mj_wl M l v) l' = gL M l' := by
  refine wl_n ?_
  by_cases h1 : l'.1 = l.1
  · by_cases h2 : l'.2.1 = l.2.1
    · by_cases h3 : l'.2.2.1 = l.2.2.1
      · by_cases h4 : l'.2.2.2 = l.2.2.2
        · exact absurd (Prod.ext h1 (Prod.ext h2 (Prod.ext h3 h4))) h
        · exact Or.inr (Or.inr (Or.inr h4))
      · exact Or.inr (Or.inr (Or.inl h3))
    · exact Or.inr (Or.inl h2)
  · exact Or.inl h1
theorem fr_gL {M N : mj_M} {ps : List Nat} {l : lc} (h : fr ps M N) (g : l.1 ∉ ps) : gL N l = gL M l := by
  unfold gL
  rw [h _ g]
theorem fr.wL {ps : List Nat} {N N' : mj_M} (h : fr ps N N') {l : lc} {v : Int32} (hp : l.1 ∈ ps) : fr ps N (mj_wl N' l v) := h.wl hp
theorem c_image {A : lA} {M : mj_M} : ∃ M', (∀ d, 4 ≤ d → mj_Sp d 19 [mj_r (13, 50, 0)] (mj_ld M 0 A) (some (mj_i (iI 1))) M') ∧ fr [1, 13, 21] (mj_ld M 0 A) M' ∧ LD M' 1 A ∧ M' 13 50 0 0 = iI 1 ∧ ∀ n S F, WD M 20 n S F → WD M' 21 n S F := by
  have e0 : mj_ld (mj_ld M 0 A) 1 (lT (mj_ld M 0 A) 1) = mj_ld M 0 A := ld_self
  have sp : ∀ d, 3 ≤ d → mj_Sp d 26 [mj_r (1, 0, 0), mj_r (0, 0, 0)] (mj_ld M 0 A) none (mj_ld (wcp (mj_ld M 0 A) 20 21) 1 A) := fun d hd => by
    have := sp_takeAll (i0 := 1) (i1 := 0) (A := A) (B := lT (mj_ld M 0 A) 1) (M := mj_ld M 0 A) hd (by decide) (fun t c j ht => ld_rd ht)
    rw [e0] at this
    exact this
  have fw : fr [1, 13, 21] (mj_ld M 0 A) (wcp (mj_ld M 0 A) 20 21) := fun i hi => wcp_ne (fun e => hi (by rw [e]; decide))
  have fl : fr [1, 13, 21] (wcp (mj_ld M 0 A) 20 21) (mj_ld (wcp (mj_ld M 0 A) 20 21) 1 A) := fun i hi => ld_p (fun e => hi (by rw [e]; decide))
  refine ⟨mj_wl (mj_ld (wcp (mj_ld M 0 A) 20 21) 1 A) (13, 50, 0, 0) (iI 1), fun d hd => en_C_image (k := 3) hd fun e he P hP hQ => rg_C_image_0 hP ⟨_, sp e he, fun M2 e2 => ?_⟩, (fw.tr fl).wl (by decide), fun t c j ht ho => ?_, wl_s, fun n S F hW => ?_⟩
  · rw [e2]
    (first | exact mj_eq.rf | exact fi_n mj_eq.rf | exact fi_i rfl mj_eq.rf | exact rfl)
  · rw [wl_n (by omega), ld_rd ht]
  · refine WD.wl ?_ (by decide)
    exact (WD.cp hW.ld).ld
theorem c_restore {A B : lA} {M : mj_M} (hf : M 13 50 0 0 = iI 1) : ∃ M', (∀ d, 4 ≤ d → mj_Sp d 20 [mj_r (13, 50, 0)] (mj_ld (mj_ld M 1 B) 0 A) (some (mj_i (iI 1))) M') ∧ fr [0, 20] (mj_ld (mj_ld M 1 B) 0 A) M' ∧ LD M' 0 B ∧ ∀ n S F, WD M 21 n S F → WD M' 20 n S F := by
  have sp : ∀ d, 3 ≤ d → mj_Sp d 26 [mj_r (0, 0, 0), mj_r (1, 0, 0)] (mj_ld (mj_ld M 1 B) 0 A) none (mj_ld (wcp (mj_ld M 1 B) 21 20) 0 B) := fun d hd => sp_takeAll hd (by decide) (fun t c j ht => ld_rd ht)
  refine ⟨mj_ld (wcp (mj_ld M 1 B) 21 20) 0 B, fun d hd => en_C_restore (k := 3) hd fun e he P hP hQ => rg_C_restore_0 hP ⟨fun _ => ⟨_, sp e he, by (first | exact mj_eq.rf | exact fi_n mj_eq.rf | exact fi_i rfl mj_eq.rf | exact rfl)⟩, fun z => ?_⟩, fun i hi => ?_, LD.ld, fun n S F hW => ?_⟩
  · have h2 : mj_ld (mj_ld M 1 B) 0 A 13 50 0 0 = iI 1 := by rw [ld_ne (by decide), ld_ne (by decide), hf]
    rw [h2] at z
    exact absurd (by decide) z
  · rw [ld_p (i := 0) (fun e => hi (by rw [e]; decide)), wcp_ne (fun e => hi (by rw [e]; decide))]
    exact (ld_p (fun e => hi (by rw [e]; decide))).symm
  · exact (WD.cp hW.ld).ld
theorem c_norest {M : mj_M} (hf : M 13 50 0 0 = iI 0) (d : Nat) (hd : 1 ≤ d) : mj_Sp d 20 [mj_r (13, 50, 0)] M (some (mj_i (iI (-4)))) M := by
  refine en_C_restore (k := 0) hd fun e he P hP hQ => rg_C_restore_0 hP ⟨fun z => absurd hf z, fun _ => ?_⟩
  (first | exact mj_eq.rf | exact fi_n mj_eq.rf | exact fi_i rfl mj_eq.rf | exact rfl)
