/-! contracts: the reference's winds -/
def RD (N : mj_M) (m : Nat) (S F : Nat → Int) : Prop := ∀ j, j < m → N 33 65 0 (2 * j) = iI (S j) ∧ N 33 65 0 (2 * j + 1) = iI (F j)
def RG (m : Nat) (S F : Nat → Int) : Prop := ∀ j, j < m → (0 ≤ S j ∧ S j ≤ 3) ∧ 0 ≤ F j ∧ F j ≤ 3
theorem RD.p {N N' : mj_M} {m : Nat} {S F : Nat → Int} (h : RD N m S F) (e : ∀ j, N' 33 65 0 j = N 33 65 0 j) : RD N' m S F := fun j hj => by
  rw [e, e]
  exact h j hj
/-- what comes of the winds: an answer and, if they were told, the winds -/
def WA (R : Int) (m : Nat) (S F : Nat → Int) : Prop := iR R ∧ (0 < R → R = m ∧ m ≤ 12 ∧ RG m S F)
def WN (N N' : mj_M) (R : Int) (m : Nat) (S F : Nat → Int) : Prop := fr [32, 33, 34] N N' ∧ N' 32 63 0 0 = iI 0 ∧ (0 < R → WD N' 34 m S F) ∧ (¬ 0 < R → N' 34 = N 34)
theorem fr.one {ps : List Nat} {p : Nat} {N N' : mj_M} (f : fr [p] N N') (h : p ∈ ps) : fr ps N N' := fun i hi => f i (fun z => hi (List.mem_singleton.mp z ▸ h))
theorem WN.of {N N1 N' : mj_M} {R : Int} {m : Nat} {S F : Nat → Int} (h : WN N1 N' R m S F) (f : fr [33] N N1) : WN N N' R m S F := by
  obtain ⟨h1, h2, h3, h4⟩ := h
  have f2 : fr [32, 33, 34] N N1 := f.one (by decide)
  exact ⟨f2.tr h1, h2, h3, fun z => (h4 z).trans (f 34 (by decide))⟩
