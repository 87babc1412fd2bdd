/-! the law's own numbers: what holds between two calls -/
def IM (M : mj_M) : Prop := (M 13 50 0 0 = iI 0 ∧ M 31 63 0 0 = iI 0) ∨ (M 13 50 0 0 = iI 1 ∧ M 31 63 0 0 = iI 1 ∧ ∃ (B : lA) (n : Nat) (S F : Nat → Int), LD M 1 B ∧ LD M 16 B ∧ LJ B ∧ WD M 21 n S F ∧ WD M 36 n S F)
def IX (L : Nat) (xs : Nat → Int32) (M : mj_M) : Prop := mj_sM M ∧ M 41 = lw_M L xs 41 ∧ ∀ j, j < 10 → M 11 26 6 j = 0
def IT (M : mj_M) : Prop := ∃ (n : Nat) (T : Nat → Int), TC M n T ∧ TF M n T ∧ TI n T
def IS (M : mj_M) : Prop := ∃ (ln sz : Nat → Int) (I : Nat → Nat → Int32), SC M ln sz I ∧ SF M ln sz I ∧ SI ln sz
def IA (M : mj_M) (A : lA) : Prop := LD M 0 A ∧ LD M 14 A ∧ LJ A
def IW (M : mj_M) (n : Nat) (S F : Nat → Int) : Prop := WD M 20 n S F ∧ WD M 34 n S F
def IV (L : Nat) (xs : Nat → Int32) (M : mj_M) : Prop := IX L xs M ∧ IT M ∧ IS M ∧ IM M ∧ (∃ A, IA M A) ∧ ∃ n S F, IW M n S F
theorem fr.mo {ps qs : List Nat} {N N' : mj_M} (f : fr ps N N') (h : ∀ i ∈ ps, i ∈ qs) : fr qs N N' := fun i hi => f i (fun z => hi (h i z))
theorem LD.pe {M M' : mj_M} {i : Nat} {A : lA} (h : LD M i A) (e : M' i = M i) : LD M' i A := fun t c j ht ho => by
  rw [e]
  exact h t c j ht ho
theorem WD.pe {M M' : mj_M} {p n : Nat} {S F : Nat → Int} (h : WD M p n S F) (e : M' p = M p) : WD M' p n S F := by
  unfold WD
  rw [e]
  exact h
theorem SC.pe {M M' : mj_M} {ln sz : Nat → Int} {I : Nat → Nat → Int32} (h : SC M ln sz I) (e : M' 7 = M 7) : SC M' ln sz I := by
  unfold SC
  rw [e]
  exact h
theorem SF.pe {M M' : mj_M} {ln sz : Nat → Int} {I : Nat → Nat → Int32} (h : SF M ln sz I) (e : M' 35 = M 35) : SF M' ln sz I := by
  unfold SF
  rw [e]
  exact h
theorem TC.pe {M M' : mj_M} {n : Nat} {T : Nat → Int} (h : TC M n T) (e : M' 6 = M 6) : TC M' n T := by
  unfold TC
  rw [e]
  exact h
theorem TF.pe {M M' : mj_M} {n : Nat} {T : Nat → Int} (h : TF M n T) (e : M' 32 = M 32) : TF M' n T := by
  unfold TF
  rw [e]
  exact h
theorem IM.fr {M M' : mj_M} (h : IM M) {ps : List Nat} (f : fr ps M M') (k : ∀ i ∈ [1, 13, 16, 21, 31, 36], i ∉ ps) : IM M' := by
  rcases h with ⟨h1, h2⟩ | ⟨h1, h2, B, n, S, F, h3, h4, h5, h6, h7⟩
  · refine Or.inl ⟨?_, ?_⟩
    · rw [f 13 (k 13 (by decide))]; exact h1
    · rw [f 31 (k 31 (by decide))]; exact h2
  · refine Or.inr ⟨?_, ?_, B, n, S, F, h3.pe (f 1 (k 1 (by decide))), h4.pe (f 16 (k 16 (by decide))), h5, h6.pe (f 21 (k 21 (by decide))), h7.pe (f 36 (k 36 (by decide)))⟩
    · rw [f 13 (k 13 (by decide))]; exact h1
    · rw [f 31 (k 31 (by decide))]; exact h2
theorem IX.fr {L : Nat} {xs : Nat → Int32} {M M' : mj_M} (h : IX L xs M) {ps : List Nat} (f : fr ps M M') (k : ∀ i ∈ [40, 41], i ∉ ps) (k2 : ∀ j, j < 10 → M' 11 26 6 j = 0) : IX L xs M' :=
  ⟨f.sM h.1 (k 40 (by decide)), (f 41 (k 41 (by decide))).trans h.2.1, k2⟩
theorem IT.fr {M M' : mj_M} (h : IT M) {ps : List Nat} (f : fr ps M M') (k : ∀ i ∈ [6, 32], i ∉ ps) : IT M' := by
  obtain ⟨n, T, h1, h2, h3⟩ := h
  exact ⟨n, T, h1.pe (f 6 (k 6 (by decide))), h2.pe (f 32 (k 32 (by decide))), h3⟩
theorem IS.fr {M M' : mj_M} (h : IS M) {ps : List Nat} (f : fr ps M M') (k : ∀ i ∈ [7, 35], i ∉ ps) : IS M' := by
  obtain ⟨ln, sz, I, h1, h2, h3⟩ := h
  exact ⟨ln, sz, I, h1.pe (f 7 (k 7 (by decide))), h2.pe (f 35 (k 35 (by decide))), h3⟩
theorem IA.fr {M M' : mj_M} {A : lA} (h : IA M A) {ps : List Nat} (f : fr ps M M') (k : ∀ i ∈ [0, 14], i ∉ ps) : IA M' A :=
  ⟨h.1.pe (f 0 (k 0 (by decide))), h.2.1.pe (f 14 (k 14 (by decide))), h.2.2⟩
theorem IW.fr {M M' : mj_M} {n : Nat} {S F : Nat → Int} (h : IW M n S F) {ps : List Nat} (f : fr ps M M') (k : ∀ i ∈ [20, 34], i ∉ ps) : IW M' n S F :=
  ⟨h.1.pe (f 20 (k 20 (by decide))), h.2.pe (f 34 (k 34 (by decide)))⟩
/-- a call on both sides that answers alike and keeps what holds -/
def OK (L : Nat) (xs : Nat → Int32) (f g : Nat) (args : List mj_V) (M : mj_M) : Prop := ∃ (z : Int32) (M1 M2 : mj_M), mj_Sp 10 f (mj_r (13, 50, 0) :: args) M (some (mj_i z)) M1 ∧ M1 41 = M 41 ∧ mj_Sp 10 g (mj_r (30, 60, 0) :: args) M1 (some (mj_i z)) M2 ∧ IV L xs M2
theorem ok_pair {L : Nat} {xs : Nat → Int32} {f g : Nat} {args : List mj_V} {M : mj_M} {z : Int32} {A A' : lA} (h : IV L xs M) (hA : IA M A) (hA' : LJ A') (c : mj_Sp 10 f (mj_r (13, 50, 0) :: args) (mj_ld M 0 A) (some (mj_i z)) (mj_ld M 0 A')) (m : mj_Sp 10 g (mj_r (30, 60, 0) :: args) (mj_ld (mj_ld M 0 A') 14 A) (some (mj_i z)) (mj_ld (mj_ld M 0 A') 14 A')) : OK L xs f g args M := by
  obtain ⟨hX, hT, hS, hI, -, n, S, F, hW⟩ := h
  have f1 : fr [0, 14] M (mj_ld (mj_ld M 0 A') 14 A') := fun i hi => by
    rw [ld_p (fun e => hi (by rw [e]; decide)), ld_p (fun e => hi (by rw [e]; decide))]
  have h14 : LD (mj_ld M 0 A') 14 A := hA.2.1.ne (by decide)
  refine ⟨z, mj_ld M 0 A', mj_ld (mj_ld M 0 A') 14 A', sp_in hA.1.eq c, ld_p (by decide), sp_in h14.eq m, hX.fr f1 (by decide) (fun j hj => ?_), hT.fr f1 (by decide), hS.fr f1 (by decide), hI.fr f1 (by decide), ⟨A', LD.ld.ne (by decide), LD.ld, hA'⟩, n, S, F, hW.fr f1 (by decide)⟩
  rw [f1 11 (by decide)]
  exact hX.2.2 j hj
/-- a question: nothing of the numbers is another behind it -/
theorem ok_ask {L : Nat} {xs : Nat → Int32} {f g : Nat} {args : List mj_V} {M M1 M2 : mj_M} {z : Int32} {A : lA} {p1 p2 : List Nat} (h : IV L xs M) (hA : IA M A) (c : mj_Sp 10 f (mj_r (13, 50, 0) :: args) (mj_ld M 0 A) (some (mj_i z)) M1) (f1 : fr p1 (mj_ld M 0 A) M1) (k1 : ∀ i ∈ [0, 14, 20, 34, 6, 32, 7, 35, 1, 13, 16, 21, 31, 36, 40, 41], i ∉ p1) (z1 : ∀ j, j < 10 → M1 11 26 6 j = 0) (m : mj_Sp 10 g (mj_r (30, 60, 0) :: args) (mj_ld M1 14 A) (some (mj_i z)) M2) (f2 : fr p2 M1 M2) (k2 : ∀ i ∈ [0, 11, 20, 34, 6, 32, 7, 35, 1, 13, 16, 21, 31, 36, 40, 41], i ∉ p2) (h14 : LD M2 14 A) : OK L xs f g args M := by
  obtain ⟨hX, hT, hS, hI, -, n, S, F, hW⟩ := h
  have h1 : ∀ i, i ∉ p1 → i ≠ 0 → M1 i = M i := fun i hi h0 => (f1 i hi).trans (ld_p h0)
  have h2 : ∀ i, i ∉ p2 → i ∉ p1 → i ≠ 0 → M2 i = M i := fun i hi hj h0 => (f2 i hi).trans (h1 i hj h0)
  have l0 : LD M1 0 A := LD.pe LD.ld (f1 0 (k1 0 (by decide)))
  have l14 : LD M1 14 A := hA.2.1.pe (h1 14 (k1 14 (by decide)) (by decide))
  have fm : fr (0 :: (p1 ++ p2)) M M2 := fun i hi => h2 i (fun z => hi (List.mem_cons_of_mem _ (List.mem_append_right _ z))) (fun z => hi (List.mem_cons_of_mem _ (List.mem_append_left _ z))) (fun e => hi (by rw [e]; exact List.mem_cons_self))
  have km : ∀ i, i ≠ 0 → i ∉ p1 → i ∉ p2 → i ∉ (0 :: (p1 ++ p2)) := fun i e a b z => by
    rcases List.mem_cons.mp z with z | z
    · exact e z
    · rcases List.mem_append.mp z with z | z
      · exact a z
      · exact b z
  have kk2 : ∀ i ∈ [20, 34, 6, 32, 7, 35, 1, 13, 16, 21, 31, 36, 40, 41], i ∉ (0 :: (p1 ++ p2)) := fun i hi => by
    have e0 : ∀ i ∈ [20, 34, 6, 32, 7, 35, 1, 13, 16, 21, 31, 36, 40, 41], i ≠ 0 := by decide
    exact km i (e0 i hi) (k1 i (List.mem_cons_of_mem _ (List.mem_cons_of_mem _ hi))) (k2 i (List.mem_cons_of_mem _ (List.mem_cons_of_mem _ hi)))
  have kq : ∀ (l : List Nat), (∀ i ∈ l, i ∈ [20, 34, 6, 32, 7, 35, 1, 13, 16, 21, 31, 36, 40, 41]) → ∀ i ∈ l, i ∉ (0 :: (p1 ++ p2)) := fun l hl i hi => kk2 i (hl i hi)
  refine ⟨z, M1, M2, sp_in hA.1.eq c, h1 41 (k1 41 (by decide)) (by decide), sp_in l14.eq m, hX.fr fm (kq _ (by decide)) (fun j hj => ?_), hT.fr fm (kq _ (by decide)), hS.fr fm (kq _ (by decide)), hI.fr fm (kq _ (by decide)), ⟨A, l0.pe (f2 0 (k2 0 (by decide))), h14, hA.2.2⟩, n, S, F, hW.fr fm (kq _ (by decide))⟩
  rw [f2 11 (k2 11 (by decide))]
  exact z1 j hj
/-- a call on sheets -/
theorem ok_sheets {L : Nat} {xs : Nat → Int32} {f g : Nat} {args : List mj_V} {M M1 M2 : mj_M} {z : Int32} {A : lA} {ln sz : Nat → Int} {I : Nat → Nat → Int32} (h : IV L xs M) (hA : IA M A) (c : mj_Sp 10 f (mj_r (13, 50, 0) :: args) M (some (mj_i z)) M1) (f1 : fr [0, 7] M M1) (l0 : LD M1 0 A) (hC : SC M1 ln sz I) (m : mj_Sp 10 g (mj_r (30, 60, 0) :: args) M1 (some (mj_i z)) M2) (f2 : fr [14, 33, 35] M1 M2) (l14 : LD M2 14 A) (hF : SF M2 ln sz I) (hI : SI ln sz) : OK L xs f g args M := by
  obtain ⟨hX, hT, -, hI2, -, n, S, F, hW⟩ := h
  have fm : fr [0, 7, 14, 33, 35] M M2 := (f1.mo (by decide)).tr (f2.mo (by decide))
  refine ⟨z, M1, M2, c, f1 41 (by decide), m, hX.fr fm (by decide) (fun j hj => ?_), hT.fr fm (by decide), ⟨ln, sz, I, hC.pe (f2 7 (by decide)), hF, hI⟩, hI2.fr fm (by decide), ⟨A, l0.pe (f2 0 (by decide)), l14, hA.2.2⟩, n, S, F, hW.fr fm (by decide)⟩
  rw [fm 11 (by decide)]
  exact hX.2.2 j hj
