/-! each operation, on both sides -/
theorem i32 (a : Int32) : ∃ z, iR z ∧ a = iI z := ⟨_, iI_rng a, iI_to a⟩
theorem ok_0 {L : Nat} {xs : Nat → Int32} {M : mj_M} (h : IV L xs M) (a b c : Int32) : OK L xs 0 91 [mj_i a, mj_i b, mj_i c] M := by
  obtain ⟨a, ha, rfl⟩ := i32 a
  obtain ⟨b, hb, rfl⟩ := i32 b
  obtain ⟨c, hc, rfl⟩ := i32 c
  obtain ⟨A, hA⟩ := h.2.2.2.2.1
  exact ok_pair h hA (k_cloud hA.2.2) (c_cloud (by decide) ha hb hc hA.2.2.li) (m_cloud (by decide) ha hb hc hA.2.2.li)
theorem ok_1 {L : Nat} {xs : Nat → Int32} {M : mj_M} (h : IV L xs M) (a b c : Int32) : OK L xs 1 92 [mj_i a, mj_i b, mj_i c] M := by
  obtain ⟨a, ha, rfl⟩ := i32 a
  obtain ⟨b, hb, rfl⟩ := i32 b
  obtain ⟨c, hc, rfl⟩ := i32 c
  obtain ⟨A, hA⟩ := h.2.2.2.2.1
  exact ok_pair h hA (k_village hA.2.2) (c_village (by decide) ha hb hc hA.2.2.li) (m_village (by decide) ha hb hc hA.2.2.li)
theorem s_told2 {A : lA} {a b : Int} : (s_told A a b).2 = A := by
  unfold s_told
  repeat' split
  all_goals rfl
theorem s_of2 {A : lA} {a b : Int} : (s_of A a b).2 = A := by
  unfold s_of
  repeat' split
  all_goals rfl
theorem s_holds2 {A : lA} {a b : Int} : (s_holds A a b).2 = A := by
  unfold s_holds
  repeat' split
  all_goals rfl
theorem s_fallen2 {A : lA} {a : Int} : (s_fallen A a).2 = A := by
  unfold s_fallen
  repeat' split
  all_goals rfl
theorem s_count2 {A : lA} {n : Nat} {a : Int} : (s_count A n a).2 = A := by
  unfold s_count
  repeat' split
  all_goals rfl
theorem ok_2 {L : Nat} {xs : Nat → Int32} {M : mj_M} (h : IV L xs M) (a b : Int32) : OK L xs 2 96 [mj_i a, mj_i b] M := by
  obtain ⟨a, ha, rfl⟩ := i32 a
  obtain ⟨b, hb, rfl⟩ := i32 b
  obtain ⟨A, hA⟩ := h.2.2.2.2.1
  exact ok_pair h hA (by rw [s_told2]; exact hA.2.2) (c_told (by decide) ha hb hA.2.2.li) (m_told (by decide) ha hb hA.2.2.li)
theorem ok_3 {L : Nat} {xs : Nat → Int32} {M : mj_M} (h : IV L xs M) (a b : Int32) : OK L xs 3 97 [mj_i a, mj_i b] M := by
  obtain ⟨a, ha, rfl⟩ := i32 a
  obtain ⟨b, hb, rfl⟩ := i32 b
  obtain ⟨A, hA⟩ := h.2.2.2.2.1
  exact ok_pair h hA (by rw [s_of2]; exact hA.2.2) (c_of (by decide) ha hb hA.2.2) (m_of (by decide) ha hb hA.2.2.li)
theorem ok_4 {L : Nat} {xs : Nat → Int32} {M : mj_M} (h : IV L xs M) (a b c : Int32) : OK L xs 4 98 [mj_i a, mj_i b, mj_i c] M := by
  obtain ⟨a, ha, rfl⟩ := i32 a
  obtain ⟨b, hb, rfl⟩ := i32 b
  obtain ⟨c, hc, rfl⟩ := i32 c
  obtain ⟨A, hA⟩ := h.2.2.2.2.1
  exact ok_pair h hA (k_set hA.2.2) (c_set (by decide) ha hb hc hA.2.2) (m_set (by decide) ha hb hc hA.2.2.li)
theorem ok_5 {L : Nat} {xs : Nat → Int32} {M : mj_M} (h : IV L xs M) (a b c : Int32) : OK L xs 5 99 [mj_i a, mj_i b, mj_i c] M := by
  obtain ⟨a, ha, rfl⟩ := i32 a
  obtain ⟨b, hb, rfl⟩ := i32 b
  obtain ⟨c, hc, rfl⟩ := i32 c
  obtain ⟨A, hA⟩ := h.2.2.2.2.1
  exact ok_pair h hA (k_hold hA.2.2) (c_hold (by decide) ha hb hc hA.2.2) (m_hold (by decide) ha hb hc hA.2.2)
theorem ok_6 {L : Nat} {xs : Nat → Int32} {M : mj_M} (h : IV L xs M) (a b : Int32) : OK L xs 6 100 [mj_i a, mj_i b] M := by
  obtain ⟨a, ha, rfl⟩ := i32 a
  obtain ⟨b, hb, rfl⟩ := i32 b
  obtain ⟨A, hA⟩ := h.2.2.2.2.1
  exact ok_pair h hA (by rw [s_holds2]; exact hA.2.2) (c_holds (by decide) ha hb hA.2.2.li) (m_holds (by decide) ha hb hA.2.2.li)
theorem ok_7 {L : Nat} {xs : Nat → Int32} {M : mj_M} (h : IV L xs M) (a b : Int32) : OK L xs 7 102 [mj_i a, mj_i b] M := by
  obtain ⟨a, ha, rfl⟩ := i32 a
  obtain ⟨b, hb, rfl⟩ := i32 b
  obtain ⟨A, hA⟩ := h.2.2.2.2.1
  exact ok_pair h hA (k_join hA.2.2) (c_join (by decide) ha hb hA.2.2.li) (m_join (by decide) ha hb hA.2.2.li)
theorem ok_8 {L : Nat} {xs : Nat → Int32} {M : mj_M} (h : IV L xs M) (a b : Int32) : OK L xs 8 103 [mj_i a, mj_i b] M := by
  obtain ⟨a, ha, rfl⟩ := i32 a
  obtain ⟨b, hb, rfl⟩ := i32 b
  obtain ⟨A, hA⟩ := h.2.2.2.2.1
  exact ok_pair h hA (k_split hA.2.2) (c_split (by decide) ha hb hA.2.2.li) (m_split (by decide) ha hb hA.2.2.li)
theorem ok_9 {L : Nat} {xs : Nat → Int32} {M : mj_M} (h : IV L xs M) (a : Int32) : OK L xs 9 104 [mj_i a] M := by
  obtain ⟨a, ha, rfl⟩ := i32 a
  obtain ⟨A, hA⟩ := h.2.2.2.2.1
  exact ok_pair h hA (k_salt hA.2.2) (c_salt (by decide) ha hA.2.2.li) (m_salt (by decide) ha hA.2.2.li)
theorem ok_12 {L : Nat} {xs : Nat → Int32} {M : mj_M} (h : IV L xs M) (a : Int32) : OK L xs 12 110 [mj_i a] M := by
  obtain ⟨a, ha, rfl⟩ := i32 a
  obtain ⟨A, hA⟩ := h.2.2.2.2.1
  exact ok_pair h hA (by rw [s_fallen2]; exact hA.2.2) (c_fallen (by decide) ha) (m_fallen (by decide) ha)
theorem ok_13 {L : Nat} {xs : Nat → Int32} {M : mj_M} (h : IV L xs M) (a : Int32) : OK L xs 13 112 [mj_i a] M := by
  obtain ⟨a, ha, rfl⟩ := i32 a
  obtain ⟨A, hA⟩ := h.2.2.2.2.1
  obtain ⟨n, S, F, hW⟩ := h.2.2.2.2.2
  exact ok_pair h hA (by rw [s_count2]; exact hA.2.2) (c_count (by decide) ha hA.2.2.li hW.1) (m_count (by decide) ha hA.2.2 hW.2.ld)
theorem ok_14 {L : Nat} {xs : Nat → Int32} {M : mj_M} (h : IV L xs M) (a : Int32) : OK L xs 14 119 [mj_i a] M := by
  obtain ⟨a, ha, rfl⟩ := i32 a
  obtain ⟨A, hA⟩ := h.2.2.2.2.1
  obtain ⟨n, S, F, hW⟩ := h.2.2.2.2.2
  exact ok_pair h hA (k_pass hA.2.2) (c_pass (by decide) ha h.1.1 hA.2.2 hW.1) (m_pass (by decide) ha hA.2.2 hW.2.ld)
theorem ok_15 {L : Nat} {xs : Nat → Int32} {M : mj_M} (h : IV L xs M) (a : Int32) : OK L xs 15 120 [mj_i a] M := by
  obtain ⟨a, ha, rfl⟩ := i32 a
  obtain ⟨A, hA⟩ := h.2.2.2.2.1
  exact ok_pair h hA (k_drawn hA.2.2) (c_drawn (by decide) ha h.1.1 hA.2.2) (m_drawn (by decide) ha hA.2.2)
theorem ok_16 {L : Nat} {xs : Nat → Int32} {M : mj_M} (h : IV L xs M) (a : Int32) : OK L xs 16 121 [mj_i a] M := by
  obtain ⟨a, ha, rfl⟩ := i32 a
  obtain ⟨A, hA⟩ := h.2.2.2.2.1
  exact ok_pair h hA (k_seed hA.2.2 ha) (c_seed (by decide) ha) (m_seed (by decide) ha)
theorem ok_17 {L : Nat} {xs : Nat → Int32} {M : mj_M} (h : IV L xs M) (a b : Int32) : OK L xs 17 124 [mj_i a, mj_i b] M := by
  obtain ⟨a, ha, rfl⟩ := i32 a
  obtain ⟨b, hb, rfl⟩ := i32 b
  obtain ⟨A, hA⟩ := h.2.2.2.2.1
  obtain ⟨n, S, F, hW⟩ := h.2.2.2.2.2
  obtain ⟨M1, c1, f1⟩ := c_wet (d := 10) (M := M) (by decide) ha hb h.1.1 hA.2.2 hW.1
  have w1 : WD M1 34 n S F := hW.2.ld.pe (f1 34 (by decide))
  obtain ⟨M2, c2, f2, l2⟩ := m_wet (d := 10) (M := M1) (by decide) ha hb hA.2.2 w1
  refine ok_ask h hA c1 f1 (by decide) (fun j hj => ?_) c2 f2 (by decide) l2
  rw [f1 11 (by decide), ld_p (by decide)]
  exact h.1.2.2 j hj
theorem ok_18 {L : Nat} {xs : Nat → Int32} {M : mj_M} (h : IV L xs M) (a b c : Int32) : OK L xs 18 125 [mj_i a, mj_i b, mj_i c] M := by
  obtain ⟨a, ha, rfl⟩ := i32 a
  obtain ⟨b, hb, rfl⟩ := i32 b
  obtain ⟨c, hc, rfl⟩ := i32 c
  obtain ⟨A, hA⟩ := h.2.2.2.2.1
  obtain ⟨n, S, F, hW⟩ := h.2.2.2.2.2
  obtain ⟨M1, c1, f1⟩ := c_where (d := 10) (M := M) (by decide) ha hb hc h.1.1 hA.2.2 hW.1
  have w1 : WD M1 34 n S F := hW.2.ld.pe (f1 34 (by decide))
  obtain ⟨M2, c2, f2, l2⟩ := m_where (d := 10) (M := M1) (by decide) ha hb hc hA.2.2 w1
  refine ok_ask h hA c1 f1 (by decide) (fun j hj => ?_) c2 f2 (by decide) l2
  rw [f1 11 (by decide), ld_p (by decide)]
  exact h.1.2.2 j hj
theorem fr_14 {ps qs : List Nat} {M M' : mj_M} {A : lA} (f : fr ps M M') (h : ∀ i ∈ ps, i ∈ qs) (h14 : 14 ∈ qs) : fr qs M (mj_ld M' 14 A) := fun i hi => by
  rw [ld_p (fun e => hi (by rw [e]; exact h14))]
  exact f i (fun z => hi (h i z))
theorem ok_19 {L : Nat} {xs : Nat → Int32} {M : mj_M} (h : IV L xs M) (a b c : Int32) : OK L xs 19 130 [mj_i a, mj_i b, mj_i c] M := by
  obtain ⟨a, ha, rfl⟩ := i32 a
  obtain ⟨b, hb, rfl⟩ := i32 b
  obtain ⟨c, hc, rfl⟩ := i32 c
  obtain ⟨A, hA⟩ := h.2.2.2.2.1
  obtain ⟨n, S, F, hW⟩ := h.2.2.2.2.2
  obtain ⟨M1, r, c1, w, f1, z1⟩ := c_fewest (d := 10) (M := M) (by decide) ha hb hc h.1.1 hA.2.2 hW.1 h.1.2.2
  have w1 : WD M1 34 n S F := hW.2.ld.pe (f1 34 (by decide))
  obtain ⟨M2, r2, c2, w2, f2⟩ := m_fewest (M := M1) ha hb hc hA.2.2 w1
  have e : r2 = r := FW_un w2 w
  rw [e] at c2
  refine ok_ask h hA c1 f1 (by decide) (fun j hj => ?_) (c2 10 (by decide)) (fr_14 (qs := [14, 15, 33]) f2 (by decide) (by decide)) (by decide) LD.ld
  rw [z1]
  exact h.1.2.2 j hj
theorem ok_20 {L : Nat} {xs : Nat → Int32} {M : mj_M} (h : IV L xs M) (a b c d : Int32) : OK L xs 20 133 [mj_i a, mj_i b, mj_i c, mj_i d] M := by
  obtain ⟨a, ha, rfl⟩ := i32 a
  obtain ⟨b, hb, rfl⟩ := i32 b
  obtain ⟨c, hc, rfl⟩ := i32 c
  obtain ⟨d, hd, rfl⟩ := i32 d
  obtain ⟨A, hA⟩ := h.2.2.2.2.1
  obtain ⟨n, S, F, hW⟩ := h.2.2.2.2.2
  obtain ⟨M1, c1, f1⟩ := c_tug (d := 10) (M := M) (by decide) ha hb hc hd h.1.1 hA.2.2 hW.1
  have w1 : WD M1 34 n S F := hW.2.ld.pe (f1 34 (by decide))
  obtain ⟨M2, c2, f2⟩ := m_tug (M := M1) ha hb hc hd hA.2.2 w1
  refine ok_ask h hA c1 f1 (by decide) (fun j hj => ?_) (c2 10 (by decide)) (fr_14 (qs := [14, 15, 33]) f2 (by decide) (by decide)) (by decide) LD.ld
  rw [f1 11 (by decide), ld_p (by decide)]
  exact h.1.2.2 j hj
theorem ok_23 {L : Nat} {xs : Nat → Int32} {M : mj_M} (h : IV L xs M) (a b c d e : Int32) : OK L xs 23 142 [mj_i a, mj_i b, mj_i c, mj_i d, mj_i e] M := by
  obtain ⟨a, ha, rfl⟩ := i32 a
  obtain ⟨b, hb, rfl⟩ := i32 b
  obtain ⟨c, hc, rfl⟩ := i32 c
  obtain ⟨d, hd, rfl⟩ := i32 d
  obtain ⟨e, he, rfl⟩ := i32 e
  obtain ⟨A, hA⟩ := h.2.2.2.2.1
  obtain ⟨n, S, F, hW⟩ := h.2.2.2.2.2
  obtain ⟨ln, sz, I, hC, hF, hI⟩ := h.2.2.1
  obtain ⟨M1, c1, f1⟩ := c_held (d := 10) (M := M) (by decide) ha hb hc hd he h.1.1 hA.2.2 hW.1 hC hI
  have w1 : WD M1 34 n S F := hW.2.ld.pe (f1 34 (by decide))
  have s1 : SF M1 ln sz I := hF.pe ((f1 35 (by decide)).trans (ld_p (by decide)))
  obtain ⟨M2, c2, f2⟩ := m_held (M := M1) ha hb hc hd he hA.2.2 w1 s1 hI
  refine ok_ask h hA c1 f1 (by decide) (fun j hj => ?_) (c2 10 (by decide)) (fr_14 (qs := [14, 15]) f2 (by decide) (by decide)) (by decide) LD.ld
  rw [f1 11 (by decide), ld_p (by decide)]
  exact h.1.2.2 j hj
