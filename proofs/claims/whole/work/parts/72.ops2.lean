/-! operations on tape, winds, image, sheets -/
theorem ok_10 {L : Nat} {xs : Nat → Int32} {M : mj_M} (h : IV L xs M) (w : Int64) (a : Int32) : OK L xs 10 105 [mj_l w, mj_i a] M := by
  obtain ⟨a, ha, rfl⟩ := i32 a
  obtain ⟨hX, ⟨n, T, hC, hF, hI⟩, hS, hM, ⟨A, hA⟩, nw, S, F, hW⟩ := h
  obtain ⟨r, n', T', hY, hr⟩ := TY.ex (n := n) (T := T) (w := w) (k := a)
  obtain ⟨M1, c1, f1, t1⟩ := c_type (d := 10) (by decide) ha hC hI hY
  obtain ⟨M2, c2, f2, t2⟩ := m_type (d := 10) (by decide) ha (hF.pe (f1 32 (by decide))) hI hY
  have fm : fr [6, 32] M M2 := (f1.mo (by decide)).tr (f2.mo (by decide))
  refine ⟨_, M1, M2, c1, f1 41 (by decide), c2, hX.fr fm (by decide) (fun j hj => ?_), ⟨n', T', t1.pe (f2 6 (by decide)), t2, hY.ti hI⟩, hS.fr fm (by decide), hM.fr fm (by decide), ⟨A, hA.fr fm (by decide)⟩, nw, S, F, hW.fr fm (by decide)⟩
  rw [fm 11 (by decide)]
  exact hX.2.2 j hj
theorem ok_11 {L : Nat} {xs : Nat → Int32} {M : mj_M} (h : IV L xs M) : OK L xs 11 109 [] M := by
  obtain ⟨hX, ⟨n, T, hC, hF, hI⟩, hS, hM, ⟨A, hA⟩, nw, S, F, hW⟩ := h
  obtain ⟨R, m', S', F', hR, g1, g2⟩ := k_winds hI
  obtain ⟨M1, c1, f1, t1, w1, v1⟩ := g1 M hC
  obtain ⟨M2, c2, f2, t2, w2, v2⟩ := g2 M1 (hF.pe (f1 32 (by decide)))
  have fm : fr [6, 20, 25, 32, 33, 34] M M2 := (f1.mo (by decide)).tr (f2.mo (by decide))
  refine ⟨_, M1, M2, c1 10 (by decide), f1 41 (by decide), c2 10 (by decide), hX.fr fm (by decide) (fun j hj => ?_), ⟨0, T, ⟨?_, fun j hj => absurd hj (by omega)⟩, ⟨t2, fun j hj => absurd hj (by omega)⟩, by omega, fun j hj => absurd hj (by omega)⟩, hS.fr fm (by decide), hM.fr fm (by decide), ⟨A, hA.fr fm (by decide)⟩, ?_⟩
  · rw [fm 11 (by decide)]
    exact hX.2.2 j hj
  · rw [f2 6 (by decide)]
    exact t1
  · by_cases g : 0 < R
    · exact ⟨m', S', F', (w1 g).pe (f2 20 (by decide)), w2 g⟩
    · exact ⟨nw, S, F, hW.1.pe ((f2 20 (by decide)).trans (v1 g)), hW.2.pe ((v2 g).trans (f1 34 (by decide)))⟩
theorem ok_21 {L : Nat} {xs : Nat → Int32} {M : mj_M} (h : IV L xs M) : OK L xs 21 136 [] M := by
  obtain ⟨hX, hT, hS, hM, ⟨A, hA⟩, nw, S, F, hW⟩ := h
  obtain ⟨M1, c1, f1, l1, b1, w1⟩ := c_image (A := A) (M := M)
  have f1' : ∀ i, i ∉ [1, 13, 21] → i ≠ 0 → M1 i = M i := fun i hi h0 => (f1 i hi).trans (ld_p h0)
  obtain ⟨M2, c2, f2, l2, b2, w2⟩ := m_image (A := A) (M := M1) (hA.2.1.pe (f1' 14 (by decide) (by decide)))
  have fm : fr [0, 1, 13, 21, 16, 31, 36] M M2 := fun i hi => (f2.mo (qs := [0, 1, 13, 21, 16, 31, 36]) (by decide) i hi).trans (f1' i (fun z => hi (by
    have : ∀ i ∈ [1, 13, 21], i ∈ [0, 1, 13, 21, 16, 31, 36] := by decide
    exact this i z)) (fun e => hi (by rw [e]; decide)))
  refine ⟨_, M1, M2, sp_in hA.1.eq (c1 10 (by decide)), f1' 41 (by decide) (by decide), c2 10 (by decide), hX.fr fm (by decide) (fun j hj => ?_), hT.fr fm (by decide), hS.fr fm (by decide), Or.inr ⟨?_, b2, A, nw, S, F, l1.pe (f2 1 (by decide)), l2, hA.2.2, (w1 _ _ _ hW.1).pe (f2 21 (by decide)), w2 _ _ _ (hW.2.pe (f1' 34 (by decide) (by decide)))⟩, ⟨A, LD.pe (LD.pe LD.ld (f1 0 (by decide))) (f2 0 (by decide)), hA.2.1.pe (fm 14 (by decide)), hA.2.2⟩, nw, S, F, hW.fr fm (by decide)⟩
  · rw [fm 11 (by decide)]
    exact hX.2.2 j hj
  · rw [f2 13 (by decide)]
    exact b1
theorem ok_22 {L : Nat} {xs : Nat → Int32} {M : mj_M} (h : IV L xs M) : OK L xs 22 137 [] M := by
  obtain ⟨hX, hT, hS, hM, ⟨A, hA⟩, nw, S, F, hW⟩ := h
  rcases id hM with ⟨h1, h2⟩ | ⟨h1, h2, B, n', S', F', h3, h4, h5, h6, h7⟩
  · exact ⟨_, M, M, c_norest h1 10 (by decide), rfl, m_norest h2 10 (by decide), hX, hT, hS, hM, ⟨A, hA⟩, nw, S, F, hW⟩
  · obtain ⟨M1, c1, f1, l1, w1⟩ := c_restore (A := A) (B := B) (M := M) h1
    have e0 : mj_eq M (mj_ld (mj_ld M 1 B) 0 A) := (LD.eq h3).tr (LD.eq (hA.1.ne (by decide)))
    have f1' : ∀ i, i ∉ [0, 20] → i ≠ 1 → M1 i = M i := fun i hi h0 => (f1 i hi).trans ((ld_p (fun e => hi (by rw [e]; decide))).trans (ld_p h0))
    have l1' : LD M1 1 B := by
      refine LD.pe (M := mj_ld M 1 B) LD.ld ?_
      exact (f1 1 (by decide)).trans (ld_p (by decide))
    obtain ⟨M2, c2, f2, l2, w2⟩ := m_restore (B := B) (M := M1) (h4.pe (f1' 16 (by decide) (by decide))) (by rw [f1' 31 (by decide) (by decide)]; exact h2)
    have fm : fr [0, 1, 20, 14, 34] M M2 := fun i hi => (f2.mo (qs := [0, 1, 20, 14, 34]) (by decide) i hi).trans (f1' i (fun z => hi (by
      have : ∀ i ∈ [0, 20], i ∈ [0, 1, 20, 14, 34] := by decide
      exact this i z)) (fun e => hi (by rw [e]; decide)))
    refine ⟨_, M1, M2, sp_in e0 (c1 10 (by decide)), f1' 41 (by decide) (by decide), c2 10 (by decide), hX.fr fm (by decide) (fun j hj => ?_), hT.fr fm (by decide), hS.fr fm (by decide), Or.inr ⟨?_, ?_, B, n', S', F', l1'.pe (f2 1 (by decide)), h4.pe (fm 16 (by decide)), h5, h6.pe (fm 21 (by decide)), h7.pe (fm 36 (by decide))⟩, ⟨B, l1.pe (f2 0 (by decide)), l2, h5⟩, n', S', F', (w1 _ _ _ h6).pe (f2 20 (by decide)), w2 _ _ _ (h7.pe (f1' 36 (by decide) (by decide)))⟩
    · rw [fm 11 (by decide)]
      exact hX.2.2 j hj
    · rw [fm 13 (by decide)]
      exact h1
    · rw [fm 31 (by decide)]
      exact h2
theorem ok_24 {L : Nat} {xs : Nat → Int32} {M : mj_M} (h : IV L xs M) (a b c d : Int32) : OK L xs 24 144 [mj_i a, mj_i b, mj_i c, mj_i d] M := by
  obtain ⟨a, ha, rfl⟩ := i32 a
  obtain ⟨b, hb, rfl⟩ := i32 b
  obtain ⟨c, hc, rfl⟩ := i32 c
  obtain ⟨d, hd, rfl⟩ := i32 d
  obtain ⟨A, hA⟩ := h.2.2.2.2.1
  obtain ⟨ln, sz, I, hC, hF, hI⟩ := h.2.2.1
  obtain ⟨M1, c1, f1, s1⟩ := c_film (d := 10) (A := A) (by decide) ha hb hc hd hC hI
  have f1' : fr [0, 7] M (mj_ld M1 0 A) := fun i hi => (ld_p (fun e => hi (by rw [e]; decide))).trans (f1.mo (qs := [0, 7]) (by decide) i hi)
  obtain ⟨M2, c2, f2, s2⟩ := m_film (d := 10) (A := A) (M := mj_ld M1 0 A) (by decide) ha hb hc hd (hF.pe (f1' 35 (by decide))) hI
  have l14 : LD (mj_ld M1 0 A) 14 A := hA.2.1.pe (f1' 14 (by decide))
  exact ok_sheets h hA (sp_in hA.1.eq c1) f1' LD.ld (s1.pe (ld_p (by decide))) (sp_in l14.eq c2) (fr_14 f2 (by decide) (by decide)) LD.ld (s2.pe (ld_p (by decide))) hI
theorem ok_25 {L : Nat} {xs : Nat → Int32} {M : mj_M} (h : IV L xs M) (a b c : Int32) : OK L xs 25 145 [mj_i a, mj_i b, mj_i c] M := by
  obtain ⟨a, ha, rfl⟩ := i32 a
  obtain ⟨b, hb, rfl⟩ := i32 b
  obtain ⟨c, hc, rfl⟩ := i32 c
  obtain ⟨A, hA⟩ := h.2.2.2.2.1
  obtain ⟨ln, sz, I, hC, hF, hI⟩ := h.2.2.1
  obtain ⟨M1, c1, f1, s1⟩ := c_sheet (d := 10) (by decide) ha hb hc hC
  obtain ⟨M2, c2, f2, s2⟩ := m_sheet (d := 10) (by decide) ha hb hc (hF.pe (f1 35 (by decide)))
  refine ok_sheets h hA c1 (f1.mo (by decide)) (hA.1.pe (f1 0 (by decide))) s1 c2 (f2.mo (by decide)) (hA.2.1.pe ((f2 14 (by decide)).trans (f1 14 (by decide)))) s2 ?_
  by_cases g : 0 ≤ r_sheet a b c
  · rw [if_pos g, if_pos g]
    unfold r_sheet at g
    split at g
    · omega
    · split at g
      · omega
      · intro s hs
        have := hI s hs
        unfold fu
        by_cases e : s = a.toNat
        · rw [if_pos e, if_pos e]
          exact ⟨by omega, fun _ => by omega⟩
        · rw [if_neg e, if_neg e]
          exact this
  · rw [if_neg g, if_neg g]
    exact hI
theorem ok_26 {L : Nat} {xs : Nat → Int32} {M : mj_M} (h : IV L xs M) (a : Int32) : OK L xs 26 146 [mj_i a] M := by
  obtain ⟨a, ha, rfl⟩ := i32 a
  obtain ⟨A, hA⟩ := h.2.2.2.2.1
  obtain ⟨ln, sz, I, hC, hF, hI⟩ := h.2.2.1
  obtain ⟨M1, c1, f1, s1⟩ := c_drop (d := 10) (by decide) ha hC hI
  obtain ⟨M2, c2, f2, s2⟩ := m_drop (d := 10) (by decide) ha (hF.pe (f1 35 (by decide))) hI
  refine ok_sheets h hA c1 (f1.mo (by decide)) (hA.1.pe (f1 0 (by decide))) s1 c2 (f2.mo (by decide)) (hA.2.1.pe ((f2 14 (by decide)).trans (f1 14 (by decide)))) s2 ?_
  by_cases g : 0 ≤ r_drop ln sz a
  · rw [if_pos g]
    intro s hs
    have := hI s hs
    unfold fu
    by_cases e : s = a.toNat
    · rw [if_pos e]
      exact ⟨by omega, fun z => by omega⟩
    · rw [if_neg e]
      exact this
  · rw [if_neg g]
    exact hI
theorem ok_27 {L : Nat} {xs : Nat → Int32} {M : mj_M} (h : IV L xs M) (a b c : Int32) (w : Int64) : OK L xs 27 147 [mj_i a, mj_i b, mj_i c, mj_l w] M := by
  obtain ⟨a, ha, rfl⟩ := i32 a
  obtain ⟨b, hb, rfl⟩ := i32 b
  obtain ⟨c, hc, rfl⟩ := i32 c
  obtain ⟨A, hA⟩ := h.2.2.2.2.1
  obtain ⟨ln, sz, I, hC, hF, hI⟩ := h.2.2.1
  obtain ⟨M1, c1, f1, s1⟩ := c_item (d := 10) (w := w) (by decide) ha hb hc hC hI
  obtain ⟨M2, c2, f2, s2⟩ := m_item (d := 10) (w := w) (by decide) ha hb hc (hF.pe (f1 35 (by decide))) hI
  exact ok_sheets h hA c1 (f1.mo (by decide)) (hA.1.pe (f1 0 (by decide))) s1 c2 (f2.mo (by decide)) (hA.2.1.pe ((f2 14 (by decide)).trans (f1 14 (by decide)))) s2 hI
theorem ok_28 {L : Nat} {xs : Nat → Int32} {M : mj_M} (h : IV L xs M) (a b c d e : Int32) : OK L xs 28 148 [mj_i a, mj_i b, mj_i c, mj_i d, mj_i e] M := by
  obtain ⟨a, ha, rfl⟩ := i32 a
  obtain ⟨b, hb, rfl⟩ := i32 b
  obtain ⟨c, hc, rfl⟩ := i32 c
  obtain ⟨d, hd, rfl⟩ := i32 d
  obtain ⟨e, he, rfl⟩ := i32 e
  obtain ⟨A, hA⟩ := h.2.2.2.2.1
  obtain ⟨ln, sz, I, hC, hF, hI⟩ := h.2.2.1
  obtain ⟨M1, c1, f1, s1⟩ := c_copy (d := 10) (by decide) ha hb hc hd he hC hI
  obtain ⟨M2, c2, f2, s2⟩ := m_copy (d := 10) (by decide) ha hb hc hd he (hF.pe (f1 35 (by decide))) hI
  exact ok_sheets h hA c1 (f1.mo (by decide)) (hA.1.pe (f1 0 (by decide))) s1 c2 (f2.mo (by decide)) (hA.2.1.pe ((f2 14 (by decide)).trans (f1 14 (by decide)))) s2 hI
