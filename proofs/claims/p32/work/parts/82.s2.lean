/-! the second object: its calls -/
def S2 (L : Nat) (xs : Nat → Int32) (M : mj_M) (A B : lA) (W : mj_S) : Prop := ST L xs M A (gW L xs).toNat (tS L xs) (tF L xs) ∧ (M 13 50 0 0 = iI 1 ∧ LD M 1 B ∧ LJ B ∧ WD M 21 (gW L xs).toNat (tS L xs) (tF L xs)) ∧ M 17 = W
theorem S2.m0 {L : Nat} {xs : Nat → Int32} {M M' : mj_M} {A A' B : lA} {W : mj_S} {n : Nat} {S F : Nat → Int} (h : S2 L xs M A B W) (f : fr [0] M M') (h' : ST L xs M' A' (gW L xs).toNat (tS L xs) (tF L xs)) : S2 L xs M' A' B W :=
  ⟨h', ⟨by rw [f 13 (by decide)]; exact h.2.1.1, h.2.1.2.1.pe (f 1 (by decide)), h.2.1.2.2.1, h.2.1.2.2.2.pe (f 21 (by decide))⟩, (f 17 (by decide)).trans h.2.2⟩
theorem p_told {d : Nat} (hd : 3 ≤ d) {L : Nat} {xs : Nat → Int32} {M : mj_M} {A B : lA} {W : mj_S} (h : S2 L xs M A B W) {c w : Int} (hc : iR c) (hw : iR w) : ∃ M', mj_Sp d 2 [mj_r (13, 50, 0), mj_i (iI c), mj_i (iI w)] M (some (mj_i (iI (s_told A c w).1))) M' ∧ S2 L xs M' A B W := by
  obtain ⟨M', s, f, h'⟩ := q_told hd h.1 hc hw
  exact ⟨M', s, h.m0 (n := 0) (S := fun _ => 0) (F := fun _ => 0) f h'⟩
theorem p_of {d : Nat} (hd : 3 ≤ d) {L : Nat} {xs : Nat → Int32} {M : mj_M} {A B : lA} {W : mj_S} (h : S2 L xs M A B W) {v w : Int} (hv : iR v) (hw : iR w) : ∃ M', mj_Sp d 3 [mj_r (13, 50, 0), mj_i (iI v), mj_i (iI w)] M (some (mj_i (iI (s_of A v w).1))) M' ∧ S2 L xs M' A B W := by
  obtain ⟨M', s, f, h'⟩ := q_of hd h.1 hv hw
  exact ⟨M', s, h.m0 (n := 0) (S := fun _ => 0) (F := fun _ => 0) f h'⟩
theorem p_count {d : Nat} (hd : 4 ≤ d) {L : Nat} {xs : Nat → Int32} {M : mj_M} {A B : lA} {W : mj_S} (h : S2 L xs M A B W) {w : Int} (hw : iR w) : ∃ M', mj_Sp d 13 [mj_r (13, 50, 0), mj_i (iI w)] M (some (mj_i (iI (s_count A (gW L xs).toNat w).1))) M' ∧ S2 L xs M' A B W := by
  obtain ⟨M', s, f, h'⟩ := q_count hd h.1 hw
  exact ⟨M', s, h.m0 (n := 0) (S := fun _ => 0) (F := fun _ => 0) f h'⟩
theorem p_call {d : Nat} {L : Nat} {xs : Nat → Int32} {M : mj_M} {A A' B : lA} {W : mj_S} {f : Nat} {args : List mj_V} {r : Int} (h : S2 L xs M A B W) (hA : LJ A') (c : mj_Sp d f args (mj_ld M 0 A) (some (mj_i (iI r))) (mj_ld M 0 A')) : ∃ M', mj_Sp d f args M (some (mj_i (iI r))) M' ∧ S2 L xs M' A' B W := by
  obtain ⟨M', s, f, h'⟩ := st_call h.1 hA c
  exact ⟨M', s, h.m0 (n := 0) (S := fun _ => 0) (F := fun _ => 0) f h'⟩
theorem p_hold {d : Nat} (hd : 3 ≤ d) {L : Nat} {xs : Nat → Int32} {M : mj_M} {A B : lA} {W : mj_S} (h : S2 L xs M A B W) {v c x : Int} (hv : iR v) (hc : iR c) (hx : iR x) : ∃ M', mj_Sp d 5 [mj_r (13, 50, 0), mj_i (iI v), mj_i (iI c), mj_i (iI x)] M (some (mj_i (iI (s_hold A v c x).1))) M' ∧ S2 L xs M' (s_hold A v c x).2 B W :=
  p_call h (k_hold h.1.2.2.1) (c_hold hd hv hc hx h.1.2.2.1)
theorem p_set {d : Nat} (hd : 3 ≤ d) {L : Nat} {xs : Nat → Int32} {M : mj_M} {A B : lA} {W : mj_S} (h : S2 L xs M A B W) {v w x : Int} (hv : iR v) (hw : iR w) (hx : iR x) : ∃ M', mj_Sp d 4 [mj_r (13, 50, 0), mj_i (iI v), mj_i (iI w), mj_i (iI x)] M (some (mj_i (iI (s_set A v w x).1))) M' ∧ S2 L xs M' (s_set A v w x).2 B W :=
  p_call h (k_set h.1.2.2.1) (c_set hd hv hw hx h.1.2.2.1)
theorem p_drawn {d : Nat} (hd : 6 ≤ d) {L : Nat} {xs : Nat → Int32} {M : mj_M} {A B : lA} {W : mj_S} (h : S2 L xs M A B W) {m : Int} (hm : iR m) : ∃ M', mj_Sp d 15 [mj_r (13, 50, 0), mj_i (iI m)] M (some (mj_i (iI (s_drawn A m).1))) M' ∧ S2 L xs M' (s_drawn A m).2 B W :=
  p_call h (k_drawn h.1.2.2.1) (c_drawn hd hm h.1.1.1 h.1.2.2.1)
/-- a call that leaves the land, over a scratch of its own -/
theorem S2.ask {L : Nat} {xs : Nat → Int32} {M M' : mj_M} {A B : lA} {W : mj_S} {ps : List Nat} (h : S2 L xs M A B W) (f : fr ps (mj_ld M 0 A) M') (k : ∀ i ∈ [0, 1, 13, 17, 20, 21, 40, 41], i ∉ ps) (hz : ∀ j, j < 10 → M' 11 26 6 j = 0) : S2 L xs M' A B W := by
  have g : ∀ i, i ∉ ps → i ≠ 0 → M' i = M i := fun i hi h0 => (f i hi).trans (ld_p h0)
  have k1 : ∀ i, i ∈ [1, 13, 17, 20, 21, 40, 41] → M' i = M i := fun i hi => g i (k i (List.mem_cons_of_mem _ hi)) (fun e => by subst e; revert hi; decide)
  refine ⟨⟨⟨⟨fun j hj => ?_, fun j hj => ?_⟩, (k1 41 (by decide)).trans h.1.1.2.1, h.1.1.2.2⟩, LD.pe LD.ld (f 0 (k 0 (by decide))), h.1.2.2.1, h.1.2.2.2.1.pe (k1 20 (by decide)), hz⟩, ⟨?_, h.2.1.2.1.pe (k1 1 (by decide)), h.2.1.2.2.1, h.2.1.2.2.2.pe (k1 21 (by decide))⟩, (k1 17 (by decide)).trans h.2.2⟩
  · rw [k1 40 (by decide)]; exact h.1.1.1.1 j hj
  · rw [k1 40 (by decide)]; exact h.1.1.1.2 j hj
  · rw [k1 13 (by decide)]; exact h.2.1.1
theorem p_where {d : Nat} (hd : 6 ≤ d) {L : Nat} {xs : Nat → Int32} {M : mj_M} {A B : lA} {W : mj_S} (h : S2 L xs M A B W) {c m l : Int} (hc : iR c) (hm : iR m) (hl : iR l) : ∃ M', mj_Sp d 17 [mj_r (13, 50, 0), mj_i (iI c), mj_i (iI m), mj_i (iI l)] M (some (mj_i (iI (s_where A (gW L xs).toNat (tS L xs) (tF L xs) c m l)))) M' ∧ S2 L xs M' A B W := by
  obtain ⟨M', s, f⟩ := c_where (M := M) hd hc hm hl h.1.1.1 h.1.2.2.1 h.1.2.2.2.1
  exact ⟨M', sp_in h.1.2.1.eq s, h.ask f (by decide) (fun j hj => by rw [f 11 (by decide), ld_p (by decide)]; exact h.1.2.2.2.2 j hj)⟩
theorem p_few {d : Nat} (hd : 9 ≤ d) {L : Nat} {xs : Nat → Int32} {M : mj_M} {A B : lA} {W : mj_S} (h : S2 L xs M A B W) {v m : Int} (hv : iR v) (hm : iR m) : ∃ M' r, mj_Sp d 18 [mj_r (13, 50, 0), mj_i (iI v), mj_i (iI m), mj_i (iI (-1))] M (some (mj_i (iI r))) M' ∧ FW A (gW L xs).toNat (tS L xs) (tF L xs) v m (-1) r ∧ S2 L xs M' A B W := by
  obtain ⟨M', r, s, hf, f, hz⟩ := c_fewest (M := M) hd hv hm (i := -1) (by unfold iR; omega) h.1.1.1 h.1.2.2.1 h.1.2.2.2.1 h.1.2.2.2.2
  exact ⟨M', r, sp_in h.1.2.1.eq s, hf, h.ask f (by decide) (fun j hj => by rw [hz j]; exact h.1.2.2.2.2 j hj)⟩
theorem p_rest {d : Nat} (hd : 4 ≤ d) {L : Nat} {xs : Nat → Int32} {M : mj_M} {A B : lA} {W : mj_S} (h : S2 L xs M A B W) : ∃ M', mj_Sp d 20 [mj_r (13, 50, 0)] M (some (mj_i (iI 1))) M' ∧ S2 L xs M' B B W := by
  obtain ⟨M', s, f, l0, w⟩ := c_restore (A := A) (B := B) (M := M) h.2.1.1
  have e : mj_eq M (mj_ld (mj_ld M 1 B) 0 A) := fun i t c j ho => by
    by_cases g : i = 0 ∧ t < 10
    · rw [g.1, ld_rd g.2]
      exact h.1.2.1 t c j g.2 ho
    · by_cases g1 : i = 1 ∧ t < 10
      · rw [g1.1, ld_ne (by decide), ld_rd g1.2]
        exact h.2.1.2.1 t c j g1.2 ho
      · unfold mj_ld
        rw [if_neg g, if_neg g1]
  have k : ∀ i, i ∉ [0, 20] → i ≠ 1 → M' i = M i := fun i hi h1 => by
    rw [f i hi, ld_p (fun e => hi (by rw [e]; decide)), ld_p h1]
  have l1 : LD M' 1 B := LD.pe (LD.ne LD.ld (by decide)) (f 1 (by decide))
  refine ⟨M', sp_in e (s d hd), ⟨⟨⟨fun j hj => ?_, fun j hj => ?_⟩, (k 41 (by decide) (by decide)).trans h.1.1.2.1, h.1.1.2.2⟩, l0, h.2.1.2.2.1, w _ _ _ h.2.1.2.2.2, fun j hj => ?_⟩, ⟨?_, l1, h.2.1.2.2.1, h.2.1.2.2.2.pe (k 21 (by decide) (by decide))⟩, (k 17 (by decide) (by decide)).trans h.2.2⟩
  · rw [k 40 (by decide) (by decide)]; exact h.1.1.1.1 j hj
  · rw [k 40 (by decide) (by decide)]; exact h.1.1.1.2 j hj
  · rw [k 11 (by decide) (by decide)]; exact h.1.2.2.2.2 j hj
  · rw [k 13 (by decide) (by decide)]; exact h.2.1.1
/-- the image is laid -/
theorem p_image {d : Nat} (hd : 4 ≤ d) {L : Nat} {xs : Nat → Int32} {M : mj_M} {A : lA} (h : ST L xs M A (gW L xs).toNat (tS L xs) (tF L xs)) : ∃ M', mj_Sp d 19 [mj_r (13, 50, 0)] M (some (mj_i (iI 1))) M' ∧ S2 L xs M' A A (M 17) := by
  obtain ⟨M', s, f, l1, e1, w⟩ := c_image (A := A) (M := M)
  have k : ∀ i, i ∉ [1, 13, 21] → i ≠ 0 → M' i = M i := fun i hi h0 => (f i hi).trans (ld_p h0)
  refine ⟨M', sp_in h.2.1.eq (s d hd), ⟨⟨⟨fun j hj => ?_, fun j hj => ?_⟩, (k 41 (by decide) (by decide)).trans h.1.2.1, h.1.2.2⟩, LD.pe LD.ld (f 0 (by decide)), h.2.2.1, h.2.2.2.1.pe (k 20 (by decide) (by decide)), fun j hj => ?_⟩, ⟨e1, l1, h.2.2.1, w _ _ _ h.2.2.2.1⟩, k 17 (by decide) (by decide)⟩
  · rw [k 40 (by decide) (by decide)]; exact h.1.1.1 j hj
  · rw [k 40 (by decide) (by decide)]; exact h.1.1.2 j hj
  · rw [k 11 (by decide) (by decide)]; exact h.2.2.2.2 j hj
