
/-! the law over the small machine -/
abbrev lw_PP : Type := Nat → mj_L → List mj_V → mj_M → Prop
def lw_Ps (P : lw_PP) : Prop := mj_Cl mj_c70 (mj_Sp 10) (0 < 10) P (fun v _ => v = some (.inl 1)) ∧ ∀ (pc : Nat) (ls : mj_L) (st : List mj_V) (M M1 : mj_M), mj_eq M M1 → P pc ls st M1 → P pc ls st M
/-- the first object's part, up to where the second is made -/
def lw_Pure1 : Prop := ∀ (L : Nat) (xs : Nat → Int32), L ≤ 260 → ∀ P : lw_PP, lw_Ps P → (∀ (ts : mj_L) (x6 : Int32) (M : mj_M), ts.length = 9 → P 668 (some (mj_r (41, 82, 0)) :: some (mj_r (13, 50, 0)) :: some (mj_r (17, 73, 0)) :: some (mj_i 1) :: some (mj_i (sqN L xs)) :: some (mj_i (sqM L xs)) :: some (mj_i x6) :: some (mj_i (sqS L xs)) :: ts) [] M) →
  P 13 [some (mj_r (41, 82, 0)), some (mj_r (13, 50, 0)), some (mj_r (17, 73, 0)), none, none, none, none, none, none, none, none, none, none, none, none, none, none] [] (lw_M L xs)
/-- the second object's part -/
def lw_Pure2 : Prop := ∀ (L : Nat) (xs : Nat → Int32), L ≤ 260 → ∀ P : lw_PP, lw_Ps P →
  P 683 [some (mj_r (41, 82, 0)), none, none, some (mj_i 1), some (mj_i (sqN L xs)), some (mj_i (sqM L xs)), none, some (mj_i (sqS L xs)), some (mj_r (13, 50, 0)), some (mj_r (17, 73, 0)), none, none, none, none, none, none, none] [] (lw_M L xs)
theorem lw_len2 : (mk_h1.length + 1) + (mk_h1.length + 1) ≤ 600000 := by decide +kernel
theorem lw_sz2 : (mk_sz mk_h1 + 55) + (mk_sz mk_h1 + 55) ≤ 7302250 := by decide +kernel
theorem lw_q13 : mk_pos (13, 50, 0) = 0 := by decide +kernel
theorem lw_q17 : mk_pos (17, 73, 0) = mk_n1 := by decide +kernel
theorem lw_i13 : ((13, 50, 0) : mj_Id) ∈ mj_ids := by decide +kernel
theorem lw_i17 : ((17, 73, 0) : mj_Id) ∈ mj_ids := by decide +kernel
theorem lw_fact {s : State} {b L : Nat} {xs : Nat → Int32} {D : va_G} {X : mj_X} (hts : ∀ w ∈ lw_tbl, w.before #[Value.ref b] s = true) (hgv : (Jvm.Cond.and given_1 narrow_1).before #[Value.ref b] s = true) (hX : va_X b L xs s s.heap) (hK : mk_K D X s) : ∃ tW tR : Nat, ∀ ad : Nat → Nat, mj_K D X (lw_rho ad tW tR b) s.heap L xs s := by
  have hs := flat_of_before _ hgv
  have hA : ∀ a : Nat, a < s.heap.size → ¬ mj_A s.heap a := fun a h => Nat.not_le.mpr h
  obtain ⟨tW, zW, aW⟩ := lw_st (nm := "WEIGHTS") (f := mj_Wt) (hts (Cond.laysStatic "CloudStrings" "WEIGHTS" "[I") (by decide +kernel)) (hts (Cond.initialized "CloudStrings") (by decide +kernel)) (hs (Cond.arrayOf (.static "CloudStrings" "WEIGHTS" "[I") .int) (by decide +kernel)) (hs (Cond.eq (.length (.static "CloudStrings" "WEIGHTS" "[I")) (.int 4)) (by decide +kernel)) (hs (Cond.eq (.elem (.static "CloudStrings" "WEIGHTS" "[I") (.int 0)) (.int (mj_Wt 0))) (by decide +kernel)) (hs (Cond.eq (.elem (.static "CloudStrings" "WEIGHTS" "[I") (.int 1)) (.int (mj_Wt 1))) (by decide +kernel)) (hs (Cond.eq (.elem (.static "CloudStrings" "WEIGHTS" "[I") (.int 2)) (.int (mj_Wt 2))) (by decide +kernel)) (hs (Cond.eq (.elem (.static "CloudStrings" "WEIGHTS" "[I") (.int 3)) (.int (mj_Wt 3))) (by decide +kernel)) hA
  obtain ⟨tR, zR, aR⟩ := lw_st (nm := "RAINS") (f := mj_Rn) (hts (Cond.laysStatic "CloudStrings" "RAINS" "[I") (by decide +kernel)) (hts (Cond.initialized "CloudStrings") (by decide +kernel)) (hs (Cond.arrayOf (.static "CloudStrings" "RAINS" "[I") .int) (by decide +kernel)) (hs (Cond.eq (.length (.static "CloudStrings" "RAINS" "[I")) (.int 4)) (by decide +kernel)) (hs (Cond.eq (.elem (.static "CloudStrings" "RAINS" "[I") (.int 0)) (.int (mj_Rn 0))) (by decide +kernel)) (hs (Cond.eq (.elem (.static "CloudStrings" "RAINS" "[I") (.int 1)) (.int (mj_Rn 1))) (by decide +kernel)) (hs (Cond.eq (.elem (.static "CloudStrings" "RAINS" "[I") (.int 2)) (.int (mj_Rn 2))) (by decide +kernel)) (hs (Cond.eq (.elem (.static "CloudStrings" "RAINS" "[I") (.int 3)) (.int (mj_Rn 3))) (by decide +kernel)) hA
  refine ⟨tW, tR, fun ad => ?_⟩
  have e1 : lw_rho ad tW tR b (40, 80, 0) = tW := if_pos rfl
  have e2 : lw_rho ad tW tR b (40, 81, 0) = tR := by
    unfold lw_rho
    rw [if_neg (by decide), if_pos rfl]
  have e3 : lw_rho ad tW tR b (41, 82, 0) = b := by
    unfold lw_rho
    rw [if_neg (by decide), if_neg (by decide), if_pos rfl]
  refine ⟨hK.1, ?_, ?_, ?_, ?_, ?_, va_Nw.of rfl (hts _ (by decide +kernel)), va_Nw.of rfl (hts _ (by decide +kernel)), va_Nw.of rfl (hts _ (by decide +kernel))⟩
  · rw [e1]; exact zW
  · rw [e2]; exact zR
  · rw [e1]; exact aW
  · rw [e2]; exact aR
  · rw [e3]; exact hX
theorem lw_cl {p : Program} {e : Env} {s : State} {m : MethodId} {below : List Frame} {meth : Method} {c : Code} {l : Launch} {b L n2 z2 : Nat} {xs : Nat → Int32} {D : va_G} {X : mj_X} {ρ : mj_Id → Nat} (C0 : lw_At p s m meth c b L xs) (C : mj_CX p s m #[Value.ref b] c code 17 8 D X ρ s.heap L xs) (hn : n2 ≤ 600000) (hz : z2 ≤ 7302250) : lw_Ps (mj_GG p l e room_1 s m #[Value.ref b] below meth c n2 z2 (lw_Z below #[Value.ref b] s) 17 [] D X ρ s.heap L xs) := by
  obtain ⟨hx, hb, hr, hml, hown, hts, hX, hbl, hlk, hgv⟩ := C0
  have hDd : mj_Dd ρ s.heap := C.2.2.2.2.2.2.1
  refine ⟨?_, ?_⟩
  · intro pc ls st M1 hw
    rcases mj_row mj_cfL pc with h | h
    · rw [h] at hw
      exact hw.elim
    · refine mj_main (dd := 10) C ⟨by decide, by decide⟩ ⟨hn, hz⟩ (fun g vs M r N h1 h2 h3 h4 => ⟨by decide, mj_sound hDd 9 g vs M r N h1 h2 h3 h4⟩) ?_ ?_ (fun pc ls st M h => h) _ pc ls st M1 hw h
      · intro pc ls x M2 hd hrt hR hl hv H locs la hP2 hS hL
        have hx1 : x = 1 := by cases hR; rfl
        subst hx1
        exact va_forget (fun q hq => hS.2.2 q hq) (W.widen hn hz (lw_ret hx hb hr hlk hd))
      · intro pc ls M2 hd hrt hR
        cases hR
  · intro pc ls st M1 M2 he h hl hv H locs la hP2 hS hL
    exact h hl hv H locs la (mj_P_eq he hP2) hS hL
theorem lw_no (l : List (Option mj_V)) (h : ∀ x ∈ l, x = none) (j : Nat) {v : mj_V} : ¬ l[j]? = some (some v) := fun e => by
  have := h _ (List.mem_of_getElem? e)
  cases this
theorem lw_atv {ρ : mj_Id → Nat} {ls : mj_L} {la : Array Slot} {T : List (Nat × Value)} (hL : lv_has la 17 T) (h : ∀ (j : Nat) (v : mj_V), ls[j]? = some (some v) → (j, mj_rv ρ v) ∈ T) : lv_has la 17 (mj_la ρ ls) := ⟨hL.1, hL.2.1, fun x hx => by
  obtain ⟨v, hv1, hv2⟩ := mj_la_of hx
  obtain ⟨i, y⟩ := x
  dsimp only at hv1 hv2
  subst hv2
  exact hL.2.2 _ (h i v hv1)⟩
theorem lw_end (pure1 : lw_Pure1) (pure2 : lw_Pure2) {p : Program} {e : Env} {s : State} {m : MethodId} {below : List Frame} {meth : Method} {c : Code} (l : Launch) {b L : Nat} {xs : Nat → Int32} (hL : L ≤ 260) (C0 : lw_At p s m meth c b L xs) : W p l e room_1 s m #[Value.ref b] below meth c s.heap [] 0 0 (lw_Z below #[Value.ref b] s) (entryFrame m ([Value.ref b] : List Value).toArray 17) := by
  have C0' := C0
  obtain ⟨hx, hb, hr, hml, hown, hts, hX, hbl, hlk, hgv⟩ := C0'
  obtain ⟨D, X, hK⟩ := lw_K hts
  obtain ⟨tW, tR, hKK⟩ := lw_fact hts hgv hX hK
  have hn := lw_len2
  have hz := lw_sz2
  have CL : lw_LX p s m c b D X := ⟨hx, hb, hml, hown, hts, hK⟩
  have i13 : ∀ ad, lw_rho ad tW tR b (13, 50, 0) = ad 0 := fun ad => by rw [lw_rho_in lw_i13, lw_q13]
  have i17 : ∀ ad, lw_rho ad tW tR b (17, 73, 0) = ad mk_h1.length := fun ad => by rw [lw_rho_in lw_i17, lw_q17, mk_h1_len]
  have i41 : ∀ ad, lw_rho ad tW tR b (41, 82, 0) = b := fun ad => by
    unfold lw_rho
    rw [if_neg (by decide), if_neg (by decide), if_pos rfl]
  have hMC : ∀ {ad : Nat → Nat} {H : Heap}, va_D (mj_A s.heap) (mk_ws ad X mk_h2) → mj_CX p s m #[Value.ref b] c code 17 8 D X (lw_rho ad tW tR b) s.heap L xs := fun hD => ⟨hx, hb, hml, hown, fun w hw => hts w (List.mem_filter.mp hw).1, hKK _, lw_Dd (D := D) (tW := tW) (tR := tR) (b := b) hD, va_S.rf⟩
  refine lw_go1 CL mk_h1_ok (by omega) (by omega) (fun ad H locs la hP hD hS hL1 => ?_)
  have hPp := lw_pic (tW := tW) (tR := tR) (b := b) (L := L) (xs := xs) hP
  have C := hMC (H := H) hD
  have e13 := i13 ad
  have e17 := i17 ad
  have e41 := i41 ad
  have key := pure1 L xs hL _ (lw_cl (l := l) (e := e) (below := below) (n2 := mk_h1.length + 1) (z2 := mk_sz mk_h1 + 55) C0 C (by omega) (by omega)) ?_
  · clear hP hD
    generalize mk_h1.length = n1 at *
    generalize mk_sz mk_h1 = z1 at *
    refine key rfl ⟨fun j q h => ?_, fun j w h => ?_, fun q h => by cases h⟩ H locs la ⟨hPp, ⟨hS.1, hS.2.1, fun q hq => by cases hq⟩, lw_cM hL⟩ hS (lw_atv hL1 fun j v hv => ?_)
    · rcases j with _ | _ | _ | j
      · cases h; exact Or.inr (Or.inr (Or.inr rfl))
      · cases h; exact Or.inl lw_i13
      · cases h; exact Or.inl lw_i17
      · exact absurd h (lw_no [none, none, none, none, none, none, none, none, none, none, none, none, none, none] (by simp) j)
    · rcases j with _ | _ | _ | j
      · cases h
      · cases h
      · cases h
      · exact absurd h (lw_no [none, none, none, none, none, none, none, none, none, none, none, none, none, none] (by simp) j)
    · rcases j with _ | _ | _ | j
      · cases hv
        show (0, Value.ref (lw_rho ad tW tR b (41, 82, 0))) ∈ _
        rw [e41]
        simp
      · cases hv
        show (1, Value.ref (lw_rho ad tW tR b (13, 50, 0))) ∈ _
        rw [e13]
        simp
      · cases hv
        show (2, Value.ref (lw_rho ad tW tR b (17, 73, 0))) ∈ _
        rw [e17]
        simp
      · exact absurd hv (lw_no [none, none, none, none, none, none, none, none, none, none, none, none, none, none] (by simp) j)
  · intro ts x6 M hts2 hl hv H2 locs2 la2 hP2 hS2 hL2
    clear C e13 e17 e41 hPp hP hD hS hL1
    have g0 := mj_la_at hL2 (i := 0) rfl
    have g3 := mj_la_at hL2 (i := 3) rfl
    have g4 := mj_la_at hL2 (i := 4) rfl
    have g5 := mj_la_at hL2 (i := 5) rfl
    have g7 := mj_la_at hL2 (i := 7) rfl
    have g0 : la2[0]? = some (.val (.ref b)) := by
      rw [g0]
      show some (Slot.val (Value.ref (lw_rho ad tW tR b (41, 82, 0)))) = _
      rw [i41 ad]
    have hT : lv_has la2 17 [(7, .int (sqS L xs)), (5, .int (sqM L xs)), (4, .int (sqN L xs)), (3, .int 1), (0, .ref b)] := ⟨hL2.1, hL2.2.1, fun x hx => by
      simp only [List.mem_cons, List.not_mem_nil, or_false] at hx
      rcases hx with rfl | rfl | rfl | rfl | rfl
      · exact g7
      · exact g5
      · exact g4
      · exact g3
      · exact g0⟩
    refine lw_go2 CL mk_h1_ok (by omega) (by omega) hS2 hT (fun ad3 H3 locs3 la3 hP3 hD3 hS3 hL3 => ?_)
    have C := hMC (H := H3) hD3
    have hPp := lw_pic (tW := tW) (tR := tR) (b := b) (L := L) (xs := xs) hP3
    have e13 := i13 ad3
    have e17 := i17 ad3
    have e41 := i41 ad3
    have key := pure2 L xs hL _ (lw_cl (l := l) (e := e) (below := below) (n2 := mk_h1.length + 1 + (mk_h1.length + 1)) (z2 := mk_sz mk_h1 + 55 + (mk_sz mk_h1 + 55)) C0 C (by omega) (by omega))
    clear hP3 hD3
    generalize mk_h1.length = n1 at *
    generalize mk_sz mk_h1 = z1 at *
    refine key rfl ⟨fun j q h => ?_, fun j w h => ?_, fun q h => by cases h⟩ H3 locs3 la3 ⟨hPp, ⟨hS3.1, hS3.2.1, fun q hq => by cases hq⟩, lw_cM hL⟩ hS3 (lw_atv hL3 fun j v hv => ?_)
    · rcases j with _ | _ | _ | _ | _ | _ | _ | _ | _ | _ | j
      · cases h; exact Or.inr (Or.inr (Or.inr rfl))
      · cases h
      · cases h
      · cases h
      · cases h
      · cases h
      · cases h
      · cases h
      · cases h; exact Or.inl lw_i13
      · cases h; exact Or.inl lw_i17
      · exact absurd h (lw_no [none, none, none, none, none, none, none] (by simp) j)
    · rcases j with _ | _ | _ | _ | _ | _ | _ | _ | _ | _ | j
      · cases h
      · cases h
      · cases h
      · cases h
      · cases h
      · cases h
      · cases h
      · cases h
      · cases h
      · cases h
      · exact absurd h (lw_no [none, none, none, none, none, none, none] (by simp) j)
    · rcases j with _ | _ | _ | _ | _ | _ | _ | _ | _ | _ | j
      · cases hv
        show (0, Value.ref (lw_rho ad3 tW tR b (41, 82, 0))) ∈ _
        rw [e41]
        simp
      · cases hv
      · cases hv
      · cases hv
        exact List.mem_of_getElem? (i := 5) rfl
      · cases hv
        exact List.mem_of_getElem? (i := 4) rfl
      · cases hv
        exact List.mem_of_getElem? (i := 3) rfl
      · cases hv
      · cases hv
        exact List.mem_of_getElem? (i := 2) rfl
      · cases hv
        show (8, Value.ref (lw_rho ad3 tW tR b (13, 50, 0))) ∈ _
        rw [e13]
        simp
      · cases hv
        show (9, Value.ref (lw_rho ad3 tW tR b (17, 73, 0))) ∈ _
        rw [e17]
        simp
      · exact absurd hv (lw_no [none, none, none, none, none, none, none] (by simp) j)
