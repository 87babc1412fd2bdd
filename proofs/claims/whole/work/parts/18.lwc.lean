
/-! the law over the small machine -/
def lw_Pure : Prop := ∀ (L : Nat) (xs : Nat → Int32), L ≤ 3072 → ∀ P : Nat → mj_L → List mj_V → mj_M → Prop, mj_Cl mj_c150 (mj_Sp 10) (0 < 10) P (fun v _ => v = some (.inl 1)) → (∀ (pc : Nat) (ls : mj_L) (st : List mj_V) (M M1 : mj_M), mj_eq M M1 → P pc ls st M1 → P pc ls st M) → P 18 [some (mj_r (41, 82, 0)), some (mj_r (13, 50, 0)), some (mj_r (30, 60, 0)), some (mj_i 0)] [] (lw_M L xs)
theorem lw_len2 : mk_h2.length ≤ 600000 := by decide +kernel
theorem lw_sz2 : mk_sz mk_h2 ≤ 7302250 := by decide +kernel
theorem lw_q13 : mk_pos (13, 50, 0) = 0 := by decide +kernel
theorem lw_q30 : mk_pos (30, 60, 0) = mk_n1 := by decide +kernel
theorem lw_i13 : ((13, 50, 0) : mj_Id) ∈ mj_ids := by decide +kernel
theorem lw_i30 : ((30, 60, 0) : mj_Id) ∈ mj_ids := by decide +kernel
theorem lw_e2 : mk_go 200 8 0 [some (.inr (some mk_h1.length)), none] [] (mk_h1 ++ [(0, 8, mk_df.getD 8 [])]) = some mk_h2 := by
  rw [mk_h1_len]
  exact mk_h2_ok
theorem lw_fact {s : State} {b L : Nat} {xs : Nat → Int32} {D : va_G} {X : mj_X} (hts : ∀ w ∈ lw_tbl, w.before #[Value.ref b] s = true) (hgv : (Jvm.Cond.and given_1 narrow_1).before #[Value.ref b] s = true) (hX : va_X b L xs s s.heap) (hK : mk_K D X s) : ∃ tW tR : Nat, ∀ ad : Nat → Nat, mj_K D X (lw_rho ad tW tR b) s.heap L xs s := by
  have hs := flat_of_before _ hgv
  have hA : ∀ a : Nat, a < s.heap.size → ¬ mj_A s.heap a := fun a h => Nat.not_le.mpr h
  obtain ⟨tW, zW, aW⟩ := lw_st (nm := "WEIGHTS") (f := mj_Wt) (hts (Cond.laysStatic "CloudStrings" "WEIGHTS" "[I") (by decide +kernel)) (hts (Cond.initialized "CloudStrings") (by decide +kernel)) (hs (Cond.arrayOf (.static "CloudStrings" "WEIGHTS" "[I") .int) (by decide +kernel)) (hs (Cond.eq (.length (.static "CloudStrings" "WEIGHTS" "[I")) (.int 4)) (by decide +kernel)) (hs (Cond.eq (.elem (.static "CloudStrings" "WEIGHTS" "[I") (.int 0)) (.int (mj_Wt 0))) (by decide +kernel)) (hs (Cond.eq (.elem (.static "CloudStrings" "WEIGHTS" "[I") (.int 1)) (.int (mj_Wt 1))) (by decide +kernel)) (hs (Cond.eq (.elem (.static "CloudStrings" "WEIGHTS" "[I") (.int 2)) (.int (mj_Wt 2))) (by decide +kernel)) (hs (Cond.eq (.elem (.static "CloudStrings" "WEIGHTS" "[I") (.int 3)) (.int (mj_Wt 3))) (by decide +kernel)) hA
  obtain ⟨tR, zR, aR⟩ := lw_st (nm := "RAINS") (f := mj_Rn) (hts (Cond.laysStatic "CloudStrings" "RAINS" "[I") (by decide +kernel)) (hts (Cond.initialized "CloudStrings") (by decide +kernel)) (hs (Cond.arrayOf (.static "CloudStrings" "RAINS" "[I") .int) (by decide +kernel)) (hs (Cond.eq (.length (.static "CloudStrings" "RAINS" "[I")) (.int 4)) (by decide +kernel)) (hs (Cond.eq (.elem (.static "CloudStrings" "RAINS" "[I") (.int 0)) (.int (mj_Rn 0))) (by decide +kernel)) (hs (Cond.eq (.elem (.static "CloudStrings" "RAINS" "[I") (.int 1)) (.int (mj_Rn 1))) (by decide +kernel)) (hs (Cond.eq (.elem (.static "CloudStrings" "RAINS" "[I") (.int 2)) (.int (mj_Rn 2))) (by decide +kernel)) (hs (Cond.eq (.elem (.static "CloudStrings" "RAINS" "[I") (.int 3)) (.int (mj_Rn 3))) (by decide +kernel)) hA
  refine ⟨tW, tR, fun ad => ?_⟩
  have e1 : lw_rho ad tW tR b (40, 80, 0) = tW := if_pos rfl
  have e2 : lw_rho ad tW tR b (40, 81, 0) = tR := by
    unfold lw_rho
    rw [if_neg (by decide), if_pos rfl]
  have e3 : lw_rho ad tW tR b (41, 82, 0) = b := by
    unfold lw_rho
    rw [if_neg (by decide), if_neg (by decide), if_pos rfl]
  refine ⟨hK.1, ?_, ?_, ?_, ?_, ?_, va_Nw.of rfl (hts _ (by decide +kernel)), va_Nw.of rfl (hts _ (by decide +kernel)), va_Nw.of rfl (hts _ (by decide +kernel))⟩
  · rw [e1]; exact zW
  · rw [e2]; exact zR
  · rw [e1]; exact aW
  · rw [e2]; exact aR
  · rw [e3]; exact hX
theorem lw_end (pure : lw_Pure) {p : Program} {e : Env} {s : State} {m : MethodId} {below : List Frame} {meth : Method} {c : Code} (l : Launch) {b L : Nat} {xs : Nat → Int32} (hL : L ≤ 3072) (C0 : lw_At p s m meth c b L xs) : W p l e room_1 s m #[Value.ref b] below meth c s.heap [] 0 0 (lw_Z below #[Value.ref b] s) (entryFrame m ([Value.ref b] : List Value).toArray 4) := by
  obtain ⟨hx, hb, hr, hml, hown, hts, hX, hbl, hlk, hgv⟩ := C0
  obtain ⟨D, X, hK⟩ := lw_K hts
  obtain ⟨tW, tR, hKK⟩ := lw_fact hts hgv hX hK
  refine lw_go (D := D) (X := X) ⟨hx, hb, hml, hown, hts, hK⟩ mk_h1_ok lw_e2 lw_len2 lw_sz2 (fun ad H locs la hP hD hS hL1 => ?_)
  have hDd := lw_Dd (D := D) (tW := tW) (tR := tR) (b := b) hD
  have hPp := lw_pic (tW := tW) (tR := tR) (b := b) (L := L) (xs := xs) hP
  have C : mj_CX p s m #[Value.ref b] c code 4 9 D X (lw_rho ad tW tR b) s.heap L xs := ⟨hx, hb, hml, hown, fun w hw => hts w (List.mem_filter.mp hw).1, hKK ad, hDd, va_S.rf⟩
  have i13 : lw_rho ad tW tR b (13, 50, 0) = ad 0 := by rw [lw_rho_in lw_i13, lw_q13]
  have i30 : lw_rho ad tW tR b (30, 60, 0) = ad mk_h1.length := by rw [lw_rho_in lw_i30, lw_q30, mk_h1_len]
  have i41 : lw_rho ad tW tR b (41, 82, 0) = b := by
    unfold lw_rho
    rw [if_neg (by decide), if_neg (by decide), if_pos rfl]
  have hn := lw_len2
  have hz := lw_sz2
  generalize mk_h1.length = n1 at hL1 i30
  clear hP hD
  generalize mk_h2.length = n2 at hn ⊢
  generalize mk_sz mk_h2 = z2 at hz ⊢
  have key := pure L xs hL (mj_GG p l e room_1 s m #[Value.ref b] below meth c n2 z2 (lw_Z below #[Value.ref b] s) 4 [] D X (lw_rho ad tW tR b) s.heap L xs) ?_ ?_
  · refine key rfl ⟨fun j q h => ?_, fun j w h => ?_, fun q h => by cases h⟩ H locs la ⟨hPp, ⟨hS.1, hS.2.1, fun q hq => by cases hq⟩, lw_cM hL⟩ hS ⟨hL1.1, hL1.2.1, fun x hx => ?_⟩
    · rcases j with _ | _ | _ | _ | j
      · cases h; exact Or.inr (Or.inr (Or.inr rfl))
      · cases h; exact Or.inl lw_i13
      · cases h; exact Or.inl lw_i30
      · cases h
      · cases h
    · rcases j with _ | _ | _ | _ | j <;> cases h
    · obtain ⟨v, hv1, hv2⟩ := mj_la_of hx
      obtain ⟨i, y⟩ := x
      dsimp only at hv1 hv2
      subst hv2
      rcases i with _ | _ | _ | _ | i
      · cases hv1
        show la[0]? = some (.val (.ref (lw_rho ad tW tR b (41, 82, 0))))
        rw [i41]
        exact hL1.2.2 (0, .ref b) (by simp)
      · cases hv1
        show la[1]? = some (.val (.ref (lw_rho ad tW tR b (13, 50, 0))))
        rw [i13]
        exact hL1.2.2 (1, .ref (ad 0)) (by simp)
      · cases hv1
        show la[2]? = some (.val (.ref (lw_rho ad tW tR b (30, 60, 0))))
        rw [i30]
        exact hL1.2.2 (2, .ref (ad n1)) (by simp)
      · cases hv1
        exact hL1.2.2 (3, .int 0) (by simp)
      · cases hv1
  · intro pc ls st M1 hw
    rcases mj_row mj_cfL pc with h | h
    · rw [h] at hw
      exact hw.elim
    · refine mj_main (dd := 10) C ⟨by decide, by decide⟩ ⟨hn, hz⟩ (fun g vs M r N h1 h2 h3 h4 => ⟨by decide, mj_sound hDd 9 g vs M r N h1 h2 h3 h4⟩) ?_ ?_ (fun pc ls st M h => h) _ pc ls st M1 hw h
      · intro pc ls x M2 hd hrt hR hl hv H locs la hP2 hS hL
        have hx1 : x = 1 := by cases hR; rfl
        subst hx1
        exact va_forget (fun q hq => hS.2.2 q hq) (W.widen hn hz (lw_ret hx hb hr hlk hd))
      · intro pc ls M2 hd hrt hR
        cases hR
  · intro pc ls st M1 M2 he h hl hv H locs la hP2 hS hL
    exact h hl hv H locs la (mj_P_eq he hP2) hS hL
