
/-! the constructors' main theorem -/
theorem mk_mono : ∀ (n g pc : Nat) (ls : List (Option mk_V)) (st : List mk_V) (h h' : List mk_C), mk_go n g pc ls st h = some h' → h.length ≤ h'.length ∧ mk_sz h ≤ mk_sz h'
  | 0, g, pc, ls, st, h, h', e => by cases e
  | n + 1, g, pc, ls, st, h, h', e => by
    have ih := mk_mono n
    have app : ∀ (cs : List mk_C) (pc : Nat) (st : List mk_V), mk_go n g pc ls st (h ++ cs) = some h' → h.length ≤ h'.length ∧ mk_sz h ≤ mk_sz h' := fun cs pc st e => by
      have := ih _ _ _ _ _ _ e
      rw [List.length_append, mk_sz_app] at this
      exact ⟨by omega, by omega⟩
    have chg : ∀ (r j : Nat) (v : mk_V) (pc : Nat) (st : List mk_V), r < h.length → mk_go n g pc ls st (mk_set h r j v) = some h' → h.length ≤ h'.length ∧ mk_sz h ≤ mk_sz h' := fun r j v pc st hr e => by
      have := ih _ _ _ _ _ _ e
      rw [mk_set_len, mk_sz_set hr] at this
      exact this
    unfold mk_go at e
    split at e
    · cases e
    · split at e <;> (try (exact ih _ _ _ _ _ _ e))
      · split at e
        · exact ih _ _ _ _ _ _ e
        · cases e
      · split at e
        · exact ih _ _ _ _ _ _ e
        · cases e
      · split at e
        · split at e
          · exact ih _ _ _ _ _ _ e
          · cases e
        · cases e
      · split at e
        · exact ih _ _ _ _ _ _ e
        · cases e
      · split at e
        · exact ih _ _ _ _ _ _ e
        · cases e
      · split at e
        · split at e
          · exact ih _ _ _ _ _ _ e
          · exact ih _ _ _ _ _ _ e
        · cases e
      · split at e
        · split at e
          · exact app _ _ _ e
          · cases e
        · cases e
      · split at e
        · split at e
          · exact app _ _ _ e
          · cases e
        · cases e
      · split at e
        · split at e
          · exact app _ _ _ e
          · cases e
        · cases e
      · split at e
        · split at e
          · exact app _ _ _ e
          · cases e
        · cases e
      · split at e
        · split at e
          · next hc => exact chg _ _ _ _ _ hc.1 e
          · cases e
        · cases e
      · split at e
        · split at e
          · split at e
            · exact ih _ _ _ _ _ _ e
            · cases e
          · cases e
        · cases e
      · split at e
        · split at e
          · next hc => exact chg _ _ _ _ _ hc.1 e
          · cases e
        · cases e
      · split at e
        · split at e
          · next hc => exact chg _ _ _ _ _ hc.1 e
          · cases e
        · cases e
      · split at e
        · split at e
          · exact ih _ _ _ _ _ _ e
          · cases e
        · split at e
          · split at e
            · next h1 e1 =>
              have a := ih _ _ _ _ _ _ e1
              have b := ih _ _ _ _ _ _ e
              exact ⟨Nat.le_trans a.1 b.1, Nat.le_trans a.2 b.2⟩
            · cases e
          · cases e
        · cases e
      · split at e
        · cases e; exact ⟨Nat.le_refl _, Nat.le_refl _⟩
        · cases e
      · cases e
theorem mk_lk {α : Type} {pc : Nat} {x : α} : ∀ (c : List (Nat × α)), c.lookup pc = some x → (pc, x) ∈ c
  | [], h => by cases h
  | (a, b) :: ys, h => by
    rw [List.lookup_cons] at h
    by_cases e : pc == a
    · rw [e] at h
      have e2 := beq_iff_eq.mp e
      subst e2
      cases h
      exact List.mem_cons_self
    · have e3 : (pc == a) = false := by simpa using e
      rw [e3] at h
      exact List.mem_cons_of_mem _ (mk_lk ys h)
theorem mk_cma {g : Nat} (hg : g < 8) : mk_cm g = true := by
  rcases (by omega : g = 0 ∨ g = 1 ∨ g = 2 ∨ g = 3 ∨ g = 4 ∨ g = 5 ∨ g = 6 ∨ g = 7) with rfl | rfl | rfl | rfl | rfl | rfl | rfl | rfl
  · exact mk_ck0
  · exact mk_ck1
  · exact mk_ck2
  · exact mk_ck3
  · exact mk_ck4
  · exact mk_ck5
  · exact mk_ck6
  · exact mk_ck7
theorem mk_cwa {g : Nat} (hg : g < 8) : Cond.code (mk_y g) (mk_bc g) (mk_mx g) none ∈ mj_WA := by
  rcases (by omega : g = 0 ∨ g = 1 ∨ g = 2 ∨ g = 3 ∨ g = 4 ∨ g = 5 ∨ g = 6 ∨ g = 7) with rfl | rfl | rfl | rfl | rfl | rfl | rfl | rfl
  · exact mk_cw0
  · exact mk_cw1
  · exact mk_cw2
  · exact mk_cw3
  · exact mk_cw4
  · exact mk_cw5
  · exact mk_cw6
  · exact mk_cw7
theorem mk_good {g : Nat} (hg : g < 8) : GoodIn mj_WA (mk_wsf g) := mj_goodL (fun w hw => (List.mem_cons.mp hw).elim (fun e => e ▸ mk_cwa hg) id)
theorem mk_yd : (List.range 8).all (fun g => plainName (mk_y g).cls && decide ((mk_y g).cls ≠ "java/lang/invoke/MethodHandle") && decide ((mk_y g).cls ≠ "java/lang/invoke/VarHandle") && decide ((parseMethodDescriptor (mk_y g).desc).map (fun d => d.parameters.length) = some 0) && Nat.ble (mk_mx g) 2) = true := by decide +kernel
theorem mk_ydo {g : Nat} (hg : g < 8) : plainName (mk_y g).cls = true ∧ (mk_y g).cls ≠ "java/lang/invoke/MethodHandle" ∧ (mk_y g).cls ≠ "java/lang/invoke/VarHandle" ∧ (parseMethodDescriptor (mk_y g).desc).map (fun d => d.parameters.length) = some 0 ∧ mk_mx g ≤ 2 := by
  have h := List.all_eq_true.mp mk_yd g (List.mem_range.mpr hg)
  simp only [Bool.and_eq_true, decide_eq_true_eq] at h
  exact ⟨h.1.1.1.1, h.1.1.1.2, h.1.1.2, h.1.2, Nat.le_of_ble_eq_true h.2⟩
section MK3
variable {p : Program} {l : Launch} {e : Env} {R : Room} {s : State} {m : MethodId} {args : Array Value} {below : List Frame} {meth : Method} {c : Code} {Q : State → Prop}
variable {g nL : Nat} {D : va_G} {X : mj_X} {Hb : Heap} {ad0 : Nat → Nat} {h0 sz0 pc : Nat} {ls : List (Option mk_V)} {st : List mk_V} {h : List mk_C}

/-- behind a constructor -/
theorem mk_run {h1 : List mk_C} {ad : Nat → Nat} {H : Heap} {locs : List Loc} {la : Array Slot} {st0 : List Value} {a : Array Value} {cells slots mc ms : Nat} (hr : va_Run p l e R s m args below meth c H locs cells slots mc ms (F0 m pc la st0) (st.map (mk_rv ad)) (mk_Qc D X Hb ad h.length h1 a) (mj_A Hb)) (hS : va_S (mj_A Hb) s.heap H locs)
    (kk : ∀ (H1 : Heap) (locs1 : List Loc) (ad' : Nat → Nat), (∀ k, k < h.length → ad' k = ad k) → va_P D mj_cl (mk_ws ad' X h1) H1 → va_D (mj_A Hb) (mk_ws ad' X h1) → va_S (mj_A Hb) s.heap H1 locs1 → W p l e R s m args below meth c H1 locs1 (cells + mc) (slots + ms) Q (F0 m (pc + 3) la (st.map (mk_rv ad)))) : W p l e R s m args below meth c H locs cells slots Q (F0 m pc la st0) := by
  intro T hT Xs
  obtain ⟨v, st₀, t, T', L1, h0', X', hL, e1, e2, ⟨hv, ⟨ad', ha, hp, hd⟩, hz⟩, st'⟩ := hr T hT Xs
  have hv : v = none := by injection hv
  subst hv
  unfold va_F at hz
  rw [h0', ← e1] at hz
  obtain ⟨t2, a1, b1⟩ := kk T'.heap (locs ++ L1) ad' ha (by rw [e1]; exact hp) hd
    ⟨Nat.le_trans hS.1 hz.1, fun q h1 h2 => (hz.2 q (Nat.lt_of_lt_of_le h1 hS.1) h2).trans (hS.2.1 q h1 h2), fun q hq => by
      rcases List.mem_append.mp hq with h | h
      · exact hS.2.2 q h
      · exact hL q h⟩ T' rfl X'
  exact ⟨t2, st' t2 a1, b1⟩
theorem nk_call (C : mk_CX p s m args meth c g D X Hb) (hnL : nL = mk_mx g) {i r g' : Nat} {h1 : List mk_C} (hd : decode (mk_bc g) pc = .ok (.invokespecial i, 3)) (hn : mk_NL.contains (g, i, g') = true) (hg' : g' < 8) (hr : r < h.length ∧ (mk_at h r).1 = 0 ∧ (mk_at h r).2.1 = g') (hdp : mk_dp g' < mk_dp g) (hst : st.length ≤ 8) (hM : ∀ ad, mk_MT l D X Hb ad g' r h h1) (hi : mk_wf h1 ∧ h.length ≤ h1.length ∧ mk_sz h ≤ mk_sz h1)
    (hR : mk_dp g ≤ R.frames ∧ 30 * mk_dp g ≤ R.locals ∧ h1.length - h0 ≤ R.cells ∧ mk_sz h1 - sz0 ≤ R.slots) (K : mk_GG p l e R s m args below meth c Q nL D X Hb ad0 h0 sz0 (pc + 3) ls st h1) : mk_GG p l e R s m args below meth c Q nL D X Hb ad0 h0 sz0 pc ls (.inr (some r) :: st) h := by
  intro hl hv g1 g2 ad H locs la ha hP hD hS hL
  have hw1 : mk_wN (g, i, g') ∈ mk_NL.map mk_wN := List.mem_map.mpr ⟨_, List.contains_iff_mem.mp hn, rfl⟩
  have hK := C.2.2.2.2.2.1.2.2.2 (g, i, g') (List.contains_iff_mem.mp hn)
  obtain ⟨-, y2, y3, y4, y5⟩ := mk_ydo hg'
  have cw := va_cnB (R := R) (s := s) (args := args) (own := mj_cs_ g) (host := "CloudStrings") (index := i) (y := mk_y g') (bytes := mk_bc g') (maxL := mk_mx g') (ret := none) (ws := mk_wsf g') (rm := mk_rm g' (h1.length - h.length) (mk_sz h1 - mk_sz h)) (mc := h1.length - h.length) (ms := mk_sz h1 - mk_sz h) (ws' := mj_WA) 0 C.2.2.2.2.1 (mk_good hg') rfl rfl rfl hK (C.2.2.2.2.1 _ (mk_IT_ok _ (List.mem_map.mpr ⟨g', List.mem_range.mpr hg', rfl⟩))) ⟨y2, y3, y4⟩ ⟨by show mk_dp g' + 1 ≤ _; omega, by show 8 + (mk_mx g' + 11) + 30 * mk_dp g' ≤ _; omega⟩
  have hrun := va_runIN (rest := st.map (mk_rv ad)) (As := []) (b := ad r) (g := F0 m pc la ((.inr (some r) :: st).map (mk_rv ad))) (H := H) (locs := locs) (cells := h.length - h0) (slots := mk_sz h - sz0) (e := e) (below := below) (meth := meth) (nL := mk_mx g) ⟨C.1, C.2.1, C.2.2.1, C.2.2.2.1, C.2.2.2.2.1⟩ (hM ad) ⟨cw, rfl, C.2.2.2.2.1 _ (mk_IM_ok _ (List.mem_map.mpr ⟨g', List.mem_range.mpr hg', rfl⟩))⟩ ⟨mk_blind, fun U hU hW => ⟨rfl, by rw [hU]; exact hP, hD, by rw [hU]; exact mj_S_tr C.2.2.2.2.2.2.1 hS, mk_K.moved hW C.2.2.2.2.2.1⟩⟩ rfl rfl (hL.1.trans hnL) rfl (lv_room (by rw [mk_cat_sum]; exact hst)) hd ⟨by omega, by omega⟩
  refine mk_run hrun hS (fun H1 locs1 ad' hea hP1 hD1 hS1 => ?_)
  refine W.cs (cells' := h1.length - h0) (slots' := mk_sz h1 - sz0) (by omega) (by omega) ?_
  have hfin := K hl ⟨⟨fun k hk => Nat.lt_of_lt_of_le (hv.1.1 k hk) hi.2.1, fun k hk => Nat.lt_of_lt_of_le (hv.1.2 k (List.mem_cons_of_mem _ hk)) hi.2.1⟩, hi.1⟩ (by omega) (by omega) ad' H1 locs1 la (fun k hk => (hea k (by omega)).trans (ha k hk)) hP1 hD1 hS1 (by rw [mk_la_ext hv.1.1 hea]; exact hL)
  rw [mk_st_ext (fun k hk => hv.1.2 k (List.mem_cons_of_mem _ hk)) hea] at hfin
  exact hfin
end MK3
theorem mk_dec {cc : ByteArray} {pc len : Nat} {i : Instr} (h : (match decode cc pc with
  | .ok (i', n) => decide (i' = i) && n == len
  | _ => false) = true) : decode cc pc = .ok (i, len) := by
  split at h
  · next i' n hd =>
    rw [Bool.and_eq_true] at h
    have e1 := of_decide_eq_true h.1
    have e2 := beq_iff_eq.mp h.2
    subst e1
    subst e2
    exact hd
  · cases h
/-- what the frame's walk says at n steps -/
def mk_St (n : Nat) : Prop := ∀ (g pc : Nat) (ls : List (Option mk_V)) (st : List mk_V) (h hf : List mk_C), g < 8 → mk_go n g pc ls st h = some hf → ∀ {p : Program} {l : Launch} {e : Env} {s : State} {m : MethodId} {args : Array Value} {below : List Frame} {meth : Method} {c : Code} {D : va_G} {X : mj_X} {Hb : Heap} {ad0 : Nat → Nat} {h0 sz0 : Nat},
  mk_CX p s m args meth c g D X Hb → meth.locks = false → meth.sig.returnType = none → mk_GG p l e (mk_rm g (hf.length - h0) (mk_sz hf - sz0)) s m args below meth c (MQ below (mk_Qc D X Hb ad0 h0 hf) args s (hf.length - h0) (mk_sz hf - sz0) (mj_A Hb)) (mk_mx g) D X Hb ad0 h0 sz0 pc ls st h
theorem mk_met {n : Nat} (H : mk_St n) {g r : Nat} {h h1 : List mk_C} (hg : g < 8) (hr : r < h.length) (hw : mk_wf h) (e : mk_go n g 0 (some (.inr (some r)) :: List.replicate (mk_mx g - 1) none) [] h = some h1) (l : Launch) (D : va_G) (X : mj_X) (Hb : Heap) (ad : Nat → Nat) : mk_MT l D X Hb ad g r h h1 := by
  obtain ⟨y1, y2, y3, y4, y5⟩ := mk_ydo hg
  refine Met.ofW (cc := mk_bc g) (maxL := mk_mx g) (ret := none) y1 rfl ?_
  intro p e' s m args below meth c s₁ B hml hv
  obtain ⟨rfl, hP, hD, hS, hK⟩ := hv
  have hts := atoms_spec (ws := mk_wsf g) B.pre
  have C : mk_CX p s m #[.ref (ad r)] meth c g D X Hb := ⟨B.exec, B.bytes, hml, findClass_of_methodNamed B.named, fun w hw => hts w (List.mem_cons_of_mem _ hw), hK, hS, (name_of_methodNamed B.named B.method).1⟩
  have key := H g 0 _ [] h h1 hg e (p := p) (l := l) (e := e') (below := below) (ad0 := ad) (h0 := h.length) (sz0 := mk_sz h) C B.notSynchronized B.returns
  have h1m : 1 ≤ mk_mx g := by
    unfold mk_mx
    exact Nat.le_refl 1
  have hl := lv_entry [.ref (ad r)] (n := mk_mx g) h1m
  show W _ _ _ _ _ _ _ _ _ _ _ _ _ _ _ (entryFrame m ([Value.ref (ad r)] : List Value).toArray (mk_mx g))
  rw [lg_entry_eq]
  have hfin := key (by rw [List.length_cons, List.length_replicate]; omega) ⟨⟨fun k hk => (List.mem_cons.mp hk).elim (fun z => by cases z; exact hr) (fun z => by cases (List.eq_of_mem_replicate z)), fun k hk => by cases hk⟩, hw⟩ (Nat.le_refl _) (Nat.le_refl _) ad s.heap [] _ (fun _ _ => rfl) hP hD va_S.rf ⟨hl.1, hl.2.1, fun x hx => ?_⟩
  · rw [Nat.sub_self, Nat.sub_self] at hfin
    exact hfin
  · obtain ⟨v, hv1, hv2⟩ := mk_la_of hx
    obtain ⟨i, y⟩ := x
    dsimp only at hv1 hv2
    subst hv2
    cases i with
    | zero =>
      cases hv1
      exact hl.2.2 (0, .ref (ad r)) List.mem_cons_self
    | succ i =>
      rw [List.getElem?_cons_succ] at hv1
      cases (List.eq_of_mem_replicate (List.mem_of_getElem? hv1))
set_option maxHeartbeats 4000000 in
theorem mk_main : ∀ n, mk_St n
  | 0 => fun g pc ls st h hf _ e => by cases e
  | n + 1 => by
    intro g pc ls st h hf hg e p l e' s m args below meth c D X Hb ad0 h0 sz0 C hlk hrt
    have ih := mk_main n
    have mono := mk_mono n
    have inv := mk_inv n
    unfold mk_go at e
    split at e
    · cases e
    · next i len a hl0 =>
      have hm := List.all_eq_true.mp (mk_cma hg) _ (mk_lk _ hl0)
      unfold mk_ct at hm
      rw [Bool.and_eq_true] at hm
      obtain ⟨hdec, hop⟩ := hm
      have hd := mk_dec hdec
      dsimp only at hd hop
      clear hdec hl0
      split at e
      · next k =>
        have hn : len = 1 := beq_iff_eq.mp hop
        subst hn
        split at e
        · next r hr => exact fun hl hv g1 g2 ad H locs la ha hP hD hS hL => lv_aload_n C.1 C.2.1 hd rfl (mk_la_at hL hr) (ih _ _ _ _ _ _ hg e C hlk hrt hl ⟨⟨hv.1.1, fun k hk => (List.mem_cons.mp hk).elim (fun z => by cases z; exact hv.1.1 _ (List.mem_of_getElem? hr)) (fun z => hv.1.2 k z)⟩, hv.2⟩ g1 g2 ad H locs la ha hP hD hS hL)
        · cases e
      · next k =>
        have hn : len = 1 := beq_iff_eq.mp hop
        subst hn
        split at e
        · next x hr => exact fun hl hv g1 g2 ad H locs la ha hP hD hS hL => lv_iload_n C.1 C.2.1 hd rfl (mk_la_at hL hr) (ih _ _ _ _ _ _ hg e C hlk hrt hl ⟨⟨hv.1.1, fun k hk => (List.mem_cons.mp hk).elim (fun z => by cases z) (fun z => hv.1.2 k z)⟩, hv.2⟩ g1 g2 ad H locs la ha hP hD hS hL)
        · cases e
      · next k =>
        have hn : len = 1 := beq_iff_eq.mp hop
        subst hn
        split at e
        · next x st =>
          split at e
          · next hk => exact fun hl hv g1 g2 ad H locs la ha hP hD hS hL => lv_istore_n C.1 C.2.1 hd rfl hL (hl ▸ hk) rfl (fun la' hL' => ih _ _ _ _ _ _ hg e C hlk hrt (List.length_set.trans hl) ⟨⟨fun k hk => (List.mem_or_eq_of_mem_set hk).elim (fun z => hv.1.1 k z) (fun z => by cases z), fun k hk => hv.1.2 k (List.mem_cons_of_mem _ hk)⟩, hv.2⟩ g1 g2 ad H locs la' ha hP hD hS (mk_store hL'))
          · cases e
        · cases e
      · next k z =>
        have hn : len = 3 := beq_iff_eq.mp hop
        subst hn
        split at e
        · next x hx =>
          intro hl hv g1 g2 ad H locs la ha hP hD hS hL
          obtain ⟨j, hj⟩ := List.getElem?_of_mem (mk_la_in (ad := ad) hx)
          refine lv_iinc C.1 C.2.1 hd hL hj rfl (hl ▸ (List.getElem?_eq_some_iff.mp hx).1) rfl (fun la' hL' => ?_)
          exact ih _ _ _ _ _ _ hg e C hlk hrt (List.length_set.trans hl) ⟨⟨fun k hk => (List.mem_or_eq_of_mem_set hk).elim (fun z => hv.1.1 k z) (fun z => by cases z), hv.1.2⟩, hv.2⟩ g1 g2 ad H locs la' ha hP hD hS (mk_store hL')
        · cases e
      · next z =>
        have hn : len = 1 := beq_iff_eq.mp hop
        subst hn
        exact fun hl hv g1 g2 ad H locs la ha hP hD hS hL => lv_iconst C.1 C.2.1 hd rfl (ih _ _ _ _ _ _ hg e C hlk hrt hl ⟨⟨hv.1.1, fun k hk => (List.mem_cons.mp hk).elim (fun z => by cases z) (fun z => hv.1.2 k z)⟩, hv.2⟩ g1 g2 ad H locs la ha hP hD hS hL)
      · next z =>
        have hn : len = 2 := beq_iff_eq.mp hop
        subst hn
        exact fun hl hv g1 g2 ad H locs la ha hP hD hS hL => lv_bipush C.1 C.2.1 hd rfl (ih _ _ _ _ _ _ hg e C hlk hrt hl ⟨⟨hv.1.1, fun k hk => (List.mem_cons.mp hk).elim (fun z => by cases z) (fun z => hv.1.2 k z)⟩, hv.2⟩ g1 g2 ad H locs la ha hP hD hS hL)
      · have hn : len = 1 := beq_iff_eq.mp hop
        subst hn
        split at e
        · next r st => exact fun hl hv g1 g2 ad H locs la ha hP hD hS hL => lv_dup C.1 C.2.1 hd rfl (ih _ _ _ _ _ _ hg e C hlk hrt hl ⟨⟨hv.1.1, fun k hk => (List.mem_cons.mp hk).elim (fun z => by cases z; exact hv.1.2 _ List.mem_cons_self) (fun z => hv.1.2 k z)⟩, hv.2⟩ g1 g2 ad H locs la ha hP hD hS hL)
        · cases e
      · next off =>
        have hop : (len == 3 && decide (0 ≤ (pc : Int) + off)) = true := hop
        rw [Bool.and_eq_true] at hop
        have hn : len = 3 := beq_iff_eq.mp hop.1
        have ho := of_decide_eq_true hop.2
        clear hop
        subst hn
        exact fun hl hv g1 g2 ad H locs la ha hP hD hS hL => lv_goto C.1 C.2.1 hd (tgt := ((pc : Int) + off).toNat) (by omega) (ih _ _ _ _ _ _ hg e C hlk hrt hl hv g1 g2 ad H locs la ha hP hD hS hL)
      · next off =>
        have hop : (len == 3 && decide (0 ≤ (pc : Int) + off)) = true := hop
        rw [Bool.and_eq_true] at hop
        have hn : len = 3 := beq_iff_eq.mp hop.1
        have ho := of_decide_eq_true hop.2
        clear hop
        subst hn
        split at e
        · next y x st =>
          intro hl hv g1 g2 ad H locs la ha hP hD hS hL
          have hv2 : mk_iv ls st h := ⟨⟨hv.1.1, fun k hk => hv.1.2 k (by simp [hk])⟩, hv.2⟩
          refine lv_icmp_ge C.1 C.2.1 hd (tgt := ((pc : Int) + off).toNat) (by omega) (fun hc => ?_) (fun hc => ?_)
          · rw [if_pos hc] at e
            exact ih _ _ _ _ _ _ hg e C hlk hrt hl hv2 g1 g2 ad H locs la ha hP hD hS hL
          · rw [if_neg hc] at e
            exact ih _ _ _ _ _ _ hg e C hlk hrt hl hv2 g1 g2 ad H locs la ha hP hD hS hL
        · cases e
      · next x =>
        split at e
        · next ci =>
          split at e
          · next hci =>
            have hop : (len == 3 && mk_CL.contains (g, x, mj_cs_ ci)) = true := hop
            rw [Bool.and_eq_true] at hop
            have hn : len = 3 := beq_iff_eq.mp hop.1
            have ho := hop.2
            clear hop
            subst hn
            have mo := mono _ _ _ _ _ _ e
            exact nk_new C hci hd ho ⟨by show _ ≤ hf.length - h0; omega, by show _ ≤ mk_sz hf - sz0; omega⟩ (ih _ _ _ _ _ _ hg e C hlk hrt)
          · cases e
        · cases e
      · have hn : len = 2 := beq_iff_eq.mp hop
        subst hn
        split at e
        · next x st =>
          split at e
          · next hx =>
            have mo := mono _ _ _ _ _ _ e
            exact nk_newa C hd hx ⟨by show _ ≤ hf.length - h0; omega, by show _ ≤ mk_sz hf - sz0; omega⟩ (ih _ _ _ _ _ _ hg e C hlk hrt)
          · cases e
        · cases e
      · next x =>
        have hop : (len == 4 && mk_CL.contains (g, x, "[[I")) = true := hop
        rw [Bool.and_eq_true] at hop
        have hn : len = 4 := beq_iff_eq.mp hop.1
        have ho := hop.2
        clear hop
        subst hn
        split at e
        · next k z st =>
          split at e
          · next hx =>
            have mo := mono _ _ _ _ _ _ e
            exact nk_mna C hd ho hx rfl ⟨by show _ ≤ hf.length - h0; omega, by show _ ≤ mk_sz hf - sz0; omega⟩ (ih _ _ _ _ _ _ hg e C hlk hrt)
          · cases e
        · cases e
      · next x =>
        have hop : (len == 3 && mk_CL.contains (g, x, "CloudStrings$Sheet")) = true := hop
        rw [Bool.and_eq_true] at hop
        have hn : len = 3 := beq_iff_eq.mp hop.1
        have ho := hop.2
        clear hop
        subst hn
        split at e
        · next y st =>
          split at e
          · next hx =>
            have mo := mono _ _ _ _ _ _ e
            exact nk_newq C hd ho hx ⟨by show _ ≤ hf.length - h0; omega, by show _ ≤ mk_sz hf - sz0; omega⟩ (ih _ _ _ _ _ _ hg e C hlk hrt)
          · cases e
        · cases e
      · next x =>
        split at e
        · next v r st ci k =>
          split at e
          · next hc =>
            have hop : (len == 3 && mk_FL.contains (g, x, ci, k) && mj_cs_ ci == mj_cs_ g && Nat.blt k (mj_cl.getD ci ("", mj_T0, 0)).2.2) = true := hop
            rw [Bool.and_eq_true, Bool.and_eq_true, Bool.and_eq_true] at hop
            obtain ⟨⟨⟨o1, o2⟩, o3⟩, o4⟩ := hop
            have hn : len = 3 := beq_iff_eq.mp o1
            subst hn
            have o5 := mj_blt o4
            have hci : ci < 8 := by
              rcases Nat.lt_or_ge ci 8 with z | z
              · exact z
              · rw [List.getD_eq_getElem?_getD, List.getElem?_eq_none (by show 8 ≤ ci; omega)] at o5
                exact absurd o5 (Nat.not_lt_zero k)
            exact nk_put C hd o2 (beq_iff_eq.mp o3) o5 hci hc (ih _ _ _ _ _ _ hg e C hlk hrt)
          · cases e
        · cases e
      · next x =>
        split at e
        · next r st ci k =>
          split at e
          · next hc =>
            split at e
            · next z hz =>
              have hop : (len == 3 && mk_FL.contains (g, x, ci, k) && Nat.blt k (mj_cl.getD ci ("", mj_T0, 0)).2.2) = true := hop
              rw [Bool.and_eq_true, Bool.and_eq_true] at hop
              obtain ⟨⟨o1, o2⟩, o4⟩ := hop
              have hn : len = 3 := beq_iff_eq.mp o1
              subst hn
              have o5 := mj_blt o4
              have hci : ci < 8 := by
                rcases Nat.lt_or_ge ci 8 with z | z
                · exact z
                · rw [List.getD_eq_getElem?_getD, List.getElem?_eq_none (by show 8 ≤ ci; omega)] at o5
                  exact absurd o5 (Nat.not_lt_zero k)
              exact nk_get C hd o2 o5 hci hc hz (ih _ _ _ _ _ _ hg e C hlk hrt)
            · cases e
          · cases e
        · cases e
      · have hn : len = 1 := beq_iff_eq.mp hop
        subst hn
        split at e
        · next v j r st =>
          split at e
          · next hc => exact nk_aast C hd hc (ih _ _ _ _ _ _ hg e C hlk hrt)
          · cases e
        · cases e
      · have hn : len = 1 := beq_iff_eq.mp hop
        subst hn
        split at e
        · next v j r st =>
          split at e
          · next hc => exact nk_iast C hd hc (ih _ _ _ _ _ _ hg e C hlk hrt)
          · cases e
        · cases e
      · next x =>
        split at e
        · next r st =>
          split at e
          · next hc =>
            have hop : (len == 3 && mk_OL.contains (g, x)) = true := hop
            rw [Bool.and_eq_true] at hop
            have hn : len = 3 := beq_iff_eq.mp hop.1
            have ho := hop.2
            clear hop
            subst hn
            intro hl hv g1 g2 ad H locs la ha hP hD hS hL
            have hdp : 1 ≤ mk_dp g := by
              rcases (by omega : g = 0 ∨ g = 1 ∨ g = 2 ∨ g = 3 ∨ g = 4 ∨ g = 5 ∨ g = 6 ∨ g = 7) with rfl | rfl | rfl | rfl | rfl | rfl | rfl | rfl <;> decide
            refine W.objInit C.1 C.2.1 C.2.2.2.1 (C.2.2.2.2.1 _ (mk_OL_ok _ (List.mem_map.mpr ⟨_, List.contains_iff_mem.mp ho, rfl⟩))) (C.2.2.2.2.1 _ (mk_OB_ok _ (by simp))) (C.2.2.2.2.1 _ mk_OC_ok) rfl (by rw [C.2.2.1]; exact hL.1) rfl hd hdp (by show 2 * 0 + ((st.map (mk_rv ad)).map fun v => v.category).sum + 12 ≤ 30 * mk_dp g; rw [mk_cat_sum]; omega) ?_
            exact ih _ _ _ _ _ _ hg e C hlk hrt hl ⟨⟨hv.1.1, fun k hk => hv.1.2 k (List.mem_cons_of_mem _ hk)⟩, hv.2⟩ g1 g2 ad H locs la ha hP hD hS hL
          · cases e
        · next g' r st =>
          split at e
          · next hc =>
            split at e
            · next h1 e1 =>
              have hop : (len == 3 && mk_NL.contains (g, x, g')) = true := hop
              rw [Bool.and_eq_true] at hop
              have hn : len = 3 := beq_iff_eq.mp hop.1
              have ho := hop.2
              clear hop
              subst hn
              have mo := mono _ _ _ _ _ _ e
              intro hl hv
              have iv := inv _ _ _ _ _ _ e1 ⟨⟨fun k hk => (List.mem_cons.mp hk).elim (fun z => by cases z; exact hc.1) (fun z => by cases (List.eq_of_mem_replicate z)), fun k hk => by cases hk⟩, hv.2⟩
              exact nk_call C rfl hd ho hc.2.2.2.1 ⟨hc.1, hc.2.1, hc.2.2.1⟩ hc.2.2.2.2.1 hc.2.2.2.2.2 (fun ad => mk_met ih hc.2.2.2.1 hc.1 hv.2 e1 l D X Hb ad) iv ⟨Nat.le_refl _, Nat.le_refl _, by show _ ≤ hf.length - h0; omega, by show _ ≤ mk_sz hf - sz0; omega⟩ (ih _ _ _ _ _ _ hg e C hlk hrt) hl hv
            · cases e
          · cases e
        · cases e
      · have hn : len = 1 := beq_iff_eq.mp hop
        subst hn
        split at e
        · cases e
          exact fun hl hv g1 g2 ad H locs la ha hP hD hS hL => W.vret C.1 C.2.1 hrt (fun t ht _ => ⟨rfl, ⟨ad, ha, by rw [ht]; exact hP, hD⟩, hS.F ht⟩) (fun q hq => hS.2.2 q hq) hd hlk
        · cases e
      · cases e
