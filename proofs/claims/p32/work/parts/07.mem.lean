
theorem mj_S_tr {Hb H0 H : Heap} {locs : List Loc} (h : va_S (mj_A Hb) Hb H0 []) (g : va_S (mj_A Hb) H0 H locs) : va_S (mj_A Hb) Hb H [] :=
  ⟨Nat.le_trans h.1 g.1, fun q h1 h2 => (g.2.1 q (Nat.lt_of_lt_of_le h1 h.1) h2).trans (h.2.1 q h1 h2), fun _ h => by cases h⟩
theorem mj_obj {q : mj_Id} (hq : mj_vid q) {k : Nat} (hk : k < (mj_cl.getD (mj_ci q.2.1) ("", mj_T0, 0)).2.2) : q ∈ mj_ids ∧ mj_kind q.2.1 = 0 ∧ k < mj_nf q.2.1 := by
  rcases hq with h | rfl | rfl | rfl
  · refine ⟨h, ?_, hk⟩
    rcases (mj_kd_of h).2.1 with z | z
    · exact z
    · rw [z] at hk
      exact absurd hk (Nat.not_lt_zero k)
  · exact absurd hk (Nat.not_lt_zero k)
  · exact absurd hk (Nat.not_lt_zero k)
  · exact absurd hk (Nat.not_lt_zero k)
theorem mj_cl_at {ci : Nat} (h : ci < 8) : ∃ (Cn : String) (T : u_T) (N : Nat), mj_cl[ci]? = some (Cn, T, N) ∧ mj_TT ci = T ∧ (mj_cl.getD ci ("", mj_T0, 0)).2.2 = N ∧ mj_cs_ ci = Cn := by
  rcases (by omega : ci = 0 ∨ ci = 1 ∨ ci = 2 ∨ ci = 3 ∨ ci = 4 ∨ ci = 5 ∨ ci = 6 ∨ ci = 7) with rfl | rfl | rfl | rfl | rfl | rfl | rfl | rfl <;> exact ⟨_, _, _, rfl, rfl, rfl, rfl⟩
theorem mj_en_o {ρ : mj_Id → Nat} {X : mj_X} {M : mj_M} {q : mj_Id} (h : mj_kind q.2.1 = 0) : mj_en ρ X M q = .inr (mj_ci q.2.1, (List.range (mj_nf q.2.1)).map (mj_fv ρ M q)) := by
  unfold mj_en
  rw [if_pos h]
theorem mj_en_i {ρ : mj_Id → Nat} {X : mj_X} {M : mj_M} {q : mj_Id} (h : mj_kind q.2.1 = 1) : mj_en ρ X M q = .inl (X.1, mj_ln q, .inl (mj_rd M q)) := by
  unfold mj_en
  rw [if_neg (by rw [h]; decide), if_pos h]
theorem mj_fs_at {ρ : mj_Id → Nat} {M : mj_M} {q : mj_Id} {k : Nat} (h : k < mj_nf q.2.1) : ((List.range (mj_nf q.2.1)).map (mj_fv ρ M q))[k]? = some (mj_fv ρ M q k) := by
  rw [List.getElem?_map, List.getElem?_range h]
  rfl
theorem mj_len_of {M : mj_M} {q : mj_Id} (h : q ∈ mj_ids) : mj_len M q = mj_ln q := by
  have h1 := (mj_kd_of h).2.2.1
  unfold mj_len mj_ln
  split
  · next e => exact absurd e h1
  · rfl
theorem mj_in0 {i : Int32} : ¬ vp_in i 0 := fun h => h (Or.inr (Nat.zero_le _))
theorem mj_in_lt {i : Int32} {n : Nat} (h : vp_in i n) : i.toNatClampNeg < n := Nat.not_le.mp fun q => h (Or.inr q)
section MT
variable {p : Program} {l : Launch} {e : Env} {R : Room} {s : State} {m : MethodId} {args : Array Value} {below : List Frame} {meth : Method} {c : Code} {cells slots : Nat} {Q : State → Prop}
variable {cc : ByteArray} {nL o : Nat} {lp : List Nat} {D : va_G} {X : mj_X} {ρ : mj_Id → Nat} {Hb : Heap} {L : Nat} {xs : Nat → Int32} {pc : Nat} {ls : mj_L} {r : List mj_V} {M : mj_M}

theorem ms_getn (C : mj_CX p s m args c cc nL o D X ρ Hb L xs) {x k : Nat} {q : mj_Id} {t : Nat × Nat × Nat × Nat} (hd : decode cc pc = .ok (.getfield x, 3)) (hf : mj_FL.contains (o, x, mj_ci q.2.1, k) = true) (hk : k < (mj_cl.getD (mj_ci q.2.1) ("", mj_T0, 0)).2.2) (hv : mj_fd q k = some (.inl t))
    (kk : mj_GG p l e R s m args below meth c cells slots Q nL lp D X ρ Hb L xs (pc + 3) ls (.inl (mj_at M t) :: r) M) : mj_GG p l e R s m args below meth c cells slots Q nL lp D X ρ Hb L xs pc ls (.inr (.inr q) :: r) M := by
  intro hl hvv H locs la hP hS hL
  obtain ⟨hqi, hk0, hkn⟩ := mj_obj (hvv.2.2 q List.mem_cons_self) hk
  obtain ⟨q0, he, -⟩ := mj_ws_at (ρ := ρ) (X := X) (M := M) hqi
  obtain ⟨Cn, T, N, hc, hT, hN, -⟩ := mj_cl_at (mj_fd_of hqi hk0).1
  rw [mj_en_o hk0] at he
  have hw := mj_FL_ok _ (List.mem_map.mpr ⟨_, List.contains_iff_mem.mp hf, rfl⟩)
  have hlk := C.2.2.2.2.1 _ hw
  unfold mj_wf at hlk
  dsimp only at hlk
  rw [hT] at hlk
  exact va_get C.1 C.2.1 C.2.2.2.2.1 (mj_cl_u _ (List.mem_of_getElem? hc)) C.2.2.2.1 C.2.2.2.2.2.1.1 hP.1 q0 he hc k (hN ▸ hk) hlk (fun _ h => h) (v := .int (mj_at M t)) (by rw [mj_fs_at hkn]; unfold mj_fv; rw [hv]; rfl) hd
    (kk hl (hvv.st (fun _ h => by simp at h ⊢; simp [h])) H locs la hP hS hL)
theorem ms_getr (C : mj_CX p s m args c cc nL o D X ρ Hb L xs) {x k : Nat} {q t : mj_Id} (hd : decode cc pc = .ok (.getfield x, 3)) (hf : mj_FL.contains (o, x, mj_ci q.2.1, k) = true) (hk : k < (mj_cl.getD (mj_ci q.2.1) ("", mj_T0, 0)).2.2) (hv : mj_fd q k = some (.inr t))
    (kk : mj_GG p l e R s m args below meth c cells slots Q nL lp D X ρ Hb L xs (pc + 3) ls (.inr (.inr t) :: r) M) : mj_GG p l e R s m args below meth c cells slots Q nL lp D X ρ Hb L xs pc ls (.inr (.inr q) :: r) M := by
  intro hl hvv H locs la hP hS hL
  obtain ⟨hqi, hk0, hkn⟩ := mj_obj (hvv.2.2 q List.mem_cons_self) hk
  obtain ⟨q0, he, -⟩ := mj_ws_at (ρ := ρ) (X := X) (M := M) hqi
  obtain ⟨Cn, T, N, hc, hT, hN, -⟩ := mj_cl_at (mj_fd_of hqi hk0).1
  rw [mj_en_o hk0] at he
  have hw := mj_FL_ok _ (List.mem_map.mpr ⟨_, List.contains_iff_mem.mp hf, rfl⟩)
  have hlk := C.2.2.2.2.1 _ hw
  unfold mj_wf at hlk
  dsimp only at hlk
  rw [hT] at hlk
  have ht : mj_vid t := by
    have h := (mj_fd_of hqi hk0).2 k hkn
    rw [hv] at h
    exact Or.inl h
  exact va_get C.1 C.2.1 C.2.2.2.2.1 (mj_cl_u _ (List.mem_of_getElem? hc)) C.2.2.2.1 C.2.2.2.2.2.1.1 hP.1 q0 he hc k (hN ▸ hk) hlk (fun _ h => h) (v := .ref (ρ t)) (by rw [mj_fs_at hkn]; unfold mj_fv; rw [hv]) hd
    (kk hl (hvv.pu ht (fun v h => List.mem_cons_of_mem _ h)) H locs la hP hS hL)
theorem mj_fs_set {q : mj_Id} (hq : q ∈ mj_ids) (hk0 : mj_kind q.2.1 = 0) {k : Nat} (hkn : k < mj_nf q.2.1) {t : Nat × Nat × Nat × Nat} (hv : mj_fd q k = some (.inl t)) {v : Int32} : ((List.range (mj_nf q.2.1)).map (mj_fv ρ M q)).set k (.int v) = (List.range (mj_nf q.2.1)).map (mj_fv ρ (mj_wl M t v) q) := by
  have hf := (mj_fd_of hq hk0).2 k hkn
  rw [hv] at hf
  apply List.ext_getElem?
  intro i
  by_cases hi : i < mj_nf q.2.1
  · by_cases e : k = i
    · subst e
      rw [List.getElem?_set_self (by rw [List.length_map, List.length_range]; exact hkn), mj_fs_at hkn]
      unfold mj_fv
      rw [hv]
      have := mj_at_wl (M := M) (l := t) (l' := t) (v := v)
      rw [if_pos rfl] at this
      exact congrArg (fun z => some (Value.int z)) this.symm
    · rw [List.getElem?_set_ne e, mj_fs_at hi, mj_fs_at hi]
      unfold mj_fv
      cases hfi : mj_fd q i with
      | none => rfl
      | some x =>
        cases x with
        | inr q' => rfl
        | inl t' =>
          have hne := hf.2 i hi (fun z => e z.symm) t' hfi
          have := mj_at_wl (M := M) (l := t) (l' := t') (v := v)
          rw [if_neg (fun z => hne z.symm)] at this
          exact congrArg (fun z => some (Value.int z)) this.symm
  · have e1 : (((List.range (mj_nf q.2.1)).map (mj_fv ρ M q)).set k (.int v))[i]? = none := List.getElem?_eq_none (by rw [List.length_set, List.length_map, List.length_range]; omega)
    have e2 : ((List.range (mj_nf q.2.1)).map (mj_fv ρ (mj_wl M t v) q))[i]? = none := List.getElem?_eq_none (by rw [List.length_map, List.length_range]; omega)
    rw [e1, e2]
/-- a store to a place of a cell leaves the other cells -/
theorem mj_wl_others {q : mj_Id} (hq : q ∈ mj_ids) {t : Nat × Nat × Nat × Nat} (ht : t ∈ mj_lo q) {v : Int32} : ∀ p ∈ mj_ids, p ≠ q → ∀ t' ∈ mj_lo p, mj_at M t' = mj_at (mj_wl M t v) t' := by
  intro p hp hne t' ht'
  rw [mj_at_wl, if_neg]
  intro e
  subst e
  exact hne ((mj_own_lo hp ht').1.symm.trans (mj_own_lo hq ht).1)
theorem ms_put (C : mj_CX p s m args c cc nL o D X ρ Hb L xs) {x k b : Nat} {q : mj_Id} {t : Nat × Nat × Nat × Nat} {v : Int32} (hd : decode cc pc = .ok (.putfield x, 3)) (hf : mj_FL.contains (o, x, mj_ci q.2.1, k) = true) (hk : k < (mj_cl.getD (mj_ci q.2.1) ("", mj_T0, 0)).2.2) (hfin : (mj_TT (mj_ci q.2.1) k).2.2.2 = false)
    (hty : parseFieldDescriptor (mj_TT (mj_ci q.2.1) k).2.2.1 = some (if b = 1 then .boolean else .int)) (hb : b = 1 → v = 0 ∨ v = 1) (hv : mj_fd q k = some (.inl t)) (kk : mj_GG p l e R s m args below meth c cells slots Q nL lp D X ρ Hb L xs (pc + 3) ls r (mj_wl M t v)) : mj_GG p l e R s m args below meth c cells slots Q nL lp D X ρ Hb L xs pc ls (.inl v :: .inr (.inr q) :: r) M := by
  intro hl hvv H locs la hP hS hL
  obtain ⟨hqi, hk0, hkn⟩ := mj_obj (hvv.2.2 q (by simp)) hk
  obtain ⟨q0, he, hq0⟩ := mj_ws_at (ρ := ρ) (X := X) (M := M) hqi
  obtain ⟨Cn, T, N, hc, hT, hN, -⟩ := mj_cl_at (mj_fd_of hqi hk0).1
  have he0 := he
  rw [mj_en_o hk0] at he
  have hw := mj_FL_ok _ (List.mem_map.mpr ⟨_, List.contains_iff_mem.mp hf, rfl⟩)
  have hlk := C.2.2.2.2.1 _ hw
  unfold mj_wf at hlk
  dsimp only at hlk
  rw [hT] at hlk hfin hty
  have hft := (mj_fd_of hqi hk0).2 k hkn
  rw [hv] at hft
  have hnf : narrow (if b = 1 then FieldType.boolean else .int) (.int v) = .int v ∧ fits (if b = 1 then FieldType.boolean else .int) (.int v) = true := by
    by_cases e : b = 1
    · rw [if_pos e]
      rcases hb e with rfl | rfl <;> exact ⟨rfl, rfl⟩
    · rw [if_neg e]
      exact ⟨rfl, rfl⟩
  refine va_put C.1 C.2.1 C.2.2.2.2.1 (mj_cl_u _ (List.mem_of_getElem? hc)) (fun j => (parseFieldDescriptor (T j).2.2.1).getD .int) (mj_cl_t _ (List.mem_of_getElem? hc)) (mj_cl_n _ (List.mem_of_getElem? hc)) C.2.2.2.1 C.2.2.2.2.2.1.1 hP.1 (C.2.2.2.2.2.2.1.ws X M) hS q0 he hc k (hN ▸ hk) hlk (fun _ h => h) hfin hty hnf.1 hnf.2 (by rw [List.length_map, List.length_range]; exact hkn) hd (fun H1 locs1 hP1 _ hS1 => ?_)
  refine kk hl (hvv.st (fun q h => by simp [h])) H1 locs1 la ⟨?_, mj_S_tr C.2.2.2.2.2.2.2 hS1, mj_cM_wl (mj_own_lo hqi hft.1).2.1 hP.2.2⟩ hS1 hL
  refine mj_P_set hq0 hP1 (fun h => ?_) (mj_wl_others hqi hft.1)
  rw [mj_en_o hk0, ← mj_fs_set hqi hk0 hkn hv]
  exact h
theorem mj_T_at {a N : Nat} {f : Nat → Value} {U : State} {H : Heap} (h : va_T .int a N f (mj_A Hb) U Hb) (hS : va_S (mj_A Hb) Hb H []) : ∃ cell : Cell, H[a]? = some cell ∧ U.isArrayOf cell .int ∧ cell.vm ≠ .unknown ∧ N ≤ cell.slots.size ∧ cell.slots.size.toInt32 = Int32.ofNat N ∧ (∀ j : Nat, j < N → cell.slots[j]? = some (f j)) := by
  obtain ⟨cell, h1, h2, h3, h4, h5, h6, h7⟩ := h
  exact ⟨cell, by rw [hS.2.1 a (Array.getElem?_eq_some_iff.mp h1).1 h7]; exact h1, h2, h3, h4, h5, h6⟩
theorem ms_iald (C : mj_CX p s m args c cc nL o D X ρ Hb L xs) {q : mj_Id} {j : Int32} (hd : decode cc pc = .ok (.iaload, 1)) (hin : vp_in j (mj_len M q)) (kk : mj_GG p l e R s m args below meth c cells slots Q nL lp D X ρ Hb L xs (pc + 1) ls (.inl (mj_rd M q j.toNatClampNeg) :: r) M) : mj_GG p l e R s m args below meth c cells slots Q nL lp D X ρ Hb L xs pc ls (.inl j :: .inr (.inr q) :: r) M := by
  intro hl hvv H locs la hP hS hL
  have K := kk hl (hvv.st (fun _ h => by simp at h ⊢; simp [h])) H locs la hP hS hL
  have stat : ∀ {a : Nat} {f : Nat → Int32}, va_T .int a 4 (fun i => .int (f i)) (mj_A Hb) s Hb → vp_in j 4 → f j.toNatClampNeg = mj_rd M q j.toNatClampNeg → ρ q = a → W p l e R s m args below meth c H locs cells slots Q (F0 m pc la (.int j :: .ref (ρ q) :: r.map (mj_rv ρ))) := by
    intro a f hT hj hf ha
    subst ha
    obtain ⟨cell, g1, g2, g3, g4, g5, g6⟩ := mj_T_at hT hP.2.1
    refine W.iald (v := .int (mj_rd M q j.toNatClampNeg)) C.1 C.2.1 g1 g2 g3 (fun z => hj (z.imp id (fun z => Nat.le_trans g4 z))) (by rw [g6 _ (mj_in_lt hj), hf]) rfl rfl hd K
  rcases hvv.2.2 q (by simp) with h | rfl | rfl | rfl
  · rw [mj_len_of h] at hin
    rcases (mj_kd_of h).1 with hk | hk
    · obtain ⟨q0, he, -⟩ := mj_ws_at (ρ := ρ) (X := X) (M := M) h
      rw [mj_en_i hk] at he
      exact va_iald C.1 C.2.1 C.2.2.2.2.2.1.1 hP.1 q0 0 he rfl hin hd K
    · rw [hk] at hin
      exact absurd hin mj_in0
  · exact stat C.2.2.2.2.2.1.2.2.2.1 hin (hP.2.2.1 _ (mj_in_lt hin)).symm rfl
  · exact stat C.2.2.2.2.2.1.2.2.2.2.1 hin (hP.2.2.2.1 _ (mj_in_lt hin)).symm rfl
  · have hin : vp_in j L := hP.2.2.2.2.1 ▸ hin
    obtain ⟨scr, g1, g2, g3, g4, g5⟩ := C.2.2.2.2.2.1.2.2.2.2.2.1
    have K : W p l e R s m args below meth c H locs cells slots Q (F0 m (pc + 1) la (.int (M 41 82 0 j.toNatClampNeg) :: r.map (mj_rv ρ))) := K
    rw [hP.2.2.2.2.2 _ (mj_in_lt hin)] at K
    have hX : va_X (ρ (41, 82, 0)) L xs s Hb := ⟨scr, g1, g2, g3, g4, g5⟩
    have hlt : ρ (41, 82, 0) < Hb.size := (Array.getElem?_eq_some_iff.mp g1).1
    exact va_sld C.1 C.2.1 (A := mj_A Hb) hX hlt (fun z => absurd hlt (Nat.not_lt.mpr z)) ⟨hP.2.1.1, hP.2.1.2.1, hS.2.2⟩ hin hd K
theorem mj_ari {q : mj_Id} (h : mj_vid q) (ht : q.2.1 < 80) : q ∈ mj_ids := by
  rcases h with h | rfl | rfl | rfl
  · exact h
  · exact absurd ht (by decide)
  · exact absurd ht (by decide)
  · exact absurd ht (by decide)
theorem ms_iast (C : mj_CX p s m args c cc nL o D X ρ Hb L xs) {q : mj_Id} {j v : Int32} (hd : decode cc pc = .ok (.iastore, 1)) (ht : q.2.1 < 80) (hin : vp_in j (mj_len M q)) (kk : mj_GG p l e R s m args below meth c cells slots Q nL lp D X ρ Hb L xs (pc + 1) ls r (mj_wr M q j.toNatClampNeg v)) : mj_GG p l e R s m args below meth c cells slots Q nL lp D X ρ Hb L xs pc ls (.inl v :: .inl j :: .inr (.inr q) :: r) M := by
  intro hl hvv H locs la hP hS hL
  have h := mj_ari (hvv.2.2 q (by simp)) ht
  rw [mj_len_of h] at hin
  rcases (mj_kd_of h).1 with hk | hk
  · obtain ⟨q0, he, hq0⟩ := mj_ws_at (ρ := ρ) (X := X) (M := M) h
    rw [mj_en_i hk] at he
    refine va_iast C.1 C.2.1 C.2.2.2.2.2.1.1 hP.1 (C.2.2.2.2.2.2.1.ws X M) hS q0 0 he rfl hin hd (fun H1 locs1 hP1 _ hS1 => ?_)
    have hlo := mj_aloc_lo hk (mj_in_lt hin)
    refine kk hl (hvv.st (fun q h => by simp [h])) H1 locs1 la ⟨?_, mj_S_tr C.2.2.2.2.2.2.2 hS1, mj_cM_wl (mj_own_lo h hlo).2.1 hP.2.2⟩ hS1 hL
    refine mj_P_set hq0 hP1 (fun hv => ?_) (mj_wl_others h hlo)
    rw [mj_en_i hk]
    have hv : H1[ρ q]? = some (vp_cell X.1 (mj_ln q, .inl (upd (mj_rd M q) j.toNatClampNeg v))) := hv
    show H1[ρ q]? = some (vp_cell X.1 (mj_ln q, .inl (mj_rd (mj_wr M q j.toNatClampNeg v) q)))
    rw [hv, vp_cell_i, vp_cell_i]
    refine congrArg some (mj_arrV_congr fun i hi => congrArg Value.int ?_)
    have e := mj_at_wl (M := M) (l := mj_aloc q j.toNatClampNeg) (l' := mj_aloc q i) (v := v)
    unfold upd
    by_cases ei : i = j.toNatClampNeg
    · rw [if_pos ei]
      rw [if_pos (by rw [ei])] at e
      exact e.symm
    · rw [if_neg ei]
      rw [if_neg (fun z => ei (mj_aloc_inj h hk hi (mj_in_lt hin) z))] at e
      exact e.symm
  · rw [hk] at hin
    exact absurd hin mj_in0
theorem ms_aald (C : mj_CX p s m args c cc nL o D X ρ Hb L xs) {q q' : mj_Id} {j : Int32} (hd : decode cc pc = .ok (.aaload, 1)) (hin : vp_in j (mj_ol q)) (hv : mj_el q j.toNatClampNeg = some q') (kk : mj_GG p l e R s m args below meth c cells slots Q nL lp D X ρ Hb L xs (pc + 1) ls (.inr (.inr q') :: r) M) : mj_GG p l e R s m args below meth c cells slots Q nL lp D X ρ Hb L xs pc ls (.inl j :: .inr (.inr q) :: r) M := by
  intro hl hvv H locs la hP hS hL
  rcases hvv.2.2 q (by simp) with h | rfl | rfl | rfl
  · obtain ⟨h1, h2⟩ := mj_el_of h
    obtain ⟨z, hz, hzi⟩ := h2 _ (mj_in_lt hin)
    rw [hv] at hz
    cases hz
    have K := kk hl (hvv.pu (Or.inl hzi) (fun v h => by simp [h])) H locs la hP hS hL
    have e1 : va_rf ((fun i => if i < mj_ol q then (mj_el q i).map ρ else none) j.toNatClampNeg) = .ref (ρ q') := by
      dsimp only
      rw [if_pos (mj_in_lt hin), hv]
      rfl
    have go : ∀ {cA : ClassId} {ty : FieldType}, ty.isReference = true → ArrOfT s cA ty → H[ρ q]? = some (vp_cell cA (mj_ol q, .inr (.inr (.inr (.inr (fun i => if i < mj_ol q then (mj_el q i).map ρ else none)))))) → W p l e R s m args below meth c H locs cells slots Q (F0 m pc la (.int j :: .ref (ρ q) :: r.map (mj_rv ρ))) := by
      intro cA ty hty hA hcell
      refine W.aald (v := .ref (ρ q')) (ty := ty) C.1 C.2.1 hcell (hA _ _) hty (fun z => by cases z) (by show ¬ (j < 0 ∨ (arrV _ _ _).slots.size ≤ _); rw [arrV_size]; exact hin) (by show (arrV _ _ _).slots[_]? = _; rw [arrV_read _ _ (mj_in_lt hin)]; exact congrArg some e1) rfl rfl hd K
    obtain ⟨q0, he, -⟩ := mj_ws_at (ρ := ρ) (X := X) (M := M) h
    have hc := hP.1 q0 _ he
    rcases h1 with hk | hk | hk
    · have ee : mj_en ρ X M q = .inl (X.2.1, mj_ol q, .inr (.inr (.inr (.inr (fun i => if i < mj_ol q then (mj_el q i).map ρ else none))))) := by
        unfold mj_en
        rw [if_neg (by rw [hk]; decide), if_neg (by rw [hk]; decide), if_pos hk]
      rw [ee] at hc
      exact go (ty := .array .int) rfl (C.2.2.2.2.2.1.1.2 1 _ rfl).1 hc
    · have ee : mj_en ρ X M q = .inl (X.2.2, mj_ol q, .inr (.inr (.inr (.inr (fun i => if i < mj_ol q then (mj_el q i).map ρ else none))))) := by
        unfold mj_en
        rw [if_neg (by rw [hk]; decide), if_neg (by rw [hk]; decide), if_neg (by rw [hk]; decide)]
      rw [ee] at hc
      exact go (ty := .object "CloudStrings$Sheet") rfl (C.2.2.2.2.2.1.1.2 2 _ rfl).1 hc
    · rw [hk] at hin
      exact absurd hin mj_in0
  · exact absurd hin mj_in0
  · exact absurd hin mj_in0
  · exact absurd hin mj_in0
theorem ms_alen (C : mj_CX p s m args c cc nL o D X ρ Hb L xs) {q : mj_Id} (hd : decode cc pc = .ok (.arraylength, 1)) (ha : mj_ia q.2.1 = true) (kk : mj_GG p l e R s m args below meth c cells slots Q nL lp D X ρ Hb L xs (pc + 1) ls (.inl (nI (mj_len M q)) :: r) M) : mj_GG p l e R s m args below meth c cells slots Q nL lp D X ρ Hb L xs pc ls (.inr (.inr q) :: r) M := by
  intro hl hvv H locs la hP hS hL
  have K := kk hl (hvv.st (fun _ h => by simp at h ⊢; simp [h])) H locs la hP hS hL
  rcases hvv.2.2 q (by simp) with h | rfl | rfl | rfl
  · have hk := (mj_kd_of h).2.2.2.2.2.2 ha
    obtain ⟨q0, he, -⟩ := mj_ws_at (ρ := ρ) (X := X) (M := M) h
    rw [mj_en_i hk] at he
    rw [mj_len_of h] at K
    exact va_alen C.1 C.2.1 C.2.2.2.2.2.1.1 hP.1 q0 0 he (ty := .int) rfl rfl hd K
  · exact absurd ha (by decide)
  · exact absurd ha (by decide)
  · obtain ⟨scr, g1, g2, g3, g4, g5⟩ := C.2.2.2.2.2.1.2.2.2.2.2.1
    have hX : va_X (ρ (41, 82, 0)) L xs s Hb := ⟨scr, g1, g2, g3, g4, g5⟩
    have hlt : ρ (41, 82, 0) < Hb.size := (Array.getElem?_eq_some_iff.mp g1).1
    have hK : W p l e R s m args below meth c H locs cells slots Q (F0 m (pc + 1) la (.int (nI (M 41 83 0 0).toNatClampNeg) :: r.map (mj_rv ρ))) := K
    rw [hP.2.2.2.2.1] at hK
    exact va_slen C.1 C.2.1 (A := mj_A Hb) hX hlt (fun z => absurd hlt (Nat.not_lt.mpr z)) ⟨hP.2.1.1, hP.2.1.2.1, hS.2.2⟩ hd hK
theorem ms_gets (C : mj_CX p s m args c cc nL o D X ρ Hb L xs) {x t : Nat} (hd : decode cc pc = .ok (.getstatic x, 3)) (ho : o = 1) (hx : (x = 109 ∧ t = 80) ∨ (x = 128 ∧ t = 81)) (kk : mj_GG p l e R s m args below meth c cells slots Q nL lp D X ρ Hb L xs (pc + 3) ls (.inr (.inr (40, t, 0)) :: r) M) : mj_GG p l e R s m args below meth c cells slots Q nL lp D X ρ Hb L xs pc ls r M := by
  intro hl hvv H locs la hP hS hL
  have hid : mj_vid (40, t, 0) := by
    rcases hx with ⟨-, rfl⟩ | ⟨-, rfl⟩
    · exact Or.inr (Or.inl rfl)
    · exact Or.inr (Or.inr (Or.inl rfl))
  have K := kk hl (hvv.pu hid (fun v h => h)) H locs la hP hS hL
  subst ho
  have hk : ∀ a : Nat, a < Hb.size → ¬ mj_A Hb a → s.heap[a]? = Hb[a]? := C.2.2.2.2.2.2.2.2.1
  rcases hx with ⟨rfl, rfl⟩ | ⟨rfl, rfl⟩
  · exact va_getsN C.1 C.2.1 (C.2.2.2.2.2.1.2.1.kept hk) hS C.2.2.2.1 (va_Nw.use rfl C.2.2.2.2.2.1.2.2.2.2.2.2.2.1) (fun _ h => h) hd K
  · exact va_getsN C.1 C.2.1 (C.2.2.2.2.2.1.2.2.1.kept hk) hS C.2.2.2.1 (va_Nw.use rfl C.2.2.2.2.2.1.2.2.2.2.2.2.2.2) (fun _ h => h) hd K
theorem ms_ldc (C : mj_CX p s m args c cc nL o D X ρ Hb L xs) {x : Nat} {v : Int32} (hd : decode cc pc = .ok (.ldc x, 2)) (hw : Cond.constant (mj_cs_ o) x v ∈ mj_WA) (kk : mj_GG p l e R s m args below meth c cells slots Q nL lp D X ρ Hb L xs (pc + 2) ls (.inl v :: r) M) : mj_GG p l e R s m args below meth c cells slots Q nL lp D X ρ Hb L xs pc ls r M :=
  fun hl hv H locs la hP hS hL => lv_ldc C.1 C.2.1 C.2.2.2.1 (C.2.2.2.2.1 _ hw) hd (kk hl (hv.st (by simp)) H locs la hP hS hL)
theorem ms_ldc2 (C : mj_CX p s m args c cc nL o D X ρ Hb L xs) {x : Nat} {v : Int64} (hd : decode cc pc = .ok (.ldc2_w x, 3)) (hw : Cond.constantLong (mj_cs_ o) x v ∈ mj_WA) (kk : mj_GG p l e R s m args below meth c cells slots Q nL lp D X ρ Hb L xs (pc + 3) ls (.inr (.inl v) :: r) M) : mj_GG p l e R s m args below meth c cells slots Q nL lp D X ρ Hb L xs pc ls r M :=
  fun hl hv H locs la hP hS hL => lv_ldc2 C.1 C.2.1 C.2.2.2.1 (C.2.2.2.2.1 _ hw) hd (kk hl (hv.st (by simp)) H locs la hP hS hL)
theorem mj_cat_eq : (r.map (mj_rv ρ)).map (fun v => v.category) = r.map (fun v => match v with | .inr (.inl _) => 2 | _ => 1) := by
  rw [List.map_map]
  apply List.map_congr_left
  intro v _
  rcases v with x | w | q <;> rfl
theorem mj_cat_sum : ((r.map (mj_rv ρ)).map fun v => v.category).sum = mj_cat r := by
  rw [mj_cat_eq]
  induction r with
  | nil => rfl
  | cons v r ih =>
    rw [List.map_cons, List.sum_cons, ih]
    rcases v with x | w | q <;> rfl
theorem mj_wA {w : Cond} (C : mj_CX p s m args c cc nL o D X ρ Hb L xs) (h : w ∈ mj_WA) : w.before args s = true := C.2.2.2.2.1 w h
theorem ms_max (C : mj_CX p s m args c cc nL o D X ρ Hb L xs) {i : Nat} {x y : Int32} (hd : decode cc pc = .ok (.invokestatic i, 3)) (hj : mj_JL.contains (o, i, true) = true) (hcat : mj_cat r ≤ 8) (hR : 1 ≤ R.frames ∧ 30 ≤ R.locals) (hcs : cells ≤ R.cells ∧ slots ≤ R.slots) (kk : mj_GG p l e R s m args below meth c cells slots Q nL lp D X ρ Hb L xs (pc + 3) ls (.inl (if x < y then y else x) :: r) M) : mj_GG p l e R s m args below meth c cells slots Q nL lp D X ρ Hb L xs pc ls (.inl y :: .inl x :: r) M :=
  fun hl hv H locs la hP hS hL => va_mmax C.1 C.2.1 (C.2.2.1.trans hL.1.symm) C.2.2.2.1 (mj_wA C (mj_JL_ok _ (List.mem_map.mpr ⟨_, List.contains_iff_mem.mp hj, rfl⟩))) (mj_wA C (mj_JC_ok _ (by simp))) (mj_wA C (mj_JC_ok _ (by simp))) (mj_wA C (mj_JC_ok _ (by simp))) hR.1 (by rw [mj_cat_sum]; omega) hcs.1 hcs.2 hd (kk hl (hv.st (by simp)) H locs la hP hS hL)
theorem ms_min (C : mj_CX p s m args c cc nL o D X ρ Hb L xs) {i : Nat} {x y : Int32} (hd : decode cc pc = .ok (.invokestatic i, 3)) (hj : mj_JL.contains (o, i, false) = true) (hcat : mj_cat r ≤ 8) (hR : 1 ≤ R.frames ∧ 30 ≤ R.locals) (hcs : cells ≤ R.cells ∧ slots ≤ R.slots) (kk : mj_GG p l e R s m args below meth c cells slots Q nL lp D X ρ Hb L xs (pc + 3) ls (.inl (if y < x then y else x) :: r) M) : mj_GG p l e R s m args below meth c cells slots Q nL lp D X ρ Hb L xs pc ls (.inl y :: .inl x :: r) M :=
  fun hl hv H locs la hP hS hL => va_mmin C.1 C.2.1 (C.2.2.1.trans hL.1.symm) C.2.2.2.1 (mj_wA C (mj_JL_ok _ (List.mem_map.mpr ⟨_, List.contains_iff_mem.mp hj, rfl⟩))) (mj_wA C (mj_JC_ok _ (by simp))) (mj_wA C (mj_JC_ok _ (by simp))) (mj_wA C (mj_JC_ok _ (by simp))) hR.1 (by rw [mj_cat_sum]; omega) hcs.1 hcs.2 hd (kk hl (hv.st (by simp)) H locs la hP hS hL)
end MT
