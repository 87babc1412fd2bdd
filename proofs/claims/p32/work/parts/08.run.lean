
def mj_rm (d : Nat) : Room := { frames := d, cells := 0, slots := 0, locals := 30 * d }
def mj_wsf (g : Nat) : List Cond := mj_wc (mj_m g) :: mj_WA
theorem mj_m_in {g : Nat} (h : g < mj_mt.length) : mj_m g ∈ mj_mt := by
  unfold mj_m
  rw [List.getD_eq_getElem?_getD, List.getElem?_eq_getElem h]
  exact List.getElem_mem h
theorem mj_gc {g : Nat} (h : g < mj_mt.length) : mj_wc (mj_m g) ∈ mj_WA := mj_mt_c _ (mj_m_in h)
theorem mj_gi {g : Nat} (h : g < mj_mt.length) : mj_wi (mj_m g) ∈ mj_WA := mj_mt_i _ (List.mem_map.mpr ⟨_, mj_m_in h, rfl⟩)
theorem mj_gv {g : Nat} (h : g < mj_mt.length) : mj_wv (mj_m g) ∈ mj_WA := mj_mt_v _ (List.mem_map.mpr ⟨_, mj_m_in h, rfl⟩)
theorem mj_gn {g : Nat} (h : g < mj_mt.length) : Cond.initialized (mj_y g).cls ∈ mj_WA := mj_mt_n _ (List.mem_map.mpr ⟨_, mj_m_in h, rfl⟩)
theorem mj_gp {g : Nat} (h : g < mj_mt.length) : (parseMethodDescriptor (mj_y g).desc).map (fun d => d.parameters.length) = some (mj_np.getD g 0) := by
  have h1 := congrArg (fun z => z[g]?) mj_mt_p
  simp only [List.getElem?_map] at h1
  rw [List.getElem?_eq_getElem h] at h1
  have hl : mj_mt.length = mj_np.length := by
    have := congrArg List.length mj_mt_p
    simpa using this
  rw [List.getElem?_eq_getElem (hl ▸ h)] at h1
  have h2 : (parseMethodDescriptor (mj_mt[g]'h).2.2.1).map (fun d => d.parameters.length) = some (mj_np[g]'(hl ▸ h)) := Option.some.inj h1
  have e1 : mj_m g = mj_mt[g]'h := by
    unfold mj_m
    rw [List.getD_eq_getElem?_getD, List.getElem?_eq_getElem h]
    rfl
  have e2 : mj_np.getD g 0 = mj_np[g]'(hl ▸ h) := by
    rw [List.getD_eq_getElem?_getD, List.getElem?_eq_getElem (hl ▸ h)]
    rfl
  rw [e2, ← h2]
  unfold mj_y mj_yy
  rw [e1]
theorem mj_gd {g : Nat} (h : g < mj_mt.length) : plainName (mj_y g).cls = true ∧ (mj_y g).cls ≠ "java/lang/invoke/MethodHandle" ∧ (mj_y g).cls ≠ "java/lang/invoke/VarHandle" := by
  have h1 := List.all_eq_true.mp mj_mt_d _ (mj_m_in h)
  simp only [Bool.and_eq_true, decide_eq_true_eq] at h1
  exact ⟨h1.1.1, h1.1.2, h1.2⟩
theorem mj_gx : mj_mt.all (fun x => Nat.ble x.2.2.2.2.1 11) = true := by decide +kernel
theorem mj_gm {g : Nat} (h : g < mj_mt.length) : mj_mx g ≤ 11 := Nat.le_of_ble_eq_true (List.all_eq_true.mp mj_gx _ (mj_m_in h))
theorem mj_good : ∀ w ∈ mj_WA, w ∈ mj_WA ∧ ((w.onTables && w.keeps) = true ∨ ∃ ty, w = .arrayClass ty) := fun w h => ⟨h, good_of_word (List.mem_filter.mp h).2⟩
theorem mj_goodL {ws : List Cond} (h : ∀ w ∈ ws, w ∈ mj_WA) : GoodIn mj_WA ws := fun w hw => mj_good w (h w hw)
theorem mj_goodG {g : Nat} (h : g < mj_mt.length) : GoodIn mj_WA (mj_wsf g) := mj_goodL (fun w hw => (List.mem_cons.mp hw).elim (fun e => e ▸ mj_gc h) id)
/-- a method's contract: with these arguments, over this memory: it answers r and leaves N -/
def mj_Pc (D : va_G) (X : mj_X) (ρ : mj_Id → Nat) (Hb : Heap) (L : Nat) (xs : Nat → Int32) (vs : List mj_V) (M : mj_M) : Array Value → State → Prop := fun v U => v = (vs.map (mj_rv ρ)).toArray ∧ mj_P D X ρ Hb L xs M U.heap ∧ mj_K D X ρ Hb L xs U
def mj_Qc (D : va_G) (X : mj_X) (ρ : mj_Id → Nat) (Hb : Heap) (L : Nat) (xs : Nat → Int32) (r : Option mj_V) (N : mj_M) : Array Value → State → Outcome → State → Prop := fun _ st o t => o = .returned (r.map (mj_rv ρ)) ∧ mj_P D X ρ Hb L xs N t.heap ∧ va_F (mj_A Hb) st t
def mj_MT (l : Launch) (D : va_G) (X : mj_X) (ρ : mj_Id → Nat) (Hb : Heap) (L : Nat) (xs : Nat → Int32) (d g : Nat) (vs : List mj_V) (M : mj_M) (r : Option mj_V) (N : mj_M) : Prop :=
  Met l (mj_y g) (mj_wsf g) (mj_rm d) (mj_Pc D X ρ Hb L xs vs M) (mj_Qc D X ρ Hb L xs r N) 0 0 (mj_A Hb)
theorem mj_blind {D : va_G} {X : mj_X} {ρ : mj_Id → Nat} {Hb : Heap} {L : Nat} {xs : Nat → Int32} {vs : List mj_V} {M : mj_M} : FrameBlind (mj_Pc D X ρ Hb L xs vs M) := fun a U g mk q => ⟨q.1, q.2.1, mj_K.same (u := U) (U := U.calling g mk a) rfl q.2.2⟩
theorem mj_aloc_p {q : mj_Id} (h : q.2.1 < 60) (j : Nat) : mj_aloc q j = (q.1, q.2.1, q.2.2, j) := by
  unfold mj_aloc
  split
  · next e => omega
  · next e => omega
  · rfl
theorem mj_at_cp {M : mj_M} {qs qd : mj_Id} {a d n : Nat} {t : Nat × Nat × Nat × Nat} : mj_at (mj_cp M qs qd a d n) t = if t.1 = qd.1 ∧ t.2.1 = qd.2.1 ∧ t.2.2.1 = qd.2.2 ∧ d ≤ t.2.2.2 ∧ t.2.2.2 < d + n then M qs.1 qs.2.1 qs.2.2 (a + (t.2.2.2 - d)) else mj_at M t := by
  obtain ⟨i, tt, c, j⟩ := t
  unfold mj_at mj_cp mj_up
  dsimp only
  by_cases h : i = qd.1
  · subst h
    rw [if_pos rfl]
    simp only [true_and]
  · rw [if_neg h, if_neg (fun z => h z.1)]
section MU
variable {p : Program} {l : Launch} {e : Env} {R : Room} {s : State} {m : MethodId} {args : Array Value} {below : List Frame} {meth : Method} {c : Code} {cells slots : Nat} {Q : State → Prop}
variable {cc : ByteArray} {nL o : Nat} {lp : List Nat} {D : va_G} {X : mj_X} {ρ : mj_Id → Nat} {Hb : Heap} {L : Nat} {xs : Nat → Int32} {pc : Nat} {ls : mj_L} {r : List mj_V} {M : mj_M}

theorem ms_copy (C : mj_CX p s m args c cc nL o D X ρ Hb L xs) {i : Nat} {qs qd : mj_Id} {sp dp n : Int32} (hd : decode cc pc = .ok (.invokestatic i, 3)) (ha : mj_AL.contains (o, i) = true) (hcat : mj_cat r ≤ 8) (hR : 1 ≤ R.frames ∧ 30 ≤ R.locals) (hqs : qs.2.1 < 60 ∧ mj_ia qs.2.1 = true) (hqd : qd.2.1 < 60 ∧ mj_ia qd.2.1 = true) (h1 : ¬ sp < 0) (h2 : ¬ dp < 0) (h3 : ¬ n < 0)
    (h4 : sp.toNatClampNeg + n.toNatClampNeg ≤ mj_len M qs) (h5 : dp.toNatClampNeg + n.toNatClampNeg ≤ mj_len M qd) (kk : mj_GG p l e R s m args below meth c cells slots Q nL lp D X ρ Hb L xs (pc + 3) ls r (mj_cp M qs qd sp.toNatClampNeg dp.toNatClampNeg n.toNatClampNeg)) : mj_GG p l e R s m args below meth c cells slots Q nL lp D X ρ Hb L xs pc ls (.inl n :: .inl dp :: .inr (.inr qd) :: .inl sp :: .inr (.inr qs) :: r) M := by
  intro hl hvv H locs la hP hS hL
  have his := mj_ari (hvv.2.2 qs (by simp)) (by omega)
  have hid := mj_ari (hvv.2.2 qd (by simp)) (by omega)
  rw [mj_len_of his] at h4
  rw [mj_len_of hid] at h5
  have ks := (mj_kd_of his).2.2.2.2.2.2 hqs.2
  have kd := (mj_kd_of hid).2.2.2.2.2.2 hqd.2
  obtain ⟨q0, he0, -⟩ := mj_ws_at (ρ := ρ) (X := X) (M := M) his
  obtain ⟨q1, he1, hq1⟩ := mj_ws_at (ρ := ρ) (X := X) (M := M) hid
  rw [mj_en_i ks] at he0
  rw [mj_en_i kd] at he1
  have e : nativeFrameWords "java/lang/System" "arraycopy" 5 ≤ 11 := by decide +kernel
  refine va_copyi C.1 C.2.1 (C.2.2.1.trans hL.1.symm) C.2.2.2.1 (mj_wA C (mj_AL_ok _ (List.mem_map.mpr ⟨_, List.contains_iff_mem.mp ha, rfl⟩))) (mj_wA C (mj_AC_ok _ (by simp))) (mj_wA C (mj_AC_ok _ (by simp))) (mj_wA C (mj_AC_ok _ (by simp)))
    C.2.2.2.2.2.1.1 hP.1 (C.2.2.2.2.2.2.1.ws X M) hS q0 q1 0 0 he0 he1 rfl rfl rfl h1 h2 h3 h4 h5 (fun _ _ => rfl) hR.1 (by rw [mj_cat_sum (r := r)]; omega) hd (fun H1 locs1 hP1 _ hS1 => ?_)
  refine kk hl (hvv.st (fun q h => by simp [h])) H1 locs1 la ⟨?_, mj_S_tr C.2.2.2.2.2.2.2 hS1, ?_⟩ hS1 hL
  · refine mj_P_set hq1 hP1 (fun hv => ?_) (fun p hp hne t ht => ?_)
    · rw [mj_en_i kd]
      have hv : H1[ρ qd]? = some (vp_cell X.1 (mj_ln qd, .inl (va_cpy (mj_rd M qs) (mj_rd M qd) sp.toNatClampNeg dp.toNatClampNeg n.toNatClampNeg))) := hv
      show H1[ρ qd]? = some (vp_cell X.1 (mj_ln qd, .inl (mj_rd (mj_cp M qs qd sp.toNatClampNeg dp.toNatClampNeg n.toNatClampNeg) qd)))
      rw [hv, vp_cell_i, vp_cell_i]
      refine congrArg some (mj_arrV_congr fun j _ => congrArg Value.int ?_)
      have e := mj_at_cp (M := M) (qs := qs) (qd := qd) (a := sp.toNatClampNeg) (d := dp.toNatClampNeg) (n := n.toNatClampNeg) (t := mj_aloc qd j)
      rw [mj_aloc_p hqd.1] at e
      simp only [true_and] at e
      show (if dp.toNatClampNeg ≤ j ∧ j < dp.toNatClampNeg + n.toNatClampNeg then mj_rd M qs (sp.toNatClampNeg + (j - dp.toNatClampNeg)) else mj_rd M qd j) = mj_at (mj_cp M qs qd sp.toNatClampNeg dp.toNatClampNeg n.toNatClampNeg) (mj_aloc qd j)
      unfold mj_rd
      rw [mj_aloc_p hqs.1, mj_aloc_p hqd.1]
      exact e.symm
    · rw [mj_at_cp, if_neg]
      rintro ⟨e1, e2, e3, e4, e5⟩
      have e : t = mj_aloc qd t.2.2.2 := by
        rw [mj_aloc_p hqd.1, ← e1, ← e2, ← e3]
      have hin := mj_aloc_lo kd (j := t.2.2.2) (by omega)
      rw [← e] at hin
      exact hne ((mj_own_lo hp ht).1.symm.trans (mj_own_lo hid hin).1)
  · have hlt := (mj_kd_of hid).2.2.2.2.2.1
    have e : ∀ i t c j : Nat, 40 ≤ i → mj_cp M qs qd sp.toNatClampNeg dp.toNatClampNeg n.toNatClampNeg i t c j = M i t c j := fun i t c j hi => by
      unfold mj_cp mj_up
      rw [if_neg (by omega)]
    obtain ⟨a, b, c, d⟩ := hP.2.2
    exact ⟨fun j hj => (e _ _ _ _ (by omega)).trans (a j hj), fun j hj => (e _ _ _ _ (by omega)).trans (b j hj), by rw [e _ _ _ _ (by omega)]; exact c, fun j hj => (e _ _ _ _ (by omega)).trans (d j hj)⟩
/-- behind a call -/
theorem mj_run {a : Array Value} {st0 rest : List Value} {la : Array Slot} {H : Heap} {locs : List Loc} {rr : Option mj_V} {N : mj_M} (hr : va_Run p l e R s m args below meth c H locs cells slots 0 0 (F0 m pc la st0) rest (mj_Qc D X ρ Hb L xs rr N a) (mj_A Hb)) (hS : va_S (mj_A Hb) s.heap H locs)
    (kk : ∀ (H1 : Heap) (locs1 : List Loc), mj_P D X ρ Hb L xs N H1 → va_S (mj_A Hb) s.heap H1 locs1 → W p l e R s m args below meth c H1 locs1 cells slots Q (F0 m (pc + 3) la ((rr.map (mj_rv ρ)).toList ++ rest))) : W p l e R s m args below meth c H locs cells slots Q (F0 m pc la st0) := by
  intro T hT Xs
  obtain ⟨v, st₀, t, T', L1, h0, X', hL, e1, e2, ⟨hv, hp, hz⟩, st⟩ := hr T hT Xs
  have hv : v = rr.map (mj_rv ρ) := by injection hv
  subst hv
  unfold va_F at hz
  rw [h0, ← e1] at hz
  obtain ⟨t2, a1, b1⟩ := kk T'.heap (locs ++ L1) (by rw [e1]; exact hp)
    ⟨Nat.le_trans hS.1 hz.1, fun q h1 h2 => (hz.2 q (Nat.lt_of_lt_of_le h1 hS.1) h2).trans (hS.2.1 q h1 h2), fun q hq => by
      rcases List.mem_append.mp hq with h | h
      · exact hS.2.2 q h
      · exact hL q h⟩ T' rfl X'
  exact ⟨t2, st t2 a1, b1⟩
theorem ms_callV (C : mj_CX p s m args c cc nL o D X ρ Hb L xs) {i g dd : Nat} {q : mj_Id} {As : List mj_V} {rr : Option mj_V} {N : mj_M} (hd : decode cc pc = .ok (.invokevirtual i, 3)) (hg : g < mj_mt.length) (hm : mj_ML.contains (o, i, g) = true) (hst : mj_stc g = false) (hn : As.length = mj_np.getD g 0) (hq : mj_ci q.2.1 = (mj_m g).1) (hqi : q ∈ mj_ids) (hk0 : mj_kind q.2.1 = 0) (hcat : mj_cat r ≤ 8) (hR : dd + 1 ≤ R.frames ∧ 30 * (dd + 1) ≤ R.locals) (hcs : cells ≤ R.cells ∧ slots ≤ R.slots)
    (hM : mj_MT l D X ρ Hb L xs dd g (.inr (.inr q) :: As) M rr N) (hrr : ∀ q', rr ≠ some (.inr (.inr q'))) (kk : mj_GG p l e R s m args below meth c cells slots Q nL lp D X ρ Hb L xs (pc + 3) ls (rr.toList ++ r) N) : mj_GG p l e R s m args below meth c cells slots Q nL lp D X ρ Hb L xs pc ls (As.reverse ++ .inr (.inr q) :: r) M := by
  intro hl hvv H locs la hP hS hL
  obtain ⟨q0, he, -⟩ := mj_ws_at (ρ := ρ) (X := X) (M := M) hqi
  rw [mj_en_o hk0] at he
  obtain ⟨Cn, T, NN, hc, hT, hN, hcn⟩ := mj_cl_at (mj_fd_of hqi hk0).1
  have hcls : (mj_y g).cls = Cn := by
    show mj_cs_ (mj_m g).1 = Cn
    rw [← hq, hcn]
  have hrecv := va_recv C.2.2.2.2.2.1.1 hP.1 hc he
  have hw1 : Cond.methodLink (mj_cs_ o) i (mj_y g) ∈ mj_WA := mj_ML_ok _ (List.mem_map.mpr ⟨_, List.contains_iff_mem.mp hm, rfl⟩)
  have hst' : (mj_m g).2.2.2.2.2.2 = false := hst
  have hw2 : Cond.instanceMethod (mj_y g) ∈ mj_WA := by
    have := mj_gi hg
    unfold mj_wi at this
    rw [hst', if_neg (by decide)] at this
    exact this
  have hw3 : Cond.selects Cn (mj_y g) (mj_y g) ∈ mj_WA := by
    have := mj_gv hg
    unfold mj_wv at this
    rw [hst', if_neg (by decide)] at this
    rw [← hcls]
    exact this
  have hmx := mj_gm hg
  have cw := cwV (R := R) (s := s) (args := args) (own := mj_cs_ o) (index := i) (C := Cn) (y := mj_y g) (bytes := mj_bc g) (maxL := mj_mx g) (ret := mj_rt g) (ws := mj_wsf g) (rm := mj_rm dd) (mc := 0) (ms := 0) (ws' := mj_WA) (mj_np.getD g 0) C.2.2.2.2.1 (mj_goodL (fun w hw => by
    unfold wsV at hw
    rcases List.mem_append.mp hw with h | h
    · simp only [List.mem_cons, List.not_mem_nil, or_false] at h
      rcases h with rfl | rfl | rfl | rfl
      · exact hw1
      · exact hw2
      · exact hw3
      · rw [← hcls]; exact mj_gn hg
    · exact (mj_goodG hg w h).1)) rfl rfl rfl ⟨hcls, (mj_gd hg).2.1, (mj_gd hg).2.2, mj_gp hg⟩ ⟨by show dd + 1 ≤ _; exact hR.1, by show 8 + (mj_mx g + 11) + 30 * dd ≤ _; omega⟩
  have hrun := va_runV (rest := r.map (mj_rv ρ)) (As := As.map (mj_rv ρ)) (g := F0 m pc la ((As.reverse ++ .inr (.inr q) :: r).map (mj_rv ρ))) (H := H) (locs := locs) (cells := cells) (slots := slots) (e := e) (below := below) (meth := meth) (nL := nL) ⟨C.1, C.2.1, C.2.2.1, C.2.2.2.1, C.2.2.2.2.1⟩ hM cw ⟨mj_blind, hrecv, fun U hU hW => ⟨rfl, by rw [hU]; exact hP, mj_K.moved hW C.2.2.2.2.2.1⟩⟩ rfl (by rw [List.length_map]; exact hn) hL.1 (by simp [mj_rv]) (lv_room (by rw [mj_cat_sum]; exact hcat)) hd hcs
  refine mj_run hrun hS (fun H1 locs1 hP1 hS1 => ?_)
  have K := kk hl ⟨hvv.1, hvv.2.1, fun q' h => ?_⟩ H1 locs1 la hP1 hS1 hL
  · have e : (rr.toList ++ r).map (mj_rv ρ) = (rr.map (mj_rv ρ)).toList ++ r.map (mj_rv ρ) := by cases rr <;> simp
    rw [e] at K
    exact K
  · rcases List.mem_append.mp h with h | h
    · cases rr with
      | none => simp at h
      | some z => simp at h; exact absurd (by rw [h]) (hrr q')
    · exact hvv.2.2 q' (by simp [h])
theorem ms_callS (C : mj_CX p s m args c cc nL o D X ρ Hb L xs) {i g dd : Nat} {As : List mj_V} {rr : Option mj_V} {N : mj_M} (hd : decode cc pc = .ok (.invokestatic i, 3)) (hg : g < mj_mt.length) (hm : mj_ML.contains (o, i, g) = true ∨ (o = 1 ∧ i = 85 ∧ g = 23)) (hst : mj_stc g = true) (hn : As.length = mj_np.getD g 0) (hcat : mj_cat r ≤ 8) (hR : dd + 1 ≤ R.frames ∧ 30 * (dd + 1) ≤ R.locals) (hcs : cells ≤ R.cells ∧ slots ≤ R.slots)
    (hM : mj_MT l D X ρ Hb L xs dd g As M rr N) (hrr : ∀ q', rr ≠ some (.inr (.inr q'))) (kk : mj_GG p l e R s m args below meth c cells slots Q nL lp D X ρ Hb L xs (pc + 3) ls (rr.toList ++ r) N) : mj_GG p l e R s m args below meth c cells slots Q nL lp D X ρ Hb L xs pc ls (As.reverse ++ r) M := by
  intro hl hvv H locs la hP hS hL
  have hst' : (mj_m g).2.2.2.2.2.2 = true := hst
  have hw2 : Cond.static (mj_y g) ∈ mj_WA := by
    have := mj_gi hg
    unfold mj_wi at this
    rw [hst', if_pos rfl] at this
    exact this
  have hmx := mj_gm hg
  have hrun : va_Run p l e R s m args below meth c H locs cells slots 0 0 (F0 m pc la ((As.reverse ++ r).map (mj_rv ρ))) (r.map (mj_rv ρ)) (mj_Qc D X ρ Hb L xs rr N (As.map (mj_rv ρ)).toArray) (mj_A Hb) := by
    rcases hm with hm | ⟨ho, hi, hgg⟩
    · have hw1 : Cond.methodLink (mj_cs_ o) i (mj_y g) ∈ mj_WA := mj_ML_ok _ (List.mem_map.mpr ⟨_, List.contains_iff_mem.mp hm, rfl⟩)
      have cw := va_cwS (R := R) (s := s) (args := args) (own := mj_cs_ o) (index := i) (y := mj_y g) (bytes := mj_bc g) (maxL := mj_mx g) (ret := mj_rt g) (ws := mj_wsf g) (rm := mj_rm dd) (mc := 0) (ms := 0) (ws' := mj_WA) (mj_np.getD g 0) C.2.2.2.2.1 (mj_goodL (fun w hw => by
        unfold va_wsS at hw
        rcases List.mem_append.mp hw with h | h
        · simp only [List.mem_cons, List.not_mem_nil, or_false] at h
          rcases h with rfl | rfl | rfl
          · exact hw1
          · exact hw2
          · exact mj_gn hg
        · exact (mj_goodG hg w h).1)) rfl rfl rfl ⟨(mj_gd hg).2.1, (mj_gd hg).2.2, mj_gp hg⟩ ⟨by show dd + 1 ≤ _; exact hR.1, by show 8 + (mj_mx g + 11) + 30 * dd ≤ _; omega⟩
      exact va_runS (rest := r.map (mj_rv ρ)) (As := As.map (mj_rv ρ)) (g := F0 m pc la ((As.reverse ++ r).map (mj_rv ρ))) (nL := nL) ⟨C.1, C.2.1, C.2.2.1, C.2.2.2.1, C.2.2.2.2.1⟩ hM cw ⟨mj_blind, fun U hU hW => ⟨rfl, by rw [hU]; exact hP, mj_K.moved hW C.2.2.2.2.2.1⟩⟩ rfl (by rw [List.length_map]; exact hn) hL.1 (by simp) (lv_room (by rw [mj_cat_sum]; exact hcat)) hd hcs
    · subst ho; subst hi; subst hgg
      have cw := va_cnB (R := R) (s := s) (args := args) (own := mj_cs_ 1) (host := "CloudStrings") (index := 85) (y := mj_y 23) (bytes := mj_bc 23) (maxL := mj_mx 23) (ret := mj_rt 23) (ws := mj_wsf 23) (rm := mj_rm dd) (mc := 0) (ms := 0) (ws' := mj_WA) (mj_np.getD 23 0) C.2.2.2.2.1 (mj_goodG hg) rfl rfl rfl C.2.2.2.2.2.1.2.2.2.2.2.2.1 (mj_wA C (mj_gn hg)) ⟨(mj_gd hg).2.1, (mj_gd hg).2.2, mj_gp hg⟩ ⟨by show dd + 1 ≤ _; exact hR.1, by show 8 + (mj_mx 23 + 11) + 30 * dd ≤ _; omega⟩
      exact va_runSN (rest := r.map (mj_rv ρ)) (As := As.map (mj_rv ρ)) (g := F0 m pc la ((As.reverse ++ r).map (mj_rv ρ))) (nL := nL) ⟨C.1, C.2.1, C.2.2.1, C.2.2.2.1, C.2.2.2.2.1⟩ hM ⟨cw, mj_wA C hw2, trivial⟩ ⟨mj_blind, fun U hU hW => ⟨rfl, by rw [hU]; exact hP, mj_K.moved hW C.2.2.2.2.2.1⟩⟩ rfl (by rw [List.length_map]; exact hn) hL.1 (by simp) (lv_room (by rw [mj_cat_sum]; exact hcat)) hd hcs
  refine mj_run hrun hS (fun H1 locs1 hP1 hS1 => ?_)
  have K := kk hl ⟨hvv.1, hvv.2.1, fun q' h => ?_⟩ H1 locs1 la hP1 hS1 hL
  · have e : (rr.toList ++ r).map (mj_rv ρ) = (rr.map (mj_rv ρ)).toList ++ r.map (mj_rv ρ) := by cases rr <;> simp
    rw [e] at K
    exact K
  · rcases List.mem_append.mp h with h | h
    · cases rr with
      | none => simp at h
      | some z => simp at h; exact absurd (by rw [h]) (hrr q')
    · exact hvv.2.2 q' (by simp [h])
end MU
/-! switches -/
theorem mj_sw_tk {x : Int32} {K : Nat → Prop} {d : Nat} : ∀ (ts : List Nat) (n : Nat), mj_sw x (mj_tk n ts) d K → (∃ (i t : Nat), ts[i]? = some t ∧ x = nI (n + i) ∧ K t) ∨ ((∀ i : Nat, i < ts.length → ¬ x = nI (n + i)) ∧ K d)
  | [], n, h => Or.inr ⟨fun i hi => absurd hi (Nat.not_lt_zero i), h⟩
  | t :: ts, n, h => by
    obtain ⟨h1, h2⟩ : (x = nI n → K t) ∧ (¬ x = nI n → mj_sw x (mj_tk (n + 1) ts) d K) := h
    by_cases e : x = nI n
    · exact Or.inl ⟨0, t, rfl, e, h1 e⟩
    · rcases mj_sw_tk ts (n + 1) (h2 e) with ⟨i, t', a, b, k⟩ | ⟨a, k⟩
      · exact Or.inl ⟨i + 1, t', a, by rw [b]; congr 1; omega, k⟩
      · refine Or.inr ⟨fun i hi => ?_, k⟩
        cases i with
        | zero => exact e
        | succ i =>
          have := a i (by simpa using hi)
          intro z
          exact this (by rw [z]; congr 1; omega)
theorem mj_tgs_at {pc : Nat} : ∀ (os : List Int) (ts : List Nat), mj_tgs pc os ts = true → os.length = ts.length ∧ ∀ (i : Nat) (t : Nat), ts[i]? = some t → ∃ o', os[i]? = some o' ∧ (pc : Int) + o' = (t : Int)
  | [], [], _ => ⟨rfl, fun i t h => by simp at h⟩
  | o :: os, t :: ts, h => by
    have h : (mj_tg pc o t && mj_tgs pc os ts) = true := h
    rw [Bool.and_eq_true] at h
    obtain ⟨a, b⟩ := mj_tgs_at os ts h.2
    refine ⟨by simp [a], fun i t' hi => ?_⟩
    cases i with
    | zero => cases hi; exact ⟨o, rfl, of_decide_eq_true h.1⟩
    | succ i => exact b i t' (by simpa using hi)
  | [], _ :: _, h => by cases h
  | _ :: _, [], h => by cases h
theorem mj_sw_lk {x : Int32} {K : Nat → Prop} {d pc : Nat} {dflt : Int} (hd : (pc : Int) + dflt = (d : Int)) : ∀ (ps : List (Int × Int)) (ts : List Nat), mj_tgs pc (ps.map (fun x => x.2)) ts = true → (∀ z ∈ ps, z.1 = (z.1.toNat : Int) ∧ z.1.toNat < 1000) → mj_sw x (mj_lk ps ts) d K → ∃ t : Nat, K t ∧ (pc : Int) + Op.lookupswitch.offset ps dflt x.toInt = (t : Int)
  | [], [], _, _, h => ⟨d, h, hd⟩
  | (a, o') :: ps, t :: ts, h1, h2, h => by
    have h1 : (mj_tg pc o' t && mj_tgs pc (ps.map (fun x => x.2)) ts) = true := h1
    rw [Bool.and_eq_true] at h1
    obtain ⟨g1, g2⟩ : (x = nI a.toNat → K t) ∧ (¬ x = nI a.toNat → mj_sw x (mj_lk ps ts) d K) := h
    have ha := h2 (a, o') List.mem_cons_self
    have hk : (nI a.toNat).toInt = a := by rw [nI_toInt (by dsimp only at ha; omega)]; exact ha.1.symm
    by_cases e : x = nI a.toNat
    · refine ⟨t, g1 e, ?_⟩
      rw [Op.lookupswitch.offset_cons, if_pos (by rw [e, hk])]
      exact of_decide_eq_true h1.1
    · obtain ⟨t', k1, k2⟩ := mj_sw_lk hd ps ts h1.2 (fun z hz => h2 z (List.mem_cons_of_mem _ hz)) (g2 e)
      refine ⟨t', k1, ?_⟩
      rw [lv_osw e hk]
      exact k2
  | [], _ :: _, h1, _, _ => by cases h1
  | _ :: _, [], h1, _, _ => by cases h1
