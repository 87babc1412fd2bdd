
/-! one step of a constructor on the real machine -/
def mk_CX (p : Program) (s : State) (m : MethodId) (args : Array Value) (meth : Method) (c : Code) (g : Nat) (D : va_G) (X : mj_X) (Hb : Heap) : Prop :=
  p.tables.exec = Jvm.exec ∧ c.code = mk_bc g ∧ c.maxLocals = mk_mx g ∧ s.vm.findClass (mj_cs_ g) = some m.cls ∧ (∀ w ∈ mj_WA, w.before args s = true) ∧ mk_K D X s ∧ va_S (mj_A Hb) Hb s.heap [] ∧ meth.name = "<init>"
def mk_la (ad : Nat → Nat) (ls : List (Option mk_V)) : List (Nat × Value) := (List.range ls.length).filterMap (fun i => match ls[i]? with
  | some (some v) => some (i, mk_rv ad v)
  | _ => none)
theorem mk_la_in {ad : Nat → Nat} {ls : List (Option mk_V)} {i : Nat} {v : mk_V} (h : ls[i]? = some (some v)) : (i, mk_rv ad v) ∈ mk_la ad ls :=
  List.mem_filterMap.mpr ⟨i, List.mem_range.mpr (List.getElem?_eq_some_iff.mp h).1, by rw [h]⟩
theorem mk_la_of {ad : Nat → Nat} {ls : List (Option mk_V)} {x : Nat × Value} (h : x ∈ mk_la ad ls) : ∃ v, ls[x.1]? = some (some v) ∧ x.2 = mk_rv ad v := by
  obtain ⟨i, -, hi⟩ := List.mem_filterMap.mp h
  split at hi
  · next v hv => cases hi; exact ⟨v, hv, rfl⟩
  · cases hi
theorem mk_la_at {ad : Nat → Nat} {ls : List (Option mk_V)} {la : Array Slot} {nL i : Nat} {v : mk_V} (h : lv_has la nL (mk_la ad ls)) (hv : ls[i]? = some (some v)) : la[i]? = some (.val (mk_rv ad v)) := h.2.2 _ (mk_la_in hv)
theorem mk_cat1 {ad : Nat → Nat} {v : mk_V} : (mk_rv ad v).category = 1 := by
  rcases v with x | _ | k <;> rfl
theorem mk_store {ad : Nat → Nat} {ls : List (Option mk_V)} {la : Array Slot} {nL i : Nat} {v : mk_V} (h : lv_has la nL ((i, mk_rv ad v) :: (mk_la ad ls).filter (fun q => !(q.1 == i) && !(q.1 + 1 == i && q.2.category == 2)))) : lv_has la nL (mk_la ad (ls.set i (some v))) := by
  refine ⟨h.1, h.2.1, fun x hx => ?_⟩
  obtain ⟨w, hw, hxw⟩ := mk_la_of hx
  obtain ⟨j, y⟩ := x
  dsimp only at hw hxw
  subst hxw
  by_cases e : i = j
  · subst e
    have hi : i < ls.length := by
      have := (List.getElem?_eq_some_iff.mp hw).1
      rwa [List.length_set] at this
    rw [List.getElem?_set_self hi] at hw
    cases hw
    exact h.2.2 _ List.mem_cons_self
  · rw [List.getElem?_set_ne e] at hw
    refine h.2.2 _ (List.mem_cons_of_mem _ (List.mem_filter.mpr ⟨mk_la_in hw, ?_⟩))
    simp only [Bool.and_eq_true, Bool.not_eq_true', beq_eq_false_iff_ne, ne_eq, Bool.and_eq_false_iff]
    exact ⟨fun z => e z.symm, Or.inr (by rw [mk_cat1]; decide)⟩
theorem mk_fmc {α β : Type} {f g : α → Option β} : ∀ (l : List α), (∀ x ∈ l, f x = g x) → l.filterMap f = l.filterMap g
  | [], _ => rfl
  | x :: l, h => by
    rw [List.filterMap_cons, List.filterMap_cons, h x List.mem_cons_self, mk_fmc l (fun y hy => h y (List.mem_cons_of_mem _ hy))]
theorem mk_la_ext {ad ad' : Nat → Nat} {ls : List (Option mk_V)} {n : Nat} (hv : ∀ k : Nat, some (.inr (some k)) ∈ ls → k < n) (e : ∀ k, k < n → ad' k = ad k) : mk_la ad' ls = mk_la ad ls := by
  unfold mk_la
  apply mk_fmc
  intro i _
  cases hl : ls[i]? with
  | none => rfl
  | some o =>
    cases o with
    | none => rfl
    | some v =>
      rcases v with x | _ | k
      · rfl
      · rfl
      · show some (i, Value.ref (ad' k)) = some (i, Value.ref (ad k))
        rw [e k (hv k (List.mem_of_getElem? hl))]
theorem mk_st_ext {ad ad' : Nat → Nat} {st : List mk_V} {n : Nat} (hv : ∀ k : Nat, .inr (some k) ∈ st → k < n) (e : ∀ k, k < n → ad' k = ad k) : st.map (mk_rv ad') = st.map (mk_rv ad) := by
  apply List.map_congr_left
  intro v hm
  rcases v with x | _ | k
  · rfl
  · rfl
  · show Value.ref (ad' k) = Value.ref (ad k)
    rw [e k (hv k hm)]
theorem mk_cat_sum {ad : Nat → Nat} {st : List mk_V} : ((st.map (mk_rv ad)).map fun v => v.category).sum = st.length := by
  induction st with
  | nil => rfl
  | cons v r ih =>
    rw [List.map_cons, List.map_cons, List.sum_cons, ih, mk_cat1, List.length_cons, Nat.add_comm]
def mk_GG (p : Program) (l : Launch) (e : Env) (R : Room) (s : State) (m : MethodId) (args : Array Value) (below : List Frame) (meth : Method) (c : Code) (Q : State → Prop) (nL : Nat) (D : va_G) (X : mj_X) (Hb : Heap) (ad0 : Nat → Nat) (h0 sz0 : Nat) (pc : Nat) (ls : List (Option mk_V)) (st : List mk_V) (h : List mk_C) : Prop :=
  ls.length = nL → mk_iv ls st h → h0 ≤ h.length → sz0 ≤ mk_sz h → ∀ (ad : Nat → Nat) (H : Heap) (locs : List Loc) (la : Array Slot), (∀ k, k < h0 → ad k = ad0 k) → va_P D mj_cl (mk_ws ad X h) H → va_D (mj_A Hb) (mk_ws ad X h) → va_S (mj_A Hb) s.heap H locs → lv_has la nL (mk_la ad ls) →
  W p l e R s m args below meth c H locs (h.length - h0) (mk_sz h - sz0) Q (F0 m pc la (st.map (mk_rv ad)))
theorem mk_okv_of {ty : Option FieldType} {v : mk_V} {ad : Nat → Nat} (h : mk_okv ty v = true) : ∃ t, ty = some t ∧ narrow t (mk_rv ad v) = mk_rv ad v ∧ fits t (mk_rv ad v) = true := by
  unfold mk_okv at h
  split at h
  · exact ⟨_, rfl, rfl, rfl⟩
  · next x =>
    rw [beq_iff_eq] at h
    subst h
    exact ⟨_, rfl, rfl, rfl⟩
  · exact ⟨_, rfl, rfl, rfl⟩
  · exact ⟨_, rfl, rfl, rfl⟩
  · cases h
theorem mk_df_v : (List.range 8).all (fun g => (List.range (mj_cl.getD g ("", mj_T0, 0)).2.2).all (fun j => decide (defaultValue ((mk_fty g j).getD .int) = mk_rv (fun _ => 0) ((mk_df.getD g []).getD j (.inl 0))))) = true := by decide +kernel
theorem mk_decl : (List.range 8).all (fun g => (List.range (mj_cl.getD g ("", mj_T0, 0)).2.2).all (fun j => (mj_TT g j).1 == mj_cs_ g)) = true := by decide +kernel
theorem mk_rv_no {ad : Nat → Nat} {v : mk_V} (h : ∀ k, v ≠ .inr (some k)) : mk_rv ad v = mk_rv (fun _ => 0) v := by
  rcases v with x | _ | k
  · rfl
  · rfl
  · exact absurd rfl (h k)
section MK
variable {p : Program} {l : Launch} {e : Env} {R : Room} {s : State} {m : MethodId} {args : Array Value} {below : List Frame} {meth : Method} {c : Code} {Q : State → Prop}
variable {g nL : Nat} {D : va_G} {X : mj_X} {Hb : Heap} {ad0 : Nat → Nat} {h0 sz0 pc : Nat} {ls : List (Option mk_V)} {st : List mk_V} {h : List mk_C}

theorem mk_hA (C : mk_CX p s m args meth c g D X Hb) : ∀ q : Nat, s.heap.size ≤ q → mj_A Hb q := fun q hq => Nat.le_trans C.2.2.2.2.2.2.1.1 hq
/-- going on behind new cells -/
theorem mk_more {cs : List mk_C} {ad ad' : Nat → Nat} {H : Heap} {locs : List Loc} {la : Array Slot} {st' : List mk_V} {cells slots pc' : Nat} (K : mk_GG p l e R s m args below meth c Q nL D X Hb ad0 h0 sz0 pc' ls st' (h ++ cs)) (hl : ls.length = nL) (hv : mk_iv ls st h) (hv' : mk_iv ls st' (h ++ cs)) (g1 : h0 ≤ h.length) (g2 : sz0 ≤ mk_sz h) (ha : ∀ k, k < h0 → ad k = ad0 k) (he : ∀ k, k < h.length → ad' k = ad k)
    (hP : va_P D mj_cl (mk_ws ad' X (h ++ cs)) H) (hD : va_D (mj_A Hb) (mk_ws ad' X (h ++ cs))) (hS : va_S (mj_A Hb) s.heap H locs) (hL : lv_has la nL (mk_la ad ls)) (hc : cells = h.length - h0 + cs.length) (hs : slots = mk_sz h - sz0 + mk_sz cs) : W p l e R s m args below meth c H locs cells slots Q (F0 m pc' la (st'.map (mk_rv ad'))) := by
  refine W.cs (cells' := (h ++ cs).length - h0) (slots' := mk_sz (h ++ cs) - sz0) (by rw [hc, List.length_append]; omega) (by rw [hs, mk_sz_app]; omega) ?_
  exact K hl hv' (by rw [List.length_append]; omega) (by rw [mk_sz_app]; omega) ad' H locs la (fun k hk => (he k (by omega)).trans (ha k hk)) hP hD hS (by rw [mk_la_ext hv.1.1 he]; exact hL)
theorem nk_new (C : mk_CX p s m args meth c g D X Hb) {i ci : Nat} (hg : ci < 8) (hd : decode (mk_bc g) pc = .ok (.new i, 3)) (hcl : mk_CL.contains (g, i, mj_cs_ ci) = true) (hR : (h ++ [(0, ci, mk_df.getD ci [])]).length - h0 ≤ R.cells ∧ mk_sz (h ++ [(0, ci, mk_df.getD ci [])]) - sz0 ≤ R.slots)
    (K : mk_GG p l e R s m args below meth c Q nL D X Hb ad0 h0 sz0 (pc + 3) ls (.inr (some h.length) :: st) (h ++ [(0, ci, mk_df.getD ci [])])) : mk_GG p l e R s m args below meth c Q nL D X Hb ad0 h0 sz0 pc ls st h := by
  intro hl hv g1 g2 ad H locs la ha hP hD hS hL
  obtain ⟨Cn, T, N, hc, hT, hN, hcn⟩ := mj_cl_at hg
  have hdf := mk_df_no hg
  have hno : ∀ v ∈ mk_df.getD ci [], ∀ k, v ≠ .inr (some k) := fun v hm k e => hdf.1 k (e ▸ hm)
  have hw1 : Cond.classLink (mj_cs_ g) i Cn ∈ mj_WA := hcn ▸ mk_CL_ok _ (List.mem_map.mpr ⟨_, List.contains_iff_mem.mp hcl, rfl⟩)
  have hw2 : Cond.instantiable Cn N ∈ mj_WA := by
    have := mk_IN_ok _ (List.mem_map.mpr ⟨ci, List.mem_range.mpr hg, rfl⟩)
    rwa [hcn, hN] at this
  have hw3 : Cond.initialized Cn ∈ mj_WA := hcn ▸ mk_IT_ok _ (List.mem_map.mpr ⟨ci, List.mem_range.mpr hg, rfl⟩)
  have hdv := List.all_eq_true.mp mk_df_v ci (List.mem_range.mpr hg)
  generalize mk_df.getD ci [] = dl at hR K hdf hno hdv ⊢
  have hsz : mk_sz [(0, ci, dl)] = N := by rw [← hN, ← hdf.2]; simp [mk_sz]
  rw [List.length_append, mk_sz_app, hsz] at hR
  have h1 : ([(0, ci, dl)] : List mk_C).length = 1 := rfl
  rw [h1] at hR
  refine va_new (ci := ci) (fs := (dl).map (mk_rv ad)) C.1 C.2.1 C.2.2.2.2.1 (mj_cl_u _ (List.mem_of_getElem? hc)) (fun j => (parseFieldDescriptor (T j).2.2.1).getD .int) (mj_cl_t _ (List.mem_of_getElem? hc)) C.2.2.2.1 (C.2.2.2.2.1 _ hw1) (C.2.2.2.2.1 _ hw2) (C.2.2.2.2.1 _ hw3) C.2.2.2.2.2.1.1 hP hD hS (mk_hA C) hc (fun j hj => ?_) (by omega) (by show _ + N ≤ _; omega) hd (fun q H1 hP1 hD1 hS1 => ?_)
  · have h2 := of_decide_eq_true (List.all_eq_true.mp hdv j (List.mem_range.mpr (by rw [hN]; exact hj)))
    unfold mk_fty at h2
    rw [hT] at h2
    rw [h2]
    unfold vp_V
    rw [List.getD_eq_getElem?_getD, List.getD_eq_getElem?_getD, List.getElem?_map]
    have hjl : j < (dl).length := by rw [hdf.2, hN]; exact hj
    rw [List.getElem?_eq_getElem hjl]
    exact (mk_rv_no (hno _ (List.getElem_mem hjl))).symm
  · have he : ∀ k, k < h.length → (fun k => if k = h.length then q else ad k) k = ad k := fun k hk => if_neg (by omega)
    have ews : mk_ws (fun k => if k = h.length then q else ad k) X (h ++ [(0, ci, dl)]) = mk_ws ad X h ++ [(q, .inr (ci, (dl).map (mk_rv ad)))] := by
      rw [mk_ws_app, ← mk_ws_ext hv.2 (fun k hk => (he k hk).symm)]
      have e2 : (dl).map (mk_rv (fun k => if k = h.length then q else ad k)) = (dl).map (mk_rv ad) := by
        apply List.map_congr_left
        intro v hm
        exact (mk_rv_no (hno v hm)).trans (mk_rv_no (hno v hm)).symm
      rw [← e2]
      simp [mk_at, mk_e, List.range_succ]
    have hfin := mk_more (cs := [(0, ci, dl)]) (ad := ad) (ad' := fun k => if k = h.length then q else ad k) (cells := h.length - h0 + 1) (slots := mk_sz h - sz0 + N) K hl hv ?_ g1 g2 ha he (by rw [ews]; exact hP1) (by rw [ews]; exact hD1) hS1 hL rfl (by rw [hsz])
    · rw [List.map_cons, mk_st_ext hv.1.2 he] at hfin
      have e3 : mk_rv (fun k => if k = h.length then q else ad k) (.inr (some h.length)) = .ref q := by
        show Value.ref (if h.length = h.length then q else ad h.length) = .ref q
        rw [if_pos rfl]
      rw [e3] at hfin
      exact hfin
    · refine ⟨⟨fun k hk => by rw [List.length_append]; have := hv.1.1 k hk; omega, fun k hk => ?_⟩, mk_wf_app hv.2 (fun x hx k hk => by
        rw [List.mem_singleton.mp hx] at hk
        exact (hdf.1 k hk).elim)⟩
      rw [List.length_append]
      rcases List.mem_cons.mp hk with z | z
      · cases z; show h.length < h.length + 1; omega
      · have := hv.1.2 k z; omega
theorem mk_cI (C : mk_CX p s m args meth c g D X Hb) {cA : ClassId} (h : va_K D mj_cl (mj_ty X ++ [(cA, .int)]) s) : cA = X.1 := by
  have h1 : s.vm.findClass ("[" ++ FieldType.int.toString) = some cA := (h.2 3 _ rfl).2
  have h2 : s.vm.findClass ("[" ++ FieldType.int.toString) = some X.1 := (C.2.2.2.2.2.1.1.2 0 _ rfl).2
  exact Option.some.inj (h1.symm.trans h2)
theorem mk_cS (C : mk_CX p s m args meth c g D X Hb) {cA : ClassId} (h : va_K D mj_cl (mj_ty X ++ [(cA, .object "CloudStrings$Sheet")]) s) : cA = X.2.2 := by
  obtain ⟨_, _, _, _, _, h1⟩ := (h.2 3 _ rfl).2
  obtain ⟨_, _, _, _, _, h2⟩ := (C.2.2.2.2.2.1.1.2 2 _ rfl).2
  exact Option.some.inj (h1.symm.trans h2)
theorem nk_newa (C : mk_CX p s m args meth c g D X Hb) {x : Int32} (hd : decode (mk_bc g) pc = .ok (.newarray .int, 2)) (hx : ¬ x < 0 ∧ x.toNatClampNeg ≤ 1000) (hR : (h ++ [(1, 0, List.replicate x.toNatClampNeg (.inl 0 : mk_V))]).length - h0 ≤ R.cells ∧ mk_sz (h ++ [(1, 0, List.replicate x.toNatClampNeg (.inl 0 : mk_V))]) - sz0 ≤ R.slots)
    (K : mk_GG p l e R s m args below meth c Q nL D X Hb ad0 h0 sz0 (pc + 2) ls (.inr (some h.length) :: st) (h ++ [(1, 0, List.replicate x.toNatClampNeg (.inl 0 : mk_V))])) : mk_GG p l e R s m args below meth c Q nL D X Hb ad0 h0 sz0 pc ls (.inl x :: st) h := by
  intro hl hv g1 g2 ad H locs la ha hP hD hS hL
  have hsz : mk_sz ([(1, 0, List.replicate x.toNatClampNeg (.inl 0 : mk_V))] : List mk_C) = x.toNatClampNeg := by simp [mk_sz]
  rw [List.length_append, mk_sz_app, hsz] at hR
  have h1 : ([(1, 0, List.replicate x.toNatClampNeg (.inl 0 : mk_V))] : List mk_C).length = 1 := rfl
  rw [h1] at hR
  refine va_newa (atype := .int) (ty := .int) (N' := x.toNatClampNeg) (a0 := (x.toNatClampNeg, .inl (fun _ => 0))) C.1 C.2.1 (C.2.2.2.2.1 (Cond.arrayClass .int) (mk_OB_ok _ (by simp))) rfl C.2.2.2.2.2.1.1 hP hD hS (mk_hA C) (fun _ => rfl) hx.1 rfl (by show x.toNatClampNeg * 4 ≤ _; omega) (by omega) (by omega) hd (fun q cA H1 hK1 hP1 hD1 hS1 => ?_)
  have ecA := mk_cI C hK1
  subst ecA
  have he : ∀ k, k < h.length → (fun k => if k = h.length then q else ad k) k = ad k := fun k hk => if_neg (by omega)
  have e0 : mk_int (List.replicate x.toNatClampNeg (.inl 0)) = fun _ => 0 := by
    funext j
    unfold mk_int
    rw [List.getElem?_replicate]
    by_cases z : j < x.toNatClampNeg
    · rw [if_pos z]
    · rw [if_neg z]
  have ews : mk_ws (fun k => if k = h.length then q else ad k) X (h ++ [(1, 0, List.replicate x.toNatClampNeg (.inl 0 : mk_V))]) = mk_ws ad X h ++ [(q, .inl (X.1, x.toNatClampNeg, .inl (fun _ => 0)))] := by
    rw [mk_ws_app, ← mk_ws_ext hv.2 (fun k hk => (he k hk).symm)]
    simp [mk_at, mk_e, List.range_succ, e0]
  have hfin := mk_more (st := .inl x :: st) (cs := [(1, 0, List.replicate x.toNatClampNeg (.inl 0 : mk_V))]) (ad := ad) (ad' := fun k => if k = h.length then q else ad k) (cells := h.length - h0 + 1) (slots := mk_sz h - sz0 + x.toNatClampNeg) K hl hv ?_ g1 g2 ha he (by rw [ews]; exact hP1) (by rw [ews]; exact hD1) hS1 hL rfl (by rw [hsz])
  · rw [List.map_cons, mk_st_ext (fun k hk => hv.1.2 k (List.mem_cons_of_mem _ hk)) he] at hfin
    have e3 : mk_rv (fun k => if k = h.length then q else ad k) (.inr (some h.length)) = .ref q := by
      show Value.ref (if h.length = h.length then q else ad h.length) = .ref q
      rw [if_pos rfl]
    rw [e3] at hfin
    exact hfin
  · refine ⟨⟨fun k hk => by rw [List.length_append]; have := hv.1.1 k hk; omega, fun k hk => ?_⟩, mk_wf_app hv.2 (fun y hy k hk => by
      rw [List.mem_singleton.mp hy] at hk
      cases (List.eq_of_mem_replicate hk))⟩
    rw [List.length_append]
    rcases List.mem_cons.mp hk with z | z
    · cases z; show h.length < h.length + 1; omega
    · have := hv.1.2 k (List.mem_cons_of_mem _ z); omega
theorem nk_newq (C : mk_CX p s m args meth c g D X Hb) {i : Nat} {x : Int32} (hd : decode (mk_bc g) pc = .ok (.anewarray i, 3)) (hcl : mk_CL.contains (g, i, "CloudStrings$Sheet") = true) (hx : ¬ x < 0 ∧ x.toNatClampNeg ≤ 1000) (hR : (h ++ [(3, 0, List.replicate x.toNatClampNeg (.inr none : mk_V))]).length - h0 ≤ R.cells ∧ mk_sz (h ++ [(3, 0, List.replicate x.toNatClampNeg (.inr none : mk_V))]) - sz0 ≤ R.slots)
    (K : mk_GG p l e R s m args below meth c Q nL D X Hb ad0 h0 sz0 (pc + 3) ls (.inr (some h.length) :: st) (h ++ [(3, 0, List.replicate x.toNatClampNeg (.inr none : mk_V))])) : mk_GG p l e R s m args below meth c Q nL D X Hb ad0 h0 sz0 pc ls (.inl x :: st) h := by
  intro hl hv g1 g2 ad H locs la ha hP hD hS hL
  have hsz : mk_sz ([(3, 0, List.replicate x.toNatClampNeg (.inr none : mk_V))] : List mk_C) = x.toNatClampNeg := by simp [mk_sz]
  rw [List.length_append, mk_sz_app, hsz] at hR
  have h1 : ([(3, 0, List.replicate x.toNatClampNeg (.inr none : mk_V))] : List mk_C).length = 1 := rfl
  rw [h1] at hR
  have hw1 : Cond.classLink (mj_cs_ g) i "CloudStrings$Sheet" ∈ mj_WA := mk_CL_ok _ (List.mem_map.mpr ⟨_, List.contains_iff_mem.mp hcl, rfl⟩)
  refine va_newq (N' := x.toNatClampNeg) C.1 C.2.1 C.2.2.2.1 (C.2.2.2.2.1 _ hw1) C.2.2.2.2.2.1.2.1 C.2.2.2.2.2.1.1 hP hD hS (mk_hA C) hx.1 rfl (by omega) (by omega) (by omega) hd (fun q cA H1 hK1 hP1 hD1 hS1 => ?_)
  have ecA := mk_cS C hK1
  subst ecA
  have he : ∀ k, k < h.length → (fun k => if k = h.length then q else ad k) k = ad k := fun k hk => if_neg (by omega)
  have e0 : ∀ ad' : Nat → Nat, (fun j => (mk_ref (List.replicate x.toNatClampNeg (.inr none)) j).map ad') = fun _ => none := by
    intro ad'
    funext j
    unfold mk_ref
    rw [List.getElem?_replicate]
    by_cases z : j < x.toNatClampNeg
    · rw [if_pos z]; rfl
    · rw [if_neg z]; rfl
  have ews : mk_ws (fun k => if k = h.length then q else ad k) X (h ++ [(3, 0, List.replicate x.toNatClampNeg (.inr none : mk_V))]) = mk_ws ad X h ++ [(q, .inl (X.2.2, x.toNatClampNeg, .inr (.inr (.inr (.inr (fun _ => none))))))] := by
    rw [mk_ws_app, ← mk_ws_ext hv.2 (fun k hk => (he k hk).symm)]
    simp [mk_at, mk_e, List.range_succ, e0]
  have hfin := mk_more (st := .inl x :: st) (cs := [(3, 0, List.replicate x.toNatClampNeg (.inr none : mk_V))]) (ad := ad) (ad' := fun k => if k = h.length then q else ad k) (cells := h.length - h0 + 1) (slots := mk_sz h - sz0 + x.toNatClampNeg) K hl hv ?_ g1 g2 ha he (by rw [ews]; exact hP1) (by rw [ews]; exact hD1) hS1 hL rfl (by rw [hsz])
  · rw [List.map_cons, mk_st_ext (fun k hk => hv.1.2 k (List.mem_cons_of_mem _ hk)) he] at hfin
    have e3 : mk_rv (fun k => if k = h.length then q else ad k) (.inr (some h.length)) = .ref q := by
      show Value.ref (if h.length = h.length then q else ad h.length) = .ref q
      rw [if_pos rfl]
    rw [e3] at hfin
    exact hfin
  · refine ⟨⟨fun k hk => by rw [List.length_append]; have := hv.1.1 k hk; omega, fun k hk => ?_⟩, mk_wf_app hv.2 (fun y hy k hk => by
      rw [List.mem_singleton.mp hy] at hk
      cases (List.eq_of_mem_replicate hk))⟩
    rw [List.length_append]
    rcases List.mem_cons.mp hk with z | z
    · cases z; show h.length < h.length + 1; omega
    · have := hv.1.2 k (List.mem_cons_of_mem _ z); omega
end MK
