
theorem mk_kd3 {ad : Nat → Nat} {X : mj_X} {c : mk_C} (h : c.1 = 3) : mk_e ad X c = .inl (X.2.2, c.2.2.length, .inr (.inr (.inr (.inr (fun j => (mk_ref c.2.2 j).map ad))))) := by
  unfold mk_e
  rw [if_neg (by rw [h]; decide), if_neg (by rw [h]; decide), if_neg (by rw [h]; decide)]
theorem mk_kd0 {ad : Nat → Nat} {X : mj_X} {c : mk_C} (h : c.1 = 0) : mk_e ad X c = .inr (c.2.1, c.2.2.map (mk_rv ad)) := by
  unfold mk_e
  rw [if_pos h]
theorem mk_kd1 {ad : Nat → Nat} {X : mj_X} {c : mk_C} (h : c.1 = 1) : mk_e ad X c = .inl (X.1, c.2.2.length, .inl (mk_int c.2.2)) := by
  unfold mk_e
  rw [if_neg (by rw [h]; decide), if_pos h]
section MK2
variable {p : Program} {l : Launch} {e : Env} {R : Room} {s : State} {m : MethodId} {args : Array Value} {below : List Frame} {meth : Method} {c : Code} {Q : State → Prop}
variable {g nL : Nat} {D : va_G} {X : mj_X} {Hb : Heap} {ad0 : Nat → Nat} {h0 sz0 pc : Nat} {ls : List (Option mk_V)} {st : List mk_V} {h : List mk_C}

/-- going on where one cell changed -/
theorem mk_chg {r j : Nat} {v : mk_V} {ad : Nat → Nat} {H : Heap} {locs : List Loc} {la : Array Slot} {st' : List mk_V} {pc' : Nat} (K : mk_GG p l e R s m args below meth c Q nL D X Hb ad0 h0 sz0 pc' ls st' (mk_set h r j v)) (hr : r < h.length) (hl : ls.length = nL) (hv : mk_iv ls st' (mk_set h r j v)) (g1 : h0 ≤ h.length) (g2 : sz0 ≤ mk_sz h) (ha : ∀ k, k < h0 → ad k = ad0 k)
    (hP : va_P D mj_cl (mk_ws ad X (mk_set h r j v)) H) (hD : va_D (mj_A Hb) (mk_ws ad X (mk_set h r j v))) (hS : va_S (mj_A Hb) s.heap H locs) (hL : lv_has la nL (mk_la ad ls)) : W p l e R s m args below meth c H locs (h.length - h0) (mk_sz h - sz0) Q (F0 m pc' la (st'.map (mk_rv ad))) := by
  refine W.cs (cells' := (mk_set h r j v).length - h0) (slots' := mk_sz (mk_set h r j v) - sz0) (by rw [mk_set_len]) (by rw [mk_sz_set hr]) ?_
  exact K hl hv (by rw [mk_set_len]; exact g1) (by rw [mk_sz_set hr]; exact g2) ad H locs la ha hP hD hS hL
theorem nk_mna (C : mk_CX p s m args meth c g D X Hb) {i : Nat} {n k : Int32} (hd : decode (mk_bc g) pc = .ok (.multianewarray i 2, 4)) (hcl : mk_CL.contains (g, i, "[[I") = true) (hx : ¬ n < 0 ∧ ¬ k < 0 ∧ n.toNatClampNeg ≤ 1000 ∧ k.toNatClampNeg ≤ 1000) {cs : List mk_C} (hcs : cs = (2, 0, (List.range n.toNatClampNeg).map (fun i => .inr (some (h.length + 1 + i)))) :: List.replicate n.toNatClampNeg (1, 0, List.replicate k.toNatClampNeg (.inl 0 : mk_V)))
    (hR : (h ++ cs).length - h0 ≤ R.cells ∧ mk_sz (h ++ cs) - sz0 ≤ R.slots) (K : mk_GG p l e R s m args below meth c Q nL D X Hb ad0 h0 sz0 (pc + 4) ls (.inr (some h.length) :: st) (h ++ cs)) : mk_GG p l e R s m args below meth c Q nL D X Hb ad0 h0 sz0 pc ls (.inl k :: .inl n :: st) h := by
  intro hl hv g1 g2 ad H locs la ha hP hD hS hL
  generalize hN : n.toNatClampNeg = N at hx hcs
  generalize hM : k.toNatClampNeg = M at hx hcs
  have hlen : cs.length = 1 + N := by rw [hcs, List.length_cons, List.length_replicate]; omega
  have hsz : mk_sz cs = N + N * M := by
    rw [hcs]
    simp [mk_sz]
  rw [List.length_append, mk_sz_app, hlen, hsz] at hR
  have hw1 : Cond.classLink (mj_cs_ g) i "[[I" ∈ mj_WA := mk_CL_ok _ (List.mem_map.mpr ⟨_, List.contains_iff_mem.mp hcl, rfl⟩)
  intro T hT Xs
  obtain ⟨vm₁, cA, comp, -, fA, fC, hO, -, X', step⟩ := Jvm.Stand.multianewarray2F (ty := .int) Xs C.1 C.2.2.2.1 (C.2.2.2.2.1 _ hw1) (show (Cond.arrayOver (.array .int)).before args s = true from C.2.2.2.2.2.1.2.2.1) (C.2.2.2.2.1 (Cond.arrayClass .int) (mk_OB_ok _ (by simp))) (g := F0 m pc la (.int k :: .int n :: st.map (mk_rv ad))) rfl (by rw [C.2.1]; exact hd) rfl hx.1 hx.2.1 (by rw [hN]; omega) (by rw [hM]; show M * 4 ≤ _; omega) (by rw [hM]; omega) rfl rfl (by rw [hN]; omega) (by rw [hN, hM]; omega)
  rw [hN, hM] at X' step
  generalize hF : Jvm.Free.Multi.fill (T.setVm vm₁) cA comp N M (defaultValue .int) N = F at X' step
  have hTh : (T.setVm vm₁).heap = H := hT
  obtain ⟨f1, f2, -, -⟩ := Jvm.Free.Multi.fill_facts (T.setVm vm₁) cA comp N M (defaultValue .int) N
  rw [hF, hTh] at f1 f2
  have hold : ∀ x : Nat, x < H.size → F.heap[x]? = H[x]? := fun x hx => by
    have := Jvm.Free.Multi.fill_old (T.setVm vm₁) cA comp N M (defaultValue .int) (a := x) (by rw [hTh]; exact hx) N
    rw [hF, hTh] at this
    exact this
  have hrow : ∀ j : Nat, j < N → F.heap[H.size + 1 + j]? = some (vp_cell comp (M, .inl (fun _ => 0))) := fun j hj => by
    have := Jvm.Free.Multi.fill_inner (T.setVm vm₁) cA comp N M (defaultValue .int) N j hj
    rw [hF, hTh] at this
    rw [this]
    show some (Jvm.Free.Multi.innerC comp M (.int 0)) = some (arrV comp M (fun j => .int 0))
    exact congrArg some (arrV_new comp M (.int 0))
  have ecA : cA = X.2.1 := by
    have h2 : s.vm.findClass ("[" ++ (FieldType.array .int).toString) = some X.2.1 := (C.2.2.2.2.2.1.1.2 1 _ rfl).2
    exact Option.some.inj (fA.symm.trans h2)
  have ecm : comp = X.1 := by
    have h2 : s.vm.findClass ("[" ++ FieldType.int.toString) = some X.1 := (C.2.2.2.2.2.1.1.2 0 _ rfl).2
    have e : (FieldType.array .int).toString = "[" ++ FieldType.int.toString := by decide +kernel
    rw [e] at fC
    exact Option.some.inj (fC.symm.trans h2)
  subst ecA
  subst ecm
  have hAd : ∀ i, i < h.length → ad i < H.size := fun i hi => (hP i _ (mk_ws_at hi)).lt
  have he : ∀ k, k < h.length → (fun k => if h.length ≤ k then H.size + (k - h.length) else ad k) k = ad k := fun k hk => if_neg (by omega)
  generalize had : (fun k => if h.length ≤ k then H.size + (k - h.length) else ad k) = ad' at he
  have hnew : ∀ j, ad' (h.length + j) = H.size + j := fun j => by
    rw [← had]
    show (if h.length ≤ h.length + j then H.size + (h.length + j - h.length) else ad (h.length + j)) = _
    rw [if_pos (by omega)]
    omega
  have hat : ∀ j, j < 1 + N → mk_at cs j = if j = 0 then (2, 0, (List.range N).map (fun i => .inr (some (h.length + 1 + i)))) else (1, 0, List.replicate M (.inl 0)) := fun j hj => by
    rw [hcs]
    unfold mk_at
    cases j with
    | zero => rfl
    | succ j =>
      rw [if_neg (by omega), List.getD_eq_getElem?_getD, List.getElem?_cons_succ, List.getElem?_replicate, if_pos (by omega)]
      rfl
  have hPn : va_P D mj_cl (mk_ws ad' X (h ++ cs)) F.heap := by
    rw [mk_ws_app, ← mk_ws_ext hv.2 (fun k hk => (he k hk).symm)]
    refine (hP.kept (fun k x hx => hold x.1 ((hP k x hx).lt))).app (fun j x hx => ?_)
    have hj : j < 1 + N := by
      have := (List.getElem?_eq_some_iff.mp hx).1
      rw [List.length_map, List.length_range, hlen] at this
      exact this
    rw [List.getElem?_map, List.getElem?_range (by rw [hlen]; exact hj)] at hx
    cases hx
    show va_at D mj_cl (ad' (h.length + j), mk_e ad' X (mk_at cs j)) F.heap
    rw [hnew, hat j hj]
    cases j with
    | zero =>
      rw [if_pos rfl]
      have hk2 : mk_e ad' X (2, 0, (List.range N).map (fun i => .inr (some (h.length + 1 + i)))) = .inl (X.2.1, N, .inr (.inr (.inr (.inr (fun i => if i < N then some (H.size + 1 + i) else none))))) := by
        unfold mk_e
        rw [if_neg (show ¬ (2 : Nat) = 0 by decide), if_neg (show ¬ (2 : Nat) = 1 by decide), if_pos rfl]
        have e1 : (fun j => (mk_ref ((List.range N).map (fun i => .inr (some (h.length + 1 + i)))) j).map ad') = fun i => if i < N then some (H.size + 1 + i) else none := by
          funext i
          unfold mk_ref
          rw [List.getElem?_map]
          by_cases z : i < N
          · rw [List.getElem?_range z, if_pos z]
            show some (ad' (h.length + 1 + i)) = _
            rw [Nat.add_assoc, hnew, Nat.add_assoc]
          · rw [List.getElem?_eq_none (by rw [List.length_range]; omega), if_neg z]
            rfl
        show (Sum.inl (X.2.1, ((List.range N).map (fun i => (.inr (some (h.length + 1 + i)) : mk_V))).length, _) : va_E) = _
        rw [List.length_map, List.length_range]
        exact congrArg (fun z => (Sum.inl (X.2.1, N, Sum.inr (Sum.inr (Sum.inr (Sum.inr z)))) : va_E)) e1
      rw [hk2]
      show F.heap[H.size + 0]? = some (vp_cell X.2.1 (N, _))
      rw [Nat.add_zero, f2, vp_cell_q]
      refine congrArg some ?_
      have hout : ∀ i : Nat, i ≤ N → Jvm.Free.Multi.outerC X.2.1 N H.size i = arrV X.2.1 N (fun j => va_rf (if j < i then some (H.size + 1 + j) else none)) := by
        intro i
        induction i with
        | zero =>
          intro _
          show ({ cls := X.2.1, slots := Array.replicate N .null, vm := .none } : Cell) = _
          rw [arrV_new]
          refine congrArg (arrV X.2.1 N) (funext fun j => ?_)
          simp [va_rf]
        | succ i ih =>
          intro hi
          show (Jvm.Free.Multi.outerC X.2.1 N H.size i).setSlot i (.ref (H.size + 1 + i)) = _
          rw [ih (by omega), arrV_store]
          refine congrArg (arrV X.2.1 N) (funext fun j => ?_)
          by_cases e : j = i
          · subst e
            simp [updV, va_rf]
          · by_cases h : j < i
            · simp [updV, e, h, Nat.lt_succ_of_lt h]
            · simp [updV, e, h, show ¬ j < i + 1 by omega]
      exact hout N (Nat.le_refl _)
    | succ j =>
      rw [if_neg (by omega)]
      have hk1 : mk_e ad' X (1, 0, List.replicate M (.inl 0)) = .inl (X.1, M, .inl (fun _ => 0)) := by
        rw [mk_kd1 rfl]
        show (Sum.inl (X.1, (List.replicate M (.inl 0 : mk_V)).length, _) : va_E) = _
        rw [List.length_replicate]
        refine congrArg (fun z => (Sum.inl (X.1, M, Sum.inl z) : va_E)) (funext fun i => ?_)
        unfold mk_int
        rw [List.getElem?_replicate]
        by_cases z : i < M
        · rw [if_pos z]
        · rw [if_neg z]
      rw [hk1]
      show F.heap[H.size + (j + 1)]? = some (vp_cell X.1 (M, _))
      rw [show H.size + (j + 1) = H.size + 1 + j by omega]
      exact hrow j (by omega)
  have hDn : va_D (mj_A Hb) (mk_ws ad' X (h ++ cs)) := by
    rw [mk_ws_app, ← mk_ws_ext hv.2 (fun k hk => (he k hk).symm)]
    refine hD.app ⟨fun i j x y hi hj hxy => ?_, fun k x hx => ?_⟩ (fun i j x y hi hj => ?_)
    · have li := (List.getElem?_eq_some_iff.mp hi).1
      have lj := (List.getElem?_eq_some_iff.mp hj).1
      rw [List.length_map, List.length_range] at li lj
      rw [List.getElem?_map, List.getElem?_range li] at hi
      rw [List.getElem?_map, List.getElem?_range lj] at hj
      cases hi
      cases hj
      have hxy : ad' (h.length + i) = ad' (h.length + j) := hxy
      rw [hnew, hnew] at hxy
      omega
    · have li := (List.getElem?_eq_some_iff.mp hx).1
      rw [List.length_map, List.length_range] at li
      rw [List.getElem?_map, List.getElem?_range li] at hx
      cases hx
      show mj_A Hb (ad' (h.length + k))
      rw [hnew]
      have h1 := C.2.2.2.2.2.2.1.1
      have h2 := hS.1
      show Hb.size ≤ H.size + k
      omega
    · have lj := (List.getElem?_eq_some_iff.mp hj).1
      rw [List.length_map, List.length_range] at lj
      rw [List.getElem?_map, List.getElem?_range lj] at hj
      cases hj
      have := (hP i x hi).lt
      show x.1 ≠ ad' (h.length + j)
      rw [hnew]
      omega
  have hSn : va_S (mj_A Hb) s.heap F.heap locs := ⟨by rw [f1]; have := hS.1; omega, fun x h1 h2 => (hold x (Nat.lt_of_lt_of_le h1 hS.1)).trans (hS.2.1 x h1 h2), hS.2.2⟩
  have hfin := mk_more (st := .inl k :: .inl n :: st) (cs := cs) (ad := ad) (ad' := ad') (cells := h.length - h0 + 1 + N) (slots := mk_sz h - sz0 + N + N * M) K hl hv ?_ g1 g2 ha he hPn hDn hSn hL (by rw [hlen]; omega) (by rw [hsz]; omega)
  · obtain ⟨t, a1, b1⟩ := hfin F rfl X'
    refine ⟨t, step t ?_, b1⟩
    rw [List.map_cons, mk_st_ext (fun k hk => hv.1.2 k (by simp [hk])) he] at a1
    have e3 : mk_rv ad' (.inr (some h.length)) = .ref T.heap.size := by
      show Value.ref (ad' h.length) = _
      have := hnew 0
      rw [Nat.add_zero, Nat.add_zero] at this
      rw [this, hT]
    rw [e3] at a1
    exact a1
  · refine ⟨⟨fun k hk => by rw [List.length_append]; have := hv.1.1 k hk; omega, fun k hk => ?_⟩, mk_wf_app hv.2 (fun y hy k hk => ?_)⟩
    · rw [List.length_append]
      rcases List.mem_cons.mp hk with z | z
      · cases z; omega
      · have := hv.1.2 k (by simp [z]); omega
    · rw [hlen]
      rw [hcs] at hy
      rcases List.mem_cons.mp hy with z | z
      · subst z
        obtain ⟨i, hi, hik⟩ := List.mem_map.mp hk
        have hi := List.mem_range.mp hi
        cases hik
        omega
      · have := List.eq_of_mem_replicate z
        subst this
        cases (List.eq_of_mem_replicate hk)
theorem nk_put (C : mk_CX p s m args meth c g D X Hb) {i r ci k : Nat} {v : mk_V} (hd : decode (mk_bc g) pc = .ok (.putfield i, 3)) (hf : mk_FL.contains (g, i, ci, k) = true) (hown : mj_cs_ ci = mj_cs_ g) (hk : k < (mj_cl.getD ci ("", mj_T0, 0)).2.2) (hci : ci < 8) (hr : r < h.length ∧ (mk_at h r).1 = 0 ∧ (mk_at h r).2.1 = ci ∧ k < (mk_at h r).2.2.length ∧ mk_okv (mk_fty ci k) v = true)
    (K : mk_GG p l e R s m args below meth c Q nL D X Hb ad0 h0 sz0 (pc + 3) ls st (mk_set h r k v)) : mk_GG p l e R s m args below meth c Q nL D X Hb ad0 h0 sz0 pc ls (v :: .inr (some r) :: st) h := by
  intro hl hv g1 g2 ad H locs la ha hP hD hS hL
  obtain ⟨h1, h2, h3, h4, h5⟩ := hr
  obtain ⟨Cn, T, N, hc, hT, hN, hcn⟩ := mj_cl_at hci
  have hw := mk_FL_ok _ (List.mem_map.mpr ⟨_, List.contains_iff_mem.mp hf, rfl⟩)
  have hlk := C.2.2.2.2.1 _ hw
  unfold mj_wf at hlk
  dsimp only at hlk
  rw [hT] at hlk
  obtain ⟨ty, t1, t2, t3⟩ := mk_okv_of (ad := ad) h5
  unfold mk_fty at t1
  rw [hT] at t1
  have he := mk_ws_at (ad := ad) (X := X) h1
  rw [mk_kd0 h2, h3] at he
  have hiv : mk_iv ls st (mk_set h r k v) := ⟨⟨fun k hk => by rw [mk_set_len]; exact hv.1.1 k hk, fun k hk => by rw [mk_set_len]; exact hv.1.2 k (by simp [hk])⟩, mk_wf_set hv.2 h1 (fun k hk => hv.1.2 k (by simp [hk]))⟩
  have ews : mk_ws ad X (mk_set h r k v) = (mk_ws ad X h).set r (ad r, .inr (ci, ((mk_at h r).2.2.map (mk_rv ad)).set k (mk_rv ad v))) := by
    unfold mk_set
    rw [mk_ws_set, mk_kd0 (c := ((mk_at h r).1, (mk_at h r).2.1, (mk_at h r).2.2.set k v)) h2]
    show (mk_ws ad X h).set r (ad r, .inr ((mk_at h r).2.1, ((mk_at h r).2.2.set k v).map (mk_rv ad))) = _
    rw [List.map_set, h3]
  by_cases hfin : (T k).2.2.2 = true
  · refine va_putF C.1 C.2.1 C.2.2.2.2.1 (mj_cl_u _ (List.mem_of_getElem? hc)) (fun j => (parseFieldDescriptor (T j).2.2.1).getD .int) (mj_cl_t _ (List.mem_of_getElem? hc)) (mj_cl_n _ (List.mem_of_getElem? hc)) C.2.2.2.1 C.2.2.2.2.2.1.1 hP hD hS r he hc k (hN ▸ hk) hlk (fun _ h => h) hfin C.2.2.2.2.2.2.2 ?_ t1 t2 t3 (by rw [List.length_map]; exact h4) hd (fun H1 locs1 hP1 hD1 hS1 => ?_)
    · have := beq_iff_eq.mp (List.all_eq_true.mp (List.all_eq_true.mp mk_decl ci (List.mem_range.mpr hci)) k (List.mem_range.mpr hk))
      rw [hT] at this
      rw [this, hown]
    · exact mk_chg K h1 hl hiv g1 g2 ha (by rw [ews]; exact hP1) (by rw [ews]; exact hD1) hS1 hL
  · refine va_put C.1 C.2.1 C.2.2.2.2.1 (mj_cl_u _ (List.mem_of_getElem? hc)) (fun j => (parseFieldDescriptor (T j).2.2.1).getD .int) (mj_cl_t _ (List.mem_of_getElem? hc)) (mj_cl_n _ (List.mem_of_getElem? hc)) C.2.2.2.1 C.2.2.2.2.2.1.1 hP hD hS r he hc k (hN ▸ hk) hlk (fun _ h => h) (by simpa using hfin) t1 t2 t3 (by rw [List.length_map]; exact h4) hd (fun H1 locs1 hP1 hD1 hS1 => ?_)
    exact mk_chg K h1 hl hiv g1 g2 ha (by rw [ews]; exact hP1) (by rw [ews]; exact hD1) hS1 hL
theorem nk_get (C : mk_CX p s m args meth c g D X Hb) {i r ci k z : Nat} (hd : decode (mk_bc g) pc = .ok (.getfield i, 3)) (hf : mk_FL.contains (g, i, ci, k) = true) (hk : k < (mj_cl.getD ci ("", mj_T0, 0)).2.2) (hci : ci < 8) (hr : r < h.length ∧ (mk_at h r).1 = 0 ∧ (mk_at h r).2.1 = ci) (hz : (mk_at h r).2.2[k]? = some (.inr (some z)))
    (K : mk_GG p l e R s m args below meth c Q nL D X Hb ad0 h0 sz0 (pc + 3) ls (.inr (some z) :: st) h) : mk_GG p l e R s m args below meth c Q nL D X Hb ad0 h0 sz0 pc ls (.inr (some r) :: st) h := by
  intro hl hv g1 g2 ad H locs la ha hP hD hS hL
  obtain ⟨h1, h2, h3⟩ := hr
  obtain ⟨Cn, T, N, hc, hT, hN, hcn⟩ := mj_cl_at hci
  have hw := mk_FL_ok _ (List.mem_map.mpr ⟨_, List.contains_iff_mem.mp hf, rfl⟩)
  have hlk := C.2.2.2.2.1 _ hw
  unfold mj_wf at hlk
  dsimp only at hlk
  rw [hT] at hlk
  have he := mk_ws_at (ad := ad) (X := X) h1
  rw [mk_kd0 h2, h3] at he
  refine va_get C.1 C.2.1 C.2.2.2.2.1 (mj_cl_u _ (List.mem_of_getElem? hc)) C.2.2.2.1 C.2.2.2.2.2.1.1 hP r he hc k (hN ▸ hk) hlk (fun _ h => h) (v := .ref (ad z)) (by rw [List.getElem?_map, hz]; rfl) hd ?_
  exact K hl ⟨⟨hv.1.1, fun k hk => (List.mem_cons.mp hk).elim (fun y => by cases y; exact hv.2 _ (mk_at_in h1).1 _ (List.mem_of_getElem? hz)) (fun y => hv.1.2 k (List.mem_cons_of_mem _ y))⟩, hv.2⟩ g1 g2 ad H locs la ha hP hD hS hL
theorem nk_aast (C : mk_CX p s m args meth c g D X Hb) {r v : Nat} {j : Int32} (hd : decode (mk_bc g) pc = .ok (.aastore, 1)) (hr : r < h.length ∧ v < h.length ∧ (mk_at h r).1 = 3 ∧ (mk_at h v).1 = 0 ∧ (mk_at h v).2.1 = 3 ∧ ¬ j < 0 ∧ j.toNatClampNeg < (mk_at h r).2.2.length)
    (K : mk_GG p l e R s m args below meth c Q nL D X Hb ad0 h0 sz0 (pc + 1) ls st (mk_set h r j.toNatClampNeg (.inr (some v)))) : mk_GG p l e R s m args below meth c Q nL D X Hb ad0 h0 sz0 pc ls (.inr (some v) :: .inl j :: .inr (some r) :: st) h := by
  intro hl hv g1 g2 ad H locs la ha hP hD hS hL
  obtain ⟨h1, h2, h3, h4, h5, h6, h7⟩ := hr
  have he := mk_ws_at (ad := ad) (X := X) h1
  rw [mk_kd3 h3] at he
  have hev := mk_ws_at (ad := ad) (X := X) h2
  rw [mk_kd0 h4, h5] at hev
  have hiv : mk_iv ls st (mk_set h r j.toNatClampNeg (.inr (some v))) := ⟨⟨fun k hk => by rw [mk_set_len]; exact hv.1.1 k hk, fun k hk => by rw [mk_set_len]; exact hv.1.2 k (by simp [hk])⟩, mk_wf_set hv.2 h1 (fun k hk => by cases hk; exact h2)⟩
  have ews : mk_ws ad X (mk_set h r j.toNatClampNeg (.inr (some v))) = (mk_ws ad X h).set r (ad r, .inl (X.2.2, (mk_at h r).2.2.length, .inr (.inr (.inr (.inr (va_up (fun i => (mk_ref (mk_at h r).2.2 i).map ad) j.toNatClampNeg (some (ad v)))))))) := by
    unfold mk_set
    rw [mk_ws_set, mk_kd3 (c := ((mk_at h r).1, (mk_at h r).2.1, (mk_at h r).2.2.set j.toNatClampNeg (.inr (some v)))) h3]
    show (mk_ws ad X h).set r (ad r, .inl (X.2.2, ((mk_at h r).2.2.set j.toNatClampNeg (.inr (some v))).length, _)) = _
    rw [List.length_set]
    refine congrArg (fun z => (mk_ws ad X h).set r (ad r, (Sum.inl (X.2.2, (mk_at h r).2.2.length, Sum.inr (Sum.inr (Sum.inr (Sum.inr z)))) : va_E))) (funext fun i => ?_)
    unfold mk_ref va_up
    by_cases e : i = j.toNatClampNeg
    · subst e
      show Option.map ad (match ((mk_at h r).2.2.set j.toNatClampNeg (.inr (some v)))[j.toNatClampNeg]? with
        | some (.inr r) => r
        | _ => none) = _
      rw [List.getElem?_set_self h7, if_pos rfl]
      rfl
    · show Option.map ad (match ((mk_at h r).2.2.set j.toNatClampNeg (.inr (some v)))[i]? with
        | some (.inr r) => r
        | _ => none) = _
      rw [List.getElem?_set_ne (fun z => e z.symm), if_neg e]
      rfl
  refine va_astq (r := ("CloudStrings$Sheet", mj_T3, 4)) C.1 C.2.1 C.2.2.2.2.2.1.1 hP hD hS r 2 v 3 he rfl hev rfl (fun z => z.elim h6 (fun z => absurd h7 (Nat.not_lt.mpr z))) hd (fun H1 locs1 hP1 hD1 hS1 => ?_)
  exact mk_chg K h1 hl hiv g1 g2 ha (by rw [ews]; exact hP1) (by rw [ews]; exact hD1) hS1 hL
theorem nk_iast (C : mk_CX p s m args meth c g D X Hb) {r : Nat} {j v : Int32} (hd : decode (mk_bc g) pc = .ok (.iastore, 1)) (hr : r < h.length ∧ (mk_at h r).1 = 1 ∧ ¬ j < 0 ∧ j.toNatClampNeg < (mk_at h r).2.2.length)
    (K : mk_GG p l e R s m args below meth c Q nL D X Hb ad0 h0 sz0 (pc + 1) ls st (mk_set h r j.toNatClampNeg (.inl v))) : mk_GG p l e R s m args below meth c Q nL D X Hb ad0 h0 sz0 pc ls (.inl v :: .inl j :: .inr (some r) :: st) h := by
  intro hl hv g1 g2 ad H locs la ha hP hD hS hL
  obtain ⟨h1, h3, h6, h7⟩ := hr
  have he := mk_ws_at (ad := ad) (X := X) h1
  rw [mk_kd1 h3] at he
  have hiv : mk_iv ls st (mk_set h r j.toNatClampNeg (.inl v)) := ⟨⟨fun k hk => by rw [mk_set_len]; exact hv.1.1 k hk, fun k hk => by rw [mk_set_len]; exact hv.1.2 k (by simp [hk])⟩, mk_wf_set hv.2 h1 (fun k hk => by cases hk)⟩
  have ews : mk_ws ad X (mk_set h r j.toNatClampNeg (.inl v)) = (mk_ws ad X h).set r (ad r, .inl (X.1, (mk_at h r).2.2.length, .inl (upd (mk_int (mk_at h r).2.2) j.toNatClampNeg v))) := by
    unfold mk_set
    rw [mk_ws_set, mk_kd1 (c := ((mk_at h r).1, (mk_at h r).2.1, (mk_at h r).2.2.set j.toNatClampNeg (.inl v))) h3]
    show (mk_ws ad X h).set r (ad r, .inl (X.1, ((mk_at h r).2.2.set j.toNatClampNeg (.inl v)).length, _)) = _
    rw [List.length_set]
    refine congrArg (fun z => (mk_ws ad X h).set r (ad r, (Sum.inl (X.1, (mk_at h r).2.2.length, Sum.inl z) : va_E))) (funext fun i => ?_)
    unfold mk_int upd
    by_cases e : i = j.toNatClampNeg
    · subst e
      show (match ((mk_at h r).2.2.set j.toNatClampNeg (.inl v))[j.toNatClampNeg]? with
        | some (.inl x) => x
        | _ => 0) = _
      rw [List.getElem?_set_self h7, if_pos rfl]
    · show (match ((mk_at h r).2.2.set j.toNatClampNeg (.inl v))[i]? with
        | some (.inl x) => x
        | _ => 0) = _
      rw [List.getElem?_set_ne (fun z => e z.symm), if_neg e]
      rfl
  refine va_iast C.1 C.2.1 C.2.2.2.2.2.1.1 hP hD hS r 0 he rfl (fun z => z.elim h6 (fun z => absurd h7 (Nat.not_lt.mpr z))) hd (fun H1 locs1 hP1 hD1 hS1 => ?_)
  exact mk_chg K h1 hl hiv g1 g2 ha (by rw [ews]; exact hP1) (by rw [ews]; exact hD1) hS1 hL
end MK2
