
/-! the law's walk to its loop -/
theorem lw_d0 : decode code 0 = .ok (.new 25, 3) := by decide +kernel
theorem lw_d3 : decode code 3 = .ok (.dup, 1) := by decide +kernel
theorem lw_d4 : decode code 4 = .ok (.invokespecial 62, 3) := by decide +kernel
theorem lw_d7 : decode code 7 = .ok (.astore_n 1, 1) := by decide +kernel
theorem lw_d8 : decode code 8 = .ok (.bipush 55, 2) := by decide +kernel
theorem lw_d10 : decode code 10 = .ok (.newarray .int, 2) := by decide +kernel
theorem lw_d12 : decode code 12 = .ok (.astore_n 2, 1) := by decide +kernel
theorem lw_d668 : decode code 668 = .ok (.new 25, 3) := by decide +kernel
theorem lw_d671 : decode code 671 = .ok (.dup, 1) := by decide +kernel
theorem lw_d672 : decode code 672 = .ok (.invokespecial 62, 3) := by decide +kernel
theorem lw_d675 : decode code 675 = .ok (.astore 8, 2) := by decide +kernel
theorem lw_d677 : decode code 677 = .ok (.bipush 55, 2) := by decide +kernel
theorem lw_d679 : decode code 679 = .ok (.newarray .int, 2) := by decide +kernel
theorem lw_d681 : decode code 681 = .ok (.astore 9, 2) := by decide +kernel
theorem lw_c7 : Cond.classLink R_law 25 (mj_cs_ 7) ∈ lw_tbl := by decide +kernel
theorem lw_m9 : Cond.methodLink R_law 62 (mk_y 7) ∈ lw_tbl := by decide +kernel
theorem lw_aI : Cond.arrayClass .int ∈ lw_tbl := by decide +kernel
/-- the law's own facts -/
def lw_LX (p : Program) (s : State) (m : MethodId) (c : Code) (b : Nat) (D : va_G) (X : mj_X) : Prop := p.tables.exec = Jvm.exec ∧ c.code = code ∧ c.maxLocals = 17 ∧ s.vm.findClass R_law = some m.cls ∧ (∀ w ∈ lw_tbl, w.before #[Value.ref b] s = true) ∧ mk_K D X s
section LWN
variable {p : Program} {l : Launch} {e : Env} {s : State} {m : MethodId} {below : List Frame} {meth : Method} {c : Code} {Q : State → Prop} {b : Nat} {D : va_G} {X : mj_X} {pc : Nat} {ad : Nat → Nat} {h : List mk_C} {H : Heap} {locs : List Loc} {la : Array Slot} {cells slots : Nat}
theorem lw_new (C : lw_LX p s m c b D X) {i ci : Nat} {st : List Value} (hg : ci < 8) (hw : mk_wf h) (hd : decode code pc = .ok (.new i, 3)) (hcl : Cond.classLink R_law i (mj_cs_ ci) ∈ lw_tbl) (hP : va_P D mj_cl (mk_ws ad X h) H) (hD : va_D (mj_A s.heap) (mk_ws ad X h)) (hS : va_S (mj_A s.heap) s.heap H locs)
    (hR : cells + 1 ≤ 600000 ∧ slots + mk_sz [(0, ci, mk_df.getD ci [])] ≤ 7302250)
    (kk : ∀ (ad' : Nat → Nat) (H1 : Heap), (∀ k, k < h.length → ad' k = ad k) → va_P D mj_cl (mk_ws ad' X (h ++ [(0, ci, mk_df.getD ci [])])) H1 → va_D (mj_A s.heap) (mk_ws ad' X (h ++ [(0, ci, mk_df.getD ci [])])) → va_S (mj_A s.heap) s.heap H1 locs → W p l e room_1 s m #[Value.ref b] below meth c H1 locs (cells + 1) (slots + mk_sz [(0, ci, mk_df.getD ci [])]) Q (F0 m (pc + 3) la (.ref (ad' h.length) :: st))) : W p l e room_1 s m #[Value.ref b] below meth c H locs cells slots Q (F0 m pc la st) := by
  obtain ⟨Cn, T, N, hc, hT, hN, hcn⟩ := mj_cl_at hg
  have hdf := mk_df_no hg
  have hno : ∀ v ∈ mk_df.getD ci [], ∀ k, v ≠ .inr (some k) := fun v hm k e => hdf.1 k (e ▸ hm)
  have hw2 : Cond.instantiable Cn N ∈ mj_WA := by
    have := mk_IN_ok _ (List.mem_map.mpr ⟨ci, List.mem_range.mpr hg, rfl⟩)
    rwa [hcn, hN] at this
  have hw3 : Cond.initialized Cn ∈ mj_WA := hcn ▸ mk_IT_ok _ (List.mem_map.mpr ⟨ci, List.mem_range.mpr hg, rfl⟩)
  rw [hcn] at hcl
  have hdv := List.all_eq_true.mp mk_df_v ci (List.mem_range.mpr hg)
  generalize mk_df.getD ci [] = dl at kk hdf hno hdv hR ⊢
  have hsz : mk_sz [(0, ci, dl)] = N := by rw [← hN, ← hdf.2]; simp [mk_sz]
  rw [hsz] at hR
  refine va_new (ci := ci) (fs := (dl).map (mk_rv ad)) (Ts := lw_tbl) C.1 C.2.1 C.2.2.2.2.1 (fun w hw => (List.mem_filter.mp (mj_cl_u _ (List.mem_of_getElem? hc) w hw)).1) (fun j => (parseFieldDescriptor (T j).2.2.1).getD .int) (mj_cl_t _ (List.mem_of_getElem? hc)) C.2.2.2.1 (C.2.2.2.2.1 _ hcl) (C.2.2.2.2.1 _ (List.mem_filter.mp hw2).1) (C.2.2.2.2.1 _ (List.mem_filter.mp hw3).1) C.2.2.2.2.2.1 hP hD hS (fun q hq => hq) hc (fun j hj => ?_) hR.1 hR.2 hd (fun q H1 hP1 hD1 hS1 => ?_)
  · have h2 := of_decide_eq_true (List.all_eq_true.mp hdv j (List.mem_range.mpr (by rw [hN]; exact hj)))
    unfold mk_fty at h2
    rw [hT] at h2
    rw [h2]
    unfold vp_V
    rw [List.getD_eq_getElem?_getD, List.getD_eq_getElem?_getD, List.getElem?_map]
    have hjl : j < (dl).length := by rw [hdf.2, hN]; exact hj
    rw [List.getElem?_eq_getElem hjl]
    exact (mk_rv_no (hno _ (List.getElem_mem hjl))).symm
  · have he : ∀ k, k < h.length → (fun k => if k = h.length then q else ad k) k = ad k := fun k hk => if_neg (by omega)
    have ews : mk_ws (fun k => if k = h.length then q else ad k) X (h ++ [(0, ci, dl)]) = mk_ws ad X h ++ [(q, .inr (ci, (dl).map (mk_rv ad)))] := by
      rw [mk_ws_app, ← mk_ws_ext hw (fun k hk => (he k hk).symm)]
      have e2 : (dl).map (mk_rv (fun k => if k = h.length then q else ad k)) = (dl).map (mk_rv ad) := by
        apply List.map_congr_left
        intro v hm
        exact (mk_rv_no (hno v hm)).trans (mk_rv_no (hno v hm)).symm
      rw [← e2]
      simp [mk_at, mk_e, List.range_succ]
    have hfin := kk (fun k => if k = h.length then q else ad k) H1 he (by rw [ews]; exact hP1) (by rw [ews]; exact hD1) hS1
    rw [hsz] at hfin
    rw [if_pos rfl] at hfin
    exact hfin
theorem lw_inv (C : lw_LX p s m c b D X) {i r g' n : Nat} {h1 : List mk_C} {st : List mk_V} (hg' : g' < 8) (hd : decode code pc = .ok (.invokespecial i, 3)) (hl : Cond.methodLink R_law i (mk_y g') ∈ lw_tbl) (hr : r < h.length) (hw : mk_wf h) (e1 : mk_go n g' 0 (some (.inr (some r)) :: List.replicate (mk_mx g' - 1) none) [] h = some h1)
    (hP : va_P D mj_cl (mk_ws ad X h) H) (hD : va_D (mj_A s.heap) (mk_ws ad X h)) (hS : va_S (mj_A s.heap) s.heap H locs) (hla : la.size = 17) (hst : st.length ≤ 8) (hR : mk_dp g' + 1 ≤ 10 ∧ 8 + (mk_mx g' + 11) + 30 * mk_dp g' ≤ 400) (hcs : cells + (h1.length - h.length) ≤ 600000 ∧ slots + (mk_sz h1 - mk_sz h) ≤ 7302250)
    (kk : ∀ (H1 : Heap) (locs1 : List Loc) (ad' : Nat → Nat), (∀ k, k < h.length → ad' k = ad k) → va_P D mj_cl (mk_ws ad' X h1) H1 → va_D (mj_A s.heap) (mk_ws ad' X h1) → va_S (mj_A s.heap) s.heap H1 locs1 → W p l e room_1 s m #[Value.ref b] below meth c H1 locs1 (cells + (h1.length - h.length)) (slots + (mk_sz h1 - mk_sz h)) Q (F0 m (pc + 3) la (st.map (mk_rv ad)))) : W p l e room_1 s m #[Value.ref b] below meth c H locs cells slots Q (F0 m pc la ((.inr (some r) :: st).map (mk_rv ad))) := by
  obtain ⟨-, y2, y3, y4, y5⟩ := mk_ydo hg'
  have hWA : ∀ w ∈ mj_WA, w.before #[Value.ref b] s = true := fun w hw => C.2.2.2.2.1 w (List.mem_filter.mp hw).1
  have cw := callB_of (R := room_1) (s := s) (args := #[Value.ref b]) (own := R_law) (index := i) (y := mk_y g') (bytes := mk_bc g') (maxL := mk_mx g') (ret := none) (ws := mk_wsf g') (rm := mk_rm g' (h1.length - h.length) (mk_sz h1 - mk_sz h)) (mc := h1.length - h.length) (ms := mk_sz h1 - mk_sz h) (ws' := mj_WA) 0 hWA (mk_good hg') rfl rfl rfl (hWA _ (mk_IT_ok _ (List.mem_map.mpr ⟨g', List.mem_range.mpr hg', rfl⟩))) (C.2.2.2.2.1 _ hl) ⟨y2, y3, y4⟩ hR
  have hrun := va_runI (rest := st.map (mk_rv ad)) (As := []) (b := ad r) (g := F0 m pc la ((.inr (some r) :: st).map (mk_rv ad))) (H := H) (locs := locs) (cells := cells) (slots := slots) (e := e) (below := below) (meth := meth) (nL := 17) (Ts := lw_tbl) ⟨C.1, C.2.1, C.2.2.1, C.2.2.2.1, C.2.2.2.2.1⟩ (mk_met (mk_main n) hg' hr hw e1 l D X s.heap ad) ⟨cw, rfl, hWA _ (mk_IM_ok _ (List.mem_map.mpr ⟨g', List.mem_range.mpr hg', rfl⟩))⟩ ⟨mk_blind, fun U hU hW => ⟨rfl, by rw [hU]; exact hP, hD, by rw [hU]; exact ⟨hS.1, hS.2.1, fun q hq => by cases hq⟩, mk_K.moved hW C.2.2.2.2.2⟩⟩ rfl rfl hla rfl (lv_room (by rw [mk_cat_sum]; exact hst)) hd hcs
  exact mk_run hrun hS (fun H1 locs1 ad' hea hP1 hD1 hS1 => kk H1 locs1 ad' hea hP1 hD1 hS1)
theorem lw_newa (C : lw_LX p s m c b D X) {st : List Value} (hw : mk_wf h) (hd : decode code pc = .ok (.newarray .int, 2)) (hP : va_P D mj_cl (mk_ws ad X h) H) (hD : va_D (mj_A s.heap) (mk_ws ad X h)) (hS : va_S (mj_A s.heap) s.heap H locs)
    (hR : cells + 1 ≤ 600000 ∧ slots + 55 ≤ 7302250)
    (kk : ∀ (ad' : Nat → Nat) (H1 : Heap), (∀ k, k < h.length → ad' k = ad k) → va_P D mj_cl (mk_ws ad' X (h ++ [(1, 0, List.replicate 55 (.inl 0))])) H1 → va_D (mj_A s.heap) (mk_ws ad' X (h ++ [(1, 0, List.replicate 55 (.inl 0))])) → va_S (mj_A s.heap) s.heap H1 locs → W p l e room_1 s m #[Value.ref b] below meth c H1 locs (cells + 1) (slots + 55) Q (F0 m (pc + 2) la (.ref (ad' h.length) :: st))) : W p l e room_1 s m #[Value.ref b] below meth c H locs cells slots Q (F0 m pc la (.int 55 :: st)) := by
  refine va_newa (atype := .int) (ty := .int) (N' := 55) (a0 := (55, .inl (fun _ => 0))) C.1 C.2.1 (C.2.2.2.2.1 _ lw_aI) rfl C.2.2.2.2.2.1 hP hD hS (fun q hq => hq) (fun _ => rfl) (by decide) rfl (by show 55 * 4 ≤ _; omega) (by exact hR.1) (by exact hR.2) hd (fun q cA H1 hK1 hP1 hD1 hS1 => ?_)
  have ecA : cA = X.1 := by
    have h1 : s.vm.findClass ("[" ++ FieldType.int.toString) = some cA := (hK1.2 3 _ rfl).2
    have h2 : s.vm.findClass ("[" ++ FieldType.int.toString) = some X.1 := (C.2.2.2.2.2.1.2 0 _ rfl).2
    exact Option.some.inj (h1.symm.trans h2)
  subst ecA
  have he : ∀ k, k < h.length → (fun k => if k = h.length then q else ad k) k = ad k := fun k hk => if_neg (by omega)
  have e0 : mk_int (List.replicate 55 (.inl 0)) = fun _ => 0 := by
    funext j
    unfold mk_int
    rw [List.getElem?_replicate]
    by_cases z : j < 55
    · rw [if_pos z]
    · rw [if_neg z]
  have ews : mk_ws (fun k => if k = h.length then q else ad k) X (h ++ [(1, 0, List.replicate 55 (.inl 0 : mk_V))]) = mk_ws ad X h ++ [(q, .inl (X.1, 55, .inl (fun _ => 0)))] := by
    rw [mk_ws_app, ← mk_ws_ext hw (fun k hk => (he k hk).symm)]
    generalize hz : (List.replicate 55 (.inl 0) : List mk_V) = z
    rw [hz] at e0
    have e1 : z.length = 55 := by rw [← hz, List.length_replicate]
    simp [mk_at, mk_e, List.range_succ, e0, e1]
  have hfin := kk (fun k => if k = h.length then q else ad k) H1 he (by rw [ews]; exact hP1) (by rw [ews]; exact hD1) hS1
  rw [if_pos rfl] at hfin
  exact hfin
theorem lw_sz55 {h : List mk_C} : mk_sz (h ++ [(1, 0, List.replicate 55 (.inl 0))]) = mk_sz h + 55 := by
  rw [mk_sz_app]
  congr 1
theorem lw_wf0 : mk_wf [(0, 7, mk_df.getD 7 [])] := fun c hc k hk => by
  rw [List.mem_singleton.mp hc] at hk
  exact ((mk_df_no (by decide : 7 < 8)).1 k hk).elim
/-- an object of the class, and a row of 55 numbers: made at two places of the law -/
theorem lw_mk (C : lw_LX p s m c b D X) {h1 : List mk_C} (e1 : mk_go 200 7 0 [some (.inr (some 0))] [] [(0, 7, mk_df.getD 7 [])] = some h1) {pc2 k1 : Nat} {T : List (Nat × Value)} (d0 : decode code pc = .ok (.new 25, 3)) (d3 : decode code (pc + 3) = .ok (.dup, 1)) (d4 : decode code (pc + 3 + 1) = .ok (.invokespecial 62, 3))
    (hS : va_S (mj_A s.heap) s.heap H locs) (hla : la.size = 17) (hn : cells + (h1.length + 1) ≤ 600000) (hz : slots + (mk_sz h1 + 55) ≤ 7302250)
    (st1 : ∀ (H2 : Heap) (locs2 : List Loc) (cells2 slots2 : Nat) (v : Nat), (∀ la2 : Array Slot, lv_has la2 17 ((k1, .ref v) :: T) → W p l e room_1 s m #[Value.ref b] below meth c H2 locs2 cells2 slots2 Q (F0 m pc2 la2 [.int 55])) → W p l e room_1 s m #[Value.ref b] below meth c H2 locs2 cells2 slots2 Q (F0 m (pc + 3 + 1 + 3) la [.ref v]))
    (d10 : decode code pc2 = .ok (.newarray .int, 2))
    (kk : ∀ (ad : Nat → Nat) (H1 : Heap) (locs1 : List Loc) (la1 : Array Slot), va_P D mj_cl (mk_ws ad X (h1 ++ [(1, 0, List.replicate 55 (.inl 0))])) H1 → va_D (mj_A s.heap) (mk_ws ad X (h1 ++ [(1, 0, List.replicate 55 (.inl 0))])) → va_S (mj_A s.heap) s.heap H1 locs1 → lv_has la1 17 ((k1, .ref (ad 0)) :: T) →
      W p l e room_1 s m #[Value.ref b] below meth c H1 locs1 (cells + (h1.length + 1)) (slots + (mk_sz h1 + 55)) Q (F0 m (pc2 + 2) la1 [.ref (ad h1.length)])) :
    W p l e room_1 s m #[Value.ref b] below meth c H locs cells slots Q (F0 m pc la []) := by
  have i1 := mk_inv _ _ _ _ _ _ _ e1 ⟨⟨fun k hk => (List.mem_cons.mp hk).elim (fun z => by cases z; exact Nat.one_pos) (fun z => by cases z), fun k hk => by cases hk⟩, lw_wf0⟩
  have hl0 : ([(0, 7, mk_df.getD 7 [])] : List mk_C).length = 1 := rfl
  have i12 := i1.2.1
  have i13 := i1.2.2
  refine lw_new (ad := fun _ => 0) (h := []) C (by decide : 7 < 8) (fun c hc => by cases hc) d0 lw_c7 (fun k q hq => by cases hq) ⟨fun i j p q hi => (by cases hi), fun k q hq => by cases hq⟩ hS ⟨by omega, by omega⟩ (fun ad1 H1 _ hP1 hD1 hS1 => ?_)
  refine lv_dup C.1 C.2.1 d3 rfl ?_
  refine lw_inv (h := [(0, 7, mk_df.getD 7 [])]) (st := [.inr (some 0)]) C (by decide : 7 < 8) d4 lw_m9 Nat.one_pos lw_wf0 e1 hP1 hD1 hS1 hla (by decide) ⟨by decide, by decide⟩ ⟨by omega, by omega⟩ (fun H2 locs2 ad2 he2 hP2 hD2 hS2 => ?_)
  rw [show ([.inr (some 0)] : List mk_V).map (mk_rv ad1) = [.ref (ad2 0)] by rw [he2 0 Nat.one_pos]; rfl]
  refine st1 _ _ _ _ _ (fun la2 z3 => ?_)
  refine lw_newa C i1.1 d10 hP2 hD2 hS2 ⟨by omega, by omega⟩ (fun ad3 H3 he3 hP3 hD3 hS3 => ?_)
  refine W.cs (cells' := cells + (h1.length + 1)) (slots' := slots + (mk_sz h1 + 55)) (by omega) (by omega) ?_
  exact kk ad3 H3 locs2 la2 hP3 hD3 hS3 (by rw [he3 0 (by omega)]; exact z3)
/-- from the entry to the law's first call -/
theorem lw_go1 (C : lw_LX p s m c b D X) {h1 : List mk_C} (e1 : mk_go 200 7 0 [some (.inr (some 0))] [] [(0, 7, mk_df.getD 7 [])] = some h1) (hn : h1.length + 1 ≤ 600000) (hz : mk_sz h1 + 55 ≤ 7302250)
    (kk : ∀ (ad : Nat → Nat) (H : Heap) (locs : List Loc) (la : Array Slot), va_P D mj_cl (mk_ws ad X (h1 ++ [(1, 0, List.replicate 55 (.inl 0))])) H → va_D (mj_A s.heap) (mk_ws ad X (h1 ++ [(1, 0, List.replicate 55 (.inl 0))])) → va_S (mj_A s.heap) s.heap H locs → lv_has la 17 [(2, .ref (ad h1.length)), (1, .ref (ad 0)), (0, .ref b)] → W p l e room_1 s m #[Value.ref b] below meth c H locs (h1.length + 1) (mk_sz h1 + 55) Q (F0 m 13 la [])) :
    W p l e room_1 s m #[Value.ref b] below meth c s.heap [] 0 0 Q (entryFrame m ([Value.ref b] : List Value).toArray 17) := by
  rw [lg_entry_eq]
  have hL0 := lv_entry [.ref b] (n := 17) (show 1 ≤ 17 by decide)
  have hL0 : lv_has _ 17 [(0, Value.ref b)] := hL0
  revert hL0
  generalize (lg_sl [Value.ref b] ++ List.replicate (17 - (lg_sl [Value.ref b]).length) Slot.unset).toArray = la0
  intro hL0
  refine lw_mk (pc2 := 10) (k1 := 1) (T := [(0, .ref b)]) C e1 lw_d0 lw_d3 lw_d4 va_S.rf hL0.1 (by omega) (by omega) (fun H2 locs2 cells2 slots2 v kk2 => ?_) lw_d10 (fun ad H1 locs1 la1 hP hD hS hL => ?_)
  · exact lv_astore_n C.1 C.2.1 lw_d7 rfl hL0 (by decide : 1 < 17) rfl (fun la1 hL1 => lv_bipush C.1 C.2.1 lw_d8 (v := 55) rfl (kk2 la1 hL1))
  · refine lv_astore_n C.1 C.2.1 lw_d12 rfl hL (by decide : 2 < 17) rfl (fun la2 hL2 => ?_)
    refine W.cs (cells' := h1.length + 1) (slots' := mk_sz h1 + 55) (by omega) (by omega) ?_
    exact kk ad H1 locs1 la2 hP hD hS hL2
/-- the second object and row -/
theorem lw_go2 (C : lw_LX p s m c b D X) {h1 : List mk_C} (e1 : mk_go 200 7 0 [some (.inr (some 0))] [] [(0, 7, mk_df.getD 7 [])] = some h1) (hn : cells + (h1.length + 1) ≤ 600000) (hz : slots + (mk_sz h1 + 55) ≤ 7302250) (hS : va_S (mj_A s.heap) s.heap H locs) {n4 n5 n7 : Int32} (hL : lv_has la 17 [(7, .int n7), (5, .int n5), (4, .int n4), (3, .int 1), (0, .ref b)])
    (kk : ∀ (ad : Nat → Nat) (H1 : Heap) (locs1 : List Loc) (la1 : Array Slot), va_P D mj_cl (mk_ws ad X (h1 ++ [(1, 0, List.replicate 55 (.inl 0))])) H1 → va_D (mj_A s.heap) (mk_ws ad X (h1 ++ [(1, 0, List.replicate 55 (.inl 0))])) → va_S (mj_A s.heap) s.heap H1 locs1 → lv_has la1 17 [(9, .ref (ad h1.length)), (8, .ref (ad 0)), (7, .int n7), (5, .int n5), (4, .int n4), (3, .int 1), (0, .ref b)] → W p l e room_1 s m #[Value.ref b] below meth c H1 locs1 (cells + (h1.length + 1)) (slots + (mk_sz h1 + 55)) Q (F0 m 683 la1 [])) :
    W p l e room_1 s m #[Value.ref b] below meth c H locs cells slots Q (F0 m 668 la []) := by
  refine lw_mk (pc2 := 679) (k1 := 8) (T := [(7, .int n7), (5, .int n5), (4, .int n4), (3, .int 1), (0, .ref b)]) C e1 lw_d668 lw_d671 lw_d672 hS hL.1 hn hz (fun H2 locs2 cells2 slots2 v kk2 => ?_) lw_d679 (fun ad H1 locs1 la1 hP hD hS hL => ?_)
  · exact lv_astore C.1 C.2.1 lw_d675 hL (by decide : 8 < 17) rfl (fun la1 hL1 => lv_bipush C.1 C.2.1 lw_d677 (v := 55) rfl (kk2 la1 hL1))
  · exact lv_astore C.1 C.2.1 lw_d681 hL (by decide : 9 < 17) rfl (fun la2 hL2 => kk ad H1 locs1 la2 hP hD hS hL2)
end LWN
