
/-! the law's walk to its loop -/
theorem lw_d0 : decode code 0 = .ok (.new 7, 3) := by decide +kernel
theorem lw_d3 : decode code 3 = .ok (.dup, 1) := by decide +kernel
theorem lw_d4 : decode code 4 = .ok (.invokespecial 9, 3) := by decide +kernel
theorem lw_d7 : decode code 7 = .ok (.astore_n 1, 1) := by decide +kernel
theorem lw_d8 : decode code 8 = .ok (.new 10, 3) := by decide +kernel
theorem lw_d11 : decode code 11 = .ok (.dup, 1) := by decide +kernel
theorem lw_d12 : decode code 12 = .ok (.invokespecial 12, 3) := by decide +kernel
theorem lw_d15 : decode code 15 = .ok (.astore_n 2, 1) := by decide +kernel
theorem lw_d16 : decode code 16 = .ok (.iconst 0, 1) := by decide +kernel
theorem lw_d17 : decode code 17 = .ok (.istore_n 3, 1) := by decide +kernel
theorem lw_c7 : Cond.classLink R_law 7 (mj_cs_ 7) ∈ lw_tbl := by decide +kernel
theorem lw_c10 : Cond.classLink R_law 10 (mj_cs_ 8) ∈ lw_tbl := by decide +kernel
theorem lw_m9 : Cond.methodLink R_law 9 (mk_y 7) ∈ lw_tbl := by decide +kernel
theorem lw_m12 : Cond.methodLink R_law 12 (mk_y 8) ∈ lw_tbl := by decide +kernel
/-- the law's own facts -/
def lw_LX (p : Program) (s : State) (m : MethodId) (c : Code) (b : Nat) (D : va_G) (X : mj_X) : Prop := p.tables.exec = Jvm.exec ∧ c.code = code ∧ c.maxLocals = 4 ∧ s.vm.findClass R_law = some m.cls ∧ (∀ w ∈ lw_tbl, w.before #[Value.ref b] s = true) ∧ mk_K D X s
section LWN
variable {p : Program} {l : Launch} {e : Env} {s : State} {m : MethodId} {below : List Frame} {meth : Method} {c : Code} {Q : State → Prop} {b : Nat} {D : va_G} {X : mj_X} {pc : Nat} {ad : Nat → Nat} {h : List mk_C} {H : Heap} {locs : List Loc} {la : Array Slot} {cells slots : Nat}
theorem lw_new (C : lw_LX p s m c b D X) {i ci : Nat} {st : List Value} (hg : ci < 9) (hw : mk_wf h) (hd : decode code pc = .ok (.new i, 3)) (hcl : Cond.classLink R_law i (mj_cs_ ci) ∈ lw_tbl) (hP : va_P D mj_cl (mk_ws ad X h) H) (hD : va_D (mj_A s.heap) (mk_ws ad X h)) (hS : va_S (mj_A s.heap) s.heap H locs)
    (hR : cells + 1 ≤ 600000 ∧ slots + mk_sz [(0, ci, mk_df.getD ci [])] ≤ 7302250)
    (kk : ∀ (ad' : Nat → Nat) (H1 : Heap), (∀ k, k < h.length → ad' k = ad k) → va_P D mj_cl (mk_ws ad' X (h ++ [(0, ci, mk_df.getD ci [])])) H1 → va_D (mj_A s.heap) (mk_ws ad' X (h ++ [(0, ci, mk_df.getD ci [])])) → va_S (mj_A s.heap) s.heap H1 locs → W p l e room_1 s m #[Value.ref b] below meth c H1 locs (cells + 1) (slots + mk_sz [(0, ci, mk_df.getD ci [])]) Q (F0 m (pc + 3) la (.ref (ad' h.length) :: st))) : W p l e room_1 s m #[Value.ref b] below meth c H locs cells slots Q (F0 m pc la st) := by
  obtain ⟨Cn, T, N, hc, hT, hN, hcn⟩ := mj_cl_at hg
  have hdf := mk_df_no hg
  have hno : ∀ v ∈ mk_df.getD ci [], ∀ k, v ≠ .inr (some k) := fun v hm k e => hdf.1 k (e ▸ hm)
  have hw2 : Cond.instantiable Cn N ∈ mj_WA := by
    have := mk_IN_ok _ (List.mem_map.mpr ⟨ci, List.mem_range.mpr hg, rfl⟩)
    rwa [hcn, hN] at this
  have hw3 : Cond.initialized Cn ∈ mj_WA := hcn ▸ mk_IT_ok _ (List.mem_map.mpr ⟨ci, List.mem_range.mpr hg, rfl⟩)
  rw [hcn] at hcl
  have hdv := List.all_eq_true.mp mk_df_v ci (List.mem_range.mpr hg)
  generalize mk_df.getD ci [] = dl at kk hdf hno hdv hR ⊢
  have hsz : mk_sz [(0, ci, dl)] = N := by rw [← hN, ← hdf.2]; simp [mk_sz]
  rw [hsz] at hR
  refine va_new (ci := ci) (fs := (dl).map (mk_rv ad)) (Ts := lw_tbl) C.1 C.2.1 C.2.2.2.2.1 (fun w hw => (List.mem_filter.mp (mj_cl_u _ (List.mem_of_getElem? hc) w hw)).1) (fun j => (parseFieldDescriptor (T j).2.2.1).getD .int) (mj_cl_t _ (List.mem_of_getElem? hc)) C.2.2.2.1 (C.2.2.2.2.1 _ hcl) (C.2.2.2.2.1 _ (List.mem_filter.mp hw2).1) (C.2.2.2.2.1 _ (List.mem_filter.mp hw3).1) C.2.2.2.2.2.1 hP hD hS (fun q hq => hq) hc (fun j hj => ?_) hR.1 hR.2 hd (fun q H1 hP1 hD1 hS1 => ?_)
  · have h2 := of_decide_eq_true (List.all_eq_true.mp hdv j (List.mem_range.mpr (by rw [hN]; exact hj)))
    unfold mk_fty at h2
    rw [hT] at h2
    rw [h2]
    unfold vp_V
    rw [List.getD_eq_getElem?_getD, List.getD_eq_getElem?_getD, List.getElem?_map]
    have hjl : j < (dl).length := by rw [hdf.2, hN]; exact hj
    rw [List.getElem?_eq_getElem hjl]
    exact (mk_rv_no (hno _ (List.getElem_mem hjl))).symm
  · have he : ∀ k, k < h.length → (fun k => if k = h.length then q else ad k) k = ad k := fun k hk => if_neg (by omega)
    have ews : mk_ws (fun k => if k = h.length then q else ad k) X (h ++ [(0, ci, dl)]) = mk_ws ad X h ++ [(q, .inr (ci, (dl).map (mk_rv ad)))] := by
      rw [mk_ws_app, ← mk_ws_ext hw (fun k hk => (he k hk).symm)]
      have e2 : (dl).map (mk_rv (fun k => if k = h.length then q else ad k)) = (dl).map (mk_rv ad) := by
        apply List.map_congr_left
        intro v hm
        exact (mk_rv_no (hno v hm)).trans (mk_rv_no (hno v hm)).symm
      rw [← e2]
      simp [mk_at, mk_e, List.range_succ]
    have hfin := kk (fun k => if k = h.length then q else ad k) H1 he (by rw [ews]; exact hP1) (by rw [ews]; exact hD1) hS1
    rw [hsz] at hfin
    rw [if_pos rfl] at hfin
    exact hfin
theorem lw_inv (C : lw_LX p s m c b D X) {i r g' n : Nat} {h1 : List mk_C} {st : List mk_V} (hg' : g' < 9) (hd : decode code pc = .ok (.invokespecial i, 3)) (hl : Cond.methodLink R_law i (mk_y g') ∈ lw_tbl) (hr : r < h.length) (hw : mk_wf h) (e1 : mk_go n g' 0 (some (.inr (some r)) :: List.replicate (mk_mx g' - 1) none) [] h = some h1)
    (hP : va_P D mj_cl (mk_ws ad X h) H) (hD : va_D (mj_A s.heap) (mk_ws ad X h)) (hS : va_S (mj_A s.heap) s.heap H locs) (hla : la.size = 4) (hst : st.length ≤ 8) (hR : mk_dp g' + 1 ≤ 10 ∧ 8 + (mk_mx g' + 11) + 30 * mk_dp g' ≤ 406) (hcs : cells + (h1.length - h.length) ≤ 600000 ∧ slots + (mk_sz h1 - mk_sz h) ≤ 7302250)
    (kk : ∀ (H1 : Heap) (locs1 : List Loc) (ad' : Nat → Nat), (∀ k, k < h.length → ad' k = ad k) → va_P D mj_cl (mk_ws ad' X h1) H1 → va_D (mj_A s.heap) (mk_ws ad' X h1) → va_S (mj_A s.heap) s.heap H1 locs1 → W p l e room_1 s m #[Value.ref b] below meth c H1 locs1 (cells + (h1.length - h.length)) (slots + (mk_sz h1 - mk_sz h)) Q (F0 m (pc + 3) la (st.map (mk_rv ad)))) : W p l e room_1 s m #[Value.ref b] below meth c H locs cells slots Q (F0 m pc la ((.inr (some r) :: st).map (mk_rv ad))) := by
  obtain ⟨-, y2, y3, y4, y5⟩ := mk_ydo hg'
  have hWA : ∀ w ∈ mj_WA, w.before #[Value.ref b] s = true := fun w hw => C.2.2.2.2.1 w (List.mem_filter.mp hw).1
  have cw := callB_of (R := room_1) (s := s) (args := #[Value.ref b]) (own := R_law) (index := i) (y := mk_y g') (bytes := mk_bc g') (maxL := mk_mx g') (ret := none) (ws := mk_wsf g') (rm := mk_rm g' (h1.length - h.length) (mk_sz h1 - mk_sz h)) (mc := h1.length - h.length) (ms := mk_sz h1 - mk_sz h) (ws' := mj_WA) 0 hWA (mk_good hg') rfl rfl rfl (hWA _ (mk_IT_ok _ (List.mem_map.mpr ⟨g', List.mem_range.mpr hg', rfl⟩))) (C.2.2.2.2.1 _ hl) ⟨y2, y3, y4⟩ hR
  have hrun := va_runI (rest := st.map (mk_rv ad)) (As := []) (b := ad r) (g := F0 m pc la ((.inr (some r) :: st).map (mk_rv ad))) (H := H) (locs := locs) (cells := cells) (slots := slots) (e := e) (below := below) (meth := meth) (nL := 4) (Ts := lw_tbl) ⟨C.1, C.2.1, C.2.2.1, C.2.2.2.1, C.2.2.2.2.1⟩ (mk_met (mk_main n) hg' hr hw e1 l D X s.heap ad) ⟨cw, rfl, hWA _ (mk_IM_ok _ (List.mem_map.mpr ⟨g', List.mem_range.mpr hg', rfl⟩))⟩ ⟨mk_blind, fun U hU hW => ⟨rfl, by rw [hU]; exact hP, hD, by rw [hU]; exact ⟨hS.1, hS.2.1, fun q hq => by cases hq⟩, mk_K.moved hW C.2.2.2.2.2⟩⟩ rfl rfl hla rfl (lv_room (by rw [mk_cat_sum]; exact hst)) hd hcs
  exact mk_run hrun hS (fun H1 locs1 ad' hea hP1 hD1 hS1 => kk H1 locs1 ad' hea hP1 hD1 hS1)
theorem lw_go (C : lw_LX p s m c b D X) {h1 h2 : List mk_C} (e1 : mk_go 200 7 0 [some (.inr (some 0))] [] [(0, 7, mk_df.getD 7 [])] = some h1) (e2 : mk_go 200 8 0 [some (.inr (some h1.length)), none] [] (h1 ++ [(0, 8, mk_df.getD 8 [])]) = some h2) (hn : h2.length ≤ 600000) (hz : mk_sz h2 ≤ 7302250)
    (kk : ∀ (ad : Nat → Nat) (H : Heap) (locs : List Loc) (la : Array Slot), va_P D mj_cl (mk_ws ad X h2) H → va_D (mj_A s.heap) (mk_ws ad X h2) → va_S (mj_A s.heap) s.heap H locs → lv_has la 4 [(3, .int 0), (2, .ref (ad h1.length)), (1, .ref (ad 0)), (0, .ref b)] → W p l e room_1 s m #[Value.ref b] below meth c H locs h2.length (mk_sz h2) Q (F0 m 18 la [])) :
    W p l e room_1 s m #[Value.ref b] below meth c s.heap [] 0 0 Q (entryFrame m ([Value.ref b] : List Value).toArray 4) := by
  rw [lg_entry_eq]
  have hL0 := lv_entry [.ref b] (n := 4) (show 1 ≤ 4 by decide)
  have hL0 : lv_has _ 4 [(0, Value.ref b)] := hL0
  revert hL0
  generalize (lg_sl [Value.ref b] ++ List.replicate (4 - (lg_sl [Value.ref b]).length) Slot.unset).toArray = la0
  intro hL0
  have hw0 : mk_wf [(0, 7, mk_df.getD 7 [])] := fun c hc k hk => by
    rw [List.mem_singleton.mp hc] at hk
    exact ((mk_df_no (by decide : 7 < 9)).1 k hk).elim
  have i1 := mk_inv _ _ _ _ _ _ _ e1 ⟨⟨fun k hk => (List.mem_cons.mp hk).elim (fun z => by cases z; exact Nat.one_pos) (fun z => by cases z), fun k hk => by cases hk⟩, hw0⟩
  have hw1 : mk_wf (h1 ++ [(0, 8, mk_df.getD 8 [])]) := mk_wf_app i1.1 (fun c hc k hk => by
    rw [List.mem_singleton.mp hc] at hk
    exact ((mk_df_no (by decide : 8 < 9)).1 k hk).elim)
  have hl2 : (h1 ++ [(0, 8, mk_df.getD 8 [])]).length = h1.length + 1 := by rw [List.length_append]; rfl
  have i2 := mk_inv _ _ _ _ _ _ _ e2 ⟨⟨fun k hk => (List.mem_cons.mp hk).elim (fun z => by cases z; omega) (fun z => (List.mem_cons.mp z).elim (fun z => by cases z) (fun z => by cases z)), fun k hk => by cases hk⟩, hw1⟩
  have hs2 := mk_sz_app h1 [(0, 8, mk_df.getD 8 [])]
  have hl0 : ([(0, 7, mk_df.getD 7 [])] : List mk_C).length = 1 := rfl
  have i12 := i1.2.1
  have i13 := i1.2.2
  have i22 := i2.2.1
  have i23 := i2.2.2
  refine lw_new (ad := fun _ => 0) (h := []) C (by decide : 7 < 9) (fun c hc => by cases hc) lw_d0 lw_c7 (fun k q hq => by cases hq) ⟨fun i j p q hi => (by cases hi), fun k q hq => by cases hq⟩ va_S.rf ⟨by omega, by omega⟩ (fun ad1 H1 _ hP1 hD1 hS1 => ?_)
  refine lv_dup C.1 C.2.1 lw_d3 rfl ?_
  refine lw_inv (h := [(0, 7, mk_df.getD 7 [])]) (st := [.inr (some 0)]) C (by decide : 7 < 9) lw_d4 lw_m9 Nat.one_pos hw0 e1 hP1 hD1 hS1 hL0.1 (by decide) ⟨by decide, by decide⟩ ⟨by omega, by omega⟩ (fun H2 locs2 ad2 he2 hP2 hD2 hS2 => ?_)
  rw [show ([.inr (some 0)] : List mk_V).map (mk_rv ad1) = [.ref (ad2 0)] by rw [he2 0 Nat.one_pos]; rfl]
  refine lv_astore_n C.1 C.2.1 lw_d7 rfl hL0 (by decide : 1 < 4) rfl (fun la1 hL1 => ?_)
  refine lw_new (st := []) C (by decide : 8 < 9) i1.1 lw_d8 lw_c10 hP2 hD2 hS2 ⟨by omega, by omega⟩ (fun ad3 H3 he3 hP3 hD3 hS3 => ?_)
  refine lv_dup C.1 C.2.1 lw_d11 rfl ?_
  refine lw_inv (h := h1 ++ [(0, 8, mk_df.getD 8 [])]) (r := h1.length) (st := [.inr (some h1.length)]) C (by decide : 8 < 9) lw_d12 lw_m12 (by omega) hw1 e2 hP3 hD3 hS3 hL1.1 (by simp) ⟨by decide, by decide⟩ ⟨by omega, by omega⟩ (fun H4 locs4 ad4 he4 hP4 hD4 hS4 => ?_)
  rw [show ([.inr (some h1.length)] : List mk_V).map (mk_rv ad3) = [.ref (ad4 h1.length)] by rw [he4 h1.length (by omega)]; rfl]
  refine lv_astore_n C.1 C.2.1 lw_d15 rfl hL1 (by decide : 2 < 4) rfl (fun la2 hL2 => ?_)
  refine lv_iconst C.1 C.2.1 lw_d16 (v := 0) rfl ?_
  refine lv_istore_n C.1 C.2.1 lw_d17 rfl hL2 (by decide : 3 < 4) rfl (fun la3 hL3 => ?_)
  refine W.cs (cells' := h2.length) (slots' := mk_sz h2) (by omega) (by omega) ?_
  refine kk ad4 H4 locs4 la3 hP4 hD4 hS4 ?_
  have e0 : ad2 0 = ad4 0 := by rw [he4 0 (by omega), he3 0 (by omega)]
  rw [e0] at hL3
  exact hL3
end LWN
