/-! The constructors' machine over the real one. -/
def mk_rv (ad : Nat → Nat) (v : mk_V) : Value := match v with
  | .inl x => .int x
  | .inr none => .null
  | .inr (some k) => .ref (ad k)
def mk_int (vs : List mk_V) (j : Nat) : Int32 := match vs[j]? with
  | some (.inl x) => x
  | _ => 0
def mk_ref (vs : List mk_V) (j : Nat) : Option Nat := match vs[j]? with
  | some (.inr r) => r
  | _ => none
def mk_e (ad : Nat → Nat) (X : mj_X) (c : mk_C) : va_E :=
  if c.1 = 0 then .inr (c.2.1, c.2.2.map (mk_rv ad))
  else if c.1 = 1 then .inl (X.1, c.2.2.length, .inl (mk_int c.2.2))
  else .inl (if c.1 = 2 then X.2.1 else X.2.2, c.2.2.length, .inr (.inr (.inr (.inr (fun j => (mk_ref c.2.2 j).map ad)))))
def mk_ws (ad : Nat → Nat) (X : mj_X) (h : List mk_C) : va_W := (List.range h.length).map (fun i => (ad i, mk_e ad X (mk_at h i)))
def mk_wf (h : List mk_C) : Prop := ∀ c ∈ h, ∀ k : Nat, .inr (some k) ∈ c.2.2 → k < h.length
def mk_sz (h : List mk_C) : Nat := (h.map (fun c => c.2.2.length)).sum
theorem mk_at_in {h : List mk_C} {i : Nat} (hi : i < h.length) : mk_at h i ∈ h ∧ h[i]? = some (mk_at h i) := by
  unfold mk_at
  rw [List.getD_eq_getElem?_getD, List.getElem?_eq_getElem hi]
  exact ⟨List.getElem_mem hi, rfl⟩
theorem mk_ws_at {ad : Nat → Nat} {X : mj_X} {h : List mk_C} {i : Nat} (hi : i < h.length) : (mk_ws ad X h)[i]? = some (ad i, mk_e ad X (mk_at h i)) := by
  unfold mk_ws
  rw [List.getElem?_map, List.getElem?_range hi]
  rfl
theorem mk_ws_len {ad : Nat → Nat} {X : mj_X} {h : List mk_C} : (mk_ws ad X h).length = h.length := by
  unfold mk_ws
  rw [List.length_map, List.length_range]
theorem mk_ref_in {vs : List mk_V} {j k : Nat} (h : mk_ref vs j = some k) : .inr (some k) ∈ vs := by
  unfold mk_ref at h
  split at h
  · next r e => subst h; exact List.mem_of_getElem? e
  · cases h
theorem mk_e_congr {ad ad' : Nat → Nat} {X : mj_X} {c : mk_C} (h : ∀ k : Nat, .inr (some k) ∈ c.2.2 → ad k = ad' k) : mk_e ad X c = mk_e ad' X c := by
  unfold mk_e
  have e1 : c.2.2.map (mk_rv ad) = c.2.2.map (mk_rv ad') := by
    apply List.map_congr_left
    intro v hv
    rcases v with x | _ | k
    · rfl
    · rfl
    · exact congrArg Value.ref (h k hv)
  have e2 : (fun j => (mk_ref c.2.2 j).map ad) = (fun j => (mk_ref c.2.2 j).map ad') := by
    funext j
    cases hr : mk_ref c.2.2 j with
    | none => rfl
    | some k => exact congrArg some (h k (mk_ref_in hr))
  rw [e1, e2]
theorem mk_ws_ext {ad ad' : Nat → Nat} {X : mj_X} {h : List mk_C} (hw : mk_wf h) (e : ∀ k, k < h.length → ad k = ad' k) : mk_ws ad X h = mk_ws ad' X h := by
  unfold mk_ws
  apply List.map_congr_left
  intro i hi
  have hi := List.mem_range.mp hi
  rw [e i hi, mk_e_congr (fun k hk => e k (hw _ (mk_at_in hi).1 k hk))]
theorem mk_ws_app {ad : Nat → Nat} {X : mj_X} {h cs : List mk_C} : mk_ws ad X (h ++ cs) = mk_ws ad X h ++ (List.range cs.length).map (fun i => (ad (h.length + i), mk_e ad X (mk_at cs i))) := by
  unfold mk_ws
  rw [List.length_append, List.range_add, List.map_append, List.map_map]
  congr 1
  · apply List.map_congr_left
    intro i hi
    have hi := List.mem_range.mp hi
    have e : mk_at (h ++ cs) i = mk_at h i := by
      unfold mk_at
      rw [List.getD_eq_getElem?_getD, List.getD_eq_getElem?_getD, List.getElem?_append_left hi]
    rw [e]
  · apply List.map_congr_left
    intro i hi
    have e : mk_at (h ++ cs) (h.length + i) = mk_at cs i := by
      unfold mk_at
      rw [List.getD_eq_getElem?_getD, List.getD_eq_getElem?_getD, List.getElem?_append_right (by omega), show h.length + i - h.length = i by omega]
    show (ad (h.length + i), mk_e ad X (mk_at (h ++ cs) (h.length + i))) = _
    rw [e]
theorem mk_ws_set {ad : Nat → Nat} {X : mj_X} {h : List mk_C} {r : Nat} {c : mk_C} : mk_ws ad X (h.set r c) = (mk_ws ad X h).set r (ad r, mk_e ad X c) := by
  apply List.ext_getElem?
  intro i
  by_cases hi : i < h.length
  · rw [mk_ws_at (by rw [List.length_set]; exact hi)]
    by_cases e : r = i
    · subst e
      rw [List.getElem?_set_self (by rw [mk_ws_len]; exact hi)]
      have : mk_at (h.set r c) r = c := by
        unfold mk_at
        rw [List.getD_eq_getElem?_getD, List.getElem?_set_self hi]
        rfl
      rw [this]
    · rw [List.getElem?_set_ne e, mk_ws_at hi]
      have : mk_at (h.set r c) i = mk_at h i := by
        unfold mk_at
        rw [List.getD_eq_getElem?_getD, List.getD_eq_getElem?_getD, List.getElem?_set_ne e]
      rw [this]
  · rw [List.getElem?_eq_none (by rw [mk_ws_len, List.length_set]; omega), List.getElem?_eq_none (by rw [List.length_set, mk_ws_len]; omega)]
/-! what the tables say -/
def mk_AOA (U : State) : Prop := (Cond.arrayOver (.array .int)).before #[] U = true
theorem mk_AOA.moved {u U : State} (hvm : u.vm.Alike U.vm) (h : mk_AOA u) : mk_AOA U := by
  obtain ⟨comp, c, k, h1, h2, h3, h4, h5⟩ := arrayOverA_spec (t := .int) h
  obtain ⟨k', hk', he⟩ := hvm.2.2 _ _ h3
  have hi : (U.vm.classes.findIdx? fun (x : Class) => match x.kind with | .array component _ => component == comp | _ => false) = some c := by
    have e1 := va_idx_bare u.vm comp
    have e2 := va_idx_bare U.vm comp
    first | rw [hvm.bare_eq] at e1 | rw [← hvm.bare_eq] at e1
    exact e2.symm.trans (e1.trans h2)
  have hkind : k'.kind = .array comp (.array .int) := by rw [he]; exact h4
  have f1 : U.vm.findClass (FieldType.array .int).toString = some comp := by rw [hvm.findClass]; exact h1
  have f2 : U.vm.findClass ("[" ++ (FieldType.array .int).toString) = some c := by rw [hvm.findClass]; exact h5
  unfold mk_AOA Cond.before Cond.holds
  simp only [Cond.value]
  rw [f1, Option.bind_some]
  refine (congrArg (fun o : Option Nat => (o.bind (fun c => (U.vm.classes[c]?).map fun (k : Class) => match k.kind with | .array _ ty => decide (ty = FieldType.array .int) && decide (U.vm.findClass ("[" ++ (FieldType.array .int).toString) = some c) | _ => false) == some true)) hi).trans ?_
  simp [hk', hkind, f2]
def mk_K (D : va_G) (X : mj_X) (U : State) : Prop := va_K D mj_cl (mj_ty X) U ∧ va_AO "CloudStrings$Sheet" U ∧ mk_AOA U ∧ ∀ e ∈ mk_NL, va_Nw (mk_wN e) U
theorem mk_K.moved {D : va_G} {X : mj_X} {u U : State} (hW : u.WarmedH U.vm) (h : mk_K D X u) : mk_K D X U :=
  ⟨va_K.moved hW.alike h.1, h.2.1.moved hW.alike, h.2.2.1.moved hW.alike, fun e he => va_Nw.warmM hW (h.2.2.2 e he)⟩
theorem mk_K.same {D : va_G} {X : mj_X} {u U : State} (hv : u.vm = U.vm) (h : mk_K D X u) : mk_K D X U :=
  have ha : u.vm.Alike U.vm := hv ▸ Vm.Alike.refl u.vm
  ⟨va_K.moved ha h.1, h.2.1.moved ha, h.2.2.1.moved ha, fun e he => va_Nw.same rfl hv (h.2.2.2 e he)⟩
def mk_wsf (g : Nat) : List Cond := Cond.code (mk_y g) (mk_bc g) (mk_mx g) none :: mj_WA
def mk_rm (g mc ms : Nat) : Room := { frames := mk_dp g, cells := mc, slots := ms, locals := 30 * mk_dp g }
def mk_Pc (D : va_G) (X : mj_X) (Hb : Heap) (ad : Nat → Nat) (h : List mk_C) (r : Nat) : Array Value → State → Prop := fun v U => v = #[.ref (ad r)] ∧ va_P D mj_cl (mk_ws ad X h) U.heap ∧ va_D (mj_A Hb) (mk_ws ad X h) ∧ va_S (mj_A Hb) Hb U.heap [] ∧ mk_K D X U
def mk_Qc (D : va_G) (X : mj_X) (Hb : Heap) (ad : Nat → Nat) (n : Nat) (h' : List mk_C) : Array Value → State → Outcome → State → Prop := fun _ st o t => o = .returned none ∧ (∃ ad' : Nat → Nat, (∀ k, k < n → ad' k = ad k) ∧ va_P D mj_cl (mk_ws ad' X h') t.heap ∧ va_D (mj_A Hb) (mk_ws ad' X h')) ∧ va_F (mj_A Hb) st t
def mk_MT (l : Launch) (D : va_G) (X : mj_X) (Hb : Heap) (ad : Nat → Nat) (g r : Nat) (h h' : List mk_C) : Prop :=
  Met l (mk_y g) (mk_wsf g) (mk_rm g (h'.length - h.length) (mk_sz h' - mk_sz h)) (mk_Pc D X Hb ad h r) (mk_Qc D X Hb ad h.length h') (h'.length - h.length) (mk_sz h' - mk_sz h) (mj_A Hb)
theorem mk_blind {D : va_G} {X : mj_X} {Hb : Heap} {ad : Nat → Nat} {h : List mk_C} {r : Nat} : FrameBlind (mk_Pc D X Hb ad h r) := fun a U g mk q => ⟨q.1, q.2.1, q.2.2.1, q.2.2.2.1, mk_K.same (u := U) (U := U.calling g mk a) rfl q.2.2.2.2⟩
/-! the size never falls, the cells stay well formed -/
def mk_vs (n : Nat) (ls : List (Option mk_V)) (st : List mk_V) : Prop := (∀ k : Nat, some (.inr (some k)) ∈ ls → k < n) ∧ ∀ k : Nat, .inr (some k) ∈ st → k < n
def mk_iv (ls : List (Option mk_V)) (st : List mk_V) (h : List mk_C) : Prop := mk_vs h.length ls st ∧ mk_wf h
theorem mk_sz_app (h cs : List mk_C) : mk_sz (h ++ cs) = mk_sz h + mk_sz cs := by
  unfold mk_sz
  rw [List.map_append, List.sum_append]
theorem mk_vs.le {n m : Nat} {ls : List (Option mk_V)} {st : List mk_V} (h : mk_vs n ls st) (e : n ≤ m) : mk_vs m ls st := ⟨fun k hk => Nat.lt_of_lt_of_le (h.1 k hk) e, fun k hk => Nat.lt_of_lt_of_le (h.2 k hk) e⟩
theorem mk_wf_app {h cs : List mk_C} (hw : mk_wf h) (hc : ∀ c ∈ cs, ∀ k : Nat, .inr (some k) ∈ c.2.2 → k < h.length + cs.length) : mk_wf (h ++ cs) := by
  intro c hm k hk
  rw [List.length_append]
  rcases List.mem_append.mp hm with z | z
  · exact Nat.lt_of_lt_of_le (hw c z k hk) (Nat.le_add_right _ _)
  · exact hc c z k hk
theorem mk_wf_set {h : List mk_C} {r j : Nat} {v : mk_V} (hw : mk_wf h) (hr : r < h.length) (hv : ∀ k, v = .inr (some k) → k < h.length) : mk_wf (mk_set h r j v) := by
  intro c hm k hk
  unfold mk_set at hm ⊢
  rw [List.length_set]
  rcases List.mem_or_eq_of_mem_set hm with z | z
  · exact hw c z k hk
  · subst z
    rcases List.mem_or_eq_of_mem_set hk with y | y
    · exact hw _ (mk_at_in hr).1 k y
    · exact hv k y.symm
theorem mk_set_len {h : List mk_C} {r j : Nat} {v : mk_V} : (mk_set h r j v).length = h.length := by
  unfold mk_set
  rw [List.length_set]
theorem mk_sz_set {h : List mk_C} {r j : Nat} {v : mk_V} (hr : r < h.length) : mk_sz (mk_set h r j v) = mk_sz h := by
  have e : (mk_set h r j v).map (fun c => c.2.2.length) = h.map (fun c => c.2.2.length) := by
    apply List.ext_getElem?
    intro i
    rw [List.getElem?_map, List.getElem?_map]
    unfold mk_set
    by_cases e : r = i
    · subst e
      rw [List.getElem?_set_self hr, (mk_at_in hr).2]
      simp
    · rw [List.getElem?_set_ne e]
  unfold mk_sz
  rw [e]
theorem mk_df_ok : (List.range 8).all (fun g => (mk_df.getD g []).all (fun v => match v with
    | .inr (some _) => false
    | _ => true) && (mk_df.getD g []).length == (mj_cl.getD g ("", mj_T0, 0)).2.2) = true := by decide +kernel
theorem mk_df_no {g : Nat} (hg : g < 8) : (∀ k : Nat, (.inr (some k) : mk_V) ∈ mk_df.getD g [] → False) ∧ (mk_df.getD g []).length = (mj_cl.getD g ("", mj_T0, 0)).2.2 := by
  have h := List.all_eq_true.mp mk_df_ok g (List.mem_range.mpr hg)
  simp only [Bool.and_eq_true, beq_iff_eq] at h
  refine ⟨fun k hk => ?_, h.2⟩
  have := List.all_eq_true.mp h.1 _ hk
  cases this
theorem mk_inv : ∀ (n g pc : Nat) (ls : List (Option mk_V)) (st : List mk_V) (h h' : List mk_C), mk_go n g pc ls st h = some h' → mk_iv ls st h → mk_wf h' ∧ h.length ≤ h'.length ∧ mk_sz h ≤ mk_sz h'
  | 0, g, pc, ls, st, h, h', e, _ => by cases e
  | n + 1, g, pc, ls, st, h, h', e, ⟨⟨iv1, iv2⟩, iv3⟩ => by
    have ih := mk_inv n
    unfold mk_go at e
    split at e
    · cases e
    · next i len a hl =>
      split at e
      · next k => 
        split at e
        · next r hr => exact ih _ _ _ _ _ _ e ⟨⟨iv1, fun k hk => (List.mem_cons.mp hk).elim (fun z => by cases z; exact iv1 _ (List.mem_of_getElem? hr)) (fun z => iv2 k z)⟩, iv3⟩
        · cases e
      · next k =>
        split at e
        · next x hr => exact ih _ _ _ _ _ _ e ⟨⟨iv1, fun k hk => (List.mem_cons.mp hk).elim (fun z => by cases z) (fun z => iv2 k z)⟩, iv3⟩
        · cases e
      · next k =>
        split at e
        · next x st =>
          split at e
          · refine ih _ _ _ _ _ _ e ⟨⟨fun k hk => ?_, fun k hk => iv2 k (List.mem_cons_of_mem _ hk)⟩, iv3⟩
            rcases List.mem_or_eq_of_mem_set hk with z | z
            · exact iv1 k z
            · cases z
          · cases e
        · cases e
      · next k c =>
        split at e
        · next x hx =>
          refine ih _ _ _ _ _ _ e ⟨⟨fun k hk => ?_, iv2⟩, iv3⟩
          rcases List.mem_or_eq_of_mem_set hk with z | z
          · exact iv1 k z
          · cases z
        · cases e
      · next c => exact ih _ _ _ _ _ _ e ⟨⟨iv1, fun k hk => (List.mem_cons.mp hk).elim (fun z => by cases z) (fun z => iv2 k z)⟩, iv3⟩
      · next c => exact ih _ _ _ _ _ _ e ⟨⟨iv1, fun k hk => (List.mem_cons.mp hk).elim (fun z => by cases z) (fun z => iv2 k z)⟩, iv3⟩
      · split at e
        · next r st => exact ih _ _ _ _ _ _ e ⟨⟨iv1, fun k hk => (List.mem_cons.mp hk).elim (fun z => by cases z; exact iv2 _ List.mem_cons_self) (fun z => iv2 k z)⟩, iv3⟩
        · cases e
      · exact ih _ _ _ _ _ _ e ⟨⟨iv1, iv2⟩, iv3⟩
      · split at e
        · next y x st =>
          split at e
          · exact ih _ _ _ _ _ _ e ⟨⟨iv1, fun k hk => iv2 k (by simp [hk])⟩, iv3⟩
          · exact ih _ _ _ _ _ _ e ⟨⟨iv1, fun k hk => iv2 k (by simp [hk])⟩, iv3⟩
        · cases e
      · split at e
        · next ci =>
          split at e
          · next hci =>
            obtain ⟨g1, g2, g3⟩ := ih _ _ _ _ _ _ e ⟨⟨fun k hk => by rw [List.length_append]; have := iv1 k hk; omega, fun k hk => by
              rw [List.length_append]
              rcases List.mem_cons.mp hk with z | z
              · cases z; show h.length < h.length + 1; omega
              · have := iv2 k z; omega⟩, mk_wf_app iv3 (fun c hc k hk => by
                rw [List.mem_singleton.mp hc] at hk
                exact ((mk_df_no hci).1 k hk).elim)⟩
            rw [List.length_append] at g2
            rw [mk_sz_app] at g3
            exact ⟨g1, by omega, by omega⟩
          · cases e
        · cases e
      · split at e
        · next x st =>
          split at e
          · obtain ⟨g1, g2, g3⟩ := ih _ _ _ _ _ _ e ⟨⟨fun k hk => by rw [List.length_append]; have := iv1 k hk; omega, fun k hk => by
              rw [List.length_append]
              rcases List.mem_cons.mp hk with z | z
              · cases z; show h.length < h.length + 1; omega
              · have := iv2 k (List.mem_cons_of_mem _ z); omega⟩, mk_wf_app iv3 (fun c hc k hk => by
                rw [List.mem_singleton.mp hc] at hk
                have := List.eq_of_mem_replicate hk
                cases this)⟩
            rw [List.length_append] at g2
            rw [mk_sz_app] at g3
            exact ⟨g1, by omega, by omega⟩
          · cases e
        · cases e
      · split at e
        · next k m st =>
          split at e
          · obtain ⟨g1, g2, g3⟩ := ih _ _ _ _ _ _ e ⟨⟨fun k hk => by rw [List.length_append]; have := iv1 k hk; omega, fun k hk => by
              rw [List.length_append]
              rcases List.mem_cons.mp hk with z | z
              · cases z; rw [List.length_cons]; omega
              · have := iv2 k (by simp [z]); omega⟩, mk_wf_app iv3 (fun c hc k hk => by
                rw [List.length_cons, List.length_replicate]
                rcases List.mem_cons.mp hc with z | z
                · subst z
                  obtain ⟨i, hi, hik⟩ := List.mem_map.mp hk
                  have hi := List.mem_range.mp hi
                  cases hik
                  omega
                · have := List.eq_of_mem_replicate z
                  subst this
                  have := List.eq_of_mem_replicate hk
                  cases this)⟩
            rw [List.length_append] at g2
            rw [mk_sz_app] at g3
            exact ⟨g1, by omega, by omega⟩
          · cases e
        · cases e
      · split at e
        · next x st =>
          split at e
          · obtain ⟨g1, g2, g3⟩ := ih _ _ _ _ _ _ e ⟨⟨fun k hk => by rw [List.length_append]; have := iv1 k hk; omega, fun k hk => by
              rw [List.length_append]
              rcases List.mem_cons.mp hk with z | z
              · cases z; show h.length < h.length + 1; omega
              · have := iv2 k (List.mem_cons_of_mem _ z); omega⟩, mk_wf_app iv3 (fun c hc k hk => by
                rw [List.mem_singleton.mp hc] at hk
                have := List.eq_of_mem_replicate hk
                cases this)⟩
            rw [List.length_append] at g2
            rw [mk_sz_app] at g3
            exact ⟨g1, by omega, by omega⟩
          · cases e
        · cases e
      · split at e
        · next v r st ci k =>
          split at e
          · next hc =>
            obtain ⟨g1, g2, g3⟩ := ih _ _ _ _ _ _ e ⟨⟨fun k hk => by rw [mk_set_len]; exact iv1 k hk, fun k hk => by rw [mk_set_len]; exact iv2 k (by simp [hk])⟩, mk_wf_set iv3 hc.1 (fun k hk => iv2 k (by simp [hk]))⟩
            rw [mk_set_len] at g2
            rw [mk_sz_set hc.1] at g3
            exact ⟨g1, g2, g3⟩
          · cases e
        · cases e
      · split at e
        · next r st ci k =>
          split at e
          · next hc =>
            split at e
            · next z hz => exact ih _ _ _ _ _ _ e ⟨⟨iv1, fun k hk => (List.mem_cons.mp hk).elim (fun y => by cases y; exact iv3 _ (mk_at_in hc.1).1 _ (List.mem_of_getElem? hz)) (fun y => iv2 k (List.mem_cons_of_mem _ y))⟩, iv3⟩
            · cases e
          · cases e
        · cases e
      · split at e
        · next v j r st =>
          split at e
          · next hc =>
            obtain ⟨g1, g2, g3⟩ := ih _ _ _ _ _ _ e ⟨⟨fun k hk => by rw [mk_set_len]; exact iv1 k hk, fun k hk => by rw [mk_set_len]; exact iv2 k (by simp [hk])⟩, mk_wf_set iv3 hc.1 (fun k hk => by cases hk; exact hc.2.1)⟩
            rw [mk_set_len] at g2
            rw [mk_sz_set hc.1] at g3
            exact ⟨g1, g2, g3⟩
          · cases e
        · cases e
      · split at e
        · next v j r st =>
          split at e
          · next hc =>
            obtain ⟨g1, g2, g3⟩ := ih _ _ _ _ _ _ e ⟨⟨fun k hk => by rw [mk_set_len]; exact iv1 k hk, fun k hk => by rw [mk_set_len]; exact iv2 k (by simp [hk])⟩, mk_wf_set iv3 hc.1 (fun k hk => by cases hk)⟩
            rw [mk_set_len] at g2
            rw [mk_sz_set hc.1] at g3
            exact ⟨g1, g2, g3⟩
          · cases e
        · cases e
      · split at e
        · next r st =>
          split at e
          · exact ih _ _ _ _ _ _ e ⟨⟨iv1, fun k hk => iv2 k (List.mem_cons_of_mem _ hk)⟩, iv3⟩
          · cases e
        · next g' r st =>
          split at e
          · next hc =>
            split at e
            · next h1 e1 =>
              obtain ⟨a1, a2, a3⟩ := ih _ _ _ _ _ _ e1 ⟨⟨fun k hk => (List.mem_cons.mp hk).elim (fun z => by cases z; exact hc.1) (fun z => by cases (List.eq_of_mem_replicate z)), fun k hk => by cases hk⟩, iv3⟩
              obtain ⟨g1, g2, g3⟩ := ih _ _ _ _ _ _ e ⟨⟨fun k hk => Nat.lt_of_lt_of_le (iv1 k hk) a2, fun k hk => Nat.lt_of_lt_of_le (iv2 k (List.mem_cons_of_mem _ hk)) a2⟩, a1⟩
              exact ⟨g1, Nat.le_trans a2 g2, Nat.le_trans a3 g3⟩
            · cases e
          · cases e
        · cases e
      · split at e
        · cases e; exact ⟨iv3, Nat.le_refl _, Nat.le_refl _⟩
        · cases e
      · cases e
