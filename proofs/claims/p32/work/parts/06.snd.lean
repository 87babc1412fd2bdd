/-! The small machine over the real one: pictures. -/
def mj_rv (ρ : mj_Id → Nat) (v : mj_V) : Value := match v with
  | .inl x => .int x
  | .inr (.inl x) => .long x
  | .inr (.inr q) => .ref (ρ q)
def mj_fv (ρ : mj_Id → Nat) (M : mj_M) (q : mj_Id) (k : Nat) : Value := match mj_fd q k with
  | some (.inl l) => .int (M l.1 l.2.1 l.2.2.1 l.2.2.2)
  | some (.inr q') => .ref (ρ q')
  | none => .null
/-- the classes of arrays: of ints, of arrays of ints, of sheets -/
abbrev mj_X : Type := ClassId × ClassId × ClassId
def mj_en (ρ : mj_Id → Nat) (X : mj_X) (M : mj_M) (q : mj_Id) : va_E :=
  if mj_kind q.2.1 = 0 then .inr (mj_ci q.2.1, (List.range (mj_nf q.2.1)).map (mj_fv ρ M q))
  else if mj_kind q.2.1 = 1 then .inl (X.1, mj_ln q, .inl (mj_rd M q))
  else .inl (if mj_kind q.2.1 = 2 then X.2.1 else X.2.2, mj_ol q, .inr (.inr (.inr (.inr (fun j => if j < mj_ol q then (mj_el q j).map ρ else none)))))
def mj_ws (ρ : mj_Id → Nat) (X : mj_X) (M : mj_M) : va_W := mj_ids.map (fun q => (ρ q, mj_en ρ X M q))
def mj_A (Hb : Heap) : Nat → Prop := fun q => Hb.size ≤ q
def mj_Wt (j : Nat) : Int32 := if j = 2 then 2 else 1
def mj_Rn (j : Nat) : Int32 := if j = 0 then 2 else if j = 2 then 5 else 1
def mj_ty (X : mj_X) : List (ClassId × FieldType) := [(X.1, .int), (X.2.1, .array .int), (X.2.2, .object "CloudStrings$Sheet")]
/-- what the tables and the old heap say -/
def mj_K (D : va_G) (X : mj_X) (ρ : mj_Id → Nat) (Hb : Heap) (L : Nat) (xs : Nat → Int32) (U : State) : Prop :=
  va_K D mj_cl (mj_ty X) U ∧ va_Z "CloudStrings" "WEIGHTS" "[I" (.ref (ρ (40, 80, 0))) (mj_A Hb) U Hb ∧ va_Z "CloudStrings" "RAINS" "[I" (.ref (ρ (40, 81, 0))) (mj_A Hb) U Hb ∧
  va_T .int (ρ (40, 80, 0)) 4 (fun j => .int (mj_Wt j)) (mj_A Hb) U Hb ∧ va_T .int (ρ (40, 81, 0)) 4 (fun j => .int (mj_Rn j)) (mj_A Hb) U Hb ∧ va_X (ρ (41, 82, 0)) L xs U Hb ∧
  va_Nw (.methodLinkNest "CloudStrings$Land" 85 (mj_y 23) "CloudStrings") U ∧ va_Nw (.fieldLinkNest "CloudStrings$Land" 109 "CloudStrings" "WEIGHTS" "[I" "CloudStrings") U ∧ va_Nw (.fieldLinkNest "CloudStrings$Land" 128 "CloudStrings" "RAINS" "[I" "CloudStrings") U
theorem mj_K.moved {D : va_G} {X : mj_X} {ρ : mj_Id → Nat} {Hb : Heap} {L : Nat} {xs : Nat → Int32} {u U : State} (hW : u.WarmedH U.vm) (h : mj_K D X ρ Hb L xs u) : mj_K D X ρ Hb L xs U := by
  obtain ⟨h1, h2, h3, h4, h5, h6, h7, h8, h9⟩ := h
  exact ⟨va_K.moved hW.alike h1, va_Z.moved hW.alike h2, va_Z.moved hW.alike h3, va_T.moved hW.alike h4, va_T.moved hW.alike h5, va_X.moved hW.alike h6, va_Nw.warmM hW h7, va_Nw.warmF hW h8, va_Nw.warmF hW h9⟩
theorem mj_K.same {D : va_G} {X : mj_X} {ρ : mj_Id → Nat} {Hb : Heap} {L : Nat} {xs : Nat → Int32} {u U : State} (hv : u.vm = U.vm) (h : mj_K D X ρ Hb L xs u) : mj_K D X ρ Hb L xs U := by
  obtain ⟨h1, h2, h3, h4, h5, h6, h7, h8, h9⟩ := h
  have ha : u.vm.Alike U.vm := hv ▸ Vm.Alike.refl u.vm
  exact ⟨va_K.moved ha h1, va_Z.moved ha h2, va_Z.moved ha h3, va_T.moved ha h4, va_T.moved ha h5, va_X.moved ha h6, va_Nw.same rfl hv h7, va_Nw.same rfl hv h8, va_Nw.same rfl hv h9⟩
/-- what never changes of the memory: the static rows, the script -/
def mj_cM (L : Nat) (xs : Nat → Int32) (M : mj_M) : Prop := (∀ j, j < 4 → M 40 80 0 j = mj_Wt j) ∧ (∀ j, j < 4 → M 40 81 0 j = mj_Rn j) ∧ (M 41 83 0 0).toNatClampNeg = L ∧ ∀ j, j < L → M 41 82 0 j = xs j
/-- the heap holds the memory -/
def mj_P (D : va_G) (X : mj_X) (ρ : mj_Id → Nat) (Hb : Heap) (L : Nat) (xs : Nat → Int32) (M : mj_M) (H : Heap) : Prop :=
  va_P D mj_cl (mj_ws ρ X M) H ∧ va_S (mj_A Hb) Hb H [] ∧ mj_cM L xs M
def mj_Dd (ρ : mj_Id → Nat) (Hb : Heap) : Prop := (∀ p ∈ mj_ids, ∀ q ∈ mj_ids, ρ p = ρ q → p = q) ∧ ∀ q ∈ mj_ids, Hb.size ≤ ρ q
theorem mj_ws_get {ρ : mj_Id → Nat} {X : mj_X} {M : mj_M} {k : Nat} {x : Nat × va_E} (h : (mj_ws ρ X M)[k]? = some x) : ∃ q, mj_ids[k]? = some q ∧ x = (ρ q, mj_en ρ X M q) := by
  unfold mj_ws at h
  rw [List.getElem?_map] at h
  cases hq : mj_ids[k]? with
  | none => rw [hq] at h; cases h
  | some q => rw [hq] at h; exact ⟨q, rfl, (Option.some.inj h).symm⟩
theorem mj_ws_at {ρ : mj_Id → Nat} {X : mj_X} {M : mj_M} {q : mj_Id} (h : q ∈ mj_ids) : ∃ k : Nat, (mj_ws ρ X M)[k]? = some (ρ q, mj_en ρ X M q) ∧ mj_ids[k]? = some q := by
  obtain ⟨k, hk⟩ := List.getElem?_of_mem h
  exact ⟨k, by unfold mj_ws; rw [List.getElem?_map, hk]; rfl, hk⟩
theorem mj_Dd.ws {ρ : mj_Id → Nat} {Hb : Heap} (h : mj_Dd ρ Hb) (X : mj_X) (M : mj_M) : va_D (mj_A Hb) (mj_ws ρ X M) := by
  refine ⟨fun i j p q hi hj hpq => ?_, fun k q hk => ?_⟩
  · obtain ⟨a, ha, rfl⟩ := mj_ws_get hi
    obtain ⟨b, hb, rfl⟩ := mj_ws_get hj
    have hab := h.1 a (List.mem_of_getElem? ha) b (List.mem_of_getElem? hb) hpq
    subst hab
    have h1 := (List.getElem?_eq_some_iff.mp ha).1
    exact (List.getElem?_inj h1 mj_ids_nd).mp (ha.trans hb.symm)
  · obtain ⟨a, ha, rfl⟩ := mj_ws_get hk
    exact h.2 a (List.mem_of_getElem? ha)
/-! facts of the list of cells -/
theorem mj_own_lo {q : mj_Id} (h : q ∈ mj_ids) {l : Nat × Nat × Nat × Nat} (hl : l ∈ mj_lo q) : mj_own l = q ∧ l.1 < 40 ∧ mj_ok l.2.1 l.2.2.1 l.2.2.2 = true := by
  have h1 := List.all_eq_true.mp (List.all_eq_true.mp mj_ids_own q h) l hl
  simp only [Bool.and_eq_true, decide_eq_true_eq] at h1
  exact ⟨h1.1.1, Nat.lt_of_lt_of_le (Nat.le_of_ble_eq_true h1.1.2) (Nat.le_refl _), h1.2⟩
theorem mj_kd_of {q : mj_Id} (h : q ∈ mj_ids) : (mj_kind q.2.1 = 1 ∨ mj_ln q = 0) ∧ (mj_kind q.2.1 = 0 ∨ mj_ci q.2.1 = 99) ∧ q.2.1 ≠ 82 ∧ q.2.1 ≠ 80 ∧ q.2.1 ≠ 81 ∧ q.1 < 40 ∧ (mj_ia q.2.1 = true → mj_kind q.2.1 = 1) := by
  have h1 := List.all_eq_true.mp mj_ids_kd q h
  simp only [Bool.and_eq_true, Bool.or_eq_true, beq_iff_eq, bne_iff_ne, ne_eq] at h1
  obtain ⟨⟨⟨⟨⟨⟨a, b⟩, c⟩, d⟩, e⟩, f⟩, g⟩ := h1
  refine ⟨a, b, c, d, e, Nat.lt_of_lt_of_le (Nat.le_of_ble_eq_true f) (Nat.le_refl _), fun h => ?_⟩
  rcases g with g | g
  · exact g
  · rw [h] at g; cases g
theorem mj_aloc_lo {q : mj_Id} (hk : mj_kind q.2.1 = 1) {j : Nat} (hj : j < mj_ln q) : mj_aloc q j ∈ mj_lo q := by
  unfold mj_lo
  rw [if_neg (by rw [hk]; decide), if_pos hk]
  exact List.mem_map.mpr ⟨j, List.mem_range.mpr hj, rfl⟩
theorem mj_aloc_inj {q : mj_Id} (h : q ∈ mj_ids) (hk : mj_kind q.2.1 = 1) {i j : Nat} (hi : i < mj_ln q) (hj : j < mj_ln q) (e : mj_aloc q i = mj_aloc q j) : i = j := by
  have h1 := List.all_eq_true.mp mj_ids_idx q h
  simp only [hk, bne_self_eq_false, Bool.false_or] at h1
  have h2 := List.all_eq_true.mp h1
  have a := beq_iff_eq.mp (h2 i (List.mem_range.mpr hi))
  have b := beq_iff_eq.mp (h2 j (List.mem_range.mpr hj))
  rw [← a, ← b, e]
theorem mj_fd_of {q : mj_Id} (h : q ∈ mj_ids) (hk : mj_kind q.2.1 = 0) : mj_ci q.2.1 < 8 ∧ ∀ k, k < mj_nf q.2.1 → (match mj_fd q k with
    | some (.inl l) => l ∈ mj_lo q ∧ ∀ k', k' < mj_nf q.2.1 → k' ≠ k → ∀ l', mj_fd q k' = some (.inl l') → l ≠ l'
    | some (.inr q') => q' ∈ mj_ids
    | none => False) := by
  have h1 := List.all_eq_true.mp mj_ids_fd q h
  simp only [hk, bne_self_eq_false, Bool.false_or, Bool.and_eq_true] at h1
  refine ⟨Nat.lt_of_lt_of_le (Nat.le_of_ble_eq_true h1.1) (Nat.le_refl _), fun k hkk => ?_⟩
  have h2 := List.all_eq_true.mp h1.2 k (List.mem_range.mpr hkk)
  cases hf : mj_fd q k with
  | none => rw [hf] at h2; cases h2
  | some x =>
    cases x with
    | inr q' => rw [hf] at h2; exact List.contains_iff_mem.mp h2
    | inl l =>
      rw [hf] at h2
      refine ⟨?_, fun k' hk' hne l' hl' => ?_⟩
      · unfold mj_lo
        rw [if_pos hk]
        exact List.mem_filterMap.mpr ⟨k, List.mem_range.mpr hkk, by rw [hf]⟩
      · have h3 := List.all_eq_true.mp h2 k' (List.mem_range.mpr hk')
        rw [hl'] at h3
        simp only [Bool.or_eq_true, beq_iff_eq, decide_eq_true_eq] at h3
        exact h3.resolve_left hne
theorem mj_el_of {q : mj_Id} (h : q ∈ mj_ids) : (mj_kind q.2.1 = 2 ∨ mj_kind q.2.1 = 3 ∨ mj_ol q = 0) ∧ ∀ j, j < mj_ol q → ∃ q', mj_el q j = some q' ∧ q' ∈ mj_ids := by
  have h1 := List.all_eq_true.mp mj_ids_el q h
  simp only [Bool.and_eq_true, Bool.or_eq_true, beq_iff_eq] at h1
  refine ⟨by rcases h1.1 with (a | a) | a <;> simp [a], fun j hj => ?_⟩
  have h2 := List.all_eq_true.mp h1.2 j (List.mem_range.mpr hj)
  cases hf : mj_el q j with
  | none => rw [hf] at h2; cases h2
  | some q' => rw [hf] at h2; exact ⟨q', rfl, List.contains_iff_mem.mp h2⟩
/-! a cell is told by its numbers -/
theorem mj_arrV_congr {cI : ClassId} {N : Nat} {f g : Nat → Value} (h : ∀ j, j < N → f j = g j) : arrV cI N f = arrV cI N g := by
  unfold arrV
  have : (Array.ofFn (n := N) fun j => f j.val) = Array.ofFn (n := N) fun j => g j.val := congrArg _ (funext fun j => h j.val j.isLt)
  rw [this]
def mj_at (M : mj_M) (l : Nat × Nat × Nat × Nat) : Int32 := M l.1 l.2.1 l.2.2.1 l.2.2.2
theorem mj_en_congr {ρ : mj_Id → Nat} {X : mj_X} {M N : mj_M} {q : mj_Id} {D : va_G} {H : Heap} {a : Nat} (h : ∀ l ∈ mj_lo q, mj_at M l = mj_at N l) (hv : va_at D mj_cl (a, mj_en ρ X M q) H) : va_at D mj_cl (a, mj_en ρ X N q) H := by
  unfold mj_en at hv ⊢
  by_cases k0 : mj_kind q.2.1 = 0
  · rw [if_pos k0] at hv ⊢
    have e : (List.range (mj_nf q.2.1)).map (mj_fv ρ M q) = (List.range (mj_nf q.2.1)).map (mj_fv ρ N q) := by
      apply List.map_congr_left
      intro k hk
      unfold mj_fv
      cases hf : mj_fd q k with
      | none => rfl
      | some x =>
        cases x with
        | inr q' => rfl
        | inl l =>
          have := h l (by unfold mj_lo; rw [if_pos k0]; exact List.mem_filterMap.mpr ⟨k, hk, by rw [hf]⟩)
          exact congrArg Value.int this
    rw [← e]
    exact hv
  · rw [if_neg k0] at hv ⊢
    by_cases k1 : mj_kind q.2.1 = 1
    · rw [if_pos k1] at hv ⊢
      have hv : H[a]? = some (vp_cell X.1 (mj_ln q, .inl (mj_rd M q))) := hv
      show H[a]? = some (vp_cell X.1 (mj_ln q, .inl (mj_rd N q)))
      rw [hv, vp_cell_i, vp_cell_i]
      exact congrArg some (mj_arrV_congr fun j hj => congrArg Value.int (h _ (mj_aloc_lo k1 hj)))
    · rw [if_neg k1] at hv ⊢
      exact hv
/-- one cell changed -/
theorem mj_P_set {ρ : mj_Id → Nat} {X : mj_X} {M N : mj_M} {D : va_G} {H1 : Heap} {k : Nat} {q : mj_Id} {e' : va_E} (hk : mj_ids[k]? = some q) (h : va_P D mj_cl ((mj_ws ρ X M).set k (ρ q, e')) H1)
    (h1 : va_at D mj_cl (ρ q, e') H1 → va_at D mj_cl (ρ q, mj_en ρ X N q) H1) (h2 : ∀ p ∈ mj_ids, p ≠ q → ∀ l ∈ mj_lo p, mj_at M l = mj_at N l) : va_P D mj_cl (mj_ws ρ X N) H1 := by
  intro i x hx
  obtain ⟨p, hp, rfl⟩ := mj_ws_get hx
  have hlen : (mj_ws ρ X M).length = mj_ids.length := by unfold mj_ws; rw [List.length_map]
  by_cases e : k = i
  · subst e
    rw [hk] at hp
    cases hp
    exact h1 (h k _ (by rw [List.getElem?_set_self (by rw [hlen]; exact (List.getElem?_eq_some_iff.mp hk).1)]))
  · have hne : p ≠ q := fun z => e (by
      subst z
      exact (List.getElem?_inj (List.getElem?_eq_some_iff.mp hk).1 mj_ids_nd).mp (hk.trans hp.symm))
    refine mj_en_congr (h2 p (List.mem_of_getElem? hp) hne) (h i _ ?_)
    rw [List.getElem?_set_ne e]
    unfold mj_ws
    rw [List.getElem?_map, hp]
    rfl
theorem mj_at_wl {M : mj_M} {l l' : Nat × Nat × Nat × Nat} {v : Int32} : mj_at (mj_wl M l v) l' = if l' = l then v else mj_at M l' := by
  obtain ⟨i, t, c, j⟩ := l
  obtain ⟨i', t', c', j'⟩ := l'
  unfold mj_at mj_wl mj_up mj_us
  simp only [Prod.mk.injEq]
  by_cases h : i' = i
  · subst h
    simp
  · simp [h]
theorem mj_cM_wl {L : Nat} {xs : Nat → Int32} {M : mj_M} {l : Nat × Nat × Nat × Nat} {v : Int32} (hl : l.1 < 40) (h : mj_cM L xs M) : mj_cM L xs (mj_wl M l v) := by
  have e : ∀ i t c j : Nat, 40 ≤ i → mj_wl M l v i t c j = M i t c j := fun i t c j hi => by
    unfold mj_wl mj_up
    rw [if_neg (by omega)]
  obtain ⟨a, b, c, d⟩ := h
  exact ⟨fun j hj => (e _ _ _ _ (by omega)).trans (a j hj), fun j hj => (e _ _ _ _ (by omega)).trans (b j hj), by rw [e _ _ _ _ (by omega)]; exact c, fun j hj => (e _ _ _ _ (by omega)).trans (d j hj)⟩
/-! what a frame holds -/
def mj_vid (q : mj_Id) : Prop := q ∈ mj_ids ∨ q = (40, 80, 0) ∨ q = (40, 81, 0) ∨ q = (41, 82, 0)
def mj_val (lp : List Nat) (ls : mj_L) (st : List mj_V) : Prop := (∀ (j : Nat) (q : mj_Id), ls[j]? = some (some (.inr (.inr q))) → mj_vid q) ∧ (∀ (j : Nat) (w : Int64), ls[j]? = some (some (.inr (.inl w))) → lp.contains j = true) ∧ ∀ q : mj_Id, .inr (.inr q) ∈ st → mj_vid q
theorem mj_val.st {lp : List Nat} {ls : mj_L} {st st' : List mj_V} (h : mj_val lp ls st) (g : ∀ q : mj_Id, .inr (.inr q) ∈ st' → .inr (.inr q) ∈ st) : mj_val lp ls st' := ⟨h.1, h.2.1, fun q hq => h.2.2 q (g q hq)⟩
theorem mj_val.pu {lp : List Nat} {ls : mj_L} {st st' : List mj_V} {q : mj_Id} (h : mj_val lp ls st) (hq : mj_vid q) (g : ∀ v ∈ st', v ∈ st) : mj_val lp ls (.inr (.inr q) :: st') := ⟨h.1, h.2.1, fun q' hq' => by
  rcases List.mem_cons.mp hq' with e | e
  · cases e; exact hq
  · exact h.2.2 q' (g _ e)⟩
def mj_la (ρ : mj_Id → Nat) (ls : mj_L) : List (Nat × Value) := (List.range ls.length).filterMap (fun i => match ls[i]? with
  | some (some v) => some (i, mj_rv ρ v)
  | _ => none)
theorem mj_la_in {ρ : mj_Id → Nat} {ls : mj_L} {i : Nat} {v : mj_V} (h : ls[i]? = some (some v)) : (i, mj_rv ρ v) ∈ mj_la ρ ls :=
  List.mem_filterMap.mpr ⟨i, List.mem_range.mpr (List.getElem?_eq_some_iff.mp h).1, by rw [h]⟩
theorem mj_la_of {ρ : mj_Id → Nat} {ls : mj_L} {x : Nat × Value} (h : x ∈ mj_la ρ ls) : ∃ v, ls[x.1]? = some (some v) ∧ x.2 = mj_rv ρ v := by
  obtain ⟨i, -, hi⟩ := List.mem_filterMap.mp h
  split at hi
  · next v hv => cases hi; exact ⟨v, hv, rfl⟩
  · cases hi
theorem mj_la_at {ρ : mj_Id → Nat} {ls : mj_L} {la : Array Slot} {nL i : Nat} {v : mj_V} (h : lv_has la nL (mj_la ρ ls)) (hv : ls[i]? = some (some v)) : la[i]? = some (.val (mj_rv ρ v)) := h.2.2 _ (mj_la_in hv)
theorem mj_cat2 {ρ : mj_Id → Nat} {v : mj_V} (h : (mj_rv ρ v).category = 2) : ∃ w, v = .inr (.inl w) := by
  rcases v with x | w | q
  · simp [mj_rv, Value.category] at h
  · exact ⟨w, rfl⟩
  · simp [mj_rv, Value.category] at h
theorem mj_store {ρ : mj_Id → Nat} {lp : List Nat} {ls : mj_L} {st : List mj_V} {la : Array Slot} {nL i : Nat} {v : mj_V} (hv : mj_val lp ls st) (hk : mj_lpk lp i = true)
    (h : lv_has la nL ((i, mj_rv ρ v) :: (mj_la ρ ls).filter (fun q => !(q.1 == i) && !(q.1 + 1 == i && q.2.category == 2)))) : lv_has la nL (mj_la ρ (ls.set i (some v))) := by
  refine ⟨h.1, h.2.1, fun x hx => ?_⟩
  obtain ⟨w, hw, hxw⟩ := mj_la_of hx
  obtain ⟨j, y⟩ := x
  dsimp only at hw hxw
  subst hxw
  by_cases e : i = j
  · subst e
    have hi : i < ls.length := by
      have := (List.getElem?_eq_some_iff.mp hw).1
      rwa [List.length_set] at this
    rw [List.getElem?_set_self hi] at hw
    cases hw
    exact h.2.2 _ List.mem_cons_self
  · rw [List.getElem?_set_ne e] at hw
    refine h.2.2 _ (List.mem_cons_of_mem _ (List.mem_filter.mpr ⟨mj_la_in hw, ?_⟩))
    simp only [Bool.and_eq_true, Bool.not_eq_true', beq_eq_false_iff_ne, ne_eq, Bool.and_eq_false_iff]
    refine ⟨fun z => e z.symm, ?_⟩
    by_cases e2 : j + 1 = i
    · right
      intro hc
      obtain ⟨w', rfl⟩ := mj_cat2 hc
      have h1 := hv.2.1 j w' hw
      subst e2
      have hk : (!lp.contains j) = true := hk
      rw [h1] at hk
      cases hk
    · exact Or.inl e2
theorem mj_val.set {lp : List Nat} {ls : mj_L} {st st' : List mj_V} {i : Nat} {v : mj_V} (h : mj_val lp ls st) (hv : ∀ q, v = .inr (.inr q) → mj_vid q) (hl : ∀ w, v ≠ .inr (.inl w)) (g : ∀ q : mj_Id, .inr (.inr q) ∈ st' → .inr (.inr q) ∈ st) : mj_val lp (ls.set i (some v)) st' := by
  refine ⟨fun j q hj => ?_, fun j w hj => ?_, fun q hq => h.2.2 q (g q hq)⟩
  · by_cases e : i = j
    · subst e
      have hi := (List.getElem?_eq_some_iff.mp hj).1
      rw [List.length_set] at hi
      rw [List.getElem?_set_self hi] at hj
      cases hj
      exact hv q rfl
    · rw [List.getElem?_set_ne e] at hj
      exact h.1 j q hj
  · by_cases e : i = j
    · subst e
      have hi := (List.getElem?_eq_some_iff.mp hj).1
      rw [List.length_set] at hi
      rw [List.getElem?_set_self hi] at hj
      cases hj
      exact absurd rfl (hl w)
    · rw [List.getElem?_set_ne e] at hj
      exact h.2.1 j w hj
/-! what holds at a place of a method's row: the real machine comes to Q from there -/
def mj_GG (p : Program) (l : Launch) (e : Env) (R : Room) (s : State) (m : MethodId) (args : Array Value) (below : List Frame) (meth : Method) (c : Code) (cells slots : Nat) (Q : State → Prop) (nL : Nat) (lp : List Nat) (D : va_G) (X : mj_X) (ρ : mj_Id → Nat) (Hb : Heap) (L : Nat) (xs : Nat → Int32) (pc : Nat) (ls : mj_L) (st : List mj_V) (M : mj_M) : Prop :=
  ls.length = nL → mj_val lp ls st → ∀ (H : Heap) (locs : List Loc) (la : Array Slot), mj_P D X ρ Hb L xs M H → va_S (mj_A Hb) s.heap H locs → lv_has la nL (mj_la ρ ls) → W p l e R s m args below meth c H locs cells slots Q (F0 m pc la (st.map (mj_rv ρ)))

theorem mj_irem (x y : Int32) : x - x / y * y = x % y := by
  apply Int32.toInt_inj.mp
  rw [Int32.toInt_sub, Int32.toInt_mul, Int32.toInt_div, Int32.toInt_mod]
  have h1 := Int.mul_tdiv_add_tmod x.toInt y.toInt
  have h2 : x.toInt - (x.toInt.tdiv y.toInt) * y.toInt = x.toInt.tmod y.toInt := by rw [Int.mul_comm]; omega
  have h3 : ((x % y).toInt).bmod (2 ^ 32) = (x % y).toInt := by rw [← Int32.toInt_ofInt, Int32.ofInt_toInt]
  rw [Int32.toInt_mod] at h3
  rw [← h3, ← h2]
  simp

def mj_CX (p : Program) (s : State) (m : MethodId) (args : Array Value) (c : Code) (cc : ByteArray) (nL o : Nat) (D : va_G) (X : mj_X) (ρ : mj_Id → Nat) (Hb : Heap) (L : Nat) (xs : Nat → Int32) : Prop :=
  p.tables.exec = Jvm.exec ∧ c.code = cc ∧ c.maxLocals = nL ∧ s.vm.findClass (mj_cs_ o) = some m.cls ∧ (∀ w ∈ mj_WA, w.before args s = true) ∧ mj_K D X ρ Hb L xs s ∧ mj_Dd ρ Hb ∧ va_S (mj_A Hb) Hb s.heap []
section MS
variable {p : Program} {l : Launch} {e : Env} {R : Room} {s : State} {m : MethodId} {args : Array Value} {below : List Frame} {meth : Method} {c : Code} {cells slots : Nat} {Q : State → Prop}
variable {cc : ByteArray} {nL o : Nat} {lp : List Nat} {D : va_G} {X : mj_X} {ρ : mj_Id → Nat} {Hb : Heap} {L : Nat} {xs : Nat → Int32} {pc : Nat} {ls : mj_L} {r : List mj_V} {M : mj_M}

theorem ms_iadd (C : mj_CX p s m args c cc nL o D X ρ Hb L xs) {x y : Int32} (hd : decode cc pc = .ok (.iadd, 1)) (k : mj_GG p l e R s m args below meth c cells slots Q nL lp D X ρ Hb L xs (pc + 1) ls (.inl (x + y) :: r) M) : mj_GG p l e R s m args below meth c cells slots Q nL lp D X ρ Hb L xs pc ls (.inl y :: .inl x :: r) M :=
  fun hl hv H locs la hP hS hL => lv_iadd C.1 C.2.1 hd (k hl (hv.st (by simp)) H locs la hP hS hL)
theorem ms_isub (C : mj_CX p s m args c cc nL o D X ρ Hb L xs) {x y : Int32} (hd : decode cc pc = .ok (.isub, 1)) (k : mj_GG p l e R s m args below meth c cells slots Q nL lp D X ρ Hb L xs (pc + 1) ls (.inl (x - y) :: r) M) : mj_GG p l e R s m args below meth c cells slots Q nL lp D X ρ Hb L xs pc ls (.inl y :: .inl x :: r) M :=
  fun hl hv H locs la hP hS hL => lv_isub C.1 C.2.1 hd (k hl (hv.st (by simp)) H locs la hP hS hL)
theorem ms_imul (C : mj_CX p s m args c cc nL o D X ρ Hb L xs) {x y : Int32} (hd : decode cc pc = .ok (.imul, 1)) (k : mj_GG p l e R s m args below meth c cells slots Q nL lp D X ρ Hb L xs (pc + 1) ls (.inl (x * y) :: r) M) : mj_GG p l e R s m args below meth c cells slots Q nL lp D X ρ Hb L xs pc ls (.inl y :: .inl x :: r) M :=
  fun hl hv H locs la hP hS hL => lv_imul C.1 C.2.1 hd (k hl (hv.st (by simp)) H locs la hP hS hL)
theorem ms_iand (C : mj_CX p s m args c cc nL o D X ρ Hb L xs) {x y : Int32} (hd : decode cc pc = .ok (.iand, 1)) (k : mj_GG p l e R s m args below meth c cells slots Q nL lp D X ρ Hb L xs (pc + 1) ls (.inl (x &&& y) :: r) M) : mj_GG p l e R s m args below meth c cells slots Q nL lp D X ρ Hb L xs pc ls (.inl y :: .inl x :: r) M :=
  fun hl hv H locs la hP hS hL => lv_iand C.1 C.2.1 hd (k hl (hv.st (by simp)) H locs la hP hS hL)
theorem ms_ior (C : mj_CX p s m args c cc nL o D X ρ Hb L xs) {x y : Int32} (hd : decode cc pc = .ok (.ior, 1)) (k : mj_GG p l e R s m args below meth c cells slots Q nL lp D X ρ Hb L xs (pc + 1) ls (.inl (x ||| y) :: r) M) : mj_GG p l e R s m args below meth c cells slots Q nL lp D X ρ Hb L xs pc ls (.inl y :: .inl x :: r) M :=
  fun hl hv H locs la hP hS hL => lv_ior C.1 C.2.1 hd (k hl (hv.st (by simp)) H locs la hP hS hL)
theorem ms_ixor (C : mj_CX p s m args c cc nL o D X ρ Hb L xs) {x y : Int32} (hd : decode cc pc = .ok (.ixor, 1)) (k : mj_GG p l e R s m args below meth c cells slots Q nL lp D X ρ Hb L xs (pc + 1) ls (.inl (x ^^^ y) :: r) M) : mj_GG p l e R s m args below meth c cells slots Q nL lp D X ρ Hb L xs pc ls (.inl y :: .inl x :: r) M :=
  fun hl hv H locs la hP hS hL => lv_ixor C.1 C.2.1 hd (k hl (hv.st (by simp)) H locs la hP hS hL)
theorem ms_ishl (C : mj_CX p s m args c cc nL o D X ρ Hb L xs) {x y : Int32} (hd : decode cc pc = .ok (.ishl, 1)) (k : mj_GG p l e R s m args below meth c cells slots Q nL lp D X ρ Hb L xs (pc + 1) ls (.inl (x <<< (y &&& 31)) :: r) M) : mj_GG p l e R s m args below meth c cells slots Q nL lp D X ρ Hb L xs pc ls (.inl y :: .inl x :: r) M :=
  fun hl hv H locs la hP hS hL => lv_ishl C.1 C.2.1 hd (k hl (hv.st (by simp)) H locs la hP hS hL)
theorem ms_ishr (C : mj_CX p s m args c cc nL o D X ρ Hb L xs) {x y : Int32} (hd : decode cc pc = .ok (.ishr, 1)) (k : mj_GG p l e R s m args below meth c cells slots Q nL lp D X ρ Hb L xs (pc + 1) ls (.inl (x >>> (y &&& 31)) :: r) M) : mj_GG p l e R s m args below meth c cells slots Q nL lp D X ρ Hb L xs pc ls (.inl y :: .inl x :: r) M :=
  fun hl hv H locs la hP hS hL => lv_ishr C.1 C.2.1 hd (k hl (hv.st (by simp)) H locs la hP hS hL)
theorem ms_idiv (C : mj_CX p s m args c cc nL o D X ρ Hb L xs) {x y : Int32} (hd : decode cc pc = .ok (.idiv, 1)) (hne : ¬ y = 0) (k : mj_GG p l e R s m args below meth c cells slots Q nL lp D X ρ Hb L xs (pc + 1) ls (.inl (x / y) :: r) M) : mj_GG p l e R s m args below meth c cells slots Q nL lp D X ρ Hb L xs pc ls (.inl y :: .inl x :: r) M :=
  fun hl hv H locs la hP hS hL => lv_idiv C.1 C.2.1 hd hne (k hl (hv.st (by simp)) H locs la hP hS hL)
theorem ms_irem (C : mj_CX p s m args c cc nL o D X ρ Hb L xs) {x y : Int32} (hd : decode cc pc = .ok (.irem, 1)) (hne : ¬ y = 0) (k : mj_GG p l e R s m args below meth c cells slots Q nL lp D X ρ Hb L xs (pc + 1) ls (.inl (x % y) :: r) M) : mj_GG p l e R s m args below meth c cells slots Q nL lp D X ρ Hb L xs pc ls (.inl y :: .inl x :: r) M :=
  fun hl hv H locs la hP hS hL => lv_irem C.1 C.2.1 hd hne (by rw [mj_irem]; exact (k hl (hv.st (by simp)) H locs la hP hS hL))
theorem ms_ladd (C : mj_CX p s m args c cc nL o D X ρ Hb L xs) {x y : Int64} (hd : decode cc pc = .ok (.ladd, 1)) (k : mj_GG p l e R s m args below meth c cells slots Q nL lp D X ρ Hb L xs (pc + 1) ls (.inr (.inl (x + y)) :: r) M) : mj_GG p l e R s m args below meth c cells slots Q nL lp D X ρ Hb L xs pc ls (.inr (.inl y) :: .inr (.inl x) :: r) M :=
  fun hl hv H locs la hP hS hL => lv_ladd C.1 C.2.1 hd (k hl (hv.st (by simp)) H locs la hP hS hL)
theorem ms_lmul (C : mj_CX p s m args c cc nL o D X ρ Hb L xs) {x y : Int64} (hd : decode cc pc = .ok (.lmul, 1)) (k : mj_GG p l e R s m args below meth c cells slots Q nL lp D X ρ Hb L xs (pc + 1) ls (.inr (.inl (x * y)) :: r) M) : mj_GG p l e R s m args below meth c cells slots Q nL lp D X ρ Hb L xs pc ls (.inr (.inl y) :: .inr (.inl x) :: r) M :=
  fun hl hv H locs la hP hS hL => lv_lmul C.1 C.2.1 hd (k hl (hv.st (by simp)) H locs la hP hS hL)
theorem ms_land (C : mj_CX p s m args c cc nL o D X ρ Hb L xs) {x y : Int64} (hd : decode cc pc = .ok (.land, 1)) (k : mj_GG p l e R s m args below meth c cells slots Q nL lp D X ρ Hb L xs (pc + 1) ls (.inr (.inl (x &&& y)) :: r) M) : mj_GG p l e R s m args below meth c cells slots Q nL lp D X ρ Hb L xs pc ls (.inr (.inl y) :: .inr (.inl x) :: r) M :=
  fun hl hv H locs la hP hS hL => lv_land C.1 C.2.1 hd (k hl (hv.st (by simp)) H locs la hP hS hL)
theorem ms_lor (C : mj_CX p s m args c cc nL o D X ρ Hb L xs) {x y : Int64} (hd : decode cc pc = .ok (.lor, 1)) (k : mj_GG p l e R s m args below meth c cells slots Q nL lp D X ρ Hb L xs (pc + 1) ls (.inr (.inl (x ||| y)) :: r) M) : mj_GG p l e R s m args below meth c cells slots Q nL lp D X ρ Hb L xs pc ls (.inr (.inl y) :: .inr (.inl x) :: r) M :=
  fun hl hv H locs la hP hS hL => lv_lor C.1 C.2.1 hd (k hl (hv.st (by simp)) H locs la hP hS hL)
theorem ms_lcmp (C : mj_CX p s m args c cc nL o D X ρ Hb L xs) {x y : Int64} (hd : decode cc pc = .ok (.lcmp, 1)) (k : mj_GG p l e R s m args below meth c cells slots Q nL lp D X ρ Hb L xs (pc + 1) ls (.inl (lg_cmp x y) :: r) M) : mj_GG p l e R s m args below meth c cells slots Q nL lp D X ρ Hb L xs pc ls (.inr (.inl y) :: .inr (.inl x) :: r) M :=
  fun hl hv H locs la hP hS hL => W.lcmp C.1 C.2.1 hd (k hl (hv.st (by simp)) H locs la hP hS hL)
theorem ms_lshl (C : mj_CX p s m args c cc nL o D X ρ Hb L xs) {x : Int64} {y : Int32} (hd : decode cc pc = .ok (.lshl, 1)) (k : mj_GG p l e R s m args below meth c cells slots Q nL lp D X ρ Hb L xs (pc + 1) ls (.inr (.inl (x <<< (y.toInt64 &&& 63))) :: r) M) : mj_GG p l e R s m args below meth c cells slots Q nL lp D X ρ Hb L xs pc ls (.inl y :: .inr (.inl x) :: r) M :=
  fun hl hv H locs la hP hS hL => lv_lshl C.1 C.2.1 hd rfl (k hl (hv.st (by simp)) H locs la hP hS hL)
theorem ms_lshr (C : mj_CX p s m args c cc nL o D X ρ Hb L xs) {x : Int64} {y : Int32} (hd : decode cc pc = .ok (.lshr, 1)) (k : mj_GG p l e R s m args below meth c cells slots Q nL lp D X ρ Hb L xs (pc + 1) ls (.inr (.inl (x >>> (y.toInt64 &&& 63))) :: r) M) : mj_GG p l e R s m args below meth c cells slots Q nL lp D X ρ Hb L xs pc ls (.inl y :: .inr (.inl x) :: r) M :=
  fun hl hv H locs la hP hS hL => lv_lshr C.1 C.2.1 hd rfl (k hl (hv.st (by simp)) H locs la hP hS hL)
theorem ms_lushr (C : mj_CX p s m args c cc nL o D X ρ Hb L xs) {x : Int64} {y : Int32} (hd : decode cc pc = .ok (.lushr, 1)) (k : mj_GG p l e R s m args below meth c cells slots Q nL lp D X ρ Hb L xs (pc + 1) ls (.inr (.inl ((x.toUInt64 >>> (y.toInt64.toUInt64 &&& Int64.toUInt64 63)).toInt64)) :: r) M) : mj_GG p l e R s m args below meth c cells slots Q nL lp D X ρ Hb L xs pc ls (.inl y :: .inr (.inl x) :: r) M :=
  fun hl hv H locs la hP hS hL => lv_lushr C.1 C.2.1 hd rfl (k hl (hv.st (by simp)) H locs la hP hS hL)
theorem ms_i2l (C : mj_CX p s m args c cc nL o D X ρ Hb L xs) {x : Int32} (hd : decode cc pc = .ok (.i2l, 1)) (k : mj_GG p l e R s m args below meth c cells slots Q nL lp D X ρ Hb L xs (pc + 1) ls (.inr (.inl x.toInt64) :: r) M) : mj_GG p l e R s m args below meth c cells slots Q nL lp D X ρ Hb L xs pc ls (.inl x :: r) M :=
  fun hl hv H locs la hP hS hL => lv_i2l C.1 C.2.1 hd rfl (k hl (hv.st (by simp)) H locs la hP hS hL)
theorem ms_l2i (C : mj_CX p s m args c cc nL o D X ρ Hb L xs) {x : Int64} (hd : decode cc pc = .ok (.l2i, 1)) (k : mj_GG p l e R s m args below meth c cells slots Q nL lp D X ρ Hb L xs (pc + 1) ls (.inl x.toInt32 :: r) M) : mj_GG p l e R s m args below meth c cells slots Q nL lp D X ρ Hb L xs pc ls (.inr (.inl x) :: r) M :=
  fun hl hv H locs la hP hS hL => lv_l2i C.1 C.2.1 hd rfl (k hl (hv.st (by simp)) H locs la hP hS hL)
theorem ms_ineg (C : mj_CX p s m args c cc nL o D X ρ Hb L xs) {x : Int32} (hd : decode cc pc = .ok (.ineg, 1)) (k : mj_GG p l e R s m args below meth c cells slots Q nL lp D X ρ Hb L xs (pc + 1) ls (.inl (-x) :: r) M) : mj_GG p l e R s m args below meth c cells slots Q nL lp D X ρ Hb L xs pc ls (.inl x :: r) M :=
  fun hl hv H locs la hP hS hL => lv_ineg C.1 C.2.1 hd (k hl (hv.st (by simp)) H locs la hP hS hL)
theorem ms_i2b (C : mj_CX p s m args c cc nL o D X ρ Hb L xs) {x : Int32} (hd : decode cc pc = .ok (.i2b, 1)) (k : mj_GG p l e R s m args below meth c cells slots Q nL lp D X ρ Hb L xs (pc + 1) ls (.inl x.toInt8.toInt32 :: r) M) : mj_GG p l e R s m args below meth c cells slots Q nL lp D X ρ Hb L xs pc ls (.inl x :: r) M :=
  fun hl hv H locs la hP hS hL => lv_i2b C.1 C.2.1 hd rfl (k hl (hv.st (by simp)) H locs la hP hS hL)
theorem ms_i2s (C : mj_CX p s m args c cc nL o D X ρ Hb L xs) {x : Int32} (hd : decode cc pc = .ok (.i2s, 1)) (k : mj_GG p l e R s m args below meth c cells slots Q nL lp D X ρ Hb L xs (pc + 1) ls (.inl x.toInt16.toInt32 :: r) M) : mj_GG p l e R s m args below meth c cells slots Q nL lp D X ρ Hb L xs pc ls (.inl x :: r) M :=
  fun hl hv H locs la hP hS hL => lv_i2s C.1 C.2.1 hd rfl (k hl (hv.st (by simp)) H locs la hP hS hL)
theorem ms_iconst (C : mj_CX p s m args c cc nL o D X ρ Hb L xs) {n : Int} {v : Int32} (hd : decode cc pc = .ok (.iconst n, 1)) (hw : Int32.ofInt n = v) (k : mj_GG p l e R s m args below meth c cells slots Q nL lp D X ρ Hb L xs (pc + 1) ls (.inl v :: r) M) : mj_GG p l e R s m args below meth c cells slots Q nL lp D X ρ Hb L xs pc ls r M :=
  fun hl hv H locs la hP hS hL => lv_iconst C.1 C.2.1 hd hw (k hl (hv.st (by simp)) H locs la hP hS hL)
theorem ms_bipush (C : mj_CX p s m args c cc nL o D X ρ Hb L xs) {n : Int} {v : Int32} (hd : decode cc pc = .ok (.bipush n, 2)) (hw : (Int8.ofInt n).toInt32 = v) (k : mj_GG p l e R s m args below meth c cells slots Q nL lp D X ρ Hb L xs (pc + 2) ls (.inl v :: r) M) : mj_GG p l e R s m args below meth c cells slots Q nL lp D X ρ Hb L xs pc ls r M :=
  fun hl hv H locs la hP hS hL => lv_bipush C.1 C.2.1 hd hw (k hl (hv.st (by simp)) H locs la hP hS hL)
theorem ms_sipush (C : mj_CX p s m args c cc nL o D X ρ Hb L xs) {n : Int} {v : Int32} (hd : decode cc pc = .ok (.sipush n, 3)) (hw : (Int16.ofInt n).toInt32 = v) (k : mj_GG p l e R s m args below meth c cells slots Q nL lp D X ρ Hb L xs (pc + 3) ls (.inl v :: r) M) : mj_GG p l e R s m args below meth c cells slots Q nL lp D X ρ Hb L xs pc ls r M :=
  fun hl hv H locs la hP hS hL => lv_sipush C.1 C.2.1 hd hw (k hl (hv.st (by simp)) H locs la hP hS hL)
theorem ms_lconst (C : mj_CX p s m args c cc nL o D X ρ Hb L xs) {n : Fin 2} (hd : decode cc pc = .ok (.lconst n, 1)) (k : mj_GG p l e R s m args below meth c cells slots Q nL lp D X ρ Hb L xs (pc + 1) ls (.inr (.inl (Int64.ofNat n.val)) :: r) M) : mj_GG p l e R s m args below meth c cells slots Q nL lp D X ρ Hb L xs pc ls r M :=
  fun hl hv H locs la hP hS hL => lv_lconst C.1 C.2.1 hd rfl (k hl (hv.st (by simp)) H locs la hP hS hL)
theorem ms_dupi (C : mj_CX p s m args c cc nL o D X ρ Hb L xs) {x : Int32} (hd : decode cc pc = .ok (.dup, 1)) (k : mj_GG p l e R s m args below meth c cells slots Q nL lp D X ρ Hb L xs (pc + 1) ls (.inl x :: .inl x :: r) M) : mj_GG p l e R s m args below meth c cells slots Q nL lp D X ρ Hb L xs pc ls (.inl x :: r) M :=
  fun hl hv H locs la hP hS hL => lv_dup C.1 C.2.1 hd rfl (k hl (hv.st (by simp)) H locs la hP hS hL)
theorem ms_dupr (C : mj_CX p s m args c cc nL o D X ρ Hb L xs) {x : mj_Id} (hd : decode cc pc = .ok (.dup, 1)) (k : mj_GG p l e R s m args below meth c cells slots Q nL lp D X ρ Hb L xs (pc + 1) ls (.inr (.inr x) :: .inr (.inr x) :: r) M) : mj_GG p l e R s m args below meth c cells slots Q nL lp D X ρ Hb L xs pc ls (.inr (.inr x) :: r) M :=
  fun hl hv H locs la hP hS hL => lv_dup C.1 C.2.1 hd rfl (k hl (hv.st (by simp)) H locs la hP hS hL)
theorem ms_dup2 (C : mj_CX p s m args c cc nL o D X ρ Hb L xs) {q : mj_Id} {j : Int32} (hd : decode cc pc = .ok (.dup2, 1)) (k : mj_GG p l e R s m args below meth c cells slots Q nL lp D X ρ Hb L xs (pc + 1) ls (.inl j :: .inr (.inr q) :: .inl j :: .inr (.inr q) :: r) M) : mj_GG p l e R s m args below meth c cells slots Q nL lp D X ρ Hb L xs pc ls (.inl j :: .inr (.inr q) :: r) M :=
  fun hl hv H locs la hP hS hL => lv_dup2_11 C.1 C.2.1 hd rfl rfl (k hl (hv.st (by simp)) H locs la hP hS hL)
theorem ms_pop (C : mj_CX p s m args c cc nL o D X ρ Hb L xs) {x : Int32} (hd : decode cc pc = .ok (.pop, 1)) (k : mj_GG p l e R s m args below meth c cells slots Q nL lp D X ρ Hb L xs (pc + 1) ls r M) : mj_GG p l e R s m args below meth c cells slots Q nL lp D X ρ Hb L xs pc ls (.inl x :: r) M :=
  fun hl hv H locs la hP hS hL => lv_pop C.1 C.2.1 hd rfl (k hl (hv.st (fun q h => List.mem_cons_of_mem _ h)) H locs la hP hS hL)
theorem ms_iload (C : mj_CX p s m args c cc nL o D X ρ Hb L xs) {i : Nat} {x : Int32} (hd : decode cc pc = .ok (.iload i, 2)) (hx : ls[i]? = some (some (.inl x))) (k : mj_GG p l e R s m args below meth c cells slots Q nL lp D X ρ Hb L xs (pc + 2) ls (.inl x :: r) M) : mj_GG p l e R s m args below meth c cells slots Q nL lp D X ρ Hb L xs pc ls r M :=
  fun hl hv H locs la hP hS hL => lv_iload C.1 C.2.1 hd (mj_la_at hL hx) (k hl (hv.st (by simp)) H locs la hP hS hL)
theorem ms_iload_n (C : mj_CX p s m args c cc nL o D X ρ Hb L xs) {i : Fin 4} {x : Int32} (hd : decode cc pc = .ok (.iload_n i, 1)) (hx : ls[i.val]? = some (some (.inl x))) (k : mj_GG p l e R s m args below meth c cells slots Q nL lp D X ρ Hb L xs (pc + 1) ls (.inl x :: r) M) : mj_GG p l e R s m args below meth c cells slots Q nL lp D X ρ Hb L xs pc ls r M :=
  fun hl hv H locs la hP hS hL => lv_iload_n C.1 C.2.1 hd rfl (mj_la_at hL hx) (k hl (hv.st (by simp)) H locs la hP hS hL)
theorem ms_lload (C : mj_CX p s m args c cc nL o D X ρ Hb L xs) {i : Nat} {x : Int64} (hd : decode cc pc = .ok (.lload i, 2)) (hx : ls[i]? = some (some (.inr (.inl x)))) (k : mj_GG p l e R s m args below meth c cells slots Q nL lp D X ρ Hb L xs (pc + 2) ls (.inr (.inl x) :: r) M) : mj_GG p l e R s m args below meth c cells slots Q nL lp D X ρ Hb L xs pc ls r M :=
  fun hl hv H locs la hP hS hL => lv_lload C.1 C.2.1 hd (mj_la_at hL hx) (k hl (hv.st (by simp)) H locs la hP hS hL)
theorem ms_lload_n (C : mj_CX p s m args c cc nL o D X ρ Hb L xs) {i : Fin 4} {x : Int64} (hd : decode cc pc = .ok (.lload_n i, 1)) (hx : ls[i.val]? = some (some (.inr (.inl x)))) (k : mj_GG p l e R s m args below meth c cells slots Q nL lp D X ρ Hb L xs (pc + 1) ls (.inr (.inl x) :: r) M) : mj_GG p l e R s m args below meth c cells slots Q nL lp D X ρ Hb L xs pc ls r M :=
  fun hl hv H locs la hP hS hL => lv_lload_n C.1 C.2.1 hd rfl (mj_la_at hL hx) (k hl (hv.st (by simp)) H locs la hP hS hL)
theorem ms_aload (C : mj_CX p s m args c cc nL o D X ρ Hb L xs) {i : Nat} {x : mj_Id} (hd : decode cc pc = .ok (.aload i, 2)) (hx : ls[i]? = some (some (.inr (.inr x)))) (k : mj_GG p l e R s m args below meth c cells slots Q nL lp D X ρ Hb L xs (pc + 2) ls (.inr (.inr x) :: r) M) : mj_GG p l e R s m args below meth c cells slots Q nL lp D X ρ Hb L xs pc ls r M :=
  fun hl hv H locs la hP hS hL => lv_aload C.1 C.2.1 hd (mj_la_at hL hx) (k hl (hv.pu (hv.1 _ _ hx) (fun v h => h)) H locs la hP hS hL)
theorem ms_aload_n (C : mj_CX p s m args c cc nL o D X ρ Hb L xs) {i : Fin 4} {x : mj_Id} (hd : decode cc pc = .ok (.aload_n i, 1)) (hx : ls[i.val]? = some (some (.inr (.inr x)))) (k : mj_GG p l e R s m args below meth c cells slots Q nL lp D X ρ Hb L xs (pc + 1) ls (.inr (.inr x) :: r) M) : mj_GG p l e R s m args below meth c cells slots Q nL lp D X ρ Hb L xs pc ls r M :=
  fun hl hv H locs la hP hS hL => lv_aload_n C.1 C.2.1 hd rfl (mj_la_at hL hx) (k hl (hv.pu (hv.1 _ _ hx) (fun v h => h)) H locs la hP hS hL)
theorem ms_istore (C : mj_CX p s m args c cc nL o D X ρ Hb L xs) {i : Nat} {x : Int32} (hd : decode cc pc = .ok (.istore i, 2)) (hi : i < ls.length) (hk : mj_lpk lp i = true) (k : mj_GG p l e R s m args below meth c cells slots Q nL lp D X ρ Hb L xs (pc + 2) (ls.set i (some (.inl x))) r M) : mj_GG p l e R s m args below meth c cells slots Q nL lp D X ρ Hb L xs pc ls (.inl x :: r) M :=
  fun hl hv H locs la hP hS hL => lv_istore C.1 C.2.1 hd hL (hl ▸ hi) rfl (fun la' hL' => k ((List.length_set).trans hl) (hv.set (fun q h => by cases h) (fun w h => by cases h) (by simp)) H locs la' hP hS (mj_store hv hk hL'))
theorem ms_istore_n (C : mj_CX p s m args c cc nL o D X ρ Hb L xs) {i : Fin 4} {x : Int32} (hd : decode cc pc = .ok (.istore_n i, 1)) (hi : i.val < ls.length) (hk : mj_lpk lp i.val = true) (k : mj_GG p l e R s m args below meth c cells slots Q nL lp D X ρ Hb L xs (pc + 1) (ls.set i.val (some (.inl x))) r M) : mj_GG p l e R s m args below meth c cells slots Q nL lp D X ρ Hb L xs pc ls (.inl x :: r) M :=
  fun hl hv H locs la hP hS hL => lv_istore_n C.1 C.2.1 hd rfl hL (hl ▸ hi) rfl (fun la' hL' => k ((List.length_set).trans hl) (hv.set (fun q h => by cases h) (fun w h => by cases h) (by simp)) H locs la' hP hS (mj_store hv hk hL'))
theorem ms_astore (C : mj_CX p s m args c cc nL o D X ρ Hb L xs) {i : Nat} {x : mj_Id} (hd : decode cc pc = .ok (.astore i, 2)) (hi : i < ls.length) (hk : mj_lpk lp i = true) (k : mj_GG p l e R s m args below meth c cells slots Q nL lp D X ρ Hb L xs (pc + 2) (ls.set i (some (.inr (.inr x)))) r M) : mj_GG p l e R s m args below meth c cells slots Q nL lp D X ρ Hb L xs pc ls (.inr (.inr x) :: r) M :=
  fun hl hv H locs la hP hS hL => lv_astore C.1 C.2.1 hd hL (hl ▸ hi) rfl (fun la' hL' => k ((List.length_set).trans hl) (hv.set (fun q h => by cases h; exact hv.2.2 _ List.mem_cons_self) (fun w h => by cases h) (fun q h => List.mem_cons_of_mem _ h)) H locs la' hP hS (mj_store hv hk hL'))
theorem ms_astore_n (C : mj_CX p s m args c cc nL o D X ρ Hb L xs) {i : Fin 4} {x : mj_Id} (hd : decode cc pc = .ok (.astore_n i, 1)) (hi : i.val < ls.length) (hk : mj_lpk lp i.val = true) (k : mj_GG p l e R s m args below meth c cells slots Q nL lp D X ρ Hb L xs (pc + 1) (ls.set i.val (some (.inr (.inr x)))) r M) : mj_GG p l e R s m args below meth c cells slots Q nL lp D X ρ Hb L xs pc ls (.inr (.inr x) :: r) M :=
  fun hl hv H locs la hP hS hL => lv_astore_n C.1 C.2.1 hd rfl hL (hl ▸ hi) rfl (fun la' hL' => k ((List.length_set).trans hl) (hv.set (fun q h => by cases h; exact hv.2.2 _ List.mem_cons_self) (fun w h => by cases h) (fun q h => List.mem_cons_of_mem _ h)) H locs la' hP hS (mj_store hv hk hL'))
theorem ms_iinc (C : mj_CX p s m args c cc nL o D X ρ Hb L xs) {i : Nat} {n : Int} {x v : Int32} (hd : decode cc pc = .ok (.iinc i n, 3)) (hx : ls[i]? = some (some (.inl x))) (hw : Int32.ofInt n = v) (hi : i < ls.length) (hk : mj_lpk lp i = true) (k : mj_GG p l e R s m args below meth c cells slots Q nL lp D X ρ Hb L xs (pc + 3) (ls.set i (some (.inl (x + v)))) r M) : mj_GG p l e R s m args below meth c cells slots Q nL lp D X ρ Hb L xs pc ls r M := by
  intro hl hv H locs la hP hS hL
  obtain ⟨j, hj⟩ := List.getElem?_of_mem (mj_la_in (ρ := ρ) hx)
  refine lv_iinc (v := x + v) C.1 C.2.1 hd hL hj (by rw [hw]) (hl ▸ hi) rfl (fun la' hL' => ?_)
  exact k ((List.length_set).trans hl) (hv.set (fun q h => by cases h) (fun w h => by cases h) (fun q h => h)) H locs la' hP hS (mj_store hv hk hL')
theorem ms_icmp_eq (C : mj_CX p s m args c cc nL o D X ρ Hb L xs) {off : Int} {t : Nat} {x y : Int32} (hd : decode cc pc = .ok (.if_icmp .eq off, 3)) (ht : (pc : Int) + off = (t : Int)) (kt : x = y → mj_GG p l e R s m args below meth c cells slots Q nL lp D X ρ Hb L xs t ls r M) (kf : ¬ (x = y) → mj_GG p l e R s m args below meth c cells slots Q nL lp D X ρ Hb L xs (pc + 3) ls r M) : mj_GG p l e R s m args below meth c cells slots Q nL lp D X ρ Hb L xs pc ls (.inl y :: .inl x :: r) M :=
  fun hl hv H locs la hP hS hL => lv_icmp_eq C.1 C.2.1 hd ht (fun h => kt h hl (hv.st (by simp)) H locs la hP hS hL) (fun h => kf h hl (hv.st (by simp)) H locs la hP hS hL)
theorem ms_if_eq (C : mj_CX p s m args c cc nL o D X ρ Hb L xs) {off : Int} {t : Nat} {x : Int32} (hd : decode cc pc = .ok (.ifCond .eq off, 3)) (ht : (pc : Int) + off = (t : Int)) (kt : x = 0 → mj_GG p l e R s m args below meth c cells slots Q nL lp D X ρ Hb L xs t ls r M) (kf : ¬ (x = 0) → mj_GG p l e R s m args below meth c cells slots Q nL lp D X ρ Hb L xs (pc + 3) ls r M) : mj_GG p l e R s m args below meth c cells slots Q nL lp D X ρ Hb L xs pc ls (.inl x :: r) M :=
  fun hl hv H locs la hP hS hL => lv_if_eq C.1 C.2.1 hd ht (fun h => kt h hl (hv.st (by simp)) H locs la hP hS hL) (fun h => kf h hl (hv.st (by simp)) H locs la hP hS hL)
theorem ms_icmp_ne (C : mj_CX p s m args c cc nL o D X ρ Hb L xs) {off : Int} {t : Nat} {x y : Int32} (hd : decode cc pc = .ok (.if_icmp .ne off, 3)) (ht : (pc : Int) + off = (t : Int)) (kt : ¬ x = y → mj_GG p l e R s m args below meth c cells slots Q nL lp D X ρ Hb L xs t ls r M) (kf : ¬ (¬ x = y) → mj_GG p l e R s m args below meth c cells slots Q nL lp D X ρ Hb L xs (pc + 3) ls r M) : mj_GG p l e R s m args below meth c cells slots Q nL lp D X ρ Hb L xs pc ls (.inl y :: .inl x :: r) M :=
  fun hl hv H locs la hP hS hL => lv_icmp_ne C.1 C.2.1 hd ht (fun h => kt h hl (hv.st (by simp)) H locs la hP hS hL) (fun h => kf (fun z => z h) hl (hv.st (by simp)) H locs la hP hS hL)
theorem ms_if_ne (C : mj_CX p s m args c cc nL o D X ρ Hb L xs) {off : Int} {t : Nat} {x : Int32} (hd : decode cc pc = .ok (.ifCond .ne off, 3)) (ht : (pc : Int) + off = (t : Int)) (kt : ¬ x = 0 → mj_GG p l e R s m args below meth c cells slots Q nL lp D X ρ Hb L xs t ls r M) (kf : ¬ (¬ x = 0) → mj_GG p l e R s m args below meth c cells slots Q nL lp D X ρ Hb L xs (pc + 3) ls r M) : mj_GG p l e R s m args below meth c cells slots Q nL lp D X ρ Hb L xs pc ls (.inl x :: r) M :=
  fun hl hv H locs la hP hS hL => lv_if_ne C.1 C.2.1 hd ht (fun h => kt h hl (hv.st (by simp)) H locs la hP hS hL) (fun h => kf (fun z => z h) hl (hv.st (by simp)) H locs la hP hS hL)
theorem ms_icmp_lt (C : mj_CX p s m args c cc nL o D X ρ Hb L xs) {off : Int} {t : Nat} {x y : Int32} (hd : decode cc pc = .ok (.if_icmp .lt off, 3)) (ht : (pc : Int) + off = (t : Int)) (kt : x < y → mj_GG p l e R s m args below meth c cells slots Q nL lp D X ρ Hb L xs t ls r M) (kf : ¬ (x < y) → mj_GG p l e R s m args below meth c cells slots Q nL lp D X ρ Hb L xs (pc + 3) ls r M) : mj_GG p l e R s m args below meth c cells slots Q nL lp D X ρ Hb L xs pc ls (.inl y :: .inl x :: r) M :=
  fun hl hv H locs la hP hS hL => lv_icmp_lt C.1 C.2.1 hd ht (fun h => kt h hl (hv.st (by simp)) H locs la hP hS hL) (fun h => kf h hl (hv.st (by simp)) H locs la hP hS hL)
theorem ms_if_lt (C : mj_CX p s m args c cc nL o D X ρ Hb L xs) {off : Int} {t : Nat} {x : Int32} (hd : decode cc pc = .ok (.ifCond .lt off, 3)) (ht : (pc : Int) + off = (t : Int)) (kt : x < 0 → mj_GG p l e R s m args below meth c cells slots Q nL lp D X ρ Hb L xs t ls r M) (kf : ¬ (x < 0) → mj_GG p l e R s m args below meth c cells slots Q nL lp D X ρ Hb L xs (pc + 3) ls r M) : mj_GG p l e R s m args below meth c cells slots Q nL lp D X ρ Hb L xs pc ls (.inl x :: r) M :=
  fun hl hv H locs la hP hS hL => lv_if_lt C.1 C.2.1 hd ht (fun h => kt h hl (hv.st (by simp)) H locs la hP hS hL) (fun h => kf h hl (hv.st (by simp)) H locs la hP hS hL)
theorem ms_icmp_ge (C : mj_CX p s m args c cc nL o D X ρ Hb L xs) {off : Int} {t : Nat} {x y : Int32} (hd : decode cc pc = .ok (.if_icmp .ge off, 3)) (ht : (pc : Int) + off = (t : Int)) (kt : y ≤ x → mj_GG p l e R s m args below meth c cells slots Q nL lp D X ρ Hb L xs t ls r M) (kf : ¬ (y ≤ x) → mj_GG p l e R s m args below meth c cells slots Q nL lp D X ρ Hb L xs (pc + 3) ls r M) : mj_GG p l e R s m args below meth c cells slots Q nL lp D X ρ Hb L xs pc ls (.inl y :: .inl x :: r) M :=
  fun hl hv H locs la hP hS hL => lv_icmp_ge C.1 C.2.1 hd ht (fun h => kt h hl (hv.st (by simp)) H locs la hP hS hL) (fun h => kf h hl (hv.st (by simp)) H locs la hP hS hL)
theorem ms_if_ge (C : mj_CX p s m args c cc nL o D X ρ Hb L xs) {off : Int} {t : Nat} {x : Int32} (hd : decode cc pc = .ok (.ifCond .ge off, 3)) (ht : (pc : Int) + off = (t : Int)) (kt : 0 ≤ x → mj_GG p l e R s m args below meth c cells slots Q nL lp D X ρ Hb L xs t ls r M) (kf : ¬ (0 ≤ x) → mj_GG p l e R s m args below meth c cells slots Q nL lp D X ρ Hb L xs (pc + 3) ls r M) : mj_GG p l e R s m args below meth c cells slots Q nL lp D X ρ Hb L xs pc ls (.inl x :: r) M :=
  fun hl hv H locs la hP hS hL => lv_if_ge C.1 C.2.1 hd ht (fun h => kt h hl (hv.st (by simp)) H locs la hP hS hL) (fun h => kf h hl (hv.st (by simp)) H locs la hP hS hL)
theorem ms_icmp_gt (C : mj_CX p s m args c cc nL o D X ρ Hb L xs) {off : Int} {t : Nat} {x y : Int32} (hd : decode cc pc = .ok (.if_icmp .gt off, 3)) (ht : (pc : Int) + off = (t : Int)) (kt : y < x → mj_GG p l e R s m args below meth c cells slots Q nL lp D X ρ Hb L xs t ls r M) (kf : ¬ (y < x) → mj_GG p l e R s m args below meth c cells slots Q nL lp D X ρ Hb L xs (pc + 3) ls r M) : mj_GG p l e R s m args below meth c cells slots Q nL lp D X ρ Hb L xs pc ls (.inl y :: .inl x :: r) M :=
  fun hl hv H locs la hP hS hL => lv_icmp_gt C.1 C.2.1 hd ht (fun h => kt h hl (hv.st (by simp)) H locs la hP hS hL) (fun h => kf h hl (hv.st (by simp)) H locs la hP hS hL)
theorem ms_if_gt (C : mj_CX p s m args c cc nL o D X ρ Hb L xs) {off : Int} {t : Nat} {x : Int32} (hd : decode cc pc = .ok (.ifCond .gt off, 3)) (ht : (pc : Int) + off = (t : Int)) (kt : 0 < x → mj_GG p l e R s m args below meth c cells slots Q nL lp D X ρ Hb L xs t ls r M) (kf : ¬ (0 < x) → mj_GG p l e R s m args below meth c cells slots Q nL lp D X ρ Hb L xs (pc + 3) ls r M) : mj_GG p l e R s m args below meth c cells slots Q nL lp D X ρ Hb L xs pc ls (.inl x :: r) M :=
  fun hl hv H locs la hP hS hL => lv_if_gt C.1 C.2.1 hd ht (fun h => kt h hl (hv.st (by simp)) H locs la hP hS hL) (fun h => kf h hl (hv.st (by simp)) H locs la hP hS hL)
theorem ms_icmp_le (C : mj_CX p s m args c cc nL o D X ρ Hb L xs) {off : Int} {t : Nat} {x y : Int32} (hd : decode cc pc = .ok (.if_icmp .le off, 3)) (ht : (pc : Int) + off = (t : Int)) (kt : x ≤ y → mj_GG p l e R s m args below meth c cells slots Q nL lp D X ρ Hb L xs t ls r M) (kf : ¬ (x ≤ y) → mj_GG p l e R s m args below meth c cells slots Q nL lp D X ρ Hb L xs (pc + 3) ls r M) : mj_GG p l e R s m args below meth c cells slots Q nL lp D X ρ Hb L xs pc ls (.inl y :: .inl x :: r) M :=
  fun hl hv H locs la hP hS hL => lv_icmp_le C.1 C.2.1 hd ht (fun h => kt h hl (hv.st (by simp)) H locs la hP hS hL) (fun h => kf h hl (hv.st (by simp)) H locs la hP hS hL)
theorem ms_if_le (C : mj_CX p s m args c cc nL o D X ρ Hb L xs) {off : Int} {t : Nat} {x : Int32} (hd : decode cc pc = .ok (.ifCond .le off, 3)) (ht : (pc : Int) + off = (t : Int)) (kt : x ≤ 0 → mj_GG p l e R s m args below meth c cells slots Q nL lp D X ρ Hb L xs t ls r M) (kf : ¬ (x ≤ 0) → mj_GG p l e R s m args below meth c cells slots Q nL lp D X ρ Hb L xs (pc + 3) ls r M) : mj_GG p l e R s m args below meth c cells slots Q nL lp D X ρ Hb L xs pc ls (.inl x :: r) M :=
  fun hl hv H locs la hP hS hL => lv_if_le C.1 C.2.1 hd ht (fun h => kt h hl (hv.st (by simp)) H locs la hP hS hL) (fun h => kf h hl (hv.st (by simp)) H locs la hP hS hL)
theorem ms_goto (C : mj_CX p s m args c cc nL o D X ρ Hb L xs) {off : Int} {t : Nat} (hd : decode cc pc = .ok (.goto off, 3)) (ht : (pc : Int) + off = (t : Int)) (k : mj_GG p l e R s m args below meth c cells slots Q nL lp D X ρ Hb L xs t ls r M) : mj_GG p l e R s m args below meth c cells slots Q nL lp D X ρ Hb L xs pc ls r M :=
  fun hl hv H locs la hP hS hL => lv_goto C.1 C.2.1 hd ht (k hl hv H locs la hP hS hL)
end MS
