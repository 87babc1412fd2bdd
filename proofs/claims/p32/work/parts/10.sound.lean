/-! Soundness: what the small machine says of a method is its contract on the real one. -/
theorem mj_P_eq {D : va_G} {X : mj_X} {ρ : mj_Id → Nat} {Hb : Heap} {L : Nat} {xs : Nat → Int32} {M N : mj_M} {H : Heap} (e : mj_eq M N) (h : mj_P D X ρ Hb L xs M H) : mj_P D X ρ Hb L xs N H := by
  refine ⟨fun k x hx => ?_, h.2.1, ?_⟩
  · obtain ⟨q, hq, rfl⟩ := mj_ws_get hx
    refine mj_en_congr (M := M) (fun t ht => e _ _ _ _ (mj_own_lo (List.mem_of_getElem? hq) ht).2.2) (h.1 k _ ?_)
    unfold mj_ws
    rw [List.getElem?_map, hq]
    rfl
  · obtain ⟨a, b, c, d⟩ := h.2.2
    exact ⟨fun j hj => (e 40 80 0 j rfl).symm.trans (a j hj), fun j hj => (e 40 81 0 j rfl).symm.trans (b j hj), by rw [← e 41 83 0 0 rfl]; exact c, fun j hj => (e 41 82 0 j rfl).symm.trans (d j hj)⟩
def mj_sl (ks : List Nat) : Nat := match ks with
  | [] => 0
  | 1 :: ks => 2 + mj_sl ks
  | _ :: ks => 1 + mj_sl ks
theorem mj_sl_ok : (List.range mj_mt.length).all (fun g => Nat.ble (mj_sl (mj_kd.getD g [])) (mj_mx g) && mj_ml.getD g 0 == mj_mx g) = true := by decide +kernel
theorem mj_fit1_l {k : Nat} {v : mj_V} (h : mj_fit1 k v = true) : (k = 1 ∧ ∃ w, v = .inr (.inl w)) ∨ (k ≠ 1 ∧ ∀ w, v ≠ .inr (.inl w)) := by
  rcases v with x | w | q
  · have h : (k == 0) = true := h
    rw [beq_iff_eq] at h
    exact Or.inr ⟨by omega, fun w z => by cases z⟩
  · have h : (k == 1) = true := h
    rw [beq_iff_eq] at h
    exact Or.inl ⟨h, w, rfl⟩
  · have h : (k == 2 || (Nat.ble 100 k && mj_ci q.2.1 == k - 100)) = true := h
    simp only [Bool.or_eq_true, Bool.and_eq_true, beq_iff_eq, Nat.ble_eq] at h
    exact Or.inr ⟨by omega, fun w z => by cases z⟩
theorem mj_av_c {v : mj_V} {vs : List mj_V} (h : ∀ w, v ≠ .inr (.inl w)) : mj_av (v :: vs) = some v :: mj_av vs := by
  rcases v with x | w | q
  · rfl
  · exact absurd rfl (h w)
  · rfl
theorem mj_sl_c {k : Nat} {ks : List Nat} (h : k ≠ 1) : mj_sl (k :: ks) = 1 + mj_sl ks := by
  match k, h with
  | 0, _ => rfl
  | 1, h => exact absurd rfl h
  | k + 2, _ => rfl
theorem mj_lg_c {n k : Nat} {ks : List Nat} (h : k ≠ 1) : mj_lg n (k :: ks) = mj_lg (n + 1) ks := by
  match k, h with
  | 0, _ => rfl
  | 1, h => exact absurd rfl h
  | k + 2, _ => rfl
theorem mj_av_len : ∀ (ks : List Nat) (vs : List mj_V), mj_fit ks vs = true → (mj_av vs).length = mj_sl ks
  | [], [], _ => rfl
  | k :: ks, v :: vs, h => by
    have h : (mj_fit1 k v && mj_fit ks vs) = true := h
    rw [Bool.and_eq_true] at h
    rcases mj_fit1_l h.1 with ⟨rfl, w, rfl⟩ | ⟨h1, h2⟩
    · show (mj_av vs).length + 1 + 1 = 2 + mj_sl ks
      rw [mj_av_len ks vs h.2]
      omega
    · rw [mj_av_c h2, mj_sl_c h1, List.length_cons, mj_av_len ks vs h.2]
      omega
  | [], _ :: _, h => by cases h
  | _ :: _, [], h => by cases h
theorem mj_av_in : ∀ (vs : List mj_V) (j : Nat) (v : mj_V), (mj_av vs)[j]? = some (some v) → v ∈ vs
  | [], j, v, h => by simp [mj_av] at h
  | .inl x :: vs, j, v, h => by
    cases j with
    | zero => cases h; exact List.mem_cons_self
    | succ j => exact List.mem_cons_of_mem _ (mj_av_in vs j v h)
  | .inr (.inr x) :: vs, j, v, h => by
    cases j with
    | zero => cases h; exact List.mem_cons_self
    | succ j => exact List.mem_cons_of_mem _ (mj_av_in vs j v h)
  | .inr (.inl x) :: vs, j, v, h => by
    rcases j with _ | _ | j
    · cases h; exact List.mem_cons_self
    · cases h
    · exact List.mem_cons_of_mem _ (mj_av_in vs j v h)
theorem mj_av_lg : ∀ (ks : List Nat) (vs : List mj_V) (n j : Nat) (w : Int64), mj_fit ks vs = true → (mj_av vs)[j]? = some (some (.inr (.inl w))) → n + j ∈ mj_lg n ks
  | [], [], n, j, w, _, h => by simp [mj_av] at h
  | k :: ks, v :: vs, n, j, w, h, hj => by
    have h : (mj_fit1 k v && mj_fit ks vs) = true := h
    rw [Bool.and_eq_true] at h
    rcases mj_fit1_l h.1 with ⟨rfl, w', rfl⟩ | ⟨h1, h2⟩
    · show n + j ∈ n :: mj_lg (n + 2) ks
      rcases j with _ | _ | j
      · exact List.mem_cons_self
      · cases hj
      · have := mj_av_lg ks vs (n + 2) j w h.2 hj
        rw [show n + 2 + j = n + (j + 1 + 1) by omega] at this
        exact List.mem_cons_of_mem _ this
    · rw [mj_av_c h2] at hj
      rw [mj_lg_c h1]
      cases j with
      | zero => cases hj; exact absurd rfl (h2 w)
      | succ j =>
        have := mj_av_lg ks vs (n + 1) j w h.2 hj
        rw [show n + 1 + j = n + (j + 1) by omega] at this
        exact this
  | [], _ :: _, _, _, _, h, _ => by cases h
  | _ :: _, [], _, _, _, h, _ => by cases h
theorem mj_av_args {ρ : mj_Id → Nat} : ∀ (vs : List mj_V) (i j : Nat) (v : mj_V), (mj_av vs)[j]? = some (some v) → (i + j, mj_rv ρ v) ∈ lv_args i (vs.map (mj_rv ρ))
  | [], i, j, v, h => by simp [mj_av] at h
  | .inl x :: vs, i, j, v, h => by
    show _ ∈ (i, mj_rv ρ (.inl x)) :: lv_args (i + 1) (vs.map (mj_rv ρ))
    cases j with
    | zero => cases h; exact List.mem_cons_self
    | succ j =>
      have := mj_av_args (ρ := ρ) vs (i + 1) j v h
      rw [show i + 1 + j = i + (j + 1) by omega] at this
      exact List.mem_cons_of_mem _ this
  | .inr (.inr x) :: vs, i, j, v, h => by
    show _ ∈ (i, mj_rv ρ (.inr (.inr x))) :: lv_args (i + 1) (vs.map (mj_rv ρ))
    cases j with
    | zero => cases h; exact List.mem_cons_self
    | succ j =>
      have := mj_av_args (ρ := ρ) vs (i + 1) j v h
      rw [show i + 1 + j = i + (j + 1) by omega] at this
      exact List.mem_cons_of_mem _ this
  | .inr (.inl x) :: vs, i, j, v, h => by
    show _ ∈ (i, mj_rv ρ (.inr (.inl x))) :: lv_args (i + 2) (vs.map (mj_rv ρ))
    rcases j with _ | _ | j
    · cases h; exact List.mem_cons_self
    · cases h
    · have := mj_av_args (ρ := ρ) vs (i + 2) j v h
      rw [show i + 2 + j = i + (j + 1 + 1) by omega] at this
      exact List.mem_cons_of_mem _ this
theorem mj_sl_len {ρ : mj_Id → Nat} : ∀ (vs : List mj_V), (lg_sl (vs.map (mj_rv ρ))).length = (mj_av vs).length
  | [] => rfl
  | .inl x :: vs => by
    have := mj_sl_len (ρ := ρ) vs
    show (lg_sl (.int x :: vs.map (mj_rv ρ))).length = (mj_av vs).length + 1
    rw [← this]
    simp [lg_sl, Value.category]
  | .inr (.inr x) :: vs => by
    have := mj_sl_len (ρ := ρ) vs
    show (lg_sl (.ref (ρ x) :: vs.map (mj_rv ρ))).length = (mj_av vs).length + 1
    rw [← this]
    simp [lg_sl, Value.category]
  | .inr (.inl x) :: vs => by
    have := mj_sl_len (ρ := ρ) vs
    show (lg_sl (.long x :: vs.map (mj_rv ρ))).length = (mj_av vs).length + 1 + 1
    rw [← this]
    simp [lg_sl, Value.category]
    try omega
theorem mj_ent_at {n : Nat} {vs : List mj_V} {j : Nat} {v : mj_V} (h : (mj_ent n vs)[j]? = some (some v)) : (mj_av vs)[j]? = some (some v) := by
  unfold mj_ent at h
  by_cases hj : j < (mj_av vs).length
  · rwa [List.getElem?_append_left hj] at h
  · rw [List.getElem?_append_right (by omega)] at h
    have := List.eq_of_mem_replicate (List.mem_of_getElem? h)
    cases this
/-- every method's rows stand -/
theorem mj_cfa : ∀ g, g < mj_mt.length → mj_cf g = true := by
  intro g hg
  have hg : g < 70 := hg
  rcases Nat.lt_or_ge g 35 with h | h
  · skip
    rcases Nat.lt_or_ge g 17 with h | h
    · skip
      rcases Nat.lt_or_ge g 8 with h | h
      · skip
        rcases Nat.lt_or_ge g 4 with h | h
        · skip
          rcases Nat.lt_or_ge g 2 with h | h
          · skip
            rcases Nat.lt_or_ge g 1 with h | h
            · skip
              exact (show g = 0 by omega) ▸ mj_cf0
            · skip
              exact (show g = 1 by omega) ▸ mj_cf1
          · skip
            rcases Nat.lt_or_ge g 3 with h | h
            · skip
              exact (show g = 2 by omega) ▸ mj_cf2
            · skip
              exact (show g = 3 by omega) ▸ mj_cf3
        · skip
          rcases Nat.lt_or_ge g 6 with h | h
          · skip
            rcases Nat.lt_or_ge g 5 with h | h
            · skip
              exact (show g = 4 by omega) ▸ mj_cf4
            · skip
              exact (show g = 5 by omega) ▸ mj_cf5
          · skip
            rcases Nat.lt_or_ge g 7 with h | h
            · skip
              exact (show g = 6 by omega) ▸ mj_cf6
            · skip
              exact (show g = 7 by omega) ▸ mj_cf7
      · skip
        rcases Nat.lt_or_ge g 12 with h | h
        · skip
          rcases Nat.lt_or_ge g 10 with h | h
          · skip
            rcases Nat.lt_or_ge g 9 with h | h
            · skip
              exact (show g = 8 by omega) ▸ mj_cf8
            · skip
              exact (show g = 9 by omega) ▸ mj_cf9
          · skip
            rcases Nat.lt_or_ge g 11 with h | h
            · skip
              exact (show g = 10 by omega) ▸ mj_cf10
            · skip
              exact (show g = 11 by omega) ▸ mj_cf11
        · skip
          rcases Nat.lt_or_ge g 14 with h | h
          · skip
            rcases Nat.lt_or_ge g 13 with h | h
            · skip
              exact (show g = 12 by omega) ▸ mj_cf12
            · skip
              exact (show g = 13 by omega) ▸ mj_cf13
          · skip
            rcases Nat.lt_or_ge g 15 with h | h
            · skip
              exact (show g = 14 by omega) ▸ mj_cf14
            · skip
              rcases Nat.lt_or_ge g 16 with h | h
              · skip
                exact (show g = 15 by omega) ▸ mj_cf15
              · skip
                exact (show g = 16 by omega) ▸ mj_cf16
    · skip
      rcases Nat.lt_or_ge g 26 with h | h
      · skip
        rcases Nat.lt_or_ge g 21 with h | h
        · skip
          rcases Nat.lt_or_ge g 19 with h | h
          · skip
            rcases Nat.lt_or_ge g 18 with h | h
            · skip
              exact (show g = 17 by omega) ▸ mj_cf17
            · skip
              exact (show g = 18 by omega) ▸ mj_cf18
          · skip
            rcases Nat.lt_or_ge g 20 with h | h
            · skip
              exact (show g = 19 by omega) ▸ mj_cf19
            · skip
              exact (show g = 20 by omega) ▸ mj_cf20
        · skip
          rcases Nat.lt_or_ge g 23 with h | h
          · skip
            rcases Nat.lt_or_ge g 22 with h | h
            · skip
              exact (show g = 21 by omega) ▸ mj_cf21
            · skip
              exact (show g = 22 by omega) ▸ mj_cf22
          · skip
            rcases Nat.lt_or_ge g 24 with h | h
            · skip
              exact (show g = 23 by omega) ▸ mj_cf23
            · skip
              rcases Nat.lt_or_ge g 25 with h | h
              · skip
                exact (show g = 24 by omega) ▸ mj_cf24
              · skip
                exact (show g = 25 by omega) ▸ mj_cf25
      · skip
        rcases Nat.lt_or_ge g 30 with h | h
        · skip
          rcases Nat.lt_or_ge g 28 with h | h
          · skip
            rcases Nat.lt_or_ge g 27 with h | h
            · skip
              exact (show g = 26 by omega) ▸ mj_cf26
            · skip
              exact (show g = 27 by omega) ▸ mj_cf27
          · skip
            rcases Nat.lt_or_ge g 29 with h | h
            · skip
              exact (show g = 28 by omega) ▸ mj_cf28
            · skip
              exact (show g = 29 by omega) ▸ mj_cf29
        · skip
          rcases Nat.lt_or_ge g 32 with h | h
          · skip
            rcases Nat.lt_or_ge g 31 with h | h
            · skip
              exact (show g = 30 by omega) ▸ mj_cf30
            · skip
              exact (show g = 31 by omega) ▸ mj_cf31
          · skip
            rcases Nat.lt_or_ge g 33 with h | h
            · skip
              exact (show g = 32 by omega) ▸ mj_cf32
            · skip
              rcases Nat.lt_or_ge g 34 with h | h
              · skip
                exact (show g = 33 by omega) ▸ mj_cf33
              · skip
                exact (show g = 34 by omega) ▸ mj_cf34
  · skip
    rcases Nat.lt_or_ge g 52 with h | h
    · skip
      rcases Nat.lt_or_ge g 43 with h | h
      · skip
        rcases Nat.lt_or_ge g 39 with h | h
        · skip
          rcases Nat.lt_or_ge g 37 with h | h
          · skip
            rcases Nat.lt_or_ge g 36 with h | h
            · skip
              exact (show g = 35 by omega) ▸ mj_cf35
            · skip
              exact (show g = 36 by omega) ▸ mj_cf36
          · skip
            rcases Nat.lt_or_ge g 38 with h | h
            · skip
              exact (show g = 37 by omega) ▸ mj_cf37
            · skip
              exact (show g = 38 by omega) ▸ mj_cf38
        · skip
          rcases Nat.lt_or_ge g 41 with h | h
          · skip
            rcases Nat.lt_or_ge g 40 with h | h
            · skip
              exact (show g = 39 by omega) ▸ mj_cf39
            · skip
              exact (show g = 40 by omega) ▸ mj_cf40
          · skip
            rcases Nat.lt_or_ge g 42 with h | h
            · skip
              exact (show g = 41 by omega) ▸ mj_cf41
            · skip
              exact (show g = 42 by omega) ▸ mj_cf42
      · skip
        rcases Nat.lt_or_ge g 47 with h | h
        · skip
          rcases Nat.lt_or_ge g 45 with h | h
          · skip
            rcases Nat.lt_or_ge g 44 with h | h
            · skip
              exact (show g = 43 by omega) ▸ mj_cf43
            · skip
              exact (show g = 44 by omega) ▸ mj_cf44
          · skip
            rcases Nat.lt_or_ge g 46 with h | h
            · skip
              exact (show g = 45 by omega) ▸ mj_cf45
            · skip
              exact (show g = 46 by omega) ▸ mj_cf46
        · skip
          rcases Nat.lt_or_ge g 49 with h | h
          · skip
            rcases Nat.lt_or_ge g 48 with h | h
            · skip
              exact (show g = 47 by omega) ▸ mj_cf47
            · skip
              exact (show g = 48 by omega) ▸ mj_cf48
          · skip
            rcases Nat.lt_or_ge g 50 with h | h
            · skip
              exact (show g = 49 by omega) ▸ mj_cf49
            · skip
              rcases Nat.lt_or_ge g 51 with h | h
              · skip
                exact (show g = 50 by omega) ▸ mj_cf50
              · skip
                exact (show g = 51 by omega) ▸ mj_cf51
    · skip
      rcases Nat.lt_or_ge g 61 with h | h
      · skip
        rcases Nat.lt_or_ge g 56 with h | h
        · skip
          rcases Nat.lt_or_ge g 54 with h | h
          · skip
            rcases Nat.lt_or_ge g 53 with h | h
            · skip
              exact (show g = 52 by omega) ▸ mj_cf52
            · skip
              exact (show g = 53 by omega) ▸ mj_cf53
          · skip
            rcases Nat.lt_or_ge g 55 with h | h
            · skip
              exact (show g = 54 by omega) ▸ mj_cf54
            · skip
              exact (show g = 55 by omega) ▸ mj_cf55
        · skip
          rcases Nat.lt_or_ge g 58 with h | h
          · skip
            rcases Nat.lt_or_ge g 57 with h | h
            · skip
              exact (show g = 56 by omega) ▸ mj_cf56
            · skip
              exact (show g = 57 by omega) ▸ mj_cf57
          · skip
            rcases Nat.lt_or_ge g 59 with h | h
            · skip
              exact (show g = 58 by omega) ▸ mj_cf58
            · skip
              rcases Nat.lt_or_ge g 60 with h | h
              · skip
                exact (show g = 59 by omega) ▸ mj_cf59
              · skip
                exact (show g = 60 by omega) ▸ mj_cf60
      · skip
        rcases Nat.lt_or_ge g 65 with h | h
        · skip
          rcases Nat.lt_or_ge g 63 with h | h
          · skip
            rcases Nat.lt_or_ge g 62 with h | h
            · skip
              exact (show g = 61 by omega) ▸ mj_cf61
            · skip
              exact (show g = 62 by omega) ▸ mj_cf62
          · skip
            rcases Nat.lt_or_ge g 64 with h | h
            · skip
              exact (show g = 63 by omega) ▸ mj_cf63
            · skip
              exact (show g = 64 by omega) ▸ mj_cf64
        · skip
          rcases Nat.lt_or_ge g 67 with h | h
          · skip
            rcases Nat.lt_or_ge g 66 with h | h
            · skip
              exact (show g = 65 by omega) ▸ mj_cf65
            · skip
              exact (show g = 66 by omega) ▸ mj_cf66
          · skip
            rcases Nat.lt_or_ge g 68 with h | h
            · skip
              exact (show g = 67 by omega) ▸ mj_cf67
            · skip
              rcases Nat.lt_or_ge g 69 with h | h
              · skip
                exact (show g = 68 by omega) ▸ mj_cf68
              · skip
                exact (show g = 69 by omega) ▸ mj_cf69
theorem mj_row {c : mj_C} {cc : ByteArray} {o : Nat} {rt : Option FieldType} {lp : List Nat} (h : mj_cm cc o rt lp c = true) (pc : Nat) : mj_b c pc = ([(.nop, [])], 0) ∨ mj_ck cc o rt lp (mj_b c pc).2 pc (mj_b c pc).1 = true := by
  unfold mj_b
  cases hl : c.lookup pc with
  | none => exact Or.inl rfl
  | some x =>
    right
    have hm : (pc, x) ∈ c := by
      unfold mj_cm at h
      clear h
      induction c with
      | nil => cases hl
      | cons y ys ih =>
        obtain ⟨a, b⟩ := y
        rw [List.lookup_cons] at hl
        by_cases e : pc == a
        · rw [e] at hl
          have e2 := beq_iff_eq.mp e
          subst e2
          cases hl
          exact List.mem_cons_self
        · have e3 : (pc == a) = false := by simpa using e
          rw [e3] at hl
          exact List.mem_cons_of_mem _ (ih hl)
    exact List.all_eq_true.mp h _ hm

theorem mj_sound_step {l : Launch} {D : va_G} {X : mj_X} {ρ : mj_Id → Nat} {Hb : Heap} {L : Nat} {xs : Nat → Int32} (hD : mj_Dd ρ Hb) {d : Nat}
    (hcall : ∀ (g : Nat) (vs : List mj_V) (M : mj_M) (r : Option mj_V) (N : mj_M), g < mj_mt.length → mj_fit (mj_kd.getD g []) vs = true → (∀ q : mj_Id, .inr (.inr q) ∈ vs → mj_vid q) → mj_Sp d g vs M r N → 0 < d ∧ mj_MT l D X ρ Hb L xs (d - 1) g vs M r N) :
    ∀ (g : Nat) (vs : List mj_V) (M : mj_M) (r : Option mj_V) (N : mj_M), g < mj_mt.length → mj_fit (mj_kd.getD g []) vs = true → (∀ q : mj_Id, .inr (.inr q) ∈ vs → mj_vid q) → mj_Sp (d + 1) g vs M r N → mj_MT l D X ρ Hb L xs d g vs M r N := by
  intro g vs M r N hg hfit hvid hsp
  refine Met.ofW (cc := mj_bc g) (maxL := mj_mx g) (ret := mj_rt g) (mj_gd hg).1 rfl ?_
  intro p e s m args below meth c s₁ B hml hv
  obtain ⟨rfl, hP, hK⟩ := hv
  have hts := atoms_spec (ws := mj_wsf g) B.pre
  have hlocks := B.notSynchronized
  have hr := B.returns
  have C : mj_CX p s m (vs.map (mj_rv ρ)).toArray c (mj_bc g) (mj_mx g) (mj_m g).1 D X ρ Hb L xs := ⟨B.exec, B.bytes, hml, findClass_of_methodNamed B.named, fun w hw => hts w (List.mem_cons_of_mem _ hw), hK, hD, hP.2.1⟩
  have hcf := mj_cfa g hg
  unfold mj_cf at hcf
  simp only [Bool.and_eq_true, decide_eq_true_eq] at hcf
  obtain ⟨⟨hcm, hml2⟩, -⟩ := hcf
  have hsl := List.all_eq_true.mp mj_sl_ok g (List.mem_range.mpr hg)
  simp only [Bool.and_eq_true, beq_iff_eq] at hsl
  have hlen : (mj_av vs).length ≤ mj_mx g := by rw [mj_av_len _ _ hfit]; exact Nat.le_of_ble_eq_true hsl.1
  have key := hsp (mj_GG p l e (headSpec (mj_wsf g) (mj_rm d)).room s m (vs.map (mj_rv ρ)).toArray below meth c 0 0 (MQ below (mj_Qc D X ρ Hb L xs r N) (vs.map (mj_rv ρ)).toArray s 0 0 (mj_A Hb)) (mj_mx g) (mj_lg 0 (mj_kd.getD g [])) D X ρ Hb L xs) ?_ ?_
  · rw [hml2] at key
    have hl := lv_entry (vs.map (mj_rv ρ)) (n := mj_mx g) (by rw [mj_sl_len]; exact hlen)
    rw [lg_entry_eq]
    refine key (by unfold mj_ent; rw [List.length_append, List.length_replicate]; omega) ⟨fun j q h => hvid q (mj_av_in vs j _ (mj_ent_at h)), fun j w h => ?_, fun q h => by cases h⟩ s.heap [] _ hP va_S.rf ⟨hl.1, hl.2.1, fun x hx => ?_⟩
    · have := mj_av_lg _ vs 0 j w hfit (mj_ent_at h)
      rw [Nat.zero_add] at this
      exact List.contains_iff_mem.mpr this
    · obtain ⟨v, hv1, hv2⟩ := mj_la_of hx
      have := mj_av_args (ρ := ρ) vs 0 x.1 v (mj_ent_at hv1)
      rw [Nat.zero_add, ← hv2] at this
      exact hl.2.2 x this
  · intro pc ls st M1 hw
    rcases mj_row hcm pc with h | h
    · rw [h] at hw
      exact hw.elim
    · refine mj_main C ⟨Nat.le_refl d, Nat.le_refl _⟩ ⟨Nat.le_refl _, Nat.le_refl _⟩ hcall ?_ ?_ (fun pc ls st M h => h) _ pc ls st M1 hw h
      · intro pc ls x M2 hd hrt hR hl hv H locs la hP2 hS hL
        obtain ⟨hr1, hr2⟩ := hR
        have hq : ∀ t : State, t.heap = H → s.WarmedH t.vm → mj_Qc D X ρ Hb L xs r N (vs.map (mj_rv ρ)).toArray s (.returned (some (.int x))) t := fun t ht _ => ⟨by rw [← hr1]; rfl, by rw [ht]; exact mj_P_eq hr2 hP2, hS.F ht⟩
        rcases hrt with hrt | ⟨hrt, hx⟩
        · exact W.iret C.1 C.2.1 (hr.trans hrt) hq (fun q hq => hS.2.2 q hq) hd hlocks
        · exact W.zret C.1 C.2.1 (hr.trans hrt) (by rcases hx with rfl | rfl <;> rfl) hq (fun q hq => hS.2.2 q hq) hd hlocks
      · intro pc ls M2 hd hrt hR hl hv H locs la hP2 hS hL
        obtain ⟨hr1, hr2⟩ := hR
        exact W.vret C.1 C.2.1 (hr.trans hrt) (fun t ht _ => ⟨by rw [← hr1]; rfl, by rw [ht]; exact mj_P_eq hr2 hP2, hS.F ht⟩) (fun q hq => hS.2.2 q hq) hd hlocks
  · intro pc ls st M1 M2 he h hl hv H locs la hP2 hS hL
    exact h hl hv H locs la (mj_P_eq he hP2) hS hL
theorem mj_sound {l : Launch} {D : va_G} {X : mj_X} {ρ : mj_Id → Nat} {Hb : Heap} {L : Nat} {xs : Nat → Int32} (hD : mj_Dd ρ Hb) : ∀ (d g : Nat) (vs : List mj_V) (M : mj_M) (r : Option mj_V) (N : mj_M), g < mj_mt.length → mj_fit (mj_kd.getD g []) vs = true → (∀ q : mj_Id, .inr (.inr q) ∈ vs → mj_vid q) → mj_Sp (d + 1) g vs M r N → mj_MT l D X ρ Hb L xs d g vs M r N := by
  intro d
  induction d with
  | zero => exact mj_sound_step hD (fun g vs M r N _ _ _ h => absurd h id)
  | succ d ih => exact mj_sound_step hD (fun g vs M r N h1 h2 h3 h4 => ⟨Nat.succ_pos d, ih g vs M r N h1 h2 h3 h4⟩)
