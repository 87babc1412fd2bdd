/-! nearer by an hour; still air; drawn on -/
theorem pm_one {s : Nat → Int} {v : Nat} {x : Int} (h0 : ∀ j, j ≠ v → s j = 0) (hx : s v = x) (hp : 0 < x) : ∀ n, (v < n → pm s n = x ∧ pp s n = v) ∧ (n ≤ v → pm s n = 0)
  | 0 => ⟨fun h => absurd h (Nat.not_lt_zero v), fun _ => rfl⟩
  | n + 1 => by
    have ih := pm_one h0 hx hp n
    have e1 : pm s (n + 1) = if pm s n < s n then s n else pm s n := rfl
    have e2 : pp s (n + 1) = if pm s n < s n then n else pp s n := rfl
    refine ⟨fun h => ?_, fun h => ?_⟩
    · by_cases e : n = v
      · subst e
        have := ih.2 (Nat.le_refl _)
        rw [e1, e2, if_pos (by omega), if_pos (by omega)]
        exact ⟨hx, rfl⟩
      · have := ih.1 (by omega)
        have hn := h0 n e
        rw [e1, e2, if_neg (by omega), if_neg (by omega)]
        exact this
    · have := ih.2 (by omega)
      have hn := h0 n (by omega)
      rw [e1, if_neg (by omega)]
      exact this
theorem sm_one {s : Nat → Int} {v : Nat} (h0 : ∀ j, j ≠ v → s j = 0) (hv : v < 4) : sm s 4 = s v := by
  have h := sm_up (g := fun _ => (0 : Int)) (h := s) (c := v) 4 hv (fun k _ hk => h0 k hk)
  have hz : sm (fun _ => (0 : Int)) 4 = 0 := rfl
  rw [hz] at h
  omega
/-- a cloud held by one alone, by no less than need -/
theorem near {A : lA} (hA : LI A) {c v : Nat} (hc : c < 6) (hv : v < nV A) {h s f : Int} (h0 : ∀ j, j < 4 → j ≠ v → A 4 c j = 0) (hx : A 4 c v = h) (hp : 0 < h) (hn : f * wt (A 1 0 c) ≤ h) (h25 : A 2 0 c ≠ 25) : rn (mv A c s f) c 2 0 c = tw (A 2 0 c) (A 5 0 v) := by
  have hnv := hA.nv
  -- beyond the fourth nothing counts
  let g : Nat → Int := fun j => if j < 4 then A 4 c j else 0
  have hg0 : ∀ j, j ≠ v → g j = 0 := fun j hj => by
    show (if j < 4 then A 4 c j else 0) = 0
    split
    · exact h0 j (by omega) hj
    · rfl
  have hgv : g v = h := by
    show (if v < 4 then A 4 c v else 0) = h
    rw [if_pos (by omega)]
    exact hx
  have epm : ∀ n, n ≤ 4 → pm (A 4 c) n = pm g n ∧ pp (A 4 c) n = pp g n := fun n => by
    induction n with
    | zero => exact fun _ => ⟨rfl, rfl⟩
    | succ n ih =>
      intro hn
      have ih := ih (by omega)
      have eg : g n = A 4 c n := if_pos (by omega)
      show (if pm (A 4 c) n < A 4 c n then A 4 c n else pm (A 4 c) n) = (if pm g n < g n then g n else pm g n) ∧ (if pm (A 4 c) n < A 4 c n then n else pp (A 4 c) n) = (if pm g n < g n then n else pp g n)
      rw [ih.1, ih.2, eg]
      exact ⟨rfl, rfl⟩
  have esm : sm (A 4 c) 4 = h := by
    rw [sm_c 4 (f := A 4 c) (g := g) (fun j hj => (if_pos hj).symm), sm_one hg0 (by omega), hgv]
  have hp1 := (pm_one hg0 hgv hp (nV A)).1 hv
  have he := epm (nV A) hnv.2
  rw [rn_lo (by decide)]
  unfold mv
  rw [if_neg h25, he.1, he.2, hp1.1, hp1.2, esm, if_pos (by omega), lu_s]
/-- in still air a cloud over the land stays over it; one that nobody holds stays where it is -/
theorem still1 {A : lA} (hA : LI A) {c : Nat} (hc : c < 6) {s f : Int} (hf : f = 0) (h25 : A 2 0 c ≤ 24) : rn (mv A c s f) c 2 0 c ≤ 24 ∧ ((∀ j, j < 4 → A 4 c j = 0) → rn (mv A c s f) c 2 0 c = A 2 0 c) := by
  have hnv := hA.nv
  have hfd := hA.fd hc
  have hs0 : 0 ≤ sm (A 4 c) 4 := sm_nn 4 (fun j hj => (hA.st hc hj).1)
  rw [rn_lo (by decide)]
  subst hf
  unfold mv
  rw [if_neg (by omega), Int.zero_mul]
  have hpl := pp_lt (s := A 4 c) (nV A)
  have hh := hA.hm (v := pp (A 4 c) (nV A)) (by omega)
  have htw := tw_r (f := A 2 0 c) (h := A 5 0 (pp (A 4 c) (nV A))) hfd.1 h25 hh.1 hh.2
  split
  · next g =>
    rw [lu_s]
    refine ⟨htw.2, fun h => ?_⟩
    have := pm_le (s := A 4 c) (b := 0) (Int.le_refl _) (nV A) (fun j hj => by rw [h j (by omega)]; exact Int.le_refl _)
    omega
  · rw [if_neg (by omega)]
    exact ⟨h25, fun _ => rfl⟩
theorem fo_s4 {A : lA} {n c : Nat} {S F : Nat → Int} (h : ∀ j, j < 4 → A 4 c j = 0) (k : Nat) : ∀ j, j < 4 → fo A n S F c k 4 c j = 0 := by
  induction k with
  | zero => exact h
  | succ k ih =>
    intro j hj
    show rn (mv (fo A n S F c k) c _ _) c 4 c j = 0
    rw [rn_lo (by decide)]
    rcases mv_s4 (A := fo A n S F c k) (c := c) (c' := c) (v := j) (s := wS n S (A 0 0 2 + k)) (f := wS n F (A 0 0 2 + k)) with e | e
    · rw [e]; exact ih j hj
    · exact e
theorem still {A : lA} (hA : LI A) {n c : Nat} {S F : Nat → Int} (hc : c < 6) (hF : ∀ h, wS n F h = 0) (h25 : A 2 0 c ≤ 24) : ∀ k, fo A n S F c k 2 0 c ≤ 24 ∧ ((∀ j, j < 4 → A 4 c j = 0) → fo A n S F c k 2 0 c = A 2 0 c)
  | 0 => ⟨h25, fun _ => rfl⟩
  | k + 1 => by
    have ih := still hA (n := n) (S := S) hc hF h25 k
    have h1 := still1 (fo_LI (n := n) (S := S) (F := F) hA hc k) hc (s := wS n S (A 0 0 2 + k)) (hF (A 0 0 2 + k)) ih.1
    refine ⟨h1.1, fun h => ?_⟩
    have e : fo A n S F c (k + 1) 2 0 c = fo A n S F c k 2 0 c := h1.2 (fo_s4 h k)
    rw [e]
    exact ih.2 h
theorem gd_add {A : lA} {a : Nat} : ∀ b, gd A (a + b) = gd (gd A a) b ∧ gdu A (a + b) = gdu A a + gdu (gd A a) b
  | 0 => ⟨rfl, by show gdu A a = gdu A a + (0 : Int); omega⟩
  | b + 1 => by
    have ih := gd_add (A := A) (a := a) b
    have e1 : gd A (a + (b + 1)) = hr (lu (gd A (a + b)) 0 0 3 (nx (gd A (a + b) 0 0 3))) (nx (gd A (a + b) 0 0 3) / 65536 % 16 % 4) (nx (gd A (a + b) 0 0 3) / 65536 % 16 / 4) := rfl
    have e2 : gdu A (a + (b + 1)) = gdu A (a + b) + hfl (lu (gd A (a + b)) 0 0 3 (nx (gd A (a + b) 0 0 3))) (nx (gd A (a + b) 0 0 3) / 65536 % 16 % 4) (nx (gd A (a + b) 0 0 3) / 65536 % 16 / 4) := rfl
    rw [ih.1] at e1 e2
    refine ⟨e1, ?_⟩
    rw [e2, ih.2]
    show gdu A a + gdu (gd A a) b + _ = gdu A a + (gdu (gd A a) b + _)
    omega
/-! fewest: more hours, less thirst -/
theorem dl_nn {A : lA} (hA : LI A) {c v : Nat} (hc : c < 6) : 0 ≤ dl A c v := by
  have := rf_r hA hc
  unfold dl
  split <;> omega
theorem ga_up {A : lA} (hA : LI A) {n c v : Nat} {S F : Nat → Int} (hc : c < 6) (k : Nat) : 0 ≤ ga A n S F c v k ∧ ga A n S F c v k ≤ ga A n S F c v (k + 1) := by
  have step : ∀ k, ga A n S F c v k ≤ ga A n S F c v (k + 1) := fun k => by
    have := dl_nn (v := v) ((fo_LI (n := n) (S := S) (F := F) hA hc k).k_mv hc (wS n S (A 0 0 2 + k)) (wS n F (A 0 0 2 + k))) hc
    show ga A n S F c v k ≤ ga A n S F c v k + dl _ c v
    omega
  refine ⟨?_, step k⟩
  induction k with
  | zero => exact Int.le_refl _
  | succ k ih => exact Int.le_trans ih (step k)
theorem gg_up {A : lA} (hA : LI A) {v n c s m : Nat} {S F : Nat → Int} (hc : c < 6) (hv : v < nV A) (hs : s ≤ 9) : gg A v n S F m c s ≤ gg A v n S F (m + 1) c s := by
  unfold gg
  split
  · exact (ga_up (hA.l4 (x := (s : Int)) (c := c) (by omega) hv) hc m).2
  · exact Int.le_refl _
theorem gg_0 {A : lA} (hA : LI A) {v n c m : Nat} {S F : Nat → Int} (hc : c < 6) (hv : v < nV A) : 0 ≤ gg A v n S F m c 0 := by
  unfold gg
  split
  · exact (ga_up (hA.l4 (x := ((0 : Nat) : Int)) (c := c) (by omega) hv) hc m).1
  · rw [if_pos rfl]
    exact Int.le_refl _
theorem sm_mono {f g : Nat → Int} : ∀ n, (∀ j, j < n → f j ≤ g j) → sm f n ≤ sm g n
  | 0, _ => Int.le_refl _
  | n + 1, h => by
    have h1 := sm_mono n (fun j hj => h j (by omega))
    have h2 := h n (by omega)
    show sm f n + f n ≤ sm g n + g n
    omega
theorem vr_le {A : lA} {r : Nat → Nat} {k c : Nat} (h : vr A r k) (hc : c < 6) : r c ≤ k := by
  have h1 := sm_mem (s := fun c => (r c : Int)) (v := c) 6 hc (fun j _ => Int.natCast_nonneg _)
  have h2 := h.2
  have h1 : (r c : Int) ≤ sm (fun c => (r c : Int)) 6 := h1
  omega
/-- how fewest falls with hours -/
theorem few_up {A : lA} (hA : LJ A) {n v m : Nat} {S F : Nat → Int} {r r' : Int} (hv : v < nV A) (hm : 1 ≤ m ∧ m ≤ 11) (h : FW A n S F v m (-1) r) (h' : FW A n S F v ((m : Int) + 1) (-1) r') : (r = -4 ∨ (0 ≤ r ∧ 0 ≤ r' ∧ r' ≤ r)) ∧ r ≤ A 6 0 v ∧ -4 ≤ r' ∧ r' ≤ A 6 0 v := by
  have hnv := hA.li.nv
  have hsg := hA.sg (v := v) (by omega)
  have ht0 := hA.t0 (v := v) (by omega)
  have em : ((m : Int) + 1).toNat = m + 1 := by omega
  unfold FW at h h'
  rw [em] at h'
  simp only [Int.toNat_natCast] at h h'
  have kk' : -4 ≤ r' ∧ r' ≤ A 6 0 v ∧ ∀ (k : Nat) (row : Nat → Nat), (k : Int) ≤ A 6 0 v → vr A row k → en A v n S F (m + 1) row → 0 ≤ r' ∧ r' ≤ k := by
    rcases h' with ⟨b, _⟩ | ⟨_, f, e⟩ | ⟨_, k', row', k1, k2, k3, k4, k5, e⟩
    · omega
    · refine ⟨by omega, by omega, fun k row a1 a2 a3 => absurd a3 (f k a1 row a2)⟩
    · rw [if_pos (by decide)] at e
      refine ⟨by omega, by omega, fun k row a1 a2 a3 => ⟨by omega, ?_⟩⟩
      by_cases g : k < k'
      · exact absurd a3 (k2 k g row a2)
      · omega
  rcases h with ⟨b, _⟩ | ⟨_, f, e⟩ | ⟨_, k, row, k1, k2, k3, k4, k5, e⟩
  · omega
  · exact ⟨Or.inl e, by omega, kk'.1, kk'.2.1⟩
  · rw [if_pos (by decide)] at e
    have hen : en A v n S F (m + 1) row := by
      unfold en at k4 ⊢
      refine Int.le_trans k4 (sm_mono 6 (fun c hc => gg_up hA.li hc hv ?_))
      have := vr_le k3 hc
      omega
    have := kk'.2.2 k row k1 k3 hen
    exact ⟨Or.inr ⟨by omega, by omega, by omega⟩, by omega, kk'.1, kk'.2.1⟩
theorem few_0 {A : lA} (hA : LJ A) {n v m : Nat} {S F : Nat → Int} {r : Int} (hv : v < nV A) (hm : 1 ≤ m ∧ m ≤ 12) (ht : A 7 0 v = 0) (h : FW A n S F v m (-1) r) : r = 0 := by
  have hnv := hA.li.nv
  have hsg := hA.sg (v := v) (by omega)
  have ht0 := hA.t0 (v := v) (by omega)
  have hwe := hA.we (v := v) (by omega)
  unfold FW at h
  simp only [Int.toNat_natCast] at h
  have hz : vr A (fun _ => 0) 0 := ⟨fun _ _ _ => rfl, rfl⟩
  have he : en A v n S F m (fun _ => 0) := by
    unfold en
    have h1 : 0 ≤ sm (fun c => gg A v n S F m c 0) 6 := sm_nn 6 (fun c hc => gg_0 hA.li hc hv)
    show A 7 0 v - A 8 0 v ≤ sm (fun c => gg A v n S F m c 0) 6
    omega
  rcases h with ⟨b, _⟩ | ⟨_, f, e⟩ | ⟨_, k, row, k1, k2, k3, k4, k5, e⟩
  · omega
  · exact absurd he (f 0 (by omega) _ hz)
  · rw [if_pos (by decide)] at e
    by_cases g : 0 < k
    · exact absurd he (k2 0 g _ hz)
    · omega
