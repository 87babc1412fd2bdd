/-! water is kept; who is away holds nothing; none is wetter than fell on its field -/
def P1 (A : lA) : Prop := ∀ c v, c < 6 → v < 4 → A 2 0 c = 25 → A 4 c v = 0
def P2 (A : lA) : Prop := ∀ v, v < nV A → A 8 0 v ≤ A 9 0 (A 5 0 v).toNat
def P3 (A : lA) : Prop := ∀ f, f < 25 → 0 ≤ A 9 0 f
def LX (A : lA) : Prop := LJ A ∧ P1 A ∧ P2 A ∧ P3 A
def ft (A : lA) : Int := sm (A 9 0) 25
def tot (A : lA) : Int := sm (A 3 0) (nC A) + ft A
theorem vl_at {h : Nat → Int} {f : Int} {v : Nat} : ∀ n, vl h f n = (v : Int) → v < n ∧ h v = f
  | 0, e => by
    have : (-1 : Int) = v := e
    omega
  | n + 1, e => by
    have e : (if h n = f then (n : Int) else vl h f n) = v := e
    by_cases g : h n = f
    · rw [if_pos g] at e
      have : v = n := by omega
      rw [this]
      exact ⟨by omega, g⟩
    · rw [if_neg g] at e
      have := vl_at n e
      exact ⟨by omega, this.2⟩
theorem mv_2 {A : lA} {c c' : Nat} {s f : Int} (h : c' ≠ c) : mv A c s f 2 0 c' = A 2 0 c' ∧ ∀ v, mv A c s f 4 c' v = A 4 c' v := by
  unfold mv
  split
  · exact ⟨rfl, fun _ => rfl⟩
  · split
    · exact ⟨lu_j h, fun _ => lu_t (by decide)⟩
    · split
      · split
        · refine ⟨by rw [ls_lo (by decide), lu_j h], fun v => ?_⟩
          unfold ls
          rw [if_neg (by omega), if_neg (by omega), lu_t (by decide)]
        · exact ⟨lu_j h, fun _ => lu_t (by decide)⟩
      · exact ⟨rfl, fun _ => rfl⟩
theorem mv_P1 {A : lA} (hA : LI A) (h : P1 A) {c : Nat} (hc : c < 6) (s f : Int) : P1 (mv A c s f) := fun c' v hc' hv e => by
  by_cases g : c' = c
  · subst g
    have hfd := hA.fd hc
    have hnv := hA.nv
    revert e
    unfold mv
    split
    · exact fun e => h _ _ hc hv e
    · next h25 =>
      have htw := fun hh : 0 ≤ A 5 0 (pp (A 4 c') (nV A)) ∧ A 5 0 (pp (A 4 c') (nV A)) ≤ 24 => tw_r (f := A 2 0 c') (h := A 5 0 (pp (A 4 c') (nV A))) hfd.1 (by omega) hh.1 hh.2
      split
      · intro e
        rw [lu_s] at e
        have hpl := pp_lt (s := A 4 c') (nV A)
        have := htw (hA.hm (by omega))
        omega
      · split
        · split
          · intro _
            unfold ls
            rw [if_neg (by omega)]
            have en : nV (lu A 2 0 c' 25) = nV A := rfl
            rw [en]
            by_cases g2 : v < nV A
            · rw [if_pos ⟨rfl, rfl, g2⟩]
            · rw [if_neg (by omega), lu_t (by decide)]
              exact hA.s0 hc hv (by omega)
          · next hb =>
            intro e
            rw [lu_s] at e
            exact absurd e hb
        · exact fun e => absurd e h25
  · rw [(mv_2 g).2]
    rw [(mv_2 g).1] at e
    exact h _ _ hc' hv e
theorem mv_25' {A : lA} {c c' : Nat} {s f : Int} (h : A 2 0 c' = 25) : mv A c s f 2 0 c' = 25 := by
  by_cases g : c' = c
  · subst g
    rw [mv_25 h]
    exact h
  · rw [(mv_2 g).1]
    exact h
theorem mvs_P {A : lA} (hA : LI A) (h : P1 A) (s f : Int) : ∀ n, n ≤ 6 → P1 (mvs A s f n) ∧ ∀ c, A 2 0 c = 25 → mvs A s f n 2 0 c = 25
  | 0, _ => ⟨h, fun _ e => e⟩
  | n + 1, hn => by
    have ih := mvs_P hA h s f n (by omega)
    exact ⟨mv_P1 (mvs_LI hA s f n (by omega)) ih.1 (by omega) s f, fun c e => mv_25' (ih.2 c e)⟩
theorem rn_3 {A : lA} {c j : Nat} : rn A c 3 0 j = if j = c then A 3 0 c - rf A c else A 3 0 j := by
  unfold rn
  split
  · next h =>
    split
    · next e => rw [e, rf_25 h]; omega
    · rfl
  · split
    · rw [lu_t (by decide), lu_t (by decide)]
      by_cases e : j = c
      · rw [if_pos e, e, lu_s]
      · rw [if_neg e, lu_j e]
    · rw [lu_t (by decide)]
      by_cases e : j = c
      · rw [if_pos e, e, lu_s]
      · rw [if_neg e, lu_j e]
theorem rn_9 {A : lA} {c j : Nat} (h : A 2 0 c ≠ 25) : rn A c 9 0 j = if j = (A 2 0 c).toNat then A 9 0 j + rf A c else A 9 0 j := by
  unfold rn
  rw [if_neg h]
  split
  · rw [lu_t (by decide)]
    by_cases e : j = (A 2 0 c).toNat
    · rw [if_pos e, e, lu_s]
    · rw [if_neg e, lu_j e, lu_t (by decide)]
  · by_cases e : j = (A 2 0 c).toNat
    · rw [if_pos e, e, lu_s]
    · rw [if_neg e, lu_j e, lu_t (by decide)]
theorem rn_s3 {A : lA} {c n : Nat} (hc : c < n) : sm (rn A c 3 0) n = sm (A 3 0) n - rf A c := by
  rw [sm_up (g := A 3 0) (h := rn A c 3 0) n hc (fun k _ hk => by rw [rn_3, if_neg hk]), rn_3, if_pos rfl]
  omega
theorem rn_s9 {A : lA} (hA : LI A) {c : Nat} (hc : c < 6) : ft (rn A c) = ft A + rf A c := by
  unfold ft
  by_cases h : A 2 0 c = 25
  · rw [rn_25 h, rf_25 h]
    omega
  · have hfd := hA.fd hc
    rw [sm_up (g := A 9 0) (h := rn A c 9 0) (c := (A 2 0 c).toNat) 25 (by omega) (fun k _ hk => by rw [rn_9 h, if_neg hk]), rn_9 h, if_pos rfl]
    omega
theorem rn_P {A : lA} (hA : LI A) (h2 : P2 A) (h3 : P3 A) {c : Nat} (hc : c < 6) : P2 (rn A c) ∧ P3 (rn A c) := by
  have hr := rf_r hA hc
  have hnv := hA.nv
  by_cases h : A 2 0 c = 25
  · rw [rn_25 h]
    exact ⟨h2, h3⟩
  · have hfd := hA.fd hc
    refine ⟨fun v hv => ?_, fun f hf => ?_⟩
    · have hv2 : v < nV A := by
        have e : nV (rn A c) = nV A := by unfold nV; rw [rn_lo (by decide)]
        rwa [e] at hv
      have h4 := h2 v hv2
      rw [rn_wet, rn_lo (t := 5) (by decide), rn_9 h]
      unfold dl
      split
      · next g =>
        have e := (vl_at _ g.2.1).2
        rw [if_pos (by rw [e])]
        omega
      · split <;> omega
    · have := h3 f hf
      rw [rn_9 h]
      split <;> omega
theorem rns_P {A : lA} (hA : LI A) (h2 : P2 A) (h3 : P3 A) {n : Nat} : ∀ k, k ≤ n → n ≤ 6 → (P2 (rns A k) ∧ P3 (rns A k)) ∧ sm (rns A k 3 0) n = sm (A 3 0) n - rsu A k ∧ ft (rns A k) = ft A + rsu A k ∧ 0 ≤ rsu A k
  | 0, _, _ => ⟨⟨h2, h3⟩, by show _ = _ - (0 : Int); rw [Int.sub_zero]; rfl, by show _ = _ + (0 : Int); rw [Int.add_zero]; rfl, Int.le_refl _⟩
  | k + 1, hk, hn => by
    have ih := rns_P hA h2 h3 (n := n) k (by omega) hn
    have hL := rns_LI hA k (by omega)
    have hr := rf_r hL (c := k) (by omega)
    have e : rsu A (k + 1) = rsu A k + rf (rns A k) k := rfl
    refine ⟨rn_P hL ih.1.1 ih.1.2 (by omega), ?_, ?_, by omega⟩
    · show sm (rn (rns A k) k 3 0) n = _
      rw [rn_s3 (by omega), ih.2.1, e]
      omega
    · show ft (rn (rns A k) k) = _
      rw [rn_s9 hL (by omega), ih.2.2.1, e]
      omega
/-- a step of the land's law: water is kept, what fell is told -/
def SR (A B : lA) (g : Int) : Prop := LX B ∧ nV B = nV A ∧ tot B = tot A ∧ ft B = ft A + g ∧ 0 ≤ g ∧ ∀ c, c < nC A → A 2 0 c = 25 → B 2 0 c = 25
theorem hr_SR {A : lA} (h : LX A) (s f : Int) (hh : A 0 0 2 < 9999) : SR A (hr A s f) (hfl A s f) := by
  obtain ⟨hJ, h1, h2, h3⟩ := h
  have hA := hJ.li
  have hn := hA.nc
  have hm := mvs_P hA h1 s f (nC A) hn.2
  have hML := mvs_LI hA s f (nC A) hn.2
  have e8 : ∀ t i j, t ≠ 2 ∧ t ≠ 4 ∧ t ≠ 6 → mvs A s f (nC A) t i j = A t i j := fun t i j ht => mvs_lo ht _
  have hm2 : P2 (mvs A s f (nC A)) := fun v hv => by
    rw [e8 8 0 _ (by decide), e8 5 0 _ (by decide), e8 9 0 _ (by decide)]
    refine h2 v ?_
    have e : nV (mvs A s f (nC A)) = nV A := by unfold nV; rw [e8 0 0 1 (by decide)]
    rwa [e] at hv
  have hm3 : P3 (mvs A s f (nC A)) := fun j hj => by rw [e8 9 0 _ (by decide)]; exact h3 j hj
  have hR := rns_P hML hm2 hm3 (n := nC A) (nC A) (Nat.le_refl _) hn.2
  have ec : nC (hr A s f) = nC A := hr_nC
  have ev : nV (hr A s f) = nV A := hr_nV
  have eh : ∀ t i j, t ≠ 0 → hr A s f t i j = rns (mvs A s f (nC A)) (nC A) t i j := fun t i j ht => by
    unfold hr
    exact lu_t ht
  have eft : ft (hr A s f) = ft (rns (mvs A s f (nC A)) (nC A)) := by
    unfold ft
    exact sm_c 25 (fun j _ => eh 9 0 j (by decide))
  have eft0 : ft (mvs A s f (nC A)) = ft A := by
    unfold ft
    exact sm_c 25 (fun j _ => e8 9 0 j (by decide))
  have e3 : sm (hr A s f 3 0) (nC A) = sm (rns (mvs A s f (nC A)) (nC A) 3 0) (nC A) := sm_c _ (fun j _ => eh 3 0 j (by decide))
  have e30 : sm (mvs A s f (nC A) 3 0) (nC A) = sm (A 3 0) (nC A) := sm_c _ (fun j _ => e8 3 0 j (by decide))
  have e24 : ∀ t i j, t = 2 ∨ t = 4 → hr A s f t i j = mvs A s f (nC A) t i j := fun t i j ht => by
    rw [eh _ _ _ (by omega), rns_lo (by omega)]
  refine ⟨⟨hr_LJ hJ s f hh, fun c v hc hv e => ?_, fun v hv => ?_, fun j hj => ?_⟩, ev, ?_, ?_, hR.2.2.2, fun c _ e => ?_⟩
  · rw [e24 2 0 _ (by decide)] at e
    rw [e24 4 _ _ (by decide)]
    exact hm.1 c v hc hv e
  · rw [ev] at hv
    rw [eh 8 0 _ (by decide), eh 5 0 _ (by decide), eh 9 0 _ (by decide)]
    refine hR.1.1 v ?_
    have e : nV (rns (mvs A s f (nC A)) (nC A)) = nV A := by unfold nV; rw [rns_lo (by decide), e8 0 0 1 (by decide)]
    rwa [e]
  · rw [eh 9 0 _ (by decide)]
    exact hR.1.2 j hj
  · unfold tot
    rw [ec, e3, hR.2.1, e30, eft, hR.2.2.1, eft0]
    omega
  · rw [eft, hR.2.2.1, eft0]
    rfl
  · rw [e24 2 0 _ (by decide)]
    exact hm.2 c e
theorem SR.rf0 {A : lA} (h : LX A) : SR A A 0 := ⟨h, rfl, rfl, by omega, Int.le_refl _, fun _ _ e => e⟩
theorem SR.tr {A B C : lA} {g k : Int} (h : SR A B g) (h2 : SR B C k) (hn : nC A ≤ nC B) : SR A C (g + k) := by
  obtain ⟨a1, a2, a3, a4, a5, a6⟩ := h
  obtain ⟨b1, b2, b3, b4, b5, b6⟩ := h2
  exact ⟨b1, b2.trans a2, b3.trans a3, by omega, by omega, fun c hc e => b6 c (by omega) (a6 c hc e)⟩
theorem gs_SR {A : lA} (h : LX A) {n : Nat} {S F : Nat → Int} : ∀ k : Nat, A 0 0 2 + k ≤ 9999 → SR A (gs A n S F k) (gsu A n S F k)
  | 0, _ => SR.rf0 h
  | k + 1, hk => by
    have ih := gs_SR h (n := n) (S := S) (F := F) k (by omega)
    have eh := gs_h (A := A) (n := n) (S := S) (F := F) k
    have ec : nC (gs A n S F k) = nC A := gs_nC
    exact ih.tr (hr_SR ih.1 _ _ (by omega)) (by omega)
/-! joined, split, salted -/
theorem lg_at {A : lA} {c v : Nat} {c' : Nat} : lg A c 4 4 c' v = if c' = c ∧ v < 4 then 0 else A 4 c' v := by
  unfold lg
  by_cases h : c' = c ∧ v < 4
  · rw [if_pos h, if_pos ⟨rfl, h⟩]
  · rw [if_neg h, if_neg (fun z => h z.2)]
theorem jn_SR {A : lA} (h : LX A) {a b : Nat} (ha : a < nC A) (hb : b < nC A) (hab : a ≠ b) (h25 : A 2 0 a ≠ 25) (he : A 2 0 a = A 2 0 b) : SR A (jn A a b) (A 3 0 a + A 3 0 b - jm A a b) := by
  obtain ⟨hJ, h1, h2, h3⟩ := h
  have hA := hJ.li
  have hn := hA.nc
  have hfd := hA.fd (c := a) (by omega)
  have hwa := hA.wa (c := a) (by omega)
  have hwb := hA.wa (c := b) (by omega)
  have hjm : jm A a b ≤ A 3 0 a + A 3 0 b := by unfold jm; split <;> omega
  have e3 : ∀ j, jn A a b 3 0 j = if j = b then 0 else if j = a then jm A a b else A 3 0 j := fun j => by
    unfold jn
    rw [lg_t (by decide), lu_t (by decide)]
    by_cases eb : j = b
    · rw [if_pos eb, eb, lu_s]
    · rw [if_neg eb, lu_j eb, lu_t (by decide)]
      by_cases ea : j = a
      · rw [if_pos ea, ea, lu_s]
      · rw [if_neg ea, lu_j ea]
  have e9 : ∀ j, jn A a b 9 0 j = if j = (A 2 0 a).toNat then A 9 0 j + (A 3 0 a + A 3 0 b - jm A a b) else A 9 0 j := fun j => by
    unfold jn
    rw [lg_t (by decide), lu_t (by decide), lu_t (by decide)]
    by_cases ea : j = (A 2 0 a).toNat
    · rw [if_pos ea, ea, lu_s]
    · rw [if_neg ea, lu_j ea, lu_t (by decide)]
  have e2 : ∀ j, jn A a b 2 0 j = if j = b then 25 else A 2 0 j := fun j => by
    unfold jn
    rw [lg_t (by decide)]
    by_cases eb : j = b
    · rw [if_pos eb, eb, lu_s]
    · rw [if_neg eb, lu_j eb, lu_t (by decide), lu_t (by decide), lu_t (by decide)]
  have e4 : ∀ c v, jn A a b 4 c v = if c = b ∧ v < 4 then 0 else A 4 c v := fun c v => by
    unfold jn
    rw [lg_at]
    split
    · rfl
    · rw [lu_t (by decide), lu_t (by decide), lu_t (by decide), lu_t (by decide)]
  have ec : nC (jn A a b) = nC A := by unfold nC; rw [jn_lo (by decide)]
  have ev : nV (jn A a b) = nV A := by unfold nV; rw [jn_lo (by decide)]
  have eft : ft (jn A a b) = ft A + (A 3 0 a + A 3 0 b - jm A a b) := by
    unfold ft
    rw [sm_up (g := A 9 0) (h := jn A a b 9 0) (c := (A 2 0 a).toNat) 25 (by omega) (fun k _ hk => by rw [e9, if_neg hk]), e9, if_pos rfl]
    omega
  refine ⟨⟨jn_LJ hJ (by omega) (by omega), fun c v hc hv e => ?_, fun v hv => ?_, fun j hj => ?_⟩, ev, ?_, eft, by omega, fun c _ e => ?_⟩
  · rw [e4]
    split
    · rfl
    · rw [e2, if_neg (by omega)] at e
      exact h1 c v hc hv e
  · rw [ev] at hv
    have := h2 v hv
    rw [jn_lo (t := 8) (by decide), jn_lo (t := 5) (by decide), e9]
    split <;> omega
  · have := h3 j hj
    rw [e9]
    split <;> omega
  · unfold tot
    have g1 := sm_up (g := A 3 0) (h := fun j => if j = a then jm A a b else A 3 0 j) (c := a) (nC A) ha (fun k _ hk => if_neg hk)
    have g2 := sm_up (g := fun j => if j = a then jm A a b else A 3 0 j) (h := jn A a b 3 0) (c := b) (nC A) hb (fun k _ hk => by rw [e3, if_neg hk])
    simp only [if_pos rfl, if_neg (Ne.symm hab)] at g1 g2
    rw [ec, eft, g2, g1, e3, if_pos rfl]
    simp only [if_true]
    omega
  · rw [e2]
    split
    · rfl
    · exact e
theorem join_SR {A : lA} (h : LX A) (a b : Int) : ∃ g, SR A (s_join A a b).2 g ∧ ((s_join A a b).1 < 0 → g = 0) := by
  have hn := h.1.li.nc
  unfold s_join
  split
  · exact ⟨0, SR.rf0 h, fun _ => rfl⟩
  · split
    · exact ⟨0, SR.rf0 h, fun _ => rfl⟩
    · next h1 h2 =>
      have hj : 0 ≤ jm A a.toNat b.toNat := by
        have hwa := h.1.li.wa (c := a.toNat) (by omega)
        have hwb := h.1.li.wa (c := b.toNat) (by omega)
        unfold jm
        split <;> omega
      refine ⟨_, jn_SR h (by omega) (by omega) (by omega) (fun e => h2 (Or.inl e)) (Classical.not_not.mp fun e => h2 (Or.inr e)), fun z => ?_⟩
      have z : jm A a.toNat b.toNat < 0 := z
      omega
theorem split_SR {A : lA} (h : LX A) (c w : Int) : SR A (s_split A c w).2 0 := by
  have hJ := h.1
  have hn := hJ.li.nc
  have hL := k_split hJ (c := c) (w := w)
  revert hL
  unfold s_split
  split
  · exact fun _ => SR.rf0 h
  · split
    · exact fun _ => SR.rf0 h
    · split
      · exact fun _ => SR.rf0 h
      · next g1 g2 g3 =>
        intro hL
        have hc : c.toNat < nC A := by omega
        generalize hB : lu A 3 0 c.toNat (A 3 0 c.toNat - w) = B at hL ⊢
        have hLI : LI B := by
          rw [← hB]
          have := hJ.li.wa (c := c.toNat) (by omega)
          exact hJ.li.l3 (by omega)
        have ecB : nC B = nC A := by rw [← hB]; rfl
        have evB : nV B = nV A := by rw [← hB]; rfl
        have eB : ∀ t i j, t ≠ 3 → B t i j = A t i j := fun t i j ht => by rw [← hB]; exact lu_t ht
        have ec : nC (ac B (A 1 0 c.toNat) (A 2 0 c.toNat) w) = nC A + 1 := by rw [ac_nC hLI, ecB]
        have ev : nV (ac B (A 1 0 c.toNat) (A 2 0 c.toNat) w) = nV A := by unfold nV; rw [ac_lo (by omega), eB 0 0 1 (by decide)]
        have eft : ft (ac B (A 1 0 c.toNat) (A 2 0 c.toNat) w) = ft A := by
          unfold ft
          exact sm_c 25 (fun j _ => by rw [ac_lo (by omega), eB 9 0 _ (by decide)])
        refine ⟨⟨hL, fun c' v hc' hv e => ?_, fun v hv => ?_, fun j hj => ?_⟩, ev, ?_, by show ft (ac B _ _ _) = _; rw [eft]; omega, Int.le_refl _, fun c' hc' e => ?_⟩
        · have e : ac B (A 1 0 c.toNat) (A 2 0 c.toNat) w 2 0 c' = 25 := e
          show ac B (A 1 0 c.toNat) (A 2 0 c.toNat) w 4 c' v = 0
          rw [ac_4]
          split
          · rfl
          · next g4 =>
            rw [ac_at.2.1, if_neg (fun z => g4 ⟨by omega, hv⟩), eB 2 0 _ (by decide)] at e
            rw [eB 4 _ _ (by decide)]
            exact h.2.1 c' v hc' hv e
        · have hv : v < nV (ac B (A 1 0 c.toNat) (A 2 0 c.toNat) w) := hv
          rw [ev] at hv
          have := h.2.2.1 v hv
          show ac B (A 1 0 c.toNat) (A 2 0 c.toNat) w 8 0 v ≤ ac B (A 1 0 c.toNat) (A 2 0 c.toNat) w 9 0 (ac B (A 1 0 c.toNat) (A 2 0 c.toNat) w 5 0 v).toNat
          rw [ac_lo (t := 8) (by omega), ac_lo (t := 5) (by omega), ac_lo (t := 9) (by omega), eB 8 0 _ (by decide), eB 5 0 _ (by decide), eB 9 0 _ (by decide)]
          exact this
        · show 0 ≤ ac B (A 1 0 c.toNat) (A 2 0 c.toNat) w 9 0 j
          rw [ac_lo (by omega), eB 9 0 _ (by decide)]
          exact h.2.2.2 j hj
        · show tot (ac B (A 1 0 c.toNat) (A 2 0 c.toNat) w) = tot A
          unfold tot
          rw [ec, eft]
          have s1 : sm (ac B (A 1 0 c.toNat) (A 2 0 c.toNat) w 3 0) (nC A + 1) = sm (ac B (A 1 0 c.toNat) (A 2 0 c.toNat) w 3 0) (nC A) + ac B (A 1 0 c.toNat) (A 2 0 c.toNat) w 3 0 (nC A) := rfl
          have s2 : sm (ac B (A 1 0 c.toNat) (A 2 0 c.toNat) w 3 0) (nC A) = sm (B 3 0) (nC A) := sm_c _ (fun j hj => by rw [ac_at.2.2, if_neg (by omega)])
          have s3 := sm_up (g := A 3 0) (h := B 3 0) (c := c.toNat) (nC A) hc (fun k _ hk => by rw [← hB, lu_j hk])
          have s4 : B 3 0 c.toNat = A 3 0 c.toNat - w := by rw [← hB, lu_s]
          rw [s1, s2, s3, s4, ac_at.2.2, if_pos ecB.symm]
          omega
        · show ac B (A 1 0 c.toNat) (A 2 0 c.toNat) w 2 0 c' = 25
          rw [ac_at.2.1, if_neg (by omega), eB 2 0 _ (by decide)]
          exact e
theorem salt_SR {A : lA} (h : LX A) (c : Int) : SR A (s_salt A c).2 0 := by
  have hJ := k_salt h.1 (c := c)
  revert hJ
  unfold s_salt
  split
  · exact fun _ => SR.rf0 h
  · split
    · exact fun _ => SR.rf0 h
    · intro hJ
      have e : ∀ t i j, t ≠ 1 → lu A 1 0 c.toNat 3 t i j = A t i j := fun t i j ht => lu_t ht
      exact ⟨⟨hJ, fun c' v hc hv e => h.2.1 c' v hc hv e, fun v hv => h.2.2.1 v hv, fun j hj => h.2.2.2 j hj⟩, rfl, rfl, by show ft _ = _; rw [Int.add_zero]; rfl, Int.le_refl _, fun _ _ e => e⟩
