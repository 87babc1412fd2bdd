/-! what the class's land keeps -/
def td (A : lA) (v : Nat) : Int := sm (fun c => A 4 c v) 6
def LJ (A : lA) : Prop := LI A ∧ (∀ v, v < 4 → td A v ≤ A 6 0 v ∧ A 6 0 v ≤ 9) ∧ (∀ v, v < 4 → nV A ≤ v → A 6 0 v = 0) ∧ (∀ v, v < 4 → 0 ≤ A 7 0 v ∧ A 7 0 v ≤ 99) ∧ (∀ v, v < 4 → 0 ≤ A 8 0 v ∧ A 8 0 v ≤ 30 * A 0 0 2) ∧ (0 ≤ A 0 0 2 ∧ A 0 0 2 ≤ 9999) ∧ (0 ≤ A 0 0 3 ∧ A 0 0 3 ≤ 2147483647) ∧ (∀ c v, c < 6 → v < 4 → nC A ≤ c → A 4 c v = 0)
theorem LJ.li {A : lA} (h : LJ A) : LI A := h.1
theorem LJ.sg {A : lA} (h : LJ A) {v : Nat} (hv : v < 4) : td A v ≤ A 6 0 v ∧ A 6 0 v ≤ 9 := h.2.1 v hv
theorem LJ.z6 {A : lA} (h : LJ A) {v : Nat} (hv : v < 4) (g : nV A ≤ v) : A 6 0 v = 0 := h.2.2.1 v hv g
theorem LJ.th {A : lA} (h : LJ A) {v : Nat} (hv : v < 4) : 0 ≤ A 7 0 v ∧ A 7 0 v ≤ 99 := h.2.2.2.1 v hv
theorem LJ.we {A : lA} (h : LJ A) {v : Nat} (hv : v < 4) : 0 ≤ A 8 0 v ∧ A 8 0 v ≤ 30 * A 0 0 2 := h.2.2.2.2.1 v hv
theorem LJ.ho {A : lA} (h : LJ A) : 0 ≤ A 0 0 2 ∧ A 0 0 2 ≤ 9999 := h.2.2.2.2.2.1
theorem LJ.dr {A : lA} (h : LJ A) : 0 ≤ A 0 0 3 ∧ A 0 0 3 ≤ 2147483647 := h.2.2.2.2.2.2.1
theorem LJ.z4 {A : lA} (h : LJ A) {c v : Nat} (hc : c < 6) (hv : v < 4) (g : nC A ≤ c) : A 4 c v = 0 := h.2.2.2.2.2.2.2 c v hc hv g
theorem LJ.t0 {A : lA} (h : LJ A) {v : Nat} (hv : v < 4) : 0 ≤ td A v := sm_nn 6 (fun c hc => (h.li.st hc hv).1)
/-- a sum of a row with one number changed -/
theorem sm_up {g h : Nat → Int} {c : Nat} : ∀ n, c < n → (∀ k, k < n → k ≠ c → h k = g k) → sm h n = sm g n - g c + h c
  | 0, hc, _ => absurd hc (Nat.not_lt_zero c)
  | n + 1, hc, e => by
    show sm h n + h n = sm g n + g n - g c + h c
    by_cases k : c = n
    · subst k
      rw [sm_c c (fun j hj => e j (by omega) (by omega))]
      omega
    · rw [sm_up n (by omega) (fun j hj hk => e j (by omega) hk), e n (by omega) (fun z => k z.symm)]
      omega
theorem td_eq {A B : lA} {v : Nat} (h : ∀ c, c < 6 → B 4 c v = A 4 c v) : td B v = td A v := sm_c 6 h
theorem td_nC {A : lA} (h : LJ A) {v : Nat} (hv : v < 4) : sm (fun c => A 4 c v) (nC A) = td A v := (sm_0 6 h.li.nc.2 (fun c h1 h2 => h.z4 h2 hv h1)).symm
/-- a land that agrees in the numbers that count -/
theorem LJ.up {A B : lA} (h : LJ A) (hl : LI B) (g1 : nV B = nV A) (g2 : nC A ≤ nC B) (g7 : ∀ v, v < 4 → B 7 0 v = A 7 0 v) (g8 : ∀ v, v < 4 → 0 ≤ B 8 0 v ∧ B 8 0 v ≤ 30 * B 0 0 2) (g0 : 0 ≤ B 0 0 2 ∧ B 0 0 2 ≤ 9999) (g3 : 0 ≤ B 0 0 3 ∧ B 0 0 3 ≤ 2147483647) (g4 : ∀ c v, c < 6 → v < 4 → B 4 c v = A 4 c v ∨ B 4 c v = 0) (g6 : ∀ v, v < 4 → td B v ≤ B 6 0 v ∧ B 6 0 v ≤ 9) (g60 : ∀ v, v < 4 → nV A ≤ v → B 6 0 v = A 6 0 v) : LJ B := by
  refine ⟨hl, g6, fun v hv hn => by rw [g60 v hv (by omega)]; exact h.z6 hv (by omega), fun v hv => by rw [g7 v hv]; exact h.th hv, g8, g0, g3, fun c v hc hv hn => ?_⟩
  rcases g4 c v hc hv with e | e <;> rw [e]
  exact h.z4 hc hv (by omega)
theorem mv_td {A : lA} (hA : LI A) {c : Nat} (hc : c < 6) {s f : Int} {v : Nat} (hv : v < 4) (h : td A v ≤ A 6 0 v ∧ A 6 0 v ≤ 9) : (td (mv A c s f) v ≤ mv A c s f 6 0 v ∧ mv A c s f 6 0 v ≤ 9) ∧ (nV A ≤ v → mv A c s f 6 0 v = A 6 0 v) := by
  have lo : ∀ x, (td (lu A 2 0 c x) v ≤ lu A 2 0 c x 6 0 v ∧ lu A 2 0 c x 6 0 v ≤ 9) ∧ (nV A ≤ v → lu A 2 0 c x 6 0 v = A 6 0 v) := fun x => by
    rw [lu_t (by decide), td_eq (A := A) (fun c' _ => lu_t (by decide))]
    exact ⟨h, fun _ => rfl⟩
  unfold mv
  split
  · exact ⟨h, fun _ => rfl⟩
  · split
    · exact lo _
    · split
      · split
        · have e1 : nV (lu A 2 0 c 25) = nV A := rfl
          by_cases g : v < nV A
          · have e6 : ls (lu A 2 0 c 25) c 6 0 v = A 6 0 v - A 4 c v := by
              unfold ls
              rw [if_pos ⟨rfl, rfl, by omega⟩, lu_t (by decide), lu_t (by decide)]
            have et : td (ls (lu A 2 0 c 25) c) v = td A v - A 4 c v + 0 := by
              have e0 : ls (lu A 2 0 c 25) c 4 c v = 0 := by
                unfold ls
                rw [if_neg (by omega), if_pos ⟨rfl, rfl, by omega⟩]
              have := sm_up (g := fun k => A 4 k v) (h := fun k => ls (lu A 2 0 c 25) c 4 k v) (c := c) 6 hc (fun k hk hkc => by
                show ls (lu A 2 0 c 25) c 4 k v = A 4 k v
                unfold ls
                rw [if_neg (by omega), if_neg (by omega), lu_t (by decide)])
              rw [e0] at this
              exact this
            have hs := hA.st hc hv
            rw [e6, et]
            exact ⟨by omega, fun z => by omega⟩
          · have e6 : ls (lu A 2 0 c 25) c 6 0 v = A 6 0 v := by
              unfold ls
              rw [if_neg (by omega), if_neg (by omega), lu_t (by decide)]
            have et : td (ls (lu A 2 0 c 25) c) v = td A v := td_eq fun k hk => by
              unfold ls
              rw [if_neg (by omega), if_neg (by omega), lu_t (by decide)]
            rw [e6, et]
            exact ⟨h, fun _ => rfl⟩
        · exact lo _
      · exact ⟨h, fun _ => rfl⟩
theorem mv_s4 {A : lA} {c c' v : Nat} {s f : Int} : mv A c s f 4 c' v = A 4 c' v ∨ mv A c s f 4 c' v = 0 := by
  unfold mv
  split
  · exact Or.inl rfl
  · split
    · exact Or.inl (lu_t (by decide))
    · split
      · split
        · unfold ls
          rw [if_neg (by omega)]
          split
          · exact Or.inr rfl
          · exact Or.inl (lu_t (by decide))
        · exact Or.inl (lu_t (by decide))
      · exact Or.inl rfl
theorem mvs_td {A : lA} (hA : LI A) {s f : Int} {v : Nat} (hv : v < 4) (h : td A v ≤ A 6 0 v ∧ A 6 0 v ≤ 9) : ∀ n, n ≤ 6 → (td (mvs A s f n) v ≤ mvs A s f n 6 0 v ∧ mvs A s f n 6 0 v ≤ 9) ∧ (nV A ≤ v → mvs A s f n 6 0 v = A 6 0 v) ∧ ∀ c', mvs A s f n 4 c' v = A 4 c' v ∨ mvs A s f n 4 c' v = 0
  | 0, _ => ⟨h, fun _ => rfl, fun _ => Or.inl rfl⟩
  | n + 1, hn => by
    have ih := mvs_td hA (s := s) (f := f) hv h n (by omega)
    have h1 := mv_td (mvs_LI hA s f n (by omega)) (c := n) (by omega) (s := s) (f := f) hv ih.1
    have e : nV (mvs A s f n) = nV A := by unfold nV; rw [mvs_lo (by omega)]
    refine ⟨h1.1, fun z => (h1.2 (by omega)).trans (ih.2.1 z), fun c' => ?_⟩
    rcases mv_s4 (A := mvs A s f n) (c := n) (c' := c') (v := v) (s := s) (f := f) with e1 | e1
    · rcases ih.2.2 c' with e2 | e2
      · exact Or.inl (e1.trans e2)
      · exact Or.inr (e1.trans e2)
    · exact Or.inr e1
theorem hr_nV {A : lA} {s f : Int} : nV (hr A s f) = nV A := by unfold nV; rw [hr_lo (by omega)]
theorem hr_nC {A : lA} {s f : Int} : nC (hr A s f) = nC A := by unfold nC; rw [hr_lo (by omega)]
theorem hr_hi {A : lA} {s f : Int} {t i j : Nat} (h : t = 4 ∨ t = 6) : hr A s f t i j = mvs A s f (nC A) t i j := by
  unfold hr
  rw [lu_t (by omega), rns_lo (by omega)]
theorem hr_LJ {A : lA} (h : LJ A) (s f : Int) (hh : A 0 0 2 < 9999) : LJ (hr A s f) := by
  have hl := h.li
  have h1 := h.ho
  have hn := hl.nc
  refine h.up (hr_LI hl s f) hr_nV (by rw [hr_nC]; exact Nat.le_refl _) (fun v hv => hr_lo (by omega)) (fun v hv => ?_) (by rw [hr_h]; omega) (by rw [hr_lo (by omega)]; exact h.dr) (fun c v hc hv => ?_) (fun v hv => ?_) (fun v hv hn => ?_)
  · have h8 := h.we hv
    have hd : ∀ c, c < nC A → 0 ≤ dl (mv A c s f) c v ∧ dl (mv A c s f) c v ≤ 5 := fun c hc => dl_r (hl.k_mv (by omega) s f) (by omega)
    have h5 := sm_le (s := fun c => dl (mv A c s f) c v) (b := 5) (nC A) (fun c hc => (hd c hc).2)
    have h6 := sm_nn (s := fun c => dl (mv A c s f) c v) (nC A) (fun c hc => (hd c hc).1)
    rw [hr_wet, hr_h]
    omega
  · rw [hr_hi (by omega)]
    exact (mvs_td hl hv (h.sg hv) _ hn.2).2.2 c
  · rw [hr_hi (by omega), td_eq (A := mvs A s f (nC A)) (fun c hc => hr_hi (by omega))]
    exact (mvs_td hl hv (h.sg hv) _ hn.2).1
  · rw [hr_hi (by omega)]
    exact (mvs_td hl hv (h.sg hv) _ hl.nc.2).2.1 hn
theorem gs_LJ {A : lA} (h : LJ A) {n : Nat} {S F : Nat → Int} : ∀ k : Nat, A 0 0 2 + k ≤ 9999 → LJ (gs A n S F k)
  | 0, _ => h
  | k + 1, hk => hr_LJ (gs_LJ h k (by omega)) _ _ (by rw [gs_h]; omega)
/-- a cloud more -/
def ac (A : lA) (k f w : Int) : lA := lu (lg (lu (lu (lu A 1 0 (nC A) k) 2 0 (nC A) f) 3 0 (nC A) w) (nC A) 4) 0 0 0 (A 0 0 0 + 1)
/-- a village more -/
def av (A : lA) (f s t : Int) : lA := lu (lu (lu (lu (lu A 5 0 (nV A) f) 6 0 (nV A) s) 7 0 (nV A) t) 8 0 (nV A) 0) 0 0 1 (A 0 0 1 + 1)
theorem lg_t {A : lA} {c k t i j : Nat} (h : t ≠ 4) : lg A c k t i j = A t i j := if_neg fun z => h z.1
theorem ac_lo {A : lA} {k f w : Int} {t i j : Nat} (h : t = 0 ∧ j ≠ 0 ∨ t = 5 ∨ t = 6 ∨ t = 7 ∨ t = 8 ∨ t = 9) : ac A k f w t i j = A t i j := by
  unfold ac
  by_cases e : t = 0
  · rw [lu_j (by omega), lg_t (by omega), lu_t (by omega), lu_t (by omega), lu_t (by omega)]
  · rw [lu_t (by omega), lg_t (by omega), lu_t (by omega), lu_t (by omega), lu_t (by omega)]
theorem ac_4 {A : lA} {k f w : Int} {c v : Nat} : ac A k f w 4 c v = if c = nC A ∧ v < 4 then 0 else A 4 c v := by
  unfold ac
  rw [lu_t (by decide)]
  unfold lg
  by_cases h : c = nC A ∧ v < 4
  · rw [if_pos ⟨rfl, h.1, h.2⟩, if_pos h]
  · rw [if_neg (fun z => h z.2), if_neg h, lu_t (by decide), lu_t (by decide), lu_t (by decide)]
theorem ac_LI {A : lA} (h : LI A) {k f w : Int} (hn : nC A < 6) (hk : 0 ≤ k ∧ k ≤ 3) (hf : 0 ≤ f ∧ f ≤ 24) (hw : 1 ≤ w ∧ w ≤ 999) : LI (ac A k f w) := by
  have hnc := h.nc
  have e0 : ac A k f w 0 0 0 = A 0 0 0 + 1 := lu_s
  have e1 : ac A k f w 0 0 1 = A 0 0 1 := ac_lo (by omega)
  have ev : nV (ac A k f w) = nV A := by unfold nV; rw [e1]
  refine ⟨by omega, by omega, by rw [e1]; exact h.2.2.1, by rw [e1]; exact h.2.2.2.1, fun c hc => ?_, fun c hc => ?_, fun c hc => ?_, fun c v hc hv => ?_, fun c v hc hv hn => ?_, fun v hv => by rw [ac_lo (by omega)]; exact h.hm hv, fun u v hu hv e => ?_⟩
  · unfold ac
    rw [lu_t (by decide), lg_t (by decide), lu_t (by decide), lu_t (by decide)]
    by_cases g : c = nC A
    · subst g; rw [lu_s]; exact hk
    · rw [lu_j g]; exact h.kd hc
  · unfold ac
    rw [lu_t (by decide), lg_t (by decide), lu_t (by decide)]
    by_cases g : c = nC A
    · subst g; rw [lu_s]; omega
    · rw [lu_j g, lu_t (by decide)]; exact h.fd hc
  · unfold ac
    rw [lu_t (by decide), lg_t (by decide)]
    by_cases g : c = nC A
    · subst g; rw [lu_s]; omega
    · rw [lu_j g, lu_t (by decide), lu_t (by decide)]; exact h.wa hc
  · rw [ac_4]
    split
    · omega
    · exact h.st hc hv
  · rw [ac_4]
    split
    · rfl
    · exact h.s0 hc hv (by omega)
  · rw [ev] at hu hv
    rw [ac_lo (by omega), ac_lo (by omega)] at e
    exact h.ap hu hv e
theorem ac_nC {A : lA} (h : LI A) {k f w : Int} : nC (ac A k f w) = nC A + 1 := by
  have hnc := h.nc
  have e0 : ac A k f w 0 0 0 = A 0 0 0 + 1 := lu_s
  unfold nC
  rw [e0]
  omega
theorem ac_LJ {A : lA} (h : LJ A) {k f w : Int} (hn : nC A < 6) (hk : 0 ≤ k ∧ k ≤ 3) (hf : 0 ≤ f ∧ f ≤ 24) (hw : 1 ≤ w ∧ w ≤ 999) : LJ (ac A k f w) := by
  have e1 : nV (ac A k f w) = nV A := by unfold nV; rw [ac_lo (by omega)]
  refine h.up (ac_LI h.li hn hk hf hw) e1 (by rw [ac_nC h.li]; omega) (fun v hv => ac_lo (by omega)) (fun v hv => by rw [ac_lo (by omega), ac_lo (by omega)]; exact h.we hv) (by rw [ac_lo (by omega)]; exact h.ho) (by rw [ac_lo (by omega)]; exact h.dr) (fun c v hc hv => ?_) (fun v hv => ?_) (fun v hv hn => ac_lo (by omega))
  · rw [ac_4]
    split
    · exact Or.inr rfl
    · exact Or.inl rfl
  · rw [ac_lo (by omega)]
    have e : td (ac A k f w) v = td A v := td_eq fun c hc => by
      rw [ac_4]
      split
      · next z => rw [z.1, h.z4 hn hv (Nat.le_refl _)]
      · rfl
    rw [e]
    exact h.sg hv
theorem av_lo {A : lA} {f s t : Int} {t' i j : Nat} (h : t' = 0 ∧ j ≠ 1 ∨ t' = 1 ∨ t' = 2 ∨ t' = 3 ∨ t' = 4 ∨ t' = 9) : av A f s t t' i j = A t' i j := by
  unfold av
  by_cases e : t' = 0
  · rw [lu_j (by omega), lu_t (by omega), lu_t (by omega), lu_t (by omega), lu_t (by omega)]
  · rw [lu_t (by omega), lu_t (by omega), lu_t (by omega), lu_t (by omega), lu_t (by omega)]
theorem av_at {A : lA} {f s t : Int} {v : Nat} : av A f s t 5 0 v = (if v = nV A then f else A 5 0 v) ∧ av A f s t 6 0 v = (if v = nV A then s else A 6 0 v) ∧ av A f s t 7 0 v = (if v = nV A then t else A 7 0 v) ∧ av A f s t 8 0 v = (if v = nV A then 0 else A 8 0 v) := by
  unfold av
  by_cases g : v = nV A
  · subst g
    rw [if_pos rfl, if_pos rfl, if_pos rfl, if_pos rfl]
    exact ⟨by rw [lu_t (by decide), lu_t (by decide), lu_t (by decide), lu_t (by decide), lu_s], by rw [lu_t (by decide), lu_t (by decide), lu_t (by decide), lu_s], by rw [lu_t (by decide), lu_t (by decide), lu_s], by rw [lu_t (by decide), lu_s]⟩
  · rw [if_neg g, if_neg g, if_neg g, if_neg g]
    exact ⟨by rw [lu_t (by decide), lu_t (by decide), lu_t (by decide), lu_t (by decide), lu_j g], by rw [lu_t (by decide), lu_t (by decide), lu_t (by decide), lu_j g, lu_t (by decide)], by rw [lu_t (by decide), lu_t (by decide), lu_j g, lu_t (by decide), lu_t (by decide)], by rw [lu_t (by decide), lu_j g, lu_t (by decide), lu_t (by decide), lu_t (by decide)]⟩
theorem av_LJ {A : lA} (h : LJ A) {f s t : Int} (hn : nV A < 4) (hf : 0 ≤ f ∧ f ≤ 24) (hs : 0 ≤ s ∧ s ≤ 9) (ht : 0 ≤ t ∧ t ≤ 99) (hno : vl (A 5 0) f (nV A) < 0) : LJ (av A f s t) := by
  have hl := h.li
  have hnv := hl.nv
  have e0 : av A f s t 0 0 0 = A 0 0 0 := av_lo (by omega)
  have e1 : av A f s t 0 0 1 = A 0 0 1 + 1 := lu_s
  have ev : nV (av A f s t) = nV A + 1 := by unfold nV; rw [e1]; omega
  have ec : nC (av A f s t) = nC A := by unfold nC; rw [e0]
  have hnot : ∀ u, u < nV A → A 5 0 u ≠ f := fun u hu e => by
    have := vl_un (f := f) e (nV A) hu (fun w hw e2 => hl.ap hw hu (e2.trans e.symm))
    omega
  have hL : LI (av A f s t) := by
    refine ⟨by rw [e0]; exact hl.1, by rw [e0]; exact hl.2.1, by omega, by omega, fun c hc => by rw [av_lo (by omega)]; exact hl.kd hc, fun c hc => by rw [av_lo (by omega)]; exact hl.fd hc, fun c hc => by rw [av_lo (by omega)]; exact hl.wa hc, fun c v hc hv => by rw [av_lo (by omega)]; exact hl.st hc hv, fun c v hc hv hn2 => by rw [av_lo (by omega)]; exact hl.s0 hc hv (by omega), fun v hv => ?_, fun u v hu hv e => ?_⟩
    · rw [av_at.1]
      split
      · exact hf
      · exact hl.hm hv
    · rw [ev] at hu hv
      rw [av_at.1, av_at.1] at e
      by_cases gu : u = nV A
      · by_cases gv : v = nV A
        · omega
        · rw [if_pos gu, if_neg gv] at e
          exact absurd e.symm (hnot v (by omega))
      · by_cases gv : v = nV A
        · rw [if_neg gu, if_pos gv] at e
          exact absurd e (hnot u (by omega))
        · rw [if_neg gu, if_neg gv] at e
          exact hl.ap (by omega) (by omega) e
  refine ⟨hL, fun v hv => ?_, fun v hv hn2 => ?_, fun v hv => ?_, fun v hv => ?_, by rw [av_lo (by omega)]; exact h.ho, by rw [av_lo (by omega)]; exact h.dr, fun c v hc hv hn2 => by rw [av_lo (by omega)]; exact h.z4 hc hv (by omega)⟩
  · have e : td (av A f s t) v = td A v := td_eq fun c hc => av_lo (by omega)
    rw [e, av_at.2.1]
    split
    · next g =>
      have : td A v = 0 := by
        have : ∀ n, n ≤ 6 → sm (fun c => A 4 c v) n = 0 := fun n => by
          induction n with
          | zero => exact fun _ => rfl
          | succ n ih =>
            intro hn6
            show sm (fun c => A 4 c v) n + A 4 n v = 0
            rw [ih (by omega), hl.s0 (by omega) hv (by omega)]
            rfl
        exact this 6 (Nat.le_refl _)
      omega
    · exact h.sg hv
  · rw [av_at.2.1, if_neg (by omega)]
    exact h.z6 hv (by omega)
  · rw [av_at.2.2.1]
    split
    · exact ht
    · exact h.th hv
  · rw [av_at.2.2.2, av_lo (by omega)]
    have := h.ho
    split
    · omega
    · exact h.we hv
