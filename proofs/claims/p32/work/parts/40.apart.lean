/-! clouds apart: a cloud's moves and rains hang on its own numbers, and touch only these, what fell, who is wet, and string -/
def vw (c t i j : Nat) : Prop := (t = 0 ∧ i = 0 ∧ j = 1) ∨ t = 5 ∨ ((t = 1 ∨ t = 2 ∨ t = 3) ∧ i = 0 ∧ j = c) ∨ (t = 4 ∧ i = c)
def ag (c : Nat) (A B : lA) : Prop := ∀ t i j, vw c t i j → A t i j = B t i j
theorem ag.r0 {c : Nat} {A : lA} : ag c A A := fun _ _ _ _ => rfl
theorem ag.tr {c : Nat} {A B C : lA} (h : ag c A B) (g : ag c B C) : ag c A C := fun t i j z => (h t i j z).trans (g t i j z)
theorem ag.sy {c : Nat} {A B : lA} (h : ag c A B) : ag c B A := fun t i j z => (h t i j z).symm
theorem ag.kd {c : Nat} {A B : lA} (h : ag c A B) : A 1 0 c = B 1 0 c := h _ _ _ (by unfold vw; omega)
theorem ag.fd {c : Nat} {A B : lA} (h : ag c A B) : A 2 0 c = B 2 0 c := h _ _ _ (by unfold vw; omega)
theorem ag.wa {c : Nat} {A B : lA} (h : ag c A B) : A 3 0 c = B 3 0 c := h _ _ _ (by unfold vw; omega)
theorem ag.st {c : Nat} {A B : lA} (h : ag c A B) : A 4 c = B 4 c := funext fun j => h _ _ _ (by unfold vw; omega)
theorem ag.hm {c : Nat} {A B : lA} (h : ag c A B) : A 5 0 = B 5 0 := funext fun j => h _ _ _ (by unfold vw; omega)
theorem ag.nv {c : Nat} {A B : lA} (h : ag c A B) : nV A = nV B := by
  unfold nV
  rw [h 0 0 1 (by unfold vw; omega)]
theorem ag.k_lu {c : Nat} {A B : lA} (h : ag c A B) (t i j : Nat) (v : Int) : ag c (lu A t i j v) (lu B t i j v) := fun t' i' j' z => by
  unfold lu
  split
  · rfl
  · exact h _ _ _ z
theorem ag.k_ls {c : Nat} {A B : lA} (h : ag c A B) : ag c (ls A c) (ls B c) := fun t i j z => by
  unfold ls
  have g : ¬ (t = 6 ∧ i = 0 ∧ j < nV B) := by unfold vw at z; omega
  rw [h.nv, if_neg g, if_neg g, h _ _ _ z]
theorem ag.k_mv {c : Nat} {A B : lA} (h : ag c A B) (s f : Int) : ag c (mv A c s f) (mv B c s f) := by
  unfold mv
  rw [h.kd, h.fd, h.st, h.hm, h.nv]
  split
  · exact h
  · split
    · exact h.k_lu _ _ _ _
    · split
      · split
        · exact (h.k_lu _ _ _ _).k_ls
        · exact h.k_lu _ _ _ _
      · exact h
theorem ag.k_rf {c : Nat} {A B : lA} (h : ag c A B) : rf A c = rf B c := by
  unfold rf
  rw [h.kd, h.fd, h.wa]
theorem ag.k_rv {c : Nat} {A B : lA} (h : ag c A B) : rv A c = rv B c := by
  unfold rv
  rw [h.fd, h.hm, h.nv]
theorem ag.hi {c : Nat} {A B : lA} (h : ag c A B) {t i j : Nat} {v : Int} (ht : 6 ≤ t) : ag c (lu A t i j v) B := fun t' i' j' z => by
  rw [lu_t (by unfold vw at z; omega)]
  exact h _ _ _ z
theorem ag.k_rn {c : Nat} {A B : lA} (h : ag c A B) : ag c (rn A c) (rn B c) := by
  unfold rn
  rw [h.k_rv, h.k_rf, h.kd, h.fd, h.wa]
  split
  · exact h
  · split
    · exact ((((h.k_lu 3 0 c (B 3 0 c - rf B c)).hi (by decide)).hi (by decide)).sy.hi (by decide)).hi (by decide) |>.sy
    · exact ((h.k_lu 3 0 c (B 3 0 c - rf B c)).hi (by decide)).sy.hi (by decide) |>.sy
theorem mv_ot {c c' : Nat} (hc : c' ≠ c) (A : lA) (s f : Int) : ag c (mv A c' s f) A := fun t i j z => by
  unfold vw at z
  unfold mv
  have hl : ∀ v, lu A 2 0 c' v t i j = A t i j := fun v => by
    unfold lu
    rw [if_neg (by omega)]
  split
  · rfl
  · split
    · exact hl _
    · split
      · split
        · unfold ls
          rw [if_neg (by omega), if_neg (by omega)]
          exact hl _
        · exact hl _
      · rfl
theorem rn_ot {c c' : Nat} (hc : c' ≠ c) (A : lA) : ag c (rn A c') A := fun t i j z => by
  unfold vw at z
  unfold rn
  split
  · rfl
  · split
    · unfold lu
      rw [if_neg (by omega), if_neg (by omega), if_neg (by omega)]
    · unfold lu
      rw [if_neg (by omega), if_neg (by omega)]
/-- by how much a village is wetter by a cloud's rain -/
def dl (A : lA) (c v : Nat) : Int := if A 2 0 c ≠ 25 ∧ rv A c = (v : Int) ∧ A 1 0 c ≠ 3 then rf A c else 0
theorem rn_wet {A : lA} {c v : Nat} : rn A c 8 0 v = A 8 0 v + dl A c v := by
  unfold rn dl
  split
  · next h => rw [if_neg (by omega), Int.add_zero]
  · next h =>
    split
    · next h2 =>
      by_cases h3 : v = (rv A c).toNat
      · rw [if_pos ⟨h, by omega, h2.2⟩, h3, lu_s]
      · rw [if_neg (by omega), Int.add_zero, lu_j h3, lu_t (by decide), lu_t (by decide)]
    · next h2 => rw [if_neg (by omega), Int.add_zero, lu_t (by decide), lu_t (by decide)]
theorem ag.k_dl {c v : Nat} {A B : lA} (h : ag c A B) : dl A c v = dl B c v := by
  unfold dl
  rw [h.k_rv, h.k_rf, h.kd, h.fd]
theorem mvs_ag {A : lA} {s f : Int} {c : Nat} : ∀ k, (k ≤ c → ag c (mvs A s f k) A) ∧ (c < k → ag c (mvs A s f k) (mv A c s f))
  | 0 => ⟨fun _ => ag.r0, fun h => absurd h (Nat.not_lt_zero c)⟩
  | k + 1 => by
    have ih := mvs_ag (A := A) (s := s) (f := f) (c := c) k
    refine ⟨fun h => (mv_ot (by omega) _ s f).tr (ih.1 (by omega)), fun h => ?_⟩
    by_cases e : k = c
    · subst e
      exact (ih.1 (Nat.le_refl _)).k_mv s f
    · exact (mv_ot e _ s f).tr (ih.2 (by omega))
theorem rns_ag {A : lA} {c : Nat} : ∀ k, (k ≤ c → ag c (rns A k) A) ∧ (c < k → ag c (rns A k) (rn A c))
  | 0 => ⟨fun _ => ag.r0, fun h => absurd h (Nat.not_lt_zero c)⟩
  | k + 1 => by
    have ih := rns_ag (A := A) (c := c) k
    refine ⟨fun h => (rn_ot (by omega) _).tr (ih.1 (by omega)), fun h => ?_⟩
    by_cases e : k = c
    · subst e
      exact (ih.1 (Nat.le_refl _)).k_rn
    · exact (rn_ot e _).tr (ih.2 (by omega))
theorem rns_wet {A : lA} {v : Nat} : ∀ k, rns A k 8 0 v = A 8 0 v + sm (fun c => dl A c v) k
  | 0 => (Int.add_zero _).symm
  | k + 1 => by
    show rn (rns A k) k 8 0 v = A 8 0 v + (sm (fun c => dl A c v) k + dl A k v)
    rw [rn_wet, rns_wet k, ((rns_ag k).1 (Nat.le_refl _)).k_dl]
    omega
theorem hr_ag {A : lA} {s f : Int} {c : Nat} (hc : c < nC A) : ag c (hr A s f) (rn (mv A c s f) c) := by
  have h1 : ag c (rns (mvs A s f (nC A)) (nC A)) (rn (mv A c s f) c) := ((rns_ag _).2 hc).tr ((mvs_ag _).2 hc).k_rn
  intro t i j z
  unfold hr lu
  rw [if_neg (by unfold vw at z; omega)]
  exact h1 t i j z
theorem hr_wet {A : lA} {s f : Int} {v : Nat} : hr A s f 8 0 v = A 8 0 v + sm (fun c => dl (mv A c s f) c v) (nC A) := by
  unfold hr
  rw [lu_t (by decide), rns_wet, mvs_lo (by decide)]
  congr 1
  exact sm_c _ (fun c hc => ((mvs_ag _).2 hc).k_dl)
/-- what a cloud gives a village in so many hours -/
def ga (A : lA) (n : Nat) (S F : Nat → Int) (c v : Nat) : Nat → Int
  | 0 => 0
  | k + 1 => ga A n S F c v k + dl (mv (fo A n S F c k) c (wS n S (A 0 0 2 + k)) (wS n F (A 0 0 2 + k))) c v
theorem fo_wet {A : lA} {n c v : Nat} {S F : Nat → Int} : ∀ k, fo A n S F c k 8 0 v = A 8 0 v + ga A n S F c v k
  | 0 => (Int.add_zero _).symm
  | k + 1 => by
    show rn (mv (fo A n S F c k) c _ _) c 8 0 v = A 8 0 v + (ga A n S F c v k + dl _ c v)
    rw [rn_wet, mv_lo (by decide), fo_wet k]
    omega
theorem gs_nC {A : lA} {n k : Nat} {S F : Nat → Int} : nC (gs A n S F k) = nC A := by
  unfold nC
  rw [gs_lo (by omega)]
theorem gs_ag {A : lA} {n c : Nat} {S F : Nat → Int} (hc : c < nC A) : ∀ k, ag c (gs A n S F k) (fo A n S F c k)
  | 0 => ag.r0
  | k + 1 => by
    show ag c (hr (gs A n S F k) _ _) (rn (mv (fo A n S F c k) c _ _) c)
    have h := hr_ag (A := gs A n S F k) (s := wS n S (gs A n S F k 0 0 2)) (f := wS n F (gs A n S F k 0 0 2)) (c := c) (by rw [gs_nC]; exact hc)
    rw [gs_h k] at h ⊢
    exact h.tr ((gs_ag hc k).k_mv _ _).k_rn
theorem gs_wet {A : lA} {n v : Nat} {S F : Nat → Int} : ∀ k, gs A n S F k 8 0 v = A 8 0 v + sm (fun c => ga A n S F c v k) (nC A)
  | 0 => by
    have : ∀ m, sm (fun c => ga A n S F c v 0) m = 0 := fun m => by
      induction m with
      | zero => rfl
      | succ m ih =>
        show sm _ m + 0 = 0
        rw [ih]
        rfl
    rw [this, Int.add_zero]
    rfl
  | k + 1 => by
    show hr (gs A n S F k) _ _ 8 0 v = _
    rw [hr_wet, gs_nC, gs_wet k, gs_h k]
    have e : sm (fun c => dl (mv (gs A n S F k) c (wS n S (A 0 0 2 + k)) (wS n F (A 0 0 2 + k))) c v) (nC A) = sm (fun c => dl (mv (fo A n S F c k) c (wS n S (A 0 0 2 + k)) (wS n F (A 0 0 2 + k))) c v) (nC A) := sm_c _ (fun c hc => ((gs_ag hc k).k_mv _ _).k_dl)
    rw [e]
    have h : ∀ m, sm (fun c => ga A n S F c v (k + 1)) m = sm (fun c => ga A n S F c v k) m + sm (fun c => dl (mv (fo A n S F c k) c (wS n S (A 0 0 2 + k)) (wS n F (A 0 0 2 + k))) c v) m := fun m => by
      induction m with
      | zero => rfl
      | succ m ih =>
        show sm _ m + (ga A n S F m v k + _) = (sm _ m + ga A n S F m v k) + (sm _ m + _)
        rw [ih]
        dsimp only
        omega
    rw [h]
    omega
theorem ag.k_fo {c n : Nat} {S F : Nat → Int} {A B : lA} (h : ag c A B) (hh : A 0 0 2 = B 0 0 2) : ∀ k, ag c (fo A n S F c k) (fo B n S F c k)
  | 0 => h
  | k + 1 => by
    show ag c (rn (mv _ c _ _) c) (rn (mv _ c _ _) c)
    rw [hh]
    exact ((h.k_fo hh k).k_mv _ _).k_rn
theorem ag.k_ga {c n v : Nat} {S F : Nat → Int} {A B : lA} (h : ag c A B) (hh : A 0 0 2 = B 0 0 2) : ∀ k, ga A n S F c v k = ga B n S F c v k
  | 0 => rfl
  | k + 1 => by
    show ga A n S F c v k + _ = ga B n S F c v k + _
    rw [h.k_ga hh k, hh, ((h.k_fo hh k).k_mv _ _).k_dl]
theorem dl_r {A : lA} (hA : LI A) {c v : Nat} (hc : c < 6) : 0 ≤ dl A c v ∧ dl A c v ≤ 5 := by
  have h := rf_r hA hc
  unfold dl
  split <;> omega
theorem ga_r {A : lA} (hA : LI A) {n c v : Nat} {S F : Nat → Int} (hc : c < 6) : ∀ k, 0 ≤ ga A n S F c v k ∧ ga A n S F c v k ≤ 5 * k
  | 0 => ⟨Int.le_refl _, Int.le_refl _⟩
  | k + 1 => by
    have h := ga_r hA (n := n) (v := v) (S := S) (F := F) hc k
    have h2 := dl_r ((fo_LI (n := n) (S := S) (F := F) hA hc k).k_mv hc (wS n S (A 0 0 2 + k)) (wS n F (A 0 0 2 + k))) (v := v) hc
    show 0 ≤ ga A n S F c v k + _ ∧ ga A n S F c v k + _ ≤ _
    omega
/-- a cloud that is away gives nothing -/
theorem fo_aw {A : lA} {n c : Nat} {S F : Nat → Int} (h : A 2 0 c = 25) : ∀ k, fo A n S F c k = A
  | 0 => rfl
  | k + 1 => by
    show rn (mv (fo A n S F c k) c _ _) c = A
    rw [fo_aw h k, mv_25 h, rn_25 h]
theorem ga_aw {A : lA} {n c v : Nat} {S F : Nat → Int} (h : A 2 0 c = 25) : ∀ k, ga A n S F c v k = 0
  | 0 => rfl
  | k + 1 => by
    show ga A n S F c v k + dl (mv (fo A n S F c k) c _ _) c v = 0
    rw [ga_aw h k, fo_aw h k, mv_25 h]
    unfold dl
    rw [if_neg (fun z => z.1 h)]
    rfl
/-- a cloud followed is nothing to another -/
theorem fo_ot {A : lA} {n c c' : Nat} {S F : Nat → Int} (hc : c' ≠ c) : ∀ k, ag c (fo A n S F c' k) A
  | 0 => ag.r0
  | k + 1 => (rn_ot hc _).tr ((mv_ot hc _ _ _).tr (fo_ot hc k))
