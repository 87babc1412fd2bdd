/-! the land's law, by Ints -/
def wt (k : Int) : Int := if k = 2 then 2 else 1
def rk (k : Int) : Int := if k = 0 then 2 else if k = 2 then 5 else 1
def tw (f h : Int) : Int := if f / 5 = h / 5 then (if h < f then f - 1 else if f < h then f + 1 else f) else if h / 5 < f / 5 then f - 5 else f + 5
def bs (f s : Int) : Int := if s = 0 then (if f < 5 then 25 else f - 5) else if s = 1 then (if f % 5 = 0 then 25 else f - 1) else if s = 2 then (if f % 5 = 4 then 25 else f + 1) else (if 20 ≤ f then 25 else f + 5)
def pm (s : Nat → Int) : Nat → Int
  | 0 => 0
  | n + 1 => if pm s n < s n then s n else pm s n
def pp (s : Nat → Int) : Nat → Nat
  | 0 => 0
  | n + 1 => if pm s n < s n then n else pp s n
/-- the village in a field, of the first n -/
def vl (h : Nat → Int) (f : Int) : Nat → Int
  | 0 => -1
  | n + 1 => if h n = f then (n : Int) else vl h f n
def nC (A : lA) : Nat := (A 0 0 0).toNat
def nV (A : lA) : Nat := (A 0 0 1).toNat
/-- what hours rest on -/
def LI (A : lA) : Prop := 0 ≤ A 0 0 0 ∧ A 0 0 0 ≤ 6 ∧ 0 ≤ A 0 0 1 ∧ A 0 0 1 ≤ 4 ∧ (∀ c, c < 6 → 0 ≤ A 1 0 c ∧ A 1 0 c ≤ 3) ∧ (∀ c, c < 6 → 0 ≤ A 2 0 c ∧ A 2 0 c ≤ 25) ∧ (∀ c, c < 6 → 0 ≤ A 3 0 c ∧ A 3 0 c ≤ 999) ∧ (∀ c v, c < 6 → v < 4 → 0 ≤ A 4 c v ∧ A 4 c v ≤ 9) ∧ (∀ c v, c < 6 → v < 4 → nV A ≤ v → A 4 c v = 0) ∧ (∀ v, v < 4 → 0 ≤ A 5 0 v ∧ A 5 0 v ≤ 24) ∧ (∀ u v, u < nV A → v < nV A → A 5 0 u = A 5 0 v → u = v)
theorem LI.nc {A : lA} (h : LI A) : A 0 0 0 = (nC A : Int) ∧ nC A ≤ 6 := by
  have h1 := h.1
  have h2 := h.2.1
  unfold nC
  omega
theorem LI.nv {A : lA} (h : LI A) : A 0 0 1 = (nV A : Int) ∧ nV A ≤ 4 := by
  have h1 := h.2.2.1
  have h2 := h.2.2.2.1
  unfold nV
  omega
theorem LI.kd {A : lA} (h : LI A) {c : Nat} (hc : c < 6) : 0 ≤ A 1 0 c ∧ A 1 0 c ≤ 3 := h.2.2.2.2.1 c hc
theorem LI.fd {A : lA} (h : LI A) {c : Nat} (hc : c < 6) : 0 ≤ A 2 0 c ∧ A 2 0 c ≤ 25 := h.2.2.2.2.2.1 c hc
theorem LI.wa {A : lA} (h : LI A) {c : Nat} (hc : c < 6) : 0 ≤ A 3 0 c ∧ A 3 0 c ≤ 999 := h.2.2.2.2.2.2.1 c hc
theorem LI.st {A : lA} (h : LI A) {c v : Nat} (hc : c < 6) (hv : v < 4) : 0 ≤ A 4 c v ∧ A 4 c v ≤ 9 := h.2.2.2.2.2.2.2.1 c v hc hv
theorem LI.s0 {A : lA} (h : LI A) {c v : Nat} (hc : c < 6) (hv : v < 4) (hn : nV A ≤ v) : A 4 c v = 0 := h.2.2.2.2.2.2.2.2.1 c v hc hv hn
theorem LI.hm {A : lA} (h : LI A) {v : Nat} (hv : v < 4) : 0 ≤ A 5 0 v ∧ A 5 0 v ≤ 24 := h.2.2.2.2.2.2.2.2.2.1 v hv
theorem LI.ap {A : lA} (h : LI A) {u v : Nat} (hu : u < nV A) (hv : v < nV A) (e : A 5 0 u = A 5 0 v) : u = v := h.2.2.2.2.2.2.2.2.2.2 u v hu hv e
/-- a cloud loses what holds it, and its holders lose the string -/
def ls (A : lA) (c : Nat) : lA := fun t i j => if t = 6 ∧ i = 0 ∧ j < nV A then A 6 0 j - A 4 c j else if t = 4 ∧ i = c ∧ j < nV A then 0 else A t i j
/-- a cloud moves -/
def mv (A : lA) (c : Nat) (s f : Int) : lA :=
  if A 2 0 c = 25 then A
  else if 0 < pm (A 4 c) (nV A) ∧ sm (A 4 c) 4 - pm (A 4 c) (nV A) + f * wt (A 1 0 c) ≤ pm (A 4 c) (nV A) then lu A 2 0 c (tw (A 2 0 c) (A 5 0 (pp (A 4 c) (nV A))))
  else if sm (A 4 c) 4 < f * wt (A 1 0 c) then (if bs (A 2 0 c) s = 25 then ls (lu A 2 0 c 25) c else lu A 2 0 c (bs (A 2 0 c) s))
  else A
/-- what falls of a cloud -/
def rf (A : lA) (c : Nat) : Int := if A 2 0 c = 25 then 0 else if A 3 0 c < rk (A 1 0 c) then A 3 0 c else rk (A 1 0 c)
def rv (A : lA) (c : Nat) : Int := vl (A 5 0) (A 2 0 c) (nV A)
/-- a cloud rains -/
def rn (A : lA) (c : Nat) : lA :=
  if A 2 0 c = 25 then A
  else if 0 ≤ rv A c ∧ A 1 0 c ≠ 3 then lu (lu (lu A 3 0 c (A 3 0 c - rf A c)) 9 0 (A 2 0 c).toNat (A 9 0 (A 2 0 c).toNat + rf A c)) 8 0 (rv A c).toNat (A 8 0 (rv A c).toNat + rf A c)
  else lu (lu A 3 0 c (A 3 0 c - rf A c)) 9 0 (A 2 0 c).toNat (A 9 0 (A 2 0 c).toNat + rf A c)
def mvs (A : lA) (s f : Int) : Nat → lA
  | 0 => A
  | n + 1 => mv (mvs A s f n) n s f
def rns (A : lA) : Nat → lA
  | 0 => A
  | n + 1 => rn (rns A n) n
def rsu (A : lA) : Nat → Int
  | 0 => 0
  | n + 1 => rsu A n + rf (rns A n) n
/-- an hour -/
def hr (A : lA) (s f : Int) : lA := lu (rns (mvs A s f (nC A)) (nC A)) 0 0 2 (A 0 0 2 + 1)
def hfl (A : lA) (s f : Int) : Int := rsu (mvs A s f (nC A)) (nC A)
theorem lu_s {A : lA} {t c j : Nat} {v : Int} : lu A t c j v t c j = v := if_pos ⟨rfl, rfl, rfl⟩
theorem lu_t {A : lA} {t c j t' c' j' : Nat} {v : Int} (h : t' ≠ t) : lu A t c j v t' c' j' = A t' c' j' := if_neg fun z => h z.1
theorem lu_c {A : lA} {t c j t' c' j' : Nat} {v : Int} (h : c' ≠ c) : lu A t c j v t' c' j' = A t' c' j' := if_neg fun z => h z.2.1
theorem lu_j {A : lA} {t c j t' c' j' : Nat} {v : Int} (h : j' ≠ j) : lu A t c j v t' c' j' = A t' c' j' := if_neg fun z => h z.2.2
theorem pm_nn {s : Nat → Int} : ∀ n : Nat, 0 ≤ pm s n
  | 0 => Int.le_refl 0
  | n + 1 => by
    have h := pm_nn (s := s) n
    show 0 ≤ if pm s n < s n then s n else pm s n
    split <;> omega
theorem pm_le {s : Nat → Int} {b : Int} (hb : 0 ≤ b) : ∀ n : Nat, (∀ j, j < n → s j ≤ b) → pm s n ≤ b
  | 0, _ => hb
  | n + 1, h => by
    have h1 := pm_le hb n (fun j hj => h j (by omega))
    have h2 := h n (by omega)
    show (if pm s n < s n then s n else pm s n) ≤ b
    split <;> omega
theorem pp_lt {s : Nat → Int} : ∀ n : Nat, pp s n < n ∨ pp s n = 0
  | 0 => Or.inr rfl
  | n + 1 => by
    have h := pp_lt (s := s) n
    show (if pm s n < s n then n else pp s n) < n + 1 ∨ (if pm s n < s n then n else pp s n) = 0
    split <;> omega
theorem pp_pm {s : Nat → Int} : ∀ n : Nat, 0 < pm s n → s (pp s n) = pm s n ∧ pp s n < n
  | 0, h => absurd h (Int.lt_irrefl 0)
  | n + 1, h => by
    have ih := pp_pm (s := s) n
    have e1 : pm s (n + 1) = if pm s n < s n then s n else pm s n := rfl
    have e2 : pp s (n + 1) = if pm s n < s n then n else pp s n := rfl
    rw [e1] at h ⊢
    rw [e2]
    by_cases g : pm s n < s n
    · rw [if_pos g, if_pos g]; exact ⟨rfl, by omega⟩
    · rw [if_neg g] at h
      rw [if_neg g, if_neg g]
      have := ih h
      exact ⟨this.1, by omega⟩
theorem pm_0 {s : Nat → Int} : ∀ n : Nat, pm s n = 0 → ∀ j, j < n → s j ≤ 0
  | 0, _, j, hj => absurd hj (by omega)
  | n + 1, h, j, hj => by
    have e1 : pm s (n + 1) = if pm s n < s n then s n else pm s n := rfl
    have h0 := pm_nn (s := s) n
    rw [e1] at h
    have h1 : pm s n = 0 ∧ s n ≤ 0 := by
      split at h <;> omega
    by_cases g : j = n
    · subst g; exact h1.2
    · exact pm_0 n h1.1 j (by omega)
theorem pp_0 {s : Nat → Int} : ∀ n : Nat, pm s n = 0 → pp s n = 0
  | 0, _ => rfl
  | n + 1, h => by
    have h0 := pm_nn (s := s) n
    have e1 : pm s (n + 1) = if pm s n < s n then s n else pm s n := rfl
    have e2 : pp s (n + 1) = if pm s n < s n then n else pp s n := rfl
    rw [e1] at h
    by_cases g : pm s n < s n
    · rw [if_pos g] at h; omega
    · rw [if_neg g] at h
      rw [e2, if_neg g]
      exact pp_0 n h
/-- the place of the most has the most -/
theorem pp_at {s : Nat → Int} {n : Nat} (h0 : ∀ j, j < 4 → 0 ≤ s j) (h1 : n = 0 → s 0 = 0) : s (pp s n) = pm s n := by
  have g := pm_nn (s := s) n
  by_cases h : 0 < pm s n
  · exact (pp_pm n h).1
  · have e : pm s n = 0 := by omega
    rw [pp_0 n e, e]
    by_cases h2 : n = 0
    · exact h1 h2
    · have := pm_0 n e 0 (by omega)
      have := h0 0 (by omega)
      omega
theorem sm_0 {s : Nat → Int} {n : Nat} : ∀ m : Nat, n ≤ m → (∀ j, n ≤ j → j < m → s j = 0) → sm s m = sm s n
  | 0, h, _ => by
    have : n = 0 := by omega
    rw [this]
  | m + 1, h, g => by
    by_cases e : n = m + 1
    · rw [e]
    · show sm s m + s m = sm s n
      rw [g m (by omega) (by omega), sm_0 m (by omega) (fun j h1 h2 => g j h1 (by omega))]
      omega
theorem sm_nn {s : Nat → Int} : ∀ n : Nat, (∀ j, j < n → 0 ≤ s j) → 0 ≤ sm s n
  | 0, _ => Int.le_refl 0
  | n + 1, h => by
    have h1 := sm_nn n (fun j hj => h j (by omega))
    have h2 := h n (by omega)
    show 0 ≤ sm s n + s n
    omega
theorem sm_le {s : Nat → Int} {b : Int} : ∀ n : Nat, (∀ j, j < n → s j ≤ b) → sm s n ≤ b * n
  | 0, _ => by show (0 : Int) ≤ b * ((0 : Nat) : Int); simp
  | n + 1, h => by
    have h1 := sm_le n (fun j hj => h j (by omega))
    have h2 := h n (by omega)
    show sm s n + s n ≤ b * ((n + 1 : Nat) : Int)
    rw [Int.natCast_add, Int.mul_add]
    omega
theorem vl_lt {h : Nat → Int} {f : Int} : ∀ n : Nat, -1 ≤ vl h f n ∧ vl h f n < n
  | 0 => ⟨Int.le_refl _, by show (-1 : Int) < _; omega⟩
  | n + 1 => by
    have ih := vl_lt (h := h) (f := f) n
    show -1 ≤ (if h n = f then (n : Int) else vl h f n) ∧ (if h n = f then (n : Int) else vl h f n) < _
    split <;> omega
theorem vl_un {h : Nat → Int} {f : Int} {v : Nat} (hv : h v = f) : ∀ n : Nat, v < n → (∀ u, u < n → h u = f → u = v) → vl h f n = v
  | 0, h1, _ => absurd h1 (by omega)
  | n + 1, h1, h2 => by
    show (if h n = f then (n : Int) else vl h f n) = v
    by_cases g : h n = f
    · rw [if_pos g, h2 n (by omega) g]
    · rw [if_neg g]
      have : v ≠ n := fun z => g (z ▸ hv)
      exact vl_un hv n (by omega) (fun u hu => h2 u (by omega))
theorem vl_no {h : Nat → Int} {f : Int} : ∀ n : Nat, (∀ u, u < n → h u ≠ f) → vl h f n = -1
  | 0, _ => rfl
  | n + 1, h2 => by
    show (if h n = f then (n : Int) else vl h f n) = -1
    rw [if_neg (h2 n (by omega))]
    exact vl_no n (fun u hu => h2 u (by omega))
theorem wt_r (k : Int) : 1 ≤ wt k ∧ wt k ≤ 2 := by unfold wt; split <;> omega
theorem rk_r (k : Int) : 1 ≤ rk k ∧ rk k ≤ 5 := by unfold rk; split <;> (try split) <;> omega
theorem tw_r {f h : Int} (h1 : 0 ≤ f) (h2 : f ≤ 24) (h3 : 0 ≤ h) (h4 : h ≤ 24) : 0 ≤ tw f h ∧ tw f h ≤ 24 := by
  unfold tw
  repeat' split
  all_goals omega
theorem bs_r {f s : Int} (h1 : 0 ≤ f) (h2 : f ≤ 24) : 0 ≤ bs f s ∧ bs f s ≤ 25 := by
  unfold bs
  repeat' split
  all_goals omega
theorem wt_mem {k : Int} (h1 : 0 ≤ k) (h2 : k ≤ 3) : mj_Wt k.toNat = iI (wt k) := by
  have : k = 0 ∨ k = 1 ∨ k = 2 ∨ k = 3 := by omega
  rcases this with h | h | h | h <;> subst h <;> decide
theorem rk_mem {k : Int} (h1 : 0 ≤ k) (h2 : k ≤ 3) : mj_Rn k.toNat = iI (rk k) := by
  have : k = 0 ∨ k = 1 ∨ k = 2 ∨ k = 3 := by omega
  rcases this with h | h | h | h <;> subst h <;> decide
theorem nl_0 : nI 0 = iI 0 := rfl
theorem nl_1 : nI 1 = iI 1 := rfl
theorem nl_2 : nI 2 = iI 2 := rfl
theorem nl_3 : nI 3 = iI 3 := rfl
theorem nl_4 : nI 4 = iI 4 := rfl
theorem nl_5 : nI 5 = iI 5 := rfl
theorem nl_6 : nI 6 = iI 6 := rfl
theorem nl_7 : nI 7 = iI 7 := rfl
theorem nl_8 : nI 8 = iI 8 := rfl
theorem nl_9 : nI 9 = iI 9 := rfl
theorem nl_10 : nI 10 = iI 10 := rfl
theorem nl_11 : nI 11 = iI 11 := rfl
theorem nl_12 : nI 12 = iI 12 := rfl
theorem nl_13 : nI 13 = iI 13 := rfl
theorem nl_14 : nI 14 = iI 14 := rfl
theorem nl_15 : nI 15 = iI 15 := rfl
theorem nl_16 : nI 16 = iI 16 := rfl
theorem nl_17 : nI 17 = iI 17 := rfl
theorem nl_18 : nI 18 = iI 18 := rfl
theorem nl_19 : nI 19 = iI 19 := rfl
theorem nl_20 : nI 20 = iI 20 := rfl
theorem nl_21 : nI 21 = iI 21 := rfl
theorem nl_22 : nI 22 = iI 22 := rfl
theorem nl_23 : nI 23 = iI 23 := rfl
theorem nl_24 : nI 24 = iI 24 := rfl
theorem nl_25 : nI 25 = iI 25 := rfl
theorem nl_26 : nI 26 = iI 26 := rfl
theorem nl_27 : nI 27 = iI 27 := rfl
theorem nl_28 : nI 28 = iI 28 := rfl
theorem nl_31 : nI 31 = iI 31 := rfl
theorem nl_32 : nI 32 = iI 32 := rfl
theorem nl_42 : nI 42 = iI 42 := rfl
theorem nl_44 : nI 44 = iI 44 := rfl
theorem nl_46 : nI 46 = iI 46 := rfl
theorem nl_48 : nI 48 = iI 48 := rfl
theorem nl_49 : nI 49 = iI 49 := rfl
theorem nl_50 : nI 50 = iI 50 := rfl
theorem nl_51 : nI 51 = iI 51 := rfl
theorem nl_60 : nI 60 = iI 60 := rfl
theorem nl_75 : nI 75 = iI 75 := rfl
theorem nl_76 : nI 76 = iI 76 := rfl
theorem nl_99 : nI 99 = iI 99 := rfl
theorem nl_100 : nI 100 = iI 100 := rfl
theorem nl_108 : nI 108 = iI 108 := rfl
theorem nl_114 : nI 114 = iI 114 := rfl
theorem nl_117 : nI 117 = iI 117 := rfl
theorem nl_126 : nI 126 = iI 126 := rfl
theorem nl_255 : nI 255 = iI 255 := rfl
theorem nl_999 : nI 999 = iI 999 := rfl
theorem nl_2401 : nI 2401 = iI 2401 := rfl
theorem nl_9999 : nI 9999 = iI 9999 := rfl
theorem nl_12345 : nI 12345 = iI 12345 := rfl
theorem nl_65536 : nI 65536 = iI 65536 := rfl
theorem nl_1000000 : nI 1000000 = iI 1000000 := rfl
theorem nl_1103515245 : nI 1103515245 = iI 1103515245 := rfl
theorem nl_2147483647 : nI 2147483647 = iI 2147483647 := rfl
theorem iI_vp {z : Int} {N : Nat} (h1 : 0 ≤ z) (h2 : z < N) (h3 : N < 2147483648) : vp_in (iI z) N = True := eq_true (iI_in h1 h2 h3)
theorem iI_inj {a b : Int} (h1 : -2147483648 ≤ a) (h2 : a < 2147483648) (h3 : -2147483648 ≤ b) (h4 : b < 2147483648) : (mj_i (iI a) = mj_i (iI b)) = (a = b) := by
  rw [← iI_eq h1 h2 h3 h4]
  exact propext ⟨fun h => by injection h, fun h => by rw [h]⟩
theorem sW {M : mj_M} {i : Nat} {A : lA} {k : Int} (hM : mj_sM M) (hi : i < 40) (h1 : 0 ≤ k) (h2 : k ≤ 3) : mj_ld M i A 40 80 0 k.toNat = iI (wt k) := by
  rw [ld_ne (by omega), hM.1 _ (by omega), wt_mem h1 h2]
theorem sR {M : mj_M} {i : Nat} {A : lA} {k : Int} (hM : mj_sM M) (hi : i < 40) (h1 : 0 ≤ k) (h2 : k ≤ 3) : mj_ld M i A 40 81 0 k.toNat = iI (rk k) := by
  rw [ld_ne (by omega), hM.2 _ (by omega), rk_mem h1 h2]
