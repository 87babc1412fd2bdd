/-! the fewest strings: rows in their order, and the table -/
abbrev op (A : lA) (c : Nat) : Prop := c < nC A ∧ A 2 0 c ≠ 25
def vr (A : lA) (r : Nat → Nat) (k : Nat) : Prop := (∀ c, c < 6 → ¬ op A c → r c = 0) ∧ sm (fun c => (r c : Int)) 6 = (k : Int)
def Lx (q r : Nat → Nat) : Prop := ∃ p, p < 6 ∧ (∀ c, c < p → q c = r c) ∧ q p < r p
abbrev sn (r : Nat → Nat) : Nat → Int := sm (fun c => (r c : Int))
theorem sn_s (r : Nat → Nat) (n : Nat) : sn r (n + 1) = sn r n + (r n : Int) := rfl
theorem sn_mono {r : Nat → Nat} {a : Nat} : ∀ b, a ≤ b → sn r a ≤ sn r b
  | 0, h => by rw [show a = 0 by omega]; exact Int.le_refl _
  | b + 1, h => by
    by_cases e : a = b + 1
    · rw [e]; exact Int.le_refl _
    · have := sn_mono (r := r) b (show a ≤ b by omega)
      rw [sn_s]
      omega
theorem sn_c {q r : Nat → Nat} {n : Nat} (h : ∀ c, c < n → q c = r c) : sn q n = sn r n := sm_c n (fun j hj => by rw [h j hj])
theorem sn_0 {r : Nat → Nat} {a : Nat} (ha : a ≤ 6) (h : ∀ j, a ≤ j → j < 6 → r j = 0) : sn r 6 = sn r a := sm_0 6 ha (fun j h1 h2 => by rw [h j h1 h2]; rfl)
/-- the last cloud over the land, of the first n -/
def lo (A : lA) : Nat → Int
  | 0 => -1
  | n + 1 => if A 2 0 n ≠ 25 then (n : Int) else lo A n
theorem lo_r {A : lA} : ∀ n, -1 ≤ lo A n ∧ lo A n < n ∧ (∀ c : Nat, lo A n < c → c < n → A 2 0 c = 25) ∧ (∀ l : Nat, lo A n = l → A 2 0 l ≠ 25)
  | 0 => ⟨Int.le_refl _, by show (-1 : Int) < _; omega, fun c _ h => absurd h (Nat.not_lt_zero c), fun l h => by have h2 : (-1 : Int) = l := h; omega⟩
  | n + 1 => by
    have ih := lo_r (A := A) n
    have e : lo A (n + 1) = if A 2 0 n ≠ 25 then (n : Int) else lo A n := rfl
    by_cases g : A 2 0 n ≠ 25
    · rw [if_pos g] at e
      rw [e]
      refine ⟨by omega, by omega, fun c h1 h2 => by omega, fun l h => ?_⟩
      have : n = l := by omega
      exact this ▸ g
    · rw [if_neg g] at e
      rw [e]
      refine ⟨ih.1, by omega, fun c h1 h2 => ?_, ih.2.2.2⟩
      by_cases g2 : c = n
      · subst g2
        omega
      · exact ih.2.2.1 c h1 (by omega)
theorem vr_tail {A : lA} {r : Nat → Nat} {k l : Nat} (hn : nC A ≤ 6) (h : vr A r k) (hl : lo A (nC A) = l) : sn r (l + 1) = k := by
  have h1 := lo_r (A := A) (nC A)
  rw [← h.2]
  refine (sn_0 (by omega) (fun j hj1 hj2 => h.1 j hj2 (fun ho => ?_))).symm
  exact ho.2 (h1.2.2.1 j (by omega) ho.1)
theorem lx_pos {A : lA} {r q : Nat → Nat} {k l : Nat} (hn : nC A ≤ 6) (hr : vr A r k) (hq : vr A q k) (hl : lo A (nC A) = l) {p : Nat} (hp : p < 6) (e : ∀ c, c < p → r c = q c) (lt : r p < q p) : p < l ∧ op A p ∧ sn r (p + 1) < k := by
  have h1 := lo_r (A := A) (nC A)
  have ho : op A p := Classical.byContradiction fun ho => by
    have := hq.1 p hp ho
    omega
  have hpl : p ≤ l := Classical.byContradiction fun hx => ho.2 (h1.2.2.1 p (by omega) ho.1)
  have e1 : sn q p = sn r p := (sn_c e).symm
  have m1 : sn q (p + 1) ≤ sn q 6 := sn_mono 6 (by omega)
  have m2 : sn q 6 = k := hq.2
  have s1 := sn_s q p
  have s2 := sn_s r p
  refine ⟨?_, ho, by omega⟩
  have t := vr_tail hn hr hl
  by_cases g : p = l
  · subst g
    omega
  · omega
/-- the next row -/
def nr (r : Nat → Nat) (k c l : Nat) : Nat → Nat := fun j => if j < c then r j else if j = c then r c + 1 else if j = l then ((k : Int) - sn r (c + 1) - 1).toNat else 0
theorem nr_lo {r : Nat → Nat} {k c l j : Nat} (h : j < c) : nr r k c l j = r j := if_pos h
theorem nr_at {r : Nat → Nat} {k c l : Nat} : nr r k c l c = r c + 1 := by
  unfold nr
  rw [if_neg (Nat.lt_irrefl c), if_pos rfl]
theorem nr_l {r : Nat → Nat} {k c l : Nat} (h : c < l) : nr r k c l l = ((k : Int) - sn r (c + 1) - 1).toNat := by
  unfold nr
  rw [if_neg (by omega), if_neg (by omega), if_pos rfl]
theorem nr_0 {r : Nat → Nat} {k c l j : Nat} (h : c < j) (h2 : j ≠ l) : nr r k c l j = 0 := by
  unfold nr
  rw [if_neg (by omega), if_neg (by omega), if_neg h2]
theorem nr_sn {r : Nat → Nat} {k c l : Nat} (hcl : c < l) (hk : sn r (c + 1) < k) : sn (nr r k c l) (c + 1) = sn r (c + 1) + 1 ∧ (∀ j, c + 1 ≤ j → j ≤ l → sn (nr r k c l) j = sn r (c + 1) + 1) ∧ (∀ j, l + 1 ≤ j → sn (nr r k c l) j = k) := by
  have e0 : sn (nr r k c l) c = sn r c := sn_c fun j hj => nr_lo hj
  have e1 : sn (nr r k c l) (c + 1) = sn r (c + 1) + 1 := by
    rw [sn_s, sn_s, e0, nr_at]
    omega
  have e2 : ∀ j, c + 1 ≤ j → j ≤ l → sn (nr r k c l) j = sn r (c + 1) + 1 := fun j h1 h2 => by
    induction j with
    | zero => omega
    | succ j ih =>
      by_cases g : j = c
      · subst g; exact e1
      · rw [sn_s, ih (by omega) (by omega), nr_0 (by omega) (by omega)]
        omega
  refine ⟨e1, e2, fun j h1 => ?_⟩
  induction j with
  | zero => omega
  | succ j ih =>
    by_cases g : j = l
    · subst g
      rw [sn_s, e2 j (by omega) (Nat.le_refl _), nr_l hcl]
      omega
    · rw [sn_s, ih (by omega), nr_0 (by omega) g]
      omega
theorem nr_ok {A : lA} {r : Nat → Nat} {k c l : Nat} (hn : nC A ≤ 6) (hr : vr A r k) (hl : lo A (nC A) = l) (hcl : c < l) (hc : op A c) (hk : sn r (c + 1) < k) (hmax : ∀ j, c < j → j < l → op A j → ¬ sn r (j + 1) < k) : vr A (nr r k c l) k ∧ Lx r (nr r k c l) ∧ ∀ q, vr A q k → Lx r q → ¬ Lx q (nr r k c l) := by
  have h1 := lo_r (A := A) (nC A)
  have hs := nr_sn (r := r) hcl hk
  refine ⟨⟨fun j hj ho => ?_, hs.2.2 6 (by omega)⟩, ⟨c, by have := hc.1; omega, fun j hj => (nr_lo hj).symm, by rw [nr_at]; omega⟩, fun q hq hrq hqn => ?_⟩
  · by_cases g1 : j < c
    · rw [nr_lo g1]; exact hr.1 j hj ho
    · by_cases g2 : j = c
      · exact absurd (g2 ▸ hc) ho
      · by_cases g3 : j = l
        · exact absurd ⟨by omega, g3 ▸ h1.2.2.2 l hl⟩ ho
        · exact nr_0 (by omega) g3
  · obtain ⟨p, hp, e, lt⟩ := hrq
    obtain ⟨p2, hp2, e2, lt2⟩ := hqn
    have hx := lx_pos hn hr hq hl hp e lt
    have hpc : p ≤ c := Classical.byContradiction fun g => hmax p (by omega) hx.1 hx.2.1 hx.2.2
    by_cases g1 : p2 < p
    · rw [nr_lo (by omega), e p2 g1] at lt2
      omega
    · by_cases g2 : p < p2
      · have e3 := e2 p g2
        by_cases g3 : p < c
        · rw [nr_lo g3] at e3
          omega
        · have g4 : p = c := by omega
          subst g4
          rw [nr_at] at e3
          by_cases g5 : p2 = l
          · subst g5
            have e4 : sn q p2 = sn (nr r k p p2) p2 := sn_c e2
            have e5 := hs.2.2 (p2 + 1) (Nat.le_refl _)
            have e6 := vr_tail hn hq hl
            rw [sn_s] at e5 e6
            omega
          · rw [nr_0 g2 g5] at lt2
            omega
      · have g3 : p2 = p := by omega
        subst g3
        by_cases g4 : p2 < c
        · rw [nr_lo g4] at lt2
          omega
        · have g5 : p2 = c := by omega
          subst g5
          rw [nr_at] at lt2
          omega
theorem nr_no {A : lA} {r q : Nat → Nat} {k l : Nat} (hn : nC A ≤ 6) (hr : vr A r k) (hl : lo A (nC A) = l) (hmax : ∀ j, j < l → op A j → ¬ sn r (j + 1) < k) (hq : vr A q k) : ¬ Lx r q := fun ⟨p, hp, e, lt⟩ => by
  have hx := lx_pos hn hr hq hl hp e lt
  exact hmax p hx.1 hx.2.1 hx.2.2
theorem lx_tri (q r : Nat → Nat) : Lx q r ∨ (∀ c, c < 6 → q c = r c) ∨ Lx r q := by
  have : ∀ n, n ≤ 6 → (∀ c, c < n → q c = r c) ∨ Lx q r ∨ Lx r q := fun n => by
    induction n with
    | zero => exact fun _ => Or.inl fun c h => absurd h (Nat.not_lt_zero c)
    | succ n ih =>
      intro hn
      rcases ih (by omega) with h | h
      · by_cases g : q n = r n
        · refine Or.inl fun c hc => ?_
          by_cases e : c = n
          · subst e; exact g
          · exact h c (by omega)
        · by_cases g2 : q n < r n
          · exact Or.inr (Or.inl ⟨n, by omega, h, g2⟩)
          · exact Or.inr (Or.inr ⟨n, by omega, fun c hc => (h c hc).symm, by omega⟩)
      · exact Or.inr h
  rcases this 6 (Nat.le_refl _) with h | h | h
  · exact Or.inr (Or.inl h)
  · exact Or.inl h
  · exact Or.inr (Or.inr h)
/-- a row's place in the order, by its digits -/
def cdr (r : Nat → Nat) : Nat → Nat
  | 0 => 0
  | n + 1 => 10 * cdr r n + r n
theorem cdr_lt {q r : Nat → Nat} (h9 : ∀ c, c < 6 → q c ≤ 9) (h : Lx q r) : cdr q 6 < cdr r 6 := by
  obtain ⟨p, hp, e, lt⟩ := h
  have e0 : ∀ n, n ≤ p → cdr q n = cdr r n := fun n => by
    induction n with
    | zero => exact fun _ => rfl
    | succ n ih =>
      intro hn
      show 10 * cdr q n + q n = 10 * cdr r n + r n
      rw [ih (by omega), e n (by omega)]
  have : ∀ n, p < n → n ≤ 6 → cdr q n < cdr r n := fun n => by
    induction n with
    | zero => intro h; omega
    | succ n ih =>
      intro h1 h2
      show 10 * cdr q n + q n < 10 * cdr r n + r n
      by_cases g : n = p
      · subst g
        rw [e0 n (Nat.le_refl _)]
        omega
      · have := ih (by omega) (by omega)
        have := h9 n (by omega)
        omega
  exact this 6 hp (Nat.le_refl _)
theorem cdr_le {r : Nat → Nat} (h9 : ∀ c, c < 6 → r c ≤ 9) : cdr r 6 < 1000000 := by
  have h0 := h9 0 (by decide)
  have h1 := h9 1 (by decide)
  have h2 := h9 2 (by decide)
  have h3 := h9 3 (by decide)
  have h4 := h9 4 (by decide)
  have h5 := h9 5 (by decide)
  show 10 * (10 * (10 * (10 * (10 * (10 * 0 + r 0) + r 1) + r 2) + r 3) + r 4) + r 5 < 1000000
  omega
theorem vr_9 {A : lA} {r : Nat → Nat} {k : Nat} (h : vr A r k) (hk : k ≤ 9) : ∀ c, c < 6 → r c ≤ 9 := fun c hc => by
  have h1 : sn r 6 = k := h.2
  have h2 := sn_mono (r := r) (a := c + 1) 6 (by omega)
  have h3 := sn_s r c
  have h4 := sn_mono (r := r) (a := 0) c (by omega)
  have h5 : sn r 0 = 0 := rfl
  omega
/-! the table of most -/
def mxs (f : Nat → Int) : Nat → Int
  | 0 => -1000000
  | s + 1 => if mxs f s < f s then f s else mxs f s
theorem mxs_ge {f : Nat → Int} {s : Nat} : ∀ n, s < n → f s ≤ mxs f n
  | 0, h => absurd h (Nat.not_lt_zero s)
  | n + 1, h => by
    have e : mxs f (n + 1) = if mxs f n < f n then f n else mxs f n := rfl
    by_cases g : s = n
    · subst g
      rw [e]
      split <;> omega
    · have := mxs_ge (f := f) (s := s) n (by omega)
      rw [e]
      split <;> omega
theorem mxs_at {f : Nat → Int} {v : Int} (hv : -1000000 < v) : ∀ n, v ≤ mxs f n → ∃ s, s < n ∧ v ≤ f s
  | 0, h => absurd h (by show ¬ v ≤ -1000000; omega)
  | n + 1, h => by
    have e : mxs f (n + 1) = if mxs f n < f n then f n else mxs f n := rfl
    rw [e] at h
    by_cases g : mxs f n < f n
    · rw [if_pos g] at h
      exact ⟨n, by omega, h⟩
    · rw [if_neg g] at h
      obtain ⟨s, h1, h2⟩ := mxs_at hv n h
      exact ⟨s, by omega, h2⟩
theorem mxs_r {f : Nat → Int} {b : Int} (hb : -1000000 ≤ b) : ∀ n, (∀ s, s < n → f s ≤ b) → -1000000 ≤ mxs f n ∧ mxs f n ≤ b
  | 0, _ => ⟨Int.le_refl _, hb⟩
  | n + 1, h => by
    have ih := mxs_r hb n (fun s hs => h s (by omega))
    have := h n (by omega)
    have e : mxs f (n + 1) = if mxs f n < f n then f n else mxs f n := rfl
    rw [e]
    split <;> omega
theorem mxs_c {f g : Nat → Int} : ∀ n, (∀ s, s < n → f s = g s) → mxs f n = mxs g n
  | 0, _ => rfl
  | n + 1, h => by
    show (if mxs f n < f n then f n else mxs f n) = if mxs g n < g n then g n else mxs g n
    rw [mxs_c n (fun s hs => h s (by omega)), h n (by omega)]
/-- the most that the last j clouds give by k strings or fewer -/
def mB (g : Nat → Nat → Int) : Nat → Nat → Int
  | 0, _ => 0
  | j + 1, k => mxs (fun s => g (5 - j) s + mB g j (k - s)) (k + 1)
def mo (g : Nat → Nat → Int) (c k : Nat) : Int := mB g (6 - c) k
theorem mo_6 {g : Nat → Nat → Int} {k : Nat} : mo g 6 k = 0 := rfl
theorem mo_s {g : Nat → Nat → Int} {c k : Nat} (hc : c < 6) : mo g c k = mxs (fun s => g c s + mo g (c + 1) (k - s)) (k + 1) := by
  unfold mo
  obtain ⟨j, hj⟩ : ∃ j, 6 - c = j + 1 := ⟨5 - c, by omega⟩
  rw [hj, show 6 - (c + 1) = j by omega]
  show mxs (fun s => g (5 - j) s + mB g j (k - s)) (k + 1) = _
  rw [show 5 - j = c by omega]
/-- what a row gives from a cloud on -/
def gt (g : Nat → Nat → Int) (r : Nat → Nat) (c : Nat) : Int := sm (fun c => g c (r c)) 6 - sm (fun c => g c (r c)) c
theorem gt_s {g : Nat → Nat → Int} {r : Nat → Nat} {c : Nat} : gt g r c = g c (r c) + gt g r (c + 1) := by
  unfold gt
  have : sm (fun c => g c (r c)) (c + 1) = sm (fun c => g c (r c)) c + g c (r c) := rfl
  omega
theorem mo_ge {g : Nat → Nat → Int} {r : Nat → Nat} : ∀ j c k : Nat, c + j = 6 → sn r 6 - sn r c ≤ k → gt g r c ≤ mo g c k
  | 0, c, k, hc, _ => by
    have : c = 6 := by omega
    subst this
    rw [mo_6]
    unfold gt
    omega
  | j + 1, c, k, hc, h => by
    have m := sn_mono (r := r) (a := c + 1) 6 (by omega)
    have s1 := sn_s r c
    have ih := mo_ge (g := g) (r := r) j (c + 1) (k - r c) (by omega) (by omega)
    rw [mo_s (by omega), gt_s]
    have := mxs_ge (f := fun s => g c s + mo g (c + 1) (k - s)) (s := r c) (k + 1) (by omega)
    omega
theorem mo_r {g : Nat → Nat → Int} (hg : ∀ c s, c < 6 → g c s ≤ 60) : ∀ j c k : Nat, c + j = 6 → -1000000 ≤ mo g c k ∧ mo g c k ≤ 60 * j
  | 0, c, k, hc => by
    have : c = 6 := by omega
    subst this
    rw [mo_6]
    omega
  | j + 1, c, k, hc => by
    rw [mo_s (by omega)]
    refine mxs_r (by omega) (k + 1) (fun s hs => ?_)
    have := hg c s (by omega)
    have := (mo_r hg j (c + 1) (k - s) (by omega)).2
    omega
/-- the first row, cloud by cloud -/
def gr (g : Nat → Nat → Int) (k : Nat) (m : Int) (r : Nat → Nat) (c : Nat) : Prop := (r c : Int) ≤ k - sn r c ∧ (∀ s : Nat, s < r c → g c s + mo g (c + 1) ((k : Int) - sn r c - s).toNat < m - sm (fun c => g c (r c)) c) ∧ ((r c : Int) < k - sn r c → m - sm (fun c => g c (r c)) c ≤ g c (r c) + mo g (c + 1) ((k : Int) - sn r c - r c).toNat)
theorem few_ok {A : lA} {g : Nat → Nat → Int} {k : Nat} {m : Int} {r : Nat → Nat} (hm : -900000 < m) (hg : ∀ c s, c < 6 → g c s ≤ 60) (hop : ∀ c s, c < 6 → ¬ op A c → 0 < s → g c s = -1000000) (h0 : m ≤ mo g 0 k) (hmin : ∀ k', k' < k → mo g 0 k' < m) (h : ∀ c, c < 6 → gr g k m r c) : vr A r k ∧ m ≤ sm (fun c => g c (r c)) 6 ∧ ∀ q, vr A q k → m ≤ sm (fun c => g c (q c)) 6 → ¬ Lx q r := by
  have key : ∀ c, c ≤ 6 → 0 ≤ (k : Int) - sn r c ∧ m - sm (fun c => g c (r c)) c ≤ mo g c ((k : Int) - sn r c).toNat ∧ sm (fun c => g c (r c)) c ≤ 60 * c ∧ ∀ j, j < c → ¬ op A j → r j = 0 := fun c => by
    induction c with
    | zero =>
      intro _
      have e0 : sn r 0 = 0 := rfl
      have e1 : sm (fun c => g c (r c)) 0 = 0 := rfl
      rw [e0, e1, Int.sub_zero, Int.sub_zero, Int.toNat_natCast]
      exact ⟨by omega, h0, by omega, fun j h => absurd h (Nat.not_lt_zero j)⟩
    | succ c ih =>
      intro hc
      obtain ⟨i1, i2, i3, i4⟩ := ih (by omega)
      obtain ⟨g1, g2, g3⟩ := h c (by omega)
      have s1 := sn_s r c
      have s2 : sm (fun c => g c (r c)) (c + 1) = sm (fun c => g c (r c)) c + g c (r c) := rfl
      have hgc := hg c (r c) (by omega)
      have hx : m - sm (fun c => g c (r c)) c ≤ g c (r c) + mo g (c + 1) ((k : Int) - sn r c - r c).toNat := by
        by_cases e : (r c : Int) < k - sn r c
        · exact g3 e
        · rw [mo_s (by omega)] at i2
          obtain ⟨s, hs, hv⟩ := mxs_at (by omega) _ i2
          have e2 : r c = ((k : Int) - sn r c).toNat := by omega
          by_cases e3 : s < r c
          · have := g2 s e3
            have e4 : ((k : Int) - sn r c - s).toNat = ((k : Int) - sn r c).toNat - s := by omega
            rw [e4] at this
            omega
          · have e5 : s = r c := by omega
            subst e5
            have e4 : ((k : Int) - sn r c - (r c : Int)).toNat = ((k : Int) - sn r c).toNat - r c := by omega
            rw [e4]
            exact hv
      refine ⟨by omega, ?_, by omega, fun j hj ho => ?_⟩
      · rw [s2, show (k : Int) - sn r (c + 1) = (k : Int) - sn r c - r c by omega]
        omega
      · by_cases e : j = c
        · subst e
          refine Classical.byContradiction fun hr => ?_
          have := hop j (r j) (by omega) ho (by omega)
          have := (mo_r hg (6 - (j + 1)) (j + 1) ((k : Int) - sn r j - r j).toNat (by omega)).2
          omega
        · exact i4 j (by omega) ho
  obtain ⟨k1, k2, k3, k4⟩ := key 6 (Nat.le_refl _)
  rw [mo_6] at k2
  have hsum : sn r 6 = k := Classical.byContradiction fun hne => by
    have hnn : 0 ≤ sn r 6 := sn_mono (r := r) (a := 0) 6 (by omega)
    have hmg := mo_ge (g := g) (r := r) 6 0 (sn r 6).toNat (by omega) (by have : sn r 0 = 0 := rfl; omega)
    have hge : gt g r 0 = sm (fun c => g c (r c)) 6 := by
      unfold gt
      have : sm (fun c => g c (r c)) 0 = 0 := rfl
      omega
    have := hmin (sn r 6).toNat (by omega)
    omega
  refine ⟨⟨k4, hsum⟩, by omega, fun q hq he ⟨p, hp, e, lt⟩ => ?_⟩
  obtain ⟨g1, g2, g3⟩ := h p hp
  have e1 : sn q p = sn r p := sn_c e
  have e2 : sm (fun c => g c (q c)) p = sm (fun c => g c (r c)) p := sm_c p (fun j hj => by rw [e j hj])
  have hb := g2 (q p) lt
  have hq6 : sn q 6 = k := hq.2
  have hmg := mo_ge (g := g) (r := q) (6 - (p + 1)) (p + 1) ((k : Int) - sn r p - (q p : Int)).toNat (by omega) (by
    have := sn_s q p
    have := sn_mono (r := q) (a := p + 1) 6 (by omega)
    omega)
  have hgs := gt_s (g := g) (r := q) (c := p)
  have hge : gt g q p = sm (fun c => g c (q c)) 6 - sm (fun c => g c (q c)) p := rfl
  omega
