/-! contracts: the reference's fewest, whole -/
/-- the land with a village's strings laid by a row, up to a cloud -/
def hw (A : lA) (v : Nat) (r : Nat → Nat) (k : Nat) : lA := fun t i x => if t = 4 ∧ i < k ∧ x = v then (r i : Int) else A t i x
theorem hw_0 {A : lA} {v : Nat} {r : Nat → Nat} : hw A v r 0 = A := by
  funext t i x
  exact if_neg (by omega)
theorem hw_s {A : lA} {v k : Nat} {r : Nat → Nat} : lu (hw A v r k) 4 k v (r k : Int) = hw A v r (k + 1) := by
  funext t i x
  unfold lu hw
  by_cases h1 : t = 4 ∧ i = k ∧ x = v
  · rw [if_pos h1, if_pos (by omega), h1.2.1]
  · rw [if_neg h1]
    by_cases h4 : t = 4 ∧ i < k ∧ x = v
    · rw [if_pos h4, if_pos (by omega)]
    · rw [if_neg h4, if_neg (by omega)]
theorem hw_lo {A : lA} {v k t i x : Nat} {r : Nat → Nat} (h : t ≠ 4) : hw A v r k t i x = A t i x := if_neg fun z => h z.1
theorem hw_LI {A : lA} (h : LI A) {v k : Nat} {r : Nat → Nat} (hv : v < nV A) (h9 : ∀ c, c < 6 → r c ≤ 9) : LI (hw A v r k) := by
  refine ⟨h.1, h.2.1, h.2.2.1, h.2.2.2.1, fun c hc => h.kd hc, fun c hc => h.fd hc, fun c hc => h.wa hc, fun c' v' hc' hv' => ?_, fun c' v' hc' hv' hn => ?_, fun v hv => h.hm hv, fun u v hu hv e => h.ap hu hv e⟩
  · have := h9 c' hc'
    unfold hw
    split
    · omega
    · exact h.st hc' hv'
  · have hn2 : nV A ≤ v' := hn
    unfold hw
    rw [if_neg (by omega)]
    exact h.s0 hc' hv' hn2
theorem hw_ag {A : lA} {v c : Nat} {r : Nat → Nat} (hc : c < 6) : ag c (hw A v r 6) (lu A 4 c v (r c : Int)) := fun t i j z => by
  unfold vw at z
  unfold hw lu
  by_cases h1 : t = 4 ∧ i = c ∧ j = v
  · rw [if_pos h1, if_pos (by omega), h1.2.1]
  · rw [if_neg h1, if_neg (by omega)]
theorem hw_wet {A : lA} (hA : LI A) {v n m k : Nat} {S F : Nat → Int} {r : Nat → Nat} (hr : vr A r k) : gs (hw A v r 6) n S F m 8 0 v = A 8 0 v + sm (fun c => gg A v n S F m c (r c)) 6 := by
  have h1 := hA.nc
  have e0 : nC (hw A v r 6) = nC A := rfl
  have e8 : hw A v r 6 8 0 v = A 8 0 v := hw_lo (by decide)
  rw [gs_wet, e0, e8]
  congr 1
  rw [sm_0 (s := fun c => gg A v n S F m c (r c)) 6 h1.2 (fun c hc1 hc2 => by
    have ho : ¬ op A c := fun h => by have := h.1; omega
    show gg A v n S F m c (r c) = 0
    unfold gg
    rw [if_neg ho, if_pos (hr.1 c hc2 ho)])]
  refine sm_c _ (fun c hc => ?_)
  have hc6 : c < 6 := by omega
  by_cases ho : op A c
  · unfold gg
    rw [if_pos ho, (hw_ag hc6).k_ga rfl m]
    rfl
  · have h25 : A 2 0 c = 25 := Classical.byContradiction fun h => ho ⟨hc, h⟩
    unfold gg
    rw [if_neg ho, if_pos (hr.1 c hc6 ho), ga_aw (show hw A v r 6 2 0 c = 25 from h25)]
