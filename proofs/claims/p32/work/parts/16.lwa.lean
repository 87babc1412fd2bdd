/-! THE CLAIM OUT OF ONE WALK OF THE LAW'S BODY. Your part is whole_start (and what it stands on); all else here is the same for every law, but numbers. -/
def R_law : String := "CloudStringsLaw"
def lw_P (b : Addr) (xs : List Int32) (args : Array Value) (s : State) : Prop := args = #[.ref b] ∧ s.IntsAt b xs ∧ xs.length ≤ 260 ∧ (Jvm.Cond.and given_1 narrow_1).before args s = true
def lw_Q (_ : Array Value) (s : State) (o : Outcome) (t : State) : Prop := o = .returned (some (.int 1)) ∧ Framed s o t [] 600000 7302250
def lw_Z (below : List Frame) (a : Array Value) (s : State) : State → Prop := fun t => ∃ o, t.status = .running ∧ Ended t below o ∧ lw_Q a s o t
/-- the law's own end, with 1 on the stack, nothing written that was there before, its room as the claim has it -/
theorem lw_ret {p : Program} {l : Launch} {e : Env} {s : State} {m : MethodId} {below : List Frame} {meth : Method} {c : Code} {b : Nat} (hx : p.tables.exec = Jvm.exec) (hb : c.code = code) (hr : meth.sig.returnType = ret) (hlocks : meth.locks = false) {pc : Nat} {H : Heap} {ls : Array Slot} (hdg : decode code pc = .ok (.ireturn, 1)) : W p l e room_1 s m #[Value.ref b] below meth c H [] 600000 7302250 (lw_Z below #[Value.ref b] s) (F0 m pc ls [.int 1]) := by
  intro T hT X
  obtain ⟨fs, hret, hrun, hended, hW, hframe⟩ := X.leave (v := some (.int 1)) (hlocks := hlocks) (fun h => by rw [hr] at h; cases h)
  have hmeth' : T.vm.method? m = some meth := X.method'
  refine ⟨T.setFrames fs, ?_, .returned (some (.int 1)), hrun, hended, rfl, ⟨_, rfl⟩, hW, hframe⟩
  jvm_step X.here [X.here.top, hx, hb, hdg, hmeth', hr, ret, narrow_b1]
  (try refine ⟨rfl, ?_⟩); (try refine ⟨rfl, ?_⟩)
  first | (intro acts; rw [hret _ acts rfl rfl rfl]) | rw [hret _ _ rfl rfl rfl]
  exact Steps.refl _
/-- what holds at the law's entry: the machine, the code, the tables' words (any of lw_tbl by 'hts w (by decide +kernel)'), the script of L ints xs at the cell b, what the Statement gives of the start (any of its parts by flat_of_before) -/
def lw_At (p : Program) (s : State) (m : MethodId) (meth : Method) (c : Code) (b L : Nat) (xs : Nat → Int32) : Prop :=
  p.tables.exec = Jvm.exec ∧ c.code = code ∧ meth.sig.returnType = ret ∧ c.maxLocals = 17 ∧ s.vm.findClass R_law = some m.cls ∧ (∀ w ∈ lw_tbl, w.before #[Value.ref b] s = true) ∧ va_X b L xs s s.heap ∧ b < s.heap.size ∧ meth.locks = false ∧ (Jvm.Cond.and given_1 narrow_1).before #[Value.ref b] s = true

/-! the law's start -/
theorem lw_nN {w : Cond} (hw : w.onTables = true) {s : State} {A : Array Value} (h : w.before A s = true) : w.before #[] s = true := va_tabs hw rfl h
set_option maxHeartbeats 4000000 in
theorem lw_K {s : State} {b : Nat} (hts : ∀ w ∈ lw_tbl, w.before #[Value.ref b] s = true) : ∃ (D : va_G) (X : mj_X), mk_K D X s := by
  obtain ⟨cI, kI, compI, i1, i2, i3⟩ := Cond.arrayClass_spec (hts (.arrayClass .int) (by decide +kernel))
  obtain ⟨compA, cA, kA, a1, -, a3, a4, a5⟩ := arrayOverA_spec (t := .int) (hts (.arrayOver (.array .int)) (by decide +kernel))
  obtain ⟨compS, cS, kS, s1, -, s3, s4, s5⟩ := Cond.arrayOver_spec (n := "CloudStrings$Sheet") (hts (.arrayOver (.object "CloudStrings$Sheet")) (by decide +kernel))
  have hWA : ∀ w ∈ mj_WA, w.before #[Value.ref b] s = true := fun w hw => hts w (List.mem_filter.mp hw).1
  have hk : ∀ c : Nat, ∃ (cC : ClassId) (iS : Nat → Nat), ∀ q, mj_cl[c]? = some q → u_Kn s q.1 q.2.1 q.2.2 cC iS := fun c => by
    cases hc : mj_cl[c]? with
    | none => exact ⟨cI, fun _ => 0, fun q hq => by cases hq⟩
    | some q =>
      have h9 : c < 8 := (List.getElem?_eq_some_iff.mp hc).1
      obtain ⟨Cn, Tn, N, hcc, hT, hN, hcn⟩ := mj_cl_at h9
      cases hc.symm.trans hcc
      have hi := mk_IN_ok _ (List.mem_map.mpr ⟨c, List.mem_range.mpr h9, rfl⟩)
      rw [hcn, hN] at hi
      obtain ⟨cC, iS, h⟩ := u_known hWA (mj_cl_u _ (List.mem_of_getElem? hc)) (hWA _ hi)
      exact ⟨cC, iS, fun q hq => by cases hq; exact h⟩
  refine ⟨(fun c => Classical.choose (hk c), fun c => Classical.choose (Classical.choose_spec (hk c))), (cI, cA, cS), ⟨fun c q hq => Classical.choose_spec (Classical.choose_spec (hk c)) q hq, fun k q hq => ?_⟩, ?_, ?_, fun e he => va_Nw.of rfl (hts _ (mk_NL_ok _ (List.mem_map.mpr ⟨e, he, rfl⟩)))⟩
  · rcases k with _ | _ | _ | k
    · cases hq
      exact ⟨fun n z => ⟨fun k h => (by cases h), kI, i2, compI, i3⟩, i1⟩
    · cases hq
      exact ⟨fun n z => ⟨fun k h => (by cases h), kA, a3, compA, a4⟩, a5⟩
    · cases hq
      exact ⟨fun n z => ⟨fun k h => (by cases h), kS, s3, compS, s4⟩, kS, compS, s3, s4, s1, s5⟩
    · cases hq
  · exact va_AO.of (hts (.arrayOver (.object "CloudStrings$Sheet")) (by decide +kernel))
  · exact hts (.arrayOver (.array .int)) (by decide +kernel)
/-- the static rows -/
theorem lw_st {s : State} {b : Nat} {nm : String} {f : Nat → Int32} {A : Nat → Prop} (hl : (Cond.laysStatic "CloudStrings" nm "[I").before #[Value.ref b] s = true) (hi : (Cond.initialized "CloudStrings").before #[Value.ref b] s = true) (ha : (Cond.arrayOf (.static "CloudStrings" nm "[I") .int).before #[Value.ref b] s = true)
    (hn : (Cond.eq (.length (.static "CloudStrings" nm "[I")) (.int 4)).before #[Value.ref b] s = true) (h0 : (Cond.eq (.elem (.static "CloudStrings" nm "[I") (.int 0)) (.int (f 0))).before #[Value.ref b] s = true) (h1 : (Cond.eq (.elem (.static "CloudStrings" nm "[I") (.int 1)) (.int (f 1))).before #[Value.ref b] s = true)
    (h2 : (Cond.eq (.elem (.static "CloudStrings" nm "[I") (.int 2)) (.int (f 2))).before #[Value.ref b] s = true) (h3 : (Cond.eq (.elem (.static "CloudStrings" nm "[I") (.int 3)) (.int (f 3))).before #[Value.ref b] s = true) (hA : ∀ a : Nat, a < s.heap.size → ¬ A a) :
    ∃ t : Nat, va_Z "CloudStrings" nm "[I" (.ref t) A s s.heap ∧ va_T .int t 4 (fun j => .int (f j)) A s s.heap := by
  obtain ⟨t, ht, hT⟩ := va_Tof (N := 4) (f := fun j => .int (f j)) (by decide) ha (va_eqt hn) (fun j hj => by
    rcases (by omega : j = 0 ∨ j = 1 ∨ j = 2 ∨ j = 3) with rfl | rfl | rfl | rfl
    · exact va_eqt h0
    · exact va_eqt h1
    · exact va_eqt h2
    · exact va_eqt h3) hA
  exact ⟨t, va_Zof hl hi ht hA, hT⟩
/-! the law's constructors made: the memory -/
def lw_rho (ad : Nat → Nat) (tW tR b : Nat) (q : mj_Id) : Nat := if q = (40, 80, 0) then tW else if q = (40, 81, 0) then tR else if q = (41, 82, 0) then b else ad (mk_pos q)
def lw_M (L : Nat) (xs : Nat → Int32) : mj_M := fun i t c j => if i = 40 then (if t = 80 then mj_Wt j else mj_Rn j) else if i = 41 then (if t = 83 then nI L else xs j) else mk_M0 i t c j
theorem lw_cM {L : Nat} {xs : Nat → Int32} (hL : L ≤ 260) : mj_cM L xs (lw_M L xs) := ⟨fun j _ => rfl, fun j _ => rfl, nI_clamp (by omega), fun j _ => rfl⟩
theorem lw_M_lt {L : Nat} {xs : Nat → Int32} {i t c j : Nat} (h : i < 40) : lw_M L xs i t c j = mk_M0 i t c j := by
  unfold lw_M
  rw [if_neg (by omega), if_neg (by omega)]
theorem lw_rho_in {ad : Nat → Nat} {tW tR b : Nat} {q : mj_Id} (h : q ∈ mj_ids) : lw_rho ad tW tR b q = ad (mk_pos q) := by
  have h1 := (mj_kd_of h).2.2.2.2.2.1
  unfold lw_rho
  rw [if_neg (fun e => by rw [e] at h1; exact absurd h1 (by decide)), if_neg (fun e => by rw [e] at h1; exact absurd h1 (by decide)), if_neg (fun e => by rw [e] at h1; exact absurd h1 (by decide))]
theorem lw_pos_lt {q : mj_Id} (h : q ∈ mj_ids) : mk_pos q < mk_h2.length := by
  have h1 := List.all_eq_true.mp mk_is_ok q h
  unfold mk_is at h1
  exact mj_blt (Bool.and_eq_true _ _ ▸ h1).1
theorem lw_nd {α : Type} {f : mj_Id → α} : ∀ (l : List mj_Id), (l.map f).Nodup → ∀ p ∈ l, ∀ q ∈ l, f p = f q → p = q
  | [], _, _, hp, _, _, _ => by cases hp
  | x :: l, h, p, hp, q, hq, e => by
    rw [List.map_cons, List.nodup_cons] at h
    rcases List.mem_cons.mp hp with e1 | h1
    · rcases List.mem_cons.mp hq with e2 | h2
      · exact e1.trans e2.symm
      · exact absurd (List.mem_map.mpr ⟨q, h2, e.symm.trans (congrArg f e1)⟩) h.1
    · rcases List.mem_cons.mp hq with e2 | h2
      · exact absurd (List.mem_map.mpr ⟨p, h1, e.trans (congrArg f e2)⟩) h.1
      · exact lw_nd l h.2 p h1 q h2 e
theorem lw_Dd {D : va_G} {X : mj_X} {Hb : Heap} {ad : Nat → Nat} {tW tR b : Nat} (hD : va_D (mj_A Hb) (mk_ws ad X mk_h2)) : mj_Dd (lw_rho ad tW tR b) Hb := by
  refine ⟨fun p hp q hq e => ?_, fun q hq => ?_⟩
  · rw [lw_rho_in hp, lw_rho_in hq] at e
    exact lw_nd mj_ids mk_pos_nd p hp q hq (hD.1 _ _ _ _ (mk_ws_at (lw_pos_lt hp)) (mk_ws_at (lw_pos_lt hq)) e)
  · rw [lw_rho_in hq]
    exact hD.2 _ _ (mk_ws_at (lw_pos_lt hq))
theorem lw_atP {D : va_G} {X : mj_X} {H : Heap} {ad : Nat → Nat} {h : List mk_C} {i : Nat} (hP : va_P D mj_cl (mk_ws ad X h) H) (hi : i < h.length) : va_at D mj_cl (ad i, mk_e ad X (mk_at h i)) H := hP i _ (mk_ws_at hi)
theorem lw_pic {D : va_G} {X : mj_X} {H : Heap} {ad : Nat → Nat} {tW tR b L : Nat} {xs : Nat → Int32} (hP : va_P D mj_cl (mk_ws ad X mk_h2) H) : va_P D mj_cl (mj_ws (lw_rho ad tW tR b) X (lw_M L xs)) H := by
  intro i x hx
  obtain ⟨q, hq, rfl⟩ := mj_ws_get hx
  have hm := List.mem_of_getElem? hq
  have hl := lw_pos_lt hm
  have h2 := List.all_eq_true.mp mk_is_ok q hm
  unfold mk_is at h2
  generalize mk_h2 = h at hP hl h2
  have h1 := lw_atP hP hl
  rw [lw_rho_in hm]
  dsimp only at h2
  rw [Bool.and_eq_true] at h2
  have h2 := h2.2
  generalize mk_at h (mk_pos q) = c at h1 h2
  unfold mj_en
  by_cases k0 : mj_kind q.2.1 = 0
  · rw [if_pos k0] at h2 ⊢
    simp only [Bool.and_eq_true, beq_iff_eq] at h2
    obtain ⟨⟨⟨c1, c2⟩, c3⟩, c4⟩ := h2
    have c4 := List.all_eq_true.mp c4
    have e : mk_e ad X c = .inr (mj_ci q.2.1, (List.range (mj_nf q.2.1)).map (mj_fv (lw_rho ad tW tR b) (lw_M L xs) q)) := by
      unfold mk_e
      rw [if_pos c1, c2]
      refine congrArg (fun z => (Sum.inr (mj_ci q.2.1, z) : va_E)) (List.ext_getElem? fun k => ?_)
      rw [List.getElem?_map, List.getElem?_map]
      by_cases hk : k < mj_nf q.2.1
      · have h4 := c4 k (List.mem_range.mpr hk)
        rw [List.getElem?_range hk]
        have hfd := (mj_fd_of hm k0).2 k hk
        unfold mj_fv
        split at h4
        · next l x e1 e2 =>
          rw [e1] at hfd
          rw [e2]
          have := of_decide_eq_true h4
          rw [Option.map_some, Option.map_some]
          rw [e1]
          show some (Value.int x) = some (Value.int (lw_M L xs l.1 l.2.1 l.2.2.1 l.2.2.2))
          rw [lw_M_lt (mj_own_lo hm hfd.1).2.1, this]
        · next q' z e1 e2 =>
          rw [e1] at hfd
          rw [e2]
          have := beq_iff_eq.mp h4
          rw [Option.map_some, Option.map_some]
          rw [e1]
          show some (Value.ref (ad z)) = some (Value.ref (lw_rho ad tW tR b q'))
          rw [lw_rho_in hfd, this]
        · cases h4
      · rw [List.getElem?_eq_none (by omega), List.getElem?_eq_none (by rw [List.length_range]; omega)]
        rfl
    rw [← e]
    exact h1
  · rw [if_neg k0] at h2 ⊢
    by_cases k1 : mj_kind q.2.1 = 1
    · rw [if_pos k1] at h2 ⊢
      simp only [Bool.and_eq_true, beq_iff_eq] at h2
      obtain ⟨⟨c1, c3⟩, c4⟩ := h2
      have c4 := List.all_eq_true.mp c4
      have e : mk_e ad X c = .inl (X.1, c.2.2.length, .inl (mk_int c.2.2)) := by
        unfold mk_e
        rw [if_neg (by omega), if_pos c1]
      rw [e, c3] at h1
      have h1 : H[ad (mk_pos q)]? = some (vp_cell X.1 (mj_ln q, .inl (mk_int c.2.2))) := h1
      show H[ad (mk_pos q)]? = some (vp_cell X.1 (mj_ln q, .inl (mj_rd (lw_M L xs) q)))
      rw [h1, vp_cell_i, vp_cell_i]
      refine congrArg some (mj_arrV_congr fun j hj => ?_)
      have h4 := c4 j (List.mem_range.mpr hj)
      have hlo := (mj_own_lo hm (mj_aloc_lo k1 hj)).2.1
      refine congrArg Value.int ?_
      unfold mk_int
      split at h4
      · next x e2 =>
        rw [e2]
        have := of_decide_eq_true h4
        show x = mj_rd (lw_M L xs) q j
        rw [← this]
        unfold mj_rd
        rw [lw_M_lt hlo]
      · cases h4
    · rw [if_neg k1] at h2 ⊢
      simp only [Bool.and_eq_true, beq_iff_eq] at h2
      obtain ⟨⟨c1, c3⟩, c4⟩ := h2
      have c4 := List.all_eq_true.mp c4
      have hel := (mj_el_of hm).2
      have e : mk_e ad X c = .inl (if mj_kind q.2.1 = 2 then X.2.1 else X.2.2, mj_ol q, .inr (.inr (.inr (.inr (fun j => if j < mj_ol q then (mj_el q j).map (lw_rho ad tW tR b) else none))))) := by
        unfold mk_e
        rw [if_neg (by omega), if_neg (by omega), c1, c3]
        refine congrArg (fun z => (Sum.inl (if mj_kind q.2.1 = 2 then X.2.1 else X.2.2, mj_ol q, Sum.inr (Sum.inr (Sum.inr (Sum.inr z)))) : va_E)) (funext fun j => ?_)
        unfold mk_ref
        by_cases hj : j < mj_ol q
        · rw [if_pos hj]
          have h4 := c4 j (List.mem_range.mpr hj)
          obtain ⟨q', hq1, hq2⟩ := hel j hj
          split at h4
          · next q2 z e1 e2 =>
            rw [e1] at hq1
            cases hq1
            rw [e1, e2]
            have := beq_iff_eq.mp h4
            show some (ad z) = some (lw_rho ad tW tR b q')
            rw [lw_rho_in hq2, this]
          · cases h4
        · rw [if_neg hj, List.getElem?_eq_none (by omega)]
          rfl
      rw [← e]
      exact h1
/-! the script's numbers, as the law reads them -/
def sq (L : Nat) (xs : Nat → Int32) (k : Nat) : Int32 := (if k < L then xs k else nI 15485957 * nI k + nI 107) &&& nI 2147483647
def sqN (L : Nat) (xs : Nat → Int32) : Int32 := sq L xs 0 % nI 7
def sqM (L : Nat) (xs : Nat → Int32) : Int32 := (sq L xs 0 >>> (nI 3 &&& 31)) % nI 5
def sqW (L : Nat) (xs : Nat → Int32) : Int32 := (sq L xs 0 >>> (nI 6 &&& 31)) % nI 6
def sqw (L : Nat) (xs : Nat → Int32) (k : Nat) : Int32 := (sq L xs 1 >>> ((nI 4 * nI k) &&& 31)) % nI 16
def sqs (L : Nat) (xs : Nat → Int32) : Nat → Int32
  | 0 => nI 0
  | k + 1 => if sqw L xs k / nI 4 < sqs L xs k then sqs L xs k else sqw L xs k / nI 4
def sqS (L : Nat) (xs : Nat → Int32) : Int32 := sqs L xs (sqW L xs).toNatClampNeg
