
theorem mj_p1_of {st : List mj_V} {k : Int32 → List mj_V → Prop} (h : mj_p1 st k) : ∃ x r, st = .inl x :: r ∧ k x r := match st, h with
  | .inl x :: r, h => ⟨x, r, rfl, h⟩
theorem mj_p2_of {st : List mj_V} {k : Int32 → Int32 → List mj_V → Prop} (h : mj_p2 st k) : ∃ x y r, st = .inl y :: .inl x :: r ∧ k x y r := match st, h with
  | .inl y :: .inl x :: r, h => ⟨x, y, r, rfl, h⟩
theorem mj_pl_of {st : List mj_V} {k : Int64 → List mj_V → Prop} (h : mj_pl st k) : ∃ x r, st = .inr (.inl x) :: r ∧ k x r := match st, h with
  | .inr (.inl x) :: r, h => ⟨x, r, rfl, h⟩
theorem mj_pl2_of {st : List mj_V} {k : Int64 → Int64 → List mj_V → Prop} (h : mj_pl2 st k) : ∃ x y r, st = .inr (.inl y) :: .inr (.inl x) :: r ∧ k x y r := match st, h with
  | .inr (.inl y) :: .inr (.inl x) :: r, h => ⟨x, y, r, rfl, h⟩
theorem mj_pli_of {st : List mj_V} {k : Int64 → Int32 → List mj_V → Prop} (h : mj_pli st k) : ∃ x y r, st = .inl y :: .inr (.inl x) :: r ∧ k x y r := match st, h with
  | .inl y :: .inr (.inl x) :: r, h => ⟨x, y, r, rfl, h⟩
theorem mj_pr_of {st : List mj_V} {k : mj_Id → List mj_V → Prop} (h : mj_pr st k) : ∃ q r, st = .inr (.inr q) :: r ∧ k q r := match st, h with
  | .inr (.inr q) :: r, h => ⟨q, r, rfl, h⟩
theorem mj_pri_of {st : List mj_V} {k : mj_Id → Int32 → List mj_V → Prop} (h : mj_pri st k) : ∃ q j r, st = .inl j :: .inr (.inr q) :: r ∧ k q j r := match st, h with
  | .inl j :: .inr (.inr q) :: r, h => ⟨q, j, r, rfl, h⟩
theorem mj_prii_of {st : List mj_V} {k : mj_Id → Int32 → Int32 → List mj_V → Prop} (h : mj_prii st k) : ∃ q j v r, st = .inl v :: .inl j :: .inr (.inr q) :: r ∧ k q j v r := match st, h with
  | .inl v :: .inl j :: .inr (.inr q) :: r, h => ⟨q, j, v, r, rfl, h⟩
theorem mj_pcp_of {st : List mj_V} {k : mj_Id → Int32 → mj_Id → Int32 → Int32 → List mj_V → Prop} (h : mj_pcp st k) : ∃ qs s qd d n r, st = .inl n :: .inl d :: .inr (.inr qd) :: .inl s :: .inr (.inr qs) :: r ∧ k qs s qd d n r := match st, h with
  | .inl n :: .inl d :: .inr (.inr qd) :: .inl s :: .inr (.inr qs) :: r, h => ⟨qs, s, qd, d, n, r, rfl, h⟩
theorem mj_li_of {ls : mj_L} {i : Nat} {k : Int32 → Prop} (h : mj_li ls i k) : ∃ x, ls[i]? = some (some (.inl x)) ∧ k x := by
  unfold mj_li at h
  split at h
  · next x e => exact ⟨x, e, h⟩
  · exact h.elim
theorem mj_ll_of {ls : mj_L} {i : Nat} {k : Int64 → Prop} (h : mj_ll ls i k) : ∃ x, ls[i]? = some (some (.inr (.inl x))) ∧ k x := by
  unfold mj_ll at h
  split at h
  · next x e => exact ⟨x, e, h⟩
  · exact h.elim
theorem mj_lr_of {ls : mj_L} {i : Nat} {k : mj_Id → Prop} (h : mj_lr ls i k) : ∃ x, ls[i]? = some (some (.inr (.inr x))) ∧ k x := by
  unfold mj_lr at h
  split at h
  · next x e => exact ⟨x, e, h⟩
  · exact h.elim
theorem mj_bo_of {b : Nat} {x : Int32} {P : Prop} (h : mj_bo b x P) : (b = 1 → x = 0 ∨ x = 1) ∧ P := by
  unfold mj_bo at h
  split at h
  · exact ⟨fun _ => h.1, h.2⟩
  · next e => exact ⟨fun z => absurd z e, h⟩
theorem mj_blt {a b : Nat} (h : Nat.blt a b = true) : a < b := Nat.le_of_ble_eq_true h
theorem mj_no99 (ci : Nat) : ¬ 99 + 1 ≤ (mj_cl.getD ci ("", mj_T0, 0)).2.2 := by
  by_cases h : ci < 8
  · rcases (by omega : ci = 0 ∨ ci = 1 ∨ ci = 2 ∨ ci = 3 ∨ ci = 4 ∨ ci = 5 ∨ ci = 6 ∨ ci = 7) with rfl | rfl | rfl | rfl | rfl | rfl | rfl | rfl <;> decide
  · rw [List.getD_eq_getElem?_getD, List.getElem?_eq_none (by show 8 ≤ ci; omega)]
    decide
theorem mj_call_of {Cc : Nat → List mj_V → mj_M → Option mj_V → mj_M → Prop} {K : mj_L → List mj_V → mj_M → Prop} {a : List Nat} {ls : mj_L} {st : List mj_V} {M : mj_M} (h : mj_call Cc K a ls st M) :
    (∃ (f n : Nat) (N : mj_M), a = [f, n, 0] ∧ (Nat.ble n st.length && mj_fit (mj_kd.getD f []) (st.take n).reverse && Nat.ble (mj_cat (st.drop n)) 8) = true ∧ Cc f (st.take n).reverse M none N ∧ K ls (st.drop n) N) ∨
    ∃ (f n : Nat) (y : Int32) (N : mj_M), a = [f, n, 1] ∧ (Nat.ble n st.length && mj_fit (mj_kd.getD f []) (st.take n).reverse && Nat.ble (mj_cat (st.drop n)) 8) = true ∧ Cc f (st.take n).reverse M (some (.inl y)) N ∧ K ls (.inl y :: st.drop n) N := by
  unfold mj_call at h
  split at h
  · next f n => obtain ⟨h1, N, h2, h3⟩ := h; exact Or.inl ⟨f, n, N, rfl, h1, h2, h3⟩
  · next f n => obtain ⟨h1, y, N, h2, h3⟩ := h; exact Or.inr ⟨f, n, y, N, rfl, h1, h2, h3⟩
  · exact h.elim
theorem mj_st3 {Cc : Nat → List mj_V → mj_M → Option mj_V → mj_M → Prop} {K : Nat → mj_L → List mj_V → mj_M → Prop} {Rr : Option mj_V → mj_M → Prop} {nd : Prop} {nx x z1 z2 : Nat} {zs : List Nat} {ls : mj_L} {st : List mj_V} {M : mj_M} {k : mj_L → List mj_V → mj_M → Prop} (h : mj_w1 Cc K Rr nd nx (.invokestatic x) (z1 :: z2 :: zs) ls st M k) : mj_call Cc (K nx) (z1 :: z2 :: zs) ls st M := by
  rcases z1 with _ | _ | z1 <;> exact h
theorem mj_ck3 {o : Nat} {rt : Option FieldType} {lp : List Nat} {pc x g k r n : Nat} (h : mj_ckk o rt lp pc (.invokestatic x) [g, k, r] n = true) : (n == 3 && (Nat.blt g mj_mt.length && (mj_ML.contains (o, x, g) || (o == 1 && x == 85 && g == 23)) && mj_stc g && k == mj_np.getD g 0 && r == mj_rk (mj_rt g))) = true := by
  unfold mj_ckk at h
  generalize mj_mt.length = N at h ⊢
  rcases g with _ | _ | g <;> exact h
theorem mj_ck_cons {cc : ByteArray} {o : Nat} {rt : Option FieldType} {lp : List Nat} {nx pc : Nat} {i : mj_I} {is : List mj_I} (h : mj_ck cc o rt lp nx pc (i :: is) = true) : ∃ n, decode cc pc = .ok (i.1, n) ∧ mj_ckk o rt lp pc i.1 i.2 n = true ∧ (match mj_te i.1 i.2 with
      | 0 => mj_ck cc o rt lp nx (pc + n) is
      | 1 => is.isEmpty
      | _ => is.isEmpty && nx == pc + n) = true := by
  unfold mj_ck at h
  split at h
  · next i' n hd =>
    rw [Bool.and_eq_true, Bool.and_eq_true] at h
    obtain ⟨⟨h1, h2⟩, h3⟩ := h
    have e := of_decide_eq_true h1
    subst e
    exact ⟨n, hd, h2, h3⟩
  · cases h
/-- the kinds of parameters are as the table of methods has them -/
theorem mj_kd_ok : (List.range mj_mt.length).all (fun g => if mj_stc g then (mj_kd.getD g []).length == mj_np.getD g 0 else match mj_kd.getD g [] with
    | k :: ks => k == 100 + (mj_m g).1 && ks.length == mj_np.getD g 0 && Nat.blt (mj_m g).1 8
    | [] => false) = true := by decide +kernel
theorem mj_fit_len : ∀ (ks : List Nat) (vs : List mj_V), mj_fit ks vs = true → vs.length = ks.length
  | [], [], _ => rfl
  | k :: ks, v :: vs, h => by
    have h : (mj_fit1 k v && mj_fit ks vs) = true := h
    rw [Bool.and_eq_true] at h
    rw [List.length_cons, List.length_cons, mj_fit_len ks vs h.2]
  | [], _ :: _, h => by cases h
  | _ :: _, [], h => by cases h
section MV
variable {p : Program} {l : Launch} {e : Env} {R : Room} {s : State} {m : MethodId} {args : Array Value} {below : List Frame} {meth : Method} {c : Code} {cells slots : Nat} {Q : State → Prop}
variable {cc : ByteArray} {nL o : Nat} {lp : List Nat} {D : va_G} {X : mj_X} {ρ : mj_Id → Nat} {Hb : Heap} {L : Nat} {xs : Nat → Int32} {pc : Nat} {ls : mj_L} {r : List mj_V} {M : mj_M}

theorem ms_tab (C : mj_CX p s m args c cc nL o D X ρ Hb L xs) {d lo hi : Int} {offs : Array Int} {n : Nat} {x : Int32} {a : List Nat} (hd : decode cc pc = .ok (.tableswitch d lo hi offs, n)) (h1 : lo = (lo.toNat : Int)) (h2 : hi + 1 = lo + (offs.size : Int)) (h3 : lo.toNat + offs.size < 1000) (h4 : mj_tgs pc (d :: offs.toList) a = true)
    (kk : (∃ (i t : Nat), a.tail[i]? = some t ∧ x = nI (lo.toNat + i) ∧ mj_GG p l e R s m args below meth c cells slots Q nL lp D X ρ Hb L xs t ls r M) ∨ ((∀ i : Nat, i < a.tail.length → ¬ x = nI (lo.toNat + i)) ∧ mj_GG p l e R s m args below meth c cells slots Q nL lp D X ρ Hb L xs (a.getD 0 0) ls r M)) : mj_GG p l e R s m args below meth c cells slots Q nL lp D X ρ Hb L xs pc ls (.inl x :: r) M := by
  intro hl hv H locs la hP hS hL
  cases a with
  | nil => cases h4
  | cons t0 ts =>
    have h4 : (mj_tg pc d t0 && mj_tgs pc offs.toList ts) = true := h4
    rw [Bool.and_eq_true] at h4
    obtain ⟨hlen, hat⟩ := mj_tgs_at _ _ h4.2
    have hsz : offs.size = ts.length := by rw [← hlen, Array.length_toList]
    rcases kk with ⟨i, t, a1, a2, a3⟩ | ⟨a1, a2⟩
    · have a1 : ts[i]? = some t := a1
      have hi := (List.getElem?_eq_some_iff.mp a1).1
      obtain ⟨off, o1, o2⟩ := hat i t a1
      have ex : x.toInt = lo + i := by rw [a2, nI_toInt (by omega)]; omega
      exact lv_tableIn C.1 C.2.1 hd (by omega) (by omega) (off := off) (by rw [show (x.toInt - lo).toNat = i by omega, ← Array.getElem?_toList]; exact o1) o2 (a3 hl (hv.st (fun q h => List.mem_cons_of_mem _ h)) H locs la hP hS hL)
    · refine lv_tableOut C.1 C.2.1 hd ?_ (of_decide_eq_true h4.1) (a2 hl (hv.st (fun q h => List.mem_cons_of_mem _ h)) H locs la hP hS hL)
      rcases Int.lt_or_le x.toInt lo with z | z
      · exact Or.inl z
      · refine Or.inr (Int.not_le.mp fun z2 => ?_)
        refine a1 (x.toInt - lo).toNat (by show _ < ts.length; omega) (Int32.toInt_inj.mp ?_)
        rw [nI_toInt (by omega)]
        omega
theorem mj_goV (C : mj_CX p s m args c cc nL o D X ρ Hb L xs) {dd i g nn : Nat} {st : List mj_V} {rr : Option mj_V} {N : mj_M} (hR : dd ≤ R.frames ∧ 30 * dd ≤ R.locals) (hcs : cells ≤ R.cells ∧ slots ≤ R.slots)
    (hcall : ∀ (g : Nat) (vs : List mj_V) (M : mj_M) (r : Option mj_V) (N : mj_M), g < mj_mt.length → mj_fit (mj_kd.getD g []) vs = true → (∀ q : mj_Id, .inr (.inr q) ∈ vs → mj_vid q) → mj_Sp dd g vs M r N → 0 < dd ∧ mj_MT l D X ρ Hb L xs (dd - 1) g vs M r N)
    (hd : decode cc pc = .ok (.invokevirtual i, 3)) (hg : g < mj_mt.length) (hm : mj_ML.contains (o, i, g) = true) (hst : mj_stc g = false) (hn : nn = mj_np.getD g 0 + 1) (h1 : Nat.ble nn st.length = true) (h2 : mj_fit (mj_kd.getD g []) (st.take nn).reverse = true) (h3 : Nat.ble (mj_cat (st.drop nn)) 8 = true)
    (hs : mj_Sp dd g (st.take nn).reverse M rr N) (hrr : ∀ q', rr ≠ some (.inr (.inr q'))) (kk : mj_GG p l e R s m args below meth c cells slots Q nL lp D X ρ Hb L xs (pc + 3) ls (rr.toList ++ st.drop nn) N) : mj_GG p l e R s m args below meth c cells slots Q nL lp D X ρ Hb L xs pc ls st M := by
  intro hl hv
  have hk := List.all_eq_true.mp mj_kd_ok g (List.mem_range.mpr hg)
  rw [hst, if_neg (by decide)] at hk
  obtain ⟨hdd, hM⟩ := hcall g _ _ _ _ hg h2 (fun q h => hv.2.2 q (List.mem_of_mem_take (List.mem_reverse.mp h))) hs
  cases hkd : mj_kd.getD g [] with
  | nil => rw [hkd] at hk; cases hk
  | cons k ks =>
    rw [hkd] at hk h2
    simp only [Bool.and_eq_true, beq_iff_eq] at hk
    cases hvs : (st.take nn).reverse with
    | nil => rw [hvs] at h2; cases h2
    | cons v As =>
      rw [hvs] at h2 hM
      have h2 : (mj_fit1 k v && mj_fit ks As) = true := h2
      rw [Bool.and_eq_true] at h2
      have hlen := mj_fit_len ks As h2.2
      have hst2 : st = As.reverse ++ v :: st.drop nn := by
        have e := List.take_append_drop nn st
        have e2 : st.take nn = (v :: As).reverse := by rw [← hvs, List.reverse_reverse]
        rw [e2, List.reverse_cons, List.append_assoc] at e
        exact e.symm
      have hq : ∃ q : mj_Id, v = .inr (.inr q) ∧ mj_ci q.2.1 = (mj_m g).1 := by
        have h3 := h2.1
        rcases v with x | w | q
        · have : (k == 0) = true := h3
          rw [beq_iff_eq] at this
          omega
        · have : (k == 1) = true := h3
          rw [beq_iff_eq] at this
          omega
        · have : (k == 2 || (Nat.ble 100 k && mj_ci q.2.1 == k - 100)) = true := h3
          simp only [Bool.or_eq_true, Bool.and_eq_true, beq_iff_eq] at this
          refine ⟨q, rfl, ?_⟩
          omega
      obtain ⟨q, rfl, hci⟩ := hq
      have hlt : (mj_m g).1 < 8 := Nat.le_of_ble_eq_true hk.2
      have hvq : mj_vid q := hv.2.2 q (by rw [hst2]; simp)
      have h0 : 0 < (mj_cl.getD (mj_ci q.2.1) ("", mj_T0, 0)).2.2 := by
        rw [hci]
        generalize (mj_m g).1 = z at hlt
        rcases (by omega : z = 0 ∨ z = 1 ∨ z = 2 ∨ z = 3 ∨ z = 4 ∨ z = 5 ∨ z = 6 ∨ z = 7) with rfl | rfl | rfl | rfl | rfl | rfl | rfl | rfl <;> decide
      obtain ⟨hqi, hk0, -⟩ := mj_obj hvq h0
      have hfin := ms_callV (dd := dd - 1) (rr := rr) (N := N) (ls := ls) (As := As) (r := st.drop nn) (Q := Q) (lp := lp) (e := e) (below := below) (meth := meth) C hd hg hm hst (by omega) hci hqi hk0 (Nat.le_of_ble_eq_true h3) ⟨by omega, by omega⟩ hcs hM hrr kk
      rw [← hst2] at hfin
      exact hfin hl hv
theorem mj_goS (C : mj_CX p s m args c cc nL o D X ρ Hb L xs) {dd i g nn : Nat} {st : List mj_V} {rr : Option mj_V} {N : mj_M} (hR : dd ≤ R.frames ∧ 30 * dd ≤ R.locals) (hcs : cells ≤ R.cells ∧ slots ≤ R.slots)
    (hcall : ∀ (g : Nat) (vs : List mj_V) (M : mj_M) (r : Option mj_V) (N : mj_M), g < mj_mt.length → mj_fit (mj_kd.getD g []) vs = true → (∀ q : mj_Id, .inr (.inr q) ∈ vs → mj_vid q) → mj_Sp dd g vs M r N → 0 < dd ∧ mj_MT l D X ρ Hb L xs (dd - 1) g vs M r N)
    (hd : decode cc pc = .ok (.invokestatic i, 3)) (hg : g < mj_mt.length) (hm : mj_ML.contains (o, i, g) = true ∨ (o = 1 ∧ i = 85 ∧ g = 23)) (hst : mj_stc g = true) (hn : nn = mj_np.getD g 0) (h1 : Nat.ble nn st.length = true) (h2 : mj_fit (mj_kd.getD g []) (st.take nn).reverse = true) (h3 : Nat.ble (mj_cat (st.drop nn)) 8 = true)
    (hs : mj_Sp dd g (st.take nn).reverse M rr N) (hrr : ∀ q', rr ≠ some (.inr (.inr q'))) (kk : mj_GG p l e R s m args below meth c cells slots Q nL lp D X ρ Hb L xs (pc + 3) ls (rr.toList ++ st.drop nn) N) : mj_GG p l e R s m args below meth c cells slots Q nL lp D X ρ Hb L xs pc ls st M := by
  intro hl hv
  have hk := List.all_eq_true.mp mj_kd_ok g (List.mem_range.mpr hg)
  rw [hst, if_pos rfl] at hk
  have hk := beq_iff_eq.mp hk
  obtain ⟨hdd, hM⟩ := hcall g _ _ _ _ hg h2 (fun q h => hv.2.2 q (List.mem_of_mem_take (List.mem_reverse.mp h))) hs
  have hlen := mj_fit_len _ _ h2
  have hst2 : st = (st.take nn).reverse.reverse ++ st.drop nn := by rw [List.reverse_reverse, List.take_append_drop]
  have hfin := ms_callS (dd := dd - 1) (rr := rr) (N := N) (ls := ls) (As := (st.take nn).reverse) (r := st.drop nn) (Q := Q) (lp := lp) (e := e) (below := below) (meth := meth) C hd hg hm hst (by rw [hlen, hk]) (Nat.le_of_ble_eq_true h3) ⟨by omega, by omega⟩ hcs hM hrr kk
  rw [← hst2] at hfin
  exact hfin hl hv
set_option maxHeartbeats 8000000 in
theorem mj_main (C : mj_CX p s m args c cc nL o D X ρ Hb L xs) {dd nx : Nat} {rt : Option FieldType} {K : Nat → mj_L → List mj_V → mj_M → Prop} {Rr : Option mj_V → mj_M → Prop} (hR : dd ≤ R.frames ∧ 30 * dd ≤ R.locals) (hcs : cells ≤ R.cells ∧ slots ≤ R.slots)
    (hcall : ∀ (g : Nat) (vs : List mj_V) (M : mj_M) (r : Option mj_V) (N : mj_M), g < mj_mt.length → mj_fit (mj_kd.getD g []) vs = true → (∀ q : mj_Id, .inr (.inr q) ∈ vs → mj_vid q) → mj_Sp dd g vs M r N → 0 < dd ∧ mj_MT l D X ρ Hb L xs (dd - 1) g vs M r N)
    (hRi : ∀ (pc : Nat) (ls : mj_L) (x : Int32) (M : mj_M), decode cc pc = .ok (.ireturn, 1) → (rt = some .int ∨ (rt = some .boolean ∧ (x = 0 ∨ x = 1))) → Rr (some (.inl x)) M → mj_GG p l e R s m args below meth c cells slots Q nL lp D X ρ Hb L xs pc ls [.inl x] M)
    (hRv : ∀ (pc : Nat) (ls : mj_L) (M : mj_M), decode cc pc = .ok (.return_, 1) → rt = none → Rr none M → mj_GG p l e R s m args below meth c cells slots Q nL lp D X ρ Hb L xs pc ls [] M)
    (hK : ∀ (pc : Nat) (ls : mj_L) (st : List mj_V) (M : mj_M), K pc ls st M → mj_GG p l e R s m args below meth c cells slots Q nL lp D X ρ Hb L xs pc ls st M) :
    ∀ (is : List mj_I) (pc : Nat) (ls : mj_L) (st : List mj_V) (M : mj_M), mj_w (mj_Sp dd) K Rr (0 < dd) nx is ls st M → mj_ck cc o rt lp nx pc is = true → mj_GG p l e R s m args below meth c cells slots Q nL lp D X ρ Hb L xs pc ls st M
  | [], pc, ls, st, M, hw, hc => by
    have e : pc = nx := beq_iff_eq.mp hc
    subst e
    exact hK _ _ _ _ hw
  | (i, a) :: is, pc, ls, st, M, hw, hc => by
    obtain ⟨n, hd, hq, hr⟩ := mj_ck_cons hc
    have ih := mj_main (nx := nx) C hR hcs hcall hRi hRv hK is
    dsimp only at hd hq hr
    have hw : mj_w1 (mj_Sp dd) K Rr (0 < dd) nx i a ls st M (fun ls st M => mj_w (mj_Sp dd) K Rr (0 < dd) nx is ls st M) := hw
    cases i with
    | iadd =>
      obtain ⟨x, y, r, rfl, hw⟩ := mj_p2_of hw
      have hn : n = 1 := beq_iff_eq.mp hq
      subst hn
      exact ms_iadd C hd (ih _ _ _ _ hw hr)
    | isub =>
      obtain ⟨x, y, r, rfl, hw⟩ := mj_p2_of hw
      have hn : n = 1 := beq_iff_eq.mp hq
      subst hn
      exact ms_isub C hd (ih _ _ _ _ hw hr)
    | imul =>
      obtain ⟨x, y, r, rfl, hw⟩ := mj_p2_of hw
      have hn : n = 1 := beq_iff_eq.mp hq
      subst hn
      exact ms_imul C hd (ih _ _ _ _ hw hr)
    | iand =>
      obtain ⟨x, y, r, rfl, hw⟩ := mj_p2_of hw
      have hn : n = 1 := beq_iff_eq.mp hq
      subst hn
      exact ms_iand C hd (ih _ _ _ _ hw hr)
    | ior =>
      obtain ⟨x, y, r, rfl, hw⟩ := mj_p2_of hw
      have hn : n = 1 := beq_iff_eq.mp hq
      subst hn
      exact ms_ior C hd (ih _ _ _ _ hw hr)
    | ixor =>
      obtain ⟨x, y, r, rfl, hw⟩ := mj_p2_of hw
      have hn : n = 1 := beq_iff_eq.mp hq
      subst hn
      exact ms_ixor C hd (ih _ _ _ _ hw hr)
    | ishl =>
      obtain ⟨x, y, r, rfl, hw⟩ := mj_p2_of hw
      have hn : n = 1 := beq_iff_eq.mp hq
      subst hn
      exact ms_ishl C hd (ih _ _ _ _ hw hr)
    | ishr =>
      obtain ⟨x, y, r, rfl, hw⟩ := mj_p2_of hw
      have hn : n = 1 := beq_iff_eq.mp hq
      subst hn
      exact ms_ishr C hd (ih _ _ _ _ hw hr)
    | idiv =>
      obtain ⟨x, y, r, rfl, hne, hw⟩ := mj_p2_of hw
      have hn : n = 1 := beq_iff_eq.mp hq
      subst hn
      exact ms_idiv C hd hne (ih _ _ _ _ hw hr)
    | irem =>
      obtain ⟨x, y, r, rfl, hne, hw⟩ := mj_p2_of hw
      have hn : n = 1 := beq_iff_eq.mp hq
      subst hn
      exact ms_irem C hd hne (ih _ _ _ _ hw hr)
    | ladd =>
      obtain ⟨x, y, r, rfl, hw⟩ := mj_pl2_of hw
      have hn : n = 1 := beq_iff_eq.mp hq
      subst hn
      exact ms_ladd C hd (ih _ _ _ _ hw hr)
    | lmul =>
      obtain ⟨x, y, r, rfl, hw⟩ := mj_pl2_of hw
      have hn : n = 1 := beq_iff_eq.mp hq
      subst hn
      exact ms_lmul C hd (ih _ _ _ _ hw hr)
    | land =>
      obtain ⟨x, y, r, rfl, hw⟩ := mj_pl2_of hw
      have hn : n = 1 := beq_iff_eq.mp hq
      subst hn
      exact ms_land C hd (ih _ _ _ _ hw hr)
    | lor =>
      obtain ⟨x, y, r, rfl, hw⟩ := mj_pl2_of hw
      have hn : n = 1 := beq_iff_eq.mp hq
      subst hn
      exact ms_lor C hd (ih _ _ _ _ hw hr)
    | lcmp =>
      obtain ⟨x, y, r, rfl, hw⟩ := mj_pl2_of hw
      have hn : n = 1 := beq_iff_eq.mp hq
      subst hn
      exact ms_lcmp C hd (ih _ _ _ _ hw hr)
    | lshl =>
      obtain ⟨x, y, r, rfl, hw⟩ := mj_pli_of hw
      have hn : n = 1 := beq_iff_eq.mp hq
      subst hn
      exact ms_lshl C hd (ih _ _ _ _ hw hr)
    | lshr =>
      obtain ⟨x, y, r, rfl, hw⟩ := mj_pli_of hw
      have hn : n = 1 := beq_iff_eq.mp hq
      subst hn
      exact ms_lshr C hd (ih _ _ _ _ hw hr)
    | lushr =>
      obtain ⟨x, y, r, rfl, hw⟩ := mj_pli_of hw
      have hn : n = 1 := beq_iff_eq.mp hq
      subst hn
      exact ms_lushr C hd (ih _ _ _ _ hw hr)
    | i2l =>
      obtain ⟨x, r, rfl, hw⟩ := mj_p1_of hw
      have hn : n = 1 := beq_iff_eq.mp hq
      subst hn
      exact ms_i2l C hd (ih _ _ _ _ hw hr)
    | i2b =>
      obtain ⟨x, r, rfl, hw⟩ := mj_p1_of hw
      have hn : n = 1 := beq_iff_eq.mp hq
      subst hn
      exact ms_i2b C hd (ih _ _ _ _ hw hr)
    | i2s =>
      obtain ⟨x, r, rfl, hw⟩ := mj_p1_of hw
      have hn : n = 1 := beq_iff_eq.mp hq
      subst hn
      exact ms_i2s C hd (ih _ _ _ _ hw hr)
    | ineg =>
      obtain ⟨x, r, rfl, hw⟩ := mj_p1_of hw
      have hn : n = 1 := beq_iff_eq.mp hq
      subst hn
      exact ms_ineg C hd (ih _ _ _ _ hw hr)
    | l2i =>
      obtain ⟨x, r, rfl, hw⟩ := mj_pl_of hw
      have hn : n = 1 := beq_iff_eq.mp hq
      subst hn
      exact ms_l2i C hd (ih _ _ _ _ hw hr)
    | iconst k =>
      have hq : (n == 1 && decide (Int32.ofInt k = mj_k a)) = true := hq
      rw [Bool.and_eq_true] at hq
      have hn : n = 1 := beq_iff_eq.mp hq.1
      subst hn
      exact ms_iconst C hd (of_decide_eq_true hq.2) (ih _ _ _ _ hw hr)
    | bipush k =>
      have hq : (n == 2 && decide ((Int8.ofInt k).toInt32 = mj_k a)) = true := hq
      rw [Bool.and_eq_true] at hq
      have hn : n = 2 := beq_iff_eq.mp hq.1
      subst hn
      exact ms_bipush C hd (of_decide_eq_true hq.2) (ih _ _ _ _ hw hr)
    | sipush k =>
      have hq : (n == 3 && decide ((Int16.ofInt k).toInt32 = mj_k a)) = true := hq
      rw [Bool.and_eq_true] at hq
      have hn : n = 3 := beq_iff_eq.mp hq.1
      subst hn
      exact ms_sipush C hd (of_decide_eq_true hq.2) (ih _ _ _ _ hw hr)
    | lconst k =>
      have hn : n = 1 := beq_iff_eq.mp hq
      subst hn
      exact ms_lconst C hd (ih _ _ _ _ hw hr)
    | ldc x =>
      have hq : (n == 2 && mj_KL.any (fun e => e.1 == o && e.2.1 == x && decide (Int32.ofInt e.2.2 = mj_k a))) = true := hq
      rw [Bool.and_eq_true] at hq
      have hn : n = 2 := beq_iff_eq.mp hq.1
      subst hn
      obtain ⟨z, hz, hz2⟩ := List.any_eq_true.mp hq.2
      simp only [Bool.and_eq_true, beq_iff_eq, decide_eq_true_eq] at hz2
      have hw2 := mj_KL_ok _ (List.mem_map.mpr ⟨z, hz, rfl⟩)
      unfold mj_wk at hw2
      rw [hz2.1.1, hz2.1.2, hz2.2] at hw2
      exact ms_ldc C hd hw2 (ih _ _ _ _ hw hr)
    | ldc2_w x =>
      have hq : (n == 3 && mj_KM.any (fun e => e.1 == o && e.2.1 == x && decide (Int64.ofInt e.2.2 = mj_kl a))) = true := hq
      rw [Bool.and_eq_true] at hq
      have hn : n = 3 := beq_iff_eq.mp hq.1
      subst hn
      obtain ⟨z, hz, hz2⟩ := List.any_eq_true.mp hq.2
      simp only [Bool.and_eq_true, beq_iff_eq, decide_eq_true_eq] at hz2
      have hw2 := mj_KM_ok _ (List.mem_map.mpr ⟨z, hz, rfl⟩)
      unfold mj_wl2 at hw2
      rw [hz2.1.1, hz2.1.2, hz2.2] at hw2
      exact ms_ldc2 C hd hw2 (ih _ _ _ _ hw hr)
    | iload j =>
      obtain ⟨x, hx, hw⟩ := mj_li_of hw
      have hn : n = 2 := beq_iff_eq.mp hq
      subst hn
      exact ms_iload C hd hx (ih _ _ _ _ hw hr)
    | iload_n j =>
      obtain ⟨x, hx, hw⟩ := mj_li_of hw
      have hn : n = 1 := beq_iff_eq.mp hq
      subst hn
      exact ms_iload_n C hd hx (ih _ _ _ _ hw hr)
    | lload j =>
      obtain ⟨x, hx, hw⟩ := mj_ll_of hw
      have hn : n = 2 := beq_iff_eq.mp hq
      subst hn
      exact ms_lload C hd hx (ih _ _ _ _ hw hr)
    | lload_n j =>
      obtain ⟨x, hx, hw⟩ := mj_ll_of hw
      have hn : n = 1 := beq_iff_eq.mp hq
      subst hn
      exact ms_lload_n C hd hx (ih _ _ _ _ hw hr)
    | aload j =>
      obtain ⟨x, hx, hw⟩ := mj_lr_of hw
      have hn : n = 2 := beq_iff_eq.mp hq
      subst hn
      exact ms_aload C hd hx (ih _ _ _ _ hw hr)
    | aload_n j =>
      obtain ⟨x, hx, hw⟩ := mj_lr_of hw
      have hn : n = 1 := beq_iff_eq.mp hq
      subst hn
      exact ms_aload_n C hd hx (ih _ _ _ _ hw hr)
    | istore j =>
      obtain ⟨x, r, rfl, hlt, hw⟩ := mj_p1_of hw
      have hq : (n == 2 && mj_lpk lp j) = true := hq
      rw [Bool.and_eq_true] at hq
      have hn : n = 2 := beq_iff_eq.mp hq.1
      subst hn
      exact ms_istore C hd (Nat.le_of_ble_eq_true hlt) hq.2 (ih _ _ _ _ hw hr)
    | istore_n j =>
      obtain ⟨x, r, rfl, hlt, hw⟩ := mj_p1_of hw
      have hq : (n == 1 && mj_lpk lp j.val) = true := hq
      rw [Bool.and_eq_true] at hq
      have hn : n = 1 := beq_iff_eq.mp hq.1
      subst hn
      exact ms_istore_n C hd (Nat.le_of_ble_eq_true hlt) hq.2 (ih _ _ _ _ hw hr)
    | astore j =>
      obtain ⟨x, r, rfl, hlt, hw⟩ := mj_pr_of hw
      have hq : (n == 2 && mj_lpk lp j) = true := hq
      rw [Bool.and_eq_true] at hq
      have hn : n = 2 := beq_iff_eq.mp hq.1
      subst hn
      exact ms_astore C hd (Nat.le_of_ble_eq_true hlt) hq.2 (ih _ _ _ _ hw hr)
    | astore_n j =>
      obtain ⟨x, r, rfl, hlt, hw⟩ := mj_pr_of hw
      have hq : (n == 1 && mj_lpk lp j.val) = true := hq
      rw [Bool.and_eq_true] at hq
      have hn : n = 1 := beq_iff_eq.mp hq.1
      subst hn
      exact ms_astore_n C hd (Nat.le_of_ble_eq_true hlt) hq.2 (ih _ _ _ _ hw hr)
    | iinc j k =>
      obtain ⟨x, hx, hlt, hw⟩ := mj_li_of hw
      have hq : (n == 3 && decide (Int32.ofInt k = mj_k a) && mj_lpk lp j) = true := hq
      simp only [Bool.and_eq_true, beq_iff_eq, decide_eq_true_eq] at hq
      obtain ⟨⟨hn, hk⟩, hp⟩ := hq
      subst hn
      exact ms_iinc C hd hx hk (Nat.le_of_ble_eq_true hlt) hp (ih _ _ _ _ hw hr)
    | dup =>
      have hn : n = 1 := beq_iff_eq.mp hq
      subst hn
      match st, hw with
      | .inl x :: r, hw => exact ms_dupi C hd (ih _ _ _ _ hw hr)
      | .inr (.inr x) :: r, hw => exact ms_dupr C hd (ih _ _ _ _ hw hr)
      | [], hw => exact hw.elim
      | .inr (.inl x) :: r, hw => exact hw.elim
      
    | dup2 =>
      obtain ⟨q, j, r, rfl, hw⟩ := mj_pri_of hw
      have hn : n = 1 := beq_iff_eq.mp hq
      subst hn
      exact ms_dup2 C hd (ih _ _ _ _ hw hr)
    | pop =>
      obtain ⟨x, r, rfl, hw⟩ := mj_p1_of hw
      have hn : n = 1 := beq_iff_eq.mp hq
      subst hn
      exact ms_pop C hd (ih _ _ _ _ hw hr)
    | getfield x =>
      obtain ⟨q, r, rfl, ha, hw⟩ := mj_pr_of hw
      have hq : (n == 3 && mj_FL.contains (o, x, a.getD 0 99, a.getD 1 99) && Nat.blt (a.getD 1 99) (mj_cl.getD (a.getD 0 99) ("", mj_T0, 0)).2.2) = true := hq
      simp only [Bool.and_eq_true, beq_iff_eq] at hq
      obtain ⟨⟨hn, hf⟩, hk⟩ := hq
      subst hn
      have h0 : a.getD 0 99 = mj_ci q.2.1 := by rw [List.getD_eq_getElem?_getD, ha]; rfl
      rw [h0] at hf hk
      have hk := Nat.le_of_ble_eq_true hk
      have h1 : a.getD 1 99 = a.getD 1 0 ∨ a.getD 1 99 = 99 := by cases h : a[1]? <;> simp [List.getD_eq_getElem?_getD, h]
      have h1 : a.getD 1 99 = a.getD 1 0 := by
        rcases h1 with h1 | h1
        · exact h1
        · exfalso
          rw [h1] at hk
          exact absurd hk (mj_no99 _)
      rw [h1] at hf hk
      cases hv : mj_fd q (a.getD 1 0) with
      | none => rw [hv] at hw; exact hw.elim
      | some z =>
        rw [hv] at hw
        cases z with
        | inl t => exact ms_getn C hd hf hk hv (ih _ _ _ _ hw hr)
        | inr t => exact ms_getr C hd hf hk hv (ih _ _ _ _ hw hr)
      
    | putfield x =>
      match st, hw with
      | [], hw => exact hw.elim
      | [.inl _], hw => exact hw.elim
      | .inr _ :: _, hw => exact hw.elim
      | .inl _ :: .inl _ :: _, hw => exact hw.elim
      | .inl _ :: .inr (.inl _) :: _, hw => exact hw.elim
      | .inl v :: .inr (.inr q) :: r, hw =>
        obtain ⟨ha, hw⟩ := hw
        have hq : (n == 3 && mj_FL.contains (o, x, a.getD 0 99, a.getD 1 99) && Nat.blt (a.getD 1 99) (mj_cl.getD (a.getD 0 99) ("", mj_T0, 0)).2.2 && !(mj_TT (a.getD 0 99) (a.getD 1 99)).2.2.2 && decide (parseFieldDescriptor (mj_TT (a.getD 0 99) (a.getD 1 99)).2.2.1 = some (if a.getD 2 0 = 1 then .boolean else .int))) = true := hq
        simp only [Bool.and_eq_true, beq_iff_eq, Bool.not_eq_true', decide_eq_true_eq] at hq
        obtain ⟨⟨⟨⟨hn, hf⟩, hk⟩, hfin⟩, hty⟩ := hq
        subst hn
        have h0 : a.getD 0 99 = mj_ci q.2.1 := by rw [List.getD_eq_getElem?_getD, ha]; rfl
        rw [h0] at hf hk hfin hty
        have hk := Nat.le_of_ble_eq_true hk
        have h1 : a.getD 1 99 = a.getD 1 0 ∨ a.getD 1 99 = 99 := by cases h : a[1]? <;> simp [List.getD_eq_getElem?_getD, h]
        have h1 : a.getD 1 99 = a.getD 1 0 := by
          rcases h1 with h1 | h1
          · exact h1
          · exfalso
            rw [h1] at hk
            exact absurd hk (mj_no99 _)
        rw [h1] at hf hk hfin hty
        cases hv : mj_fd q (a.getD 1 0) with
        | none => rw [hv] at hw; exact hw.elim
        | some z =>
          rw [hv] at hw
          cases z with
          | inl t =>
            have hbo := mj_bo_of hw
            exact ms_put C hd hf hk hfin hty hbo.1 hv (ih _ _ _ _ hbo.2 hr)
          | inr t => exact hw.elim
      
    | getstatic x =>
      have hq : (n == 3 && o == 1 && ((x == 109 && a == [80]) || (x == 128 && a == [81]))) = true := hq
      simp only [Bool.and_eq_true, Bool.or_eq_true, beq_iff_eq] at hq
      obtain ⟨⟨hn, ho⟩, hx⟩ := hq
      subst hn
      rcases hx with ⟨hx, ha⟩ | ⟨hx, ha⟩
      · subst ha
        exact ms_gets C hd ho (Or.inl ⟨hx, rfl⟩) (ih _ _ _ _ hw hr)
      · subst ha
        exact ms_gets C hd ho (Or.inr ⟨hx, rfl⟩) (ih _ _ _ _ hw hr)
      
    | iaload =>
      obtain ⟨q, j, r, rfl, hin, hw⟩ := mj_pri_of hw
      have hn : n = 1 := beq_iff_eq.mp hq
      subst hn
      exact ms_iald C hd hin (ih _ _ _ _ hw hr)
    | iastore =>
      obtain ⟨q, j, v, r, rfl, ht, hin, hw⟩ := mj_prii_of hw
      have hn : n = 1 := beq_iff_eq.mp hq
      subst hn
      exact ms_iast C hd (Nat.le_of_ble_eq_true ht) hin (ih _ _ _ _ hw hr)
    | aaload =>
      obtain ⟨q, j, r, rfl, hin, hw⟩ := mj_pri_of hw
      have hn : n = 1 := beq_iff_eq.mp hq
      subst hn
      cases hv : mj_el q j.toNatClampNeg with
      | none => rw [hv] at hw; exact hw.elim
      | some z => rw [hv] at hw; exact ms_aald C hd hin hv (ih _ _ _ _ hw hr)
      
    | arraylength =>
      obtain ⟨q, r, rfl, ha, hw⟩ := mj_pr_of hw
      have hn : n = 1 := beq_iff_eq.mp hq
      subst hn
      exact ms_alen C hd ha (ih _ _ _ _ hw hr)
    | goto off =>
      have hq : (n == 3 && mj_tg pc off (a.getD 0 0)) = true := hq
      rw [Bool.and_eq_true] at hq
      have hn : n = 3 := beq_iff_eq.mp hq.1
      subst hn
      exact ms_goto C hd (of_decide_eq_true hq.2) (hK _ _ _ _ hw)
    | if_icmp cnd off =>
      obtain ⟨x, y, r, rfl, h1, h2⟩ := mj_p2_of hw
      have hq1 : (n == 3 && mj_tg pc off (a.getD 0 0)) = true := hq
      rw [Bool.and_eq_true] at hq1
      have hn : n = 3 := beq_iff_eq.mp hq1.1
      have ht := of_decide_eq_true hq1.2
      clear hq hq1
      subst hn
      cases cnd with
      | eq => exact ms_icmp_eq C hd ht (fun z => hK _ _ _ _ (h1 z)) (fun z => ih _ _ _ _ (h2 z) hr)
      | ne => exact ms_icmp_ne C hd ht (fun z => hK _ _ _ _ (h1 z)) (fun z => ih _ _ _ _ (h2 z) hr)
      | lt => exact ms_icmp_lt C hd ht (fun z => hK _ _ _ _ (h1 z)) (fun z => ih _ _ _ _ (h2 z) hr)
      | ge => exact ms_icmp_ge C hd ht (fun z => hK _ _ _ _ (h1 z)) (fun z => ih _ _ _ _ (h2 z) hr)
      | gt => exact ms_icmp_gt C hd ht (fun z => hK _ _ _ _ (h1 z)) (fun z => ih _ _ _ _ (h2 z) hr)
      | le => exact ms_icmp_le C hd ht (fun z => hK _ _ _ _ (h1 z)) (fun z => ih _ _ _ _ (h2 z) hr)
      
    | ifCond cnd off =>
      obtain ⟨x, r, rfl, h1, h2⟩ := mj_p1_of hw
      have hq1 : (n == 3 && mj_tg pc off (a.getD 0 0)) = true := hq
      rw [Bool.and_eq_true] at hq1
      have hn : n = 3 := beq_iff_eq.mp hq1.1
      have ht := of_decide_eq_true hq1.2
      clear hq hq1
      subst hn
      cases cnd with
      | eq => exact ms_if_eq C hd ht (fun z => hK _ _ _ _ (h1 z)) (fun z => ih _ _ _ _ (h2 z) hr)
      | ne => exact ms_if_ne C hd ht (fun z => hK _ _ _ _ (h1 z)) (fun z => ih _ _ _ _ (h2 z) hr)
      | lt => exact ms_if_lt C hd ht (fun z => hK _ _ _ _ (h1 z)) (fun z => ih _ _ _ _ (h2 z) hr)
      | ge => exact ms_if_ge C hd ht (fun z => hK _ _ _ _ (h1 z)) (fun z => ih _ _ _ _ (h2 z) hr)
      | gt => exact ms_if_gt C hd ht (fun z => hK _ _ _ _ (h1 z)) (fun z => ih _ _ _ _ (h2 z) hr)
      | le => exact ms_if_le C hd ht (fun z => hK _ _ _ _ (h1 z)) (fun z => ih _ _ _ _ (h2 z) hr)
      
    | tableswitch d lo hi offs =>
      obtain ⟨x, r, rfl, hw⟩ := mj_p1_of hw
      have hq : (decide (lo = (lo.toNat : Int)) && decide (hi + 1 = lo + (offs.size : Int)) && Nat.blt (lo.toNat + offs.size) 1000 && mj_tgs pc (d :: offs.toList) a) = true := hq
      simp only [Bool.and_eq_true, decide_eq_true_eq] at hq
      obtain ⟨⟨⟨q1, q2⟩, q3⟩, q4⟩ := hq
      refine ms_tab C hd q1 q2 (Nat.le_of_ble_eq_true q3) q4 ?_
      rcases mj_sw_tk _ _ hw with ⟨i, t, a1, a2, a3⟩ | ⟨a1, a2⟩
      · exact Or.inl ⟨i, t, a1, a2, hK _ _ _ _ a3⟩
      · exact Or.inr ⟨a1, hK _ _ _ _ a2⟩
      
    | lookupswitch d ps =>
      obtain ⟨x, r, rfl, hw⟩ := mj_p1_of hw
      have hq : ((ps.toList.zip (ps.toList.drop 1)).all (fun (x, y) => x.1 < y.1) && ps.toList.all (fun x => decide (x.1 = (x.1.toNat : Int)) && Nat.blt x.1.toNat 1000) && mj_tgs pc (d :: ps.toList.map (fun x => x.2)) a) = true := hq
      rw [Bool.and_eq_true, Bool.and_eq_true] at hq
      obtain ⟨⟨q1, q2⟩, q3⟩ := hq
      cases a with
      | nil => cases q3
      | cons t0 ts =>
        have q3 : (mj_tg pc d t0 && mj_tgs pc (ps.toList.map (fun x => x.2)) ts) = true := q3
        rw [Bool.and_eq_true] at q3
        obtain ⟨t, k1, k2⟩ := mj_sw_lk (of_decide_eq_true q3.1) ps.toList ts q3.2 (fun z hz => by
          have := List.all_eq_true.mp q2 z hz
          simp only [Bool.and_eq_true, decide_eq_true_eq] at this
          exact ⟨this.1, Nat.le_of_ble_eq_true this.2⟩) hw
        exact fun hl hv H locs la hP hS hL => lv_lookup C.1 C.2.1 hd q1 rfl k2 (hK _ _ _ _ k1 hl (hv.st (fun q h => List.mem_cons_of_mem _ h)) H locs la hP hS hL)
      
    | invokevirtual x =>
      rcases mj_call_of hw with ⟨g, nn, N, ha, hf, hc1, hk⟩ | ⟨g, nn, y, N, ha, hf, hc1, hk⟩
      · subst ha
        have hr : (is.isEmpty && nx == pc + n) = true := hr
        have hq : (n == 3 && (Nat.blt g mj_mt.length && mj_ML.contains (o, x, g) && !mj_stc g && nn == mj_np.getD g 0 + 1 && 0 == mj_rk (mj_rt g))) = true := hq
        simp only [Bool.and_eq_true, beq_iff_eq, Bool.not_eq_true'] at hq hr hf
        obtain ⟨hn, ⟨⟨⟨h1, h2⟩, h3⟩, h4⟩, -⟩ := hq
        subst hn
        obtain ⟨-, rfl⟩ := hr
        exact mj_goV C hR hcs hcall hd (mj_blt h1) h2 h3 h4 hf.1.1 hf.1.2 hf.2 hc1 (by intro q h; cases h) (hK _ _ _ _ hk)
      · subst ha
        have hr : (is.isEmpty && nx == pc + n) = true := hr
        have hq : (n == 3 && (Nat.blt g mj_mt.length && mj_ML.contains (o, x, g) && !mj_stc g && nn == mj_np.getD g 0 + 1 && 1 == mj_rk (mj_rt g))) = true := hq
        simp only [Bool.and_eq_true, beq_iff_eq, Bool.not_eq_true'] at hq hr hf
        obtain ⟨hn, ⟨⟨⟨h1, h2⟩, h3⟩, h4⟩, -⟩ := hq
        subst hn
        obtain ⟨-, rfl⟩ := hr
        exact mj_goV C hR hcs hcall hd (mj_blt h1) h2 h3 h4 hf.1.1 hf.1.2 hf.2 hc1 (by intro q h; cases h) (hK _ _ _ _ hk)
      
    | invokestatic x =>
      rcases a with _ | ⟨z1, _ | ⟨z2, zs⟩⟩
      · obtain ⟨qs, s1, qd, d1, n1, r, rfl, g1, g2, g3, g4, g5, g6, g7, g8, g9, hw⟩ := mj_pcp_of hw
        have hq1 : (n == 3 && mj_AL.contains (o, x)) = true := hq
        rw [Bool.and_eq_true] at hq1
        have hn : n = 3 := beq_iff_eq.mp hq1.1
        have ht := hq1.2
        clear hq hq1
        subst hn
        rw [Bool.and_eq_true] at g3 g4
        exact ms_copy C hd ht (Nat.le_of_ble_eq_true g1) ⟨by omega, by omega⟩ ⟨mj_blt g3.1, g3.2⟩ ⟨mj_blt g4.1, g4.2⟩ g5 g6 g7 g8 g9 (ih _ _ _ _ hw hr)
      · rcases z1 with _ | _ | k
        · obtain ⟨x1, y1, r, rfl, g1, g2, hw⟩ := mj_p2_of hw
          have hq1 : (n == 3 && mj_JL.contains (o, x, true)) = true := hq
          rw [Bool.and_eq_true] at hq1
          have hn : n = 3 := beq_iff_eq.mp hq1.1
          have ht := hq1.2
          clear hq hq1
          subst hn
          exact ms_max C hd ht (Nat.le_of_ble_eq_true g1) ⟨by omega, by omega⟩ hcs (ih _ _ _ _ hw hr)
        · obtain ⟨x1, y1, r, rfl, g1, g2, hw⟩ := mj_p2_of hw
          have hq1 : (n == 3 && mj_JL.contains (o, x, false)) = true := hq
          rw [Bool.and_eq_true] at hq1
          have hn : n = 3 := beq_iff_eq.mp hq1.1
          have ht := hq1.2
          clear hq hq1
          subst hn
          exact ms_min C hd ht (Nat.le_of_ble_eq_true g1) ⟨by omega, by omega⟩ hcs (ih _ _ _ _ hw hr)
        · exact hw.elim
      · have hw : mj_call (mj_Sp dd) (K nx) (z1 :: z2 :: zs) ls st M := mj_st3 hw
        rcases mj_call_of hw with ⟨g, nn, N, ha, hf, hc1, hk⟩ | ⟨g, nn, y, N, ha, hf, hc1, hk⟩
        · rw [ha] at hq hr
          have hr : (is.isEmpty && nx == pc + n) = true := hr
          have hq : (n == 3 && (Nat.blt g mj_mt.length && (mj_ML.contains (o, x, g) || (o == 1 && x == 85 && g == 23)) && mj_stc g && nn == mj_np.getD g 0 && 0 == mj_rk (mj_rt g))) = true := mj_ck3 hq
          simp only [Bool.and_eq_true, Bool.or_eq_true, beq_iff_eq] at hq hr hf
          obtain ⟨hn, ⟨⟨⟨h1, h2⟩, h3⟩, h4⟩, -⟩ := hq
          subst hn
          obtain ⟨-, rfl⟩ := hr
          exact mj_goS C hR hcs hcall hd (mj_blt h1) (h2.imp id (fun z => ⟨z.1.1, z.1.2, z.2⟩)) h3 h4 hf.1.1 hf.1.2 hf.2 hc1 (by intro q h; cases h) (hK _ _ _ _ hk)
        · rw [ha] at hq hr
          have hr : (is.isEmpty && nx == pc + n) = true := hr
          have hq : (n == 3 && (Nat.blt g mj_mt.length && (mj_ML.contains (o, x, g) || (o == 1 && x == 85 && g == 23)) && mj_stc g && nn == mj_np.getD g 0 && 1 == mj_rk (mj_rt g))) = true := mj_ck3 hq
          simp only [Bool.and_eq_true, Bool.or_eq_true, beq_iff_eq] at hq hr hf
          obtain ⟨hn, ⟨⟨⟨h1, h2⟩, h3⟩, h4⟩, -⟩ := hq
          subst hn
          obtain ⟨-, rfl⟩ := hr
          exact mj_goS C hR hcs hcall hd (mj_blt h1) (h2.imp id (fun z => ⟨z.1.1, z.1.2, z.2⟩)) h3 h4 hf.1.1 hf.1.2 hf.2 hc1 (by intro q h; cases h) (hK _ _ _ _ hk)
      
    | ireturn =>
      match st, hw with
      | [.inl x], hw =>
        have hq : (n == 1 && ((decide (rt = some .int) && a == []) || (decide (rt = some .boolean) && a == [1]))) = true := hq
        simp only [Bool.and_eq_true, Bool.or_eq_true, beq_iff_eq, decide_eq_true_eq] at hq
        obtain ⟨hn, hq1⟩ := hq
        subst hn
        rcases hq1 with ⟨e1, rfl⟩ | ⟨e1, rfl⟩
        · exact hRi _ _ _ _ hd (Or.inl e1) hw
        · exact hRi _ _ _ _ hd (Or.inr ⟨e1, hw.1⟩) hw.2
      | [], hw => exact hw.elim
      | [.inr _], hw => exact hw.elim
      | .inl _ :: _ :: _, hw => exact hw.elim
      | .inr _ :: _ :: _, hw => exact hw.elim
      
    | return_ =>
      match st, hw with
      | [], hw =>
        have hq : (n == 1 && decide (rt = none)) = true := hq
        rw [Bool.and_eq_true] at hq
        have hn : n = 1 := beq_iff_eq.mp hq.1
        subst hn
        exact hRv _ _ _ hd (of_decide_eq_true hq.2) hw
      | _ :: _, hw => exact hw.elim
      
    | _ => exact hw.elim
end MV
