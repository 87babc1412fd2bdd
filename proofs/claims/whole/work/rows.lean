section
/-! The small machine: values, memory as numbers at places (part, tag, sub, index), straight rows of instructions as a predicate. -/
abbrev mj_Id : Type := Nat × Nat × Nat
abbrev mj_V : Type := Int32 ⊕ (Int64 ⊕ mj_Id)
abbrev mj_S : Type := Nat → Nat → Nat → Int32
abbrev mj_M : Type := Nat → mj_S
abbrev mj_L : Type := List (Option mj_V)
abbrev mj_I : Type := Instr × List Nat
abbrev mj_i (x : Int32) : mj_V := .inl x
abbrev mj_l (x : Int64) : mj_V := .inr (.inl x)
abbrev mj_r (q : mj_Id) : mj_V := .inr (.inr q)
/-- one place of a part -/
def mj_us (σ : mj_S) (t c j : Nat) (v : Int32) : mj_S := fun t' c' j' => if t' = t ∧ c' = c ∧ j' = j then v else σ t' c' j'
/-- one part -/
def mj_up (M : mj_M) (i : Nat) (σ : mj_S) : mj_M := fun i' => if i' = i then σ else M i'
/-- the reference's row `now` (and its copy): where its numbers are -/
def mj_nloc (j : Nat) : Nat × Nat × Nat :=
  if j < 6 then (2, 0, j) else if j < 12 then (3, 0, j - 6) else if j < 18 then (1, 0, j - 12) else if j < 42 then (4, (j - 18) % 6, (j - 18) / 6) else if j < 46 then (6, 0, j - 42) else if j < 50 then (8, 0, j - 46) else if j < 75 then (9, 0, j - 50) else (0, 0, 2)
/-- the reference's image -/
def mj_iloc (i j : Nat) : Nat × Nat × Nat × Nat :=
  if j < 76 then (i, mj_nloc j) else if j < 80 then (i, 5, 0, j - 76) else if j < 84 then (i, 7, 0, j - 80) else if j < 96 then (36, 11, 0, j - 84) else if j < 108 then (36, 12, 0, j - 96) else if j = 108 then (i, 0, 0, 0) else if j = 109 then (i, 0, 0, 1) else (36, 10, 0, 0)
def mj_aloc (q : mj_Id) (j : Nat) : Nat × Nat × Nat × Nat := match q.2.1 with
  | 61 => (q.1, mj_nloc j)
  | 62 => mj_iloc q.1 j
  | _ => (q.1, q.2.1, q.2.2, j)
def mj_rd (M : mj_M) (q : mj_Id) (j : Nat) : Int32 := M (mj_aloc q j).1 (mj_aloc q j).2.1 (mj_aloc q j).2.2.1 (mj_aloc q j).2.2.2
def mj_wl (M : mj_M) (l : Nat × Nat × Nat × Nat) (v : Int32) : mj_M := mj_up M l.1 (mj_us (M l.1) l.2.1 l.2.2.1 l.2.2.2 v)
def mj_wr (M : mj_M) (q : mj_Id) (j : Nat) (v : Int32) : mj_M := mj_wl M (mj_aloc q j) v
/-- how long an array is, by its tag -/
def mj_tl : List (Nat × Nat) := [(1, 6), (2, 6), (3, 6), (13, 6), (4, 4), (5, 4), (6, 4), (7, 4), (8, 4), (9, 25), (11, 12), (12, 12), (23, 6), (24, 10), (25, 7), (26, 10), (27, 6), (31, 7), (33, 6), (34, 64), (35, 7), (36, 4), (37, 7), (38, 7), (39, 7), (40, 7), (41, 4), (46, 48), (48, 25), (49, 4), (61, 76), (62, 111), (64, 48), (65, 24), (66, 6), (67, 49), (68, 49), (69, 4), (70, 4), (71, 100), (72, 25), (80, 4), (81, 4)]
def mj_len (M : mj_M) (q : mj_Id) : Nat := match q.2.1 with
  | 82 => (M 41 83 0 0).toNatClampNeg
  | t => (mj_tl.lookup t).getD 0
/-- what an array of references holds -/
def mj_el (q : mj_Id) (j : Nat) : Option mj_Id := match q.2.1 with
  | 13 => some (q.1, 4, j)
  | 23 => some (q.1, 24, j)
  | 25 => some (q.1, 26, j)
  | 33 => some (q.1, 34, j)
  | 37 => some (q.1, 38, j)
  | 39 => some (q.1, 40, j)
  | 49 => some (q.1, 47, j)
  | _ => none
/-- what an object's field is: a number at a place, or another cell -/
def mj_fd (q : mj_Id) (k : Nat) : Option ((Nat × Nat × Nat × Nat) ⊕ mj_Id) := match q.2.1 with
  | 0 => match k with
    | 0 => some (.inl (q.1, 0, 0, 0))
    | 1 => some (.inr (q.1, 1, 0))
    | 2 => some (.inr (q.1, 2, 0))
    | 3 => some (.inr (q.1, 3, 0))
    | 4 => some (.inr (q.1, 13, 0))
    | 5 => some (.inl (q.1, 0, 0, 1))
    | 6 => some (.inr (q.1, 5, 0))
    | 7 => some (.inr (q.1, 6, 0))
    | 8 => some (.inr (q.1, 7, 0))
    | 9 => some (.inr (q.1, 8, 0))
    | 10 => some (.inr (q.1, 9, 0))
    | 11 => some (.inr (20 + q.1, 10, 0))
    | 12 => some (.inl (q.1, 0, 0, 2))
    | 13 => some (.inl (q.1, 0, 0, 3))
    | _ => none
  | 10 => match k with
    | 0 => some (.inr (q.1, 11, 0))
    | 1 => some (.inr (q.1, 12, 0))
    | 2 => some (.inl (q.1, 10, 0, 0))
    | _ => none
  | 20 => match k with
    | 0 => some (.inr (q.1, 0, 0))
    | _ => none
  | 21 => match k with
    | 0 => some (.inr (3, 20, 0))
    | 1 => some (.inr (q.1, 23, 0))
    | 2 => some (.inr (q.1, 25, 0))
    | 3 => some (.inr (q.1, 27, 0))
    | _ => none
  | 30 => match k with
    | 0 => some (.inr (4, 20, 0))
    | 1 => some (.inr (q.1, 31, 0))
    | 2 => some (.inl (q.1, 30, 0, 0))
    | 3 => some (.inr (q.1, 33, 0))
    | 4 => some (.inr (q.1, 35, 0))
    | 5 => some (.inr (q.1, 36, 0))
    | 6 => some (.inr (q.1, 37, 0))
    | 7 => some (.inr (q.1, 39, 0))
    | 8 => some (.inl (q.1, 30, 0, 1))
    | 9 => some (.inr (q.1, 41, 0))
    | _ => none
  | 45 => match k with
    | 0 => some (.inr (q.1, 46, 0))
    | 1 => some (.inl (q.1, 45, 0, 0))
    | _ => none
  | 47 => match k with
    | 0 => some (.inr (q.1, 48, q.2.2))
    | 1 => some (.inl (q.1, 47, q.2.2, 0))
    | 2 => some (.inl (q.1, 47, q.2.2, 1))
    | 3 => some (.inl (q.1, 47, q.2.2, 2))
    | _ => none
  | 50 => match k with
    | 0 => some (.inr (0, 0, 0))
    | 1 => some (.inr (1, 0, 0))
    | 2 => some (.inr (2, 20, 0))
    | 3 => some (.inr (11, 21, 0))
    | 4 => some (.inr (12, 30, 0))
    | 5 => some (.inr (6, 45, 0))
    | 6 => some (.inr (25, 10, 0))
    | 7 => some (.inr (7, 49, 0))
    | 8 => some (.inl (13, 50, 0, 0))
    | _ => none
  | 60 => match k with
    | 0 => some (.inr (14, 61, 0))
    | 1 => some (.inl (14, 0, 0, 0))
    | 2 => some (.inl (14, 0, 0, 1))
    | 3 => some (.inr (14, 5, 0))
    | 4 => some (.inr (14, 7, 0))
    | 5 => some (.inl (34, 10, 0, 0))
    | 6 => some (.inr (34, 11, 0))
    | 7 => some (.inr (34, 12, 0))
    | 8 => some (.inl (14, 0, 0, 3))
    | 9 => some (.inr (32, 64, 0))
    | 10 => some (.inl (32, 63, 0, 0))
    | 11 => some (.inl (33, 63, 0, 0))
    | 12 => some (.inl (33, 63, 0, 1))
    | 13 => some (.inr (33, 65, 0))
    | 14 => some (.inr (15, 61, 0))
    | 15 => some (.inr (33, 66, 0))
    | 16 => some (.inr (33, 67, 0))
    | 17 => some (.inr (33, 68, 0))
    | 18 => some (.inr (16, 62, 0))
    | 19 => some (.inl (31, 63, 0, 0))
    | 20 => some (.inl (16, 0, 0, 3))
    | 21 => some (.inr (35, 69, 0))
    | 22 => some (.inr (35, 70, 0))
    | 23 => some (.inr (35, 71, 0))
    | 24 => some (.inr (33, 72, 0))
    | _ => none
  | _ => none
/-- the class of an object, by its tag -/
def mj_ci (t : Nat) : Nat := match t with
  | 0 => 1
  | 10 => 6
  | 20 => 0
  | 21 => 4
  | 30 => 2
  | 45 => 5
  | 47 => 3
  | 50 => 7
  | 60 => 8
  | _ => 99
def mj_k (a : List Nat) : Int32 := match a with
  | [n] => nI n
  | n :: _ => -(nI n)
  | [] => 0
def mj_kl (a : List Nat) : Int64 := match a with
  | [n] => lN n
  | n :: _ => -(lN n)
  | [] => 0
def mj_cmp (c : ClassFile.Cond) (x y : Int32) : Prop := match c with
  | .eq => x = y
  | .ne => ¬ x = y
  | .lt => x < y
  | .ge => y ≤ x
  | .gt => y < x
  | .le => x ≤ y
def mj_p1 (st : List mj_V) (k : Int32 → List mj_V → Prop) : Prop := match st with
  | .inl x :: r => k x r
  | _ => False
def mj_p2 (st : List mj_V) (k : Int32 → Int32 → List mj_V → Prop) : Prop := match st with
  | .inl y :: .inl x :: r => k x y r
  | _ => False
def mj_pl (st : List mj_V) (k : Int64 → List mj_V → Prop) : Prop := match st with
  | .inr (.inl x) :: r => k x r
  | _ => False
def mj_pl2 (st : List mj_V) (k : Int64 → Int64 → List mj_V → Prop) : Prop := match st with
  | .inr (.inl y) :: .inr (.inl x) :: r => k x y r
  | _ => False
def mj_pli (st : List mj_V) (k : Int64 → Int32 → List mj_V → Prop) : Prop := match st with
  | .inl y :: .inr (.inl x) :: r => k x y r
  | _ => False
def mj_pr (st : List mj_V) (k : mj_Id → List mj_V → Prop) : Prop := match st with
  | .inr (.inr q) :: r => k q r
  | _ => False
def mj_pri (st : List mj_V) (k : mj_Id → Int32 → List mj_V → Prop) : Prop := match st with
  | .inl j :: .inr (.inr q) :: r => k q j r
  | _ => False
def mj_prii (st : List mj_V) (k : mj_Id → Int32 → Int32 → List mj_V → Prop) : Prop := match st with
  | .inl v :: .inl j :: .inr (.inr q) :: r => k q j v r
  | _ => False
def mj_pcp (st : List mj_V) (k : mj_Id → Int32 → mj_Id → Int32 → Int32 → List mj_V → Prop) : Prop := match st with
  | .inl n :: .inl d :: .inr (.inr qd) :: .inl s :: .inr (.inr qs) :: r => k qs s qd d n r
  | _ => False
def mj_li (ls : mj_L) (i : Nat) (k : Int32 → Prop) : Prop := match ls[i]? with
  | some (some (.inl x)) => k x
  | _ => False
def mj_ll (ls : mj_L) (i : Nat) (k : Int64 → Prop) : Prop := match ls[i]? with
  | some (some (.inr (.inl x))) => k x
  | _ => False
def mj_lr (ls : mj_L) (i : Nat) (k : mj_Id → Prop) : Prop := match ls[i]? with
  | some (some (.inr (.inr x))) => k x
  | _ => False
def mj_si (ls : mj_L) (i : Nat) (x : mj_V) (k : mj_L → Prop) : Prop := Nat.blt i ls.length = true ∧ k (ls.set i (some x))
/-- a number that is a truth value -/
def mj_bo (b : Nat) (x : Int32) (p : Prop) : Prop := match b with
  | 1 => (x = 0 ∨ x = 1) ∧ p
  | _ => p
def mj_cp (M : mj_M) (qs qd : mj_Id) (s d n : Nat) : mj_M := mj_up M qd.1 (fun t c j => if t = qd.2.1 ∧ c = qd.2.2 ∧ d ≤ j ∧ j < d + n then M qs.1 qs.2.1 qs.2.2 (s + (j - d)) else M qd.1 t c j)
def mj_sw (x : Int32) (ks : List (Int32 × Nat)) (d : Nat) (K : Nat → Prop) : Prop := match ks with
  | [] => K d
  | (k, t) :: r => (x = k → K t) ∧ (¬ x = k → mj_sw x r d K)
/-- the switch's keys: of a table from its lowest on, of pairs the written ones -/
def mj_tk (lo : Nat) (ts : List Nat) : List (Int32 × Nat) := match ts with
  | [] => []
  | t :: r => (nI lo, t) :: mj_tk (lo + 1) r
def mj_lk (ps : List (Int × Int)) (ts : List Nat) : List (Int32 × Nat) := match ps, ts with
  | p :: ps, t :: ts => (nI p.1.toNat, t) :: mj_lk ps ts
  | _, _ => []
def mj_call (C : Nat → List mj_V → mj_M → Option mj_V → mj_M → Prop) (K : mj_L → List mj_V → mj_M → Prop) (a : List Nat) (ls : mj_L) (st : List mj_V) (M : mj_M) : Prop := match a with
  | [f, n, 0] => Nat.ble n st.length = true ∧ ∃ M' : mj_M, C f (st.take n).reverse M none M' ∧ K ls (st.drop n) M'
  | [f, n, 1] => Nat.ble n st.length = true ∧ ∃ (y : Int32) (M' : mj_M), C f (st.take n).reverse M (some (.inl y)) M' ∧ K ls (.inl y :: st.drop n) M'
  | _ => False
/-- one instruction: k goes on with the row, K is what holds at a label, R at a return, C at a call; nd: a native frame fits -/
def mj_w1 (C : Nat → List mj_V → mj_M → Option mj_V → mj_M → Prop) (K : Nat → mj_L → List mj_V → mj_M → Prop) (R : Option mj_V → mj_M → Prop) (nd : Prop) (nx : Nat) (i : Instr) (a : List Nat) (ls : mj_L) (st : List mj_V) (M : mj_M) (k : mj_L → List mj_V → mj_M → Prop) : Prop := match i with
  | .iconst _ => k ls (.inl (mj_k a) :: st) M
  | .bipush _ => k ls (.inl (mj_k a) :: st) M
  | .sipush _ => k ls (.inl (mj_k a) :: st) M
  | .ldc _ => k ls (.inl (mj_k a) :: st) M
  | .ldc2_w _ => k ls (.inr (.inl (mj_kl a)) :: st) M
  | .lconst n => k ls (.inr (.inl (Int64.ofNat n.val)) :: st) M
  | .iload j => mj_li ls j fun x => k ls (.inl x :: st) M
  | .iload_n j => mj_li ls j.val fun x => k ls (.inl x :: st) M
  | .lload j => mj_ll ls j fun x => k ls (.inr (.inl x) :: st) M
  | .lload_n j => mj_ll ls j.val fun x => k ls (.inr (.inl x) :: st) M
  | .aload j => mj_lr ls j fun x => k ls (.inr (.inr x) :: st) M
  | .aload_n j => mj_lr ls j.val fun x => k ls (.inr (.inr x) :: st) M
  | .istore j => mj_p1 st fun x r => mj_si ls j (.inl x) fun ls => k ls r M
  | .istore_n j => mj_p1 st fun x r => mj_si ls j.val (.inl x) fun ls => k ls r M
  | .astore j => mj_pr st fun x r => mj_si ls j (.inr (.inr x)) fun ls => k ls r M
  | .astore_n j => mj_pr st fun x r => mj_si ls j.val (.inr (.inr x)) fun ls => k ls r M
  | .iinc j _ => mj_li ls j fun x => mj_si ls j (.inl (x + mj_k a)) fun ls => k ls st M
  | .iadd => mj_p2 st fun x y r => k ls (.inl (x + y) :: r) M
  | .isub => mj_p2 st fun x y r => k ls (.inl (x - y) :: r) M
  | .imul => mj_p2 st fun x y r => k ls (.inl (x * y) :: r) M
  | .iand => mj_p2 st fun x y r => k ls (.inl (x &&& y) :: r) M
  | .ior => mj_p2 st fun x y r => k ls (.inl (x ||| y) :: r) M
  | .ixor => mj_p2 st fun x y r => k ls (.inl (x ^^^ y) :: r) M
  | .ishl => mj_p2 st fun x y r => k ls (.inl (x <<< (y &&& 31)) :: r) M
  | .ishr => mj_p2 st fun x y r => k ls (.inl (x >>> (y &&& 31)) :: r) M
  | .idiv => mj_p2 st fun x y r => ¬ y = 0 ∧ k ls (.inl (x / y) :: r) M
  | .irem => mj_p2 st fun x y r => ¬ y = 0 ∧ k ls (.inl (x % y) :: r) M
  | .ladd => mj_pl2 st fun x y r => k ls (.inr (.inl (x + y)) :: r) M
  | .lmul => mj_pl2 st fun x y r => k ls (.inr (.inl (x * y)) :: r) M
  | .land => mj_pl2 st fun x y r => k ls (.inr (.inl (x &&& y)) :: r) M
  | .lor => mj_pl2 st fun x y r => k ls (.inr (.inl (x ||| y)) :: r) M
  | .lcmp => mj_pl2 st fun x y r => k ls (.inl (lg_cmp x y) :: r) M
  | .lshl => mj_pli st fun x y r => k ls (.inr (.inl (x <<< (y.toInt64 &&& 63))) :: r) M
  | .lshr => mj_pli st fun x y r => k ls (.inr (.inl (x >>> (y.toInt64 &&& 63))) :: r) M
  | .lushr => mj_pli st fun x y r => k ls (.inr (.inl (x.toUInt64 >>> (y.toInt64.toUInt64 &&& Int64.toUInt64 63)).toInt64) :: r) M
  | .i2l => mj_p1 st fun x r => k ls (.inr (.inl x.toInt64) :: r) M
  | .l2i => mj_pl st fun x r => k ls (.inl x.toInt32 :: r) M
  | .i2b => mj_p1 st fun x r => k ls (.inl x.toInt8.toInt32 :: r) M
  | .i2s => mj_p1 st fun x r => k ls (.inl x.toInt16.toInt32 :: r) M
  | .dup => match st with
    | .inl x :: r => k ls (.inl x :: .inl x :: r) M
    | .inr (.inr x) :: r => k ls (.inr (.inr x) :: .inr (.inr x) :: r) M
    | _ => False
  | .dup2 => mj_pri st fun q j r => k ls (.inl j :: .inr (.inr q) :: .inl j :: .inr (.inr q) :: r) M
  | .pop => mj_p1 st fun _ r => k ls r M
  | .getfield _ => mj_pr st fun q r => a[0]? = some (mj_ci q.2.1) ∧ match mj_fd q (a.getD 1 0) with
    | some (.inl l) => k ls (.inl (M l.1 l.2.1 l.2.2.1 l.2.2.2) :: r) M
    | some (.inr q') => k ls (.inr (.inr q') :: r) M
    | none => False
  | .putfield _ => match st with
    | .inl x :: .inr (.inr q) :: r => a[0]? = some (mj_ci q.2.1) ∧ match mj_fd q (a.getD 1 0) with
      | some (.inl l) => mj_bo (a.getD 2 0) x (k ls r (mj_wl M l x))
      | _ => False
    | _ => False
  | .getstatic _ => k ls (.inr (.inr (40, a.getD 0 0, 0)) :: st) M
  | .iaload => mj_pri st fun q j r => vp_in j (mj_len M q) ∧ k ls (.inl (mj_rd M q j.toNatClampNeg) :: r) M
  | .iastore => mj_prii st fun q j v r => Nat.blt q.2.1 80 = true ∧ vp_in j (mj_len M q) ∧ k ls r (mj_wr M q j.toNatClampNeg v)
  | .aaload => mj_pri st fun q j r => vp_in j (mj_len M q) ∧ match mj_el q j.toNatClampNeg with
    | some q' => k ls (.inr (.inr q') :: r) M
    | none => False
  | .arraylength => mj_pr st fun q r => k ls (.inl (nI (mj_len M q)) :: r) M
  | .goto _ => K (a.getD 0 0) ls st M
  | .if_icmp c _ => mj_p2 st fun x y r => (mj_cmp c x y → K (a.getD 0 0) ls r M) ∧ (¬ mj_cmp c x y → k ls r M)
  | .ifCond c _ => mj_p1 st fun x r => (mj_cmp c x 0 → K (a.getD 0 0) ls r M) ∧ (¬ mj_cmp c x 0 → k ls r M)
  | .tableswitch _ lo _ _ => mj_p1 st fun x r => mj_sw x (mj_tk lo.toNat a.tail) (a.getD 0 0) fun t => K t ls r M
  | .lookupswitch _ ps => mj_p1 st fun x r => mj_sw x (mj_lk ps.toList a.tail) (a.getD 0 0) fun t => K t ls r M
  | .invokevirtual _ => mj_call C (K nx) a ls st M
  | .invokestatic _ => match a with
    | [] => mj_pcp st fun qs s qd d n r => nd ∧ Nat.blt qs.2.1 60 = true ∧ Nat.blt qd.2.1 60 = true ∧ ¬ s < 0 ∧ ¬ d < 0 ∧ ¬ n < 0 ∧ s.toNatClampNeg + n.toNatClampNeg ≤ mj_len M qs ∧ d.toNatClampNeg + n.toNatClampNeg ≤ mj_len M qd ∧ k ls r (mj_cp M qs qd s.toNatClampNeg d.toNatClampNeg n.toNatClampNeg)
    | _ => mj_call C (K nx) a ls st M
  | .ireturn => match st with
    | [.inl x] => mj_bo (a.getD 0 0) x (R (some (.inl x)) M)
    | _ => False
  | .return_ => match st with
    | [] => R none M
    | _ => False
  | _ => False
def mj_w (C : Nat → List mj_V → mj_M → Option mj_V → mj_M → Prop) (K : Nat → mj_L → List mj_V → mj_M → Prop) (R : Option mj_V → mj_M → Prop) (nd : Prop) (nx : Nat) (is : List mj_I) (ls : mj_L) (st : List mj_V) (M : mj_M) : Prop := match is with
  | [] => K nx ls st M
  | i :: is => mj_w1 C K R nd nx i.1 i.2 ls st M (fun ls st M => mj_w C K R nd nx is ls st M)
abbrev mj_C : Type := List (Nat × List mj_I × Nat)
/-- the row at a label; a label that is none has a row that never holds -/
def mj_b (c : mj_C) (pc : Nat) : List mj_I × Nat := (c.lookup pc).getD ([(.nop, [])], 0)
/-- what of a part's numbers counts -/
def mj_ok (t c j : Nat) : Bool := match t with
  | 0 => c == 0 && Nat.blt j 4
  | 1 => c == 0 && Nat.blt j 6
  | 2 => c == 0 && Nat.blt j 6
  | 3 => c == 0 && Nat.blt j 6
  | 4 => Nat.blt c 6 && Nat.blt j 4
  | 5 => c == 0 && Nat.blt j 4
  | 6 => c == 0 && Nat.blt j 4
  | 7 => c == 0 && Nat.blt j 4
  | 8 => c == 0 && Nat.blt j 4
  | 9 => c == 0 && Nat.blt j 25
  | 10 => c == 0 && j == 0
  | 11 => c == 0 && Nat.blt j 12
  | 12 => c == 0 && Nat.blt j 12
  | _ => true
def mj_eq (M N : mj_M) : Prop := ∀ i t c j : Nat, mj_ok t c j = true → M i t c j = N i t c j
theorem mj_eq.rf {M : mj_M} : mj_eq M M := fun _ _ _ _ _ => rfl
theorem mj_eq.of {M N : mj_M} (h : M = N) : mj_eq M N := h ▸ mj_eq.rf
theorem mj_eq.tr {M N L : mj_M} (h : mj_eq M N) (g : mj_eq N L) : mj_eq M L := fun i t c j k => (h i t c j k).trans (g i t c j k)
theorem mj_eq.sy {M N : mj_M} (h : mj_eq M N) : mj_eq N M := fun i t c j k => (h i t c j k).symm
/-- the locals of a method at its start -/
def mj_av (vs : List mj_V) : mj_L := match vs with
  | [] => []
  | v :: r => match v with
    | .inr (.inl w) => some (.inr (.inl w)) :: none :: mj_av r
    | v => some v :: mj_av r
def mj_ent (n : Nat) (vs : List mj_V) : mj_L := mj_av vs ++ List.replicate (n - (mj_av vs).length) none
def mj_Cl (c : mj_C) (C : Nat → List mj_V → mj_M → Option mj_V → mj_M → Prop) (nd : Prop) (P : Nat → mj_L → List mj_V → mj_M → Prop) (R : Option mj_V → mj_M → Prop) : Prop :=
  ∀ (pc : Nat) (ls : mj_L) (st : List mj_V) (M : mj_M), mj_w C P R nd (mj_b c pc).2 (mj_b c pc).1 ls st M → P pc ls st M
end
section
def mj_c0 : mj_C := [(0, [(.iload_n 1, []), (.iconst 0, [0]), (.iconst 3, [3]), (.invokestatic 65, [29, 3, 1])], 6),
  (6, [(.ifCond .ne 24, [30]), (.iload_n 2, []), (.iconst 0, [0]), (.bipush 24, [24]), (.invokestatic 65, [29, 3, 1])], 16),
  (16, [(.ifCond .ne 14, [30]), (.iload_n 3, []), (.iconst 1, [1]), (.sipush 999, [999]), (.invokestatic 65, [29, 3, 1])], 27),
  (27, [(.ifCond .eq 5, [32])], 30),
  (30, [(.iconst (-1), [1, 1]), (.ireturn, [])], 0),
  (32, [(.aload_n 0, []), (.getfield 10, [7, 0]), (.getfield 69, [1, 0]), (.bipush 6, [6]), (.if_icmp .lt 6, [47]), (.bipush (-3), [3, 1]), (.ireturn, [])], 0),
  (47, [(.aload_n 0, []), (.getfield 10, [7, 0]), (.iload_n 1, []), (.iload_n 2, []), (.iload_n 3, []), (.invokevirtual 73, [41, 4, 1])], 57),
  (57, [(.ireturn, [])], 0)]
def mj_c1 : mj_C := [(0, [(.iload_n 1, []), (.iconst 0, [0]), (.bipush 24, [24]), (.invokestatic 65, [29, 3, 1])], 7),
  (7, [(.ifCond .ne 23, [30]), (.iload_n 2, []), (.iconst 0, [0]), (.bipush 9, [9]), (.invokestatic 65, [29, 3, 1])], 17),
  (17, [(.ifCond .ne 13, [30]), (.iload_n 3, []), (.iconst 0, [0]), (.bipush 99, [99]), (.invokestatic 65, [29, 3, 1])], 27),
  (27, [(.ifCond .eq 5, [32])], 30),
  (30, [(.iconst (-1), [1, 1]), (.ireturn, [])], 0),
  (32, [(.aload_n 0, []), (.getfield 10, [7, 0]), (.iload_n 1, []), (.invokevirtual 77, [40, 2, 1])], 40),
  (40, [(.ifCond .lt 6, [46]), (.bipush (-2), [2, 1]), (.ireturn, [])], 0),
  (46, [(.aload_n 0, []), (.getfield 10, [7, 0]), (.getfield 81, [1, 5]), (.iconst 4, [4]), (.if_icmp .lt 6, [60]), (.bipush (-3), [3, 1]), (.ireturn, [])], 0),
  (60, [(.aload_n 0, []), (.getfield 10, [7, 0]), (.iload_n 1, []), (.iload_n 2, []), (.iload_n 3, []), (.invokevirtual 84, [42, 4, 1])], 70),
  (70, [(.ireturn, [])], 0)]
def mj_c2 : mj_C := [(0, [(.aload_n 0, []), (.getfield 10, [7, 0]), (.iload_n 1, []), (.invokevirtual 87, [37, 2, 1])], 8),
  (8, [(.ifCond .ne 5, [13]), (.iconst (-1), [1, 1]), (.ireturn, [])], 0),
  (13, [(.iload_n 2, []), (.tableswitch 69 0 3 #[30, 40, 50, 60], [83, 44, 54, 64, 74])], 0),
  (44, [(.aload_n 0, []), (.getfield 10, [7, 0]), (.getfield 91, [1, 1]), (.iload_n 1, []), (.iaload, []), (.ireturn, [])], 0),
  (54, [(.aload_n 0, []), (.getfield 10, [7, 0]), (.getfield 95, [1, 2]), (.iload_n 1, []), (.iaload, []), (.ireturn, [])], 0),
  (64, [(.aload_n 0, []), (.getfield 10, [7, 0]), (.getfield 98, [1, 3]), (.iload_n 1, []), (.iaload, []), (.ireturn, [])], 0),
  (74, [(.aload_n 0, []), (.getfield 10, [7, 0]), (.iload_n 1, []), (.invokevirtual 101, [43, 2, 1])], 82),
  (82, [(.ireturn, [])], 0),
  (83, [(.iconst (-1), [1, 1]), (.ireturn, [])], 0)]
def mj_c3 : mj_C := [(0, [(.aload_n 0, []), (.getfield 10, [7, 0]), (.iload_n 1, []), (.invokevirtual 104, [39, 2, 1])], 8),
  (8, [(.ifCond .ne 5, [13]), (.iconst (-1), [1, 1]), (.ireturn, [])], 0),
  (13, [(.iload_n 2, []), (.tableswitch 93 0 4 #[34, 44, 54, 64, 74], [107, 48, 58, 68, 78, 88])], 0),
  (48, [(.aload_n 0, []), (.getfield 10, [7, 0]), (.getfield 107, [1, 6]), (.iload_n 1, []), (.iaload, []), (.ireturn, [])], 0),
  (58, [(.aload_n 0, []), (.getfield 10, [7, 0]), (.getfield 110, [1, 7]), (.iload_n 1, []), (.iaload, []), (.ireturn, [])], 0),
  (68, [(.aload_n 0, []), (.getfield 10, [7, 0]), (.getfield 113, [1, 8]), (.iload_n 1, []), (.iaload, []), (.ireturn, [])], 0),
  (78, [(.aload_n 0, []), (.getfield 10, [7, 0]), (.getfield 116, [1, 9]), (.iload_n 1, []), (.iaload, []), (.ireturn, [])], 0),
  (88, [(.aload_n 0, []), (.getfield 10, [7, 0]), (.getfield 110, [1, 7]), (.iload_n 1, []), (.iaload, []), (.aload_n 0, []), (.getfield 10, [7, 0]), (.iload_n 1, []), (.invokevirtual 119, [44, 2, 1])], 105),
  (105, [(.isub, []), (.ireturn, [])], 0),
  (107, [(.iconst (-1), [1, 1]), (.ireturn, [])], 0)]
def mj_c4 : mj_C := [(0, [(.aload_n 0, []), (.getfield 10, [7, 0]), (.iload_n 1, []), (.invokevirtual 104, [39, 2, 1])], 8),
  (8, [(.ifCond .eq 31, [39]), (.iload_n 2, []), (.iconst 0, [0]), (.iconst 1, [1]), (.invokestatic 65, [29, 3, 1])], 17),
  (17, [(.ifCond .ne 22, [39]), (.iload_n 3, []), (.iconst 0, [0]), (.iload_n 2, []), (.ifCond .ne 8, [31]), (.bipush 9, [9]), (.goto 5, [33])], 0),
  (31, [(.bipush 99, [99])], 33),
  (33, [(.invokestatic 65, [29, 3, 1])], 36),
  (36, [(.ifCond .eq 5, [41])], 39),
  (39, [(.iconst (-1), [1, 1]), (.ireturn, [])], 0),
  (41, [(.iload_n 2, []), (.iconst 1, [1]), (.if_icmp .ne 27, [70]), (.aload_n 0, []), (.getfield 10, [7, 0]), (.getfield 113, [1, 8]), (.iload_n 1, []), (.iaload, []), (.istore 4, []), (.aload_n 0, []), (.getfield 10, [7, 0]), (.getfield 113, [1, 8]), (.iload_n 1, []), (.iload_n 3, []), (.iastore, []), (.iload 4, []), (.ireturn, [])], 0),
  (70, [(.aload_n 0, []), (.getfield 10, [7, 0]), (.iload_n 1, []), (.invokevirtual 119, [44, 2, 1])], 78),
  (78, [(.iload_n 3, []), (.if_icmp .le 6, [85]), (.bipush (-2), [2, 1]), (.ireturn, [])], 0),
  (85, [(.aload_n 0, []), (.getfield 10, [7, 0]), (.getfield 110, [1, 7]), (.iload_n 1, []), (.iaload, []), (.istore 4, []), (.aload_n 0, []), (.getfield 10, [7, 0]), (.getfield 110, [1, 7]), (.iload_n 1, []), (.iload_n 3, []), (.iastore, []), (.iload 4, []), (.ireturn, [])], 0)]
def mj_c5 : mj_C := [(0, [(.aload_n 0, []), (.getfield 10, [7, 0]), (.iload_n 1, []), (.invokevirtual 104, [39, 2, 1])], 8),
  (8, [(.ifCond .eq 24, [32]), (.aload_n 0, []), (.getfield 10, [7, 0]), (.iload_n 2, []), (.invokevirtual 87, [37, 2, 1])], 19),
  (19, [(.ifCond .eq 13, [32]), (.iload_n 3, []), (.iconst 0, [0]), (.bipush 9, [9]), (.invokestatic 65, [29, 3, 1])], 29),
  (29, [(.ifCond .eq 5, [34])], 32),
  (32, [(.iconst (-1), [1, 1]), (.ireturn, [])], 0),
  (34, [(.aload_n 0, []), (.getfield 10, [7, 0]), (.iload_n 2, []), (.invokevirtual 122, [38, 2, 1])], 42),
  (42, [(.ifCond .ne 6, [48]), (.bipush (-2), [2, 1]), (.ireturn, [])], 0),
  (48, [(.aload_n 0, []), (.getfield 10, [7, 0]), (.getfield 125, [1, 4]), (.iload_n 2, []), (.aaload, []), (.iload_n 1, []), (.iaload, []), (.istore 4, []), (.aload_n 0, []), (.getfield 10, [7, 0]), (.iload_n 1, []), (.invokevirtual 119, [44, 2, 1])], 69),
  (69, [(.iload 4, []), (.isub, []), (.iload_n 3, []), (.iadd, []), (.aload_n 0, []), (.getfield 10, [7, 0]), (.getfield 110, [1, 7]), (.iload_n 1, []), (.iaload, []), (.if_icmp .le 6, [89]), (.bipush (-3), [3, 1]), (.ireturn, [])], 0),
  (89, [(.aload_n 0, []), (.getfield 10, [7, 0]), (.getfield 125, [1, 4]), (.iload_n 2, []), (.aaload, []), (.iload_n 1, []), (.iload_n 3, []), (.iastore, []), (.iload 4, []), (.ireturn, [])], 0)]
def mj_c6 : mj_C := [(0, [(.aload_n 0, []), (.getfield 10, [7, 0]), (.iload_n 1, []), (.invokevirtual 104, [39, 2, 1])], 8),
  (8, [(.ifCond .eq 14, [22]), (.aload_n 0, []), (.getfield 10, [7, 0]), (.iload_n 2, []), (.invokevirtual 87, [37, 2, 1])], 19),
  (19, [(.ifCond .ne 5, [24])], 22),
  (22, [(.iconst (-1), [1, 1]), (.ireturn, [])], 0),
  (24, [(.aload_n 0, []), (.getfield 10, [7, 0]), (.getfield 125, [1, 4]), (.iload_n 2, []), (.aaload, []), (.iload_n 1, []), (.iaload, []), (.ireturn, [])], 0)]
def mj_c7 : mj_C := [(0, [(.aload_n 0, []), (.getfield 10, [7, 0]), (.iload_n 1, []), (.invokevirtual 87, [37, 2, 1])], 8),
  (8, [(.ifCond .eq 19, [27]), (.aload_n 0, []), (.getfield 10, [7, 0]), (.iload_n 2, []), (.invokevirtual 87, [37, 2, 1])], 19),
  (19, [(.ifCond .eq 8, [27]), (.iload_n 1, []), (.iload_n 2, []), (.if_icmp .ne 5, [29])], 27),
  (27, [(.iconst (-1), [1, 1]), (.ireturn, [])], 0),
  (29, [(.aload_n 0, []), (.getfield 10, [7, 0]), (.iload_n 1, []), (.invokevirtual 122, [38, 2, 1])], 37),
  (37, [(.ifCond .eq 24, [61]), (.aload_n 0, []), (.getfield 10, [7, 0]), (.getfield 95, [1, 2]), (.iload_n 1, []), (.iaload, []), (.aload_n 0, []), (.getfield 10, [7, 0]), (.getfield 95, [1, 2]), (.iload_n 2, []), (.iaload, []), (.if_icmp .eq 6, [64])], 61),
  (61, [(.bipush (-2), [2, 1]), (.ireturn, [])], 0),
  (64, [(.aload_n 0, []), (.getfield 10, [7, 0]), (.iload_n 1, []), (.iload_n 2, []), (.invokevirtual 129, [47, 3, 0])], 73),
  (73, [(.aload_n 0, []), (.getfield 10, [7, 0]), (.getfield 98, [1, 3]), (.iload_n 1, []), (.iaload, []), (.ireturn, [])], 0)]
def mj_c8 : mj_C := [(0, [(.aload_n 0, []), (.getfield 10, [7, 0]), (.iload_n 1, []), (.invokevirtual 87, [37, 2, 1])], 8),
  (8, [(.ifCond .eq 14, [22]), (.iload_n 2, []), (.iconst 1, [1]), (.sipush 999, [999]), (.invokestatic 65, [29, 3, 1])], 19),
  (19, [(.ifCond .eq 5, [24])], 22),
  (22, [(.iconst (-1), [1, 1]), (.ireturn, [])], 0),
  (24, [(.aload_n 0, []), (.getfield 10, [7, 0]), (.iload_n 1, []), (.invokevirtual 122, [38, 2, 1])], 32),
  (32, [(.ifCond .eq 16, [48]), (.aload_n 0, []), (.getfield 10, [7, 0]), (.getfield 98, [1, 3]), (.iload_n 1, []), (.iaload, []), (.iload_n 2, []), (.if_icmp .gt 6, [51])], 48),
  (48, [(.bipush (-2), [2, 1]), (.ireturn, [])], 0),
  (51, [(.aload_n 0, []), (.getfield 10, [7, 0]), (.getfield 69, [1, 0]), (.bipush 6, [6]), (.if_icmp .lt 6, [66]), (.bipush (-3), [3, 1]), (.ireturn, [])], 0),
  (66, [(.aload_n 0, []), (.getfield 10, [7, 0]), (.getfield 98, [1, 3]), (.iload_n 1, []), (.dup2, []), (.iaload, []), (.iload_n 2, []), (.isub, []), (.iastore, []), (.aload_n 0, []), (.getfield 10, [7, 0]), (.aload_n 0, []), (.getfield 10, [7, 0]), (.getfield 91, [1, 1]), (.iload_n 1, []), (.iaload, []), (.aload_n 0, []), (.getfield 10, [7, 0]), (.getfield 95, [1, 2]), (.iload_n 1, []), (.iaload, []), (.iload_n 2, []), (.invokevirtual 73, [41, 4, 1])], 105),
  (105, [(.ireturn, [])], 0)]
def mj_c9 : mj_C := [(0, [(.aload_n 0, []), (.getfield 10, [7, 0]), (.iload_n 1, []), (.invokevirtual 87, [37, 2, 1])], 8),
  (8, [(.ifCond .ne 5, [13]), (.iconst (-1), [1, 1]), (.ireturn, [])], 0),
  (13, [(.aload_n 0, []), (.getfield 10, [7, 0]), (.iload_n 1, []), (.invokevirtual 122, [38, 2, 1])], 21),
  (21, [(.ifCond .ne 6, [27]), (.bipush (-2), [2, 1]), (.ireturn, [])], 0),
  (27, [(.aload_n 0, []), (.getfield 10, [7, 0]), (.getfield 91, [1, 1]), (.iload_n 1, []), (.iaload, []), (.istore_n 2, []), (.aload_n 0, []), (.getfield 10, [7, 0]), (.getfield 91, [1, 1]), (.iload_n 1, []), (.iconst 3, [3]), (.iastore, []), (.iload_n 2, []), (.ireturn, [])], 0)]
def mj_c10 : mj_C := [(0, [(.iload_n 3, []), (.iconst 1, [1]), (.bipush 8, [8]), (.invokestatic 65, [29, 3, 1])], 7),
  (7, [(.ifCond .eq 5, [12]), (.iconst (-1), [1, 1]), (.ireturn, [])], 0),
  (12, [(.iconst 0, [0]), (.istore 4, [])], 15),
  (15, [(.iload 4, []), (.iload_n 3, []), (.if_icmp .ge 27, [45]), (.lload_n 1, []), (.iload 4, []), (.invokestatic 133, [31, 2, 1])], 27),
  (27, [(.bipush 32, [32]), (.bipush 126, [126]), (.invokestatic 65, [29, 3, 1])], 34),
  (34, [(.ifCond .eq 5, [39]), (.iconst (-1), [1, 1]), (.ireturn, [])], 0),
  (39, [(.iinc 4 1, [1]), (.goto (-27), [15])], 0),
  (45, [(.aload_n 0, []), (.getfield 43, [7, 5]), (.getfield 137, [5, 1]), (.iload_n 3, []), (.iadd, []), (.bipush 48, [48]), (.if_icmp .le 6, [62]), (.bipush (-3), [3, 1]), (.ireturn, [])], 0),
  (62, [(.iload_n 3, []), (.iconst 1, [1]), (.isub, []), (.istore 4, [])], 67),
  (67, [(.iload 4, []), (.ifCond .lt 22, [91]), (.aload_n 0, []), (.getfield 43, [7, 5]), (.lload_n 1, []), (.iload 4, []), (.invokestatic 133, [31, 2, 1])], 82),
  (82, [(.invokevirtual 140, [78, 2, 0])], 85),
  (85, [(.iinc 4 (-1), [1, 1]), (.goto (-21), [67])], 0),
  (91, [(.aload_n 0, []), (.getfield 43, [7, 5]), (.getfield 137, [5, 1]), (.ireturn, [])], 0)]
def mj_c11 : mj_C := [(0, [(.aload_n 0, []), (.getfield 43, [7, 5]), (.aload_n 0, []), (.getfield 50, [7, 6]), (.invokevirtual 144, [79, 2, 1])], 11),
  (11, [(.istore_n 1, []), (.aload_n 0, []), (.getfield 43, [7, 5]), (.iconst 0, [0]), (.putfield 137, [5, 1, 0]), (.iload_n 1, []), (.ifCond .le 17, [38]), (.aload_n 0, []), (.getfield 10, [7, 0]), (.getfield 148, [1, 11]), (.aload_n 0, []), (.getfield 50, [7, 6]), (.invokevirtual 151, [85, 2, 0])], 38),
  (38, [(.iload_n 1, []), (.ireturn, [])], 0)]
def mj_c12 : mj_C := [(0, [(.iload_n 1, []), (.iconst 0, [0]), (.bipush 24, [24]), (.invokestatic 65, [29, 3, 1])], 7),
  (7, [(.ifCond .eq 7, [14]), (.iconst (-1), [1, 1]), (.goto 12, [23])], 0),
  (14, [(.aload_n 0, []), (.getfield 10, [7, 0]), (.getfield 155, [1, 10]), (.iload_n 1, []), (.iaload, [])], 23),
  (23, [(.ireturn, [])], 0)]
def mj_c13 : mj_C := [(0, [(.iload_n 1, []), (.tableswitch 122 0 7 #[47, 55, 63, 71, 82, 91, 100, 111], [123, 48, 56, 64, 72, 83, 92, 101, 112])], 0),
  (48, [(.aload_n 0, []), (.getfield 10, [7, 0]), (.invokevirtual 158, [45, 1, 1])], 55),
  (55, [(.ireturn, [])], 0),
  (56, [(.aload_n 0, []), (.getfield 10, [7, 0]), (.getfield 81, [1, 5]), (.ireturn, [])], 0),
  (64, [(.aload_n 0, []), (.getfield 10, [7, 0]), (.getfield 162, [1, 12]), (.ireturn, [])], 0),
  (72, [(.aload_n 0, []), (.getfield 10, [7, 0]), (.getfield 148, [1, 11]), (.getfield 165, [6, 2]), (.ireturn, [])], 0),
  (83, [(.aload_n 0, []), (.getfield 10, [7, 0]), (.iconst 1, [1]), (.invokevirtual 166, [46, 2, 1])], 91),
  (91, [(.ireturn, [])], 0),
  (92, [(.aload_n 0, []), (.getfield 10, [7, 0]), (.iconst 0, [0]), (.invokevirtual 166, [46, 2, 1])], 100),
  (100, [(.ireturn, [])], 0),
  (101, [(.aload_n 0, []), (.getfield 10, [7, 0]), (.getfield 155, [1, 10]), (.invokestatic 170, [32, 1, 1])], 111),
  (111, [(.ireturn, [])], 0),
  (112, [(.aload_n 0, []), (.getfield 10, [7, 0]), (.getfield 110, [1, 7]), (.invokestatic 170, [32, 1, 1])], 122),
  (122, [(.ireturn, [])], 0),
  (123, [(.iconst (-1), [1, 1]), (.ireturn, [])], 0)]
def mj_c14 : mj_C := [(0, [(.iload_n 1, []), (.iconst 1, [1]), (.bipush 60, [60]), (.invokestatic 65, [29, 3, 1])], 7),
  (7, [(.ifCond .eq 5, [12]), (.iconst (-1), [1, 1]), (.ireturn, [])], 0),
  (12, [(.aload_n 0, []), (.getfield 10, [7, 0]), (.getfield 162, [1, 12]), (.iload_n 1, []), (.iadd, []), (.sipush 9999, [9999]), (.if_icmp .le 6, [30]), (.bipush (-3), [3, 1]), (.ireturn, [])], 0),
  (30, [(.iconst 0, [0]), (.istore_n 2, []), (.iconst 0, [0]), (.istore_n 3, [])], 34),
  (34, [(.iload_n 3, []), (.iload_n 1, []), (.if_icmp .ge 53, [89]), (.iload_n 2, []), (.aload_n 0, []), (.getfield 10, [7, 0]), (.aload_n 0, []), (.getfield 10, [7, 0]), (.getfield 148, [1, 11]), (.aload_n 0, []), (.getfield 10, [7, 0]), (.getfield 162, [1, 12]), (.invokevirtual 174, [83, 2, 1])], 61),
  (61, [(.aload_n 0, []), (.getfield 10, [7, 0]), (.getfield 148, [1, 11]), (.aload_n 0, []), (.getfield 10, [7, 0]), (.getfield 162, [1, 12]), (.invokevirtual 177, [84, 2, 1])], 78),
  (78, [(.invokevirtual 180, [49, 3, 1])], 81),
  (81, [(.iadd, []), (.istore_n 2, []), (.iinc 3 1, [1]), (.goto (-52), [34])], 0),
  (89, [(.iload_n 2, []), (.ireturn, [])], 0)]
def mj_c15 : mj_C := [(0, [(.iload_n 1, []), (.iconst 1, [1]), (.bipush 60, [60]), (.invokestatic 65, [29, 3, 1])], 7),
  (7, [(.ifCond .eq 5, [12]), (.iconst (-1), [1, 1]), (.ireturn, [])], 0),
  (12, [(.aload_n 0, []), (.getfield 10, [7, 0]), (.getfield 162, [1, 12]), (.iload_n 1, []), (.iadd, []), (.sipush 9999, [9999]), (.if_icmp .le 6, [30]), (.bipush (-3), [3, 1]), (.ireturn, [])], 0),
  (30, [(.iconst 0, [0]), (.istore_n 2, []), (.iconst 0, [0]), (.istore_n 3, [])], 34),
  (34, [(.iload_n 3, []), (.iload_n 1, []), (.if_icmp .ge 36, [72]), (.aload_n 0, []), (.getfield 10, [7, 0]), (.invokevirtual 184, [48, 1, 1])], 46),
  (46, [(.istore 4, []), (.iload_n 2, []), (.aload_n 0, []), (.getfield 10, [7, 0]), (.iload 4, []), (.iconst 4, [4]), (.irem, []), (.iload 4, []), (.iconst 4, [4]), (.idiv, []), (.invokevirtual 180, [49, 3, 1])], 64),
  (64, [(.iadd, []), (.istore_n 2, []), (.iinc 3 1, [1]), (.goto (-35), [34])], 0),
  (72, [(.iload_n 2, []), (.ireturn, [])], 0)]
def mj_c16 : mj_C := [(0, [(.iload_n 1, []), (.ifCond .ge 5, [6]), (.iconst (-1), [1, 1]), (.ireturn, [])], 0),
  (6, [(.aload_n 0, []), (.getfield 10, [7, 0]), (.getfield 187, [1, 13]), (.istore_n 2, []), (.aload_n 0, []), (.getfield 10, [7, 0]), (.iload_n 1, []), (.putfield 187, [1, 13, 0]), (.iload_n 2, []), (.ireturn, [])], 0)]
def mj_c17 : mj_C := [(0, [(.aload_n 0, []), (.getfield 10, [7, 0]), (.iload_n 1, []), (.invokevirtual 104, [39, 2, 1])], 8),
  (8, [(.ifCond .eq 13, [21]), (.iload_n 2, []), (.iconst 1, [1]), (.bipush 24, [24]), (.invokestatic 65, [29, 3, 1])], 18),
  (18, [(.ifCond .eq 5, [23])], 21),
  (21, [(.iconst (-1), [1, 1]), (.ireturn, [])], 0),
  (23, [(.aload_n 0, []), (.getfield 22, [7, 2]), (.aload_n 0, []), (.getfield 10, [7, 0]), (.invokevirtual 190, [33, 2, 0])], 34),
  (34, [(.iconst 0, [0]), (.istore_n 3, [])], 36),
  (36, [(.iload_n 3, []), (.aload_n 0, []), (.getfield 10, [7, 0]), (.getfield 69, [1, 0]), (.if_icmp .ge 18, [62]), (.aload_n 0, []), (.getfield 22, [7, 2]), (.iload_n 3, []), (.iload_n 2, []), (.invokevirtual 194, [34, 3, 0])], 56),
  (56, [(.iinc 3 1, [1]), (.goto (-23), [36])], 0),
  (62, [(.aload_n 0, []), (.getfield 22, [7, 2]), (.getfield 197, [0, 0]), (.getfield 116, [1, 9]), (.iload_n 1, []), (.iaload, []), (.ireturn, [])], 0)]
def mj_c18 : mj_C := [(0, [(.aload_n 0, []), (.getfield 10, [7, 0]), (.iload_n 1, []), (.invokevirtual 87, [37, 2, 1])], 8),
  (8, [(.ifCond .eq 22, [30]), (.iload_n 2, []), (.iconst 1, [1]), (.bipush 24, [24]), (.invokestatic 65, [29, 3, 1])], 18),
  (18, [(.ifCond .ne 12, [30]), (.iload_n 3, []), (.iconst 0, [0]), (.iconst 1, [1]), (.invokestatic 65, [29, 3, 1])], 27),
  (27, [(.ifCond .eq 5, [32])], 30),
  (30, [(.iconst (-1), [1, 1]), (.ireturn, [])], 0),
  (32, [(.aload_n 0, []), (.getfield 22, [7, 2]), (.aload_n 0, []), (.getfield 10, [7, 0]), (.invokevirtual 190, [33, 2, 0])], 43),
  (43, [(.iload_n 3, []), (.iconst 1, [1]), (.if_icmp .ne 19, [64]), (.aload_n 0, []), (.getfield 22, [7, 2]), (.getfield 197, [0, 0]), (.getfield 125, [1, 4]), (.iload_n 1, []), (.aaload, []), (.iconst 0, [0]), (.invokestatic 200, [152, 2, 0])], 64),
  (64, [(.aload_n 0, []), (.getfield 22, [7, 2]), (.iload_n 1, []), (.iload_n 2, []), (.invokevirtual 194, [34, 3, 0])], 73),
  (73, [(.aload_n 0, []), (.getfield 22, [7, 2]), (.getfield 197, [0, 0]), (.getfield 95, [1, 2]), (.iload_n 1, []), (.iaload, []), (.ireturn, [])], 0)]
def mj_c19 : mj_C := [(0, [(.aload_n 0, []), (.getfield 10, [7, 0]), (.iload_n 1, []), (.invokevirtual 104, [39, 2, 1])], 8),
  (8, [(.ifCond .eq 22, [30]), (.iload_n 2, []), (.iconst 1, [1]), (.bipush 12, [12]), (.invokestatic 65, [29, 3, 1])], 18),
  (18, [(.ifCond .ne 12, [30]), (.iload_n 3, []), (.iconst (-1), [1, 1]), (.iconst 5, [5]), (.invokestatic 65, [29, 3, 1])], 27),
  (27, [(.ifCond .eq 5, [32])], 30),
  (30, [(.iconst (-1), [1, 1]), (.ireturn, [])], 0),
  (32, [(.aload_n 0, []), (.getfield 29, [7, 3]), (.aload_n 0, []), (.getfield 10, [7, 0]), (.iload_n 1, []), (.iload_n 2, []), (.invokevirtual 206, [72, 4, 1])], 45),
  (45, [(.istore 4, []), (.iload 4, []), (.ifCond .ge 6, [55]), (.bipush (-4), [4, 1]), (.ireturn, [])], 0),
  (55, [(.iload_n 3, []), (.ifCond .ge 8, [64]), (.iload 4, []), (.goto 12, [73])], 0),
  (64, [(.aload_n 0, []), (.getfield 29, [7, 3]), (.getfield 210, [4, 3]), (.iload_n 3, []), (.iaload, [])], 73),
  (73, [(.ireturn, [])], 0)]
def mj_c20 : mj_C := [(0, [(.aload_n 0, []), (.getfield 10, [7, 0]), (.iload_n 1, []), (.invokevirtual 104, [39, 2, 1])], 8),
  (8, [(.ifCond .eq 39, [47]), (.aload_n 0, []), (.getfield 10, [7, 0]), (.iload_n 2, []), (.invokevirtual 104, [39, 2, 1])], 19),
  (19, [(.ifCond .eq 28, [47]), (.iload_n 1, []), (.iload_n 2, []), (.if_icmp .eq 23, [47]), (.iload_n 3, []), (.iconst 1, [1]), (.bipush 12, [12]), (.invokestatic 65, [29, 3, 1])], 34),
  (34, [(.ifCond .ne 13, [47]), (.iload 4, []), (.iconst 0, [0]), (.iconst 1, [1]), (.invokestatic 65, [29, 3, 1])], 44),
  (44, [(.ifCond .eq 5, [49])], 47),
  (47, [(.iconst (-1), [1, 1]), (.ireturn, [])], 0),
  (49, [(.aload_n 0, []), (.getfield 36, [7, 4]), (.aload_n 0, []), (.getfield 10, [7, 0]), (.iload_n 1, []), (.iload_n 2, []), (.iload_n 3, []), (.invokevirtual 213, [56, 5, 0])], 63),
  (63, [(.iload 4, []), (.ifCond .ne 11, [76]), (.aload_n 0, []), (.getfield 36, [7, 4]), (.getfield 217, [2, 8]), (.ireturn, [])], 0),
  (76, [(.aload_n 0, []), (.getfield 36, [7, 4]), (.getfield 217, [2, 8]), (.ifCond .ne 8, [91]), (.bipush (-4), [4, 1]), (.goto 25, [113])], 0),
  (91, [(.bipush 10, [10]), (.aload_n 0, []), (.getfield 36, [7, 4]), (.getfield 220, [2, 9]), (.iconst 0, [0]), (.iaload, []), (.imul, []), (.aload_n 0, []), (.getfield 36, [7, 4]), (.getfield 220, [2, 9]), (.iconst 1, [1]), (.iaload, []), (.iadd, [])], 113),
  (113, [(.ireturn, [])], 0)]
def mj_c21 : mj_C := [(0, [(.aload_n 0, []), (.getfield 16, [7, 1]), (.aload_n 0, []), (.getfield 10, [7, 0]), (.invokevirtual 223, [35, 2, 0])], 11),
  (11, [(.aload_n 0, []), (.iconst 1, [1]), (.putfield 61, [7, 8, 1]), (.iconst 1, [1]), (.ireturn, [])], 0)]
def mj_c22 : mj_C := [(0, [(.aload_n 0, []), (.getfield 61, [7, 8]), (.ifCond .ne 6, [10]), (.bipush (-4), [4, 1]), (.ireturn, [])], 0),
  (10, [(.aload_n 0, []), (.getfield 10, [7, 0]), (.aload_n 0, []), (.getfield 16, [7, 1]), (.invokevirtual 223, [35, 2, 0])], 21),
  (21, [(.iconst 1, [1]), (.ireturn, [])], 0)]
def mj_c23 : mj_C := [(0, [(.iload_n 1, []), (.iconst 1, [1]), (.bipush 12, [12]), (.invokestatic 65, [29, 3, 1])], 7),
  (7, [(.ifCond .ne 21, [28]), (.iload_n 2, []), (.iload_n 3, []), (.invokestatic 225, [30, 2, 1])], 15),
  (15, [(.ifCond .ne 13, [28]), (.iload 5, []), (.iconst (-1), [1, 1]), (.iconst 3, [3]), (.invokestatic 65, [29, 3, 1])], 25),
  (25, [(.ifCond .eq 5, [30])], 28),
  (28, [(.iconst (-1), [1, 1]), (.ireturn, [])], 0),
  (30, [(.aload_n 0, []), (.getfield 57, [7, 7]), (.iload_n 2, []), (.aaload, []), (.iload_n 3, []), (.iload 4, []), (.aload_n 0, []), (.getfield 10, [7, 0]), (.getfield 81, [1, 5]), (.invokevirtual 229, [69, 4, 1])], 49),
  (49, [(.istore 6, []), (.iload 6, []), (.ifCond .eq 6, [59]), (.iload 6, []), (.ireturn, [])], 0),
  (59, [(.aload_n 0, []), (.getfield 10, [7, 0]), (.getfield 81, [1, 5]), (.ifCond .ne 6, [72]), (.bipush (-2), [2, 1]), (.ireturn, [])], 0),
  (72, [(.iload 5, []), (.aload_n 0, []), (.getfield 10, [7, 0]), (.getfield 81, [1, 5]), (.if_icmp .lt 6, [87]), (.bipush (-4), [4, 1]), (.ireturn, [])], 0),
  (87, [(.aload_n 0, []), (.getfield 36, [7, 4]), (.aload_n 0, []), (.getfield 10, [7, 0]), (.iload_n 1, []), (.aload_n 0, []), (.getfield 57, [7, 7]), (.iload_n 2, []), (.aaload, []), (.getfield 232, [3, 0]), (.iload 4, []), (.invokevirtual 235, [57, 5, 0])], 110),
  (110, [(.iload 5, []), (.ifCond .ge 11, [123]), (.aload_n 0, []), (.getfield 36, [7, 4]), (.getfield 217, [2, 8]), (.ireturn, [])], 0),
  (123, [(.aload_n 0, []), (.getfield 36, [7, 4]), (.getfield 217, [2, 8]), (.ifCond .ne 8, [138]), (.bipush (-4), [4, 1]), (.goto 13, [148])], 0),
  (138, [(.aload_n 0, []), (.getfield 36, [7, 4]), (.getfield 220, [2, 9]), (.iload 5, []), (.iaload, [])], 148),
  (148, [(.ireturn, [])], 0)]
def mj_c24 : mj_C := [(0, [(.iload_n 1, []), (.iconst 0, [0]), (.iconst 4, [4]), (.invokestatic 65, [29, 3, 1])], 6),
  (6, [(.ifCond .ne 11, [17]), (.iload_n 2, []), (.iload_n 3, []), (.invokestatic 225, [30, 2, 1])], 14),
  (14, [(.ifCond .eq 5, [19])], 17),
  (17, [(.iconst (-1), [1, 1]), (.ireturn, [])], 0),
  (19, [(.aload_n 0, []), (.getfield 57, [7, 7]), (.iload_n 2, []), (.aaload, []), (.iload_n 3, []), (.iload 4, []), (.iconst 5, [5]), (.invokevirtual 229, [69, 4, 1])], 32),
  (32, [(.istore 5, []), (.iload 5, []), (.ifCond .eq 6, [42]), (.iload 5, []), (.ireturn, [])], 0),
  (42, [(.iconst 0, [0]), (.istore 6, [])], 45),
  (45, [(.iload 6, []), (.iconst 5, [5]), (.if_icmp .ge 38, [86]), (.aload_n 0, []), (.getfield 57, [7, 7]), (.iload_n 2, []), (.aaload, []), (.iload 4, []), (.iload 6, []), (.iadd, []), (.aload_n 0, []), (.getfield 10, [7, 0]), (.getfield 155, [1, 10]), (.iconst 5, [5]), (.iload_n 1, []), (.imul, []), (.iload 6, []), (.iadd, []), (.iaload, []), (.i2l, []), (.invokevirtual 239, [71, 3, 0])], 80),
  (80, [(.iinc 6 1, [1]), (.goto (-38), [45])], 0),
  (86, [(.iconst 5, [5]), (.ireturn, [])], 0)]
def mj_c25 : mj_C := [(0, [(.iload_n 1, []), (.iload_n 2, []), (.invokestatic 225, [30, 2, 1])], 5),
  (5, [(.ifCond .ne 9, [14]), (.iload_n 3, []), (.bipush 25, [25]), (.if_icmp .le 5, [16])], 14),
  (14, [(.iconst (-1), [1, 1]), (.ireturn, [])], 0),
  (16, [(.iload_n 3, []), (.ifCond .ge 6, [23]), (.bipush (-14), [14, 1]), (.ireturn, [])], 0),
  (23, [(.aload_n 0, []), (.getfield 57, [7, 7]), (.iload_n 1, []), (.aaload, []), (.iload_n 2, []), (.iload_n 3, []), (.invokevirtual 243, [68, 3, 0])], 34),
  (34, [(.iload_n 3, []), (.ireturn, [])], 0)]
def mj_c26 : mj_C := [(0, [(.iload_n 1, []), (.iconst 0, [0]), (.iconst 3, [3]), (.invokestatic 65, [29, 3, 1])], 6),
  (6, [(.ifCond .eq 5, [11]), (.iconst (-1), [1, 1]), (.ireturn, [])], 0),
  (11, [(.aload_n 0, []), (.getfield 57, [7, 7]), (.iload_n 1, []), (.aaload, []), (.getfield 246, [3, 1]), (.ifCond .ne 6, [26]), (.bipush (-11), [11, 1]), (.ireturn, [])], 0),
  (26, [(.aload_n 0, []), (.getfield 57, [7, 7]), (.iload_n 1, []), (.aaload, []), (.iconst 0, [0]), (.putfield 246, [3, 1, 1]), (.aload_n 0, []), (.getfield 57, [7, 7]), (.iload_n 1, []), (.aaload, []), (.getfield 249, [3, 3]), (.ireturn, [])], 0)]
def mj_c27 : mj_C := [(0, [(.iload_n 1, []), (.iload_n 2, []), (.invokestatic 225, [30, 2, 1])], 5),
  (5, [(.ifCond .eq 5, [10]), (.iconst (-1), [1, 1]), (.ireturn, [])], 0),
  (10, [(.aload_n 0, []), (.getfield 57, [7, 7]), (.iload_n 1, []), (.aaload, []), (.iload_n 2, []), (.iload_n 3, []), (.iconst 1, [1]), (.invokevirtual 229, [69, 4, 1])], 22),
  (22, [(.istore 6, []), (.iload 6, []), (.ifCond .eq 6, [32]), (.iload 6, []), (.ireturn, [])], 0),
  (32, [(.aload_n 0, []), (.getfield 57, [7, 7]), (.iload_n 1, []), (.aaload, []), (.iload_n 3, []), (.lload 4, []), (.invokevirtual 239, [71, 3, 0])], 44),
  (44, [(.iconst 1, [1]), (.ireturn, [])], 0)]
def mj_c28 : mj_C := [(0, [(.iload_n 1, []), (.iconst 0, [0]), (.iconst 3, [3]), (.invokestatic 65, [29, 3, 1])], 6),
  (6, [(.ifCond .ne 12, [18]), (.iload_n 3, []), (.iconst 0, [0]), (.iconst 3, [3]), (.invokestatic 65, [29, 3, 1])], 15),
  (15, [(.ifCond .eq 5, [20])], 18),
  (18, [(.iconst (-1), [1, 1]), (.ireturn, [])], 0),
  (20, [(.aload_n 0, []), (.getfield 57, [7, 7]), (.iload_n 1, []), (.aaload, []), (.astore 6, []), (.aload_n 0, []), (.getfield 57, [7, 7]), (.iload_n 3, []), (.aaload, []), (.astore 7, []), (.aload 6, []), (.getfield 246, [3, 1]), (.ifCond .eq 11, [52]), (.aload 7, []), (.getfield 246, [3, 1]), (.ifCond .ne 6, [55])], 52),
  (52, [(.bipush (-11), [11, 1]), (.ireturn, [])], 0),
  (55, [(.aload 6, []), (.getfield 250, [3, 2]), (.aload 7, []), (.getfield 250, [3, 2]), (.if_icmp .eq 6, [71]), (.bipush (-12), [12, 1]), (.ireturn, [])], 0),
  (71, [(.aload 6, []), (.iload_n 2, []), (.iload 5, []), (.invokevirtual 253, [70, 3, 1])], 79),
  (79, [(.ifCond .ne 15, [94]), (.aload 7, []), (.iload 4, []), (.iload 5, []), (.invokevirtual 253, [70, 3, 1])], 91),
  (91, [(.ifCond .eq 6, [97])], 94),
  (94, [(.bipush (-13), [13, 1]), (.ireturn, [])], 0),
  (97, [(.aload 6, []), (.getfield 232, [3, 0]), (.iload_n 2, []), (.aload 7, []), (.getfield 232, [3, 0]), (.iload 4, []), (.iload 5, []), (.invokestatic 256, []), (.iload 5, []), (.ireturn, [])], 0)]
def mj_c29 : mj_C := [(0, [(.iload_n 0, []), (.iload_n 1, []), (.if_icmp .lt 8, [10]), (.iload_n 0, []), (.iload_n 2, []), (.if_icmp .le 7, [14])], 10),
  (10, [(.iconst 1, [1]), (.goto 4, [15])], 0),
  (14, [(.iconst 0, [0])], 15),
  (15, [(.ireturn, [1])], 0)]
def mj_c30 : mj_C := [(0, [(.iload_n 0, []), (.iconst 0, [0]), (.iconst 3, [3]), (.invokestatic 65, [29, 3, 1])], 6),
  (6, [(.ifCond .ne 12, [18]), (.iload_n 1, []), (.iconst 0, [0]), (.iconst 2, [2]), (.invokestatic 65, [29, 3, 1])], 15),
  (15, [(.ifCond .eq 7, [22])], 18),
  (18, [(.iconst 1, [1]), (.goto 4, [23])], 0),
  (22, [(.iconst 0, [0])], 23),
  (23, [(.ireturn, [1])], 0)]
def mj_c31 : mj_C := [(0, [(.lload_n 0, []), (.bipush 8, [8]), (.iload_n 2, []), (.imul, []), (.lushr, []), (.l2i, []), (.sipush 255, [255]), (.iand, []), (.ireturn, [])], 0)]
def mj_c32 : mj_C := [(0, [(.iconst 0, [0]), (.istore_n 1, []), (.aload_n 0, []), (.astore_n 2, []), (.aload_n 2, []), (.arraylength, []), (.istore_n 3, []), (.iconst 0, [0]), (.istore 4, [])], 10),
  (10, [(.iload 4, []), (.iload_n 3, []), (.if_icmp .ge 20, [33]), (.aload_n 2, []), (.iload 4, []), (.iaload, []), (.istore 5, []), (.iload_n 1, []), (.iload 5, []), (.iadd, []), (.istore_n 1, []), (.iinc 4 1, [1]), (.goto (-20), [10])], 0),
  (33, [(.iload_n 1, []), (.ireturn, [])], 0)]
def mj_c33 : mj_C := [(0, [(.aload_n 0, []), (.getfield 10, [0, 0]), (.aload_n 1, []), (.invokevirtual 16, [35, 2, 0])], 8),
  (8, [(.return_, [])], 0)]
def mj_c34 : mj_C := [(0, [(.iconst 0, [0]), (.istore_n 3, [])], 2),
  (2, [(.iload_n 3, []), (.iload_n 2, []), (.if_icmp .ge 61, [65]), (.aload_n 0, []), (.getfield 10, [0, 0]), (.getfield 20, [1, 12]), (.iload_n 3, []), (.iadd, []), (.istore 4, []), (.aload_n 0, []), (.getfield 10, [0, 0]), (.iload_n 1, []), (.aload_n 0, []), (.getfield 10, [0, 0]), (.getfield 24, [1, 11]), (.iload 4, []), (.invokevirtual 28, [83, 2, 1])], 35),
  (35, [(.aload_n 0, []), (.getfield 10, [0, 0]), (.getfield 24, [1, 11]), (.iload 4, []), (.invokevirtual 34, [84, 2, 1])], 47),
  (47, [(.invokevirtual 37, [50, 4, 0])], 50),
  (50, [(.aload_n 0, []), (.getfield 10, [0, 0]), (.iload_n 1, []), (.invokevirtual 41, [51, 2, 1])], 58),
  (58, [(.pop, []), (.iinc 3 1, [1]), (.goto (-60), [2])], 0),
  (65, [(.return_, [])], 0)]
def mj_c35 : mj_C := [(0, [(.aload_n 0, []), (.aload_n 1, []), (.getfield 9, [1, 0]), (.putfield 9, [1, 0, 0]), (.aload_n 0, []), (.aload_n 1, []), (.getfield 30, [1, 5]), (.putfield 30, [1, 5, 0]), (.aload_n 0, []), (.aload_n 1, []), (.getfield 55, [1, 12]), (.putfield 55, [1, 12, 0]), (.aload_n 0, []), (.aload_n 1, []), (.getfield 58, [1, 13]), (.putfield 58, [1, 13, 0]), (.iconst 0, [0]), (.istore_n 2, [])], 34),
  (34, [(.iload_n 2, []), (.bipush 6, [6]), (.if_icmp .ge 15, [52]), (.aload_n 0, []), (.aload_n 1, []), (.iload_n 2, []), (.invokevirtual 61, [36, 3, 0])], 46),
  (46, [(.iinc 2 1, [1]), (.goto (-15), [34])], 0),
  (52, [(.aload_n 1, []), (.getfield 33, [1, 6]), (.iconst 0, [0]), (.aload_n 0, []), (.getfield 33, [1, 6]), (.iconst 0, [0]), (.iconst 4, [4]), (.invokestatic 65, []), (.aload_n 1, []), (.getfield 36, [1, 7]), (.iconst 0, [0]), (.aload_n 0, []), (.getfield 36, [1, 7]), (.iconst 0, [0]), (.iconst 4, [4]), (.invokestatic 65, []), (.aload_n 1, []), (.getfield 39, [1, 8]), (.iconst 0, [0]), (.aload_n 0, []), (.getfield 39, [1, 8]), (.iconst 0, [0]), (.iconst 4, [4]), (.invokestatic 65, []), (.aload_n 1, []), (.getfield 42, [1, 9]), (.iconst 0, [0]), (.aload_n 0, []), (.getfield 42, [1, 9]), (.iconst 0, [0]), (.iconst 4, [4]), (.invokestatic 65, []), (.aload_n 1, []), (.getfield 45, [1, 10]), (.iconst 0, [0]), (.aload_n 0, []), (.getfield 45, [1, 10]), (.iconst 0, [0]), (.bipush 25, [25]), (.invokestatic 65, []), (.aload_n 0, []), (.getfield 51, [1, 11]), (.aload_n 1, []), (.getfield 51, [1, 11]), (.invokevirtual 71, [85, 2, 0])], 134),
  (134, [(.return_, [])], 0)]
def mj_c36 : mj_C := [(0, [(.aload_n 0, []), (.getfield 15, [1, 1]), (.iload_n 2, []), (.aload_n 1, []), (.getfield 15, [1, 1]), (.iload_n 2, []), (.iaload, []), (.iastore, []), (.aload_n 0, []), (.getfield 19, [1, 2]), (.iload_n 2, []), (.aload_n 1, []), (.getfield 19, [1, 2]), (.iload_n 2, []), (.iaload, []), (.iastore, []), (.aload_n 0, []), (.getfield 22, [1, 3]), (.iload_n 2, []), (.aload_n 1, []), (.getfield 22, [1, 3]), (.iload_n 2, []), (.iaload, []), (.iastore, []), (.aload_n 1, []), (.getfield 27, [1, 4]), (.iload_n 2, []), (.aaload, []), (.iconst 0, [0]), (.aload_n 0, []), (.getfield 27, [1, 4]), (.iload_n 2, []), (.aaload, []), (.iconst 0, [0]), (.iconst 4, [4]), (.invokestatic 65, []), (.return_, [])], 0)]
def mj_c37 : mj_C := [(0, [(.iload_n 1, []), (.ifCond .lt 15, [16]), (.iload_n 1, []), (.aload_n 0, []), (.getfield 9, [1, 0]), (.if_icmp .ge 7, [16]), (.iconst 1, [1]), (.goto 4, [17])], 0),
  (16, [(.iconst 0, [0])], 17),
  (17, [(.ireturn, [1])], 0)]
def mj_c38 : mj_C := [(0, [(.aload_n 0, []), (.iload_n 1, []), (.invokevirtual 75, [37, 2, 1])], 5),
  (5, [(.ifCond .eq 18, [23]), (.aload_n 0, []), (.getfield 19, [1, 2]), (.iload_n 1, []), (.iaload, []), (.bipush 25, [25]), (.if_icmp .eq 7, [23]), (.iconst 1, [1]), (.goto 4, [24])], 0),
  (23, [(.iconst 0, [0])], 24),
  (24, [(.ireturn, [1])], 0)]
def mj_c39 : mj_C := [(0, [(.iload_n 1, []), (.ifCond .lt 15, [16]), (.iload_n 1, []), (.aload_n 0, []), (.getfield 30, [1, 5]), (.if_icmp .ge 7, [16]), (.iconst 1, [1]), (.goto 4, [17])], 0),
  (16, [(.iconst 0, [0])], 17),
  (17, [(.ireturn, [1])], 0)]
def mj_c40 : mj_C := [(0, [(.iconst 0, [0]), (.istore_n 2, [])], 2),
  (2, [(.iload_n 2, []), (.aload_n 0, []), (.getfield 30, [1, 5]), (.if_icmp .ge 21, [28]), (.aload_n 0, []), (.getfield 33, [1, 6]), (.iload_n 2, []), (.iaload, []), (.iload_n 1, []), (.if_icmp .ne 5, [22]), (.iload_n 2, []), (.ireturn, [])], 0),
  (22, [(.iinc 2 1, [1]), (.goto (-23), [2])], 0),
  (28, [(.iconst (-1), [1, 1]), (.ireturn, [])], 0)]
def mj_c41 : mj_C := [(0, [(.aload_n 0, []), (.getfield 9, [1, 0]), (.istore 4, []), (.aload_n 0, []), (.getfield 15, [1, 1]), (.iload 4, []), (.iload_n 1, []), (.iastore, []), (.aload_n 0, []), (.getfield 19, [1, 2]), (.iload 4, []), (.iload_n 2, []), (.iastore, []), (.aload_n 0, []), (.getfield 22, [1, 3]), (.iload 4, []), (.iload_n 3, []), (.iastore, []), (.aload_n 0, []), (.getfield 27, [1, 4]), (.iload 4, []), (.aaload, []), (.iconst 0, [0]), (.invokestatic 79, [152, 2, 0])], 41),
  (41, [(.aload_n 0, []), (.dup, []), (.getfield 9, [1, 0]), (.iconst 1, [1]), (.iadd, []), (.putfield 9, [1, 0, 0]), (.iload 4, []), (.ireturn, [])], 0)]
def mj_c42 : mj_C := [(0, [(.aload_n 0, []), (.getfield 30, [1, 5]), (.istore 4, []), (.aload_n 0, []), (.getfield 33, [1, 6]), (.iload 4, []), (.iload_n 1, []), (.iastore, []), (.aload_n 0, []), (.getfield 36, [1, 7]), (.iload 4, []), (.iload_n 2, []), (.iastore, []), (.aload_n 0, []), (.getfield 39, [1, 8]), (.iload 4, []), (.iload_n 3, []), (.iastore, []), (.aload_n 0, []), (.getfield 42, [1, 9]), (.iload 4, []), (.iconst 0, [0]), (.iastore, []), (.aload_n 0, []), (.dup, []), (.getfield 30, [1, 5]), (.iconst 1, [1]), (.iadd, []), (.putfield 30, [1, 5, 0]), (.iload 4, []), (.ireturn, [])], 0)]
def mj_c43 : mj_C := [(0, [(.aload_n 0, []), (.getfield 27, [1, 4]), (.iload_n 1, []), (.aaload, []), (.invokestatic 85, [32, 1, 1])], 9),
  (9, [(.ireturn, [])], 0)]
def mj_c44 : mj_C := [(0, [(.iconst 0, [0]), (.istore_n 2, []), (.iconst 0, [0]), (.istore_n 3, [])], 4),
  (4, [(.iload_n 3, []), (.aload_n 0, []), (.getfield 9, [1, 0]), (.if_icmp .ge 20, [29]), (.iload_n 2, []), (.aload_n 0, []), (.getfield 27, [1, 4]), (.iload_n 3, []), (.aaload, []), (.iload_n 1, []), (.iaload, []), (.iadd, []), (.istore_n 2, []), (.iinc 3 1, [1]), (.goto (-22), [4])], 0),
  (29, [(.iload_n 2, []), (.ireturn, [])], 0)]
def mj_c45 : mj_C := [(0, [(.iconst 0, [0]), (.istore_n 1, []), (.iconst 0, [0]), (.istore_n 2, [])], 4),
  (4, [(.iload_n 2, []), (.aload_n 0, []), (.getfield 9, [1, 0]), (.if_icmp .ge 20, [29]), (.aload_n 0, []), (.iload_n 2, []), (.invokevirtual 89, [38, 2, 1])], 17),
  (17, [(.ifCond .eq 6, [23]), (.iinc 1 1, [1])], 23),
  (23, [(.iinc 2 1, [1]), (.goto (-22), [4])], 0),
  (29, [(.iload_n 1, []), (.ireturn, [])], 0)]
def mj_c46 : mj_C := [(0, [(.iconst 0, [0]), (.istore_n 2, []), (.iconst 0, [0]), (.istore_n 3, [])], 4),
  (4, [(.iload_n 3, []), (.aload_n 0, []), (.getfield 9, [1, 0]), (.if_icmp .ge 27, [36]), (.aload_n 0, []), (.iload_n 3, []), (.invokevirtual 89, [38, 2, 1])], 17),
  (17, [(.iload_n 1, []), (.if_icmp .ne 12, [30]), (.iload_n 2, []), (.aload_n 0, []), (.getfield 22, [1, 3]), (.iload_n 3, []), (.iaload, []), (.iadd, []), (.istore_n 2, [])], 30),
  (30, [(.iinc 3 1, [1]), (.goto (-29), [4])], 0),
  (36, [(.iload_n 2, []), (.ireturn, [])], 0)]
def mj_c47 : mj_C := [(0, [(.aload_n 0, []), (.getfield 22, [1, 3]), (.iload_n 1, []), (.iaload, []), (.aload_n 0, []), (.getfield 22, [1, 3]), (.iload_n 2, []), (.iaload, []), (.iadd, []), (.istore_n 3, []), (.aload_n 0, []), (.getfield 22, [1, 3]), (.iload_n 1, []), (.iload_n 3, []), (.sipush 999, [999]), (.invokestatic 92, [151, 2, 1])], 26),
  (26, [(.iastore, []), (.aload_n 0, []), (.getfield 45, [1, 10]), (.aload_n 0, []), (.getfield 19, [1, 2]), (.iload_n 1, []), (.iaload, []), (.dup2, []), (.iaload, []), (.iload_n 3, []), (.aload_n 0, []), (.getfield 22, [1, 3]), (.iload_n 1, []), (.iaload, []), (.isub, []), (.iadd, []), (.iastore, []), (.aload_n 0, []), (.getfield 22, [1, 3]), (.iload_n 2, []), (.iconst 0, [0]), (.iastore, []), (.aload_n 0, []), (.getfield 19, [1, 2]), (.iload_n 2, []), (.bipush 25, [25]), (.iastore, []), (.aload_n 0, []), (.getfield 27, [1, 4]), (.iload_n 2, []), (.aaload, []), (.iconst 0, [0]), (.invokestatic 79, [152, 2, 0])], 74),
  (74, [(.return_, [])], 0)]
def mj_c48 : mj_C := [(0, [(.aload_n 0, []), (.aload_n 0, []), (.getfield 58, [1, 13]), (.ldc 98, [1103515245]), (.imul, []), (.sipush 12345, [12345]), (.iadd, []), (.ldc 99, [2147483647]), (.iand, []), (.putfield 58, [1, 13, 0]), (.aload_n 0, []), (.getfield 58, [1, 13]), (.ldc 100, [65536]), (.idiv, []), (.bipush 16, [16]), (.irem, []), (.ireturn, [])], 0)]
def mj_c49 : mj_C := [(0, [(.iconst 0, [0]), (.istore_n 3, [])], 2),
  (2, [(.iload_n 3, []), (.aload_n 0, []), (.getfield 9, [1, 0]), (.if_icmp .ge 16, [23]), (.aload_n 0, []), (.iload_n 3, []), (.iload_n 1, []), (.iload_n 2, []), (.invokevirtual 101, [50, 4, 0])], 17),
  (17, [(.iinc 3 1, [1]), (.goto (-18), [2])], 0),
  (23, [(.iconst 0, [0]), (.istore_n 3, []), (.iconst 0, [0]), (.istore 4, [])], 28),
  (28, [(.iload 4, []), (.aload_n 0, []), (.getfield 9, [1, 0]), (.if_icmp .ge 18, [52]), (.iload_n 3, []), (.aload_n 0, []), (.iload 4, []), (.invokevirtual 105, [51, 2, 1])], 44),
  (44, [(.iadd, []), (.istore_n 3, []), (.iinc 4 1, [1]), (.goto (-21), [28])], 0),
  (52, [(.aload_n 0, []), (.dup, []), (.getfield 55, [1, 12]), (.iconst 1, [1]), (.iadd, []), (.putfield 55, [1, 12, 0]), (.iload_n 3, []), (.ireturn, [])], 0)]
def mj_c50 : mj_C := [(0, [(.aload_n 0, []), (.iload_n 1, []), (.invokevirtual 89, [38, 2, 1])], 5),
  (5, [(.ifCond .ne 4, [9]), (.return_, [])], 0),
  (9, [(.iload_n 3, []), (.getstatic 109, [80]), (.aload_n 0, []), (.getfield 15, [1, 1]), (.iload_n 1, []), (.iaload, []), (.iaload, []), (.imul, []), (.istore 4, []), (.aload_n 0, []), (.iload_n 1, []), (.invokevirtual 112, [43, 2, 1])], 28),
  (28, [(.istore 5, []), (.aload_n 0, []), (.iload_n 1, []), (.invokevirtual 115, [52, 2, 1])], 35),
  (35, [(.istore 6, []), (.aload_n 0, []), (.getfield 27, [1, 4]), (.iload_n 1, []), (.aaload, []), (.iload 6, []), (.iaload, []), (.istore 7, []), (.iload 7, []), (.ifCond .le 41, [91]), (.iload 7, []), (.iload 5, []), (.iload 7, []), (.isub, []), (.iload 4, []), (.iadd, []), (.if_icmp .lt 28, [91]), (.aload_n 0, []), (.getfield 19, [1, 2]), (.iload_n 1, []), (.aload_n 0, []), (.getfield 19, [1, 2]), (.iload_n 1, []), (.iaload, []), (.aload_n 0, []), (.getfield 33, [1, 6]), (.iload 6, []), (.iaload, []), (.invokestatic 118, [54, 2, 1])], 87),
  (87, [(.iastore, []), (.goto 42, [130])], 0),
  (91, [(.iload 5, []), (.iload 4, []), (.if_icmp .ge 35, [130]), (.aload_n 0, []), (.getfield 19, [1, 2]), (.iload_n 1, []), (.aload_n 0, []), (.getfield 19, [1, 2]), (.iload_n 1, []), (.iaload, []), (.iload_n 2, []), (.invokestatic 121, [55, 2, 1])], 113),
  (113, [(.iastore, []), (.aload_n 0, []), (.getfield 19, [1, 2]), (.iload_n 1, []), (.iaload, []), (.bipush 25, [25]), (.if_icmp .ne 8, [130]), (.aload_n 0, []), (.iload_n 1, []), (.invokevirtual 124, [53, 2, 0])], 130),
  (130, [(.return_, [])], 0)]
def mj_c51 : mj_C := [(0, [(.aload_n 0, []), (.iload_n 1, []), (.invokevirtual 89, [38, 2, 1])], 5),
  (5, [(.ifCond .ne 5, [10]), (.iconst 0, [0]), (.ireturn, [])], 0),
  (10, [(.getstatic 128, [81]), (.aload_n 0, []), (.getfield 15, [1, 1]), (.iload_n 1, []), (.iaload, []), (.iaload, []), (.aload_n 0, []), (.getfield 22, [1, 3]), (.iload_n 1, []), (.iaload, []), (.invokestatic 92, [151, 2, 1])], 29),
  (29, [(.istore_n 2, []), (.aload_n 0, []), (.getfield 22, [1, 3]), (.iload_n 1, []), (.dup2, []), (.iaload, []), (.iload_n 2, []), (.isub, []), (.iastore, []), (.aload_n 0, []), (.getfield 45, [1, 10]), (.aload_n 0, []), (.getfield 19, [1, 2]), (.iload_n 1, []), (.iaload, []), (.dup2, []), (.iaload, []), (.iload_n 2, []), (.iadd, []), (.iastore, []), (.aload_n 0, []), (.aload_n 0, []), (.getfield 19, [1, 2]), (.iload_n 1, []), (.iaload, []), (.invokevirtual 131, [40, 2, 1])], 65),
  (65, [(.istore_n 3, []), (.iload_n 3, []), (.ifCond .lt 23, [90]), (.aload_n 0, []), (.getfield 15, [1, 1]), (.iload_n 1, []), (.iaload, []), (.iconst 3, [3]), (.if_icmp .eq 13, [90]), (.aload_n 0, []), (.getfield 42, [1, 9]), (.iload_n 3, []), (.dup2, []), (.iaload, []), (.iload_n 2, []), (.iadd, []), (.iastore, [])], 90),
  (90, [(.iload_n 2, []), (.ireturn, [])], 0)]
def mj_c52 : mj_C := [(0, [(.iconst 0, [0]), (.istore_n 2, []), (.iconst 1, [1]), (.istore_n 3, [])], 4),
  (4, [(.iload_n 3, []), (.aload_n 0, []), (.getfield 30, [1, 5]), (.if_icmp .ge 30, [39]), (.aload_n 0, []), (.getfield 27, [1, 4]), (.iload_n 1, []), (.aaload, []), (.iload_n 3, []), (.iaload, []), (.aload_n 0, []), (.getfield 27, [1, 4]), (.iload_n 1, []), (.aaload, []), (.iload_n 2, []), (.iaload, []), (.if_icmp .le 5, [33]), (.iload_n 3, []), (.istore_n 2, [])], 33),
  (33, [(.iinc 3 1, [1]), (.goto (-32), [4])], 0),
  (39, [(.iload_n 2, []), (.ireturn, [])], 0)]
def mj_c53 : mj_C := [(0, [(.iconst 0, [0]), (.istore_n 2, [])], 2),
  (2, [(.iload_n 2, []), (.aload_n 0, []), (.getfield 30, [1, 5]), (.if_icmp .ge 35, [42]), (.aload_n 0, []), (.getfield 36, [1, 7]), (.iload_n 2, []), (.dup2, []), (.iaload, []), (.aload_n 0, []), (.getfield 27, [1, 4]), (.iload_n 1, []), (.aaload, []), (.iload_n 2, []), (.iaload, []), (.isub, []), (.iastore, []), (.aload_n 0, []), (.getfield 27, [1, 4]), (.iload_n 1, []), (.aaload, []), (.iload_n 2, []), (.iconst 0, [0]), (.iastore, []), (.iinc 2 1, [1]), (.goto (-37), [2])], 0),
  (42, [(.return_, [])], 0)]
def mj_c54 : mj_C := [(0, [(.iload_n 1, []), (.iconst 5, [5]), (.idiv, []), (.iload_n 0, []), (.iconst 5, [5]), (.idiv, []), (.invokestatic 134, [149, 2, 1])], 9),
  (9, [(.istore_n 2, []), (.iload_n 1, []), (.iconst 5, [5]), (.irem, []), (.iload_n 0, []), (.iconst 5, [5]), (.irem, []), (.invokestatic 134, [149, 2, 1])], 19),
  (19, [(.istore_n 3, []), (.iload_n 2, []), (.ifCond .eq 11, [32]), (.iload_n 0, []), (.iconst 5, [5]), (.iload_n 2, []), (.imul, []), (.iadd, []), (.goto 6, [35])], 0),
  (32, [(.iload_n 0, []), (.iload_n 3, []), (.iadd, [])], 35),
  (35, [(.ireturn, [])], 0)]
def mj_c55 : mj_C := [(0, [(.iload_n 0, []), (.iconst 5, [5]), (.idiv, []), (.istore_n 2, []), (.iload_n 0, []), (.iconst 5, [5]), (.irem, []), (.istore_n 3, []), (.iload_n 1, []), (.tableswitch 67 0 2 #[27, 40, 53], [76, 36, 49, 62])], 0),
  (36, [(.iload_n 2, []), (.ifCond .le 9, [46]), (.iload_n 0, []), (.iconst 5, [5]), (.isub, []), (.goto 5, [48])], 0),
  (46, [(.bipush 25, [25])], 48),
  (48, [(.ireturn, [])], 0),
  (49, [(.iload_n 3, []), (.ifCond .le 9, [59]), (.iload_n 0, []), (.iconst 1, [1]), (.isub, []), (.goto 5, [61])], 0),
  (59, [(.bipush 25, [25])], 61),
  (61, [(.ireturn, [])], 0),
  (62, [(.iload_n 3, []), (.iconst 4, [4]), (.if_icmp .ge 9, [73]), (.iload_n 0, []), (.iconst 1, [1]), (.iadd, []), (.goto 5, [75])], 0),
  (73, [(.bipush 25, [25])], 75),
  (75, [(.ireturn, [])], 0),
  (76, [(.iload_n 2, []), (.iconst 4, [4]), (.if_icmp .ge 9, [87]), (.iload_n 0, []), (.iconst 5, [5]), (.iadd, []), (.goto 5, [89])], 0),
  (87, [(.bipush 25, [25])], 89),
  (89, [(.ireturn, [])], 0)]
def mj_c56 : mj_C := [(0, [(.aload_n 0, []), (.aload_n 1, []), (.iconst 1, [1]), (.iload_n 2, []), (.ishl, []), (.iconst 1, [1]), (.iload_n 3, []), (.ishl, []), (.ior, []), (.iload 4, []), (.invokevirtual 49, [58, 4, 0])], 14),
  (14, [(.iconst 0, [0]), (.istore 5, [])], 17),
  (17, [(.iload 5, []), (.aload_n 0, []), (.getfield 22, [2, 2]), (.if_icmp .ge 101, [124]), (.iconst 0, [0]), (.istore 6, [])], 29),
  (29, [(.iload 6, []), (.aload_n 0, []), (.getfield 22, [2, 2]), (.if_icmp .ge 83, [118]), (.aload_n 0, []), (.getfield 31, [2, 4]), (.iconst 0, [0]), (.invokestatic 53, [152, 2, 0])], 46),
  (46, [(.aload_n 0, []), (.getfield 31, [2, 4]), (.aload_n 0, []), (.getfield 18, [2, 1]), (.iload 5, []), (.iaload, []), (.dup2, []), (.iaload, []), (.iconst 1, [1]), (.iload_n 2, []), (.ishl, []), (.ior, []), (.iastore, []), (.aload_n 0, []), (.getfield 31, [2, 4]), (.aload_n 0, []), (.getfield 18, [2, 1]), (.iload 6, []), (.iaload, []), (.dup2, []), (.iaload, []), (.iconst 1, [1]), (.iload_n 3, []), (.ishl, []), (.ior, []), (.iastore, []), (.aload_n 0, []), (.getfield 37, [2, 6]), (.iload 5, []), (.aaload, []), (.iload 6, []), (.aload_n 0, []), (.iload_n 2, []), (.invokevirtual 59, [61, 2, 1])], 96),
  (96, [(.iastore, []), (.aload_n 0, []), (.getfield 40, [2, 7]), (.iload 5, []), (.aaload, []), (.iload 6, []), (.aload_n 0, []), (.iload_n 3, []), (.invokevirtual 59, [61, 2, 1])], 111),
  (111, [(.iastore, []), (.iinc 6 1, [1]), (.goto (-86), [29])], 0),
  (118, [(.iinc 5 1, [1]), (.goto (-104), [17])], 0),
  (124, [(.iconst 0, [0]), (.istore 5, [])], 127),
  (127, [(.iload 5, []), (.aload_n 0, []), (.getfield 22, [2, 2]), (.if_icmp .ge 56, [189]), (.iconst 0, [0]), (.istore 6, [])], 139),
  (139, [(.iload 6, []), (.aload_n 0, []), (.getfield 22, [2, 2]), (.if_icmp .ge 38, [183]), (.aload_n 0, []), (.iload 5, []), (.iload 6, []), (.invokevirtual 63, [62, 3, 1])], 156),
  (156, [(.ifCond .eq 21, [177]), (.aload_n 0, []), (.aload_n 0, []), (.getfield 18, [2, 1]), (.iload 5, []), (.iaload, []), (.aload_n 0, []), (.getfield 18, [2, 1]), (.iload 6, []), (.iaload, []), (.invokevirtual 67, [63, 3, 0])], 177),
  (177, [(.iinc 6 1, [1]), (.goto (-41), [139])], 0),
  (183, [(.iinc 5 1, [1]), (.goto (-59), [127])], 0),
  (189, [(.return_, [])], 0)]
def mj_c57 : mj_C := [(0, [(.aload_n 0, []), (.aload_n 1, []), (.iconst 1, [1]), (.aload_n 1, []), (.getfield 71, [1, 5]), (.ishl, []), (.iconst 1, [1]), (.isub, []), (.iload_n 2, []), (.invokevirtual 49, [58, 4, 0])], 14),
  (14, [(.aload_n 0, []), (.getfield 34, [2, 5]), (.iconst 0, [0]), (.invokestatic 53, [152, 2, 0])], 22),
  (22, [(.iconst 1, [1]), (.istore 5, []), (.iconst 0, [0]), (.istore 6, [])], 28),
  (28, [(.iload 6, []), (.sipush 2401, [2401]), (.if_icmp .ge 51, [84]), (.iload 5, []), (.ifCond .eq 46, [84]), (.aload_n 0, []), (.aload_n 1, []), (.getfield 71, [1, 5]), (.invokevirtual 76, [64, 2, 0])], 49),
  (49, [(.aload_n 0, []), (.aload_n 1, []), (.aload_n 3, []), (.iload 4, []), (.invokevirtual 80, [65, 4, 1])], 57),
  (57, [(.ifCond .eq 11, [68]), (.aload_n 0, []), (.aload_n 1, []), (.getfield 71, [1, 5]), (.invokevirtual 84, [66, 2, 0])], 68),
  (68, [(.aload_n 0, []), (.aload_n 1, []), (.getfield 71, [1, 5]), (.invokevirtual 87, [67, 2, 1])], 76),
  (76, [(.istore 5, []), (.iinc 6 1, [1]), (.goto (-53), [28])], 0),
  (84, [(.return_, [])], 0)]
def mj_c58 : mj_C := [(0, [(.aload_n 0, []), (.iconst 0, [0]), (.putfield 43, [2, 8, 0]), (.aload_n 0, []), (.iconst 0, [0]), (.putfield 22, [2, 2, 0]), (.aload_n 0, []), (.getfield 14, [2, 0]), (.aload_n 1, []), (.invokevirtual 91, [33, 2, 0])], 18),
  (18, [(.iconst 0, [0]), (.istore 4, [])], 21),
  (21, [(.iload 4, []), (.bipush 6, [6]), (.if_icmp .ge 48, [73]), (.aload_n 1, []), (.iload 4, []), (.invokevirtual 95, [38, 2, 1])], 34),
  (34, [(.ifCond .eq 33, [67]), (.aload_n 0, []), (.getfield 18, [2, 1]), (.aload_n 0, []), (.getfield 22, [2, 2]), (.iload 4, []), (.iastore, []), (.aload_n 0, []), (.dup, []), (.getfield 22, [2, 2]), (.iconst 1, [1]), (.iadd, []), (.putfield 22, [2, 2, 0]), (.aload_n 0, []), (.aload_n 1, []), (.iload_n 2, []), (.iload_n 3, []), (.iload 4, []), (.invokevirtual 98, [59, 5, 0])], 67),
  (67, [(.iinc 4 1, [1]), (.goto (-49), [21])], 0),
  (73, [(.aload_n 0, []), (.getfield 18, [2, 1]), (.aload_n 0, []), (.getfield 22, [2, 2]), (.bipush 6, [6]), (.iastore, []), (.aload_n 0, []), (.dup, []), (.getfield 22, [2, 2]), (.iconst 1, [1]), (.iadd, []), (.putfield 22, [2, 2, 0]), (.return_, [])], 0)]
def mj_c59 : mj_C := [(0, [(.iconst 0, [0]), (.istore 5, [])], 3),
  (3, [(.iload 5, []), (.bipush 16, [16]), (.if_icmp .ge 78, [85]), (.iload 5, []), (.iload_n 2, []), (.iconst (-1), [1, 1]), (.ixor, []), (.iand, []), (.ifCond .ne 63, [79]), (.aload_n 0, []), (.aload_n 1, []), (.iload_n 2, []), (.iload 4, []), (.iload 5, []), (.invokevirtual 102, [60, 5, 0])], 29),
  (29, [(.aload_n 0, []), (.getfield 14, [2, 0]), (.getfield 105, [0, 0]), (.getfield 109, [1, 9]), (.iconst 0, [0]), (.invokestatic 53, [152, 2, 0])], 43),
  (43, [(.aload_n 0, []), (.getfield 14, [2, 0]), (.iload 4, []), (.iload_n 3, []), (.invokevirtual 112, [34, 3, 0])], 53),
  (53, [(.aload_n 0, []), (.getfield 14, [2, 0]), (.getfield 105, [0, 0]), (.getfield 109, [1, 9]), (.iconst 0, [0]), (.aload_n 0, []), (.getfield 28, [2, 3]), (.iload 4, []), (.aaload, []), (.iload 5, []), (.iconst 4, [4]), (.imul, []), (.iconst 4, [4]), (.invokestatic 115, [])], 79),
  (79, [(.iinc 5 1, [1]), (.goto (-79), [3])], 0),
  (85, [(.return_, [])], 0)]
def mj_c60 : mj_C := [(0, [(.aload_n 0, []), (.getfield 14, [2, 0]), (.getfield 105, [0, 0]), (.astore 5, []), (.aload 5, []), (.aload_n 1, []), (.iload_n 3, []), (.invokevirtual 121, [36, 3, 0])], 16),
  (16, [(.iconst 0, [0]), (.istore 6, [])], 19),
  (19, [(.iload 6, []), (.iconst 4, [4]), (.if_icmp .ge 51, [73]), (.iload_n 2, []), (.iload 6, []), (.ishr, []), (.iconst 1, [1]), (.iand, []), (.iconst 1, [1]), (.if_icmp .ne 35, [67]), (.aload 5, []), (.getfield 125, [1, 4]), (.iload_n 3, []), (.aaload, []), (.iload 6, []), (.iload 4, []), (.iload 6, []), (.ishr, []), (.iconst 1, [1]), (.iand, []), (.iconst 1, [1]), (.if_icmp .ne 13, [65]), (.aload_n 1, []), (.getfield 128, [1, 7]), (.iload 6, []), (.iaload, []), (.goto 4, [66])], 0),
  (65, [(.iconst 0, [0])], 66),
  (66, [(.iastore, [])], 67),
  (67, [(.iinc 6 1, [1]), (.goto (-51), [19])], 0),
  (73, [(.return_, [])], 0)]
def mj_c61 : mj_C := [(0, [(.iconst 0, [0]), (.istore_n 2, []), (.iconst 0, [0]), (.istore_n 3, [])], 4),
  (4, [(.iload_n 3, []), (.aload_n 0, []), (.getfield 22, [2, 2]), (.iconst 1, [1]), (.isub, []), (.if_icmp .ge 39, [50]), (.aload_n 0, []), (.getfield 18, [2, 1]), (.iload_n 3, []), (.iaload, []), (.istore 4, []), (.iload_n 2, []), (.aload_n 0, []), (.getfield 28, [2, 3]), (.iload 4, []), (.aaload, []), (.aload_n 0, []), (.getfield 31, [2, 4]), (.iload 4, []), (.iaload, []), (.iconst 4, [4]), (.imul, []), (.iload_n 1, []), (.iadd, []), (.iaload, []), (.iadd, []), (.istore_n 2, []), (.iinc 3 1, [1]), (.goto (-43), [4])], 0),
  (50, [(.iload_n 2, []), (.ireturn, [])], 0)]
def mj_c62 : mj_C := [(0, [(.iconst 0, [0]), (.istore_n 3, [])], 2),
  (2, [(.iload_n 3, []), (.aload_n 0, []), (.getfield 22, [2, 2]), (.if_icmp .ge 49, [56]), (.aload_n 0, []), (.getfield 37, [2, 6]), (.iload_n 3, []), (.aaload, []), (.iload_n 2, []), (.iaload, []), (.aload_n 0, []), (.getfield 37, [2, 6]), (.iload_n 1, []), (.aaload, []), (.iload_n 2, []), (.iaload, []), (.if_icmp .gt 22, [48]), (.aload_n 0, []), (.getfield 40, [2, 7]), (.iload_n 1, []), (.aaload, []), (.iload_n 3, []), (.iaload, []), (.aload_n 0, []), (.getfield 40, [2, 7]), (.iload_n 1, []), (.aaload, []), (.iload_n 2, []), (.iaload, []), (.if_icmp .le 5, [50])], 48),
  (48, [(.iconst 0, [0]), (.ireturn, [1])], 0),
  (50, [(.iinc 3 1, [1]), (.goto (-51), [2])], 0),
  (56, [(.iconst 1, [1]), (.ireturn, [1])], 0)]
def mj_c63 : mj_C := [(0, [(.aload_n 0, []), (.getfield 43, [2, 8]), (.ifCond .ne 17, [21]), (.aload_n 0, []), (.getfield 46, [2, 9]), (.iconst 0, [0]), (.iload_n 1, []), (.iastore, []), (.aload_n 0, []), (.getfield 46, [2, 9]), (.iconst 1, [1]), (.iload_n 2, []), (.iastore, [])], 21),
  (21, [(.aload_n 0, []), (.dup, []), (.getfield 43, [2, 8]), (.iconst 1, [1]), (.iadd, []), (.putfield 43, [2, 8, 0]), (.return_, [])], 0)]
def mj_c64 : mj_C := [(0, [(.aload_n 0, []), (.getfield 31, [2, 4]), (.iconst 0, [0]), (.invokestatic 53, [152, 2, 0])], 8),
  (8, [(.iconst 0, [0]), (.istore_n 2, [])], 10),
  (10, [(.iload_n 2, []), (.iload_n 1, []), (.if_icmp .ge 31, [43]), (.aload_n 0, []), (.getfield 31, [2, 4]), (.aload_n 0, []), (.getfield 18, [2, 1]), (.aload_n 0, []), (.getfield 34, [2, 5]), (.iload_n 2, []), (.iaload, []), (.iaload, []), (.dup2, []), (.iaload, []), (.iconst 1, [1]), (.iload_n 2, []), (.ishl, []), (.ior, []), (.iastore, []), (.iinc 2 1, [1]), (.goto (-30), [10])], 0),
  (43, [(.return_, [])], 0)]
def mj_c65 : mj_C := [(0, [(.iconst 0, [0]), (.istore 4, [])], 3),
  (3, [(.iload 4, []), (.aload_n 1, []), (.getfield 71, [1, 5]), (.if_icmp .ge 34, [43]), (.aload_n 1, []), (.getfield 109, [1, 9]), (.iload 4, []), (.iaload, []), (.aload_n 0, []), (.iload 4, []), (.invokevirtual 59, [61, 2, 1])], 25),
  (25, [(.iadd, []), (.aload_n 2, []), (.iload_n 3, []), (.iload 4, []), (.iadd, []), (.iaload, []), (.if_icmp .eq 5, [37]), (.iconst 0, [0]), (.ireturn, [1])], 0),
  (37, [(.iinc 4 1, [1]), (.goto (-37), [3])], 0),
  (43, [(.iconst 1, [1]), (.ireturn, [1])], 0)]
def mj_c66 : mj_C := [(0, [(.aload_n 0, []), (.getfield 43, [2, 8]), (.ifCond .ne 33, [37]), (.iconst 0, [0]), (.istore_n 2, [])], 9),
  (9, [(.iload_n 2, []), (.iload_n 1, []), (.if_icmp .ge 26, [37]), (.aload_n 0, []), (.getfield 46, [2, 9]), (.iload_n 2, []), (.aload_n 0, []), (.getfield 18, [2, 1]), (.aload_n 0, []), (.getfield 34, [2, 5]), (.iload_n 2, []), (.iaload, []), (.iaload, []), (.iastore, []), (.iinc 2 1, [1]), (.goto (-25), [9])], 0),
  (37, [(.aload_n 0, []), (.dup, []), (.getfield 43, [2, 8]), (.iconst 1, [1]), (.iadd, []), (.putfield 43, [2, 8, 0]), (.return_, [])], 0)]
def mj_c67 : mj_C := [(0, [(.iload_n 1, []), (.iconst 1, [1]), (.isub, []), (.istore_n 2, [])], 4),
  (4, [(.iload_n 2, []), (.ifCond .lt 41, [46]), (.aload_n 0, []), (.getfield 34, [2, 5]), (.iload_n 2, []), (.dup2, []), (.iaload, []), (.iconst 1, [1]), (.iadd, []), (.iastore, []), (.aload_n 0, []), (.getfield 34, [2, 5]), (.iload_n 2, []), (.iaload, []), (.aload_n 0, []), (.getfield 22, [2, 2]), (.if_icmp .ge 5, [33]), (.iconst 1, [1]), (.ireturn, [1])], 0),
  (33, [(.aload_n 0, []), (.getfield 34, [2, 5]), (.iload_n 2, []), (.iconst 0, [0]), (.iastore, []), (.iinc 2 (-1), [1, 1]), (.goto (-39), [4])], 0),
  (46, [(.iconst 0, [0]), (.ireturn, [1])], 0)]
def mj_c68 : mj_C := [(0, [(.aload_n 0, []), (.iconst 1, [1]), (.putfield 15, [3, 1, 1]), (.aload_n 0, []), (.iload_n 1, []), (.putfield 19, [3, 2, 0]), (.aload_n 0, []), (.iload_n 2, []), (.putfield 23, [3, 3, 0]), (.aload_n 0, []), (.getfield 9, [3, 0]), (.iconst 0, [0]), (.invokestatic 26, [152, 2, 0])], 23),
  (23, [(.return_, [])], 0)]
def mj_c69 : mj_C := [(0, [(.aload_n 0, []), (.getfield 15, [3, 1]), (.ifCond .ne 6, [10]), (.bipush (-11), [11, 1]), (.ireturn, [])], 0),
  (10, [(.aload_n 0, []), (.getfield 19, [3, 2]), (.iload_n 1, []), (.if_icmp .eq 6, [21]), (.bipush (-12), [12, 1]), (.ireturn, [])], 0),
  (21, [(.aload_n 0, []), (.iload_n 2, []), (.iload_n 3, []), (.invokevirtual 32, [70, 3, 1])], 27),
  (27, [(.ifCond .eq 8, [35]), (.bipush (-13), [13, 1]), (.goto 4, [36])], 0),
  (35, [(.iconst 0, [0])], 36),
  (36, [(.ireturn, [])], 0)]
def mj_c70 : mj_C := [(0, [(.iload_n 1, []), (.ifCond .lt 25, [26]), (.iload_n 2, []), (.ifCond .lt 21, [26]), (.iload_n 1, []), (.aload_n 0, []), (.getfield 23, [3, 3]), (.if_icmp .gt 13, [26]), (.iload_n 2, []), (.aload_n 0, []), (.getfield 23, [3, 3]), (.iload_n 1, []), (.isub, []), (.if_icmp .le 7, [30])], 26),
  (26, [(.iconst 1, [1]), (.goto 4, [31])], 0),
  (30, [(.iconst 0, [0])], 31),
  (31, [(.ireturn, [1])], 0)]
def mj_c71 : mj_C := [(0, [(.aload_n 0, []), (.getfield 19, [3, 2]), (.ifCond .ne 15, [19]), (.aload_n 0, []), (.getfield 9, [3, 0]), (.iload_n 1, []), (.lload_n 2, []), (.l2i, []), (.i2b, []), (.iastore, []), (.goto 31, [47])], 0),
  (19, [(.aload_n 0, []), (.getfield 19, [3, 2]), (.iconst 1, [1]), (.if_icmp .ne 15, [39]), (.aload_n 0, []), (.getfield 9, [3, 0]), (.iload_n 1, []), (.lload_n 2, []), (.l2i, []), (.i2s, []), (.iastore, []), (.goto 11, [47])], 0),
  (39, [(.aload_n 0, []), (.getfield 9, [3, 0]), (.iload_n 1, []), (.lload_n 2, []), (.l2i, []), (.iastore, [])], 47),
  (47, [(.return_, [])], 0)]
def mj_c72 : mj_C := [(0, [(.aload_n 1, []), (.getfield 30, [1, 7]), (.iload_n 2, []), (.iaload, []), (.bipush 9, [9]), (.invokestatic 35, [151, 2, 1])], 11),
  (11, [(.istore 4, []), (.aload_n 1, []), (.getfield 41, [1, 8]), (.iload_n 2, []), (.iaload, []), (.aload_n 1, []), (.getfield 44, [1, 9]), (.iload_n 2, []), (.iaload, []), (.isub, []), (.istore 5, []), (.aload_n 0, []), (.aload_n 1, []), (.iload_n 2, []), (.iload_n 3, []), (.iload 4, []), (.invokevirtual 47, [73, 5, 0])], 37),
  (37, [(.aload_n 0, []), (.iload 4, []), (.invokevirtual 51, [75, 2, 0])], 43),
  (43, [(.iconst 0, [0]), (.istore 6, [])], 46),
  (46, [(.iload 6, []), (.iload 4, []), (.if_icmp .gt 34, [84]), (.aload_n 0, []), (.getfield 23, [4, 2]), (.iconst 0, [0]), (.aaload, []), (.iload 6, []), (.iaload, []), (.iload 5, []), (.if_icmp .lt 14, [78]), (.aload_n 0, []), (.iload 6, []), (.iload 5, []), (.invokevirtual 55, [76, 3, 0])], 75),
  (75, [(.iload 6, []), (.ireturn, [])], 0),
  (78, [(.iinc 6 1, [1]), (.goto (-35), [46])], 0),
  (84, [(.iconst (-1), [1, 1]), (.ireturn, [])], 0)]
def mj_c73 : mj_C := [(0, [(.aload_n 0, []), (.getfield 12, [4, 0]), (.aload_n 1, []), (.invokevirtual 59, [33, 2, 0])], 8),
  (8, [(.iconst 0, [0]), (.istore 5, [])], 11),
  (11, [(.iload 5, []), (.bipush 6, [6]), (.if_icmp .ge 92, [107]), (.aload_n 1, []), (.iload 5, []), (.invokevirtual 63, [38, 2, 1])], 24),
  (24, [(.istore 6, []), (.aload_n 0, []), (.getfield 20, [4, 1]), (.iload 5, []), (.aaload, []), (.iconst 0, [0]), (.iload 6, []), (.ifCond .eq 16, [52]), (.aload_n 0, []), (.aload_n 1, []), (.iload_n 2, []), (.iload_n 3, []), (.iload 5, []), (.iconst 0, [0]), (.invokevirtual 67, [74, 6, 1])], 49),
  (49, [(.goto 4, [53])], 0),
  (52, [(.iconst 0, [0])], 53),
  (53, [(.iastore, []), (.iconst 1, [1]), (.istore 7, [])], 57),
  (57, [(.iload 7, []), (.iload 4, []), (.if_icmp .gt 40, [101]), (.aload_n 0, []), (.getfield 20, [4, 1]), (.iload 5, []), (.aaload, []), (.iload 7, []), (.iload 6, []), (.ifCond .eq 17, [92]), (.aload_n 0, []), (.aload_n 1, []), (.iload_n 2, []), (.iload_n 3, []), (.iload 5, []), (.iload 7, []), (.invokevirtual 67, [74, 6, 1])], 89),
  (89, [(.goto 5, [94])], 0),
  (92, [(.ldc 71, [1000000, 1])], 94),
  (94, [(.iastore, []), (.iinc 7 1, [1]), (.goto (-41), [57])], 0),
  (101, [(.iinc 5 1, [1]), (.goto (-93), [11])], 0),
  (107, [(.return_, [])], 0)]
def mj_c74 : mj_C := [(0, [(.aload_n 0, []), (.getfield 12, [4, 0]), (.getfield 72, [0, 0]), (.astore 6, []), (.aload 6, []), (.aload_n 1, []), (.iload 4, []), (.invokevirtual 76, [36, 3, 0])], 17),
  (17, [(.aload 6, []), (.getfield 80, [1, 4]), (.iload 4, []), (.aaload, []), (.iload_n 2, []), (.iload 5, []), (.iastore, []), (.aload 6, []), (.getfield 44, [1, 9]), (.iload_n 2, []), (.iconst 0, [0]), (.iastore, []), (.aload_n 0, []), (.getfield 12, [4, 0]), (.iload 4, []), (.iload_n 3, []), (.invokevirtual 83, [34, 3, 0])], 47),
  (47, [(.aload 6, []), (.getfield 44, [1, 9]), (.iload_n 2, []), (.iaload, []), (.ireturn, [])], 0)]
def mj_c75 : mj_C := [(0, [(.iconst 5, [5]), (.istore_n 2, [])], 2),
  (2, [(.iload_n 2, []), (.ifCond .lt 89, [92]), (.iconst 0, [0]), (.istore_n 3, [])], 8),
  (8, [(.iload_n 3, []), (.iload_n 1, []), (.if_icmp .gt 76, [86]), (.aload_n 0, []), (.getfield 23, [4, 2]), (.iload_n 2, []), (.aaload, []), (.iload_n 3, []), (.ldc 71, [1000000, 1]), (.iastore, []), (.iconst 0, [0]), (.istore 4, [])], 26),
  (26, [(.iload 4, []), (.iload_n 3, []), (.if_icmp .gt 51, [80]), (.aload_n 0, []), (.getfield 23, [4, 2]), (.iload_n 2, []), (.aaload, []), (.iload_n 3, []), (.aload_n 0, []), (.getfield 23, [4, 2]), (.iload_n 2, []), (.aaload, []), (.iload_n 3, []), (.iaload, []), (.aload_n 0, []), (.getfield 20, [4, 1]), (.iload_n 2, []), (.aaload, []), (.iload 4, []), (.iaload, []), (.aload_n 0, []), (.getfield 23, [4, 2]), (.iload_n 2, []), (.iconst 1, [1]), (.iadd, []), (.aaload, []), (.iload_n 3, []), (.iload 4, []), (.isub, []), (.iaload, []), (.iadd, []), (.invokestatic 86, [150, 2, 1])], 73),
  (73, [(.iastore, []), (.iinc 4 1, [1]), (.goto (-51), [26])], 0),
  (80, [(.iinc 3 1, [1]), (.goto (-75), [8])], 0),
  (86, [(.iinc 2 (-1), [1, 1]), (.goto (-87), [2])], 0),
  (92, [(.return_, [])], 0)]
def mj_c76 : mj_C := [(0, [(.iload_n 1, []), (.istore_n 3, []), (.iload_n 2, []), (.istore 4, []), (.iconst 0, [0]), (.istore 5, [])], 8),
  (8, [(.iload 5, []), (.bipush 6, [6]), (.if_icmp .ge 49, [61]), (.aload_n 0, []), (.iload 5, []), (.iload_n 3, []), (.iload 4, []), (.invokevirtual 89, [77, 4, 1])], 24),
  (24, [(.istore 6, []), (.aload_n 0, []), (.getfield 26, [4, 3]), (.iload 5, []), (.iload 6, []), (.iastore, []), (.iload 4, []), (.aload_n 0, []), (.getfield 20, [4, 1]), (.iload 5, []), (.aaload, []), (.iload 6, []), (.iaload, []), (.isub, []), (.istore 4, []), (.iload_n 3, []), (.iload 6, []), (.isub, []), (.istore_n 3, []), (.iinc 5 1, [1]), (.goto (-50), [8])], 0),
  (61, [(.return_, [])], 0)]
def mj_c77 : mj_C := [(0, [(.iconst 0, [0]), (.istore 4, [])], 3),
  (3, [(.iload 4, []), (.iload_n 2, []), (.if_icmp .ge 39, [45]), (.aload_n 0, []), (.getfield 20, [4, 1]), (.iload_n 1, []), (.aaload, []), (.iload 4, []), (.iaload, []), (.aload_n 0, []), (.getfield 23, [4, 2]), (.iload_n 1, []), (.iconst 1, [1]), (.iadd, []), (.aaload, []), (.iload_n 2, []), (.iload 4, []), (.isub, []), (.iaload, []), (.iadd, []), (.iload_n 3, []), (.if_icmp .lt 6, [39]), (.iload 4, []), (.ireturn, [])], 0),
  (39, [(.iinc 4 1, [1]), (.goto (-39), [3])], 0),
  (45, [(.iload_n 2, []), (.ireturn, [])], 0)]
def mj_c78 : mj_C := [(0, [(.aload_n 0, []), (.getfield 15, [5, 1]), (.bipush 48, [48]), (.if_icmp .ge 23, [29]), (.aload_n 0, []), (.getfield 9, [5, 0]), (.aload_n 0, []), (.getfield 15, [5, 1]), (.iload_n 1, []), (.iastore, []), (.aload_n 0, []), (.dup, []), (.getfield 15, [5, 1]), (.iconst 1, [1]), (.iadd, []), (.putfield 15, [5, 1, 0])], 29),
  (29, [(.return_, [])], 0)]
def mj_c79 : mj_C := [(0, [(.aload_n 1, []), (.iconst 0, [0]), (.putfield 19, [6, 2, 0]), (.iconst 0, [0]), (.istore_n 2, []), (.iconst 0, [0]), (.istore_n 3, []), (.iconst 0, [0]), (.istore 4, [])], 12),
  (12, [(.iload 4, []), (.aload_n 0, []), (.getfield 15, [5, 1]), (.if_icmp .ge 84, [102]), (.aload_n 0, []), (.getfield 9, [5, 0]), (.iload 4, []), (.iaload, []), (.istore 5, []), (.iload 5, []), (.bipush 32, [32]), (.if_icmp .ne 6, [40]), (.goto 59, [96])], 0),
  (40, [(.iload 5, []), (.iload_n 2, []), (.aload_n 1, []), (.getfield 19, [6, 2]), (.invokestatic 22, [80, 3, 1])], 50),
  (50, [(.ifCond .ne 9, [59]), (.bipush (-20), [20, 1]), (.iload 4, []), (.isub, []), (.ireturn, [])], 0),
  (59, [(.iload_n 2, []), (.ifCond .ne 14, [74]), (.iload 5, []), (.invokestatic 26, [81, 1, 1])], 68),
  (68, [(.istore_n 3, []), (.iconst 1, [1]), (.istore_n 2, []), (.goto 25, [96])], 0),
  (74, [(.iload_n 2, []), (.iconst 1, [1]), (.if_icmp .ne 18, [94]), (.aload_n 1, []), (.iload_n 3, []), (.iload 5, []), (.bipush 48, [48]), (.isub, []), (.invokevirtual 30, [82, 3, 0])], 89),
  (89, [(.iconst 2, [2]), (.istore_n 2, []), (.goto 5, [96])], 0),
  (94, [(.iconst 0, [0]), (.istore_n 2, [])], 96),
  (96, [(.iinc 4 1, [1]), (.goto (-87), [12])], 0),
  (102, [(.iload_n 2, []), (.iconst 2, [2]), (.if_icmp .ne 10, [114]), (.aload_n 1, []), (.getfield 19, [6, 2]), (.goto 10, [121])], 0),
  (114, [(.bipush (-20), [20, 1]), (.aload_n 0, []), (.getfield 15, [5, 1]), (.isub, [])], 121),
  (121, [(.ireturn, [])], 0)]
def mj_c80 : mj_C := [(0, [(.iload_n 1, []), (.ifCond .ne 16, [17]), (.iload_n 0, []), (.invokestatic 26, [81, 1, 1])], 8),
  (8, [(.ifCond .lt 7, [15]), (.iconst 1, [1]), (.goto 4, [16])], 0),
  (15, [(.iconst 0, [0])], 16),
  (16, [(.ireturn, [1])], 0),
  (17, [(.iload_n 1, []), (.iconst 1, [1]), (.if_icmp .ne 21, [40]), (.iload_n 0, []), (.bipush 48, [48]), (.if_icmp .lt 13, [38]), (.iload_n 0, []), (.bipush 51, [51]), (.if_icmp .gt 7, [38]), (.iconst 1, [1]), (.goto 4, [39])], 0),
  (38, [(.iconst 0, [0])], 39),
  (39, [(.ireturn, [1])], 0),
  (40, [(.iload_n 0, []), (.bipush 44, [44]), (.if_icmp .ne 13, [56]), (.iload_n 2, []), (.bipush 12, [12]), (.if_icmp .ge 7, [56]), (.iconst 1, [1]), (.goto 4, [57])], 0),
  (56, [(.iconst 0, [0])], 57),
  (57, [(.ireturn, [1])], 0)]
def mj_c81 : mj_C := [(0, [(.iload_n 0, []), (.lookupswitch 51 #[(100, 49), (108, 45), (114, 47), (117, 43)], [52, 50, 46, 48, 44])], 0),
  (44, [(.iconst 0, [0]), (.ireturn, [])], 0),
  (46, [(.iconst 1, [1]), (.ireturn, [])], 0),
  (48, [(.iconst 2, [2]), (.ireturn, [])], 0),
  (50, [(.iconst 3, [3]), (.ireturn, [])], 0),
  (52, [(.iconst (-1), [1, 1]), (.ireturn, [])], 0)]
def mj_c82 : mj_C := [(0, [(.aload_n 0, []), (.getfield 18, [6, 2]), (.bipush 12, [12]), (.if_icmp .ge 33, [39]), (.aload_n 0, []), (.getfield 9, [6, 0]), (.aload_n 0, []), (.getfield 18, [6, 2]), (.iload_n 1, []), (.iastore, []), (.aload_n 0, []), (.getfield 15, [6, 1]), (.aload_n 0, []), (.getfield 18, [6, 2]), (.iload_n 2, []), (.iastore, []), (.aload_n 0, []), (.dup, []), (.getfield 18, [6, 2]), (.iconst 1, [1]), (.iadd, []), (.putfield 18, [6, 2, 0])], 39),
  (39, [(.return_, [])], 0)]
def mj_c83 : mj_C := [(0, [(.aload_n 0, []), (.getfield 18, [6, 2]), (.ifCond .le 17, [21]), (.aload_n 0, []), (.getfield 9, [6, 0]), (.iload_n 1, []), (.aload_n 0, []), (.getfield 18, [6, 2]), (.irem, []), (.iaload, []), (.goto 4, [22])], 0),
  (21, [(.iconst 0, [0])], 22),
  (22, [(.ireturn, [])], 0)]
def mj_c84 : mj_C := [(0, [(.aload_n 0, []), (.getfield 18, [6, 2]), (.ifCond .le 17, [21]), (.aload_n 0, []), (.getfield 15, [6, 1]), (.iload_n 1, []), (.aload_n 0, []), (.getfield 18, [6, 2]), (.irem, []), (.iaload, []), (.goto 4, [22])], 0),
  (21, [(.iconst 0, [0])], 22),
  (22, [(.ireturn, [])], 0)]
def mj_c85 : mj_C := [(0, [(.aload_n 1, []), (.getfield 9, [6, 0]), (.iconst 0, [0]), (.aload_n 0, []), (.getfield 9, [6, 0]), (.iconst 0, [0]), (.bipush 12, [12]), (.invokestatic 22, []), (.aload_n 1, []), (.getfield 15, [6, 1]), (.iconst 0, [0]), (.aload_n 0, []), (.getfield 15, [6, 1]), (.iconst 0, [0]), (.bipush 12, [12]), (.invokestatic 22, []), (.aload_n 0, []), (.aload_n 1, []), (.getfield 18, [6, 2]), (.putfield 18, [6, 2, 0]), (.return_, [])], 0)]
def mj_c86 : mj_C := [(0, [(.lload_n 0, []), (.lload_n 2, []), (.lcmp, []), (.ifCond .lt 14, [17]), (.lload_n 0, []), (.lload 4, []), (.lcmp, []), (.ifCond .gt 7, [17]), (.iconst 1, [1]), (.goto 4, [18])], 0),
  (17, [(.iconst 0, [0])], 18),
  (18, [(.ireturn, [1])], 0)]
def mj_c87 : mj_C := [(0, [(.iload_n 1, []), (.i2l, []), (.lconst 0, []), (.aload_n 0, []), (.getfield 62, [8, 1]), (.iconst 1, [1]), (.isub, []), (.i2l, []), (.invokestatic 65, [86, 3, 1])], 13),
  (13, [(.ireturn, [1])], 0)]
def mj_c88 : mj_C := [(0, [(.iload_n 1, []), (.i2l, []), (.lconst 0, []), (.aload_n 0, []), (.getfield 69, [8, 2]), (.iconst 1, [1]), (.isub, []), (.i2l, []), (.invokestatic 65, [86, 3, 1])], 13),
  (13, [(.ireturn, [1])], 0)]
def mj_c89 : mj_C := [(0, [(.aload_n 0, []), (.getfield 7, [8, 0]), (.iconst 0, [0]), (.iload_n 1, []), (.iadd, []), (.iaload, []), (.bipush 25, [25]), (.if_icmp .ge 7, [17]), (.iconst 1, [1]), (.goto 4, [18])], 0),
  (17, [(.iconst 0, [0])], 18),
  (18, [(.ireturn, [1])], 0)]
def mj_c90 : mj_C := [(0, [(.aload_n 0, []), (.getfield 7, [8, 0]), (.iconst 0, [0]), (.aload_n 0, []), (.getfield 62, [8, 1]), (.iadd, []), (.iload_n 2, []), (.iastore, []), (.aload_n 0, []), (.getfield 7, [8, 0]), (.bipush 6, [6]), (.aload_n 0, []), (.getfield 62, [8, 1]), (.iadd, []), (.iload_n 3, []), (.iastore, []), (.aload_n 0, []), (.getfield 7, [8, 0]), (.bipush 12, [12]), (.aload_n 0, []), (.getfield 62, [8, 1]), (.iadd, []), (.iload_n 1, []), (.iastore, []), (.iconst 0, [0]), (.istore 4, [])], 41),
  (41, [(.iload 4, []), (.iconst 4, [4]), (.if_icmp .ge 28, [72]), (.aload_n 0, []), (.getfield 7, [8, 0]), (.bipush 18, [18]), (.bipush 6, [6]), (.iload 4, []), (.imul, []), (.iadd, []), (.aload_n 0, []), (.getfield 62, [8, 1]), (.iadd, []), (.iconst 0, [0]), (.iastore, []), (.iinc 4 1, [1]), (.goto (-28), [41])], 0),
  (72, [(.aload_n 0, []), (.dup, []), (.getfield 62, [8, 1]), (.iconst 1, [1]), (.iadd, []), (.putfield 62, [8, 1, 0]), (.aload_n 0, []), (.getfield 62, [8, 1]), (.iconst 1, [1]), (.isub, []), (.ireturn, [])], 0)]
def mj_c91 : mj_C := [(0, [(.iload_n 1, []), (.i2l, []), (.lconst 0, []), (.ldc2_w 72, [3]), (.invokestatic 65, [86, 3, 1])], 9),
  (9, [(.ifCond .eq 27, [36]), (.iload_n 2, []), (.i2l, []), (.lconst 0, []), (.ldc2_w 74, [24]), (.invokestatic 65, [86, 3, 1])], 21),
  (21, [(.ifCond .eq 15, [36]), (.iload_n 3, []), (.i2l, []), (.lconst 1, []), (.ldc2_w 76, [999]), (.invokestatic 65, [86, 3, 1])], 33),
  (33, [(.ifCond .ne 5, [38])], 36),
  (36, [(.iconst (-1), [1, 1]), (.ireturn, [])], 0),
  (38, [(.aload_n 0, []), (.getfield 62, [8, 1]), (.bipush 6, [6]), (.if_icmp .ne 8, [52]), (.bipush (-3), [3, 1]), (.goto 10, [59])], 0),
  (52, [(.aload_n 0, []), (.iload_n 1, []), (.iload_n 2, []), (.iload_n 3, []), (.invokevirtual 78, [90, 4, 1])], 59),
  (59, [(.ireturn, [])], 0)]
def mj_c92 : mj_C := [(0, [(.iload_n 1, []), (.i2l, []), (.lconst 0, []), (.ldc2_w 74, [24]), (.invokestatic 65, [86, 3, 1])], 9),
  (9, [(.ifCond .eq 27, [36]), (.iload_n 2, []), (.i2l, []), (.lconst 0, []), (.ldc2_w 82, [9]), (.invokestatic 65, [86, 3, 1])], 21),
  (21, [(.ifCond .eq 15, [36]), (.iload_n 3, []), (.i2l, []), (.lconst 0, []), (.ldc2_w 84, [99]), (.invokestatic 65, [86, 3, 1])], 33),
  (33, [(.ifCond .ne 5, [38])], 36),
  (36, [(.iconst (-1), [1, 1]), (.ireturn, [])], 0),
  (38, [(.aload_n 0, []), (.iload_n 1, []), (.invokevirtual 86, [93, 2, 1])], 43),
  (43, [(.ifCond .lt 6, [49]), (.bipush (-2), [2, 1]), (.ireturn, [])], 0),
  (49, [(.aload_n 0, []), (.getfield 69, [8, 2]), (.iconst 4, [4]), (.if_icmp .ne 6, [60]), (.bipush (-3), [3, 1]), (.ireturn, [])], 0),
  (60, [(.aload_n 0, []), (.getfield 13, [8, 3]), (.aload_n 0, []), (.getfield 69, [8, 2]), (.iload_n 1, []), (.iastore, []), (.aload_n 0, []), (.getfield 16, [8, 4]), (.aload_n 0, []), (.getfield 69, [8, 2]), (.iload_n 3, []), (.iastore, []), (.aload_n 0, []), (.getfield 7, [8, 0]), (.bipush 42, [42]), (.aload_n 0, []), (.getfield 69, [8, 2]), (.iadd, []), (.iload_n 2, []), (.iastore, []), (.aload_n 0, []), (.getfield 7, [8, 0]), (.bipush 46, [46]), (.aload_n 0, []), (.getfield 69, [8, 2]), (.iadd, []), (.iconst 0, [0]), (.iastore, []), (.aload_n 0, []), (.dup, []), (.getfield 69, [8, 2]), (.iconst 1, [1]), (.iadd, []), (.putfield 69, [8, 2, 0]), (.aload_n 0, []), (.getfield 69, [8, 2]), (.iconst 1, [1]), (.isub, []), (.ireturn, [])], 0)]
def mj_c93 : mj_C := [(0, [(.iconst (-1), [1, 1]), (.istore_n 2, []), (.iconst 0, [0]), (.istore_n 3, [])], 4),
  (4, [(.iload_n 3, []), (.aload_n 0, []), (.getfield 69, [8, 2]), (.if_icmp .ge 25, [34]), (.aload_n 0, []), (.getfield 13, [8, 3]), (.iload_n 3, []), (.iaload, []), (.iload_n 1, []), (.if_icmp .ne 7, [26]), (.iload_n 3, []), (.goto 4, [27])], 0),
  (26, [(.iload_n 2, [])], 27),
  (27, [(.istore_n 2, []), (.iinc 3 1, [1]), (.goto (-27), [4])], 0),
  (34, [(.iload_n 2, []), (.ireturn, [])], 0)]
def mj_c94 : mj_C := [(0, [(.iconst 0, [0]), (.istore_n 2, []), (.iconst 0, [0]), (.istore_n 3, [])], 4),
  (4, [(.iload_n 3, []), (.aload_n 0, []), (.getfield 69, [8, 2]), (.if_icmp .ge 26, [35]), (.iload_n 2, []), (.aload_n 0, []), (.getfield 7, [8, 0]), (.bipush 18, [18]), (.bipush 6, [6]), (.iload_n 3, []), (.imul, []), (.iadd, []), (.iload_n 1, []), (.iadd, []), (.iaload, []), (.iadd, []), (.istore_n 2, []), (.iinc 3 1, [1]), (.goto (-28), [4])], 0),
  (35, [(.iload_n 2, []), (.ireturn, [])], 0)]
def mj_c95 : mj_C := [(0, [(.iconst 0, [0]), (.istore_n 2, []), (.iconst 0, [0]), (.istore_n 3, [])], 4),
  (4, [(.iload_n 3, []), (.bipush 6, [6]), (.if_icmp .ge 26, [33]), (.iload_n 2, []), (.aload_n 0, []), (.getfield 7, [8, 0]), (.bipush 18, [18]), (.bipush 6, [6]), (.iload_n 1, []), (.imul, []), (.iadd, []), (.iload_n 3, []), (.iadd, []), (.iaload, []), (.iadd, []), (.istore_n 2, []), (.iinc 3 1, [1]), (.goto (-26), [4])], 0),
  (33, [(.iload_n 2, []), (.ireturn, [])], 0)]
def mj_c96 : mj_C := [(0, [(.aload_n 0, []), (.iload_n 1, []), (.invokevirtual 90, [87, 2, 1])], 5),
  (5, [(.ifCond .eq 15, [20]), (.iload_n 2, []), (.i2l, []), (.lconst 0, []), (.ldc2_w 72, [3]), (.invokestatic 65, [86, 3, 1])], 17),
  (17, [(.ifCond .ne 5, [22])], 20),
  (20, [(.iconst (-1), [1, 1]), (.ireturn, [])], 0),
  (22, [(.iload_n 2, []), (.ifCond .ne 15, [38]), (.aload_n 0, []), (.getfield 7, [8, 0]), (.bipush 12, [12]), (.iload_n 1, []), (.iadd, []), (.iaload, []), (.goto 41, [76])], 0),
  (38, [(.iload_n 2, []), (.iconst 1, [1]), (.if_icmp .ne 14, [54]), (.aload_n 0, []), (.getfield 7, [8, 0]), (.iconst 0, [0]), (.iload_n 1, []), (.iadd, []), (.iaload, []), (.goto 25, [76])], 0),
  (54, [(.iload_n 2, []), (.iconst 2, [2]), (.if_icmp .ne 15, [71]), (.aload_n 0, []), (.getfield 7, [8, 0]), (.bipush 6, [6]), (.iload_n 1, []), (.iadd, []), (.iaload, []), (.goto 8, [76])], 0),
  (71, [(.aload_n 0, []), (.iload_n 1, []), (.invokevirtual 94, [94, 2, 1])], 76),
  (76, [(.ireturn, [])], 0)]
def mj_c97 : mj_C := [(0, [(.aload_n 0, []), (.iload_n 1, []), (.invokevirtual 97, [88, 2, 1])], 5),
  (5, [(.ifCond .eq 15, [20]), (.iload_n 2, []), (.i2l, []), (.lconst 0, []), (.ldc2_w 100, [4]), (.invokestatic 65, [86, 3, 1])], 17),
  (17, [(.ifCond .ne 5, [22])], 20),
  (20, [(.iconst (-1), [1, 1]), (.ireturn, [])], 0),
  (22, [(.iload_n 2, []), (.tableswitch 63 0 3 #[29, 36, 46, 53], [86, 52, 59, 69, 76])], 0),
  (52, [(.aload_n 0, []), (.getfield 13, [8, 3]), (.iload_n 1, []), (.iaload, []), (.ireturn, [])], 0),
  (59, [(.aload_n 0, []), (.getfield 7, [8, 0]), (.bipush 42, [42]), (.iload_n 1, []), (.iadd, []), (.iaload, []), (.ireturn, [])], 0),
  (69, [(.aload_n 0, []), (.getfield 16, [8, 4]), (.iload_n 1, []), (.iaload, []), (.ireturn, [])], 0),
  (76, [(.aload_n 0, []), (.getfield 7, [8, 0]), (.bipush 46, [46]), (.iload_n 1, []), (.iadd, []), (.iaload, []), (.ireturn, [])], 0),
  (86, [(.aload_n 0, []), (.getfield 7, [8, 0]), (.bipush 42, [42]), (.iload_n 1, []), (.iadd, []), (.iaload, []), (.aload_n 0, []), (.iload_n 1, []), (.invokevirtual 102, [95, 2, 1])], 100),
  (100, [(.isub, []), (.ireturn, [])], 0)]
def mj_c98 : mj_C := [(0, [(.aload_n 0, []), (.iload_n 1, []), (.invokevirtual 97, [88, 2, 1])], 5),
  (5, [(.ifCond .eq 35, [40]), (.iload_n 2, []), (.i2l, []), (.lconst 0, []), (.lconst 1, []), (.invokestatic 65, [86, 3, 1])], 15),
  (15, [(.ifCond .eq 25, [40]), (.iload_n 3, []), (.i2l, []), (.lconst 0, []), (.iload_n 2, []), (.ifCond .ne 9, [31]), (.ldc2_w 82, [9]), (.goto 6, [34])], 0),
  (31, [(.ldc2_w 84, [99])], 34),
  (34, [(.invokestatic 65, [86, 3, 1])], 37),
  (37, [(.ifCond .ne 5, [42])], 40),
  (40, [(.iconst (-1), [1, 1]), (.ireturn, [])], 0),
  (42, [(.iload_n 2, []), (.ifCond .ne 15, [58]), (.aload_n 0, []), (.iload_n 1, []), (.invokevirtual 102, [95, 2, 1])], 51),
  (51, [(.iload_n 3, []), (.if_icmp .le 6, [58]), (.bipush (-2), [2, 1]), (.ireturn, [])], 0),
  (58, [(.iload_n 2, []), (.ifCond .ne 15, [74]), (.aload_n 0, []), (.getfield 7, [8, 0]), (.bipush 42, [42]), (.iload_n 1, []), (.iadd, []), (.iaload, []), (.goto 9, [80])], 0),
  (74, [(.aload_n 0, []), (.getfield 16, [8, 4]), (.iload_n 1, []), (.iaload, [])], 80),
  (80, [(.istore 4, []), (.iload_n 2, []), (.ifCond .ne 16, [99]), (.aload_n 0, []), (.getfield 7, [8, 0]), (.bipush 42, [42]), (.iload_n 1, []), (.iadd, []), (.iload_n 3, []), (.iastore, []), (.goto 10, [106])], 0),
  (99, [(.aload_n 0, []), (.getfield 16, [8, 4]), (.iload_n 1, []), (.iload_n 3, []), (.iastore, [])], 106),
  (106, [(.iload 4, []), (.ireturn, [])], 0)]
def mj_c99 : mj_C := [(0, [(.aload_n 0, []), (.iload_n 1, []), (.invokevirtual 97, [88, 2, 1])], 5),
  (5, [(.ifCond .eq 23, [28]), (.aload_n 0, []), (.iload_n 2, []), (.invokevirtual 90, [87, 2, 1])], 13),
  (13, [(.ifCond .eq 15, [28]), (.iload_n 3, []), (.i2l, []), (.lconst 0, []), (.ldc2_w 82, [9]), (.invokestatic 65, [86, 3, 1])], 25),
  (25, [(.ifCond .ne 5, [30])], 28),
  (28, [(.iconst (-1), [1, 1]), (.ireturn, [])], 0),
  (30, [(.aload_n 0, []), (.iload_n 2, []), (.invokevirtual 105, [89, 2, 1])], 35),
  (35, [(.ifCond .ne 6, [41]), (.bipush (-2), [2, 1]), (.ireturn, [])], 0),
  (41, [(.aload_n 0, []), (.getfield 7, [8, 0]), (.bipush 18, [18]), (.bipush 6, [6]), (.iload_n 1, []), (.imul, []), (.iadd, []), (.iload_n 2, []), (.iadd, []), (.iaload, []), (.istore 4, []), (.aload_n 0, []), (.iload_n 1, []), (.invokevirtual 102, [95, 2, 1])], 62),
  (62, [(.iload 4, []), (.isub, []), (.iload_n 3, []), (.iadd, []), (.aload_n 0, []), (.getfield 7, [8, 0]), (.bipush 42, [42]), (.iload_n 1, []), (.iadd, []), (.iaload, []), (.if_icmp .le 6, [82]), (.bipush (-3), [3, 1]), (.ireturn, [])], 0),
  (82, [(.aload_n 0, []), (.getfield 7, [8, 0]), (.bipush 18, [18]), (.bipush 6, [6]), (.iload_n 1, []), (.imul, []), (.iadd, []), (.iload_n 2, []), (.iadd, []), (.iload_n 3, []), (.iastore, []), (.iload 4, []), (.ireturn, [])], 0)]
def mj_c100 : mj_C := [(0, [(.aload_n 0, []), (.iload_n 1, []), (.invokevirtual 97, [88, 2, 1])], 5),
  (5, [(.ifCond .eq 28, [33]), (.aload_n 0, []), (.iload_n 2, []), (.invokevirtual 90, [87, 2, 1])], 13),
  (13, [(.ifCond .eq 20, [33]), (.aload_n 0, []), (.getfield 7, [8, 0]), (.bipush 18, [18]), (.bipush 6, [6]), (.iload_n 1, []), (.imul, []), (.iadd, []), (.iload_n 2, []), (.iadd, []), (.iaload, []), (.goto 4, [34])], 0),
  (33, [(.iconst (-1), [1, 1])], 34),
  (34, [(.ireturn, [])], 0)]
def mj_c101 : mj_C := [(0, [(.iconst 0, [0]), (.istore_n 2, [])], 2),
  (2, [(.iload_n 2, []), (.iconst 4, [4]), (.if_icmp .ge 24, [28]), (.aload_n 0, []), (.getfield 7, [8, 0]), (.bipush 18, [18]), (.bipush 6, [6]), (.iload_n 2, []), (.imul, []), (.iadd, []), (.iload_n 1, []), (.iadd, []), (.iconst 0, [0]), (.iastore, []), (.iinc 2 1, [1]), (.goto (-23), [2])], 0),
  (28, [(.return_, [])], 0)]
def mj_c102 : mj_C := [(0, [(.aload_n 0, []), (.iload_n 1, []), (.invokevirtual 90, [87, 2, 1])], 5),
  (5, [(.ifCond .eq 16, [21]), (.aload_n 0, []), (.iload_n 2, []), (.invokevirtual 90, [87, 2, 1])], 13),
  (13, [(.ifCond .eq 8, [21]), (.iload_n 1, []), (.iload_n 2, []), (.if_icmp .ne 5, [23])], 21),
  (21, [(.iconst (-1), [1, 1]), (.ireturn, [])], 0),
  (23, [(.aload_n 0, []), (.iload_n 1, []), (.invokevirtual 105, [89, 2, 1])], 28),
  (28, [(.ifCond .eq 22, [50]), (.aload_n 0, []), (.getfield 7, [8, 0]), (.iconst 0, [0]), (.iload_n 1, []), (.iadd, []), (.iaload, []), (.aload_n 0, []), (.getfield 7, [8, 0]), (.iconst 0, [0]), (.iload_n 2, []), (.iadd, []), (.iaload, []), (.if_icmp .eq 6, [53])], 50),
  (50, [(.bipush (-2), [2, 1]), (.ireturn, [])], 0),
  (53, [(.aload_n 0, []), (.getfield 7, [8, 0]), (.bipush 6, [6]), (.iload_n 1, []), (.iadd, []), (.iaload, []), (.aload_n 0, []), (.getfield 7, [8, 0]), (.bipush 6, [6]), (.iload_n 2, []), (.iadd, []), (.iaload, []), (.iadd, []), (.istore_n 3, []), (.iload_n 3, []), (.sipush 999, [999]), (.if_icmp .le 9, [86]), (.sipush 999, [999]), (.goto 4, [87])], 0),
  (86, [(.iload_n 3, [])], 87),
  (87, [(.istore 4, []), (.aload_n 0, []), (.getfield 7, [8, 0]), (.bipush 50, [50]), (.aload_n 0, []), (.getfield 7, [8, 0]), (.iconst 0, [0]), (.iload_n 1, []), (.iadd, []), (.iaload, []), (.iadd, []), (.dup2, []), (.iaload, []), (.iload_n 3, []), (.iload 4, []), (.isub, []), (.iadd, []), (.iastore, []), (.aload_n 0, []), (.getfield 7, [8, 0]), (.bipush 6, [6]), (.iload_n 1, []), (.iadd, []), (.iload 4, []), (.iastore, []), (.aload_n 0, []), (.getfield 7, [8, 0]), (.bipush 6, [6]), (.iload_n 2, []), (.iadd, []), (.iconst 0, [0]), (.iastore, []), (.aload_n 0, []), (.getfield 7, [8, 0]), (.iconst 0, [0]), (.iload_n 2, []), (.iadd, []), (.bipush 25, [25]), (.iastore, []), (.aload_n 0, []), (.iload_n 2, []), (.invokevirtual 108, [101, 2, 0])], 148),
  (148, [(.iload 4, []), (.ireturn, [])], 0)]
def mj_c103 : mj_C := [(0, [(.aload_n 0, []), (.iload_n 1, []), (.invokevirtual 90, [87, 2, 1])], 5),
  (5, [(.ifCond .eq 15, [20]), (.iload_n 2, []), (.i2l, []), (.lconst 1, []), (.ldc2_w 76, [999]), (.invokestatic 65, [86, 3, 1])], 17),
  (17, [(.ifCond .ne 5, [22])], 20),
  (20, [(.iconst (-1), [1, 1]), (.ireturn, [])], 0),
  (22, [(.aload_n 0, []), (.iload_n 1, []), (.invokevirtual 105, [89, 2, 1])], 27),
  (27, [(.ifCond .eq 16, [43]), (.aload_n 0, []), (.getfield 7, [8, 0]), (.bipush 6, [6]), (.iload_n 1, []), (.iadd, []), (.iaload, []), (.iload_n 2, []), (.if_icmp .gt 6, [46])], 43),
  (43, [(.bipush (-2), [2, 1]), (.ireturn, [])], 0),
  (46, [(.aload_n 0, []), (.getfield 62, [8, 1]), (.bipush 6, [6]), (.if_icmp .ne 6, [58]), (.bipush (-3), [3, 1]), (.ireturn, [])], 0),
  (58, [(.aload_n 0, []), (.getfield 7, [8, 0]), (.bipush 6, [6]), (.iload_n 1, []), (.iadd, []), (.dup2, []), (.iaload, []), (.iload_n 2, []), (.isub, []), (.iastore, []), (.aload_n 0, []), (.aload_n 0, []), (.getfield 7, [8, 0]), (.bipush 12, [12]), (.iload_n 1, []), (.iadd, []), (.iaload, []), (.aload_n 0, []), (.getfield 7, [8, 0]), (.iconst 0, [0]), (.iload_n 1, []), (.iadd, []), (.iaload, []), (.iload_n 2, []), (.invokevirtual 78, [90, 4, 1])], 93),
  (93, [(.ireturn, [])], 0)]
def mj_c104 : mj_C := [(0, [(.aload_n 0, []), (.iload_n 1, []), (.invokevirtual 90, [87, 2, 1])], 5),
  (5, [(.ifCond .ne 5, [10]), (.iconst (-1), [1, 1]), (.ireturn, [])], 0),
  (10, [(.aload_n 0, []), (.iload_n 1, []), (.invokevirtual 105, [89, 2, 1])], 15),
  (15, [(.ifCond .ne 6, [21]), (.bipush (-2), [2, 1]), (.ireturn, [])], 0),
  (21, [(.aload_n 0, []), (.getfield 7, [8, 0]), (.bipush 12, [12]), (.iload_n 1, []), (.iadd, []), (.iaload, []), (.istore_n 2, []), (.aload_n 0, []), (.getfield 7, [8, 0]), (.bipush 12, [12]), (.iload_n 1, []), (.iadd, []), (.iconst 3, [3]), (.iastore, []), (.iload_n 2, []), (.ireturn, [])], 0)]
def mj_c105 : mj_C := [(0, [(.iload_n 3, []), (.i2l, []), (.lconst 1, []), (.ldc2_w 112, [8]), (.invokestatic 65, [86, 3, 1])], 9),
  (9, [(.ifCond .ne 5, [14]), (.iconst (-1), [1, 1]), (.ireturn, [])], 0),
  (14, [(.iconst 0, [0]), (.istore 4, [])], 17),
  (17, [(.iload 4, []), (.iload_n 3, []), (.if_icmp .ge 34, [54]), (.lload_n 1, []), (.bipush 8, [8]), (.iload 4, []), (.imul, []), (.lshr, []), (.ldc2_w 114, [255]), (.land, []), (.ldc2_w 116, [32]), (.ldc2_w 118, [126]), (.invokestatic 65, [86, 3, 1])], 43),
  (43, [(.ifCond .ne 5, [48]), (.iconst (-1), [1, 1]), (.ireturn, [])], 0),
  (48, [(.iinc 4 1, [1]), (.goto (-34), [17])], 0),
  (54, [(.aload_n 0, []), (.getfield 120, [8, 10]), (.iload_n 3, []), (.iadd, []), (.bipush 48, [48]), (.if_icmp .le 6, [68]), (.bipush (-3), [3, 1]), (.ireturn, [])], 0),
  (68, [(.iload_n 3, []), (.iconst 1, [1]), (.isub, []), (.istore 4, [])], 73),
  (73, [(.iload 4, []), (.ifCond .lt 40, [115]), (.aload_n 0, []), (.getfield 29, [8, 9]), (.aload_n 0, []), (.getfield 120, [8, 10]), (.lload_n 1, []), (.bipush 8, [8]), (.iload 4, []), (.imul, []), (.lshr, []), (.ldc2_w 114, [255]), (.land, []), (.l2i, []), (.iastore, []), (.aload_n 0, []), (.dup, []), (.getfield 120, [8, 10]), (.iconst 1, [1]), (.iadd, []), (.putfield 120, [8, 10, 0]), (.iinc 4 (-1), [1, 1]), (.goto (-39), [73])], 0),
  (115, [(.aload_n 0, []), (.getfield 120, [8, 10]), (.ireturn, [])], 0)]
def mj_c106 : mj_C := [(0, [(.aload_n 0, []), (.getfield 123, [8, 11]), (.aload_n 0, []), (.getfield 120, [8, 10]), (.if_icmp .ge 30, [38]), (.aload_n 0, []), (.getfield 29, [8, 9]), (.aload_n 0, []), (.getfield 123, [8, 11]), (.iaload, []), (.bipush 32, [32]), (.if_icmp .ne 16, [38]), (.aload_n 0, []), (.dup, []), (.getfield 123, [8, 11]), (.iconst 1, [1]), (.iadd, []), (.putfield 123, [8, 11, 0]), (.goto (-35), [0])], 0),
  (38, [(.aload_n 0, []), (.getfield 123, [8, 11]), (.aload_n 0, []), (.getfield 120, [8, 10]), (.if_icmp .ge 15, [61]), (.aload_n 0, []), (.getfield 29, [8, 9]), (.aload_n 0, []), (.getfield 123, [8, 11]), (.iaload, []), (.goto 4, [62])], 0),
  (61, [(.iconst 0, [0])], 62),
  (62, [(.ireturn, [])], 0)]
def mj_c107 : mj_C := [(0, [(.iload_n 0, []), (.bipush 117, [117]), (.if_icmp .ne 7, [10]), (.iconst 0, [0]), (.goto 35, [42])], 0),
  (10, [(.iload_n 0, []), (.bipush 108, [108]), (.if_icmp .ne 7, [20]), (.iconst 1, [1]), (.goto 25, [42])], 0),
  (20, [(.iload_n 0, []), (.bipush 114, [114]), (.if_icmp .ne 7, [30]), (.iconst 2, [2]), (.goto 15, [42])], 0),
  (30, [(.iload_n 0, []), (.bipush 100, [100]), (.if_icmp .ne 7, [40]), (.iconst 3, [3]), (.goto 5, [42])], 0),
  (40, [(.bipush (-4), [4, 1])], 42),
  (42, [(.ireturn, [])], 0)]
def mj_c108 : mj_C := [(0, [(.aload_n 0, []), (.getfield 32, [8, 13]), (.iconst 2, [2]), (.iload_n 1, []), (.imul, []), (.aload_n 0, []), (.invokevirtual 126, [106, 1, 1])], 11),
  (11, [(.invokestatic 130, [107, 1, 1])], 14),
  (14, [(.iastore, []), (.aload_n 0, []), (.aload_n 0, []), (.getfield 32, [8, 13]), (.iconst 2, [2]), (.iload_n 1, []), (.imul, []), (.iaload, []), (.ifCond .ge 7, [31]), (.iconst 1, [1]), (.goto 4, [32])], 0),
  (31, [(.iconst 0, [0])], 32),
  (32, [(.putfield 133, [8, 12, 1]), (.aload_n 0, []), (.dup, []), (.getfield 123, [8, 11]), (.aload_n 0, []), (.getfield 133, [8, 12]), (.ifCond .eq 7, [51]), (.iconst 0, [0]), (.goto 4, [52])], 0),
  (51, [(.iconst 1, [1])], 52),
  (52, [(.iadd, []), (.putfield 123, [8, 11, 0]), (.aload_n 0, []), (.getfield 133, [8, 12]), (.ifCond .ne 71, [131]), (.aload_n 0, []), (.getfield 32, [8, 13]), (.iconst 2, [2]), (.iload_n 1, []), (.imul, []), (.iconst 1, [1]), (.iadd, []), (.aload_n 0, []), (.invokevirtual 126, [106, 1, 1])], 76),
  (76, [(.bipush 48, [48]), (.isub, []), (.iastore, []), (.aload_n 0, []), (.aload_n 0, []), (.getfield 32, [8, 13]), (.iconst 2, [2]), (.iload_n 1, []), (.imul, []), (.iconst 1, [1]), (.iadd, []), (.iaload, []), (.i2l, []), (.lconst 0, []), (.ldc2_w 72, [3]), (.invokestatic 65, [86, 3, 1])], 99),
  (99, [(.ifCond .ne 7, [106]), (.iconst 1, [1]), (.goto 4, [107])], 0),
  (106, [(.iconst 0, [0])], 107),
  (107, [(.putfield 133, [8, 12, 1]), (.aload_n 0, []), (.dup, []), (.getfield 123, [8, 11]), (.aload_n 0, []), (.getfield 133, [8, 12]), (.ifCond .eq 7, [126]), (.iconst 0, [0]), (.goto 4, [127])], 0),
  (126, [(.iconst 1, [1])], 127),
  (127, [(.iadd, []), (.putfield 123, [8, 11, 0])], 131),
  (131, [(.return_, [])], 0)]
def mj_c109 : mj_C := [(0, [(.aload_n 0, []), (.iconst 0, [0]), (.putfield 123, [8, 11, 0]), (.aload_n 0, []), (.iconst 0, [0]), (.putfield 133, [8, 12, 1]), (.iconst 0, [0]), (.istore_n 1, []), (.iconst 1, [1]), (.istore_n 2, [])], 14),
  (14, [(.iload_n 2, []), (.ifCond .eq 60, [75]), (.aload_n 0, []), (.iload_n 1, []), (.invokevirtual 137, [108, 2, 0])], 23),
  (23, [(.iinc 1 1, [1]), (.aload_n 0, []), (.getfield 133, [8, 12]), (.ifCond .ne 22, [52]), (.iload_n 1, []), (.bipush 12, [12]), (.if_icmp .ge 16, [52]), (.aload_n 0, []), (.invokevirtual 126, [106, 1, 1])], 43),
  (43, [(.bipush 44, [44]), (.if_icmp .ne 7, [52]), (.iconst 1, [1]), (.goto 4, [53])], 0),
  (52, [(.iconst 0, [0])], 53),
  (53, [(.istore_n 2, []), (.aload_n 0, []), (.dup, []), (.getfield 123, [8, 11]), (.iload_n 2, []), (.ifCond .eq 7, [67]), (.iconst 1, [1]), (.goto 4, [68])], 0),
  (67, [(.iconst 0, [0])], 68),
  (68, [(.iadd, []), (.putfield 123, [8, 11, 0]), (.goto (-58), [14])], 0),
  (75, [(.aload_n 0, []), (.aload_n 0, []), (.getfield 133, [8, 12]), (.ifCond .ne 10, [90]), (.aload_n 0, []), (.invokevirtual 126, [106, 1, 1])], 87),
  (87, [(.ifCond .eq 7, [94])], 90),
  (90, [(.iconst 1, [1]), (.goto 4, [95])], 0),
  (94, [(.iconst 0, [0])], 95),
  (95, [(.putfield 133, [8, 12, 1]), (.aload_n 0, []), (.iconst 0, [0]), (.putfield 120, [8, 10, 0]), (.aload_n 0, []), (.getfield 133, [8, 12]), (.ifCond .eq 11, [118]), (.bipush (-20), [20, 1]), (.aload_n 0, []), (.getfield 123, [8, 11]), (.isub, []), (.ireturn, [])], 0),
  (118, [(.aload_n 0, []), (.iload_n 1, []), (.putfield 140, [8, 5, 0]), (.iconst 0, [0]), (.istore_n 3, [])], 125),
  (125, [(.iload_n 3, []), (.iload_n 1, []), (.if_icmp .ge 39, [166]), (.aload_n 0, []), (.getfield 19, [8, 6]), (.iload_n 3, []), (.aload_n 0, []), (.getfield 32, [8, 13]), (.iconst 2, [2]), (.iload_n 3, []), (.imul, []), (.iaload, []), (.iastore, []), (.aload_n 0, []), (.getfield 22, [8, 7]), (.iload_n 3, []), (.aload_n 0, []), (.getfield 32, [8, 13]), (.iconst 2, [2]), (.iload_n 3, []), (.imul, []), (.iconst 1, [1]), (.iadd, []), (.iaload, []), (.iastore, []), (.iinc 3 1, [1]), (.goto (-38), [125])], 0),
  (166, [(.iload_n 1, []), (.ireturn, [])], 0)]
def mj_c110 : mj_C := [(0, [(.iload_n 1, []), (.i2l, []), (.lconst 0, []), (.ldc2_w 74, [24]), (.invokestatic 65, [86, 3, 1])], 9),
  (9, [(.ifCond .eq 15, [24]), (.aload_n 0, []), (.getfield 7, [8, 0]), (.bipush 50, [50]), (.iload_n 1, []), (.iadd, []), (.iaload, []), (.goto 4, [25])], 0),
  (24, [(.iconst (-1), [1, 1])], 25),
  (25, [(.ireturn, [])], 0)]
def mj_c111 : mj_C := [(0, [(.iconst 0, [0]), (.istore_n 3, []), (.iconst 0, [0]), (.istore 4, [])], 5),
  (5, [(.iload 4, []), (.iload_n 2, []), (.if_icmp .ge 21, [29]), (.iload_n 3, []), (.aload_n 0, []), (.getfield 7, [8, 0]), (.iload_n 1, []), (.iload 4, []), (.iadd, []), (.iaload, []), (.iadd, []), (.istore_n 3, []), (.iinc 4 1, [1]), (.goto (-21), [5])], 0),
  (29, [(.iload_n 3, []), (.ireturn, [])], 0)]
def mj_c112 : mj_C := [(0, [(.iconst 0, [0]), (.istore_n 2, []), (.iconst 0, [0]), (.istore_n 3, []), (.iconst 0, [0]), (.istore 4, [])], 7),
  (7, [(.iload 4, []), (.aload_n 0, []), (.getfield 62, [8, 1]), (.if_icmp .ge 52, [65]), (.iload_n 2, []), (.aload_n 0, []), (.iload 4, []), (.invokevirtual 105, [89, 2, 1])], 23),
  (23, [(.ifCond .eq 7, [30]), (.iconst 1, [1]), (.goto 4, [31])], 0),
  (30, [(.iconst 0, [0])], 31),
  (31, [(.iadd, []), (.istore_n 2, []), (.iload_n 3, []), (.aload_n 0, []), (.iload 4, []), (.invokevirtual 105, [89, 2, 1])], 40),
  (40, [(.ifCond .eq 16, [56]), (.aload_n 0, []), (.getfield 7, [8, 0]), (.bipush 6, [6]), (.iload 4, []), (.iadd, []), (.iaload, []), (.goto 4, [57])], 0),
  (56, [(.iconst 0, [0])], 57),
  (57, [(.iadd, []), (.istore_n 3, []), (.iinc 4 1, [1]), (.goto (-55), [7])], 0),
  (65, [(.iload_n 1, []), (.tableswitch 101 0 7 #[46, 48, 53, 61, 66, 68, 81, 90], [167, 112, 114, 119, 127, 132, 134, 147, 156])], 0),
  (112, [(.iload_n 2, []), (.ireturn, [])], 0),
  (114, [(.aload_n 0, []), (.getfield 69, [8, 2]), (.ireturn, [])], 0),
  (119, [(.aload_n 0, []), (.getfield 7, [8, 0]), (.bipush 75, [75]), (.iaload, []), (.ireturn, [])], 0),
  (127, [(.aload_n 0, []), (.getfield 140, [8, 5]), (.ireturn, [])], 0),
  (132, [(.iload_n 3, []), (.ireturn, [])], 0),
  (134, [(.aload_n 0, []), (.bipush 6, [6]), (.aload_n 0, []), (.getfield 62, [8, 1]), (.invokevirtual 143, [111, 3, 1])], 144),
  (144, [(.iload_n 3, []), (.isub, []), (.ireturn, [])], 0),
  (147, [(.aload_n 0, []), (.bipush 50, [50]), (.bipush 25, [25]), (.invokevirtual 143, [111, 3, 1])], 155),
  (155, [(.ireturn, [])], 0),
  (156, [(.aload_n 0, []), (.bipush 42, [42]), (.aload_n 0, []), (.getfield 69, [8, 2]), (.invokevirtual 143, [111, 3, 1])], 166),
  (166, [(.ireturn, [])], 0),
  (167, [(.iconst (-1), [1, 1]), (.ireturn, [])], 0)]
def mj_c113 : mj_C := [(0, [(.iload_n 0, []), (.ifCond .ne 7, [8]), (.iconst 2, [2]), (.goto 13, [18])], 0),
  (8, [(.iload_n 0, []), (.iconst 2, [2]), (.if_icmp .ne 7, [17]), (.iconst 5, [5]), (.goto 4, [18])], 0),
  (17, [(.iconst 1, [1])], 18),
  (18, [(.ireturn, [])], 0)]
def mj_c114 : mj_C := [(0, [(.iload_n 0, []), (.iconst 5, [5]), (.idiv, []), (.iload_n 1, []), (.ifCond .ne 7, [11]), (.iconst (-1), [1, 1]), (.goto 13, [21])], 0),
  (11, [(.iload_n 1, []), (.iconst 3, [3]), (.if_icmp .ne 7, [20]), (.iconst 1, [1]), (.goto 4, [21])], 0),
  (20, [(.iconst 0, [0])], 21),
  (21, [(.iadd, []), (.istore_n 2, []), (.iload_n 0, []), (.iconst 5, [5]), (.irem, []), (.iload_n 1, []), (.iconst 1, [1]), (.if_icmp .ne 7, [35]), (.iconst (-1), [1, 1]), (.goto 13, [45])], 0),
  (35, [(.iload_n 1, []), (.iconst 2, [2]), (.if_icmp .ne 7, [44]), (.iconst 1, [1]), (.goto 4, [45])], 0),
  (44, [(.iconst 0, [0])], 45),
  (45, [(.iadd, []), (.istore_n 3, []), (.iload_n 2, []), (.i2l, []), (.lconst 0, []), (.ldc2_w 100, [4]), (.invokestatic 65, [86, 3, 1])], 56),
  (56, [(.ifCond .eq 23, [79]), (.iload_n 3, []), (.i2l, []), (.lconst 0, []), (.ldc2_w 100, [4]), (.invokestatic 65, [86, 3, 1])], 68),
  (68, [(.ifCond .eq 11, [79]), (.iconst 5, [5]), (.iload_n 2, []), (.imul, []), (.iload_n 3, []), (.iadd, []), (.goto 5, [81])], 0),
  (79, [(.bipush 25, [25])], 81),
  (81, [(.ireturn, [])], 0)]
def mj_c115 : mj_C := [(0, [(.iload_n 0, []), (.iconst 5, [5]), (.idiv, []), (.iload_n 1, []), (.iconst 5, [5]), (.idiv, []), (.if_icmp .eq 22, [28]), (.iload_n 0, []), (.iconst 5, [5]), (.idiv, []), (.iload_n 1, []), (.iconst 5, [5]), (.idiv, []), (.if_icmp .le 9, [24]), (.iload_n 0, []), (.iconst 5, [5]), (.isub, []), (.goto 6, [27])], 0),
  (24, [(.iload_n 0, []), (.iconst 5, [5]), (.iadd, [])], 27),
  (27, [(.ireturn, [])], 0),
  (28, [(.iload_n 0, []), (.iload_n 1, []), (.if_icmp .le 9, [39]), (.iload_n 0, []), (.iconst 1, [1]), (.isub, []), (.goto 15, [51])], 0),
  (39, [(.iload_n 0, []), (.iload_n 1, []), (.if_icmp .ge 9, [50]), (.iload_n 0, []), (.iconst 1, [1]), (.iadd, []), (.goto 4, [51])], 0),
  (50, [(.iload_n 0, [])], 51),
  (51, [(.ireturn, [])], 0)]
def mj_c116 : mj_C := [(0, [(.iload_n 3, []), (.aload_n 0, []), (.getfield 7, [8, 0]), (.bipush 12, [12]), (.iload_n 1, []), (.iadd, []), (.iaload, []), (.iconst 2, [2]), (.if_icmp .ne 7, [18]), (.iconst 2, [2]), (.goto 4, [19])], 0),
  (18, [(.iconst 1, [1])], 19),
  (19, [(.imul, []), (.istore 4, []), (.aload_n 0, []), (.iload_n 1, []), (.invokevirtual 94, [94, 2, 1])], 27),
  (27, [(.istore 5, []), (.iconst 0, [0]), (.istore 6, []), (.iconst 0, [0]), (.istore 7, []), (.iconst 0, [0]), (.istore 8, [])], 38),
  (38, [(.iload 8, []), (.aload_n 0, []), (.getfield 69, [8, 2]), (.if_icmp .ge 58, [102]), (.aload_n 0, []), (.getfield 7, [8, 0]), (.bipush 18, [18]), (.bipush 6, [6]), (.iload 8, []), (.imul, []), (.iadd, []), (.iload_n 1, []), (.iadd, []), (.iaload, []), (.istore 9, []), (.iload 9, []), (.iload 6, []), (.if_icmp .le 8, [76]), (.iload 8, []), (.goto 5, [78])], 0),
  (76, [(.iload 7, [])], 78),
  (78, [(.istore 7, []), (.iload 9, []), (.iload 6, []), (.if_icmp .le 8, [92]), (.iload 9, []), (.goto 5, [94])], 0),
  (92, [(.iload 6, [])], 94),
  (94, [(.istore 6, []), (.iinc 8 1, [1]), (.goto (-61), [38])], 0),
  (102, [(.iload 6, []), (.ifCond .le 45, [149]), (.iload 6, []), (.iload 5, []), (.iload 6, []), (.isub, []), (.iload 4, []), (.iadd, []), (.if_icmp .lt 32, [149]), (.aload_n 0, []), (.getfield 7, [8, 0]), (.iconst 0, [0]), (.iload_n 1, []), (.iadd, []), (.aload_n 0, []), (.getfield 7, [8, 0]), (.iconst 0, [0]), (.iload_n 1, []), (.iadd, []), (.iaload, []), (.aload_n 0, []), (.getfield 13, [8, 3]), (.iload 7, []), (.iaload, []), (.invokestatic 147, [115, 2, 1])], 145),
  (145, [(.iastore, []), (.goto 94, [240])], 0),
  (149, [(.iload 5, []), (.iload 4, []), (.if_icmp .ge 87, [240]), (.aload_n 0, []), (.getfield 7, [8, 0]), (.iconst 0, [0]), (.iload_n 1, []), (.iadd, []), (.aload_n 0, []), (.getfield 7, [8, 0]), (.iconst 0, [0]), (.iload_n 1, []), (.iadd, []), (.iaload, []), (.iload_n 2, []), (.invokestatic 150, [114, 2, 1])], 175),
  (175, [(.iastore, []), (.aload_n 0, []), (.getfield 7, [8, 0]), (.iconst 0, [0]), (.iload_n 1, []), (.iadd, []), (.iaload, []), (.bipush 25, [25]), (.if_icmp .ne 54, [240]), (.iconst 0, [0]), (.istore 8, [])], 192),
  (192, [(.iload 8, []), (.aload_n 0, []), (.getfield 69, [8, 2]), (.if_icmp .ge 37, [235]), (.aload_n 0, []), (.getfield 7, [8, 0]), (.bipush 42, [42]), (.iload 8, []), (.iadd, []), (.dup2, []), (.iaload, []), (.aload_n 0, []), (.getfield 7, [8, 0]), (.bipush 18, [18]), (.bipush 6, [6]), (.iload 8, []), (.imul, []), (.iadd, []), (.iload_n 1, []), (.iadd, []), (.iaload, []), (.isub, []), (.iastore, []), (.iinc 8 1, [1]), (.goto (-40), [192])], 0),
  (235, [(.aload_n 0, []), (.iload_n 1, []), (.invokevirtual 108, [101, 2, 0])], 240),
  (240, [(.return_, [])], 0)]
def mj_c117 : mj_C := [(0, [(.iconst 0, [0]), (.istore_n 3, [])], 2),
  (2, [(.iload_n 3, []), (.aload_n 0, []), (.getfield 62, [8, 1]), (.if_icmp .ge 24, [31]), (.aload_n 0, []), (.iload_n 3, []), (.invokevirtual 105, [89, 2, 1])], 15),
  (15, [(.ifCond .eq 10, [25]), (.aload_n 0, []), (.iload_n 3, []), (.iload_n 1, []), (.iload_n 2, []), (.invokevirtual 153, [116, 4, 0])], 25),
  (25, [(.iinc 3 1, [1]), (.goto (-26), [2])], 0),
  (31, [(.iconst 0, [0]), (.istore_n 3, []), (.iconst 0, [0]), (.istore 4, [])], 36),
  (36, [(.iload 4, []), (.aload_n 0, []), (.getfield 62, [8, 1]), (.if_icmp .ge 153, [195]), (.aload_n 0, []), (.iload 4, []), (.invokevirtual 105, [89, 2, 1])], 51),
  (51, [(.ifCond .eq 138, [189]), (.aload_n 0, []), (.getfield 7, [8, 0]), (.iconst 0, [0]), (.iload 4, []), (.iadd, []), (.iaload, []), (.istore 5, []), (.aload_n 0, []), (.getfield 7, [8, 0]), (.bipush 12, [12]), (.iload 4, []), (.iadd, []), (.iaload, []), (.invokestatic 157, [113, 1, 1])], 78),
  (78, [(.istore 6, []), (.iload 6, []), (.aload_n 0, []), (.getfield 7, [8, 0]), (.bipush 6, [6]), (.iload 4, []), (.iadd, []), (.iaload, []), (.if_icmp .ge 8, [100]), (.iload 6, []), (.goto 13, [110])], 0),
  (100, [(.aload_n 0, []), (.getfield 7, [8, 0]), (.bipush 6, [6]), (.iload 4, []), (.iadd, []), (.iaload, [])], 110),
  (110, [(.istore 6, []), (.aload_n 0, []), (.getfield 7, [8, 0]), (.bipush 6, [6]), (.iload 4, []), (.iadd, []), (.dup2, []), (.iaload, []), (.iload 6, []), (.isub, []), (.iastore, []), (.aload_n 0, []), (.getfield 7, [8, 0]), (.bipush 50, [50]), (.iload 5, []), (.iadd, []), (.dup2, []), (.iaload, []), (.iload 6, []), (.iadd, []), (.iastore, []), (.aload_n 0, []), (.iload 5, []), (.invokevirtual 86, [93, 2, 1])], 148),
  (148, [(.istore 7, []), (.iload 7, []), (.ifCond .lt 32, [184]), (.aload_n 0, []), (.getfield 7, [8, 0]), (.bipush 12, [12]), (.iload 4, []), (.iadd, []), (.iaload, []), (.iconst 3, [3]), (.if_icmp .eq 18, [184]), (.aload_n 0, []), (.getfield 7, [8, 0]), (.bipush 46, [46]), (.iload 7, []), (.iadd, []), (.dup2, []), (.iaload, []), (.iload 6, []), (.iadd, []), (.iastore, [])], 184),
  (184, [(.iload_n 3, []), (.iload 6, []), (.iadd, []), (.istore_n 3, [])], 189),
  (189, [(.iinc 4 1, [1]), (.goto (-156), [36])], 0),
  (195, [(.aload_n 0, []), (.getfield 7, [8, 0]), (.bipush 75, [75]), (.dup2, []), (.iaload, []), (.iconst 1, [1]), (.iadd, []), (.iastore, []), (.iload_n 3, []), (.ireturn, [])], 0)]
def mj_c118 : mj_C := [(0, [(.iconst 0, [0]), (.istore_n 2, []), (.iconst 0, [0]), (.istore_n 3, [])], 4),
  (4, [(.iload_n 3, []), (.iload_n 1, []), (.if_icmp .ge 71, [77]), (.aload_n 0, []), (.getfield 140, [8, 5]), (.ifCond .ne 7, [20]), (.iconst 0, [0]), (.goto 15, [32])], 0),
  (20, [(.aload_n 0, []), (.getfield 7, [8, 0]), (.bipush 75, [75]), (.iaload, []), (.aload_n 0, []), (.getfield 140, [8, 5]), (.irem, [])], 32),
  (32, [(.istore 4, []), (.iload_n 2, []), (.aload_n 0, []), (.getfield 140, [8, 5]), (.ifCond .ne 12, [51]), (.aload_n 0, []), (.iconst 0, [0]), (.iconst 0, [0]), (.invokevirtual 160, [117, 3, 1])], 48),
  (48, [(.goto 21, [69])], 0),
  (51, [(.aload_n 0, []), (.aload_n 0, []), (.getfield 19, [8, 6]), (.iload 4, []), (.iaload, []), (.aload_n 0, []), (.getfield 22, [8, 7]), (.iload 4, []), (.iaload, []), (.invokevirtual 160, [117, 3, 1])], 69),
  (69, [(.iadd, []), (.istore_n 2, []), (.iinc 3 1, [1]), (.goto (-70), [4])], 0),
  (77, [(.iload_n 2, []), (.ireturn, [])], 0)]
def mj_c119 : mj_C := [(0, [(.iload_n 1, []), (.i2l, []), (.lconst 1, []), (.ldc2_w 163, [60]), (.invokestatic 65, [86, 3, 1])], 9),
  (9, [(.ifCond .ne 5, [14]), (.iconst (-1), [1, 1]), (.ireturn, [])], 0),
  (14, [(.aload_n 0, []), (.getfield 7, [8, 0]), (.bipush 75, [75]), (.iaload, []), (.iload_n 1, []), (.iadd, []), (.sipush 9999, [9999]), (.if_icmp .le 8, [34]), (.bipush (-3), [3, 1]), (.goto 8, [39])], 0),
  (34, [(.aload_n 0, []), (.iload_n 1, []), (.invokevirtual 165, [118, 2, 1])], 39),
  (39, [(.ireturn, [])], 0)]
def mj_c120 : mj_C := [(0, [(.iload_n 1, []), (.i2l, []), (.lconst 1, []), (.ldc2_w 163, [60]), (.invokestatic 65, [86, 3, 1])], 9),
  (9, [(.ifCond .ne 5, [14]), (.iconst (-1), [1, 1]), (.ireturn, [])], 0),
  (14, [(.aload_n 0, []), (.getfield 7, [8, 0]), (.bipush 75, [75]), (.iaload, []), (.iload_n 1, []), (.iadd, []), (.sipush 9999, [9999]), (.if_icmp .le 6, [32]), (.bipush (-3), [3, 1]), (.ireturn, [])], 0),
  (32, [(.iconst 0, [0]), (.istore_n 2, []), (.iconst 0, [0]), (.istore_n 3, [])], 36),
  (36, [(.iload_n 3, []), (.iload_n 1, []), (.if_icmp .ge 58, [96]), (.aload_n 0, []), (.aload_n 0, []), (.getfield 25, [8, 8]), (.i2l, []), (.ldc2_w 168, [1103515245]), (.lmul, []), (.ldc2_w 170, [12345]), (.ladd, []), (.ldc2_w 172, [2147483647]), (.land, []), (.l2i, []), (.putfield 25, [8, 8, 0]), (.aload_n 0, []), (.getfield 25, [8, 8]), (.ldc 174, [65536]), (.idiv, []), (.bipush 16, [16]), (.irem, []), (.istore 4, []), (.iload_n 2, []), (.aload_n 0, []), (.iload 4, []), (.iconst 4, [4]), (.irem, []), (.iload 4, []), (.iconst 4, [4]), (.idiv, []), (.invokevirtual 160, [117, 3, 1])], 88),
  (88, [(.iadd, []), (.istore_n 2, []), (.iinc 3 1, [1]), (.goto (-57), [36])], 0),
  (96, [(.iload_n 2, []), (.ireturn, [])], 0)]
def mj_c121 : mj_C := [(0, [(.iload_n 1, []), (.ifCond .ge 5, [6]), (.iconst (-1), [1, 1]), (.ireturn, [])], 0),
  (6, [(.aload_n 0, []), (.getfield 25, [8, 8]), (.istore_n 2, []), (.aload_n 0, []), (.iload_n 1, []), (.putfield 25, [8, 8, 0]), (.iload_n 2, []), (.ireturn, [])], 0)]
def mj_c122 : mj_C := [(0, [(.iconst 0, [0]), (.istore_n 1, [])], 2),
  (2, [(.iload_n 1, []), (.bipush 76, [76]), (.if_icmp .ge 21, [26]), (.aload_n 0, []), (.getfield 35, [8, 14]), (.iload_n 1, []), (.aload_n 0, []), (.getfield 7, [8, 0]), (.iload_n 1, []), (.iaload, []), (.iastore, []), (.iinc 1 1, [1]), (.goto (-21), [2])], 0),
  (26, [(.return_, [])], 0)]
def mj_c123 : mj_C := [(0, [(.iconst 0, [0]), (.istore_n 1, [])], 2),
  (2, [(.iload_n 1, []), (.bipush 76, [76]), (.if_icmp .ge 21, [26]), (.aload_n 0, []), (.getfield 7, [8, 0]), (.iload_n 1, []), (.aload_n 0, []), (.getfield 35, [8, 14]), (.iload_n 1, []), (.iaload, []), (.iastore, []), (.iinc 1 1, [1]), (.goto (-21), [2])], 0),
  (26, [(.return_, [])], 0)]
def mj_c124 : mj_C := [(0, [(.aload_n 0, []), (.iload_n 1, []), (.invokevirtual 97, [88, 2, 1])], 5),
  (5, [(.ifCond .eq 15, [20]), (.iload_n 2, []), (.i2l, []), (.lconst 1, []), (.ldc2_w 74, [24]), (.invokestatic 65, [86, 3, 1])], 17),
  (17, [(.ifCond .ne 5, [22])], 20),
  (20, [(.iconst (-1), [1, 1]), (.ireturn, [])], 0),
  (22, [(.aload_n 0, []), (.invokevirtual 175, [122, 1, 0])], 26),
  (26, [(.aload_n 0, []), (.iload_n 2, []), (.invokevirtual 165, [118, 2, 1])], 31),
  (31, [(.pop, []), (.aload_n 0, []), (.getfield 7, [8, 0]), (.bipush 46, [46]), (.iload_n 1, []), (.iadd, []), (.iaload, []), (.istore_n 3, []), (.aload_n 0, []), (.invokevirtual 178, [123, 1, 0])], 46),
  (46, [(.iload_n 3, []), (.ireturn, [])], 0)]
def mj_c125 : mj_C := [(0, [(.aload_n 0, []), (.iload_n 1, []), (.invokevirtual 90, [87, 2, 1])], 5),
  (5, [(.ifCond .eq 25, [30]), (.iload_n 2, []), (.i2l, []), (.lconst 1, []), (.ldc2_w 74, [24]), (.invokestatic 65, [86, 3, 1])], 17),
  (17, [(.ifCond .eq 13, [30]), (.iload_n 3, []), (.i2l, []), (.lconst 0, []), (.lconst 1, []), (.invokestatic 65, [86, 3, 1])], 27),
  (27, [(.ifCond .ne 5, [32])], 30),
  (30, [(.iconst (-1), [1, 1]), (.ireturn, [])], 0),
  (32, [(.aload_n 0, []), (.invokevirtual 175, [122, 1, 0])], 36),
  (36, [(.iload_n 3, []), (.iconst 1, [1]), (.if_icmp .ne 8, [46]), (.aload_n 0, []), (.iload_n 1, []), (.invokevirtual 108, [101, 2, 0])], 46),
  (46, [(.aload_n 0, []), (.iload_n 2, []), (.invokevirtual 165, [118, 2, 1])], 51),
  (51, [(.pop, []), (.aload_n 0, []), (.getfield 7, [8, 0]), (.iconst 0, [0]), (.iload_n 1, []), (.iadd, []), (.iaload, []), (.istore 4, []), (.aload_n 0, []), (.invokevirtual 178, [123, 1, 0])], 66),
  (66, [(.iload 4, []), (.ireturn, [])], 0)]
def mj_c126 : mj_C := [(0, [(.iconst 0, [0]), (.istore_n 2, [])], 2),
  (2, [(.iload_n 2, []), (.bipush 6, [6]), (.if_icmp .ge 16, [21]), (.aload_n 0, []), (.getfield 38, [8, 15]), (.iload_n 2, []), (.iconst 0, [0]), (.iastore, []), (.iinc 2 1, [1]), (.goto (-16), [2])], 0),
  (21, [(.aload_n 0, []), (.invokevirtual 181, [127, 1, 1])], 25),
  (25, [(.istore_n 2, []), (.iload_n 2, []), (.ifCond .lt 10, [37]), (.aload_n 0, []), (.getfield 38, [8, 15]), (.iload_n 2, []), (.iload_n 1, []), (.iastore, [])], 37),
  (37, [(.iload_n 2, []), (.ifCond .ge 7, [45]), (.iload_n 1, []), (.ifCond .ne 7, [49])], 45),
  (45, [(.iconst 1, [1]), (.goto 4, [50])], 0),
  (49, [(.iconst 0, [0])], 50),
  (50, [(.ireturn, [1])], 0)]
def mj_c127 : mj_C := [(0, [(.iconst (-1), [1, 1]), (.istore_n 1, []), (.iconst 0, [0]), (.istore_n 2, [])], 4),
  (4, [(.iload_n 2, []), (.aload_n 0, []), (.getfield 62, [8, 1]), (.if_icmp .ge 23, [32]), (.aload_n 0, []), (.iload_n 2, []), (.invokevirtual 105, [89, 2, 1])], 17),
  (17, [(.ifCond .eq 7, [24]), (.iload_n 2, []), (.goto 4, [25])], 0),
  (24, [(.iload_n 1, [])], 25),
  (25, [(.istore_n 1, []), (.iinc 2 1, [1]), (.goto (-25), [4])], 0),
  (32, [(.iload_n 1, []), (.ireturn, [])], 0)]
def mj_c128 : mj_C := [(0, [(.aload_n 0, []), (.invokevirtual 181, [127, 1, 1])], 4),
  (4, [(.istore_n 1, []), (.iload_n 1, []), (.ifCond .ge 7, [13]), (.iconst 0, [0]), (.goto 9, [19])], 0),
  (13, [(.aload_n 0, []), (.getfield 38, [8, 15]), (.iload_n 1, []), (.iaload, [])], 19),
  (19, [(.istore_n 2, []), (.iload_n 1, []), (.iconst 1, [1]), (.isub, []), (.istore_n 3, [])], 24),
  (24, [(.iload_n 3, []), (.ifCond .lt 76, [101]), (.aload_n 0, []), (.iload_n 3, []), (.invokevirtual 105, [89, 2, 1])], 33),
  (33, [(.ifCond .eq 53, [86]), (.iload_n 2, []), (.ifCond .le 49, [86]), (.aload_n 0, []), (.getfield 38, [8, 15]), (.iload_n 3, []), (.dup2, []), (.iaload, []), (.iconst 1, [1]), (.iadd, []), (.iastore, []), (.iload_n 3, []), (.iconst 1, [1]), (.iadd, []), (.istore 4, [])], 55),
  (55, [(.iload 4, []), (.iload_n 1, []), (.if_icmp .gt 17, [75]), (.aload_n 0, []), (.getfield 38, [8, 15]), (.iload 4, []), (.iconst 0, [0]), (.iastore, []), (.iinc 4 1, [1]), (.goto (-17), [55])], 0),
  (75, [(.aload_n 0, []), (.getfield 38, [8, 15]), (.iload_n 1, []), (.iload_n 2, []), (.iconst 1, [1]), (.isub, []), (.iastore, []), (.iconst 1, [1]), (.ireturn, [1])], 0),
  (86, [(.iload_n 2, []), (.aload_n 0, []), (.getfield 38, [8, 15]), (.iload_n 3, []), (.iaload, []), (.iadd, []), (.istore_n 2, []), (.iinc 3 (-1), [1, 1]), (.goto (-74), [24])], 0),
  (101, [(.iconst 0, [0]), (.ireturn, [1])], 0)]
def mj_c129 : mj_C := [(0, [(.aload_n 0, []), (.invokevirtual 175, [122, 1, 0])], 4),
  (4, [(.iconst 0, [0]), (.istore_n 3, [])], 6),
  (6, [(.iload_n 3, []), (.bipush 6, [6]), (.if_icmp .ge 29, [38]), (.aload_n 0, []), (.getfield 7, [8, 0]), (.bipush 18, [18]), (.bipush 6, [6]), (.iload_n 1, []), (.imul, []), (.iadd, []), (.iload_n 3, []), (.iadd, []), (.aload_n 0, []), (.getfield 38, [8, 15]), (.iload_n 3, []), (.iaload, []), (.iastore, []), (.iinc 3 1, [1]), (.goto (-29), [6])], 0),
  (38, [(.aload_n 0, []), (.iload_n 2, []), (.invokevirtual 165, [118, 2, 1])], 43),
  (43, [(.pop, []), (.aload_n 0, []), (.getfield 7, [8, 0]), (.bipush 46, [46]), (.iload_n 1, []), (.iadd, []), (.iaload, []), (.aload_n 0, []), (.getfield 16, [8, 4]), (.iload_n 1, []), (.iaload, []), (.if_icmp .lt 7, [66]), (.iconst 1, [1]), (.goto 4, [67])], 0),
  (66, [(.iconst 0, [0])], 67),
  (67, [(.istore_n 3, []), (.aload_n 0, []), (.invokevirtual 178, [123, 1, 0])], 72),
  (72, [(.iload_n 3, []), (.ireturn, [1])], 0)]
def mj_c130 : mj_C := [(0, [(.aload_n 0, []), (.iload_n 1, []), (.invokevirtual 97, [88, 2, 1])], 5),
  (5, [(.ifCond .eq 29, [34]), (.iload_n 2, []), (.i2l, []), (.lconst 1, []), (.ldc2_w 184, [12]), (.invokestatic 65, [86, 3, 1])], 17),
  (17, [(.ifCond .eq 17, [34]), (.iload_n 3, []), (.i2l, []), (.ldc2_w 186, [1, 1]), (.ldc2_w 188, [5]), (.invokestatic 65, [86, 3, 1])], 31),
  (31, [(.ifCond .ne 5, [36])], 34),
  (34, [(.iconst (-1), [1, 1]), (.ireturn, [])], 0),
  (36, [(.iconst 0, [0]), (.istore 4, [])], 39),
  (39, [(.iload 4, []), (.aload_n 0, []), (.getfield 7, [8, 0]), (.bipush 42, [42]), (.iload_n 1, []), (.iadd, []), (.iaload, []), (.if_icmp .gt 56, [106]), (.aload_n 0, []), (.iload 4, []), (.invokevirtual 190, [126, 2, 1])], 59),
  (59, [(.istore 5, [])], 61),
  (61, [(.iload 5, []), (.ifCond .eq 37, [100]), (.aload_n 0, []), (.iload_n 1, []), (.iload_n 2, []), (.invokevirtual 193, [129, 3, 1])], 72),
  (72, [(.ifCond .eq 19, [91]), (.iload_n 3, []), (.ifCond .ge 8, [84]), (.iload 4, []), (.goto 9, [90])], 0),
  (84, [(.aload_n 0, []), (.getfield 38, [8, 15]), (.iload_n 3, []), (.iaload, [])], 90),
  (90, [(.ireturn, [])], 0),
  (91, [(.aload_n 0, []), (.invokevirtual 197, [128, 1, 1])], 95),
  (95, [(.istore 5, []), (.goto (-36), [61])], 0),
  (100, [(.iinc 4 1, [1]), (.goto (-64), [39])], 0),
  (106, [(.bipush (-4), [4, 1]), (.ireturn, [])], 0)]
def mj_c131 : mj_C := [(0, [(.iconst 0, [0]), (.istore_n 3, [])], 2),
  (2, [(.iload_n 3, []), (.bipush 6, [6]), (.if_icmp .ge 24, [29]), (.aload_n 0, []), (.getfield 7, [8, 0]), (.bipush 18, [18]), (.bipush 6, [6]), (.iload_n 1, []), (.imul, []), (.iadd, []), (.iload_n 3, []), (.iadd, []), (.iconst 0, [0]), (.iastore, []), (.iinc 3 1, [1]), (.goto (-24), [2])], 0),
  (29, [(.iload_n 2, []), (.bipush 6, [6]), (.if_icmp .ge 26, [58]), (.aload_n 0, []), (.getfield 7, [8, 0]), (.bipush 18, [18]), (.bipush 6, [6]), (.iload_n 1, []), (.imul, []), (.iadd, []), (.iload_n 2, []), (.iadd, []), (.aload_n 0, []), (.getfield 7, [8, 0]), (.bipush 42, [42]), (.iload_n 1, []), (.iadd, []), (.iaload, []), (.iastore, [])], 58),
  (58, [(.return_, [])], 0)]
def mj_c132 : mj_C := [(0, [(.iload_n 1, []), (.bipush 6, [6]), (.if_icmp .eq 19, [22]), (.iload_n 1, []), (.aload_n 0, []), (.getfield 62, [8, 1]), (.if_icmp .ge 15, [26]), (.aload_n 0, []), (.iload_n 1, []), (.invokevirtual 105, [89, 2, 1])], 19),
  (19, [(.ifCond .eq 7, [26])], 22),
  (22, [(.iconst 1, [1]), (.goto 4, [27])], 0),
  (26, [(.iconst 0, [0])], 27),
  (27, [(.ireturn, [1])], 0)]
def mj_c133 : mj_C := [(0, [(.aload_n 0, []), (.iload_n 1, []), (.invokevirtual 97, [88, 2, 1])], 5),
  (5, [(.ifCond .eq 39, [44]), (.aload_n 0, []), (.iload_n 2, []), (.invokevirtual 97, [88, 2, 1])], 13),
  (13, [(.ifCond .eq 31, [44]), (.iload_n 1, []), (.iload_n 2, []), (.if_icmp .eq 26, [44]), (.iload_n 3, []), (.i2l, []), (.lconst 1, []), (.ldc2_w 184, [12]), (.invokestatic 65, [86, 3, 1])], 30),
  (30, [(.ifCond .eq 14, [44]), (.iload 4, []), (.i2l, []), (.lconst 0, []), (.lconst 1, []), (.invokestatic 65, [86, 3, 1])], 41),
  (41, [(.ifCond .ne 5, [46])], 44),
  (44, [(.iconst (-1), [1, 1]), (.ireturn, [])], 0),
  (46, [(.iconst 0, [0]), (.istore 5, [])], 49),
  (49, [(.iload 5, []), (.bipush 49, [49]), (.if_icmp .ge 115, [168]), (.aload_n 0, []), (.getfield 41, [8, 16]), (.iload 5, []), (.iconst (-1), [1, 1]), (.iastore, []), (.aload_n 0, []), (.getfield 44, [8, 17]), (.iload 5, []), (.iconst (-1), [1, 1]), (.iastore, []), (.aload_n 0, []), (.iload 5, []), (.bipush 7, [7]), (.idiv, []), (.invokevirtual 201, [132, 2, 1])], 81),
  (81, [(.ifCond .eq 81, [162]), (.aload_n 0, []), (.iload 5, []), (.bipush 7, [7]), (.irem, []), (.invokevirtual 201, [132, 2, 1])], 93),
  (93, [(.ifCond .eq 69, [162]), (.aload_n 0, []), (.invokevirtual 175, [122, 1, 0])], 100),
  (100, [(.aload_n 0, []), (.iload_n 1, []), (.iload 5, []), (.bipush 7, [7]), (.idiv, []), (.invokevirtual 204, [131, 3, 0])], 110),
  (110, [(.aload_n 0, []), (.iload_n 2, []), (.iload 5, []), (.bipush 7, [7]), (.irem, []), (.invokevirtual 204, [131, 3, 0])], 120),
  (120, [(.aload_n 0, []), (.iload_n 3, []), (.invokevirtual 165, [118, 2, 1])], 125),
  (125, [(.pop, []), (.aload_n 0, []), (.getfield 41, [8, 16]), (.iload 5, []), (.aload_n 0, []), (.getfield 7, [8, 0]), (.bipush 46, [46]), (.iload_n 1, []), (.iadd, []), (.iaload, []), (.iastore, []), (.aload_n 0, []), (.getfield 44, [8, 17]), (.iload 5, []), (.aload_n 0, []), (.getfield 7, [8, 0]), (.bipush 46, [46]), (.iload_n 2, []), (.iadd, []), (.iaload, []), (.iastore, []), (.aload_n 0, []), (.invokevirtual 178, [123, 1, 0])], 162),
  (162, [(.iinc 5 1, [1]), (.goto (-116), [49])], 0),
  (168, [(.iconst 0, [0]), (.istore 5, []), (.bipush (-4), [4, 1]), (.istore 6, []), (.bipush 48, [48]), (.istore 7, [])], 179),
  (179, [(.iload 7, []), (.ifCond .lt 147, [328]), (.aload_n 0, []), (.getfield 41, [8, 16]), (.iload 7, []), (.iaload, []), (.ifCond .lt 7, [198]), (.iconst 1, [1]), (.goto 4, [199])], 0),
  (198, [(.iconst 0, [0])], 199),
  (199, [(.istore 8, []), (.iconst 0, [0]), (.istore 9, [])], 204),
  (204, [(.iload 9, []), (.bipush 7, [7]), (.if_icmp .ge 73, [281]), (.iload 8, []), (.ifCond .eq 59, [272]), (.aload_n 0, []), (.getfield 41, [8, 16]), (.bipush 7, [7]), (.iload 9, []), (.imul, []), (.iload 7, []), (.bipush 7, [7]), (.irem, []), (.iadd, []), (.iaload, []), (.aload_n 0, []), (.getfield 41, [8, 16]), (.iload 7, []), (.iaload, []), (.if_icmp .gt 33, [272]), (.aload_n 0, []), (.getfield 44, [8, 17]), (.bipush 7, [7]), (.iload 7, []), (.bipush 7, [7]), (.idiv, []), (.imul, []), (.iload 9, []), (.iadd, []), (.iaload, []), (.aload_n 0, []), (.getfield 44, [8, 17]), (.iload 7, []), (.iaload, []), (.if_icmp .gt 7, [272]), (.iconst 1, [1]), (.goto 4, [273])], 0),
  (272, [(.iconst 0, [0])], 273),
  (273, [(.istore 8, []), (.iinc 9 1, [1]), (.goto (-74), [204])], 0),
  (281, [(.iload 5, []), (.iload 8, []), (.ifCond .eq 7, [292]), (.iconst 1, [1]), (.goto 4, [293])], 0),
  (292, [(.iconst 0, [0])], 293),
  (293, [(.iadd, []), (.istore 5, []), (.iload 8, []), (.ifCond .eq 20, [318]), (.bipush 10, [10]), (.iload 7, []), (.bipush 7, [7]), (.idiv, []), (.imul, []), (.iload 7, []), (.bipush 7, [7]), (.irem, []), (.iadd, []), (.goto 5, [320])], 0),
  (318, [(.iload 6, [])], 320),
  (320, [(.istore 6, []), (.iinc 7 (-1), [1, 1]), (.goto (-146), [179])], 0),
  (328, [(.iload 4, []), (.ifCond .ne 8, [338]), (.iload 5, []), (.goto 5, [340])], 0),
  (338, [(.iload 6, [])], 340),
  (340, [(.ireturn, [])], 0)]
def mj_c134 : mj_C := [(0, [(.iconst 0, [0]), (.istore_n 3, [])], 2),
  (2, [(.iload_n 3, []), (.aload_n 1, []), (.arraylength, []), (.if_icmp .ge 20, [25]), (.aload_n 0, []), (.getfield 47, [8, 18]), (.iload_n 2, []), (.iload_n 3, []), (.iadd, []), (.aload_n 1, []), (.iload_n 3, []), (.iaload, []), (.iastore, []), (.iinc 3 1, [1]), (.goto (-20), [2])], 0),
  (25, [(.iload_n 2, []), (.aload_n 1, []), (.arraylength, []), (.iadd, []), (.ireturn, [])], 0)]
def mj_c135 : mj_C := [(0, [(.iconst 0, [0]), (.istore_n 3, [])], 2),
  (2, [(.iload_n 3, []), (.aload_n 2, []), (.arraylength, []), (.if_icmp .ge 20, [25]), (.aload_n 2, []), (.iload_n 3, []), (.aload_n 0, []), (.getfield 47, [8, 18]), (.iload_n 1, []), (.iload_n 3, []), (.iadd, []), (.iaload, []), (.iastore, []), (.iinc 3 1, [1]), (.goto (-20), [2])], 0),
  (25, [(.iload_n 1, []), (.aload_n 2, []), (.arraylength, []), (.iadd, []), (.ireturn, [])], 0)]
def mj_c136 : mj_C := [(0, [(.aload_n 0, []), (.aload_n 0, []), (.getfield 7, [8, 0]), (.iconst 0, [0]), (.invokevirtual 208, [134, 3, 1])], 9),
  (9, [(.istore_n 1, []), (.aload_n 0, []), (.aload_n 0, []), (.getfield 13, [8, 3]), (.iload_n 1, []), (.invokevirtual 208, [134, 3, 1])], 19),
  (19, [(.istore_n 1, []), (.aload_n 0, []), (.aload_n 0, []), (.getfield 16, [8, 4]), (.iload_n 1, []), (.invokevirtual 208, [134, 3, 1])], 29),
  (29, [(.istore_n 1, []), (.aload_n 0, []), (.aload_n 0, []), (.getfield 19, [8, 6]), (.iload_n 1, []), (.invokevirtual 208, [134, 3, 1])], 39),
  (39, [(.istore_n 1, []), (.aload_n 0, []), (.aload_n 0, []), (.getfield 22, [8, 7]), (.iload_n 1, []), (.invokevirtual 208, [134, 3, 1])], 49),
  (49, [(.istore_n 1, []), (.aload_n 0, []), (.getfield 47, [8, 18]), (.iload_n 1, []), (.aload_n 0, []), (.getfield 62, [8, 1]), (.iastore, []), (.aload_n 0, []), (.getfield 47, [8, 18]), (.iload_n 1, []), (.iconst 1, [1]), (.iadd, []), (.aload_n 0, []), (.getfield 69, [8, 2]), (.iastore, []), (.aload_n 0, []), (.getfield 47, [8, 18]), (.iload_n 1, []), (.iconst 2, [2]), (.iadd, []), (.aload_n 0, []), (.getfield 140, [8, 5]), (.iastore, []), (.aload_n 0, []), (.iconst 1, [1]), (.putfield 212, [8, 19, 1]), (.aload_n 0, []), (.aload_n 0, []), (.getfield 25, [8, 8]), (.putfield 215, [8, 20, 0]), (.iconst 1, [1]), (.ireturn, [])], 0)]
def mj_c137 : mj_C := [(0, [(.aload_n 0, []), (.getfield 212, [8, 19]), (.ifCond .ne 6, [10]), (.bipush (-4), [4, 1]), (.ireturn, [])], 0),
  (10, [(.aload_n 0, []), (.iconst 0, [0]), (.aload_n 0, []), (.getfield 7, [8, 0]), (.invokevirtual 218, [135, 3, 1])], 19),
  (19, [(.istore_n 1, []), (.aload_n 0, []), (.iload_n 1, []), (.aload_n 0, []), (.getfield 13, [8, 3]), (.invokevirtual 218, [135, 3, 1])], 29),
  (29, [(.istore_n 1, []), (.aload_n 0, []), (.iload_n 1, []), (.aload_n 0, []), (.getfield 16, [8, 4]), (.invokevirtual 218, [135, 3, 1])], 39),
  (39, [(.istore_n 1, []), (.aload_n 0, []), (.iload_n 1, []), (.aload_n 0, []), (.getfield 19, [8, 6]), (.invokevirtual 218, [135, 3, 1])], 49),
  (49, [(.istore_n 1, []), (.aload_n 0, []), (.iload_n 1, []), (.aload_n 0, []), (.getfield 22, [8, 7]), (.invokevirtual 218, [135, 3, 1])], 59),
  (59, [(.istore_n 1, []), (.aload_n 0, []), (.aload_n 0, []), (.getfield 47, [8, 18]), (.iload_n 1, []), (.iaload, []), (.putfield 62, [8, 1, 0]), (.aload_n 0, []), (.aload_n 0, []), (.getfield 47, [8, 18]), (.iload_n 1, []), (.iconst 1, [1]), (.iadd, []), (.iaload, []), (.putfield 69, [8, 2, 0]), (.aload_n 0, []), (.aload_n 0, []), (.getfield 47, [8, 18]), (.iload_n 1, []), (.iconst 2, [2]), (.iadd, []), (.iaload, []), (.putfield 140, [8, 5, 0]), (.aload_n 0, []), (.aload_n 0, []), (.getfield 215, [8, 20]), (.putfield 25, [8, 8, 0]), (.iconst 1, [1]), (.ireturn, [])], 0)]
def mj_c138 : mj_C := [(0, [(.iload_n 0, []), (.i2l, []), (.lconst 0, []), (.ldc2_w 72, [3]), (.invokestatic 65, [86, 3, 1])], 9),
  (9, [(.ireturn, [1])], 0)]
def mj_c139 : mj_C := [(0, [(.iload_n 0, []), (.i2l, []), (.lconst 0, []), (.ldc2_w 222, [2]), (.invokestatic 65, [86, 3, 1])], 9),
  (9, [(.ireturn, [1])], 0)]
def mj_c140 : mj_C := [(0, [(.aload_n 0, []), (.getfield 50, [8, 21]), (.iload_n 1, []), (.iaload, []), (.ifCond .ge 6, [12]), (.bipush (-11), [11, 1]), (.ireturn, [])], 0),
  (12, [(.aload_n 0, []), (.getfield 50, [8, 21]), (.iload_n 1, []), (.iaload, []), (.iload_n 2, []), (.if_icmp .eq 6, [25]), (.bipush (-12), [12, 1]), (.ireturn, [])], 0),
  (25, [(.iload_n 3, []), (.ifCond .lt 20, [46]), (.iload_n 3, []), (.i2l, []), (.iload 4, []), (.i2l, []), (.ladd, []), (.aload_n 0, []), (.getfield 53, [8, 22]), (.iload_n 1, []), (.iaload, []), (.i2l, []), (.lcmp, []), (.ifCond .le 8, [51])], 46),
  (46, [(.bipush (-13), [13, 1]), (.goto 4, [52])], 0),
  (51, [(.iconst 0, [0])], 52),
  (52, [(.ireturn, [])], 0)]
def mj_c141 : mj_C := [(0, [(.iload_n 1, []), (.istore 4, []), (.aload_n 0, []), (.invokevirtual 175, [122, 1, 0])], 7),
  (7, [(.iconst 1, [1]), (.istore 5, []), (.aload_n 0, []), (.getfield 69, [8, 2]), (.iconst 1, [1]), (.isub, []), (.istore 6, [])], 18),
  (18, [(.iload 6, []), (.ifCond .lt 61, [81]), (.iload 5, []), (.ifCond .eq 19, [44]), (.aload_n 0, []), (.iload 4, []), (.bipush 7, [7]), (.irem, []), (.invokevirtual 201, [132, 2, 1])], 37),
  (37, [(.ifCond .eq 7, [44]), (.iconst 1, [1]), (.goto 4, [45])], 0),
  (44, [(.iconst 0, [0])], 45),
  (45, [(.istore 5, []), (.aload_n 0, []), (.iload 6, []), (.iload 5, []), (.ifCond .eq 11, [63]), (.iload 4, []), (.bipush 7, [7]), (.irem, []), (.goto 5, [65])], 0),
  (63, [(.bipush 6, [6])], 65),
  (65, [(.invokevirtual 204, [131, 3, 0])], 68),
  (68, [(.iload 4, []), (.bipush 7, [7]), (.idiv, []), (.istore 4, []), (.iinc 6 (-1), [1, 1]), (.goto (-60), [18])], 0),
  (81, [(.iload 5, []), (.ifCond .eq 9, [92]), (.aload_n 0, []), (.iload_n 2, []), (.invokevirtual 165, [118, 2, 1])], 91),
  (91, [(.pop, [])], 92),
  (92, [(.iconst 0, [0]), (.istore 6, [])], 95),
  (95, [(.iload 6, []), (.aload_n 0, []), (.getfield 69, [8, 2]), (.if_icmp .ge 43, [144]), (.iload 5, []), (.ifCond .eq 29, [135]), (.aload_n 0, []), (.getfield 7, [8, 0]), (.bipush 46, [46]), (.iload 6, []), (.iadd, []), (.iaload, []), (.aload_n 0, []), (.getfield 56, [8, 23]), (.iload_n 3, []), (.iload 6, []), (.iadd, []), (.iaload, []), (.if_icmp .ne 7, [135]), (.iconst 1, [1]), (.goto 4, [136])], 0),
  (135, [(.iconst 0, [0])], 136),
  (136, [(.istore 5, []), (.iinc 6 1, [1]), (.goto (-46), [95])], 0),
  (144, [(.aload_n 0, []), (.invokevirtual 178, [123, 1, 0])], 148),
  (148, [(.iload 5, []), (.ireturn, [1])], 0)]
def mj_c142 : mj_C := [(0, [(.iload_n 1, []), (.i2l, []), (.lconst 1, []), (.ldc2_w 184, [12]), (.invokestatic 65, [86, 3, 1])], 9),
  (9, [(.ifCond .eq 32, [41]), (.iload_n 2, []), (.invokestatic 224, [138, 1, 1])], 16),
  (16, [(.ifCond .eq 25, [41]), (.iload_n 3, []), (.invokestatic 227, [139, 1, 1])], 23),
  (23, [(.ifCond .eq 18, [41]), (.iload 5, []), (.i2l, []), (.ldc2_w 186, [1, 1]), (.ldc2_w 72, [3]), (.invokestatic 65, [86, 3, 1])], 38),
  (38, [(.ifCond .ne 5, [43])], 41),
  (41, [(.iconst (-1), [1, 1]), (.ireturn, [])], 0),
  (43, [(.aload_n 0, []), (.iload_n 2, []), (.iload_n 3, []), (.iload 4, []), (.aload_n 0, []), (.getfield 69, [8, 2]), (.invokevirtual 230, [140, 5, 1])], 55),
  (55, [(.istore 6, []), (.iload 6, []), (.ifCond .ge 6, [65]), (.iload 6, []), (.ireturn, [])], 0),
  (65, [(.aload_n 0, []), (.getfield 69, [8, 2]), (.ifCond .ne 6, [75]), (.bipush (-2), [2, 1]), (.ireturn, [])], 0),
  (75, [(.iconst 1, [1]), (.istore 7, []), (.iconst 0, [0]), (.istore 8, [])], 81),
  (81, [(.iload 8, []), (.aload_n 0, []), (.getfield 69, [8, 2]), (.if_icmp .ge 16, [103]), (.iload 7, []), (.bipush 7, [7]), (.imul, []), (.istore 7, []), (.iinc 8 1, [1]), (.goto (-19), [81])], 0),
  (103, [(.iconst 0, [0]), (.istore 8, []), (.iconst (-1), [1, 1]), (.istore 9, []), (.iconst 0, [0]), (.istore 10, [])], 112),
  (112, [(.iload 10, []), (.iload 7, []), (.if_icmp .ge 43, [159]), (.aload_n 0, []), (.iload 10, []), (.iload_n 1, []), (.bipush 25, [25]), (.iload_n 2, []), (.imul, []), (.iload 4, []), (.iadd, []), (.invokevirtual 234, [141, 4, 1])], 133),
  (133, [(.ifCond .eq 20, [153]), (.iinc 8 1, [1]), (.iload 9, []), (.ifCond .ge 8, [149]), (.iload 10, []), (.goto 5, [151])], 0),
  (149, [(.iload 9, [])], 151),
  (151, [(.istore 9, [])], 153),
  (153, [(.iinc 10 1, [1]), (.goto (-44), [112])], 0),
  (159, [(.iload 5, []), (.ifCond .ge 6, [167]), (.iload 8, []), (.ireturn, [])], 0),
  (167, [(.iload 8, []), (.ifCond .eq 12, [181]), (.iload 5, []), (.aload_n 0, []), (.getfield 69, [8, 2]), (.if_icmp .lt 6, [184])], 181),
  (181, [(.bipush (-4), [4, 1]), (.ireturn, [])], 0),
  (184, [(.aload_n 0, []), (.getfield 69, [8, 2]), (.iconst 1, [1]), (.isub, []), (.istore 10, [])], 192),
  (192, [(.iload 10, []), (.iload 5, []), (.if_icmp .le 16, [212]), (.iload 9, []), (.bipush 7, [7]), (.idiv, []), (.istore 9, []), (.iinc 10 (-1), [1, 1]), (.goto (-17), [192])], 0),
  (212, [(.iload 9, []), (.bipush 7, [7]), (.irem, []), (.ireturn, [])], 0)]
def mj_c143 : mj_C := [(0, [(.aload_n 0, []), (.getfield 50, [8, 21]), (.iload_n 1, []), (.iaload, []), (.istore 5, []), (.aload_n 0, []), (.getfield 56, [8, 23]), (.bipush 25, [25]), (.iload_n 1, []), (.imul, []), (.iload_n 2, []), (.iadd, []), (.iload 5, []), (.ifCond .ne 9, [29]), (.lload_n 3, []), (.l2i, []), (.i2b, []), (.goto 17, [43])], 0),
  (29, [(.iload 5, []), (.iconst 1, [1]), (.if_icmp .ne 9, [41]), (.lload_n 3, []), (.l2i, []), (.i2s, []), (.goto 5, [43])], 0),
  (41, [(.lload_n 3, []), (.l2i, [])], 43),
  (43, [(.iastore, []), (.return_, [])], 0)]
def mj_c144 : mj_C := [(0, [(.iload_n 1, []), (.i2l, []), (.lconst 0, []), (.ldc2_w 100, [4]), (.invokestatic 65, [86, 3, 1])], 9),
  (9, [(.ifCond .eq 17, [26]), (.iload_n 2, []), (.invokestatic 224, [138, 1, 1])], 16),
  (16, [(.ifCond .eq 10, [26]), (.iload_n 3, []), (.invokestatic 227, [139, 1, 1])], 23),
  (23, [(.ifCond .ne 5, [28])], 26),
  (26, [(.iconst (-1), [1, 1]), (.ireturn, [])], 0),
  (28, [(.aload_n 0, []), (.iload_n 2, []), (.iload_n 3, []), (.iload 4, []), (.iconst 5, [5]), (.invokevirtual 230, [140, 5, 1])], 37),
  (37, [(.istore 5, []), (.iload 5, []), (.ifCond .ge 6, [47]), (.iload 5, []), (.ireturn, [])], 0),
  (47, [(.iconst 0, [0]), (.istore 6, [])], 50),
  (50, [(.iload 6, []), (.iconst 5, [5]), (.if_icmp .ge 34, [87]), (.aload_n 0, []), (.iload_n 2, []), (.iload 4, []), (.iload 6, []), (.iadd, []), (.aload_n 0, []), (.getfield 7, [8, 0]), (.bipush 50, [50]), (.iconst 5, [5]), (.iload_n 1, []), (.imul, []), (.iadd, []), (.iload 6, []), (.iadd, []), (.iaload, []), (.i2l, []), (.invokevirtual 238, [143, 4, 0])], 81),
  (81, [(.iinc 6 1, [1]), (.goto (-34), [50])], 0),
  (87, [(.iconst 5, [5]), (.ireturn, [])], 0)]
def mj_c145 : mj_C := [(0, [(.iload_n 1, []), (.invokestatic 224, [138, 1, 1])], 4),
  (4, [(.ifCond .eq 16, [20]), (.iload_n 2, []), (.invokestatic 227, [139, 1, 1])], 11),
  (11, [(.ifCond .eq 9, [20]), (.iload_n 3, []), (.bipush 25, [25]), (.if_icmp .le 5, [22])], 20),
  (20, [(.iconst (-1), [1, 1]), (.ireturn, [])], 0),
  (22, [(.iload_n 3, []), (.ifCond .ge 6, [29]), (.bipush (-14), [14, 1]), (.ireturn, [])], 0),
  (29, [(.aload_n 0, []), (.getfield 50, [8, 21]), (.iload_n 1, []), (.iload_n 2, []), (.iastore, []), (.aload_n 0, []), (.getfield 53, [8, 22]), (.iload_n 1, []), (.iload_n 3, []), (.iastore, []), (.iconst 0, [0]), (.istore 4, [])], 46),
  (46, [(.iload 4, []), (.bipush 25, [25]), (.if_icmp .ge 22, [72]), (.aload_n 0, []), (.getfield 56, [8, 23]), (.bipush 25, [25]), (.iload_n 1, []), (.imul, []), (.iload 4, []), (.iadd, []), (.iconst 0, [0]), (.iastore, []), (.iinc 4 1, [1]), (.goto (-23), [46])], 0),
  (72, [(.iload_n 3, []), (.ireturn, [])], 0)]
def mj_c146 : mj_C := [(0, [(.iload_n 1, []), (.invokestatic 224, [138, 1, 1])], 4),
  (4, [(.ifCond .ne 5, [9]), (.iconst (-1), [1, 1]), (.ireturn, [])], 0),
  (9, [(.aload_n 0, []), (.getfield 50, [8, 21]), (.iload_n 1, []), (.iaload, []), (.ifCond .ge 6, [21]), (.bipush (-11), [11, 1]), (.ireturn, [])], 0),
  (21, [(.aload_n 0, []), (.getfield 50, [8, 21]), (.iload_n 1, []), (.iconst (-1), [1, 1]), (.iastore, []), (.aload_n 0, []), (.getfield 53, [8, 22]), (.iload_n 1, []), (.iaload, []), (.ireturn, [])], 0)]
def mj_c147 : mj_C := [(0, [(.iload_n 1, []), (.invokestatic 224, [138, 1, 1])], 4),
  (4, [(.ifCond .eq 10, [14]), (.iload_n 2, []), (.invokestatic 227, [139, 1, 1])], 11),
  (11, [(.ifCond .ne 5, [16])], 14),
  (14, [(.iconst (-1), [1, 1]), (.ireturn, [])], 0),
  (16, [(.aload_n 0, []), (.iload_n 1, []), (.iload_n 2, []), (.iload_n 3, []), (.iconst 1, [1]), (.invokevirtual 230, [140, 5, 1])], 24),
  (24, [(.istore 6, []), (.iload 6, []), (.ifCond .ge 6, [34]), (.iload 6, []), (.ireturn, [])], 0),
  (34, [(.aload_n 0, []), (.iload_n 1, []), (.iload_n 3, []), (.lload 4, []), (.invokevirtual 238, [143, 4, 0])], 42),
  (42, [(.iconst 1, [1]), (.ireturn, [])], 0)]
def mj_c148 : mj_C := [(0, [(.iload_n 1, []), (.invokestatic 224, [138, 1, 1])], 4),
  (4, [(.ifCond .eq 10, [14]), (.iload_n 3, []), (.invokestatic 224, [138, 1, 1])], 11),
  (11, [(.ifCond .ne 5, [16])], 14),
  (14, [(.iconst (-1), [1, 1]), (.ireturn, [])], 0),
  (16, [(.aload_n 0, []), (.getfield 50, [8, 21]), (.iload_n 1, []), (.iaload, []), (.ifCond .lt 12, [34]), (.aload_n 0, []), (.getfield 50, [8, 21]), (.iload_n 3, []), (.iaload, []), (.ifCond .ge 6, [37])], 34),
  (34, [(.bipush (-11), [11, 1]), (.ireturn, [])], 0),
  (37, [(.aload_n 0, []), (.getfield 50, [8, 21]), (.iload_n 1, []), (.iaload, []), (.aload_n 0, []), (.getfield 50, [8, 21]), (.iload_n 3, []), (.iaload, []), (.if_icmp .eq 6, [55]), (.bipush (-12), [12, 1]), (.ireturn, [])], 0),
  (55, [(.iload 5, []), (.ifCond .lt 38, [95]), (.aload_n 0, []), (.iload_n 1, []), (.aload_n 0, []), (.getfield 50, [8, 21]), (.iload_n 1, []), (.iaload, []), (.iload_n 2, []), (.iload 5, []), (.invokevirtual 230, [140, 5, 1])], 74),
  (74, [(.ifCond .lt 21, [95]), (.aload_n 0, []), (.iload_n 3, []), (.aload_n 0, []), (.getfield 50, [8, 21]), (.iload_n 3, []), (.iaload, []), (.iload 4, []), (.iload 5, []), (.invokevirtual 230, [140, 5, 1])], 92),
  (92, [(.ifCond .ge 6, [98])], 95),
  (95, [(.bipush (-13), [13, 1]), (.ireturn, [])], 0),
  (98, [(.iconst 0, [0]), (.istore 6, [])], 101),
  (101, [(.iload 6, []), (.iload 5, []), (.if_icmp .ge 30, [135]), (.aload_n 0, []), (.getfield 59, [8, 24]), (.iload 6, []), (.aload_n 0, []), (.getfield 56, [8, 23]), (.bipush 25, [25]), (.iload_n 1, []), (.imul, []), (.iload_n 2, []), (.iadd, []), (.iload 6, []), (.iadd, []), (.iaload, []), (.iastore, []), (.iinc 6 1, [1]), (.goto (-31), [101])], 0),
  (135, [(.iconst 0, [0]), (.istore 6, [])], 138),
  (138, [(.iload 6, []), (.iload 5, []), (.if_icmp .ge 31, [173]), (.aload_n 0, []), (.getfield 56, [8, 23]), (.bipush 25, [25]), (.iload_n 3, []), (.imul, []), (.iload 4, []), (.iadd, []), (.iload 6, []), (.iadd, []), (.aload_n 0, []), (.getfield 59, [8, 24]), (.iload 6, []), (.iaload, []), (.iastore, []), (.iinc 6 1, [1]), (.goto (-32), [138])], 0),
  (173, [(.iload 5, []), (.ireturn, [])], 0)]
def mj_c149 : mj_C := [(0, [(.iload_n 0, []), (.iload_n 1, []), (.if_icmp .ge 7, [9]), (.iconst (-1), [1, 1]), (.goto 13, [19])], 0),
  (9, [(.iload_n 0, []), (.iload_n 1, []), (.if_icmp .ne 7, [18]), (.iconst 0, [0]), (.goto 4, [19])], 0),
  (18, [(.iconst 1, [1])], 19),
  (19, [(.ireturn, [])], 0)]
def mj_c150 : mj_C := [(0, [(.iload_n 0, []), (.iload_n 1, []), (.if_icmp .lt 7, [9]), (.iload_n 0, []), (.goto 4, [10])], 0),
  (9, [(.iload_n 1, [])], 10),
  (10, [(.ireturn, [])], 0)]
def mj_c151 : mj_C := [(0, [(.iload_n 0, []), (.iload_n 1, []), (.if_icmp .gt 7, [9]), (.iload_n 0, []), (.goto 4, [10])], 0),
  (9, [(.iload_n 1, [])], 10),
  (10, [(.ireturn, [])], 0)]
def mj_c152 : mj_C := [(0, [(.iconst 0, [0]), (.istore_n 2, []), (.aload_n 0, []), (.arraylength, []), (.istore_n 3, [])], 5),
  (5, [(.iload_n 2, []), (.iload_n 3, []), (.if_icmp .ge 13, [20]), (.aload_n 0, []), (.iload_n 2, []), (.iload_n 1, []), (.iastore, []), (.iinc 2 1, [1]), (.goto (-12), [5])], 0),
  (20, [(.return_, [])], 0)]
def mj_c153 : mj_C := [(18, [(.iload_n 3, []), (.aload_n 0, []), (.arraylength, []), (.bipush 6, [6]), (.isub, []), (.if_icmp .gt 1223, [1247]), (.aload_n 0, []), (.iload_n 3, []), (.iaload, []), (.bipush 31, [31]), (.iand, []), (.tableswitch 1208 0 28 #[131, 174, 217, 250, 283, 326, 369, 402, 435, 468, 491, 554, 567, 590, 613, 636, 659, 682, 715, 758, 801, 854, 867, 880, 943, 996, 1039, 1062, 1145], [1241, 164, 207, 250, 283, 316, 359, 402, 435, 468, 501, 524, 587, 600, 623, 646, 669, 692, 715, 748, 791, 834, 887, 900, 913, 976, 1029, 1072, 1095, 1178])], 0),
  (164, [(.aload_n 1, []), (.aload_n 0, []), (.iload_n 3, []), (.iconst 1, [1]), (.iadd, []), (.iaload, []), (.aload_n 0, []), (.iload_n 3, []), (.iconst 2, [2]), (.iadd, []), (.iaload, []), (.aload_n 0, []), (.iload_n 3, []), (.iconst 3, [3]), (.iadd, []), (.iaload, []), (.invokevirtual 13, [0, 4, 1])], 183),
  (183, [(.aload_n 2, []), (.aload_n 0, []), (.iload_n 3, []), (.iconst 1, [1]), (.iadd, []), (.iaload, []), (.aload_n 0, []), (.iload_n 3, []), (.iconst 2, [2]), (.iadd, []), (.iaload, []), (.aload_n 0, []), (.iload_n 3, []), (.iconst 3, [3]), (.iadd, []), (.iaload, []), (.invokevirtual 17, [91, 4, 1])], 202),
  (202, [(.if_icmp .eq 1039, [1241]), (.iconst 0, [0]), (.ireturn, [1])], 0),
  (207, [(.aload_n 1, []), (.aload_n 0, []), (.iload_n 3, []), (.iconst 1, [1]), (.iadd, []), (.iaload, []), (.aload_n 0, []), (.iload_n 3, []), (.iconst 2, [2]), (.iadd, []), (.iaload, []), (.aload_n 0, []), (.iload_n 3, []), (.iconst 3, [3]), (.iadd, []), (.iaload, []), (.invokevirtual 18, [1, 4, 1])], 226),
  (226, [(.aload_n 2, []), (.aload_n 0, []), (.iload_n 3, []), (.iconst 1, [1]), (.iadd, []), (.iaload, []), (.aload_n 0, []), (.iload_n 3, []), (.iconst 2, [2]), (.iadd, []), (.iaload, []), (.aload_n 0, []), (.iload_n 3, []), (.iconst 3, [3]), (.iadd, []), (.iaload, []), (.invokevirtual 21, [92, 4, 1])], 245),
  (245, [(.if_icmp .eq 996, [1241]), (.iconst 0, [0]), (.ireturn, [1])], 0),
  (250, [(.aload_n 1, []), (.aload_n 0, []), (.iload_n 3, []), (.iconst 1, [1]), (.iadd, []), (.iaload, []), (.aload_n 0, []), (.iload_n 3, []), (.iconst 2, [2]), (.iadd, []), (.iaload, []), (.invokevirtual 22, [2, 3, 1])], 264),
  (264, [(.aload_n 2, []), (.aload_n 0, []), (.iload_n 3, []), (.iconst 1, [1]), (.iadd, []), (.iaload, []), (.aload_n 0, []), (.iload_n 3, []), (.iconst 2, [2]), (.iadd, []), (.iaload, []), (.invokevirtual 26, [96, 3, 1])], 278),
  (278, [(.if_icmp .eq 963, [1241]), (.iconst 0, [0]), (.ireturn, [1])], 0),
  (283, [(.aload_n 1, []), (.aload_n 0, []), (.iload_n 3, []), (.iconst 1, [1]), (.iadd, []), (.iaload, []), (.aload_n 0, []), (.iload_n 3, []), (.iconst 2, [2]), (.iadd, []), (.iaload, []), (.invokevirtual 27, [3, 3, 1])], 297),
  (297, [(.aload_n 2, []), (.aload_n 0, []), (.iload_n 3, []), (.iconst 1, [1]), (.iadd, []), (.iaload, []), (.aload_n 0, []), (.iload_n 3, []), (.iconst 2, [2]), (.iadd, []), (.iaload, []), (.invokevirtual 30, [97, 3, 1])], 311),
  (311, [(.if_icmp .eq 930, [1241]), (.iconst 0, [0]), (.ireturn, [1])], 0),
  (316, [(.aload_n 1, []), (.aload_n 0, []), (.iload_n 3, []), (.iconst 1, [1]), (.iadd, []), (.iaload, []), (.aload_n 0, []), (.iload_n 3, []), (.iconst 2, [2]), (.iadd, []), (.iaload, []), (.aload_n 0, []), (.iload_n 3, []), (.iconst 3, [3]), (.iadd, []), (.iaload, []), (.invokevirtual 31, [4, 4, 1])], 335),
  (335, [(.aload_n 2, []), (.aload_n 0, []), (.iload_n 3, []), (.iconst 1, [1]), (.iadd, []), (.iaload, []), (.aload_n 0, []), (.iload_n 3, []), (.iconst 2, [2]), (.iadd, []), (.iaload, []), (.aload_n 0, []), (.iload_n 3, []), (.iconst 3, [3]), (.iadd, []), (.iaload, []), (.invokevirtual 34, [98, 4, 1])], 354),
  (354, [(.if_icmp .eq 887, [1241]), (.iconst 0, [0]), (.ireturn, [1])], 0),
  (359, [(.aload_n 1, []), (.aload_n 0, []), (.iload_n 3, []), (.iconst 1, [1]), (.iadd, []), (.iaload, []), (.aload_n 0, []), (.iload_n 3, []), (.iconst 2, [2]), (.iadd, []), (.iaload, []), (.aload_n 0, []), (.iload_n 3, []), (.iconst 3, [3]), (.iadd, []), (.iaload, []), (.invokevirtual 35, [5, 4, 1])], 378),
  (378, [(.aload_n 2, []), (.aload_n 0, []), (.iload_n 3, []), (.iconst 1, [1]), (.iadd, []), (.iaload, []), (.aload_n 0, []), (.iload_n 3, []), (.iconst 2, [2]), (.iadd, []), (.iaload, []), (.aload_n 0, []), (.iload_n 3, []), (.iconst 3, [3]), (.iadd, []), (.iaload, []), (.invokevirtual 38, [99, 4, 1])], 397),
  (397, [(.if_icmp .eq 844, [1241]), (.iconst 0, [0]), (.ireturn, [1])], 0),
  (402, [(.aload_n 1, []), (.aload_n 0, []), (.iload_n 3, []), (.iconst 1, [1]), (.iadd, []), (.iaload, []), (.aload_n 0, []), (.iload_n 3, []), (.iconst 2, [2]), (.iadd, []), (.iaload, []), (.invokevirtual 39, [6, 3, 1])], 416),
  (416, [(.aload_n 2, []), (.aload_n 0, []), (.iload_n 3, []), (.iconst 1, [1]), (.iadd, []), (.iaload, []), (.aload_n 0, []), (.iload_n 3, []), (.iconst 2, [2]), (.iadd, []), (.iaload, []), (.invokevirtual 42, [100, 3, 1])], 430),
  (430, [(.if_icmp .eq 811, [1241]), (.iconst 0, [0]), (.ireturn, [1])], 0),
  (435, [(.aload_n 1, []), (.aload_n 0, []), (.iload_n 3, []), (.iconst 1, [1]), (.iadd, []), (.iaload, []), (.aload_n 0, []), (.iload_n 3, []), (.iconst 2, [2]), (.iadd, []), (.iaload, []), (.invokevirtual 43, [7, 3, 1])], 449),
  (449, [(.aload_n 2, []), (.aload_n 0, []), (.iload_n 3, []), (.iconst 1, [1]), (.iadd, []), (.iaload, []), (.aload_n 0, []), (.iload_n 3, []), (.iconst 2, [2]), (.iadd, []), (.iaload, []), (.invokevirtual 46, [102, 3, 1])], 463),
  (463, [(.if_icmp .eq 778, [1241]), (.iconst 0, [0]), (.ireturn, [1])], 0),
  (468, [(.aload_n 1, []), (.aload_n 0, []), (.iload_n 3, []), (.iconst 1, [1]), (.iadd, []), (.iaload, []), (.aload_n 0, []), (.iload_n 3, []), (.iconst 2, [2]), (.iadd, []), (.iaload, []), (.invokevirtual 47, [8, 3, 1])], 482),
  (482, [(.aload_n 2, []), (.aload_n 0, []), (.iload_n 3, []), (.iconst 1, [1]), (.iadd, []), (.iaload, []), (.aload_n 0, []), (.iload_n 3, []), (.iconst 2, [2]), (.iadd, []), (.iaload, []), (.invokevirtual 50, [103, 3, 1])], 496),
  (496, [(.if_icmp .eq 745, [1241]), (.iconst 0, [0]), (.ireturn, [1])], 0),
  (501, [(.aload_n 1, []), (.aload_n 0, []), (.iload_n 3, []), (.iconst 1, [1]), (.iadd, []), (.iaload, []), (.invokevirtual 51, [9, 2, 1])], 510),
  (510, [(.aload_n 2, []), (.aload_n 0, []), (.iload_n 3, []), (.iconst 1, [1]), (.iadd, []), (.iaload, []), (.invokevirtual 55, [104, 2, 1])], 519),
  (519, [(.if_icmp .eq 722, [1241]), (.iconst 0, [0]), (.ireturn, [1])], 0),
  (524, [(.aload_n 1, []), (.aload_n 0, []), (.iload_n 3, []), (.iconst 1, [1]), (.iadd, []), (.iaload, []), (.i2l, []), (.bipush 32, [32]), (.lshl, []), (.aload_n 0, []), (.iload_n 3, []), (.iconst 2, [2]), (.iadd, []), (.iaload, []), (.i2l, []), (.ldc2_w 56, [4294967295]), (.land, []), (.lor, []), (.aload_n 0, []), (.iload_n 3, []), (.iconst 3, [3]), (.iadd, []), (.iaload, []), (.invokevirtual 58, [10, 3, 1])], 553),
  (553, [(.aload_n 2, []), (.aload_n 0, []), (.iload_n 3, []), (.iconst 1, [1]), (.iadd, []), (.iaload, []), (.i2l, []), (.bipush 32, [32]), (.lshl, []), (.aload_n 0, []), (.iload_n 3, []), (.iconst 2, [2]), (.iadd, []), (.iaload, []), (.i2l, []), (.ldc2_w 56, [4294967295]), (.land, []), (.lor, []), (.aload_n 0, []), (.iload_n 3, []), (.iconst 3, [3]), (.iadd, []), (.iaload, []), (.invokevirtual 62, [105, 3, 1])], 582),
  (582, [(.if_icmp .eq 659, [1241]), (.iconst 0, [0]), (.ireturn, [1])], 0),
  (587, [(.aload_n 1, []), (.invokevirtual 63, [11, 1, 1])], 591),
  (591, [(.aload_n 2, []), (.invokevirtual 67, [109, 1, 1])], 595),
  (595, [(.if_icmp .eq 646, [1241]), (.iconst 0, [0]), (.ireturn, [1])], 0),
  (600, [(.aload_n 1, []), (.aload_n 0, []), (.iload_n 3, []), (.iconst 1, [1]), (.iadd, []), (.iaload, []), (.invokevirtual 68, [12, 2, 1])], 609),
  (609, [(.aload_n 2, []), (.aload_n 0, []), (.iload_n 3, []), (.iconst 1, [1]), (.iadd, []), (.iaload, []), (.invokevirtual 71, [110, 2, 1])], 618),
  (618, [(.if_icmp .eq 623, [1241]), (.iconst 0, [0]), (.ireturn, [1])], 0),
  (623, [(.aload_n 1, []), (.aload_n 0, []), (.iload_n 3, []), (.iconst 1, [1]), (.iadd, []), (.iaload, []), (.invokevirtual 72, [13, 2, 1])], 632),
  (632, [(.aload_n 2, []), (.aload_n 0, []), (.iload_n 3, []), (.iconst 1, [1]), (.iadd, []), (.iaload, []), (.invokevirtual 75, [112, 2, 1])], 641),
  (641, [(.if_icmp .eq 600, [1241]), (.iconst 0, [0]), (.ireturn, [1])], 0),
  (646, [(.aload_n 1, []), (.aload_n 0, []), (.iload_n 3, []), (.iconst 1, [1]), (.iadd, []), (.iaload, []), (.invokevirtual 76, [14, 2, 1])], 655),
  (655, [(.aload_n 2, []), (.aload_n 0, []), (.iload_n 3, []), (.iconst 1, [1]), (.iadd, []), (.iaload, []), (.invokevirtual 79, [119, 2, 1])], 664),
  (664, [(.if_icmp .eq 577, [1241]), (.iconst 0, [0]), (.ireturn, [1])], 0),
  (669, [(.aload_n 1, []), (.aload_n 0, []), (.iload_n 3, []), (.iconst 1, [1]), (.iadd, []), (.iaload, []), (.invokevirtual 80, [15, 2, 1])], 678),
  (678, [(.aload_n 2, []), (.aload_n 0, []), (.iload_n 3, []), (.iconst 1, [1]), (.iadd, []), (.iaload, []), (.invokevirtual 83, [120, 2, 1])], 687),
  (687, [(.if_icmp .eq 554, [1241]), (.iconst 0, [0]), (.ireturn, [1])], 0),
  (692, [(.aload_n 1, []), (.aload_n 0, []), (.iload_n 3, []), (.iconst 1, [1]), (.iadd, []), (.iaload, []), (.invokevirtual 84, [16, 2, 1])], 701),
  (701, [(.aload_n 2, []), (.aload_n 0, []), (.iload_n 3, []), (.iconst 1, [1]), (.iadd, []), (.iaload, []), (.invokevirtual 87, [121, 2, 1])], 710),
  (710, [(.if_icmp .eq 531, [1241]), (.iconst 0, [0]), (.ireturn, [1])], 0),
  (715, [(.aload_n 1, []), (.aload_n 0, []), (.iload_n 3, []), (.iconst 1, [1]), (.iadd, []), (.iaload, []), (.aload_n 0, []), (.iload_n 3, []), (.iconst 2, [2]), (.iadd, []), (.iaload, []), (.invokevirtual 88, [17, 3, 1])], 729),
  (729, [(.aload_n 2, []), (.aload_n 0, []), (.iload_n 3, []), (.iconst 1, [1]), (.iadd, []), (.iaload, []), (.aload_n 0, []), (.iload_n 3, []), (.iconst 2, [2]), (.iadd, []), (.iaload, []), (.invokevirtual 91, [124, 3, 1])], 743),
  (743, [(.if_icmp .eq 498, [1241]), (.iconst 0, [0]), (.ireturn, [1])], 0),
  (748, [(.aload_n 1, []), (.aload_n 0, []), (.iload_n 3, []), (.iconst 1, [1]), (.iadd, []), (.iaload, []), (.aload_n 0, []), (.iload_n 3, []), (.iconst 2, [2]), (.iadd, []), (.iaload, []), (.aload_n 0, []), (.iload_n 3, []), (.iconst 3, [3]), (.iadd, []), (.iaload, []), (.invokevirtual 92, [18, 4, 1])], 767),
  (767, [(.aload_n 2, []), (.aload_n 0, []), (.iload_n 3, []), (.iconst 1, [1]), (.iadd, []), (.iaload, []), (.aload_n 0, []), (.iload_n 3, []), (.iconst 2, [2]), (.iadd, []), (.iaload, []), (.aload_n 0, []), (.iload_n 3, []), (.iconst 3, [3]), (.iadd, []), (.iaload, []), (.invokevirtual 95, [125, 4, 1])], 786),
  (786, [(.if_icmp .eq 455, [1241]), (.iconst 0, [0]), (.ireturn, [1])], 0),
  (791, [(.aload_n 1, []), (.aload_n 0, []), (.iload_n 3, []), (.iconst 1, [1]), (.iadd, []), (.iaload, []), (.aload_n 0, []), (.iload_n 3, []), (.iconst 2, [2]), (.iadd, []), (.iaload, []), (.aload_n 0, []), (.iload_n 3, []), (.iconst 3, [3]), (.iadd, []), (.iaload, []), (.invokevirtual 96, [19, 4, 1])], 810),
  (810, [(.aload_n 2, []), (.aload_n 0, []), (.iload_n 3, []), (.iconst 1, [1]), (.iadd, []), (.iaload, []), (.aload_n 0, []), (.iload_n 3, []), (.iconst 2, [2]), (.iadd, []), (.iaload, []), (.aload_n 0, []), (.iload_n 3, []), (.iconst 3, [3]), (.iadd, []), (.iaload, []), (.invokevirtual 99, [130, 4, 1])], 829),
  (829, [(.if_icmp .eq 412, [1241]), (.iconst 0, [0]), (.ireturn, [1])], 0),
  (834, [(.aload_n 1, []), (.aload_n 0, []), (.iload_n 3, []), (.iconst 1, [1]), (.iadd, []), (.iaload, []), (.aload_n 0, []), (.iload_n 3, []), (.iconst 2, [2]), (.iadd, []), (.iaload, []), (.aload_n 0, []), (.iload_n 3, []), (.iconst 3, [3]), (.iadd, []), (.iaload, []), (.aload_n 0, []), (.iload_n 3, []), (.iconst 4, [4]), (.iadd, []), (.iaload, []), (.invokevirtual 100, [20, 5, 1])], 858),
  (858, [(.aload_n 2, []), (.aload_n 0, []), (.iload_n 3, []), (.iconst 1, [1]), (.iadd, []), (.iaload, []), (.aload_n 0, []), (.iload_n 3, []), (.iconst 2, [2]), (.iadd, []), (.iaload, []), (.aload_n 0, []), (.iload_n 3, []), (.iconst 3, [3]), (.iadd, []), (.iaload, []), (.aload_n 0, []), (.iload_n 3, []), (.iconst 4, [4]), (.iadd, []), (.iaload, []), (.invokevirtual 104, [133, 5, 1])], 882),
  (882, [(.if_icmp .eq 359, [1241]), (.iconst 0, [0]), (.ireturn, [1])], 0),
  (887, [(.aload_n 1, []), (.invokevirtual 105, [21, 1, 1])], 891),
  (891, [(.aload_n 2, []), (.invokevirtual 108, [136, 1, 1])], 895),
  (895, [(.if_icmp .eq 346, [1241]), (.iconst 0, [0]), (.ireturn, [1])], 0),
  (900, [(.aload_n 1, []), (.invokevirtual 109, [22, 1, 1])], 904),
  (904, [(.aload_n 2, []), (.invokevirtual 112, [137, 1, 1])], 908),
  (908, [(.if_icmp .eq 333, [1241]), (.iconst 0, [0]), (.ireturn, [1])], 0),
  (913, [(.aload_n 1, []), (.aload_n 0, []), (.iload_n 3, []), (.iconst 1, [1]), (.iadd, []), (.iaload, []), (.aload_n 0, []), (.iload_n 3, []), (.iconst 2, [2]), (.iadd, []), (.iaload, []), (.aload_n 0, []), (.iload_n 3, []), (.iconst 3, [3]), (.iadd, []), (.iaload, []), (.aload_n 0, []), (.iload_n 3, []), (.iconst 4, [4]), (.iadd, []), (.iaload, []), (.aload_n 0, []), (.iload_n 3, []), (.iconst 5, [5]), (.iadd, []), (.iaload, []), (.invokevirtual 113, [23, 6, 1])], 942),
  (942, [(.aload_n 2, []), (.aload_n 0, []), (.iload_n 3, []), (.iconst 1, [1]), (.iadd, []), (.iaload, []), (.aload_n 0, []), (.iload_n 3, []), (.iconst 2, [2]), (.iadd, []), (.iaload, []), (.aload_n 0, []), (.iload_n 3, []), (.iconst 3, [3]), (.iadd, []), (.iaload, []), (.aload_n 0, []), (.iload_n 3, []), (.iconst 4, [4]), (.iadd, []), (.iaload, []), (.aload_n 0, []), (.iload_n 3, []), (.iconst 5, [5]), (.iadd, []), (.iaload, []), (.invokevirtual 117, [142, 6, 1])], 971),
  (971, [(.if_icmp .eq 270, [1241]), (.iconst 0, [0]), (.ireturn, [1])], 0),
  (976, [(.aload_n 1, []), (.aload_n 0, []), (.iload_n 3, []), (.iconst 1, [1]), (.iadd, []), (.iaload, []), (.aload_n 0, []), (.iload_n 3, []), (.iconst 2, [2]), (.iadd, []), (.iaload, []), (.aload_n 0, []), (.iload_n 3, []), (.iconst 3, [3]), (.iadd, []), (.iaload, []), (.aload_n 0, []), (.iload_n 3, []), (.iconst 4, [4]), (.iadd, []), (.iaload, []), (.invokevirtual 118, [24, 5, 1])], 1000),
  (1000, [(.aload_n 2, []), (.aload_n 0, []), (.iload_n 3, []), (.iconst 1, [1]), (.iadd, []), (.iaload, []), (.aload_n 0, []), (.iload_n 3, []), (.iconst 2, [2]), (.iadd, []), (.iaload, []), (.aload_n 0, []), (.iload_n 3, []), (.iconst 3, [3]), (.iadd, []), (.iaload, []), (.aload_n 0, []), (.iload_n 3, []), (.iconst 4, [4]), (.iadd, []), (.iaload, []), (.invokevirtual 121, [144, 5, 1])], 1024),
  (1024, [(.if_icmp .eq 217, [1241]), (.iconst 0, [0]), (.ireturn, [1])], 0),
  (1029, [(.aload_n 1, []), (.aload_n 0, []), (.iload_n 3, []), (.iconst 1, [1]), (.iadd, []), (.iaload, []), (.aload_n 0, []), (.iload_n 3, []), (.iconst 2, [2]), (.iadd, []), (.iaload, []), (.aload_n 0, []), (.iload_n 3, []), (.iconst 3, [3]), (.iadd, []), (.iaload, []), (.invokevirtual 122, [25, 4, 1])], 1048),
  (1048, [(.aload_n 2, []), (.aload_n 0, []), (.iload_n 3, []), (.iconst 1, [1]), (.iadd, []), (.iaload, []), (.aload_n 0, []), (.iload_n 3, []), (.iconst 2, [2]), (.iadd, []), (.iaload, []), (.aload_n 0, []), (.iload_n 3, []), (.iconst 3, [3]), (.iadd, []), (.iaload, []), (.invokevirtual 125, [145, 4, 1])], 1067),
  (1067, [(.if_icmp .eq 174, [1241]), (.iconst 0, [0]), (.ireturn, [1])], 0),
  (1072, [(.aload_n 1, []), (.aload_n 0, []), (.iload_n 3, []), (.iconst 1, [1]), (.iadd, []), (.iaload, []), (.invokevirtual 126, [26, 2, 1])], 1081),
  (1081, [(.aload_n 2, []), (.aload_n 0, []), (.iload_n 3, []), (.iconst 1, [1]), (.iadd, []), (.iaload, []), (.invokevirtual 129, [146, 2, 1])], 1090),
  (1090, [(.if_icmp .eq 151, [1241]), (.iconst 0, [0]), (.ireturn, [1])], 0),
  (1095, [(.aload_n 1, []), (.aload_n 0, []), (.iload_n 3, []), (.iconst 1, [1]), (.iadd, []), (.iaload, []), (.aload_n 0, []), (.iload_n 3, []), (.iconst 2, [2]), (.iadd, []), (.iaload, []), (.aload_n 0, []), (.iload_n 3, []), (.iconst 3, [3]), (.iadd, []), (.iaload, []), (.aload_n 0, []), (.iload_n 3, []), (.iconst 4, [4]), (.iadd, []), (.iaload, []), (.i2l, []), (.bipush 32, [32]), (.lshl, []), (.aload_n 0, []), (.iload_n 3, []), (.iconst 5, [5]), (.iadd, []), (.iaload, []), (.i2l, []), (.ldc2_w 56, [4294967295]), (.land, []), (.lor, []), (.invokevirtual 130, [27, 5, 1])], 1134),
  (1134, [(.aload_n 2, []), (.aload_n 0, []), (.iload_n 3, []), (.iconst 1, [1]), (.iadd, []), (.iaload, []), (.aload_n 0, []), (.iload_n 3, []), (.iconst 2, [2]), (.iadd, []), (.iaload, []), (.aload_n 0, []), (.iload_n 3, []), (.iconst 3, [3]), (.iadd, []), (.iaload, []), (.aload_n 0, []), (.iload_n 3, []), (.iconst 4, [4]), (.iadd, []), (.iaload, []), (.i2l, []), (.bipush 32, [32]), (.lshl, []), (.aload_n 0, []), (.iload_n 3, []), (.iconst 5, [5]), (.iadd, []), (.iaload, []), (.i2l, []), (.ldc2_w 56, [4294967295]), (.land, []), (.lor, []), (.invokevirtual 134, [147, 5, 1])], 1173),
  (1173, [(.if_icmp .eq 68, [1241]), (.iconst 0, [0]), (.ireturn, [1])], 0),
  (1178, [(.aload_n 1, []), (.aload_n 0, []), (.iload_n 3, []), (.iconst 1, [1]), (.iadd, []), (.iaload, []), (.aload_n 0, []), (.iload_n 3, []), (.iconst 2, [2]), (.iadd, []), (.iaload, []), (.aload_n 0, []), (.iload_n 3, []), (.iconst 3, [3]), (.iadd, []), (.iaload, []), (.aload_n 0, []), (.iload_n 3, []), (.iconst 4, [4]), (.iadd, []), (.iaload, []), (.aload_n 0, []), (.iload_n 3, []), (.iconst 5, [5]), (.iadd, []), (.iaload, []), (.invokevirtual 135, [28, 6, 1])], 1207),
  (1207, [(.aload_n 2, []), (.aload_n 0, []), (.iload_n 3, []), (.iconst 1, [1]), (.iadd, []), (.iaload, []), (.aload_n 0, []), (.iload_n 3, []), (.iconst 2, [2]), (.iadd, []), (.iaload, []), (.aload_n 0, []), (.iload_n 3, []), (.iconst 3, [3]), (.iadd, []), (.iaload, []), (.aload_n 0, []), (.iload_n 3, []), (.iconst 4, [4]), (.iadd, []), (.iaload, []), (.aload_n 0, []), (.iload_n 3, []), (.iconst 5, [5]), (.iadd, []), (.iaload, []), (.invokevirtual 138, [148, 6, 1])], 1236),
  (1236, [(.if_icmp .eq 5, [1241]), (.iconst 0, [0]), (.ireturn, [1])], 0),
  (1241, [(.iinc 3 6, [6]), (.goto (-1226), [18])], 0),
  (1247, [(.iconst 1, [1]), (.ireturn, [1])], 0)]
def mj_cs : List mj_C := [mj_c0, mj_c1, mj_c2, mj_c3, mj_c4, mj_c5, mj_c6, mj_c7, mj_c8, mj_c9, mj_c10, mj_c11, mj_c12, mj_c13, mj_c14, mj_c15, mj_c16, mj_c17, mj_c18, mj_c19, mj_c20, mj_c21, mj_c22, mj_c23, mj_c24, mj_c25, mj_c26, mj_c27, mj_c28, mj_c29, mj_c30, mj_c31, mj_c32, mj_c33, mj_c34, mj_c35, mj_c36, mj_c37, mj_c38, mj_c39, mj_c40, mj_c41, mj_c42, mj_c43, mj_c44, mj_c45, mj_c46, mj_c47, mj_c48, mj_c49, mj_c50, mj_c51, mj_c52, mj_c53, mj_c54, mj_c55, mj_c56, mj_c57, mj_c58, mj_c59, mj_c60, mj_c61, mj_c62, mj_c63, mj_c64, mj_c65, mj_c66, mj_c67, mj_c68, mj_c69, mj_c70, mj_c71, mj_c72, mj_c73, mj_c74, mj_c75, mj_c76, mj_c77, mj_c78, mj_c79, mj_c80, mj_c81, mj_c82, mj_c83, mj_c84, mj_c85, mj_c86, mj_c87, mj_c88, mj_c89, mj_c90, mj_c91, mj_c92, mj_c93, mj_c94, mj_c95, mj_c96, mj_c97, mj_c98, mj_c99, mj_c100, mj_c101, mj_c102, mj_c103, mj_c104, mj_c105, mj_c106, mj_c107, mj_c108, mj_c109, mj_c110, mj_c111, mj_c112, mj_c113, mj_c114, mj_c115, mj_c116, mj_c117, mj_c118, mj_c119, mj_c120, mj_c121, mj_c122, mj_c123, mj_c124, mj_c125, mj_c126, mj_c127, mj_c128, mj_c129, mj_c130, mj_c131, mj_c132, mj_c133, mj_c134, mj_c135, mj_c136, mj_c137, mj_c138, mj_c139, mj_c140, mj_c141, mj_c142, mj_c143, mj_c144, mj_c145, mj_c146, mj_c147, mj_c148, mj_c149, mj_c150, mj_c151, mj_c152, mj_c153]
def mj_ml : List Nat := [4, 4, 3, 3, 5, 5, 3, 3, 3, 3, 5, 2, 2, 2, 4, 5, 3, 4, 4, 5, 5, 1, 1, 7, 7, 4, 2, 7, 8, 3, 2, 3, 6, 2, 5, 3, 3, 2, 2, 2, 3, 5, 5, 2, 4, 3, 4, 4, 1, 5, 8, 4, 4, 3, 4, 4, 7, 7, 5, 6, 7, 5, 4, 3, 3, 5, 3, 3, 3, 4, 3, 4, 7, 8, 7, 5, 7, 5, 2, 6, 3, 1, 3, 2, 2, 2, 6, 2, 2, 2, 5, 4, 4, 4, 4, 4, 3, 3, 5, 5, 3, 3, 5, 3, 3, 5, 1, 1, 2, 4, 2, 5, 5, 1, 4, 2, 10, 8, 5, 2, 5, 3, 2, 2, 4, 5, 3, 3, 5, 4, 6, 4, 2, 10, 4, 4, 2, 2, 1, 1, 5, 7, 11, 6, 7, 5, 2, 7, 7, 2, 2, 2, 4, 4]
def mj_Sp : Nat → Nat → List mj_V → mj_M → Option mj_V → mj_M → Prop
  | 0, _, _, _, _, _ => False
  | d + 1, f, vs, M, r, M' => ∀ P : Nat → mj_L → List mj_V → mj_M → Prop, mj_Cl (mj_cs.getD f []) (mj_Sp d) (0 < d) P (fun v M1 => v = r ∧ mj_eq M1 M') → (∀ (pc : Nat) (ls : mj_L) (st : List mj_V) (M M1 : mj_M), mj_eq M M1 → P pc ls st M1 → P pc ls st M) → P 0 (mj_ent (mj_ml.getD f 0) vs) [] M
end
