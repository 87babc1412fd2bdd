/-! The small machine: values, memory as numbers at places (part, tag, sub, index), straight rows of instructions as a predicate. -/
abbrev mj_Id : Type := Nat × Nat × Nat
abbrev mj_V : Type := Int32 ⊕ (Int64 ⊕ mj_Id)
abbrev mj_S : Type := Nat → Nat → Nat → Int32
abbrev mj_M : Type := Nat → mj_S
abbrev mj_L : Type := List (Option mj_V)
abbrev mj_I : Type := Instr × List Nat
abbrev mj_i (x : Int32) : mj_V := .inl x
abbrev mj_l (x : Int64) : mj_V := .inr (.inl x)
abbrev mj_r (q : mj_Id) : mj_V := .inr (.inr q)
/-- one place of a part -/
def mj_us (σ : mj_S) (t c j : Nat) (v : Int32) : mj_S := fun t' c' j' => if t' = t ∧ c' = c ∧ j' = j then v else σ t' c' j'
/-- one part -/
def mj_up (M : mj_M) (i : Nat) (σ : mj_S) : mj_M := fun i' => if i' = i then σ else M i'
/-- the reference's row `now` (and its copy): where its numbers are -/
def mj_nloc (j : Nat) : Nat × Nat × Nat :=
  if j < 6 then (2, 0, j) else if j < 12 then (3, 0, j - 6) else if j < 18 then (1, 0, j - 12) else if j < 42 then (4, (j - 18) % 6, (j - 18) / 6) else if j < 46 then (6, 0, j - 42) else if j < 50 then (8, 0, j - 46) else if j < 75 then (9, 0, j - 50) else (0, 0, 2)
/-- the reference's image -/
def mj_iloc (i j : Nat) : Nat × Nat × Nat × Nat :=
  if j < 76 then (i, mj_nloc j) else if j < 80 then (i, 5, 0, j - 76) else if j < 84 then (i, 7, 0, j - 80) else if j < 96 then (36, 11, 0, j - 84) else if j < 108 then (36, 12, 0, j - 96) else if j = 108 then (i, 0, 0, 0) else if j = 109 then (i, 0, 0, 1) else (36, 10, 0, 0)
def mj_aloc (q : mj_Id) (j : Nat) : Nat × Nat × Nat × Nat := match q.2.1 with
  | 61 => (q.1, mj_nloc j)
  | 62 => mj_iloc q.1 j
  | _ => (q.1, q.2.1, q.2.2, j)
def mj_rd (M : mj_M) (q : mj_Id) (j : Nat) : Int32 := M (mj_aloc q j).1 (mj_aloc q j).2.1 (mj_aloc q j).2.2.1 (mj_aloc q j).2.2.2
def mj_wl (M : mj_M) (l : Nat × Nat × Nat × Nat) (v : Int32) : mj_M := mj_up M l.1 (mj_us (M l.1) l.2.1 l.2.2.1 l.2.2.2 v)
def mj_wr (M : mj_M) (q : mj_Id) (j : Nat) (v : Int32) : mj_M := mj_wl M (mj_aloc q j) v
/-- how long an array is, by its tag -/
def mj_tl : List (Nat × Nat) := [(73, 55), (1, 6), (2, 6), (3, 6), (4, 4), (5, 4), (6, 4), (7, 4), (8, 4), (9, 25), (11, 12), (12, 12), (24, 10), (26, 10), (27, 6), (31, 7), (34, 64), (35, 7), (36, 4), (38, 7), (40, 7), (41, 4), (46, 48), (48, 25), (80, 4), (81, 4)]
def mj_len (M : mj_M) (q : mj_Id) : Nat := match q.2.1 with
  | 82 => (M 41 83 0 0).toNatClampNeg
  | t => (mj_tl.lookup t).getD 0
/-- is it the tag of an array of numbers whose length may be asked -/
def mj_ia (t : Nat) : Bool := t == 82 || (Nat.blt t 80 && (mj_tl.lookup t).isSome)
/-- how long an array of arrays or of objects is -/
def mj_to : List (Nat × Nat) := [(13, 6), (23, 6), (25, 7), (33, 6), (37, 7), (39, 7), (49, 4)]
def mj_ol (q : mj_Id) : Nat := (mj_to.lookup q.2.1).getD 0
/-- what an array of references holds -/
def mj_el (q : mj_Id) (j : Nat) : Option mj_Id := match q.2.1 with
  | 13 => some (q.1, 4, j)
  | 23 => some (q.1, 24, j)
  | 25 => some (q.1, 26, j)
  | 33 => some (q.1, 34, j)
  | 37 => some (q.1, 38, j)
  | 39 => some (q.1, 40, j)
  | 49 => some (q.1, 47, j)
  | _ => none
/-- what an object's field is: a number at a place, or another cell -/
def mj_fd (q : mj_Id) (k : Nat) : Option ((Nat × Nat × Nat × Nat) ⊕ mj_Id) := match q.2.1 with
  | 0 => match k with
    | 0 => some (.inl (q.1, 0, 0, 0))
    | 1 => some (.inr (q.1, 1, 0))
    | 2 => some (.inr (q.1, 2, 0))
    | 3 => some (.inr (q.1, 3, 0))
    | 4 => some (.inr (q.1, 13, 0))
    | 5 => some (.inl (q.1, 0, 0, 1))
    | 6 => some (.inr (q.1, 5, 0))
    | 7 => some (.inr (q.1, 6, 0))
    | 8 => some (.inr (q.1, 7, 0))
    | 9 => some (.inr (q.1, 8, 0))
    | 10 => some (.inr (q.1, 9, 0))
    | 11 => some (.inr (20 + q.1, 10, 0))
    | 12 => some (.inl (q.1, 0, 0, 2))
    | 13 => some (.inl (q.1, 0, 0, 3))
    | _ => none
  | 10 => match k with
    | 0 => some (.inr (q.1, 11, 0))
    | 1 => some (.inr (q.1, 12, 0))
    | 2 => some (.inl (q.1, 10, 0, 0))
    | _ => none
  | 20 => match k with
    | 0 => some (.inr (q.1, 0, 0))
    | _ => none
  | 21 => match k with
    | 0 => some (.inr (3, 20, 0))
    | 1 => some (.inr (q.1, 23, 0))
    | 2 => some (.inr (q.1, 25, 0))
    | 3 => some (.inr (q.1, 27, 0))
    | _ => none
  | 30 => match k with
    | 0 => some (.inr (4, 20, 0))
    | 1 => some (.inr (q.1, 31, 0))
    | 2 => some (.inl (q.1, 30, 0, 0))
    | 3 => some (.inr (q.1, 33, 0))
    | 4 => some (.inr (q.1, 35, 0))
    | 5 => some (.inr (q.1, 36, 0))
    | 6 => some (.inr (q.1, 37, 0))
    | 7 => some (.inr (q.1, 39, 0))
    | 8 => some (.inl (q.1, 30, 0, 1))
    | 9 => some (.inr (q.1, 41, 0))
    | _ => none
  | 45 => match k with
    | 0 => some (.inr (q.1, 46, 0))
    | 1 => some (.inl (q.1, 45, 0, 0))
    | _ => none
  | 47 => match k with
    | 0 => some (.inr (q.1, 48, q.2.2))
    | 1 => some (.inl (q.1, 47, q.2.2, 0))
    | 2 => some (.inl (q.1, 47, q.2.2, 1))
    | 3 => some (.inl (q.1, 47, q.2.2, 2))
    | _ => none
  | 50 => match k with
    | 0 => some (.inr (0, 0, 0))
    | 1 => some (.inr (1, 0, 0))
    | 2 => some (.inr (2, 20, 0))
    | 3 => some (.inr (11, 21, 0))
    | 4 => some (.inr (12, 30, 0))
    | 5 => some (.inr (6, 45, 0))
    | 6 => some (.inr (25, 10, 0))
    | 7 => some (.inr (7, 49, 0))
    | 8 => some (.inl (13, 50, 0, 0))
    | _ => none
  | _ => none
/-- the class of an object, by its tag -/
def mj_ci (t : Nat) : Nat := match t with
  | 0 => 1
  | 10 => 6
  | 20 => 0
  | 21 => 4
  | 30 => 2
  | 45 => 5
  | 47 => 3
  | 50 => 7
  | _ => 99
def mj_k (a : List Nat) : Int32 := match a with
  | [n] => nI n
  | n :: _ => -(nI n)
  | [] => 0
def mj_kl (a : List Nat) : Int64 := match a with
  | [n] => lN n
  | n :: _ => -(lN n)
  | [] => 0
def mj_cmp (c : ClassFile.Cond) (x y : Int32) : Prop := match c with
  | .eq => x = y
  | .ne => ¬ x = y
  | .lt => x < y
  | .ge => y ≤ x
  | .gt => y < x
  | .le => x ≤ y
def mj_p1 (st : List mj_V) (k : Int32 → List mj_V → Prop) : Prop := match st with
  | .inl x :: r => k x r
  | _ => False
def mj_p2 (st : List mj_V) (k : Int32 → Int32 → List mj_V → Prop) : Prop := match st with
  | .inl y :: .inl x :: r => k x y r
  | _ => False
def mj_pl (st : List mj_V) (k : Int64 → List mj_V → Prop) : Prop := match st with
  | .inr (.inl x) :: r => k x r
  | _ => False
def mj_pl2 (st : List mj_V) (k : Int64 → Int64 → List mj_V → Prop) : Prop := match st with
  | .inr (.inl y) :: .inr (.inl x) :: r => k x y r
  | _ => False
def mj_pli (st : List mj_V) (k : Int64 → Int32 → List mj_V → Prop) : Prop := match st with
  | .inl y :: .inr (.inl x) :: r => k x y r
  | _ => False
def mj_pr (st : List mj_V) (k : mj_Id → List mj_V → Prop) : Prop := match st with
  | .inr (.inr q) :: r => k q r
  | _ => False
def mj_pri (st : List mj_V) (k : mj_Id → Int32 → List mj_V → Prop) : Prop := match st with
  | .inl j :: .inr (.inr q) :: r => k q j r
  | _ => False
def mj_prii (st : List mj_V) (k : mj_Id → Int32 → Int32 → List mj_V → Prop) : Prop := match st with
  | .inl v :: .inl j :: .inr (.inr q) :: r => k q j v r
  | _ => False
def mj_pcp (st : List mj_V) (k : mj_Id → Int32 → mj_Id → Int32 → Int32 → List mj_V → Prop) : Prop := match st with
  | .inl n :: .inl d :: .inr (.inr qd) :: .inl s :: .inr (.inr qs) :: r => k qs s qd d n r
  | _ => False
def mj_li (ls : mj_L) (i : Nat) (k : Int32 → Prop) : Prop := match ls[i]? with
  | some (some (.inl x)) => k x
  | _ => False
def mj_ll (ls : mj_L) (i : Nat) (k : Int64 → Prop) : Prop := match ls[i]? with
  | some (some (.inr (.inl x))) => k x
  | _ => False
def mj_lr (ls : mj_L) (i : Nat) (k : mj_Id → Prop) : Prop := match ls[i]? with
  | some (some (.inr (.inr x))) => k x
  | _ => False
def mj_si (ls : mj_L) (i : Nat) (x : mj_V) (k : mj_L → Prop) : Prop := Nat.blt i ls.length = true ∧ k (ls.set i (some x))
/-- a number that is a truth value -/
def mj_bo (b : Nat) (x : Int32) (p : Prop) : Prop := match b with
  | 1 => (x = 0 ∨ x = 1) ∧ p
  | _ => p
def mj_cp (M : mj_M) (qs qd : mj_Id) (s d n : Nat) : mj_M := mj_up M qd.1 (fun t c j => if t = qd.2.1 ∧ c = qd.2.2 ∧ d ≤ j ∧ j < d + n then M qs.1 qs.2.1 qs.2.2 (s + (j - d)) else M qd.1 t c j)
def mj_sw (x : Int32) (ks : List (Int32 × Nat)) (d : Nat) (K : Nat → Prop) : Prop := match ks with
  | [] => K d
  | (k, t) :: r => (x = k → K t) ∧ (¬ x = k → mj_sw x r d K)
/-- the switch's keys: of a table from its lowest on, of pairs the written ones -/
def mj_tk (lo : Nat) (ts : List Nat) : List (Int32 × Nat) := match ts with
  | [] => []
  | t :: r => (nI lo, t) :: mj_tk (lo + 1) r
def mj_lk (ps : List (Int × Int)) (ts : List Nat) : List (Int32 × Nat) := match ps, ts with
  | p :: ps, t :: ts => (nI p.1.toNat, t) :: mj_lk ps ts
  | _, _ => []
/-- the kinds of a method's parameters: 0 int, 1 long, 2 a cell -/
def mj_kd : List (List Nat) := [[107, 0, 0, 0], [107, 0, 0, 0], [107, 0, 0], [107, 0, 0], [107, 0, 0, 0], [107, 0, 0, 0], [107, 0, 0], [107, 0, 0], [107, 0, 0], [107, 0], [107, 1, 0], [107], [107, 0], [107, 0], [107, 0], [107, 0], [107, 0], [107, 0, 0, 0], [107, 0, 0, 0], [107], [107], [0, 0, 0], [1, 0], [2], [100, 2], [100, 0, 0], [101, 2], [101, 2, 0], [101, 0], [101, 0], [101, 0], [101, 0], [101, 0, 0, 0], [101, 0, 0, 0], [101, 0], [101, 0], [101], [101, 0], [101, 0, 0], [101], [101, 0, 0], [101, 0, 0, 0], [101, 0], [101, 0], [101, 0], [0, 0], [0, 0], [104, 2, 0, 0], [104, 2, 0, 0, 0], [104, 2, 0, 0, 0, 0], [104, 0], [104, 0, 0], [104, 0, 0, 0], [105, 0], [105, 2], [0, 0, 0], [0], [106, 0, 0], [106, 0], [106, 0], [106, 2], [2, 0], [2, 0], [2], [2], [2], [2, 0], [2, 0], [2, 2, 2], [0, 0]]
def mj_fit1 (k : Nat) (v : mj_V) : Bool := match v with
  | .inl _ => k == 0
  | .inr (.inl _) => k == 1
  | .inr (.inr q) => k == 2 || (Nat.ble 100 k && mj_ci q.2.1 == k - 100)
def mj_fit (ks : List Nat) (vs : List mj_V) : Bool := match ks, vs with
  | [], [] => true
  | k :: ks, v :: vs => mj_fit1 k v && mj_fit ks vs
  | _, _ => false
/-- how many words a stack has -/
def mj_cat (st : List mj_V) : Nat := match st with
  | [] => 0
  | v :: r => (match v with
    | .inr (.inl _) => 2
    | _ => 1) + mj_cat r
def mj_call (C : Nat → List mj_V → mj_M → Option mj_V → mj_M → Prop) (K : mj_L → List mj_V → mj_M → Prop) (a : List Nat) (ls : mj_L) (st : List mj_V) (M : mj_M) : Prop := match a with
  | [f, n, 0] => (Nat.ble n st.length && mj_fit (mj_kd.getD f []) (st.take n).reverse && Nat.ble (mj_cat (st.drop n)) 8) = true ∧ ∃ M' : mj_M, C f (st.take n).reverse M none M' ∧ K ls (st.drop n) M'
  | [f, n, 1] => (Nat.ble n st.length && mj_fit (mj_kd.getD f []) (st.take n).reverse && Nat.ble (mj_cat (st.drop n)) 8) = true ∧ ∃ (y : Int32) (M' : mj_M), C f (st.take n).reverse M (some (.inl y)) M' ∧ K ls (.inl y :: st.drop n) M'
  | _ => False
/-- one instruction: k goes on with the row, K is what holds at a label, R at a return, C at a call; nd: a native frame fits -/
def mj_w1 (C : Nat → List mj_V → mj_M → Option mj_V → mj_M → Prop) (K : Nat → mj_L → List mj_V → mj_M → Prop) (R : Option mj_V → mj_M → Prop) (nd : Prop) (nx : Nat) (i : Instr) (a : List Nat) (ls : mj_L) (st : List mj_V) (M : mj_M) (k : mj_L → List mj_V → mj_M → Prop) : Prop := match i with
  | .iconst _ => k ls (.inl (mj_k a) :: st) M
  | .bipush _ => k ls (.inl (mj_k a) :: st) M
  | .sipush _ => k ls (.inl (mj_k a) :: st) M
  | .ldc _ => k ls (.inl (mj_k a) :: st) M
  | .ldc2_w _ => k ls (.inr (.inl (mj_kl a)) :: st) M
  | .lconst n => k ls (.inr (.inl (Int64.ofNat n.val)) :: st) M
  | .iload j => mj_li ls j fun x => k ls (.inl x :: st) M
  | .iload_n j => mj_li ls j.val fun x => k ls (.inl x :: st) M
  | .lload j => mj_ll ls j fun x => k ls (.inr (.inl x) :: st) M
  | .lload_n j => mj_ll ls j.val fun x => k ls (.inr (.inl x) :: st) M
  | .aload j => mj_lr ls j fun x => k ls (.inr (.inr x) :: st) M
  | .aload_n j => mj_lr ls j.val fun x => k ls (.inr (.inr x) :: st) M
  | .istore j => mj_p1 st fun x r => mj_si ls j (.inl x) fun ls => k ls r M
  | .istore_n j => mj_p1 st fun x r => mj_si ls j.val (.inl x) fun ls => k ls r M
  | .astore j => mj_pr st fun x r => mj_si ls j (.inr (.inr x)) fun ls => k ls r M
  | .astore_n j => mj_pr st fun x r => mj_si ls j.val (.inr (.inr x)) fun ls => k ls r M
  | .iinc j _ => mj_li ls j fun x => mj_si ls j (.inl (x + mj_k a)) fun ls => k ls st M
  | .iadd => mj_p2 st fun x y r => k ls (.inl (x + y) :: r) M
  | .isub => mj_p2 st fun x y r => k ls (.inl (x - y) :: r) M
  | .imul => mj_p2 st fun x y r => k ls (.inl (x * y) :: r) M
  | .iand => mj_p2 st fun x y r => k ls (.inl (x &&& y) :: r) M
  | .ior => mj_p2 st fun x y r => k ls (.inl (x ||| y) :: r) M
  | .ixor => mj_p2 st fun x y r => k ls (.inl (x ^^^ y) :: r) M
  | .ishl => mj_p2 st fun x y r => k ls (.inl (x <<< (y &&& 31)) :: r) M
  | .ishr => mj_p2 st fun x y r => k ls (.inl (x >>> (y &&& 31)) :: r) M
  | .idiv => mj_p2 st fun x y r => ¬ y = 0 ∧ k ls (.inl (x / y) :: r) M
  | .irem => mj_p2 st fun x y r => ¬ y = 0 ∧ k ls (.inl (x % y) :: r) M
  | .ladd => mj_pl2 st fun x y r => k ls (.inr (.inl (x + y)) :: r) M
  | .lmul => mj_pl2 st fun x y r => k ls (.inr (.inl (x * y)) :: r) M
  | .land => mj_pl2 st fun x y r => k ls (.inr (.inl (x &&& y)) :: r) M
  | .lor => mj_pl2 st fun x y r => k ls (.inr (.inl (x ||| y)) :: r) M
  | .lcmp => mj_pl2 st fun x y r => k ls (.inl (lg_cmp x y) :: r) M
  | .lshl => mj_pli st fun x y r => k ls (.inr (.inl (x <<< (y.toInt64 &&& 63))) :: r) M
  | .lshr => mj_pli st fun x y r => k ls (.inr (.inl (x >>> (y.toInt64 &&& 63))) :: r) M
  | .lushr => mj_pli st fun x y r => k ls (.inr (.inl (x.toUInt64 >>> (y.toInt64.toUInt64 &&& Int64.toUInt64 63)).toInt64) :: r) M
  | .i2l => mj_p1 st fun x r => k ls (.inr (.inl x.toInt64) :: r) M
  | .l2i => mj_pl st fun x r => k ls (.inl x.toInt32 :: r) M
  | .ineg => mj_p1 st fun x r => k ls (.inl (-x) :: r) M
  | .i2b => mj_p1 st fun x r => k ls (.inl x.toInt8.toInt32 :: r) M
  | .i2s => mj_p1 st fun x r => k ls (.inl x.toInt16.toInt32 :: r) M
  | .dup => match st with
    | .inl x :: r => k ls (.inl x :: .inl x :: r) M
    | .inr (.inr x) :: r => k ls (.inr (.inr x) :: .inr (.inr x) :: r) M
    | _ => False
  | .dup2 => mj_pri st fun q j r => k ls (.inl j :: .inr (.inr q) :: .inl j :: .inr (.inr q) :: r) M
  | .pop => mj_p1 st fun _ r => k ls r M
  | .getfield _ => mj_pr st fun q r => a[0]? = some (mj_ci q.2.1) ∧ match mj_fd q (a.getD 1 0) with
    | some (.inl l) => k ls (.inl (M l.1 l.2.1 l.2.2.1 l.2.2.2) :: r) M
    | some (.inr q') => k ls (.inr (.inr q') :: r) M
    | none => False
  | .putfield _ => match st with
    | .inl x :: .inr (.inr q) :: r => a[0]? = some (mj_ci q.2.1) ∧ match mj_fd q (a.getD 1 0) with
      | some (.inl l) => mj_bo (a.getD 2 0) x (k ls r (mj_wl M l x))
      | _ => False
    | _ => False
  | .getstatic _ => k ls (.inr (.inr (40, a.getD 0 0, 0)) :: st) M
  | .iaload => mj_pri st fun q j r => vp_in j (mj_len M q) ∧ k ls (.inl (mj_rd M q j.toNatClampNeg) :: r) M
  | .iastore => mj_prii st fun q j v r => Nat.blt q.2.1 80 = true ∧ vp_in j (mj_len M q) ∧ k ls r (mj_wr M q j.toNatClampNeg v)
  | .aaload => mj_pri st fun q j r => vp_in j (mj_ol q) ∧ match mj_el q j.toNatClampNeg with
    | some q' => k ls (.inr (.inr q') :: r) M
    | none => False
  | .arraylength => mj_pr st fun q r => mj_ia q.2.1 = true ∧ k ls (.inl (nI (mj_len M q)) :: r) M
  | .goto _ => K (a.getD 0 0) ls st M
  | .if_icmp c _ => mj_p2 st fun x y r => (mj_cmp c x y → K (a.getD 0 0) ls r M) ∧ (¬ mj_cmp c x y → k ls r M)
  | .ifCond c _ => mj_p1 st fun x r => (mj_cmp c x 0 → K (a.getD 0 0) ls r M) ∧ (¬ mj_cmp c x 0 → k ls r M)
  | .tableswitch _ lo _ _ => mj_p1 st fun x r => mj_sw x (mj_tk lo.toNat a.tail) (a.getD 0 0) fun t => K t ls r M
  | .lookupswitch _ ps => mj_p1 st fun x r => mj_sw x (mj_lk ps.toList a.tail) (a.getD 0 0) fun t => K t ls r M
  | .invokevirtual _ => mj_call C (K nx) a ls st M
  | .invokestatic _ => match a with
    | [] => mj_pcp st fun qs s qd d n r => Nat.ble (mj_cat r) 8 = true ∧ nd ∧ (Nat.blt qs.2.1 60 && mj_ia qs.2.1) = true ∧ (Nat.blt qd.2.1 60 && mj_ia qd.2.1) = true ∧ ¬ s < 0 ∧ ¬ d < 0 ∧ ¬ n < 0 ∧ s.toNatClampNeg + n.toNatClampNeg ≤ mj_len M qs ∧ d.toNatClampNeg + n.toNatClampNeg ≤ mj_len M qd ∧ k ls r (mj_cp M qs qd s.toNatClampNeg d.toNatClampNeg n.toNatClampNeg)
    | [0] => mj_p2 st fun x y r => Nat.ble (mj_cat r) 8 = true ∧ nd ∧ k ls (.inl (if x < y then y else x) :: r) M
    | [1] => mj_p2 st fun x y r => Nat.ble (mj_cat r) 8 = true ∧ nd ∧ k ls (.inl (if y < x then y else x) :: r) M
    | _ => mj_call C (K nx) a ls st M
  | .ireturn => match st with
    | [.inl x] => mj_bo (a.getD 0 0) x (R (some (.inl x)) M)
    | _ => False
  | .return_ => match st with
    | [] => R none M
    | _ => False
  | _ => False
def mj_w (C : Nat → List mj_V → mj_M → Option mj_V → mj_M → Prop) (K : Nat → mj_L → List mj_V → mj_M → Prop) (R : Option mj_V → mj_M → Prop) (nd : Prop) (nx : Nat) (is : List mj_I) (ls : mj_L) (st : List mj_V) (M : mj_M) : Prop := match is with
  | [] => K nx ls st M
  | i :: is => mj_w1 C K R nd nx i.1 i.2 ls st M (fun ls st M => mj_w C K R nd nx is ls st M)
abbrev mj_C : Type := List (Nat × List mj_I × Nat)
/-- the row at a label; a label that is none has a row that never holds -/
def mj_b (c : mj_C) (pc : Nat) : List mj_I × Nat := (c.lookup pc).getD ([(.nop, [])], 0)
/-- what of a part's numbers counts -/
def mj_ok (t c j : Nat) : Bool := match t with
  | 0 => c == 0 && Nat.blt j 4
  | 1 => c == 0 && Nat.blt j 6
  | 2 => c == 0 && Nat.blt j 6
  | 3 => c == 0 && Nat.blt j 6
  | 4 => Nat.blt c 6 && Nat.blt j 4
  | 5 => c == 0 && Nat.blt j 4
  | 6 => c == 0 && Nat.blt j 4
  | 7 => c == 0 && Nat.blt j 4
  | 8 => c == 0 && Nat.blt j 4
  | 9 => c == 0 && Nat.blt j 25
  | 10 => c == 0 && j == 0
  | 11 => c == 0 && Nat.blt j 12
  | 12 => c == 0 && Nat.blt j 12
  | _ => true
def mj_eq (M N : mj_M) : Prop := ∀ i t c j : Nat, mj_ok t c j = true → M i t c j = N i t c j
theorem mj_eq.rf {M : mj_M} : mj_eq M M := fun _ _ _ _ _ => rfl
theorem mj_eq.of {M N : mj_M} (h : M = N) : mj_eq M N := h ▸ mj_eq.rf
theorem mj_eq.tr {M N L : mj_M} (h : mj_eq M N) (g : mj_eq N L) : mj_eq M L := fun i t c j k => (h i t c j k).trans (g i t c j k)
theorem mj_eq.sy {M N : mj_M} (h : mj_eq M N) : mj_eq N M := fun i t c j k => (h i t c j k).symm
/-- the locals of a method at its start -/
def mj_av (vs : List mj_V) : mj_L := match vs with
  | [] => []
  | v :: r => match v with
    | .inr (.inl w) => some (.inr (.inl w)) :: none :: mj_av r
    | v => some v :: mj_av r
def mj_ent (n : Nat) (vs : List mj_V) : mj_L := mj_av vs ++ List.replicate (n - (mj_av vs).length) none
def mj_Cl (c : mj_C) (C : Nat → List mj_V → mj_M → Option mj_V → mj_M → Prop) (nd : Prop) (P : Nat → mj_L → List mj_V → mj_M → Prop) (R : Option mj_V → mj_M → Prop) : Prop :=
  ∀ (pc : Nat) (ls : mj_L) (st : List mj_V) (M : mj_M), mj_w C P R nd (mj_b c pc).2 (mj_b c pc).1 ls st M → P pc ls st M
