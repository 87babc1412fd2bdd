/-! The rows are the methods' own code; which cells there are, where their numbers lie, whose they are. -/
def mj_ids : List mj_Id := [(0, 0, 0), (0, 1, 0), (0, 2, 0), (0, 3, 0), (0, 13, 0), (0, 4, 0), (0, 4, 1), (0, 4, 2), (0, 4, 3), (0, 4, 4), (0, 4, 5), (0, 5, 0), (0, 6, 0), (0, 7, 0), (0, 8, 0), (0, 9, 0), (20, 10, 0), (20, 11, 0), (20, 12, 0), (1, 0, 0), (1, 1, 0), (1, 2, 0), (1, 3, 0), (1, 13, 0), (1, 4, 0), (1, 4, 1), (1, 4, 2), (1, 4, 3), (1, 4, 4), (1, 4, 5), (1, 5, 0), (1, 6, 0), (1, 7, 0), (1, 8, 0), (1, 9, 0), (21, 10, 0), (21, 11, 0), (21, 12, 0), (2, 0, 0), (2, 1, 0), (2, 2, 0), (2, 3, 0), (2, 13, 0), (2, 4, 0), (2, 4, 1), (2, 4, 2), (2, 4, 3), (2, 4, 4), (2, 4, 5), (2, 5, 0), (2, 6, 0), (2, 7, 0), (2, 8, 0), (2, 9, 0), (22, 10, 0), (22, 11, 0), (22, 12, 0), (3, 0, 0), (3, 1, 0), (3, 2, 0), (3, 3, 0), (3, 13, 0), (3, 4, 0), (3, 4, 1), (3, 4, 2), (3, 4, 3), (3, 4, 4), (3, 4, 5), (3, 5, 0), (3, 6, 0), (3, 7, 0), (3, 8, 0), (3, 9, 0), (23, 10, 0), (23, 11, 0), (23, 12, 0), (4, 0, 0), (4, 1, 0), (4, 2, 0), (4, 3, 0), (4, 13, 0), (4, 4, 0), (4, 4, 1), (4, 4, 2), (4, 4, 3), (4, 4, 4), (4, 4, 5), (4, 5, 0), (4, 6, 0), (4, 7, 0), (4, 8, 0), (4, 9, 0), (24, 10, 0), (24, 11, 0), (24, 12, 0), (25, 10, 0), (25, 11, 0), (25, 12, 0), (2, 20, 0), (3, 20, 0), (4, 20, 0), (11, 21, 0), (11, 23, 0), (11, 24, 0), (11, 24, 1), (11, 24, 2), (11, 24, 3), (11, 24, 4), (11, 24, 5), (11, 25, 0), (11, 26, 0), (11, 26, 1), (11, 26, 2), (11, 26, 3), (11, 26, 4), (11, 26, 5), (11, 26, 6), (11, 27, 0), (12, 30, 0), (12, 31, 0), (12, 33, 0), (12, 34, 0), (12, 34, 1), (12, 34, 2), (12, 34, 3), (12, 34, 4), (12, 34, 5), (12, 35, 0), (12, 36, 0), (12, 37, 0), (12, 38, 0), (12, 38, 1), (12, 38, 2), (12, 38, 3), (12, 38, 4), (12, 38, 5), (12, 38, 6), (12, 39, 0), (12, 40, 0), (12, 40, 1), (12, 40, 2), (12, 40, 3), (12, 40, 4), (12, 40, 5), (12, 40, 6), (12, 41, 0), (6, 45, 0), (6, 46, 0), (7, 49, 0), (7, 47, 0), (7, 47, 1), (7, 47, 2), (7, 47, 3), (7, 48, 0), (7, 48, 1), (7, 48, 2), (7, 48, 3), (13, 50, 0), (17, 73, 0)]
def mj_kind (t : Nat) : Nat := if [0, 10, 20, 21, 30, 45, 47, 50, 60].contains t then 0 else if [13, 23, 25, 33, 37, 39].contains t then 2 else if t == 49 then 3 else 1
def mj_nf (t : Nat) : Nat := (mj_cl.getD (mj_ci t) ("", mj_T0, 0)).2.2
def mj_ln (q : mj_Id) : Nat := (mj_tl.lookup q.2.1).getD 0
/-- where a cell's numbers lie -/
def mj_lo (q : mj_Id) : List (Nat × Nat × Nat × Nat) :=
  if mj_kind q.2.1 = 0 then (List.range (mj_nf q.2.1)).filterMap (fun k => match mj_fd q k with
    | some (.inl l) => some l
    | _ => none)
  else if mj_kind q.2.1 = 1 then (List.range (mj_ln q)).map (mj_aloc q) else []
/-- whose a place is -/
def mj_own (l : Nat × Nat × Nat × Nat) : mj_Id :=
  if l.1 = 14 then (if l.2.1 = 0 then (if l.2.2.2 = 2 then (14, 61, 0) else (30, 60, 0)) else if l.2.1 = 5 then (14, 5, 0) else if l.2.1 = 7 then (14, 7, 0) else (14, 61, 0))
  else if l.1 = 15 then (15, 61, 0)
  else if l.1 = 16 then (if l.2.1 = 0 then (if l.2.2.2 = 3 then (30, 60, 0) else (16, 62, 0)) else (16, 62, 0))
  else if l.1 = 36 then (16, 62, 0)
  else if l.2.1 = 63 then (30, 60, 0)
  else if l.1 = 34 then (if l.2.1 = 10 then (30, 60, 0) else (34, l.2.1, 0))
  else (l.1, l.2.1, l.2.2.1)
def mj_idx (l : Nat × Nat × Nat × Nat) : Nat :=
  if l.1 = 14 ∨ l.1 = 15 ∨ l.1 = 16 then (match l.2.1 with
    | 2 => l.2.2.2
    | 3 => 6 + l.2.2.2
    | 1 => 12 + l.2.2.2
    | 4 => 18 + 6 * l.2.2.2 + l.2.2.1
    | 6 => 42 + l.2.2.2
    | 8 => 46 + l.2.2.2
    | 9 => 50 + l.2.2.2
    | 0 => if l.2.2.2 = 2 then 75 else 108 + l.2.2.2
    | 5 => if l.1 = 16 then 76 + l.2.2.2 else l.2.2.2
    | 7 => if l.1 = 16 then 80 + l.2.2.2 else l.2.2.2
    | _ => l.2.2.2)
  else if l.1 = 36 then (match l.2.1 with
    | 11 => 84 + l.2.2.2
    | 12 => 96 + l.2.2.2
    | _ => 110)
  else l.2.2.2
theorem mj_ids_own : mj_ids.all (fun q => (mj_lo q).all (fun l => decide (mj_own l = q) && Nat.blt l.1 40 && mj_ok l.2.1 l.2.2.1 l.2.2.2)) = true := by decide +kernel
theorem mj_ids_idx : mj_ids.all (fun q => mj_kind q.2.1 != 1 || (List.range (mj_ln q)).all (fun j => mj_idx (mj_aloc q j) == j)) = true := by decide +kernel
theorem mj_ids_fd : mj_ids.all (fun q => mj_kind q.2.1 != 0 || (Nat.blt (mj_ci q.2.1) 8 && (List.range (mj_nf q.2.1)).all (fun k => match mj_fd q k with
    | some (.inl l) => (List.range (mj_nf q.2.1)).all (fun k' => k' == k || match mj_fd q k' with
      | some (.inl l') => decide (l ≠ l')
      | _ => true)
    | some (.inr q') => mj_ids.contains q'
    | none => false))) = true := by decide +kernel
theorem mj_ids_el : mj_ids.all (fun q => (mj_kind q.2.1 == 2 || mj_kind q.2.1 == 3 || mj_ol q == 0) && (List.range (mj_ol q)).all (fun j => match mj_el q j with
    | some q' => mj_ids.contains q'
    | none => false)) = true := by decide +kernel
theorem mj_ids_kd : mj_ids.all (fun q => (mj_kind q.2.1 == 1 || mj_ln q == 0) && (mj_kind q.2.1 == 0 || mj_ci q.2.1 == 99) && q.2.1 != 82 && q.2.1 != 80 && q.2.1 != 81 && Nat.blt q.1 40 && (mj_kind q.2.1 == 1 || !mj_ia q.2.1)) = true := by decide +kernel
theorem mj_ids_nd : mj_ids.Nodup := by decide +kernel
/-! the checks of a row against the bytes -/
def mj_tg (pc : Nat) (off : Int) (t : Nat) : Bool := decide ((pc : Int) + off = (t : Int))
def mj_tgs (pc : Nat) (offs : List Int) (ts : List Nat) : Bool := match offs, ts with
  | [], [] => true
  | o :: os, t :: ts => mj_tg pc o t && mj_tgs pc os ts
  | _, _ => false
/-- no long stands ahead of a place that is stored to -/
def mj_lpk (lp : List Nat) (j : Nat) : Bool := match j with
  | 0 => true
  | i + 1 => !lp.contains i
def mj_rk (rt : Option FieldType) : Nat := match rt with
  | none => 0
  | some .int => 1
  | some .boolean => 1
  | _ => 9
def mj_ckk (o : Nat) (rt : Option FieldType) (lp : List Nat) (pc : Nat) (i : Instr) (a : List Nat) (n : Nat) : Bool := match i with
  | .iconst k => n == 1 && decide (Int32.ofInt k = mj_k a)
  | .bipush k => n == 2 && decide ((Int8.ofInt k).toInt32 = mj_k a)
  | .sipush k => n == 3 && decide ((Int16.ofInt k).toInt32 = mj_k a)
  | .ldc x => n == 2 && mj_KL.any (fun e => e.1 == o && e.2.1 == x && decide (Int32.ofInt e.2.2 = mj_k a))
  | .ldc2_w x => n == 3 && mj_KM.any (fun e => e.1 == o && e.2.1 == x && decide (Int64.ofInt e.2.2 = mj_kl a))
  | .lconst _ => n == 1
  | .iload _ => n == 2
  | .iload_n _ => n == 1
  | .lload _ => n == 2
  | .lload_n _ => n == 1
  | .aload _ => n == 2
  | .aload_n _ => n == 1
  | .istore j => n == 2 && mj_lpk lp j
  | .istore_n j => n == 1 && mj_lpk lp j.val
  | .astore j => n == 2 && mj_lpk lp j
  | .astore_n j => n == 1 && mj_lpk lp j.val
  | .iinc j c => n == 3 && decide (Int32.ofInt c = mj_k a) && mj_lpk lp j
  | .iadd => n == 1
  | .isub => n == 1
  | .imul => n == 1
  | .iand => n == 1
  | .ior => n == 1
  | .ixor => n == 1
  | .ishl => n == 1
  | .ishr => n == 1
  | .idiv => n == 1
  | .irem => n == 1
  | .ladd => n == 1
  | .lmul => n == 1
  | .land => n == 1
  | .lor => n == 1
  | .lcmp => n == 1
  | .lshl => n == 1
  | .lshr => n == 1
  | .lushr => n == 1
  | .i2l => n == 1
  | .l2i => n == 1
  | .i2b => n == 1
  | .ineg => n == 1
  | .i2s => n == 1
  | .dup => n == 1
  | .dup2 => n == 1
  | .pop => n == 1
  | .getfield x => n == 3 && mj_FL.contains (o, x, a.getD 0 99, a.getD 1 99) && Nat.blt (a.getD 1 99) (mj_cl.getD (a.getD 0 99) ("", mj_T0, 0)).2.2
  | .putfield x => n == 3 && mj_FL.contains (o, x, a.getD 0 99, a.getD 1 99) && Nat.blt (a.getD 1 99) (mj_cl.getD (a.getD 0 99) ("", mj_T0, 0)).2.2 && !(mj_TT (a.getD 0 99) (a.getD 1 99)).2.2.2 && decide (parseFieldDescriptor (mj_TT (a.getD 0 99) (a.getD 1 99)).2.2.1 = some (if a.getD 2 0 = 1 then .boolean else .int))
  | .getstatic x => n == 3 && o == 1 && ((x == 109 && a == [80]) || (x == 128 && a == [81]))
  | .iaload => n == 1
  | .iastore => n == 1
  | .aaload => n == 1
  | .arraylength => n == 1
  | .goto off => n == 3 && mj_tg pc off (a.getD 0 0)
  | .if_icmp _ off => n == 3 && mj_tg pc off (a.getD 0 0)
  | .ifCond _ off => n == 3 && mj_tg pc off (a.getD 0 0)
  | .tableswitch d lo hi offs => decide (lo = (lo.toNat : Int)) && decide (hi + 1 = lo + (offs.size : Int)) && Nat.blt (lo.toNat + offs.size) 1000 && mj_tgs pc (d :: offs.toList) a
  | .lookupswitch d ps => (ps.toList.zip (ps.toList.drop 1)).all (fun (x, y) => x.1 < y.1) && ps.toList.all (fun x => decide (x.1 = (x.1.toNat : Int)) && Nat.blt x.1.toNat 1000) && mj_tgs pc (d :: ps.toList.map (fun x => x.2)) a
  | .invokevirtual x => n == 3 && match a with
    | [g, k, r] => Nat.blt g mj_mt.length && mj_ML.contains (o, x, g) && !mj_stc g && k == mj_np.getD g 0 + 1 && r == mj_rk (mj_rt g)
    | _ => false
  | .invokestatic x => n == 3 && match a with
    | [] => mj_AL.contains (o, x)
    | [0] => mj_JL.contains (o, x, true)
    | [1] => mj_JL.contains (o, x, false)
    | [g, k, r] => Nat.blt g mj_mt.length && (mj_ML.contains (o, x, g) || (o == 1 && x == 85 && g == 23)) && mj_stc g && k == mj_np.getD g 0 && r == mj_rk (mj_rt g)
    | _ => false
  | .ireturn => n == 1 && ((decide (rt = some .int) && a == []) || (decide (rt = some .boolean) && a == [1]))
  | .return_ => n == 1 && decide (rt = none)
  | _ => false
/-- does the row end with this instruction: 1 by a jump or return, 2 by a call -/
def mj_te (i : Instr) (a : List Nat) : Nat := match i with
  | .goto _ => 1
  | .tableswitch _ _ _ _ => 1
  | .lookupswitch _ _ => 1
  | .ireturn => 1
  | .return_ => 1
  | .invokevirtual _ => 2
  | .invokestatic _ => if a.length = 3 then 2 else 0
  | _ => 0
def mj_ck (cc : ByteArray) (o : Nat) (rt : Option FieldType) (lp : List Nat) (nx : Nat) : Nat → List mj_I → Bool
  | pc, [] => pc == nx
  | pc, i :: is => match decode cc pc with
    | .ok (i', n) => decide (i' = i.1) && mj_ckk o rt lp pc i.1 i.2 n && (match mj_te i.1 i.2 with
      | 0 => mj_ck cc o rt lp nx (pc + n) is
      | 1 => is.isEmpty
      | _ => is.isEmpty && nx == pc + n)
    | _ => false
def mj_cm (cc : ByteArray) (o : Nat) (rt : Option FieldType) (lp : List Nat) (c : mj_C) : Bool := c.all (fun x => mj_ck cc o rt lp x.2.2 x.1 x.2.1)
/-- the places of the longs among a method's locals -/
def mj_lg (n : Nat) (ks : List Nat) : List Nat := match ks with
  | [] => []
  | 1 :: ks => n :: mj_lg (n + 2) ks
  | _ :: ks => mj_lg (n + 1) ks
def mj_cf (f : Nat) : Bool := mj_cm (mj_bc f) (mj_m f).1 (mj_rt f) (mj_lg 0 (mj_kd.getD f [])) (mj_cs.getD f []) && decide (mj_ml.getD f 0 = mj_mx f) && Nat.ble (mj_mx f) 11
theorem mj_cf0 : mj_cf 0 = true := by decide +kernel
theorem mj_cf1 : mj_cf 1 = true := by decide +kernel
theorem mj_cf2 : mj_cf 2 = true := by decide +kernel
theorem mj_cf3 : mj_cf 3 = true := by decide +kernel
theorem mj_cf4 : mj_cf 4 = true := by decide +kernel
theorem mj_cf5 : mj_cf 5 = true := by decide +kernel
theorem mj_cf6 : mj_cf 6 = true := by decide +kernel
theorem mj_cf7 : mj_cf 7 = true := by decide +kernel
theorem mj_cf8 : mj_cf 8 = true := by decide +kernel
theorem mj_cf9 : mj_cf 9 = true := by decide +kernel
theorem mj_cf10 : mj_cf 10 = true := by decide +kernel
theorem mj_cf11 : mj_cf 11 = true := by decide +kernel
theorem mj_cf12 : mj_cf 12 = true := by decide +kernel
theorem mj_cf13 : mj_cf 13 = true := by decide +kernel
theorem mj_cf14 : mj_cf 14 = true := by decide +kernel
theorem mj_cf15 : mj_cf 15 = true := by decide +kernel
theorem mj_cf16 : mj_cf 16 = true := by decide +kernel
theorem mj_cf17 : mj_cf 17 = true := by decide +kernel
theorem mj_cf18 : mj_cf 18 = true := by decide +kernel
theorem mj_cf19 : mj_cf 19 = true := by decide +kernel
theorem mj_cf20 : mj_cf 20 = true := by decide +kernel
theorem mj_cf21 : mj_cf 21 = true := by decide +kernel
theorem mj_cf22 : mj_cf 22 = true := by decide +kernel
theorem mj_cf23 : mj_cf 23 = true := by decide +kernel
theorem mj_cf24 : mj_cf 24 = true := by decide +kernel
theorem mj_cf25 : mj_cf 25 = true := by decide +kernel
theorem mj_cf26 : mj_cf 26 = true := by decide +kernel
theorem mj_cf27 : mj_cf 27 = true := by decide +kernel
theorem mj_cf28 : mj_cf 28 = true := by decide +kernel
theorem mj_cf29 : mj_cf 29 = true := by decide +kernel
theorem mj_cf30 : mj_cf 30 = true := by decide +kernel
theorem mj_cf31 : mj_cf 31 = true := by decide +kernel
theorem mj_cf32 : mj_cf 32 = true := by decide +kernel
theorem mj_cf33 : mj_cf 33 = true := by decide +kernel
theorem mj_cf34 : mj_cf 34 = true := by decide +kernel
theorem mj_cf35 : mj_cf 35 = true := by decide +kernel
theorem mj_cf36 : mj_cf 36 = true := by decide +kernel
theorem mj_cf37 : mj_cf 37 = true := by decide +kernel
theorem mj_cf38 : mj_cf 38 = true := by decide +kernel
theorem mj_cf39 : mj_cf 39 = true := by decide +kernel
theorem mj_cf40 : mj_cf 40 = true := by decide +kernel
theorem mj_cf41 : mj_cf 41 = true := by decide +kernel
theorem mj_cf42 : mj_cf 42 = true := by decide +kernel
theorem mj_cf43 : mj_cf 43 = true := by decide +kernel
theorem mj_cf44 : mj_cf 44 = true := by decide +kernel
theorem mj_cf45 : mj_cf 45 = true := by decide +kernel
theorem mj_cf46 : mj_cf 46 = true := by decide +kernel
theorem mj_cf47 : mj_cf 47 = true := by decide +kernel
theorem mj_cf48 : mj_cf 48 = true := by decide +kernel
theorem mj_cf49 : mj_cf 49 = true := by decide +kernel
theorem mj_cf50 : mj_cf 50 = true := by decide +kernel
theorem mj_cf51 : mj_cf 51 = true := by decide +kernel
theorem mj_cf52 : mj_cf 52 = true := by decide +kernel
theorem mj_cf53 : mj_cf 53 = true := by decide +kernel
theorem mj_cf54 : mj_cf 54 = true := by decide +kernel
theorem mj_cf55 : mj_cf 55 = true := by decide +kernel
theorem mj_cf56 : mj_cf 56 = true := by decide +kernel
theorem mj_cf57 : mj_cf 57 = true := by decide +kernel
theorem mj_cf58 : mj_cf 58 = true := by decide +kernel
theorem mj_cf59 : mj_cf 59 = true := by decide +kernel
theorem mj_cf60 : mj_cf 60 = true := by decide +kernel
theorem mj_cf61 : mj_cf 61 = true := by decide +kernel
theorem mj_cf62 : mj_cf 62 = true := by decide +kernel
theorem mj_cf63 : mj_cf 63 = true := by decide +kernel
theorem mj_cf64 : mj_cf 64 = true := by decide +kernel
theorem mj_cf65 : mj_cf 65 = true := by decide +kernel
theorem mj_cf66 : mj_cf 66 = true := by decide +kernel
theorem mj_cf67 : mj_cf 67 = true := by decide +kernel
theorem mj_cf68 : mj_cf 68 = true := by decide +kernel
theorem mj_cf69 : mj_cf 69 = true := by decide +kernel
