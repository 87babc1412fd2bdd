/-! The constructors. -/
abbrev mk_V : Type := Int32 ⊕ Option Nat
/-- a cell: 0 an object, 1 ints, 2 arrays of ints, 3 sheets; its class; what it holds -/
abbrev mk_C : Type := Nat × Nat × List mk_V
def mk_df : List (List mk_V) := [[.inr none], [.inl 0, .inr none, .inr none, .inr none, .inr none, .inl 0, .inr none, .inr none, .inr none, .inr none, .inr none, .inr none, .inl 0, .inl 0], [.inr none, .inr none, .inl 0, .inr none, .inr none, .inr none, .inr none, .inr none, .inl 0, .inr none], [.inr none, .inl 0, .inl 0, .inl 0], [.inr none, .inr none, .inr none, .inr none], [.inr none, .inl 0], [.inr none, .inr none, .inl 0], [.inr none, .inr none, .inr none, .inr none, .inr none, .inr none, .inr none, .inr none, .inl 0]]
def mk_c0 : List (Nat × Instr × Nat × List Nat) := [(0, .aload_n 0, 1, []), (1, .invokespecial 1, 3, []), (4, .aload_n 0, 1, []), (5, .new 7, 3, [1]), (8, .dup, 1, []), (9, .invokespecial 9, 3, [1]), (12, .putfield 10, 3, [0, 0]), (15, .return_, 1, [])]
def mk_c1 : List (Nat × Instr × Nat × List Nat) := [(0, .aload_n 0, 1, []), (1, .invokespecial 3, 3, []), (4, .aload_n 0, 1, []), (5, .iconst 0, 1, []), (6, .putfield 9, 3, [1, 0]), (9, .aload_n 0, 1, []), (10, .bipush 6, 2, []), (12, .newarray .int, 2, []), (14, .putfield 15, 3, [1, 1]), (17, .aload_n 0, 1, []), (18, .bipush 6, 2, []), (20, .newarray .int, 2, []), (22, .putfield 19, 3, [1, 2]), (25, .aload_n 0, 1, []), (26, .bipush 6, 2, []), (28, .newarray .int, 2, []), (30, .putfield 22, 3, [1, 3]), (33, .aload_n 0, 1, []), (34, .bipush 6, 2, []), (36, .iconst 4, 1, []), (37, .multianewarray 25 2, 4, []), (41, .putfield 27, 3, [1, 4]), (44, .aload_n 0, 1, []), (45, .iconst 0, 1, []), (46, .putfield 30, 3, [1, 5]), (49, .aload_n 0, 1, []), (50, .iconst 4, 1, []), (51, .newarray .int, 2, []), (53, .putfield 33, 3, [1, 6]), (56, .aload_n 0, 1, []), (57, .iconst 4, 1, []), (58, .newarray .int, 2, []), (60, .putfield 36, 3, [1, 7]), (63, .aload_n 0, 1, []), (64, .iconst 4, 1, []), (65, .newarray .int, 2, []), (67, .putfield 39, 3, [1, 8]), (70, .aload_n 0, 1, []), (71, .iconst 4, 1, []), (72, .newarray .int, 2, []), (74, .putfield 42, 3, [1, 9]), (77, .aload_n 0, 1, []), (78, .bipush 25, 2, []), (80, .newarray .int, 2, []), (82, .putfield 45, 3, [1, 10]), (85, .aload_n 0, 1, []), (86, .new 48, 3, [6]), (89, .dup, 1, []), (90, .invokespecial 50, 3, [6]), (93, .putfield 51, 3, [1, 11]), (96, .aload_n 0, 1, []), (97, .iconst 0, 1, []), (98, .putfield 55, 3, [1, 12]), (101, .aload_n 0, 1, []), (102, .iconst 1, 1, []), (103, .putfield 58, 3, [1, 13]), (106, .return_, 1, [])]
def mk_c2 : List (Nat × Instr × Nat × List Nat) := [(0, .aload_n 0, 1, []), (1, .invokespecial 5, 3, []), (4, .aload_n 0, 1, []), (5, .new 11, 3, [0]), (8, .dup, 1, []), (9, .invokespecial 13, 3, [0]), (12, .putfield 14, 3, [2, 0]), (15, .aload_n 0, 1, []), (16, .bipush 7, 2, []), (18, .newarray .int, 2, []), (20, .putfield 18, 3, [2, 1]), (23, .aload_n 0, 1, []), (24, .iconst 0, 1, []), (25, .putfield 22, 3, [2, 2]), (28, .aload_n 0, 1, []), (29, .bipush 6, 2, []), (31, .bipush 64, 2, []), (33, .multianewarray 26 2, 4, []), (37, .putfield 28, 3, [2, 3]), (40, .aload_n 0, 1, []), (41, .bipush 7, 2, []), (43, .newarray .int, 2, []), (45, .putfield 31, 3, [2, 4]), (48, .aload_n 0, 1, []), (49, .iconst 4, 1, []), (50, .newarray .int, 2, []), (52, .putfield 34, 3, [2, 5]), (55, .aload_n 0, 1, []), (56, .bipush 7, 2, []), (58, .bipush 7, 2, []), (60, .multianewarray 26 2, 4, []), (64, .putfield 37, 3, [2, 6]), (67, .aload_n 0, 1, []), (68, .bipush 7, 2, []), (70, .bipush 7, 2, []), (72, .multianewarray 26 2, 4, []), (76, .putfield 40, 3, [2, 7]), (79, .aload_n 0, 1, []), (80, .iconst 0, 1, []), (81, .putfield 43, 3, [2, 8]), (84, .aload_n 0, 1, []), (85, .iconst 4, 1, []), (86, .newarray .int, 2, []), (88, .putfield 46, 3, [2, 9]), (91, .return_, 1, [])]
def mk_c3 : List (Nat × Instr × Nat × List Nat) := [(0, .aload_n 0, 1, []), (1, .invokespecial 3, 3, []), (4, .aload_n 0, 1, []), (5, .bipush 25, 2, []), (7, .newarray .int, 2, []), (9, .putfield 9, 3, [3, 0]), (12, .aload_n 0, 1, []), (13, .iconst 0, 1, []), (14, .putfield 15, 3, [3, 1]), (17, .aload_n 0, 1, []), (18, .iconst 0, 1, []), (19, .putfield 19, 3, [3, 2]), (22, .aload_n 0, 1, []), (23, .iconst 0, 1, []), (24, .putfield 23, 3, [3, 3]), (27, .return_, 1, [])]
def mk_c4 : List (Nat × Instr × Nat × List Nat) := [(0, .aload_n 0, 1, []), (1, .invokespecial 3, 3, []), (4, .aload_n 0, 1, []), (5, .new 9, 3, [0]), (8, .dup, 1, []), (9, .invokespecial 11, 3, [0]), (12, .putfield 12, 3, [4, 0]), (15, .aload_n 0, 1, []), (16, .bipush 6, 2, []), (18, .bipush 10, 2, []), (20, .multianewarray 18 2, 4, []), (24, .putfield 20, 3, [4, 1]), (27, .aload_n 0, 1, []), (28, .bipush 7, 2, []), (30, .bipush 10, 2, []), (32, .multianewarray 18 2, 4, []), (36, .putfield 23, 3, [4, 2]), (39, .aload_n 0, 1, []), (40, .bipush 6, 2, []), (42, .newarray .int, 2, []), (44, .putfield 26, 3, [4, 3]), (47, .return_, 1, [])]
def mk_c5 : List (Nat × Instr × Nat × List Nat) := [(0, .aload_n 0, 1, []), (1, .invokespecial 3, 3, []), (4, .aload_n 0, 1, []), (5, .bipush 48, 2, []), (7, .newarray .int, 2, []), (9, .putfield 9, 3, [5, 0]), (12, .aload_n 0, 1, []), (13, .iconst 0, 1, []), (14, .putfield 15, 3, [5, 1]), (17, .return_, 1, [])]
def mk_c6 : List (Nat × Instr × Nat × List Nat) := [(0, .aload_n 0, 1, []), (1, .invokespecial 3, 3, []), (4, .aload_n 0, 1, []), (5, .bipush 12, 2, []), (7, .newarray .int, 2, []), (9, .putfield 9, 3, [6, 0]), (12, .aload_n 0, 1, []), (13, .bipush 12, 2, []), (15, .newarray .int, 2, []), (17, .putfield 15, 3, [6, 1]), (20, .aload_n 0, 1, []), (21, .iconst 0, 1, []), (22, .putfield 18, 3, [6, 2]), (25, .return_, 1, [])]
def mk_c7 : List (Nat × Instr × Nat × List Nat) := [(0, .aload_n 0, 1, []), (1, .invokespecial 1, 3, []), (4, .aload_n 0, 1, []), (5, .new 7, 3, [1]), (8, .dup, 1, []), (9, .invokespecial 9, 3, [1]), (12, .putfield 10, 3, [7, 0]), (15, .aload_n 0, 1, []), (16, .new 7, 3, [1]), (19, .dup, 1, []), (20, .invokespecial 9, 3, [1]), (23, .putfield 16, 3, [7, 1]), (26, .aload_n 0, 1, []), (27, .new 19, 3, [0]), (30, .dup, 1, []), (31, .invokespecial 21, 3, [0]), (34, .putfield 22, 3, [7, 2]), (37, .aload_n 0, 1, []), (38, .new 26, 3, [4]), (41, .dup, 1, []), (42, .invokespecial 28, 3, [4]), (45, .putfield 29, 3, [7, 3]), (48, .aload_n 0, 1, []), (49, .new 33, 3, [2]), (52, .dup, 1, []), (53, .invokespecial 35, 3, [2]), (56, .putfield 36, 3, [7, 4]), (59, .aload_n 0, 1, []), (60, .new 40, 3, [5]), (63, .dup, 1, []), (64, .invokespecial 42, 3, [5]), (67, .putfield 43, 3, [7, 5]), (70, .aload_n 0, 1, []), (71, .new 47, 3, [6]), (74, .dup, 1, []), (75, .invokespecial 49, 3, [6]), (78, .putfield 50, 3, [7, 6]), (81, .aload_n 0, 1, []), (82, .iconst 4, 1, []), (83, .anewarray 54, 3, []), (86, .dup, 1, []), (87, .iconst 0, 1, []), (88, .new 54, 3, [3]), (91, .dup, 1, []), (92, .invokespecial 56, 3, [3]), (95, .aastore, 1, []), (96, .dup, 1, []), (97, .iconst 1, 1, []), (98, .new 54, 3, [3]), (101, .dup, 1, []), (102, .invokespecial 56, 3, [3]), (105, .aastore, 1, []), (106, .dup, 1, []), (107, .iconst 2, 1, []), (108, .new 54, 3, [3]), (111, .dup, 1, []), (112, .invokespecial 56, 3, [3]), (115, .aastore, 1, []), (116, .dup, 1, []), (117, .iconst 3, 1, []), (118, .new 54, 3, [3]), (121, .dup, 1, []), (122, .invokespecial 56, 3, [3]), (125, .aastore, 1, []), (126, .putfield 57, 3, [7, 7]), (129, .aload_n 0, 1, []), (130, .iconst 0, 1, []), (131, .putfield 61, 3, [7, 8]), (134, .return_, 1, [])]
def mk_cd (g : Nat) : List (Nat × Instr × Nat × List Nat) := match g with
  | 0 => mk_c0
  | 1 => mk_c1
  | 2 => mk_c2
  | 3 => mk_c3
  | 4 => mk_c4
  | 5 => mk_c5
  | 6 => mk_c6
  | 7 => mk_c7
  | _ => []
def mk_dp (g : Nat) : Nat := match g with
  | 0 => 3
  | 1 => 2
  | 2 => 4
  | 3 => 1
  | 4 => 4
  | 5 => 1
  | 6 => 1
  | 7 => 5
  | _ => 0
def mk_bc (g : Nat) : ByteArray := match g with
  | 0 => prog_2_method_1_code
  | 1 => prog_3_method_1_code
  | 2 => prog_4_method_1_code
  | 3 => prog_5_method_1_code
  | 4 => prog_6_method_1_code
  | 5 => prog_7_method_1_code
  | 6 => prog_8_method_1_code
  | 7 => prog_1_method_1_code
  | _ => ⟨#[]⟩
def mk_mx (_ : Nat) : Nat := 1
def mk_y (g : Nat) : MethodName := ⟨mj_cs_ g, "<init>", "()V"⟩
def mk_FL : List (Nat × Nat × Nat × Nat) := [(7, 10, 7, 0), (7, 16, 7, 1), (7, 22, 7, 2), (7, 29, 7, 3), (7, 36, 7, 4), (7, 43, 7, 5), (7, 50, 7, 6), (7, 57, 7, 7), (7, 61, 7, 8), (0, 10, 0, 0), (1, 9, 1, 0), (1, 15, 1, 1), (1, 19, 1, 2), (1, 22, 1, 3), (1, 27, 1, 4), (1, 30, 1, 5), (1, 33, 1, 6), (1, 36, 1, 7), (1, 39, 1, 8), (1, 42, 1, 9), (1, 45, 1, 10), (1, 51, 1, 11), (1, 55, 1, 12), (1, 58, 1, 13), (2, 14, 2, 0), (2, 18, 2, 1), (2, 22, 2, 2), (2, 28, 2, 3), (2, 31, 2, 4), (2, 34, 2, 5), (2, 37, 2, 6), (2, 40, 2, 7), (2, 43, 2, 8), (2, 46, 2, 9), (3, 9, 3, 0), (3, 15, 3, 1), (3, 19, 3, 2), (3, 23, 3, 3), (4, 12, 4, 0), (4, 20, 4, 1), (4, 23, 4, 2), (4, 26, 4, 3), (5, 9, 5, 0), (5, 15, 5, 1), (6, 9, 6, 0), (6, 15, 6, 1), (6, 18, 6, 2)]
theorem mk_FL_ok : ∀ w ∈ mk_FL.map mj_wf, w ∈ mj_WA := mj_of [230, 231, 232, 233, 234, 235, 236, 237, 238, 125, 54, 56, 58, 60, 62, 65, 67, 69, 72, 75, 78, 80, 83, 86, 163, 164, 165, 166, 167, 168, 169, 170, 171, 172, 217, 218, 219, 220, 140, 141, 142, 143, 200, 201, 41, 42, 43] (by decide +kernel) (by decide +kernel)
def mk_CL : List (Nat × Nat × String) := [(7, 7, "CloudStrings$Land"), (7, 19, "CloudStrings$Forecast"), (7, 26, "CloudStrings$Supply"), (7, 33, "CloudStrings$Laying"), (7, 40, "CloudStrings$Tape"), (7, 47, "CloudStrings$Winds"), (7, 54, "CloudStrings$Sheet"), (0, 7, "CloudStrings$Land"), (1, 25, "[[I"), (1, 48, "CloudStrings$Winds"), (2, 11, "CloudStrings$Forecast"), (2, 26, "[[I"), (4, 9, "CloudStrings$Forecast"), (4, 18, "[[I")]
theorem mk_CL_ok : ∀ w ∈ mk_CL.map (fun e => Cond.classLink (mj_cs_ e.1) e.2.1 e.2.2), w ∈ mj_WA := mj_of [27, 117, 131, 154, 194, 208, 210, 123, 33, 35, 160, 162, 137, 139] (by decide +kernel) (by decide +kernel)
theorem mk_IN_ok : ∀ w ∈ (List.range 8).map (fun g => Cond.instantiable (mj_cs_ g) (mj_cl.getD g ("", mj_T0, 0)).2.2), w ∈ mj_WA := mj_of [118, 28, 155, 212, 132, 195, 36, 20] (by decide +kernel) (by decide +kernel)
theorem mk_IT_ok : ∀ w ∈ (List.range 8).map (fun g => Cond.initialized (mj_cs_ g)), w ∈ mj_WA := mj_of [11, 9, 13, 15, 12, 14, 10, 8] (by decide +kernel) (by decide +kernel)
theorem mk_IM_ok : ∀ w ∈ (List.range 8).map (fun g => Cond.instanceMethod (mk_y g)), w ∈ mj_WA := mj_of [120, 30, 157, 214, 134, 197, 38, 22] (by decide +kernel) (by decide +kernel)
set_option maxRecDepth 100000 in
theorem mk_cw0 : Cond.code (mk_y 0) (mk_bc 0) (mk_mx 0) none ∈ mj_WA := List.mem_filter.mpr ⟨List.mem_of_getElem? (i := 121) rfl, rfl⟩
set_option maxRecDepth 100000 in
theorem mk_cw1 : Cond.code (mk_y 1) (mk_bc 1) (mk_mx 1) none ∈ mj_WA := List.mem_filter.mpr ⟨List.mem_of_getElem? (i := 31) rfl, rfl⟩
set_option maxRecDepth 100000 in
theorem mk_cw2 : Cond.code (mk_y 2) (mk_bc 2) (mk_mx 2) none ∈ mj_WA := List.mem_filter.mpr ⟨List.mem_of_getElem? (i := 158) rfl, rfl⟩
set_option maxRecDepth 100000 in
theorem mk_cw3 : Cond.code (mk_y 3) (mk_bc 3) (mk_mx 3) none ∈ mj_WA := List.mem_filter.mpr ⟨List.mem_of_getElem? (i := 215) rfl, rfl⟩
set_option maxRecDepth 100000 in
theorem mk_cw4 : Cond.code (mk_y 4) (mk_bc 4) (mk_mx 4) none ∈ mj_WA := List.mem_filter.mpr ⟨List.mem_of_getElem? (i := 135) rfl, rfl⟩
set_option maxRecDepth 100000 in
theorem mk_cw5 : Cond.code (mk_y 5) (mk_bc 5) (mk_mx 5) none ∈ mj_WA := List.mem_filter.mpr ⟨List.mem_of_getElem? (i := 198) rfl, rfl⟩
set_option maxRecDepth 100000 in
theorem mk_cw6 : Cond.code (mk_y 6) (mk_bc 6) (mk_mx 6) none ∈ mj_WA := List.mem_filter.mpr ⟨List.mem_of_getElem? (i := 39) rfl, rfl⟩
set_option maxRecDepth 100000 in
theorem mk_cw7 : Cond.code (mk_y 7) (mk_bc 7) (mk_mx 7) none ∈ mj_WA := List.mem_filter.mpr ⟨List.mem_of_getElem? (i := 23) rfl, rfl⟩
def mk_OL : List (Nat × Nat) := [(0, 1), (1, 3), (2, 5), (3, 3), (4, 3), (5, 3), (6, 3), (7, 1)]
theorem mk_OL_ok : ∀ w ∈ mk_OL.map (fun e => Cond.methodLink (mj_cs_ e.1) e.2 objectInit), w ∈ mj_WA := mj_of [122, 32, 159, 216, 136, 199, 40, 24] (by decide +kernel) (by decide +kernel)
theorem mk_OB_ok : ∀ w ∈ [Cond.instanceMethod objectInit, Cond.arrayClass .int], w ∈ mj_WA := mj_of [25, 53] (by decide +kernel) (by decide +kernel)
set_option maxRecDepth 100000 in
theorem mk_OC_ok : Cond.code objectInit ⟨#[0xb1]⟩ 1 none ∈ mj_WA := List.mem_filter.mpr ⟨List.mem_of_getElem? (i := 26) rfl, rfl⟩
/-- links of private constructors: whose file, its place there, the class -/
def mk_NL : List (Nat × Nat × Nat) := [(0, 9, 1), (1, 50, 6), (2, 13, 0), (4, 11, 0), (7, 9, 1), (7, 21, 0), (7, 28, 4), (7, 35, 2), (7, 42, 5), (7, 49, 6), (7, 56, 3)]
def mk_wN (e : Nat × Nat × Nat) : Cond := .methodLinkNest (mj_cs_ e.1) e.2.1 (mk_y e.2.2) "CloudStrings"
theorem mk_NL_ok : ∀ w ∈ mk_NL.map mk_wN, w ∈ lw_tbl := by
  intro w hw
  have h : mk_NL.map mk_wN = [124, 37, 161, 138, 29, 119, 133, 156, 196, 209, 213].filterMap (fun i => lw_tbl[i]?) := by decide +kernel
  rw [h] at hw
  obtain ⟨i, -, hi⟩ := List.mem_filterMap.mp hw
  exact List.mem_of_getElem? hi
def mk_at (h : List mk_C) (i : Nat) : mk_C := h.getD i (9, 0, [])
def mk_set (h : List mk_C) (i j : Nat) (v : mk_V) : List mk_C := h.set i ((mk_at h i).1, (mk_at h i).2.1, (mk_at h i).2.2.set j v)
/-- may the field of this type hold the value -/
def mk_okv (ty : Option FieldType) (v : mk_V) : Bool := match ty, v with
  | some .int, .inl _ => true
  | some .boolean, .inl x => x == 0
  | some (.object _), .inr (some _) => true
  | some (.array _), .inr (some _) => true
  | _, _ => false
def mk_fty (ci k : Nat) : Option FieldType := parseFieldDescriptor (mj_TT ci k).2.2.1
/-- what is there behind n steps: none if it is not through -/
def mk_go : Nat → Nat → Nat → List (Option mk_V) → List mk_V → List mk_C → Option (List mk_C)
  | 0, _, _, _, _, _ => none
  | n + 1, g, pc, ls, st, h => match (mk_cd g).lookup pc with
    | none => none
    | some (i, len, a) => match i with
      | .aload_n k => match ls[k.val]? with
        | some (some (.inr (some r))) => mk_go n g (pc + len) ls (.inr (some r) :: st) h
        | _ => none
      | .iload_n k => match ls[k.val]? with
        | some (some (.inl x)) => mk_go n g (pc + len) ls (.inl x :: st) h
        | _ => none
      | .istore_n k => match st with
        | .inl x :: st => if k.val < ls.length then mk_go n g (pc + len) (ls.set k.val (some (.inl x))) st h else none
        | _ => none
      | .iinc k c => match ls[k]? with
        | some (some (.inl x)) => mk_go n g (pc + len) (ls.set k (some (.inl (x + Int32.ofInt c)))) st h
        | _ => none
      | .iconst c => mk_go n g (pc + len) ls (.inl (Int32.ofInt c) :: st) h
      | .bipush c => mk_go n g (pc + len) ls (.inl (Int8.ofInt c).toInt32 :: st) h
      | .dup => match st with
        | .inr (some r) :: st => mk_go n g (pc + len) ls (.inr (some r) :: .inr (some r) :: st) h
        | _ => none
      | .goto off => mk_go n g ((pc : Int) + off).toNat ls st h
      | .if_icmp .ge off => match st with
        | .inl y :: .inl x :: st => if y ≤ x then mk_go n g ((pc : Int) + off).toNat ls st h else mk_go n g (pc + len) ls st h
        | _ => none
      | .new _ => match a with
        | [ci] => if ci < 8 then mk_go n g (pc + len) ls (.inr (some h.length) :: st) (h ++ [(0, ci, mk_df.getD ci [])]) else none
        | _ => none
      | .newarray .int => match st with
        | .inl x :: st => if ¬ x < 0 ∧ x.toNatClampNeg ≤ 1000 then mk_go n g (pc + len) ls (.inr (some h.length) :: st) (h ++ [(1, 0, List.replicate x.toNatClampNeg (.inl 0))]) else none
        | _ => none
      | .multianewarray _ 2 => match st with
        | .inl k :: .inl m :: st => if ¬ m < 0 ∧ ¬ k < 0 ∧ m.toNatClampNeg ≤ 1000 ∧ k.toNatClampNeg ≤ 1000 then mk_go n g (pc + len) ls (.inr (some h.length) :: st) (h ++ ((2, 0, (List.range m.toNatClampNeg).map (fun i => .inr (some (h.length + 1 + i)))) :: List.replicate m.toNatClampNeg (1, 0, List.replicate k.toNatClampNeg (.inl 0)))) else none
        | _ => none
      | .anewarray _ => match st with
        | .inl x :: st => if ¬ x < 0 ∧ x.toNatClampNeg ≤ 1000 then mk_go n g (pc + len) ls (.inr (some h.length) :: st) (h ++ [(3, 0, List.replicate x.toNatClampNeg (.inr none))]) else none
        | _ => none
      | .putfield _ => match st, a with
        | v :: .inr (some r) :: st, [ci, k] => if r < h.length ∧ (mk_at h r).1 = 0 ∧ (mk_at h r).2.1 = ci ∧ k < (mk_at h r).2.2.length ∧ mk_okv (mk_fty ci k) v = true then mk_go n g (pc + len) ls st (mk_set h r k v) else none
        | _, _ => none
      | .getfield _ => match st, a with
        | .inr (some r) :: st, [ci, k] => if r < h.length ∧ (mk_at h r).1 = 0 ∧ (mk_at h r).2.1 = ci then (match (mk_at h r).2.2[k]? with
          | some (.inr (some z)) => mk_go n g (pc + len) ls (.inr (some z) :: st) h
          | _ => none) else none
        | _, _ => none
      | .aastore => match st with
        | .inr (some v) :: .inl j :: .inr (some r) :: st => if r < h.length ∧ v < h.length ∧ (mk_at h r).1 = 3 ∧ (mk_at h v).1 = 0 ∧ (mk_at h v).2.1 = 3 ∧ ¬ j < 0 ∧ j.toNatClampNeg < (mk_at h r).2.2.length then mk_go n g (pc + len) ls st (mk_set h r j.toNatClampNeg (.inr (some v))) else none
        | _ => none
      | .iastore => match st with
        | .inl v :: .inl j :: .inr (some r) :: st => if r < h.length ∧ (mk_at h r).1 = 1 ∧ ¬ j < 0 ∧ j.toNatClampNeg < (mk_at h r).2.2.length then mk_go n g (pc + len) ls st (mk_set h r j.toNatClampNeg (.inl v)) else none
        | _ => none
      | .invokespecial _ => match a, st with
        | [], .inr (some _) :: st => if st.length ≤ 8 then mk_go n g (pc + len) ls st h else none
        | [g'], .inr (some r) :: st => if r < h.length ∧ (mk_at h r).1 = 0 ∧ (mk_at h r).2.1 = g' ∧ g' < 8 ∧ mk_dp g' < mk_dp g ∧ st.length ≤ 8 then (match mk_go n g' 0 (some (.inr (some r)) :: List.replicate (mk_mx g' - 1) none) [] h with
          | some h' => mk_go n g (pc + len) ls st h'
          | none => none) else none
        | _, _ => none
      | .return_ => match st with
        | [] => some h
        | _ => none
      | _ => none
/-- the rows against the bytes, and against the links -/
def mk_ct (g : Nat) (x : Nat × Instr × Nat × List Nat) : Bool := (match decode (mk_bc g) x.1 with
  | .ok (i, n) => decide (i = x.2.1) && n == x.2.2.1
  | _ => false) && match x.2.1 with
  | .aload_n _ => x.2.2.1 == 1
  | .iload_n _ => x.2.2.1 == 1
  | .istore_n _ => x.2.2.1 == 1
  | .iinc _ _ => x.2.2.1 == 3
  | .iconst _ => x.2.2.1 == 1
  | .bipush _ => x.2.2.1 == 2
  | .dup => x.2.2.1 == 1
  | .goto off => x.2.2.1 == 3 && decide (0 ≤ (x.1 : Int) + off)
  | .if_icmp .ge off => x.2.2.1 == 3 && decide (0 ≤ (x.1 : Int) + off)
  | .new i => x.2.2.1 == 3 && mk_CL.contains (g, i, mj_cs_ (x.2.2.2.getD 0 99))
  | .newarray _ => x.2.2.1 == 2
  | .multianewarray i _ => x.2.2.1 == 4 && mk_CL.contains (g, i, "[[I")
  | .anewarray i => x.2.2.1 == 3 && mk_CL.contains (g, i, "CloudStrings$Sheet")
  | .putfield i => x.2.2.1 == 3 && mk_FL.contains (g, i, x.2.2.2.getD 0 99, x.2.2.2.getD 1 99) && mj_cs_ (x.2.2.2.getD 0 99) == mj_cs_ g && Nat.blt (x.2.2.2.getD 1 99) (mj_cl.getD (x.2.2.2.getD 0 99) ("", mj_T0, 0)).2.2
  | .getfield i => x.2.2.1 == 3 && mk_FL.contains (g, i, x.2.2.2.getD 0 99, x.2.2.2.getD 1 99) && Nat.blt (x.2.2.2.getD 1 99) (mj_cl.getD (x.2.2.2.getD 0 99) ("", mj_T0, 0)).2.2
  | .aastore => x.2.2.1 == 1
  | .iastore => x.2.2.1 == 1
  | .invokespecial i => x.2.2.1 == 3 && (match x.2.2.2 with
    | [] => mk_OL.contains (g, i)
    | [g'] => mk_NL.contains (g, i, g')
    | _ => false)
  | .return_ => x.2.2.1 == 1
  | _ => false
def mk_cm (g : Nat) : Bool := (mk_cd g).all (mk_ct g)

/-- where each cell of mj_ids is among those made -/
def mk_ps : List Nat := [1, 2, 3, 4, 5, 6, 7, 8, 9, 10, 11, 12, 13, 14, 15, 16, 17, 18, 19, 20, 21, 22, 23, 24, 25, 26, 27, 28, 29, 30, 31, 32, 33, 34, 35, 36, 37, 38, 40, 41, 42, 43, 44, 45, 46, 47, 48, 49, 50, 51, 52, 53, 54, 55, 56, 57, 58, 61, 62, 63, 64, 65, 66, 67, 68, 69, 70, 71, 72, 73, 74, 75, 76, 77, 78, 79, 98, 99, 100, 101, 102, 103, 104, 105, 106, 107, 108, 109, 110, 111, 112, 113, 114, 115, 116, 146, 147, 148, 39, 60, 97, 59, 80, 81, 82, 83, 84, 85, 86, 87, 88, 89, 90, 91, 92, 93, 94, 95, 96, 117, 118, 119, 120, 121, 122, 123, 124, 125, 126, 127, 128, 129, 130, 131, 132, 133, 134, 135, 136, 137, 138, 139, 140, 141, 142, 143, 144, 145, 149, 150, 152, 154, 156, 151, 153, 155, 157, 0, 158]
def mk_n1 : Nat := 158
def mk_pos (q : mj_Id) : Nat := ((mj_ids.zip mk_ps).lookup q).getD 0
def mk_h0 : List mk_C := [(0, 7, mk_df.getD 7 [])]
def mk_h1 : List mk_C := (mk_go 200 7 0 [some (.inr (some 0))] [] mk_h0).getD []
theorem mk_h1_ok : mk_go 200 7 0 [some (.inr (some 0))] [] mk_h0 = some mk_h1 := by
  have h : (mk_go 200 7 0 [some (.inr (some 0))] [] mk_h0).isSome = true := by decide +kernel
  unfold mk_h1
  cases e : mk_go 200 7 0 [some (.inr (some 0))] [] mk_h0 with
  | none => rw [e] at h; cases h
  | some x => rfl
theorem mk_h1_len : mk_h1.length = mk_n1 := by decide +kernel
def mk_h2 : List mk_C := mk_h1 ++ [(1, 0, List.replicate 55 (.inl 0))]
/-- the numbers at the start: all 0, but a draw of 1 -/
def mk_M0 : mj_M := fun i t c j => if t = 0 ∧ c = 0 ∧ j = 3 ∧ i < 5 then 1 else 0
/-- the cell made at q's place is q's cell over these numbers -/
def mk_is (q : mj_Id) : Bool := let c := mk_at mk_h2 (mk_pos q)
  Nat.blt (mk_pos q) mk_h2.length && if mj_kind q.2.1 = 0 then c.1 == 0 && c.2.1 == mj_ci q.2.1 && c.2.2.length == mj_nf q.2.1 && (List.range (mj_nf q.2.1)).all (fun k => match mj_fd q k, c.2.2[k]? with
    | some (.inl l), some (.inl x) => decide (mk_M0 l.1 l.2.1 l.2.2.1 l.2.2.2 = x)
    | some (.inr q'), some (.inr (some z)) => mk_pos q' == z
    | _, _ => false)
  else if mj_kind q.2.1 = 1 then c.1 == 1 && c.2.2.length == mj_ln q && (List.range (mj_ln q)).all (fun j => match c.2.2[j]? with
    | some (.inl x) => decide (mj_rd mk_M0 q j = x)
    | _ => false)
  else c.1 == mj_kind q.2.1 && c.2.2.length == mj_ol q && (List.range (mj_ol q)).all (fun j => match mj_el q j, c.2.2[j]? with
    | some q', some (.inr (some z)) => mk_pos q' == z
    | _, _ => false)
theorem mk_is_ok : mj_ids.all mk_is = true := by decide +kernel
theorem mk_pos_nd : (mj_ids.map mk_pos).Nodup := by decide +kernel

theorem mk_ck0 : mk_cm 0 = true := by decide +kernel
theorem mk_ck1 : mk_cm 1 = true := by decide +kernel
theorem mk_ck2 : mk_cm 2 = true := by decide +kernel
theorem mk_ck3 : mk_cm 3 = true := by decide +kernel
theorem mk_ck4 : mk_cm 4 = true := by decide +kernel
theorem mk_ck5 : mk_cm 5 = true := by decide +kernel
theorem mk_ck6 : mk_cm 6 = true := by decide +kernel
theorem mk_ck7 : mk_cm 7 = true := by decide +kernel
