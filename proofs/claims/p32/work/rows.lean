section
/-- a private method of a class that the tables say can be made, by its rows of tables_1 -/
def lw_okq (q : MethodName × Nat) : Prop := (q.1.cls ≠ "java/lang/invoke/MethodHandle" ∧ q.1.cls ≠ "java/lang/invoke/VarHandle") ∧ Cond.instantiable q.1.cls q.2 ∈ tables_1 ∧ Cond.privateMethod q.1 ∈ tables_1 ∧ Cond.instanceMethod q.1 ∈ tables_1
theorem lw_p0 : lw_okq (⟨"CloudStrings$Land", "pullerOf", "(I)I"⟩, 14) := ⟨⟨by decide +kernel, by decide +kernel⟩, List.mem_of_getElem? (i := 21) (by decide +kernel), List.mem_of_getElem? (i := 366) (by decide +kernel), List.mem_of_getElem? (i := 367) (by decide +kernel)⟩
theorem lw_p1 : lw_okq (⟨"CloudStrings$Land", "loseStrings", "(I)V"⟩, 14) := ⟨⟨by decide +kernel, by decide +kernel⟩, List.mem_of_getElem? (i := 21) (by decide +kernel), List.mem_of_getElem? (i := 376) (by decide +kernel), List.mem_of_getElem? (i := 377) (by decide +kernel)⟩
theorem lw_p2 : lw_okq (⟨"CloudStrings$Supply", "learnGains", "(LCloudStrings$Land;III)V"⟩, 4) := ⟨⟨by decide +kernel, by decide +kernel⟩, List.mem_of_getElem? (i := 125) (by decide +kernel), List.mem_of_getElem? (i := 447) (by decide +kernel), List.mem_of_getElem? (i := 448) (by decide +kernel)⟩
theorem lw_p3 : lw_okq (⟨"CloudStrings$Supply", "gainBy", "(LCloudStrings$Land;IIII)I"⟩, 4) := ⟨⟨by decide +kernel, by decide +kernel⟩, List.mem_of_getElem? (i := 125) (by decide +kernel), List.mem_of_getElem? (i := 453) (by decide +kernel), List.mem_of_getElem? (i := 454) (by decide +kernel)⟩
theorem lw_p4 : lw_okq (⟨"CloudStrings$Supply", "learnMost", "(I)V"⟩, 4) := ⟨⟨by decide +kernel, by decide +kernel⟩, List.mem_of_getElem? (i := 125) (by decide +kernel), List.mem_of_getElem? (i := 460) (by decide +kernel), List.mem_of_getElem? (i := 461) (by decide +kernel)⟩
theorem lw_p5 : lw_okq (⟨"CloudStrings$Supply", "layFirstRow", "(II)V"⟩, 4) := ⟨⟨by decide +kernel, by decide +kernel⟩, List.mem_of_getElem? (i := 125) (by decide +kernel), List.mem_of_getElem? (i := 467) (by decide +kernel), List.mem_of_getElem? (i := 468) (by decide +kernel)⟩
theorem lw_p6 : lw_okq (⟨"CloudStrings$Supply", "fewestOn", "(III)I"⟩, 4) := ⟨⟨by decide +kernel, by decide +kernel⟩, List.mem_of_getElem? (i := 125) (by decide +kernel), List.mem_of_getElem? (i := 471) (by decide +kernel), List.mem_of_getElem? (i := 472) (by decide +kernel)⟩
def lw_privs_1 : List (MethodName × Nat) := [(⟨"CloudStrings$Land", "pullerOf", "(I)I"⟩, 14), (⟨"CloudStrings$Land", "loseStrings", "(I)V"⟩, 14), (⟨"CloudStrings$Supply", "learnGains", "(LCloudStrings$Land;III)V"⟩, 4), (⟨"CloudStrings$Supply", "gainBy", "(LCloudStrings$Land;IIII)I"⟩, 4), (⟨"CloudStrings$Supply", "learnMost", "(I)V"⟩, 4), (⟨"CloudStrings$Supply", "layFirstRow", "(II)V"⟩, 4), (⟨"CloudStrings$Supply", "fewestOn", "(III)I"⟩, 4)]
theorem lw_r1 : ∀ q ∈ lw_privs_1, lw_okq q := List.forall_mem_cons.mpr ⟨lw_p0, List.forall_mem_cons.mpr ⟨lw_p1, List.forall_mem_cons.mpr ⟨lw_p2, List.forall_mem_cons.mpr ⟨lw_p3, List.forall_mem_cons.mpr ⟨lw_p4, List.forall_mem_cons.mpr ⟨lw_p5, List.forall_mem_cons.mpr ⟨lw_p6, fun _ h => absurd h List.not_mem_nil⟩⟩⟩⟩⟩⟩⟩
def lw_privs : List (MethodName × Nat) := lw_privs_1
def lw_tbl : List Cond := k2_sels lw_privs ++ tables_1
theorem lw_privs_ok : ∀ q ∈ lw_privs, lw_okq q := lw_r1

/-- the names of the classes, by number: those of the worlds, the law, the JDK's -/
def mj_cn : List String := ["CloudStrings$Forecast", "CloudStrings$Land", "CloudStrings$Laying", "CloudStrings$Sheet", "CloudStrings$Supply", "CloudStrings$Tape", "CloudStrings$Winds", "CloudStrings", "CloudStringsLaw", "java/util/Arrays", "java/lang/Math"]
def mj_T0 : u_T := fun k => match k with
  | _ => ("CloudStrings$Forecast", "trial", "LCloudStrings$Land;", true)
def mj_T1 : u_T := fun k => match k with
  | 0 => ("CloudStrings$Land", "clouds", "I", false)
  | 1 => ("CloudStrings$Land", "kind", "[I", true)
  | 2 => ("CloudStrings$Land", "field", "[I", true)
  | 3 => ("CloudStrings$Land", "water", "[I", true)
  | 4 => ("CloudStrings$Land", "strings", "[[I", true)
  | 5 => ("CloudStrings$Land", "villages", "I", false)
  | 6 => ("CloudStrings$Land", "home", "[I", true)
  | 7 => ("CloudStrings$Land", "string", "[I", true)
  | 8 => ("CloudStrings$Land", "thirst", "[I", true)
  | 9 => ("CloudStrings$Land", "wetness", "[I", true)
  | 10 => ("CloudStrings$Land", "fallenOn", "[I", true)
  | 11 => ("CloudStrings$Land", "winds", "LCloudStrings$Winds;", true)
  | 12 => ("CloudStrings$Land", "hour", "I", false)
  | _ => ("CloudStrings$Land", "draw", "I", false)
def mj_T2 : u_T := fun k => match k with
  | 0 => ("CloudStrings$Laying", "forecast", "LCloudStrings$Forecast;", true)
  | 1 => ("CloudStrings$Laying", "open", "[I", true)
  | 2 => ("CloudStrings$Laying", "opens", "I", false)
  | 3 => ("CloudStrings$Laying", "gains", "[[I", true)
  | 4 => ("CloudStrings$Laying", "layersOn", "[I", true)
  | 5 => ("CloudStrings$Laying", "choice", "[I", true)
  | 6 => ("CloudStrings$Laying", "gainOfFirst", "[[I", true)
  | 7 => ("CloudStrings$Laying", "gainOfSecond", "[[I", true)
  | 8 => ("CloudStrings$Laying", "found", "I", false)
  | _ => ("CloudStrings$Laying", "first", "[I", true)
def mj_T3 : u_T := fun k => match k with
  | 0 => ("CloudStrings$Sheet", "items", "[I", true)
  | 1 => ("CloudStrings$Sheet", "isThere", "Z", false)
  | 2 => ("CloudStrings$Sheet", "lane", "I", false)
  | _ => ("CloudStrings$Sheet", "length", "I", false)
def mj_T4 : u_T := fun k => match k with
  | 0 => ("CloudStrings$Supply", "forecast", "LCloudStrings$Forecast;", true)
  | 1 => ("CloudStrings$Supply", "gains", "[[I", true)
  | 2 => ("CloudStrings$Supply", "most", "[[I", true)
  | _ => ("CloudStrings$Supply", "row", "[I", true)
def mj_T5 : u_T := fun k => match k with
  | 0 => ("CloudStrings$Tape", "signs", "[I", true)
  | _ => ("CloudStrings$Tape", "length", "I", false)
def mj_T6 : u_T := fun k => match k with
  | 0 => ("CloudStrings$Winds", "sides", "[I", true)
  | 1 => ("CloudStrings$Winds", "forces", "[I", true)
  | _ => ("CloudStrings$Winds", "length", "I", false)
def mj_T7 : u_T := fun k => match k with
  | 0 => ("CloudStrings", "now", "LCloudStrings$Land;", true)
  | 1 => ("CloudStrings", "kept", "LCloudStrings$Land;", true)
  | 2 => ("CloudStrings", "forecast", "LCloudStrings$Forecast;", true)
  | 3 => ("CloudStrings", "supply", "LCloudStrings$Supply;", true)
  | 4 => ("CloudStrings", "laying", "LCloudStrings$Laying;", true)
  | 5 => ("CloudStrings", "tape", "LCloudStrings$Tape;", true)
  | 6 => ("CloudStrings", "read", "LCloudStrings$Winds;", true)
  | 7 => ("CloudStrings", "sheets", "[LCloudStrings$Sheet;", true)
  | _ => ("CloudStrings", "hasImage", "Z", false)
abbrev mj_cl : List vw_C := [("CloudStrings$Forecast", mj_T0, 1), ("CloudStrings$Land", mj_T1, 14), ("CloudStrings$Laying", mj_T2, 10), ("CloudStrings$Sheet", mj_T3, 4), ("CloudStrings$Supply", mj_T4, 4), ("CloudStrings$Tape", mj_T5, 2), ("CloudStrings$Winds", mj_T6, 3), ("CloudStrings", mj_T7, 9)]
/-- methods: class, name, descriptor, code, locals, answer, static -/
abbrev mj_mT : Type := Nat × String × String × ByteArray × Nat × Option FieldType × Bool
def mj_mt : List mj_mT := [(7, "cloud", "(III)I", prog_1_method_2_code, 4, some .int, false),
  (7, "village", "(III)I", prog_1_method_3_code, 4, some .int, false),
  (7, "told", "(II)I", prog_1_method_4_code, 3, some .int, false),
  (7, "of", "(II)I", prog_1_method_5_code, 3, some .int, false),
  (7, "set", "(III)I", prog_1_method_6_code, 5, some .int, false),
  (7, "hold", "(III)I", prog_1_method_7_code, 5, some .int, false),
  (7, "holds", "(II)I", prog_1_method_8_code, 3, some .int, false),
  (7, "join", "(II)I", prog_1_method_9_code, 3, some .int, false),
  (7, "split", "(II)I", prog_1_method_10_code, 3, some .int, false),
  (7, "salt", "(I)I", prog_1_method_11_code, 3, some .int, false),
  (7, "type", "(JI)I", prog_1_method_12_code, 5, some .int, false),
  (7, "winds", "()I", prog_1_method_13_code, 2, some .int, false),
  (7, "fallen", "(I)I", prog_1_method_14_code, 2, some .int, false),
  (7, "count", "(I)I", prog_1_method_15_code, 2, some .int, false),
  (7, "pass", "(I)I", prog_1_method_16_code, 4, some .int, false),
  (7, "drawn", "(I)I", prog_1_method_17_code, 5, some .int, false),
  (7, "seed", "(I)I", prog_1_method_18_code, 3, some .int, false),
  (7, "where", "(III)I", prog_1_method_20_code, 4, some .int, false),
  (7, "fewest", "(III)I", prog_1_method_21_code, 5, some .int, false),
  (7, "image", "()I", prog_1_method_23_code, 1, some .int, false),
  (7, "restore", "()I", prog_1_method_24_code, 1, some .int, false),
  (7, "isOutside", "(III)Z", prog_1_method_31_code, 3, some .boolean, true),
  (7, "byteOf", "(JI)I", prog_1_method_33_code, 3, some .int, true),
  (7, "sumOf", "([I)I", prog_1_method_34_code, 6, some .int, true),
  (0, "start", "(LCloudStrings$Land;)V", prog_2_method_2_code, 2, none, false),
  (0, "follow", "(II)V", prog_2_method_3_code, 5, none, false),
  (1, "takeAll", "(LCloudStrings$Land;)V", prog_3_method_2_code, 3, none, false),
  (1, "takeCloud", "(LCloudStrings$Land;I)V", prog_3_method_3_code, 3, none, false),
  (1, "isCloud", "(I)Z", prog_3_method_4_code, 2, some .boolean, false),
  (1, "isOver", "(I)Z", prog_3_method_5_code, 2, some .boolean, false),
  (1, "isVillage", "(I)Z", prog_3_method_6_code, 2, some .boolean, false),
  (1, "villageIn", "(I)I", prog_3_method_7_code, 3, some .int, false),
  (1, "addCloud", "(III)I", prog_3_method_8_code, 5, some .int, false),
  (1, "addVillage", "(III)I", prog_3_method_9_code, 5, some .int, false),
  (1, "stringsOn", "(I)I", prog_3_method_10_code, 2, some .int, false),
  (1, "tiedBy", "(I)I", prog_3_method_11_code, 4, some .int, false),
  (1, "cloudsOver", "()I", prog_3_method_12_code, 3, some .int, false),
  (1, "waterWhere", "(Z)I", prog_3_method_13_code, 4, some .int, false),
  (1, "joinClouds", "(II)V", prog_3_method_14_code, 4, none, false),
  (1, "drawWind", "()I", prog_3_method_15_code, 1, some .int, false),
  (1, "passHour", "(II)I", prog_3_method_16_code, 5, some .int, false),
  (1, "move", "(III)V", prog_3_method_17_code, 8, none, false),
  (1, "rain", "(I)I", prog_3_method_18_code, 4, some .int, false),
  (1, "pullerOf", "(I)I", prog_3_method_19_code, 4, some .int, false),
  (1, "loseStrings", "(I)V", prog_3_method_20_code, 3, none, false),
  (1, "towards", "(II)I", prog_3_method_21_code, 4, some .int, true),
  (1, "besides", "(II)I", prog_3_method_22_code, 4, some .int, true),
  (4, "plan", "(LCloudStrings$Land;II)I", prog_6_method_2_code, 7, some .int, false),
  (4, "learnGains", "(LCloudStrings$Land;III)V", prog_6_method_3_code, 8, none, false),
  (4, "gainBy", "(LCloudStrings$Land;IIII)I", prog_6_method_4_code, 7, some .int, false),
  (4, "learnMost", "(I)V", prog_6_method_5_code, 5, none, false),
  (4, "layFirstRow", "(II)V", prog_6_method_6_code, 7, none, false),
  (4, "fewestOn", "(III)I", prog_6_method_7_code, 5, some .int, false),
  (5, "add", "(I)V", prog_7_method_2_code, 2, none, false),
  (5, "readInto", "(LCloudStrings$Winds;)I", prog_7_method_3_code, 6, some .int, false),
  (5, "canStand", "(III)Z", prog_7_method_4_code, 3, some .boolean, true),
  (5, "sideOf", "(I)I", prog_7_method_5_code, 1, some .int, true),
  (6, "add", "(II)V", prog_8_method_2_code, 3, none, false),
  (6, "sideIn", "(I)I", prog_8_method_3_code, 2, some .int, false),
  (6, "forceIn", "(I)I", prog_8_method_4_code, 2, some .int, false),
  (6, "takeAll", "(LCloudStrings$Winds;)V", prog_8_method_5_code, 2, none, false),
  (9, "fill", "([II)V", prog_13_method_103_code, 4, none, true),
  (8, "cell", "([II)I", method_2_code, 2, some .int, true),
  (8, "clouds", "([I)I", method_3_code, 1, some .int, true),
  (8, "villages", "([I)I", method_4_code, 1, some .int, true),
  (8, "winds", "([I)I", method_5_code, 1, some .int, true),
  (8, "wind", "([II)I", method_6_code, 2, some .int, true),
  (8, "thirst", "([II)I", method_7_code, 2, some .int, true),
  (8, "lays", "(LCloudStrings;[I[I)Z", method_8_code, 9, some .boolean, true),
  (8, "apart", "(II)I", method_10_code, 4, some .int, true)]
def mj_m (f : Nat) : mj_mT := mj_mt.getD f (0, "", "", ⟨#[]⟩, 0, none, false)
def mj_cs_ (i : Nat) : String := mj_cn.getD i ""
def mj_yy (x : mj_mT) : MethodName := ⟨mj_cs_ x.1, x.2.1, x.2.2.1⟩
def mj_y (f : Nat) : MethodName := mj_yy (mj_m f)
def mj_bc (f : Nat) : ByteArray := (mj_m f).2.2.2.1
def mj_mx (f : Nat) : Nat := (mj_m f).2.2.2.2.1
def mj_rt (f : Nat) : Option FieldType := (mj_m f).2.2.2.2.2.1
def mj_stc (f : Nat) : Bool := (mj_m f).2.2.2.2.2.2
def mj_wc (x : mj_mT) : Cond := .code (mj_yy x) x.2.2.2.1 x.2.2.2.2.1 x.2.2.2.2.2.1
def mj_wi (x : mj_mT) : Cond := if x.2.2.2.2.2.2 then .static (mj_yy x) else .instanceMethod (mj_yy x)
def mj_wv (x : mj_mT) : Cond := if x.2.2.2.2.2.2 then .static (mj_yy x) else .selects (mj_cs_ x.1) (mj_yy x) (mj_yy x)
def mj_wn (x : mj_mT) : Cond := .initialized (mj_cs_ x.1)
/-- the words that every method is given -/
def mj_WA : List Cond := lw_tbl.filter goodWord
theorem mj_of {xs : List Cond} (ps : List Nat) (h : xs = ps.filterMap (fun i => lw_tbl[i]?)) (g : xs.all goodWord = true) : ∀ w ∈ xs, w ∈ mj_WA := by
  intro w hw
  have h1 := List.all_eq_true.mp g w hw
  rw [h] at hw
  obtain ⟨i, -, hi⟩ := List.mem_filterMap.mp hw
  exact List.mem_filter.mpr ⟨List.mem_of_getElem? hi, h1⟩
set_option maxRecDepth 100000 in
theorem mj_mc0 : mj_wc (7, "cloud", "(III)I", prog_1_method_2_code, 4, some .int, false) ∈ lw_tbl := List.mem_of_getElem? (i := 552) rfl
set_option maxRecDepth 100000 in
theorem mj_mc1 : mj_wc (7, "village", "(III)I", prog_1_method_3_code, 4, some .int, false) ∈ lw_tbl := List.mem_of_getElem? (i := 556) rfl
set_option maxRecDepth 100000 in
theorem mj_mc2 : mj_wc (7, "told", "(II)I", prog_1_method_4_code, 3, some .int, false) ∈ lw_tbl := List.mem_of_getElem? (i := 261) rfl
set_option maxRecDepth 100000 in
theorem mj_mc3 : mj_wc (7, "of", "(II)I", prog_1_method_5_code, 3, some .int, false) ∈ lw_tbl := List.mem_of_getElem? (i := 276) rfl
set_option maxRecDepth 100000 in
theorem mj_mc4 : mj_wc (7, "set", "(III)I", prog_1_method_6_code, 5, some .int, false) ∈ lw_tbl := List.mem_of_getElem? (i := 288) rfl
set_option maxRecDepth 100000 in
theorem mj_mc5 : mj_wc (7, "hold", "(III)I", prog_1_method_7_code, 5, some .int, false) ∈ lw_tbl := List.mem_of_getElem? (i := 295) rfl
set_option maxRecDepth 100000 in
theorem mj_mc6 : mj_wc (7, "holds", "(II)I", prog_1_method_8_code, 3, some .int, false) ∈ lw_tbl := List.mem_of_getElem? (i := 304) rfl
set_option maxRecDepth 100000 in
theorem mj_mc7 : mj_wc (7, "join", "(II)I", prog_1_method_9_code, 3, some .int, false) ∈ lw_tbl := List.mem_of_getElem? (i := 308) rfl
set_option maxRecDepth 100000 in
theorem mj_mc8 : mj_wc (7, "split", "(II)I", prog_1_method_10_code, 3, some .int, false) ∈ lw_tbl := List.mem_of_getElem? (i := 322) rfl
set_option maxRecDepth 100000 in
theorem mj_mc9 : mj_wc (7, "salt", "(I)I", prog_1_method_11_code, 3, some .int, false) ∈ lw_tbl := List.mem_of_getElem? (i := 330) rfl
set_option maxRecDepth 100000 in
theorem mj_mc10 : mj_wc (7, "type", "(JI)I", prog_1_method_12_code, 5, some .int, false) ∈ lw_tbl := List.mem_of_getElem? (i := 517) rfl
set_option maxRecDepth 100000 in
theorem mj_mc11 : mj_wc (7, "winds", "()I", prog_1_method_13_code, 2, some .int, false) ∈ lw_tbl := List.mem_of_getElem? (i := 533) rfl
set_option maxRecDepth 100000 in
theorem mj_mc12 : mj_wc (7, "fallen", "(I)I", prog_1_method_14_code, 2, some .int, false) ∈ lw_tbl := List.mem_of_getElem? (i := 334) rfl
set_option maxRecDepth 100000 in
theorem mj_mc13 : mj_wc (7, "count", "(I)I", prog_1_method_15_code, 2, some .int, false) ∈ lw_tbl := List.mem_of_getElem? (i := 338) rfl
set_option maxRecDepth 100000 in
theorem mj_mc14 : mj_wc (7, "pass", "(I)I", prog_1_method_16_code, 4, some .int, false) ∈ lw_tbl := List.mem_of_getElem? (i := 352) rfl
set_option maxRecDepth 100000 in
theorem mj_mc15 : mj_wc (7, "drawn", "(I)I", prog_1_method_17_code, 5, some .int, false) ∈ lw_tbl := List.mem_of_getElem? (i := 399) rfl
set_option maxRecDepth 100000 in
theorem mj_mc16 : mj_wc (7, "seed", "(I)I", prog_1_method_18_code, 3, some .int, false) ∈ lw_tbl := List.mem_of_getElem? (i := 410) rfl
set_option maxRecDepth 100000 in
theorem mj_mc17 : mj_wc (7, "where", "(III)I", prog_1_method_20_code, 4, some .int, false) ∈ lw_tbl := List.mem_of_getElem? (i := 414) rfl
set_option maxRecDepth 100000 in
theorem mj_mc18 : mj_wc (7, "fewest", "(III)I", prog_1_method_21_code, 5, some .int, false) ∈ lw_tbl := List.mem_of_getElem? (i := 447) rfl
set_option maxRecDepth 100000 in
theorem mj_mc19 : mj_wc (7, "image", "()I", prog_1_method_23_code, 1, some .int, false) ∈ lw_tbl := List.mem_of_getElem? (i := 484) rfl
set_option maxRecDepth 100000 in
theorem mj_mc20 : mj_wc (7, "restore", "()I", prog_1_method_24_code, 1, some .int, false) ∈ lw_tbl := List.mem_of_getElem? (i := 489) rfl
set_option maxRecDepth 100000 in
theorem mj_mc21 : mj_wc (7, "isOutside", "(III)Z", prog_1_method_31_code, 3, some .boolean, true) ∈ lw_tbl := List.mem_of_getElem? (i := 291) rfl
set_option maxRecDepth 100000 in
theorem mj_mc22 : mj_wc (7, "byteOf", "(JI)I", prog_1_method_33_code, 3, some .int, true) ∈ lw_tbl := List.mem_of_getElem? (i := 520) rfl
set_option maxRecDepth 100000 in
theorem mj_mc23 : mj_wc (7, "sumOf", "([I)I", prog_1_method_34_code, 6, some .int, true) ∈ lw_tbl := List.mem_of_getElem? (i := 272) rfl
set_option maxRecDepth 100000 in
theorem mj_mc24 : mj_wc (0, "start", "(LCloudStrings$Land;)V", prog_2_method_2_code, 2, none, false) ∈ lw_tbl := List.mem_of_getElem? (i := 418) rfl
set_option maxRecDepth 100000 in
theorem mj_mc25 : mj_wc (0, "follow", "(II)V", prog_2_method_3_code, 5, none, false) ∈ lw_tbl := List.mem_of_getElem? (i := 439) rfl
set_option maxRecDepth 100000 in
theorem mj_mc26 : mj_wc (1, "takeAll", "(LCloudStrings$Land;)V", prog_3_method_2_code, 3, none, false) ∈ lw_tbl := List.mem_of_getElem? (i := 422) rfl
set_option maxRecDepth 100000 in
theorem mj_mc27 : mj_wc (1, "takeCloud", "(LCloudStrings$Land;I)V", prog_3_method_3_code, 3, none, false) ∈ lw_tbl := List.mem_of_getElem? (i := 426) rfl
set_option maxRecDepth 100000 in
theorem mj_mc28 : mj_wc (1, "isCloud", "(I)Z", prog_3_method_4_code, 2, some .boolean, false) ∈ lw_tbl := List.mem_of_getElem? (i := 265) rfl
set_option maxRecDepth 100000 in
theorem mj_mc29 : mj_wc (1, "isOver", "(I)Z", prog_3_method_5_code, 2, some .boolean, false) ∈ lw_tbl := List.mem_of_getElem? (i := 299) rfl
set_option maxRecDepth 100000 in
theorem mj_mc30 : mj_wc (1, "isVillage", "(I)Z", prog_3_method_6_code, 2, some .boolean, false) ∈ lw_tbl := List.mem_of_getElem? (i := 280) rfl
set_option maxRecDepth 100000 in
theorem mj_mc31 : mj_wc (1, "villageIn", "(I)I", prog_3_method_7_code, 3, some .int, false) ∈ lw_tbl := List.mem_of_getElem? (i := 395) rfl
set_option maxRecDepth 100000 in
theorem mj_mc32 : mj_wc (1, "addCloud", "(III)I", prog_3_method_8_code, 5, some .int, false) ∈ lw_tbl := List.mem_of_getElem? (i := 326) rfl
set_option maxRecDepth 100000 in
theorem mj_mc33 : mj_wc (1, "addVillage", "(III)I", prog_3_method_9_code, 5, some .int, false) ∈ lw_tbl := List.mem_of_getElem? (i := 561) rfl
set_option maxRecDepth 100000 in
theorem mj_mc34 : mj_wc (1, "stringsOn", "(I)I", prog_3_method_10_code, 2, some .int, false) ∈ lw_tbl := List.mem_of_getElem? (i := 269) rfl
set_option maxRecDepth 100000 in
theorem mj_mc35 : mj_wc (1, "tiedBy", "(I)I", prog_3_method_11_code, 4, some .int, false) ∈ lw_tbl := List.mem_of_getElem? (i := 284) rfl
set_option maxRecDepth 100000 in
theorem mj_mc36 : mj_wc (1, "cloudsOver", "()I", prog_3_method_12_code, 3, some .int, false) ∈ lw_tbl := List.mem_of_getElem? (i := 342) rfl
set_option maxRecDepth 100000 in
theorem mj_mc37 : mj_wc (1, "waterWhere", "(Z)I", prog_3_method_13_code, 4, some .int, false) ∈ lw_tbl := List.mem_of_getElem? (i := 347) rfl
set_option maxRecDepth 100000 in
theorem mj_mc38 : mj_wc (1, "joinClouds", "(II)V", prog_3_method_14_code, 4, none, false) ∈ lw_tbl := List.mem_of_getElem? (i := 312) rfl
set_option maxRecDepth 100000 in
theorem mj_mc39 : mj_wc (1, "drawWind", "()I", prog_3_method_15_code, 1, some .int, false) ∈ lw_tbl := List.mem_of_getElem? (i := 403) rfl
set_option maxRecDepth 100000 in
theorem mj_mc40 : mj_wc (1, "passHour", "(II)I", prog_3_method_16_code, 5, some .int, false) ∈ lw_tbl := List.mem_of_getElem? (i := 364) rfl
set_option maxRecDepth 100000 in
theorem mj_mc41 : mj_wc (1, "move", "(III)V", prog_3_method_17_code, 8, none, false) ∈ lw_tbl := List.mem_of_getElem? (i := 368) rfl
set_option maxRecDepth 100000 in
theorem mj_mc42 : mj_wc (1, "rain", "(I)I", prog_3_method_18_code, 4, some .int, false) ∈ lw_tbl := List.mem_of_getElem? (i := 389) rfl
set_option maxRecDepth 100000 in
theorem mj_mc43 : mj_wc (1, "pullerOf", "(I)I", prog_3_method_19_code, 4, some .int, false) ∈ lw_tbl := List.mem_of_getElem? (i := 375) rfl
set_option maxRecDepth 100000 in
theorem mj_mc44 : mj_wc (1, "loseStrings", "(I)V", prog_3_method_20_code, 3, none, false) ∈ lw_tbl := List.mem_of_getElem? (i := 385) rfl
set_option maxRecDepth 100000 in
theorem mj_mc45 : mj_wc (1, "towards", "(II)I", prog_3_method_21_code, 4, some .int, true) ∈ lw_tbl := List.mem_of_getElem? (i := 378) rfl
set_option maxRecDepth 100000 in
theorem mj_mc46 : mj_wc (1, "besides", "(II)I", prog_3_method_22_code, 4, some .int, true) ∈ lw_tbl := List.mem_of_getElem? (i := 381) rfl
set_option maxRecDepth 100000 in
theorem mj_mc47 : mj_wc (4, "plan", "(LCloudStrings$Land;II)I", prog_6_method_2_code, 7, some .int, false) ∈ lw_tbl := List.mem_of_getElem? (i := 451) rfl
set_option maxRecDepth 100000 in
theorem mj_mc48 : mj_wc (4, "learnGains", "(LCloudStrings$Land;III)V", prog_6_method_3_code, 8, none, false) ∈ lw_tbl := List.mem_of_getElem? (i := 456) rfl
set_option maxRecDepth 100000 in
theorem mj_mc49 : mj_wc (4, "gainBy", "(LCloudStrings$Land;IIII)I", prog_6_method_4_code, 7, some .int, false) ∈ lw_tbl := List.mem_of_getElem? (i := 462) rfl
set_option maxRecDepth 100000 in
theorem mj_mc50 : mj_wc (4, "learnMost", "(I)V", prog_6_method_5_code, 5, none, false) ∈ lw_tbl := List.mem_of_getElem? (i := 469) rfl
set_option maxRecDepth 100000 in
theorem mj_mc51 : mj_wc (4, "layFirstRow", "(II)V", prog_6_method_6_code, 7, none, false) ∈ lw_tbl := List.mem_of_getElem? (i := 476) rfl
set_option maxRecDepth 100000 in
theorem mj_mc52 : mj_wc (4, "fewestOn", "(III)I", prog_6_method_7_code, 5, some .int, false) ∈ lw_tbl := List.mem_of_getElem? (i := 480) rfl
set_option maxRecDepth 100000 in
theorem mj_mc53 : mj_wc (5, "add", "(I)V", prog_7_method_2_code, 2, none, false) ∈ lw_tbl := List.mem_of_getElem? (i := 524) rfl
set_option maxRecDepth 100000 in
theorem mj_mc54 : mj_wc (5, "readInto", "(LCloudStrings$Winds;)I", prog_7_method_3_code, 6, some .int, false) ∈ lw_tbl := List.mem_of_getElem? (i := 537) rfl
set_option maxRecDepth 100000 in
theorem mj_mc55 : mj_wc (5, "canStand", "(III)Z", prog_7_method_4_code, 3, some .boolean, true) ∈ lw_tbl := List.mem_of_getElem? (i := 540) rfl
set_option maxRecDepth 100000 in
theorem mj_mc56 : mj_wc (5, "sideOf", "(I)I", prog_7_method_5_code, 1, some .int, true) ∈ lw_tbl := List.mem_of_getElem? (i := 543) rfl
set_option maxRecDepth 100000 in
theorem mj_mc57 : mj_wc (6, "add", "(II)V", prog_8_method_2_code, 3, none, false) ∈ lw_tbl := List.mem_of_getElem? (i := 547) rfl
set_option maxRecDepth 100000 in
theorem mj_mc58 : mj_wc (6, "sideIn", "(I)I", prog_8_method_3_code, 2, some .int, false) ∈ lw_tbl := List.mem_of_getElem? (i := 356) rfl
set_option maxRecDepth 100000 in
theorem mj_mc59 : mj_wc (6, "forceIn", "(I)I", prog_8_method_4_code, 2, some .int, false) ∈ lw_tbl := List.mem_of_getElem? (i := 360) rfl
set_option maxRecDepth 100000 in
theorem mj_mc60 : mj_wc (6, "takeAll", "(LCloudStrings$Winds;)V", prog_8_method_5_code, 2, none, false) ∈ lw_tbl := List.mem_of_getElem? (i := 433) rfl
set_option maxRecDepth 100000 in
theorem mj_mc61 : mj_wc (9, "fill", "([II)V", prog_13_method_103_code, 4, none, true) ∈ lw_tbl := List.mem_of_getElem? (i := 318) rfl
set_option maxRecDepth 100000 in
theorem mj_mc62 : mj_wc (8, "cell", "([II)I", method_2_code, 2, some .int, true) ∈ lw_tbl := List.mem_of_getElem? (i := 492) rfl
set_option maxRecDepth 100000 in
theorem mj_mc63 : mj_wc (8, "clouds", "([I)I", method_3_code, 1, some .int, true) ∈ lw_tbl := List.mem_of_getElem? (i := 497) rfl
set_option maxRecDepth 100000 in
theorem mj_mc64 : mj_wc (8, "villages", "([I)I", method_4_code, 1, some .int, true) ∈ lw_tbl := List.mem_of_getElem? (i := 500) rfl
set_option maxRecDepth 100000 in
theorem mj_mc65 : mj_wc (8, "winds", "([I)I", method_5_code, 1, some .int, true) ∈ lw_tbl := List.mem_of_getElem? (i := 503) rfl
set_option maxRecDepth 100000 in
theorem mj_mc66 : mj_wc (8, "wind", "([II)I", method_6_code, 2, some .int, true) ∈ lw_tbl := List.mem_of_getElem? (i := 506) rfl
set_option maxRecDepth 100000 in
theorem mj_mc67 : mj_wc (8, "thirst", "([II)I", method_7_code, 2, some .int, true) ∈ lw_tbl := List.mem_of_getElem? (i := 509) rfl
set_option maxRecDepth 100000 in
theorem mj_mc68 : mj_wc (8, "lays", "(LCloudStrings;[I[I)Z", method_8_code, 9, some .boolean, true) ∈ lw_tbl := List.mem_of_getElem? (i := 512) rfl
set_option maxRecDepth 100000 in
theorem mj_mc69 : mj_wc (8, "apart", "(II)I", method_10_code, 4, some .int, true) ∈ lw_tbl := List.mem_of_getElem? (i := 564) rfl
theorem mj_wc_g (x : mj_mT) : goodWord (mj_wc x) = true := rfl
theorem mj_mcs0 : ∀ x ∈ (mj_mt.drop 0).take 20, mj_wc x ∈ lw_tbl := List.forall_mem_cons.mpr ⟨mj_mc0, List.forall_mem_cons.mpr ⟨mj_mc1, List.forall_mem_cons.mpr ⟨mj_mc2, List.forall_mem_cons.mpr ⟨mj_mc3, List.forall_mem_cons.mpr ⟨mj_mc4, List.forall_mem_cons.mpr ⟨mj_mc5, List.forall_mem_cons.mpr ⟨mj_mc6, List.forall_mem_cons.mpr ⟨mj_mc7, List.forall_mem_cons.mpr ⟨mj_mc8, List.forall_mem_cons.mpr ⟨mj_mc9, List.forall_mem_cons.mpr ⟨mj_mc10, List.forall_mem_cons.mpr ⟨mj_mc11, List.forall_mem_cons.mpr ⟨mj_mc12, List.forall_mem_cons.mpr ⟨mj_mc13, List.forall_mem_cons.mpr ⟨mj_mc14, List.forall_mem_cons.mpr ⟨mj_mc15, List.forall_mem_cons.mpr ⟨mj_mc16, List.forall_mem_cons.mpr ⟨mj_mc17, List.forall_mem_cons.mpr ⟨mj_mc18, List.forall_mem_cons.mpr ⟨mj_mc19, fun _ h => absurd h List.not_mem_nil⟩⟩⟩⟩⟩⟩⟩⟩⟩⟩⟩⟩⟩⟩⟩⟩⟩⟩⟩⟩
theorem mj_mcs20 : ∀ x ∈ (mj_mt.drop 20).take 20, mj_wc x ∈ lw_tbl := List.forall_mem_cons.mpr ⟨mj_mc20, List.forall_mem_cons.mpr ⟨mj_mc21, List.forall_mem_cons.mpr ⟨mj_mc22, List.forall_mem_cons.mpr ⟨mj_mc23, List.forall_mem_cons.mpr ⟨mj_mc24, List.forall_mem_cons.mpr ⟨mj_mc25, List.forall_mem_cons.mpr ⟨mj_mc26, List.forall_mem_cons.mpr ⟨mj_mc27, List.forall_mem_cons.mpr ⟨mj_mc28, List.forall_mem_cons.mpr ⟨mj_mc29, List.forall_mem_cons.mpr ⟨mj_mc30, List.forall_mem_cons.mpr ⟨mj_mc31, List.forall_mem_cons.mpr ⟨mj_mc32, List.forall_mem_cons.mpr ⟨mj_mc33, List.forall_mem_cons.mpr ⟨mj_mc34, List.forall_mem_cons.mpr ⟨mj_mc35, List.forall_mem_cons.mpr ⟨mj_mc36, List.forall_mem_cons.mpr ⟨mj_mc37, List.forall_mem_cons.mpr ⟨mj_mc38, List.forall_mem_cons.mpr ⟨mj_mc39, fun _ h => absurd h List.not_mem_nil⟩⟩⟩⟩⟩⟩⟩⟩⟩⟩⟩⟩⟩⟩⟩⟩⟩⟩⟩⟩
theorem mj_mcs40 : ∀ x ∈ (mj_mt.drop 40).take 20, mj_wc x ∈ lw_tbl := List.forall_mem_cons.mpr ⟨mj_mc40, List.forall_mem_cons.mpr ⟨mj_mc41, List.forall_mem_cons.mpr ⟨mj_mc42, List.forall_mem_cons.mpr ⟨mj_mc43, List.forall_mem_cons.mpr ⟨mj_mc44, List.forall_mem_cons.mpr ⟨mj_mc45, List.forall_mem_cons.mpr ⟨mj_mc46, List.forall_mem_cons.mpr ⟨mj_mc47, List.forall_mem_cons.mpr ⟨mj_mc48, List.forall_mem_cons.mpr ⟨mj_mc49, List.forall_mem_cons.mpr ⟨mj_mc50, List.forall_mem_cons.mpr ⟨mj_mc51, List.forall_mem_cons.mpr ⟨mj_mc52, List.forall_mem_cons.mpr ⟨mj_mc53, List.forall_mem_cons.mpr ⟨mj_mc54, List.forall_mem_cons.mpr ⟨mj_mc55, List.forall_mem_cons.mpr ⟨mj_mc56, List.forall_mem_cons.mpr ⟨mj_mc57, List.forall_mem_cons.mpr ⟨mj_mc58, List.forall_mem_cons.mpr ⟨mj_mc59, fun _ h => absurd h List.not_mem_nil⟩⟩⟩⟩⟩⟩⟩⟩⟩⟩⟩⟩⟩⟩⟩⟩⟩⟩⟩⟩
theorem mj_mcs60 : ∀ x ∈ (mj_mt.drop 60).take 20, mj_wc x ∈ lw_tbl := List.forall_mem_cons.mpr ⟨mj_mc60, List.forall_mem_cons.mpr ⟨mj_mc61, List.forall_mem_cons.mpr ⟨mj_mc62, List.forall_mem_cons.mpr ⟨mj_mc63, List.forall_mem_cons.mpr ⟨mj_mc64, List.forall_mem_cons.mpr ⟨mj_mc65, List.forall_mem_cons.mpr ⟨mj_mc66, List.forall_mem_cons.mpr ⟨mj_mc67, List.forall_mem_cons.mpr ⟨mj_mc68, List.forall_mem_cons.mpr ⟨mj_mc69, fun _ h => absurd h List.not_mem_nil⟩⟩⟩⟩⟩⟩⟩⟩⟩⟩
set_option maxRecDepth 100000 in
theorem mj_mt_c : ∀ x ∈ mj_mt, mj_wc x ∈ mj_WA := by
  intro x hx
  refine List.mem_filter.mpr ⟨?_, mj_wc_g x⟩
  have h : mj_mt = (mj_mt.drop 0).take 20 ++ (mj_mt.drop 20).take 20 ++ (mj_mt.drop 40).take 20 ++ (mj_mt.drop 60).take 20 := rfl
  rw [h] at hx
  simp only [List.mem_append] at hx
  rcases hx with (((h | h) | h) | h)
  · exact mj_mcs0 x h
  · exact mj_mcs20 x h
  · exact mj_mcs40 x h
  · exact mj_mcs60 x h
theorem mj_mt_i : ∀ w ∈ mj_mt.map mj_wi, w ∈ mj_WA := mj_of [550, 554, 259, 274, 286, 293, 302, 306, 320, 328, 515, 531, 332, 336, 350, 397, 408, 412, 445, 482, 487, 290, 519, 271, 416, 437, 420, 424, 263, 297, 278, 393, 324, 559, 267, 282, 340, 345, 310, 401, 362, 366, 387, 374, 384, 377, 380, 449, 455, 461, 468, 475, 479, 522, 535, 539, 542, 545, 354, 358, 431, 317, 491, 496, 499, 502, 505, 508, 511, 563] (by decide +kernel) (by decide +kernel)
theorem mj_mt_v : ∀ w ∈ mj_mt.map mj_wv, w ∈ mj_WA := mj_of [551, 555, 260, 275, 287, 294, 303, 307, 321, 329, 516, 532, 333, 337, 351, 398, 409, 413, 446, 483, 488, 290, 519, 271, 417, 438, 421, 425, 264, 298, 279, 394, 325, 560, 268, 283, 341, 346, 311, 402, 363, 367, 388, 0, 1, 377, 380, 450, 2, 3, 4, 5, 6, 523, 536, 539, 542, 546, 355, 359, 432, 317, 491, 496, 499, 502, 505, 508, 511, 563] (by decide +kernel) (by decide +kernel)
theorem mj_mt_n : ∀ w ∈ mj_mt.map mj_wn, w ∈ mj_WA := mj_of [8, 8, 8, 8, 8, 8, 8, 8, 8, 8, 8, 8, 8, 8, 8, 8, 8, 8, 8, 8, 8, 8, 8, 8, 11, 11, 9, 9, 9, 9, 9, 9, 9, 9, 9, 9, 9, 9, 9, 9, 9, 9, 9, 9, 9, 9, 9, 12, 12, 12, 12, 12, 12, 14, 14, 14, 14, 10, 10, 10, 10, 17, 7, 7, 7, 7, 7, 7, 7, 7] (by decide +kernel) (by decide +kernel)
theorem mj_mt_d : mj_mt.all (fun x => plainName (mj_cs_ x.1) && decide (mj_cs_ x.1 ≠ "java/lang/invoke/MethodHandle") && decide (mj_cs_ x.1 ≠ "java/lang/invoke/VarHandle")) = true := by decide +kernel
/-- how many a method takes, the receiver not counted -/
def mj_np : List Nat := [3, 3, 2, 2, 3, 3, 2, 2, 2, 1, 2, 0, 1, 1, 1, 1, 1, 3, 3, 0, 0, 3, 2, 1, 1, 2, 1, 2, 1, 1, 1, 1, 3, 3, 1, 1, 0, 1, 2, 0, 2, 3, 1, 1, 1, 2, 2, 3, 4, 5, 1, 2, 3, 1, 1, 3, 1, 2, 1, 1, 1, 2, 2, 1, 1, 1, 2, 2, 3, 2]
theorem mj_mt_p : mj_mt.map (fun x => (parseMethodDescriptor x.2.2.1).map (fun d => d.parameters.length)) = mj_np.map some := by decide +kernel
/-- links of fields: whose file, its place there, class, field -/
def mj_FL : List (Nat × Nat × Nat × Nat) := [(0, 10, 0, 0), (0, 20, 1, 12), (0, 24, 1, 11), (1, 9, 1, 0), (1, 15, 1, 1), (1, 19, 1, 2), (1, 22, 1, 3), (1, 27, 1, 4), (1, 30, 1, 5), (1, 33, 1, 6), (1, 36, 1, 7), (1, 39, 1, 8), (1, 42, 1, 9), (1, 45, 1, 10), (1, 51, 1, 11), (1, 55, 1, 12), (1, 58, 1, 13), (4, 12, 4, 0), (4, 20, 4, 1), (4, 23, 4, 2), (4, 26, 4, 3), (4, 30, 1, 7), (4, 41, 1, 8), (4, 44, 1, 9), (4, 72, 0, 0), (4, 80, 1, 4), (5, 9, 5, 0), (5, 15, 5, 1), (5, 19, 6, 2), (6, 9, 6, 0), (6, 15, 6, 1), (6, 18, 6, 2), (7, 10, 7, 0), (7, 16, 7, 1), (7, 22, 7, 2), (7, 29, 7, 3), (7, 43, 7, 5), (7, 50, 7, 6), (7, 61, 7, 8), (7, 69, 1, 0), (7, 81, 1, 5), (7, 91, 1, 1), (7, 95, 1, 2), (7, 98, 1, 3), (7, 107, 1, 6), (7, 110, 1, 7), (7, 113, 1, 8), (7, 116, 1, 9), (7, 125, 1, 4), (7, 137, 5, 1), (7, 148, 1, 11), (7, 155, 1, 10), (7, 162, 1, 12), (7, 165, 6, 2), (7, 187, 1, 13), (7, 197, 0, 0), (7, 210, 4, 3)]
def mj_TT (ci : Nat) : u_T := (mj_cl.getD ci ("", mj_T0, 0)).2.1
def mj_wf (e : Nat × Nat × Nat × Nat) : Cond := .fieldLink (mj_cs_ e.1) e.2.1 (mj_TT e.2.2.1 e.2.2.2).1 (mj_TT e.2.2.1 e.2.2.2).2.1 (mj_TT e.2.2.1 e.2.2.2).2.2.1
theorem mj_FL_ok : ∀ w ∈ mj_FL.map mj_wf, w ∈ mj_WA := mj_of [125, 84, 81, 54, 56, 58, 60, 62, 65, 67, 69, 72, 75, 78, 80, 83, 86, 140, 141, 142, 143, 70, 73, 76, 126, 63, 200, 201, 44, 41, 42, 43, 230, 231, 232, 233, 235, 236, 238, 55, 66, 57, 59, 61, 68, 71, 74, 77, 64, 202, 82, 79, 85, 45, 87, 127, 144] (by decide +kernel) (by decide +kernel)
/-- links of methods: whose file, its place there, the method -/
def mj_ML : List (Nat × Nat × Nat) := [(0, 16, 26), (0, 28, 58), (0, 34, 59), (0, 37, 41), (0, 41, 42), (1, 61, 27), (1, 71, 60), (1, 75, 28), (1, 79, 61), (1, 89, 29), (1, 101, 41), (1, 105, 42), (1, 112, 34), (1, 115, 43), (1, 118, 45), (1, 121, 46), (1, 124, 44), (1, 131, 31), (4, 47, 48), (4, 51, 50), (4, 55, 51), (4, 59, 24), (4, 63, 29), (4, 67, 49), (4, 76, 27), (4, 83, 25), (4, 89, 52), (5, 22, 55), (5, 26, 56), (5, 30, 57), (7, 65, 21), (7, 73, 32), (7, 77, 31), (7, 84, 33), (7, 87, 28), (7, 101, 34), (7, 104, 30), (7, 119, 35), (7, 122, 29), (7, 129, 38), (7, 133, 22), (7, 140, 53), (7, 144, 54), (7, 151, 60), (7, 158, 36), (7, 166, 37), (7, 170, 23), (7, 174, 58), (7, 177, 59), (7, 180, 40), (7, 184, 39), (7, 190, 24), (7, 194, 25), (7, 200, 61), (7, 206, 47), (7, 223, 26), (8, 9, 62), (8, 15, 65), (8, 19, 66), (8, 24, 10), (8, 40, 11), (8, 43, 63), (8, 46, 0), (8, 50, 64), (8, 53, 67), (8, 56, 1), (8, 59, 5), (8, 63, 68), (8, 67, 13), (8, 71, 2), (8, 75, 14), (8, 78, 7), (8, 81, 8), (8, 84, 9), (8, 87, 3), (8, 90, 12), (8, 93, 6), (8, 96, 16), (8, 99, 19), (8, 102, 69), (8, 105, 17), (8, 108, 20), (8, 111, 15), (8, 114, 18), (8, 117, 4)]
def mj_wm (e : Nat × Nat × Nat) : Cond := .methodLink (mj_cs_ e.1) e.2.1 (mj_y e.2.2)
theorem mj_ML_ok : ∀ w ∈ mj_ML.map mj_wm, w ∈ mj_WA := mj_of [419, 440, 441, 442, 443, 423, 430, 300, 316, 343, 365, 386, 371, 372, 376, 379, 382, 392, 453, 466, 473, 457, 458, 459, 463, 464, 477, 538, 541, 544, 289, 323, 557, 558, 262, 266, 277, 281, 296, 309, 518, 521, 534, 548, 339, 344, 348, 353, 357, 361, 400, 415, 436, 435, 448, 485, 490, 501, 504, 514, 530, 495, 549, 498, 507, 553, 292, 510, 335, 258, 349, 305, 319, 327, 273, 331, 301, 407, 481, 562, 411, 486, 396, 444, 285] (by decide +kernel) (by decide +kernel)
def mj_KL : List (Nat × Nat × Int) := [(1, 98, 1103515245), (1, 99, 2147483647), (1, 100, 65536), (4, 71, -1000000), (8, 7, 15485957), (8, 8, 2147483647)]
def mj_wk (e : Nat × Nat × Int) : Cond := .constant (mj_cs_ e.1) e.2.1 (Int32.ofInt e.2.2)
theorem mj_KL_ok : ∀ w ∈ mj_KL.map mj_wk, w ∈ mj_WA := mj_of [404, 405, 406, 465, 493, 494] (by decide +kernel) (by decide +kernel)
def mj_KM : List (Nat × Nat × Int) := [(8, 22, 44), (8, 30, 117), (8, 32, 108), (8, 34, 114), (8, 36, 100), (8, 38, 48)]
def mj_wl2 (e : Nat × Nat × Int) : Cond := .constantLong (mj_cs_ e.1) e.2.1 (Int64.ofInt e.2.2)
theorem mj_KM_ok : ∀ w ∈ mj_KM.map mj_wl2, w ∈ mj_WA := mj_of [513, 525, 526, 527, 528, 529] (by decide +kernel) (by decide +kernel)
def mj_AL : List (Nat × Nat) := [(1, 65), (6, 22)]
def mj_wa (e : Nat × Nat) : Cond := .methodLink (mj_cs_ e.1) e.2 arraycopyName
theorem mj_AL_ok : ∀ w ∈ mj_AL.map mj_wa, w ∈ mj_WA := mj_of [427, 434] (by decide +kernel) (by decide +kernel)
theorem mj_AC_ok : ∀ w ∈ [Cond.native arraycopyName, Cond.static arraycopyName, Cond.initialized "java/lang/System"], w ∈ mj_WA := mj_of [429, 428, 16] (by decide +kernel) (by decide +kernel)
/-- Math.max (0), min (1): whose file, its place there -/
def mj_JL : List (Nat × Nat × Bool) := [(1, 92, false), (4, 35, false), (4, 86, true)]
def mj_wj (e : Nat × Nat × Bool) : Cond := .methodLink (mj_cs_ e.1) e.2.1 (if e.2.2 then Lib.Math.max.name else Lib.Math.min.name)
theorem mj_JL_ok : ∀ w ∈ mj_JL.map mj_wj, w ∈ mj_WA := mj_of [313, 452, 470] (by decide +kernel) (by decide +kernel)
theorem mj_JC_ok : ∀ w ∈ [Cond.static Lib.Math.max.name, Cond.static Lib.Math.min.name, Cond.initialized "java/lang/Math", Cond.code Lib.Math.max.name Lib.Math.max.code 2 (some .int), Cond.code Lib.Math.min.name Lib.Math.min.code 2 (some .int)], w ∈ mj_WA := mj_of [471, 314, 18, 472, 315] (by decide +kernel) (by decide +kernel)
theorem mj_u0 : ∀ w ∈ u_ws "CloudStrings$Forecast" mj_T0 1, w ∈ mj_WA := mj_of [128] (by decide +kernel) (by decide +kernel)
theorem mj_u1 : ∀ w ∈ u_ws "CloudStrings$Land" mj_T1 14, w ∈ mj_WA := mj_of [88, 90, 92, 94, 96, 98, 100, 102, 104, 106, 108, 110, 112, 114] (by decide +kernel) (by decide +kernel)
theorem mj_u2 : ∀ w ∈ u_ws "CloudStrings$Laying" mj_T2 10, w ∈ mj_WA := mj_of [173, 175, 177, 179, 181, 183, 185, 187, 189, 191] (by decide +kernel) (by decide +kernel)
theorem mj_u3 : ∀ w ∈ u_ws "CloudStrings$Sheet" mj_T3 4, w ∈ mj_WA := mj_of [221, 223, 225, 227] (by decide +kernel) (by decide +kernel)
theorem mj_u4 : ∀ w ∈ u_ws "CloudStrings$Supply" mj_T4 4, w ∈ mj_WA := mj_of [145, 147, 149, 151] (by decide +kernel) (by decide +kernel)
theorem mj_u5 : ∀ w ∈ u_ws "CloudStrings$Tape" mj_T5 2, w ∈ mj_WA := mj_of [203, 205] (by decide +kernel) (by decide +kernel)
theorem mj_u6 : ∀ w ∈ u_ws "CloudStrings$Winds" mj_T6 3, w ∈ mj_WA := mj_of [46, 48, 50] (by decide +kernel) (by decide +kernel)
theorem mj_u7 : ∀ w ∈ u_ws "CloudStrings" mj_T7 9, w ∈ mj_WA := mj_of [239, 241, 243, 245, 247, 249, 251, 253, 255] (by decide +kernel) (by decide +kernel)
theorem mj_cl_u : ∀ c ∈ mj_cl, ∀ w ∈ u_ws c.1 c.2.1 c.2.2, w ∈ mj_WA := by
  intro c hc
  simp only [mj_cl, List.mem_cons, List.not_mem_nil, or_false] at hc
  rcases hc with rfl | rfl | rfl | rfl | rfl | rfl | rfl | rfl
  · exact mj_u0
  · exact mj_u1
  · exact mj_u2
  · exact mj_u3
  · exact mj_u4
  · exact mj_u5
  · exact mj_u6
  · exact mj_u7
theorem mj_cl_t : ∀ c ∈ mj_cl, ∀ k, k < c.2.2 → parseFieldDescriptor (c.2.1 k).2.2.1 = some ((parseFieldDescriptor (c.2.1 k).2.2.1).getD .int) := by decide +kernel
theorem mj_cl_n : ∀ c ∈ mj_cl, ∀ a, a < c.2.2 → ∀ b, b < c.2.2 → a ≠ b → (c.2.1 a).2.1 ≠ (c.2.1 b).2.1 := by decide +kernel
end
section
/-! The small machine: values, memory as numbers at places (part, tag, sub, index), straight rows of instructions as a predicate. -/
abbrev mj_Id : Type := Nat × Nat × Nat
abbrev mj_V : Type := Int32 ⊕ (Int64 ⊕ mj_Id)
abbrev mj_S : Type := Nat → Nat → Nat → Int32
abbrev mj_M : Type := Nat → mj_S
abbrev mj_L : Type := List (Option mj_V)
abbrev mj_I : Type := Instr × List Nat
abbrev mj_i (x : Int32) : mj_V := .inl x
abbrev mj_l (x : Int64) : mj_V := .inr (.inl x)
abbrev mj_r (q : mj_Id) : mj_V := .inr (.inr q)
/-- one place of a part -/
def mj_us (σ : mj_S) (t c j : Nat) (v : Int32) : mj_S := fun t' c' j' => if t' = t ∧ c' = c ∧ j' = j then v else σ t' c' j'
/-- one part -/
def mj_up (M : mj_M) (i : Nat) (σ : mj_S) : mj_M := fun i' => if i' = i then σ else M i'
/-- the reference's row `now` (and its copy): where its numbers are -/
def mj_nloc (j : Nat) : Nat × Nat × Nat :=
  if j < 6 then (2, 0, j) else if j < 12 then (3, 0, j - 6) else if j < 18 then (1, 0, j - 12) else if j < 42 then (4, (j - 18) % 6, (j - 18) / 6) else if j < 46 then (6, 0, j - 42) else if j < 50 then (8, 0, j - 46) else if j < 75 then (9, 0, j - 50) else (0, 0, 2)
/-- the reference's image -/
def mj_iloc (i j : Nat) : Nat × Nat × Nat × Nat :=
  if j < 76 then (i, mj_nloc j) else if j < 80 then (i, 5, 0, j - 76) else if j < 84 then (i, 7, 0, j - 80) else if j < 96 then (36, 11, 0, j - 84) else if j < 108 then (36, 12, 0, j - 96) else if j = 108 then (i, 0, 0, 0) else if j = 109 then (i, 0, 0, 1) else (36, 10, 0, 0)
def mj_aloc (q : mj_Id) (j : Nat) : Nat × Nat × Nat × Nat := match q.2.1 with
  | 61 => (q.1, mj_nloc j)
  | 62 => mj_iloc q.1 j
  | _ => (q.1, q.2.1, q.2.2, j)
def mj_rd (M : mj_M) (q : mj_Id) (j : Nat) : Int32 := M (mj_aloc q j).1 (mj_aloc q j).2.1 (mj_aloc q j).2.2.1 (mj_aloc q j).2.2.2
def mj_wl (M : mj_M) (l : Nat × Nat × Nat × Nat) (v : Int32) : mj_M := mj_up M l.1 (mj_us (M l.1) l.2.1 l.2.2.1 l.2.2.2 v)
def mj_wr (M : mj_M) (q : mj_Id) (j : Nat) (v : Int32) : mj_M := mj_wl M (mj_aloc q j) v
/-- how long an array is, by its tag -/
def mj_tl : List (Nat × Nat) := [(73, 55), (1, 6), (2, 6), (3, 6), (4, 4), (5, 4), (6, 4), (7, 4), (8, 4), (9, 25), (11, 12), (12, 12), (24, 10), (26, 10), (27, 6), (31, 7), (34, 64), (35, 7), (36, 4), (38, 7), (40, 7), (41, 4), (46, 48), (48, 25), (80, 4), (81, 4)]
def mj_len (M : mj_M) (q : mj_Id) : Nat := match q.2.1 with
  | 82 => (M 41 83 0 0).toNatClampNeg
  | t => (mj_tl.lookup t).getD 0
/-- is it the tag of an array of numbers whose length may be asked -/
def mj_ia (t : Nat) : Bool := t == 82 || (Nat.blt t 80 && (mj_tl.lookup t).isSome)
/-- how long an array of arrays or of objects is -/
def mj_to : List (Nat × Nat) := [(13, 6), (23, 6), (25, 7), (33, 6), (37, 7), (39, 7), (49, 4)]
def mj_ol (q : mj_Id) : Nat := (mj_to.lookup q.2.1).getD 0
/-- what an array of references holds -/
def mj_el (q : mj_Id) (j : Nat) : Option mj_Id := match q.2.1 with
  | 13 => some (q.1, 4, j)
  | 23 => some (q.1, 24, j)
  | 25 => some (q.1, 26, j)
  | 33 => some (q.1, 34, j)
  | 37 => some (q.1, 38, j)
  | 39 => some (q.1, 40, j)
  | 49 => some (q.1, 47, j)
  | _ => none
/-- what an object's field is: a number at a place, or another cell -/
def mj_fd (q : mj_Id) (k : Nat) : Option ((Nat × Nat × Nat × Nat) ⊕ mj_Id) := match q.2.1 with
  | 0 => match k with
    | 0 => some (.inl (q.1, 0, 0, 0))
    | 1 => some (.inr (q.1, 1, 0))
    | 2 => some (.inr (q.1, 2, 0))
    | 3 => some (.inr (q.1, 3, 0))
    | 4 => some (.inr (q.1, 13, 0))
    | 5 => some (.inl (q.1, 0, 0, 1))
    | 6 => some (.inr (q.1, 5, 0))
    | 7 => some (.inr (q.1, 6, 0))
    | 8 => some (.inr (q.1, 7, 0))
    | 9 => some (.inr (q.1, 8, 0))
    | 10 => some (.inr (q.1, 9, 0))
    | 11 => some (.inr (20 + q.1, 10, 0))
    | 12 => some (.inl (q.1, 0, 0, 2))
    | 13 => some (.inl (q.1, 0, 0, 3))
    | _ => none
  | 10 => match k with
    | 0 => some (.inr (q.1, 11, 0))
    | 1 => some (.inr (q.1, 12, 0))
    | 2 => some (.inl (q.1, 10, 0, 0))
    | _ => none
  | 20 => match k with
    | 0 => some (.inr (q.1, 0, 0))
    | _ => none
  | 21 => match k with
    | 0 => some (.inr (3, 20, 0))
    | 1 => some (.inr (q.1, 23, 0))
    | 2 => some (.inr (q.1, 25, 0))
    | 3 => some (.inr (q.1, 27, 0))
    | _ => none
  | 30 => match k with
    | 0 => some (.inr (4, 20, 0))
    | 1 => some (.inr (q.1, 31, 0))
    | 2 => some (.inl (q.1, 30, 0, 0))
    | 3 => some (.inr (q.1, 33, 0))
    | 4 => some (.inr (q.1, 35, 0))
    | 5 => some (.inr (q.1, 36, 0))
    | 6 => some (.inr (q.1, 37, 0))
    | 7 => some (.inr (q.1, 39, 0))
    | 8 => some (.inl (q.1, 30, 0, 1))
    | 9 => some (.inr (q.1, 41, 0))
    | _ => none
  | 45 => match k with
    | 0 => some (.inr (q.1, 46, 0))
    | 1 => some (.inl (q.1, 45, 0, 0))
    | _ => none
  | 47 => match k with
    | 0 => some (.inr (q.1, 48, q.2.2))
    | 1 => some (.inl (q.1, 47, q.2.2, 0))
    | 2 => some (.inl (q.1, 47, q.2.2, 1))
    | 3 => some (.inl (q.1, 47, q.2.2, 2))
    | _ => none
  | 50 => match k with
    | 0 => some (.inr (0, 0, 0))
    | 1 => some (.inr (1, 0, 0))
    | 2 => some (.inr (2, 20, 0))
    | 3 => some (.inr (11, 21, 0))
    | 4 => some (.inr (12, 30, 0))
    | 5 => some (.inr (6, 45, 0))
    | 6 => some (.inr (25, 10, 0))
    | 7 => some (.inr (7, 49, 0))
    | 8 => some (.inl (13, 50, 0, 0))
    | _ => none
  | _ => none
/-- the class of an object, by its tag -/
def mj_ci (t : Nat) : Nat := match t with
  | 0 => 1
  | 10 => 6
  | 20 => 0
  | 21 => 4
  | 30 => 2
  | 45 => 5
  | 47 => 3
  | 50 => 7
  | _ => 99
def mj_k (a : List Nat) : Int32 := match a with
  | [n] => nI n
  | n :: _ => -(nI n)
  | [] => 0
def mj_kl (a : List Nat) : Int64 := match a with
  | [n] => lN n
  | n :: _ => -(lN n)
  | [] => 0
def mj_cmp (c : ClassFile.Cond) (x y : Int32) : Prop := match c with
  | .eq => x = y
  | .ne => ¬ x = y
  | .lt => x < y
  | .ge => y ≤ x
  | .gt => y < x
  | .le => x ≤ y
def mj_p1 (st : List mj_V) (k : Int32 → List mj_V → Prop) : Prop := match st with
  | .inl x :: r => k x r
  | _ => False
def mj_p2 (st : List mj_V) (k : Int32 → Int32 → List mj_V → Prop) : Prop := match st with
  | .inl y :: .inl x :: r => k x y r
  | _ => False
def mj_pl (st : List mj_V) (k : Int64 → List mj_V → Prop) : Prop := match st with
  | .inr (.inl x) :: r => k x r
  | _ => False
def mj_pl2 (st : List mj_V) (k : Int64 → Int64 → List mj_V → Prop) : Prop := match st with
  | .inr (.inl y) :: .inr (.inl x) :: r => k x y r
  | _ => False
def mj_pli (st : List mj_V) (k : Int64 → Int32 → List mj_V → Prop) : Prop := match st with
  | .inl y :: .inr (.inl x) :: r => k x y r
  | _ => False
def mj_pr (st : List mj_V) (k : mj_Id → List mj_V → Prop) : Prop := match st with
  | .inr (.inr q) :: r => k q r
  | _ => False
def mj_pri (st : List mj_V) (k : mj_Id → Int32 → List mj_V → Prop) : Prop := match st with
  | .inl j :: .inr (.inr q) :: r => k q j r
  | _ => False
def mj_prii (st : List mj_V) (k : mj_Id → Int32 → Int32 → List mj_V → Prop) : Prop := match st with
  | .inl v :: .inl j :: .inr (.inr q) :: r => k q j v r
  | _ => False
def mj_pcp (st : List mj_V) (k : mj_Id → Int32 → mj_Id → Int32 → Int32 → List mj_V → Prop) : Prop := match st with
  | .inl n :: .inl d :: .inr (.inr qd) :: .inl s :: .inr (.inr qs) :: r => k qs s qd d n r
  | _ => False
def mj_li (ls : mj_L) (i : Nat) (k : Int32 → Prop) : Prop := match ls[i]? with
  | some (some (.inl x)) => k x
  | _ => False
def mj_ll (ls : mj_L) (i : Nat) (k : Int64 → Prop) : Prop := match ls[i]? with
  | some (some (.inr (.inl x))) => k x
  | _ => False
def mj_lr (ls : mj_L) (i : Nat) (k : mj_Id → Prop) : Prop := match ls[i]? with
  | some (some (.inr (.inr x))) => k x
  | _ => False
def mj_si (ls : mj_L) (i : Nat) (x : mj_V) (k : mj_L → Prop) : Prop := Nat.blt i ls.length = true ∧ k (ls.set i (some x))
/-- a number that is a truth value -/
def mj_bo (b : Nat) (x : Int32) (p : Prop) : Prop := match b with
  | 1 => (x = 0 ∨ x = 1) ∧ p
  | _ => p
def mj_cp (M : mj_M) (qs qd : mj_Id) (s d n : Nat) : mj_M := mj_up M qd.1 (fun t c j => if t = qd.2.1 ∧ c = qd.2.2 ∧ d ≤ j ∧ j < d + n then M qs.1 qs.2.1 qs.2.2 (s + (j - d)) else M qd.1 t c j)
def mj_sw (x : Int32) (ks : List (Int32 × Nat)) (d : Nat) (K : Nat → Prop) : Prop := match ks with
  | [] => K d
  | (k, t) :: r => (x = k → K t) ∧ (¬ x = k → mj_sw x r d K)
/-- the switch's keys: of a table from its lowest on, of pairs the written ones -/
def mj_tk (lo : Nat) (ts : List Nat) : List (Int32 × Nat) := match ts with
  | [] => []
  | t :: r => (nI lo, t) :: mj_tk (lo + 1) r
def mj_lk (ps : List (Int × Int)) (ts : List Nat) : List (Int32 × Nat) := match ps, ts with
  | p :: ps, t :: ts => (nI p.1.toNat, t) :: mj_lk ps ts
  | _, _ => []
/-- the kinds of a method's parameters: 0 int, 1 long, 2 a cell -/
def mj_kd : List (List Nat) := [[107, 0, 0, 0], [107, 0, 0, 0], [107, 0, 0], [107, 0, 0], [107, 0, 0, 0], [107, 0, 0, 0], [107, 0, 0], [107, 0, 0], [107, 0, 0], [107, 0], [107, 1, 0], [107], [107, 0], [107, 0], [107, 0], [107, 0], [107, 0], [107, 0, 0, 0], [107, 0, 0, 0], [107], [107], [0, 0, 0], [1, 0], [2], [100, 2], [100, 0, 0], [101, 2], [101, 2, 0], [101, 0], [101, 0], [101, 0], [101, 0], [101, 0, 0, 0], [101, 0, 0, 0], [101, 0], [101, 0], [101], [101, 0], [101, 0, 0], [101], [101, 0, 0], [101, 0, 0, 0], [101, 0], [101, 0], [101, 0], [0, 0], [0, 0], [104, 2, 0, 0], [104, 2, 0, 0, 0], [104, 2, 0, 0, 0, 0], [104, 0], [104, 0, 0], [104, 0, 0, 0], [105, 0], [105, 2], [0, 0, 0], [0], [106, 0, 0], [106, 0], [106, 0], [106, 2], [2, 0], [2, 0], [2], [2], [2], [2, 0], [2, 0], [2, 2, 2], [0, 0]]
def mj_fit1 (k : Nat) (v : mj_V) : Bool := match v with
  | .inl _ => k == 0
  | .inr (.inl _) => k == 1
  | .inr (.inr q) => k == 2 || (Nat.ble 100 k && mj_ci q.2.1 == k - 100)
def mj_fit (ks : List Nat) (vs : List mj_V) : Bool := match ks, vs with
  | [], [] => true
  | k :: ks, v :: vs => mj_fit1 k v && mj_fit ks vs
  | _, _ => false
/-- how many words a stack has -/
def mj_cat (st : List mj_V) : Nat := match st with
  | [] => 0
  | v :: r => (match v with
    | .inr (.inl _) => 2
    | _ => 1) + mj_cat r
def mj_call (C : Nat → List mj_V → mj_M → Option mj_V → mj_M → Prop) (K : mj_L → List mj_V → mj_M → Prop) (a : List Nat) (ls : mj_L) (st : List mj_V) (M : mj_M) : Prop := match a with
  | [f, n, 0] => (Nat.ble n st.length && mj_fit (mj_kd.getD f []) (st.take n).reverse && Nat.ble (mj_cat (st.drop n)) 8) = true ∧ ∃ M' : mj_M, C f (st.take n).reverse M none M' ∧ K ls (st.drop n) M'
  | [f, n, 1] => (Nat.ble n st.length && mj_fit (mj_kd.getD f []) (st.take n).reverse && Nat.ble (mj_cat (st.drop n)) 8) = true ∧ ∃ (y : Int32) (M' : mj_M), C f (st.take n).reverse M (some (.inl y)) M' ∧ K ls (.inl y :: st.drop n) M'
  | _ => False
/-- one instruction: k goes on with the row, K is what holds at a label, R at a return, C at a call; nd: a native frame fits -/
def mj_w1 (C : Nat → List mj_V → mj_M → Option mj_V → mj_M → Prop) (K : Nat → mj_L → List mj_V → mj_M → Prop) (R : Option mj_V → mj_M → Prop) (nd : Prop) (nx : Nat) (i : Instr) (a : List Nat) (ls : mj_L) (st : List mj_V) (M : mj_M) (k : mj_L → List mj_V → mj_M → Prop) : Prop := match i with
  | .iconst _ => k ls (.inl (mj_k a) :: st) M
  | .bipush _ => k ls (.inl (mj_k a) :: st) M
  | .sipush _ => k ls (.inl (mj_k a) :: st) M
  | .ldc _ => k ls (.inl (mj_k a) :: st) M
  | .ldc2_w _ => k ls (.inr (.inl (mj_kl a)) :: st) M
  | .lconst n => k ls (.inr (.inl (Int64.ofNat n.val)) :: st) M
  | .iload j => mj_li ls j fun x => k ls (.inl x :: st) M
  | .iload_n j => mj_li ls j.val fun x => k ls (.inl x :: st) M
  | .lload j => mj_ll ls j fun x => k ls (.inr (.inl x) :: st) M
  | .lload_n j => mj_ll ls j.val fun x => k ls (.inr (.inl x) :: st) M
  | .aload j => mj_lr ls j fun x => k ls (.inr (.inr x) :: st) M
  | .aload_n j => mj_lr ls j.val fun x => k ls (.inr (.inr x) :: st) M
  | .istore j => mj_p1 st fun x r => mj_si ls j (.inl x) fun ls => k ls r M
  | .istore_n j => mj_p1 st fun x r => mj_si ls j.val (.inl x) fun ls => k ls r M
  | .astore j => mj_pr st fun x r => mj_si ls j (.inr (.inr x)) fun ls => k ls r M
  | .astore_n j => mj_pr st fun x r => mj_si ls j.val (.inr (.inr x)) fun ls => k ls r M
  | .iinc j _ => mj_li ls j fun x => mj_si ls j (.inl (x + mj_k a)) fun ls => k ls st M
  | .iadd => mj_p2 st fun x y r => k ls (.inl (x + y) :: r) M
  | .isub => mj_p2 st fun x y r => k ls (.inl (x - y) :: r) M
  | .imul => mj_p2 st fun x y r => k ls (.inl (x * y) :: r) M
  | .iand => mj_p2 st fun x y r => k ls (.inl (x &&& y) :: r) M
  | .ior => mj_p2 st fun x y r => k ls (.inl (x ||| y) :: r) M
  | .ixor => mj_p2 st fun x y r => k ls (.inl (x ^^^ y) :: r) M
  | .ishl => mj_p2 st fun x y r => k ls (.inl (x <<< (y &&& 31)) :: r) M
  | .ishr => mj_p2 st fun x y r => k ls (.inl (x >>> (y &&& 31)) :: r) M
  | .idiv => mj_p2 st fun x y r => ¬ y = 0 ∧ k ls (.inl (x / y) :: r) M
  | .irem => mj_p2 st fun x y r => ¬ y = 0 ∧ k ls (.inl (x % y) :: r) M
  | .ladd => mj_pl2 st fun x y r => k ls (.inr (.inl (x + y)) :: r) M
  | .lmul => mj_pl2 st fun x y r => k ls (.inr (.inl (x * y)) :: r) M
  | .land => mj_pl2 st fun x y r => k ls (.inr (.inl (x &&& y)) :: r) M
  | .lor => mj_pl2 st fun x y r => k ls (.inr (.inl (x ||| y)) :: r) M
  | .lcmp => mj_pl2 st fun x y r => k ls (.inl (lg_cmp x y) :: r) M
  | .lshl => mj_pli st fun x y r => k ls (.inr (.inl (x <<< (y.toInt64 &&& 63))) :: r) M
  | .lshr => mj_pli st fun x y r => k ls (.inr (.inl (x >>> (y.toInt64 &&& 63))) :: r) M
  | .lushr => mj_pli st fun x y r => k ls (.inr (.inl (x.toUInt64 >>> (y.toInt64.toUInt64 &&& Int64.toUInt64 63)).toInt64) :: r) M
  | .i2l => mj_p1 st fun x r => k ls (.inr (.inl x.toInt64) :: r) M
  | .l2i => mj_pl st fun x r => k ls (.inl x.toInt32 :: r) M
  | .ineg => mj_p1 st fun x r => k ls (.inl (-x) :: r) M
  | .i2b => mj_p1 st fun x r => k ls (.inl x.toInt8.toInt32 :: r) M
  | .i2s => mj_p1 st fun x r => k ls (.inl x.toInt16.toInt32 :: r) M
  | .dup => match st with
    | .inl x :: r => k ls (.inl x :: .inl x :: r) M
    | .inr (.inr x) :: r => k ls (.inr (.inr x) :: .inr (.inr x) :: r) M
    | _ => False
  | .dup2 => mj_pri st fun q j r => k ls (.inl j :: .inr (.inr q) :: .inl j :: .inr (.inr q) :: r) M
  | .pop => mj_p1 st fun _ r => k ls r M
  | .getfield _ => mj_pr st fun q r => a[0]? = some (mj_ci q.2.1) ∧ match mj_fd q (a.getD 1 0) with
    | some (.inl l) => k ls (.inl (M l.1 l.2.1 l.2.2.1 l.2.2.2) :: r) M
    | some (.inr q') => k ls (.inr (.inr q') :: r) M
    | none => False
  | .putfield _ => match st with
    | .inl x :: .inr (.inr q) :: r => a[0]? = some (mj_ci q.2.1) ∧ match mj_fd q (a.getD 1 0) with
      | some (.inl l) => mj_bo (a.getD 2 0) x (k ls r (mj_wl M l x))
      | _ => False
    | _ => False
  | .getstatic _ => k ls (.inr (.inr (40, a.getD 0 0, 0)) :: st) M
  | .iaload => mj_pri st fun q j r => vp_in j (mj_len M q) ∧ k ls (.inl (mj_rd M q j.toNatClampNeg) :: r) M
  | .iastore => mj_prii st fun q j v r => Nat.blt q.2.1 80 = true ∧ vp_in j (mj_len M q) ∧ k ls r (mj_wr M q j.toNatClampNeg v)
  | .aaload => mj_pri st fun q j r => vp_in j (mj_ol q) ∧ match mj_el q j.toNatClampNeg with
    | some q' => k ls (.inr (.inr q') :: r) M
    | none => False
  | .arraylength => mj_pr st fun q r => mj_ia q.2.1 = true ∧ k ls (.inl (nI (mj_len M q)) :: r) M
  | .goto _ => K (a.getD 0 0) ls st M
  | .if_icmp c _ => mj_p2 st fun x y r => (mj_cmp c x y → K (a.getD 0 0) ls r M) ∧ (¬ mj_cmp c x y → k ls r M)
  | .ifCond c _ => mj_p1 st fun x r => (mj_cmp c x 0 → K (a.getD 0 0) ls r M) ∧ (¬ mj_cmp c x 0 → k ls r M)
  | .tableswitch _ lo _ _ => mj_p1 st fun x r => mj_sw x (mj_tk lo.toNat a.tail) (a.getD 0 0) fun t => K t ls r M
  | .lookupswitch _ ps => mj_p1 st fun x r => mj_sw x (mj_lk ps.toList a.tail) (a.getD 0 0) fun t => K t ls r M
  | .invokevirtual _ => mj_call C (K nx) a ls st M
  | .invokestatic _ => match a with
    | [] => mj_pcp st fun qs s qd d n r => Nat.ble (mj_cat r) 8 = true ∧ nd ∧ (Nat.blt qs.2.1 60 && mj_ia qs.2.1) = true ∧ (Nat.blt qd.2.1 60 && mj_ia qd.2.1) = true ∧ ¬ s < 0 ∧ ¬ d < 0 ∧ ¬ n < 0 ∧ s.toNatClampNeg + n.toNatClampNeg ≤ mj_len M qs ∧ d.toNatClampNeg + n.toNatClampNeg ≤ mj_len M qd ∧ k ls r (mj_cp M qs qd s.toNatClampNeg d.toNatClampNeg n.toNatClampNeg)
    | [0] => mj_p2 st fun x y r => Nat.ble (mj_cat r) 8 = true ∧ nd ∧ k ls (.inl (if x < y then y else x) :: r) M
    | [1] => mj_p2 st fun x y r => Nat.ble (mj_cat r) 8 = true ∧ nd ∧ k ls (.inl (if y < x then y else x) :: r) M
    | _ => mj_call C (K nx) a ls st M
  | .ireturn => match st with
    | [.inl x] => mj_bo (a.getD 0 0) x (R (some (.inl x)) M)
    | _ => False
  | .return_ => match st with
    | [] => R none M
    | _ => False
  | _ => False
def mj_w (C : Nat → List mj_V → mj_M → Option mj_V → mj_M → Prop) (K : Nat → mj_L → List mj_V → mj_M → Prop) (R : Option mj_V → mj_M → Prop) (nd : Prop) (nx : Nat) (is : List mj_I) (ls : mj_L) (st : List mj_V) (M : mj_M) : Prop := match is with
  | [] => K nx ls st M
  | i :: is => mj_w1 C K R nd nx i.1 i.2 ls st M (fun ls st M => mj_w C K R nd nx is ls st M)
abbrev mj_C : Type := List (Nat × List mj_I × Nat)
/-- the row at a label; a label that is none has a row that never holds -/
def mj_b (c : mj_C) (pc : Nat) : List mj_I × Nat := (c.lookup pc).getD ([(.nop, [])], 0)
/-- what of a part's numbers counts -/
def mj_ok (t c j : Nat) : Bool := match t with
  | 0 => c == 0 && Nat.blt j 4
  | 1 => c == 0 && Nat.blt j 6
  | 2 => c == 0 && Nat.blt j 6
  | 3 => c == 0 && Nat.blt j 6
  | 4 => Nat.blt c 6 && Nat.blt j 4
  | 5 => c == 0 && Nat.blt j 4
  | 6 => c == 0 && Nat.blt j 4
  | 7 => c == 0 && Nat.blt j 4
  | 8 => c == 0 && Nat.blt j 4
  | 9 => c == 0 && Nat.blt j 25
  | 10 => c == 0 && j == 0
  | 11 => c == 0 && Nat.blt j 12
  | 12 => c == 0 && Nat.blt j 12
  | _ => true
def mj_eq (M N : mj_M) : Prop := ∀ i t c j : Nat, mj_ok t c j = true → M i t c j = N i t c j
theorem mj_eq.rf {M : mj_M} : mj_eq M M := fun _ _ _ _ _ => rfl
theorem mj_eq.of {M N : mj_M} (h : M = N) : mj_eq M N := h ▸ mj_eq.rf
theorem mj_eq.tr {M N L : mj_M} (h : mj_eq M N) (g : mj_eq N L) : mj_eq M L := fun i t c j k => (h i t c j k).trans (g i t c j k)
theorem mj_eq.sy {M N : mj_M} (h : mj_eq M N) : mj_eq N M := fun i t c j k => (h i t c j k).symm
/-- the locals of a method at its start -/
def mj_av (vs : List mj_V) : mj_L := match vs with
  | [] => []
  | v :: r => match v with
    | .inr (.inl w) => some (.inr (.inl w)) :: none :: mj_av r
    | v => some v :: mj_av r
def mj_ent (n : Nat) (vs : List mj_V) : mj_L := mj_av vs ++ List.replicate (n - (mj_av vs).length) none
def mj_Cl (c : mj_C) (C : Nat → List mj_V → mj_M → Option mj_V → mj_M → Prop) (nd : Prop) (P : Nat → mj_L → List mj_V → mj_M → Prop) (R : Option mj_V → mj_M → Prop) : Prop :=
  ∀ (pc : Nat) (ls : mj_L) (st : List mj_V) (M : mj_M), mj_w C P R nd (mj_b c pc).2 (mj_b c pc).1 ls st M → P pc ls st M
end
section
def mj_c0 : mj_C := [(0, [(.iload_n 1, []), (.iconst 0, [0]), (.iconst 3, [3]), (.invokestatic 65, [21, 3, 1])], 6),
  (6, [(.ifCond .ne 24, [30]), (.iload_n 2, []), (.iconst 0, [0]), (.bipush 24, [24]), (.invokestatic 65, [21, 3, 1])], 16),
  (16, [(.ifCond .ne 14, [30]), (.iload_n 3, []), (.iconst 1, [1]), (.sipush 999, [999]), (.invokestatic 65, [21, 3, 1])], 27),
  (27, [(.ifCond .eq 5, [32])], 30),
  (30, [(.iconst (-1), [1, 1]), (.ireturn, [])], 0),
  (32, [(.aload_n 0, []), (.getfield 10, [7, 0]), (.getfield 69, [1, 0]), (.bipush 6, [6]), (.if_icmp .lt 6, [47]), (.bipush (-3), [3, 1]), (.ireturn, [])], 0),
  (47, [(.aload_n 0, []), (.getfield 10, [7, 0]), (.iload_n 1, []), (.iload_n 2, []), (.iload_n 3, []), (.invokevirtual 73, [32, 4, 1])], 57),
  (57, [(.ireturn, [])], 0)]
def mj_c1 : mj_C := [(0, [(.iload_n 1, []), (.iconst 0, [0]), (.bipush 24, [24]), (.invokestatic 65, [21, 3, 1])], 7),
  (7, [(.ifCond .ne 23, [30]), (.iload_n 2, []), (.iconst 0, [0]), (.bipush 9, [9]), (.invokestatic 65, [21, 3, 1])], 17),
  (17, [(.ifCond .ne 13, [30]), (.iload_n 3, []), (.iconst 0, [0]), (.bipush 99, [99]), (.invokestatic 65, [21, 3, 1])], 27),
  (27, [(.ifCond .eq 5, [32])], 30),
  (30, [(.iconst (-1), [1, 1]), (.ireturn, [])], 0),
  (32, [(.aload_n 0, []), (.getfield 10, [7, 0]), (.iload_n 1, []), (.invokevirtual 77, [31, 2, 1])], 40),
  (40, [(.ifCond .lt 6, [46]), (.bipush (-2), [2, 1]), (.ireturn, [])], 0),
  (46, [(.aload_n 0, []), (.getfield 10, [7, 0]), (.getfield 81, [1, 5]), (.iconst 4, [4]), (.if_icmp .lt 6, [60]), (.bipush (-3), [3, 1]), (.ireturn, [])], 0),
  (60, [(.aload_n 0, []), (.getfield 10, [7, 0]), (.iload_n 1, []), (.iload_n 2, []), (.iload_n 3, []), (.invokevirtual 84, [33, 4, 1])], 70),
  (70, [(.ireturn, [])], 0)]
def mj_c2 : mj_C := [(0, [(.aload_n 0, []), (.getfield 10, [7, 0]), (.iload_n 1, []), (.invokevirtual 87, [28, 2, 1])], 8),
  (8, [(.ifCond .ne 5, [13]), (.iconst (-1), [1, 1]), (.ireturn, [])], 0),
  (13, [(.iload_n 2, []), (.tableswitch 69 0 3 #[30, 40, 50, 60], [83, 44, 54, 64, 74])], 0),
  (44, [(.aload_n 0, []), (.getfield 10, [7, 0]), (.getfield 91, [1, 1]), (.iload_n 1, []), (.iaload, []), (.ireturn, [])], 0),
  (54, [(.aload_n 0, []), (.getfield 10, [7, 0]), (.getfield 95, [1, 2]), (.iload_n 1, []), (.iaload, []), (.ireturn, [])], 0),
  (64, [(.aload_n 0, []), (.getfield 10, [7, 0]), (.getfield 98, [1, 3]), (.iload_n 1, []), (.iaload, []), (.ireturn, [])], 0),
  (74, [(.aload_n 0, []), (.getfield 10, [7, 0]), (.iload_n 1, []), (.invokevirtual 101, [34, 2, 1])], 82),
  (82, [(.ireturn, [])], 0),
  (83, [(.iconst (-1), [1, 1]), (.ireturn, [])], 0)]
def mj_c3 : mj_C := [(0, [(.aload_n 0, []), (.getfield 10, [7, 0]), (.iload_n 1, []), (.invokevirtual 104, [30, 2, 1])], 8),
  (8, [(.ifCond .ne 5, [13]), (.iconst (-1), [1, 1]), (.ireturn, [])], 0),
  (13, [(.iload_n 2, []), (.tableswitch 93 0 4 #[34, 44, 54, 64, 74], [107, 48, 58, 68, 78, 88])], 0),
  (48, [(.aload_n 0, []), (.getfield 10, [7, 0]), (.getfield 107, [1, 6]), (.iload_n 1, []), (.iaload, []), (.ireturn, [])], 0),
  (58, [(.aload_n 0, []), (.getfield 10, [7, 0]), (.getfield 110, [1, 7]), (.iload_n 1, []), (.iaload, []), (.ireturn, [])], 0),
  (68, [(.aload_n 0, []), (.getfield 10, [7, 0]), (.getfield 113, [1, 8]), (.iload_n 1, []), (.iaload, []), (.ireturn, [])], 0),
  (78, [(.aload_n 0, []), (.getfield 10, [7, 0]), (.getfield 116, [1, 9]), (.iload_n 1, []), (.iaload, []), (.ireturn, [])], 0),
  (88, [(.aload_n 0, []), (.getfield 10, [7, 0]), (.getfield 110, [1, 7]), (.iload_n 1, []), (.iaload, []), (.aload_n 0, []), (.getfield 10, [7, 0]), (.iload_n 1, []), (.invokevirtual 119, [35, 2, 1])], 105),
  (105, [(.isub, []), (.ireturn, [])], 0),
  (107, [(.iconst (-1), [1, 1]), (.ireturn, [])], 0)]
def mj_c4 : mj_C := [(0, [(.aload_n 0, []), (.getfield 10, [7, 0]), (.iload_n 1, []), (.invokevirtual 104, [30, 2, 1])], 8),
  (8, [(.ifCond .eq 31, [39]), (.iload_n 2, []), (.iconst 0, [0]), (.iconst 1, [1]), (.invokestatic 65, [21, 3, 1])], 17),
  (17, [(.ifCond .ne 22, [39]), (.iload_n 3, []), (.iconst 0, [0]), (.iload_n 2, []), (.ifCond .ne 8, [31]), (.bipush 9, [9]), (.goto 5, [33])], 0),
  (31, [(.bipush 99, [99])], 33),
  (33, [(.invokestatic 65, [21, 3, 1])], 36),
  (36, [(.ifCond .eq 5, [41])], 39),
  (39, [(.iconst (-1), [1, 1]), (.ireturn, [])], 0),
  (41, [(.iload_n 2, []), (.iconst 1, [1]), (.if_icmp .ne 27, [70]), (.aload_n 0, []), (.getfield 10, [7, 0]), (.getfield 113, [1, 8]), (.iload_n 1, []), (.iaload, []), (.istore 4, []), (.aload_n 0, []), (.getfield 10, [7, 0]), (.getfield 113, [1, 8]), (.iload_n 1, []), (.iload_n 3, []), (.iastore, []), (.iload 4, []), (.ireturn, [])], 0),
  (70, [(.aload_n 0, []), (.getfield 10, [7, 0]), (.iload_n 1, []), (.invokevirtual 119, [35, 2, 1])], 78),
  (78, [(.iload_n 3, []), (.if_icmp .le 6, [85]), (.bipush (-2), [2, 1]), (.ireturn, [])], 0),
  (85, [(.aload_n 0, []), (.getfield 10, [7, 0]), (.getfield 110, [1, 7]), (.iload_n 1, []), (.iaload, []), (.istore 4, []), (.aload_n 0, []), (.getfield 10, [7, 0]), (.getfield 110, [1, 7]), (.iload_n 1, []), (.iload_n 3, []), (.iastore, []), (.iload 4, []), (.ireturn, [])], 0)]
def mj_c5 : mj_C := [(0, [(.aload_n 0, []), (.getfield 10, [7, 0]), (.iload_n 1, []), (.invokevirtual 104, [30, 2, 1])], 8),
  (8, [(.ifCond .eq 24, [32]), (.aload_n 0, []), (.getfield 10, [7, 0]), (.iload_n 2, []), (.invokevirtual 87, [28, 2, 1])], 19),
  (19, [(.ifCond .eq 13, [32]), (.iload_n 3, []), (.iconst 0, [0]), (.bipush 9, [9]), (.invokestatic 65, [21, 3, 1])], 29),
  (29, [(.ifCond .eq 5, [34])], 32),
  (32, [(.iconst (-1), [1, 1]), (.ireturn, [])], 0),
  (34, [(.aload_n 0, []), (.getfield 10, [7, 0]), (.iload_n 2, []), (.invokevirtual 122, [29, 2, 1])], 42),
  (42, [(.ifCond .ne 6, [48]), (.bipush (-2), [2, 1]), (.ireturn, [])], 0),
  (48, [(.aload_n 0, []), (.getfield 10, [7, 0]), (.getfield 125, [1, 4]), (.iload_n 2, []), (.aaload, []), (.iload_n 1, []), (.iaload, []), (.istore 4, []), (.aload_n 0, []), (.getfield 10, [7, 0]), (.iload_n 1, []), (.invokevirtual 119, [35, 2, 1])], 69),
  (69, [(.iload 4, []), (.isub, []), (.iload_n 3, []), (.iadd, []), (.aload_n 0, []), (.getfield 10, [7, 0]), (.getfield 110, [1, 7]), (.iload_n 1, []), (.iaload, []), (.if_icmp .le 6, [89]), (.bipush (-3), [3, 1]), (.ireturn, [])], 0),
  (89, [(.aload_n 0, []), (.getfield 10, [7, 0]), (.getfield 125, [1, 4]), (.iload_n 2, []), (.aaload, []), (.iload_n 1, []), (.iload_n 3, []), (.iastore, []), (.iload 4, []), (.ireturn, [])], 0)]
def mj_c6 : mj_C := [(0, [(.aload_n 0, []), (.getfield 10, [7, 0]), (.iload_n 1, []), (.invokevirtual 104, [30, 2, 1])], 8),
  (8, [(.ifCond .eq 14, [22]), (.aload_n 0, []), (.getfield 10, [7, 0]), (.iload_n 2, []), (.invokevirtual 87, [28, 2, 1])], 19),
  (19, [(.ifCond .ne 5, [24])], 22),
  (22, [(.iconst (-1), [1, 1]), (.ireturn, [])], 0),
  (24, [(.aload_n 0, []), (.getfield 10, [7, 0]), (.getfield 125, [1, 4]), (.iload_n 2, []), (.aaload, []), (.iload_n 1, []), (.iaload, []), (.ireturn, [])], 0)]
def mj_c7 : mj_C := [(0, [(.aload_n 0, []), (.getfield 10, [7, 0]), (.iload_n 1, []), (.invokevirtual 87, [28, 2, 1])], 8),
  (8, [(.ifCond .eq 19, [27]), (.aload_n 0, []), (.getfield 10, [7, 0]), (.iload_n 2, []), (.invokevirtual 87, [28, 2, 1])], 19),
  (19, [(.ifCond .eq 8, [27]), (.iload_n 1, []), (.iload_n 2, []), (.if_icmp .ne 5, [29])], 27),
  (27, [(.iconst (-1), [1, 1]), (.ireturn, [])], 0),
  (29, [(.aload_n 0, []), (.getfield 10, [7, 0]), (.iload_n 1, []), (.invokevirtual 122, [29, 2, 1])], 37),
  (37, [(.ifCond .eq 24, [61]), (.aload_n 0, []), (.getfield 10, [7, 0]), (.getfield 95, [1, 2]), (.iload_n 1, []), (.iaload, []), (.aload_n 0, []), (.getfield 10, [7, 0]), (.getfield 95, [1, 2]), (.iload_n 2, []), (.iaload, []), (.if_icmp .eq 6, [64])], 61),
  (61, [(.bipush (-2), [2, 1]), (.ireturn, [])], 0),
  (64, [(.aload_n 0, []), (.getfield 10, [7, 0]), (.iload_n 1, []), (.iload_n 2, []), (.invokevirtual 129, [38, 3, 0])], 73),
  (73, [(.aload_n 0, []), (.getfield 10, [7, 0]), (.getfield 98, [1, 3]), (.iload_n 1, []), (.iaload, []), (.ireturn, [])], 0)]
def mj_c8 : mj_C := [(0, [(.aload_n 0, []), (.getfield 10, [7, 0]), (.iload_n 1, []), (.invokevirtual 87, [28, 2, 1])], 8),
  (8, [(.ifCond .eq 14, [22]), (.iload_n 2, []), (.iconst 1, [1]), (.sipush 999, [999]), (.invokestatic 65, [21, 3, 1])], 19),
  (19, [(.ifCond .eq 5, [24])], 22),
  (22, [(.iconst (-1), [1, 1]), (.ireturn, [])], 0),
  (24, [(.aload_n 0, []), (.getfield 10, [7, 0]), (.iload_n 1, []), (.invokevirtual 122, [29, 2, 1])], 32),
  (32, [(.ifCond .eq 16, [48]), (.aload_n 0, []), (.getfield 10, [7, 0]), (.getfield 98, [1, 3]), (.iload_n 1, []), (.iaload, []), (.iload_n 2, []), (.if_icmp .gt 6, [51])], 48),
  (48, [(.bipush (-2), [2, 1]), (.ireturn, [])], 0),
  (51, [(.aload_n 0, []), (.getfield 10, [7, 0]), (.getfield 69, [1, 0]), (.bipush 6, [6]), (.if_icmp .lt 6, [66]), (.bipush (-3), [3, 1]), (.ireturn, [])], 0),
  (66, [(.aload_n 0, []), (.getfield 10, [7, 0]), (.getfield 98, [1, 3]), (.iload_n 1, []), (.dup2, []), (.iaload, []), (.iload_n 2, []), (.isub, []), (.iastore, []), (.aload_n 0, []), (.getfield 10, [7, 0]), (.aload_n 0, []), (.getfield 10, [7, 0]), (.getfield 91, [1, 1]), (.iload_n 1, []), (.iaload, []), (.aload_n 0, []), (.getfield 10, [7, 0]), (.getfield 95, [1, 2]), (.iload_n 1, []), (.iaload, []), (.iload_n 2, []), (.invokevirtual 73, [32, 4, 1])], 105),
  (105, [(.ireturn, [])], 0)]
def mj_c9 : mj_C := [(0, [(.aload_n 0, []), (.getfield 10, [7, 0]), (.iload_n 1, []), (.invokevirtual 87, [28, 2, 1])], 8),
  (8, [(.ifCond .ne 5, [13]), (.iconst (-1), [1, 1]), (.ireturn, [])], 0),
  (13, [(.aload_n 0, []), (.getfield 10, [7, 0]), (.iload_n 1, []), (.invokevirtual 122, [29, 2, 1])], 21),
  (21, [(.ifCond .ne 6, [27]), (.bipush (-2), [2, 1]), (.ireturn, [])], 0),
  (27, [(.aload_n 0, []), (.getfield 10, [7, 0]), (.getfield 91, [1, 1]), (.iload_n 1, []), (.iaload, []), (.istore_n 2, []), (.aload_n 0, []), (.getfield 10, [7, 0]), (.getfield 91, [1, 1]), (.iload_n 1, []), (.iconst 3, [3]), (.iastore, []), (.iload_n 2, []), (.ireturn, [])], 0)]
def mj_c10 : mj_C := [(0, [(.iload_n 3, []), (.iconst 1, [1]), (.bipush 8, [8]), (.invokestatic 65, [21, 3, 1])], 7),
  (7, [(.ifCond .eq 5, [12]), (.iconst (-1), [1, 1]), (.ireturn, [])], 0),
  (12, [(.iconst 0, [0]), (.istore 4, [])], 15),
  (15, [(.iload 4, []), (.iload_n 3, []), (.if_icmp .ge 27, [45]), (.lload_n 1, []), (.iload 4, []), (.invokestatic 133, [22, 2, 1])], 27),
  (27, [(.bipush 32, [32]), (.bipush 126, [126]), (.invokestatic 65, [21, 3, 1])], 34),
  (34, [(.ifCond .eq 5, [39]), (.iconst (-1), [1, 1]), (.ireturn, [])], 0),
  (39, [(.iinc 4 1, [1]), (.goto (-27), [15])], 0),
  (45, [(.aload_n 0, []), (.getfield 43, [7, 5]), (.getfield 137, [5, 1]), (.iload_n 3, []), (.iadd, []), (.bipush 48, [48]), (.if_icmp .le 6, [62]), (.bipush (-3), [3, 1]), (.ireturn, [])], 0),
  (62, [(.iload_n 3, []), (.iconst 1, [1]), (.isub, []), (.istore 4, [])], 67),
  (67, [(.iload 4, []), (.ifCond .lt 22, [91]), (.aload_n 0, []), (.getfield 43, [7, 5]), (.lload_n 1, []), (.iload 4, []), (.invokestatic 133, [22, 2, 1])], 82),
  (82, [(.invokevirtual 140, [53, 2, 0])], 85),
  (85, [(.iinc 4 (-1), [1, 1]), (.goto (-21), [67])], 0),
  (91, [(.aload_n 0, []), (.getfield 43, [7, 5]), (.getfield 137, [5, 1]), (.ireturn, [])], 0)]
def mj_c11 : mj_C := [(0, [(.aload_n 0, []), (.getfield 43, [7, 5]), (.aload_n 0, []), (.getfield 50, [7, 6]), (.invokevirtual 144, [54, 2, 1])], 11),
  (11, [(.istore_n 1, []), (.aload_n 0, []), (.getfield 43, [7, 5]), (.iconst 0, [0]), (.putfield 137, [5, 1, 0]), (.iload_n 1, []), (.ifCond .le 17, [38]), (.aload_n 0, []), (.getfield 10, [7, 0]), (.getfield 148, [1, 11]), (.aload_n 0, []), (.getfield 50, [7, 6]), (.invokevirtual 151, [60, 2, 0])], 38),
  (38, [(.iload_n 1, []), (.ireturn, [])], 0)]
def mj_c12 : mj_C := [(0, [(.iload_n 1, []), (.iconst 0, [0]), (.bipush 24, [24]), (.invokestatic 65, [21, 3, 1])], 7),
  (7, [(.ifCond .eq 7, [14]), (.iconst (-1), [1, 1]), (.goto 12, [23])], 0),
  (14, [(.aload_n 0, []), (.getfield 10, [7, 0]), (.getfield 155, [1, 10]), (.iload_n 1, []), (.iaload, [])], 23),
  (23, [(.ireturn, [])], 0)]
def mj_c13 : mj_C := [(0, [(.iload_n 1, []), (.tableswitch 122 0 7 #[47, 55, 63, 71, 82, 91, 100, 111], [123, 48, 56, 64, 72, 83, 92, 101, 112])], 0),
  (48, [(.aload_n 0, []), (.getfield 10, [7, 0]), (.invokevirtual 158, [36, 1, 1])], 55),
  (55, [(.ireturn, [])], 0),
  (56, [(.aload_n 0, []), (.getfield 10, [7, 0]), (.getfield 81, [1, 5]), (.ireturn, [])], 0),
  (64, [(.aload_n 0, []), (.getfield 10, [7, 0]), (.getfield 162, [1, 12]), (.ireturn, [])], 0),
  (72, [(.aload_n 0, []), (.getfield 10, [7, 0]), (.getfield 148, [1, 11]), (.getfield 165, [6, 2]), (.ireturn, [])], 0),
  (83, [(.aload_n 0, []), (.getfield 10, [7, 0]), (.iconst 1, [1]), (.invokevirtual 166, [37, 2, 1])], 91),
  (91, [(.ireturn, [])], 0),
  (92, [(.aload_n 0, []), (.getfield 10, [7, 0]), (.iconst 0, [0]), (.invokevirtual 166, [37, 2, 1])], 100),
  (100, [(.ireturn, [])], 0),
  (101, [(.aload_n 0, []), (.getfield 10, [7, 0]), (.getfield 155, [1, 10]), (.invokestatic 170, [23, 1, 1])], 111),
  (111, [(.ireturn, [])], 0),
  (112, [(.aload_n 0, []), (.getfield 10, [7, 0]), (.getfield 110, [1, 7]), (.invokestatic 170, [23, 1, 1])], 122),
  (122, [(.ireturn, [])], 0),
  (123, [(.iconst (-1), [1, 1]), (.ireturn, [])], 0)]
def mj_c14 : mj_C := [(0, [(.iload_n 1, []), (.iconst 1, [1]), (.bipush 60, [60]), (.invokestatic 65, [21, 3, 1])], 7),
  (7, [(.ifCond .eq 5, [12]), (.iconst (-1), [1, 1]), (.ireturn, [])], 0),
  (12, [(.aload_n 0, []), (.getfield 10, [7, 0]), (.getfield 162, [1, 12]), (.iload_n 1, []), (.iadd, []), (.sipush 9999, [9999]), (.if_icmp .le 6, [30]), (.bipush (-3), [3, 1]), (.ireturn, [])], 0),
  (30, [(.iconst 0, [0]), (.istore_n 2, []), (.iconst 0, [0]), (.istore_n 3, [])], 34),
  (34, [(.iload_n 3, []), (.iload_n 1, []), (.if_icmp .ge 53, [89]), (.iload_n 2, []), (.aload_n 0, []), (.getfield 10, [7, 0]), (.aload_n 0, []), (.getfield 10, [7, 0]), (.getfield 148, [1, 11]), (.aload_n 0, []), (.getfield 10, [7, 0]), (.getfield 162, [1, 12]), (.invokevirtual 174, [58, 2, 1])], 61),
  (61, [(.aload_n 0, []), (.getfield 10, [7, 0]), (.getfield 148, [1, 11]), (.aload_n 0, []), (.getfield 10, [7, 0]), (.getfield 162, [1, 12]), (.invokevirtual 177, [59, 2, 1])], 78),
  (78, [(.invokevirtual 180, [40, 3, 1])], 81),
  (81, [(.iadd, []), (.istore_n 2, []), (.iinc 3 1, [1]), (.goto (-52), [34])], 0),
  (89, [(.iload_n 2, []), (.ireturn, [])], 0)]
def mj_c15 : mj_C := [(0, [(.iload_n 1, []), (.iconst 1, [1]), (.bipush 60, [60]), (.invokestatic 65, [21, 3, 1])], 7),
  (7, [(.ifCond .eq 5, [12]), (.iconst (-1), [1, 1]), (.ireturn, [])], 0),
  (12, [(.aload_n 0, []), (.getfield 10, [7, 0]), (.getfield 162, [1, 12]), (.iload_n 1, []), (.iadd, []), (.sipush 9999, [9999]), (.if_icmp .le 6, [30]), (.bipush (-3), [3, 1]), (.ireturn, [])], 0),
  (30, [(.iconst 0, [0]), (.istore_n 2, []), (.iconst 0, [0]), (.istore_n 3, [])], 34),
  (34, [(.iload_n 3, []), (.iload_n 1, []), (.if_icmp .ge 36, [72]), (.aload_n 0, []), (.getfield 10, [7, 0]), (.invokevirtual 184, [39, 1, 1])], 46),
  (46, [(.istore 4, []), (.iload_n 2, []), (.aload_n 0, []), (.getfield 10, [7, 0]), (.iload 4, []), (.iconst 4, [4]), (.irem, []), (.iload 4, []), (.iconst 4, [4]), (.idiv, []), (.invokevirtual 180, [40, 3, 1])], 64),
  (64, [(.iadd, []), (.istore_n 2, []), (.iinc 3 1, [1]), (.goto (-35), [34])], 0),
  (72, [(.iload_n 2, []), (.ireturn, [])], 0)]
def mj_c16 : mj_C := [(0, [(.iload_n 1, []), (.ifCond .ge 5, [6]), (.iconst (-1), [1, 1]), (.ireturn, [])], 0),
  (6, [(.aload_n 0, []), (.getfield 10, [7, 0]), (.getfield 187, [1, 13]), (.istore_n 2, []), (.aload_n 0, []), (.getfield 10, [7, 0]), (.iload_n 1, []), (.putfield 187, [1, 13, 0]), (.iload_n 2, []), (.ireturn, [])], 0)]
def mj_c17 : mj_C := [(0, [(.aload_n 0, []), (.getfield 10, [7, 0]), (.iload_n 1, []), (.invokevirtual 87, [28, 2, 1])], 8),
  (8, [(.ifCond .eq 22, [30]), (.iload_n 2, []), (.iconst 1, [1]), (.bipush 24, [24]), (.invokestatic 65, [21, 3, 1])], 18),
  (18, [(.ifCond .ne 12, [30]), (.iload_n 3, []), (.iconst 0, [0]), (.iconst 1, [1]), (.invokestatic 65, [21, 3, 1])], 27),
  (27, [(.ifCond .eq 5, [32])], 30),
  (30, [(.iconst (-1), [1, 1]), (.ireturn, [])], 0),
  (32, [(.aload_n 0, []), (.getfield 22, [7, 2]), (.aload_n 0, []), (.getfield 10, [7, 0]), (.invokevirtual 190, [24, 2, 0])], 43),
  (43, [(.iload_n 3, []), (.iconst 1, [1]), (.if_icmp .ne 19, [64]), (.aload_n 0, []), (.getfield 22, [7, 2]), (.getfield 197, [0, 0]), (.getfield 125, [1, 4]), (.iload_n 1, []), (.aaload, []), (.iconst 0, [0]), (.invokestatic 200, [61, 2, 0])], 64),
  (64, [(.aload_n 0, []), (.getfield 22, [7, 2]), (.iload_n 1, []), (.iload_n 2, []), (.invokevirtual 194, [25, 3, 0])], 73),
  (73, [(.aload_n 0, []), (.getfield 22, [7, 2]), (.getfield 197, [0, 0]), (.getfield 95, [1, 2]), (.iload_n 1, []), (.iaload, []), (.ireturn, [])], 0)]
def mj_c18 : mj_C := [(0, [(.aload_n 0, []), (.getfield 10, [7, 0]), (.iload_n 1, []), (.invokevirtual 104, [30, 2, 1])], 8),
  (8, [(.ifCond .eq 22, [30]), (.iload_n 2, []), (.iconst 1, [1]), (.bipush 12, [12]), (.invokestatic 65, [21, 3, 1])], 18),
  (18, [(.ifCond .ne 12, [30]), (.iload_n 3, []), (.iconst (-1), [1, 1]), (.iconst 5, [5]), (.invokestatic 65, [21, 3, 1])], 27),
  (27, [(.ifCond .eq 5, [32])], 30),
  (30, [(.iconst (-1), [1, 1]), (.ireturn, [])], 0),
  (32, [(.aload_n 0, []), (.getfield 29, [7, 3]), (.aload_n 0, []), (.getfield 10, [7, 0]), (.iload_n 1, []), (.iload_n 2, []), (.invokevirtual 206, [47, 4, 1])], 45),
  (45, [(.istore 4, []), (.iload 4, []), (.ifCond .ge 6, [55]), (.bipush (-4), [4, 1]), (.ireturn, [])], 0),
  (55, [(.iload_n 3, []), (.ifCond .ge 8, [64]), (.iload 4, []), (.goto 12, [73])], 0),
  (64, [(.aload_n 0, []), (.getfield 29, [7, 3]), (.getfield 210, [4, 3]), (.iload_n 3, []), (.iaload, [])], 73),
  (73, [(.ireturn, [])], 0)]
def mj_c19 : mj_C := [(0, [(.aload_n 0, []), (.getfield 16, [7, 1]), (.aload_n 0, []), (.getfield 10, [7, 0]), (.invokevirtual 223, [26, 2, 0])], 11),
  (11, [(.aload_n 0, []), (.iconst 1, [1]), (.putfield 61, [7, 8, 1]), (.iconst 1, [1]), (.ireturn, [])], 0)]
def mj_c20 : mj_C := [(0, [(.aload_n 0, []), (.getfield 61, [7, 8]), (.ifCond .ne 6, [10]), (.bipush (-4), [4, 1]), (.ireturn, [])], 0),
  (10, [(.aload_n 0, []), (.getfield 10, [7, 0]), (.aload_n 0, []), (.getfield 16, [7, 1]), (.invokevirtual 223, [26, 2, 0])], 21),
  (21, [(.iconst 1, [1]), (.ireturn, [])], 0)]
def mj_c21 : mj_C := [(0, [(.iload_n 0, []), (.iload_n 1, []), (.if_icmp .lt 8, [10]), (.iload_n 0, []), (.iload_n 2, []), (.if_icmp .le 7, [14])], 10),
  (10, [(.iconst 1, [1]), (.goto 4, [15])], 0),
  (14, [(.iconst 0, [0])], 15),
  (15, [(.ireturn, [1])], 0)]
def mj_c22 : mj_C := [(0, [(.lload_n 0, []), (.bipush 8, [8]), (.iload_n 2, []), (.imul, []), (.lushr, []), (.l2i, []), (.sipush 255, [255]), (.iand, []), (.ireturn, [])], 0)]
def mj_c23 : mj_C := [(0, [(.iconst 0, [0]), (.istore_n 1, []), (.aload_n 0, []), (.astore_n 2, []), (.aload_n 2, []), (.arraylength, []), (.istore_n 3, []), (.iconst 0, [0]), (.istore 4, [])], 10),
  (10, [(.iload 4, []), (.iload_n 3, []), (.if_icmp .ge 20, [33]), (.aload_n 2, []), (.iload 4, []), (.iaload, []), (.istore 5, []), (.iload_n 1, []), (.iload 5, []), (.iadd, []), (.istore_n 1, []), (.iinc 4 1, [1]), (.goto (-20), [10])], 0),
  (33, [(.iload_n 1, []), (.ireturn, [])], 0)]
def mj_c24 : mj_C := [(0, [(.aload_n 0, []), (.getfield 10, [0, 0]), (.aload_n 1, []), (.invokevirtual 16, [26, 2, 0])], 8),
  (8, [(.return_, [])], 0)]
def mj_c25 : mj_C := [(0, [(.iconst 0, [0]), (.istore_n 3, [])], 2),
  (2, [(.iload_n 3, []), (.iload_n 2, []), (.if_icmp .ge 61, [65]), (.aload_n 0, []), (.getfield 10, [0, 0]), (.getfield 20, [1, 12]), (.iload_n 3, []), (.iadd, []), (.istore 4, []), (.aload_n 0, []), (.getfield 10, [0, 0]), (.iload_n 1, []), (.aload_n 0, []), (.getfield 10, [0, 0]), (.getfield 24, [1, 11]), (.iload 4, []), (.invokevirtual 28, [58, 2, 1])], 35),
  (35, [(.aload_n 0, []), (.getfield 10, [0, 0]), (.getfield 24, [1, 11]), (.iload 4, []), (.invokevirtual 34, [59, 2, 1])], 47),
  (47, [(.invokevirtual 37, [41, 4, 0])], 50),
  (50, [(.aload_n 0, []), (.getfield 10, [0, 0]), (.iload_n 1, []), (.invokevirtual 41, [42, 2, 1])], 58),
  (58, [(.pop, []), (.iinc 3 1, [1]), (.goto (-60), [2])], 0),
  (65, [(.return_, [])], 0)]
def mj_c26 : mj_C := [(0, [(.aload_n 0, []), (.aload_n 1, []), (.getfield 9, [1, 0]), (.putfield 9, [1, 0, 0]), (.aload_n 0, []), (.aload_n 1, []), (.getfield 30, [1, 5]), (.putfield 30, [1, 5, 0]), (.aload_n 0, []), (.aload_n 1, []), (.getfield 55, [1, 12]), (.putfield 55, [1, 12, 0]), (.aload_n 0, []), (.aload_n 1, []), (.getfield 58, [1, 13]), (.putfield 58, [1, 13, 0]), (.iconst 0, [0]), (.istore_n 2, [])], 34),
  (34, [(.iload_n 2, []), (.bipush 6, [6]), (.if_icmp .ge 15, [52]), (.aload_n 0, []), (.aload_n 1, []), (.iload_n 2, []), (.invokevirtual 61, [27, 3, 0])], 46),
  (46, [(.iinc 2 1, [1]), (.goto (-15), [34])], 0),
  (52, [(.aload_n 1, []), (.getfield 33, [1, 6]), (.iconst 0, [0]), (.aload_n 0, []), (.getfield 33, [1, 6]), (.iconst 0, [0]), (.iconst 4, [4]), (.invokestatic 65, []), (.aload_n 1, []), (.getfield 36, [1, 7]), (.iconst 0, [0]), (.aload_n 0, []), (.getfield 36, [1, 7]), (.iconst 0, [0]), (.iconst 4, [4]), (.invokestatic 65, []), (.aload_n 1, []), (.getfield 39, [1, 8]), (.iconst 0, [0]), (.aload_n 0, []), (.getfield 39, [1, 8]), (.iconst 0, [0]), (.iconst 4, [4]), (.invokestatic 65, []), (.aload_n 1, []), (.getfield 42, [1, 9]), (.iconst 0, [0]), (.aload_n 0, []), (.getfield 42, [1, 9]), (.iconst 0, [0]), (.iconst 4, [4]), (.invokestatic 65, []), (.aload_n 1, []), (.getfield 45, [1, 10]), (.iconst 0, [0]), (.aload_n 0, []), (.getfield 45, [1, 10]), (.iconst 0, [0]), (.bipush 25, [25]), (.invokestatic 65, []), (.aload_n 0, []), (.getfield 51, [1, 11]), (.aload_n 1, []), (.getfield 51, [1, 11]), (.invokevirtual 71, [60, 2, 0])], 134),
  (134, [(.return_, [])], 0)]
def mj_c27 : mj_C := [(0, [(.aload_n 0, []), (.getfield 15, [1, 1]), (.iload_n 2, []), (.aload_n 1, []), (.getfield 15, [1, 1]), (.iload_n 2, []), (.iaload, []), (.iastore, []), (.aload_n 0, []), (.getfield 19, [1, 2]), (.iload_n 2, []), (.aload_n 1, []), (.getfield 19, [1, 2]), (.iload_n 2, []), (.iaload, []), (.iastore, []), (.aload_n 0, []), (.getfield 22, [1, 3]), (.iload_n 2, []), (.aload_n 1, []), (.getfield 22, [1, 3]), (.iload_n 2, []), (.iaload, []), (.iastore, []), (.aload_n 1, []), (.getfield 27, [1, 4]), (.iload_n 2, []), (.aaload, []), (.iconst 0, [0]), (.aload_n 0, []), (.getfield 27, [1, 4]), (.iload_n 2, []), (.aaload, []), (.iconst 0, [0]), (.iconst 4, [4]), (.invokestatic 65, []), (.return_, [])], 0)]
def mj_c28 : mj_C := [(0, [(.iload_n 1, []), (.ifCond .lt 15, [16]), (.iload_n 1, []), (.aload_n 0, []), (.getfield 9, [1, 0]), (.if_icmp .ge 7, [16]), (.iconst 1, [1]), (.goto 4, [17])], 0),
  (16, [(.iconst 0, [0])], 17),
  (17, [(.ireturn, [1])], 0)]
def mj_c29 : mj_C := [(0, [(.aload_n 0, []), (.iload_n 1, []), (.invokevirtual 75, [28, 2, 1])], 5),
  (5, [(.ifCond .eq 18, [23]), (.aload_n 0, []), (.getfield 19, [1, 2]), (.iload_n 1, []), (.iaload, []), (.bipush 25, [25]), (.if_icmp .eq 7, [23]), (.iconst 1, [1]), (.goto 4, [24])], 0),
  (23, [(.iconst 0, [0])], 24),
  (24, [(.ireturn, [1])], 0)]
def mj_c30 : mj_C := [(0, [(.iload_n 1, []), (.ifCond .lt 15, [16]), (.iload_n 1, []), (.aload_n 0, []), (.getfield 30, [1, 5]), (.if_icmp .ge 7, [16]), (.iconst 1, [1]), (.goto 4, [17])], 0),
  (16, [(.iconst 0, [0])], 17),
  (17, [(.ireturn, [1])], 0)]
def mj_c31 : mj_C := [(0, [(.iconst 0, [0]), (.istore_n 2, [])], 2),
  (2, [(.iload_n 2, []), (.aload_n 0, []), (.getfield 30, [1, 5]), (.if_icmp .ge 21, [28]), (.aload_n 0, []), (.getfield 33, [1, 6]), (.iload_n 2, []), (.iaload, []), (.iload_n 1, []), (.if_icmp .ne 5, [22]), (.iload_n 2, []), (.ireturn, [])], 0),
  (22, [(.iinc 2 1, [1]), (.goto (-23), [2])], 0),
  (28, [(.iconst (-1), [1, 1]), (.ireturn, [])], 0)]
def mj_c32 : mj_C := [(0, [(.aload_n 0, []), (.getfield 9, [1, 0]), (.istore 4, []), (.aload_n 0, []), (.getfield 15, [1, 1]), (.iload 4, []), (.iload_n 1, []), (.iastore, []), (.aload_n 0, []), (.getfield 19, [1, 2]), (.iload 4, []), (.iload_n 2, []), (.iastore, []), (.aload_n 0, []), (.getfield 22, [1, 3]), (.iload 4, []), (.iload_n 3, []), (.iastore, []), (.aload_n 0, []), (.getfield 27, [1, 4]), (.iload 4, []), (.aaload, []), (.iconst 0, [0]), (.invokestatic 79, [61, 2, 0])], 41),
  (41, [(.aload_n 0, []), (.dup, []), (.getfield 9, [1, 0]), (.iconst 1, [1]), (.iadd, []), (.putfield 9, [1, 0, 0]), (.iload 4, []), (.ireturn, [])], 0)]
def mj_c33 : mj_C := [(0, [(.aload_n 0, []), (.getfield 30, [1, 5]), (.istore 4, []), (.aload_n 0, []), (.getfield 33, [1, 6]), (.iload 4, []), (.iload_n 1, []), (.iastore, []), (.aload_n 0, []), (.getfield 36, [1, 7]), (.iload 4, []), (.iload_n 2, []), (.iastore, []), (.aload_n 0, []), (.getfield 39, [1, 8]), (.iload 4, []), (.iload_n 3, []), (.iastore, []), (.aload_n 0, []), (.getfield 42, [1, 9]), (.iload 4, []), (.iconst 0, [0]), (.iastore, []), (.aload_n 0, []), (.dup, []), (.getfield 30, [1, 5]), (.iconst 1, [1]), (.iadd, []), (.putfield 30, [1, 5, 0]), (.iload 4, []), (.ireturn, [])], 0)]
def mj_c34 : mj_C := [(0, [(.aload_n 0, []), (.getfield 27, [1, 4]), (.iload_n 1, []), (.aaload, []), (.invokestatic 85, [23, 1, 1])], 9),
  (9, [(.ireturn, [])], 0)]
def mj_c35 : mj_C := [(0, [(.iconst 0, [0]), (.istore_n 2, []), (.iconst 0, [0]), (.istore_n 3, [])], 4),
  (4, [(.iload_n 3, []), (.aload_n 0, []), (.getfield 9, [1, 0]), (.if_icmp .ge 20, [29]), (.iload_n 2, []), (.aload_n 0, []), (.getfield 27, [1, 4]), (.iload_n 3, []), (.aaload, []), (.iload_n 1, []), (.iaload, []), (.iadd, []), (.istore_n 2, []), (.iinc 3 1, [1]), (.goto (-22), [4])], 0),
  (29, [(.iload_n 2, []), (.ireturn, [])], 0)]
def mj_c36 : mj_C := [(0, [(.iconst 0, [0]), (.istore_n 1, []), (.iconst 0, [0]), (.istore_n 2, [])], 4),
  (4, [(.iload_n 2, []), (.aload_n 0, []), (.getfield 9, [1, 0]), (.if_icmp .ge 20, [29]), (.aload_n 0, []), (.iload_n 2, []), (.invokevirtual 89, [29, 2, 1])], 17),
  (17, [(.ifCond .eq 6, [23]), (.iinc 1 1, [1])], 23),
  (23, [(.iinc 2 1, [1]), (.goto (-22), [4])], 0),
  (29, [(.iload_n 1, []), (.ireturn, [])], 0)]
def mj_c37 : mj_C := [(0, [(.iconst 0, [0]), (.istore_n 2, []), (.iconst 0, [0]), (.istore_n 3, [])], 4),
  (4, [(.iload_n 3, []), (.aload_n 0, []), (.getfield 9, [1, 0]), (.if_icmp .ge 27, [36]), (.aload_n 0, []), (.iload_n 3, []), (.invokevirtual 89, [29, 2, 1])], 17),
  (17, [(.iload_n 1, []), (.if_icmp .ne 12, [30]), (.iload_n 2, []), (.aload_n 0, []), (.getfield 22, [1, 3]), (.iload_n 3, []), (.iaload, []), (.iadd, []), (.istore_n 2, [])], 30),
  (30, [(.iinc 3 1, [1]), (.goto (-29), [4])], 0),
  (36, [(.iload_n 2, []), (.ireturn, [])], 0)]
def mj_c38 : mj_C := [(0, [(.aload_n 0, []), (.getfield 22, [1, 3]), (.iload_n 1, []), (.iaload, []), (.aload_n 0, []), (.getfield 22, [1, 3]), (.iload_n 2, []), (.iaload, []), (.iadd, []), (.istore_n 3, []), (.aload_n 0, []), (.getfield 22, [1, 3]), (.iload_n 1, []), (.iload_n 3, []), (.sipush 999, [999]), (.invokestatic 92, [1]), (.iastore, []), (.aload_n 0, []), (.getfield 45, [1, 10]), (.aload_n 0, []), (.getfield 19, [1, 2]), (.iload_n 1, []), (.iaload, []), (.dup2, []), (.iaload, []), (.iload_n 3, []), (.aload_n 0, []), (.getfield 22, [1, 3]), (.iload_n 1, []), (.iaload, []), (.isub, []), (.iadd, []), (.iastore, []), (.aload_n 0, []), (.getfield 22, [1, 3]), (.iload_n 2, []), (.iconst 0, [0]), (.iastore, []), (.aload_n 0, []), (.getfield 19, [1, 2]), (.iload_n 2, []), (.bipush 25, [25]), (.iastore, []), (.aload_n 0, []), (.getfield 27, [1, 4]), (.iload_n 2, []), (.aaload, []), (.iconst 0, [0]), (.invokestatic 79, [61, 2, 0])], 74),
  (74, [(.return_, [])], 0)]
def mj_c39 : mj_C := [(0, [(.aload_n 0, []), (.aload_n 0, []), (.getfield 58, [1, 13]), (.ldc 98, [1103515245]), (.imul, []), (.sipush 12345, [12345]), (.iadd, []), (.ldc 99, [2147483647]), (.iand, []), (.putfield 58, [1, 13, 0]), (.aload_n 0, []), (.getfield 58, [1, 13]), (.ldc 100, [65536]), (.idiv, []), (.bipush 16, [16]), (.irem, []), (.ireturn, [])], 0)]
def mj_c40 : mj_C := [(0, [(.iconst 0, [0]), (.istore_n 3, [])], 2),
  (2, [(.iload_n 3, []), (.aload_n 0, []), (.getfield 9, [1, 0]), (.if_icmp .ge 16, [23]), (.aload_n 0, []), (.iload_n 3, []), (.iload_n 1, []), (.iload_n 2, []), (.invokevirtual 101, [41, 4, 0])], 17),
  (17, [(.iinc 3 1, [1]), (.goto (-18), [2])], 0),
  (23, [(.iconst 0, [0]), (.istore_n 3, []), (.iconst 0, [0]), (.istore 4, [])], 28),
  (28, [(.iload 4, []), (.aload_n 0, []), (.getfield 9, [1, 0]), (.if_icmp .ge 18, [52]), (.iload_n 3, []), (.aload_n 0, []), (.iload 4, []), (.invokevirtual 105, [42, 2, 1])], 44),
  (44, [(.iadd, []), (.istore_n 3, []), (.iinc 4 1, [1]), (.goto (-21), [28])], 0),
  (52, [(.aload_n 0, []), (.dup, []), (.getfield 55, [1, 12]), (.iconst 1, [1]), (.iadd, []), (.putfield 55, [1, 12, 0]), (.iload_n 3, []), (.ireturn, [])], 0)]
def mj_c41 : mj_C := [(0, [(.aload_n 0, []), (.iload_n 1, []), (.invokevirtual 89, [29, 2, 1])], 5),
  (5, [(.ifCond .ne 4, [9]), (.return_, [])], 0),
  (9, [(.iload_n 3, []), (.getstatic 109, [80]), (.aload_n 0, []), (.getfield 15, [1, 1]), (.iload_n 1, []), (.iaload, []), (.iaload, []), (.imul, []), (.istore 4, []), (.aload_n 0, []), (.iload_n 1, []), (.invokevirtual 112, [34, 2, 1])], 28),
  (28, [(.istore 5, []), (.aload_n 0, []), (.iload_n 1, []), (.invokevirtual 115, [43, 2, 1])], 35),
  (35, [(.istore 6, []), (.aload_n 0, []), (.getfield 27, [1, 4]), (.iload_n 1, []), (.aaload, []), (.iload 6, []), (.iaload, []), (.istore 7, []), (.iload 7, []), (.ifCond .le 41, [91]), (.iload 7, []), (.iload 5, []), (.iload 7, []), (.isub, []), (.iload 4, []), (.iadd, []), (.if_icmp .lt 28, [91]), (.aload_n 0, []), (.getfield 19, [1, 2]), (.iload_n 1, []), (.aload_n 0, []), (.getfield 19, [1, 2]), (.iload_n 1, []), (.iaload, []), (.aload_n 0, []), (.getfield 33, [1, 6]), (.iload 6, []), (.iaload, []), (.invokestatic 118, [45, 2, 1])], 87),
  (87, [(.iastore, []), (.goto 42, [130])], 0),
  (91, [(.iload 5, []), (.iload 4, []), (.if_icmp .ge 35, [130]), (.aload_n 0, []), (.getfield 19, [1, 2]), (.iload_n 1, []), (.aload_n 0, []), (.getfield 19, [1, 2]), (.iload_n 1, []), (.iaload, []), (.iload_n 2, []), (.invokestatic 121, [46, 2, 1])], 113),
  (113, [(.iastore, []), (.aload_n 0, []), (.getfield 19, [1, 2]), (.iload_n 1, []), (.iaload, []), (.bipush 25, [25]), (.if_icmp .ne 8, [130]), (.aload_n 0, []), (.iload_n 1, []), (.invokevirtual 124, [44, 2, 0])], 130),
  (130, [(.return_, [])], 0)]
def mj_c42 : mj_C := [(0, [(.aload_n 0, []), (.iload_n 1, []), (.invokevirtual 89, [29, 2, 1])], 5),
  (5, [(.ifCond .ne 5, [10]), (.iconst 0, [0]), (.ireturn, [])], 0),
  (10, [(.getstatic 128, [81]), (.aload_n 0, []), (.getfield 15, [1, 1]), (.iload_n 1, []), (.iaload, []), (.iaload, []), (.aload_n 0, []), (.getfield 22, [1, 3]), (.iload_n 1, []), (.iaload, []), (.invokestatic 92, [1]), (.istore_n 2, []), (.aload_n 0, []), (.getfield 22, [1, 3]), (.iload_n 1, []), (.dup2, []), (.iaload, []), (.iload_n 2, []), (.isub, []), (.iastore, []), (.aload_n 0, []), (.getfield 45, [1, 10]), (.aload_n 0, []), (.getfield 19, [1, 2]), (.iload_n 1, []), (.iaload, []), (.dup2, []), (.iaload, []), (.iload_n 2, []), (.iadd, []), (.iastore, []), (.aload_n 0, []), (.aload_n 0, []), (.getfield 19, [1, 2]), (.iload_n 1, []), (.iaload, []), (.invokevirtual 131, [31, 2, 1])], 65),
  (65, [(.istore_n 3, []), (.iload_n 3, []), (.ifCond .lt 23, [90]), (.aload_n 0, []), (.getfield 15, [1, 1]), (.iload_n 1, []), (.iaload, []), (.iconst 3, [3]), (.if_icmp .eq 13, [90]), (.aload_n 0, []), (.getfield 42, [1, 9]), (.iload_n 3, []), (.dup2, []), (.iaload, []), (.iload_n 2, []), (.iadd, []), (.iastore, [])], 90),
  (90, [(.iload_n 2, []), (.ireturn, [])], 0)]
def mj_c43 : mj_C := [(0, [(.iconst 0, [0]), (.istore_n 2, []), (.iconst 1, [1]), (.istore_n 3, [])], 4),
  (4, [(.iload_n 3, []), (.aload_n 0, []), (.getfield 30, [1, 5]), (.if_icmp .ge 30, [39]), (.aload_n 0, []), (.getfield 27, [1, 4]), (.iload_n 1, []), (.aaload, []), (.iload_n 3, []), (.iaload, []), (.aload_n 0, []), (.getfield 27, [1, 4]), (.iload_n 1, []), (.aaload, []), (.iload_n 2, []), (.iaload, []), (.if_icmp .le 5, [33]), (.iload_n 3, []), (.istore_n 2, [])], 33),
  (33, [(.iinc 3 1, [1]), (.goto (-32), [4])], 0),
  (39, [(.iload_n 2, []), (.ireturn, [])], 0)]
def mj_c44 : mj_C := [(0, [(.iconst 0, [0]), (.istore_n 2, [])], 2),
  (2, [(.iload_n 2, []), (.aload_n 0, []), (.getfield 30, [1, 5]), (.if_icmp .ge 35, [42]), (.aload_n 0, []), (.getfield 36, [1, 7]), (.iload_n 2, []), (.dup2, []), (.iaload, []), (.aload_n 0, []), (.getfield 27, [1, 4]), (.iload_n 1, []), (.aaload, []), (.iload_n 2, []), (.iaload, []), (.isub, []), (.iastore, []), (.aload_n 0, []), (.getfield 27, [1, 4]), (.iload_n 1, []), (.aaload, []), (.iload_n 2, []), (.iconst 0, [0]), (.iastore, []), (.iinc 2 1, [1]), (.goto (-37), [2])], 0),
  (42, [(.return_, [])], 0)]
def mj_c45 : mj_C := [(0, [(.iload_n 1, []), (.iconst 5, [5]), (.idiv, []), (.iload_n 0, []), (.iconst 5, [5]), (.idiv, []), (.isub, []), (.istore_n 2, []), (.iload_n 1, []), (.iconst 5, [5]), (.irem, []), (.iload_n 0, []), (.iconst 5, [5]), (.irem, []), (.isub, []), (.istore_n 3, []), (.iload_n 2, []), (.ifCond .eq 17, [34]), (.iload_n 2, []), (.ifCond .le 9, [30]), (.iload_n 0, []), (.iconst 5, [5]), (.iadd, []), (.goto 6, [33])], 0),
  (30, [(.iload_n 0, []), (.iconst 5, [5]), (.isub, [])], 33),
  (33, [(.ireturn, [])], 0),
  (34, [(.iload_n 3, []), (.ifCond .eq 17, [52]), (.iload_n 3, []), (.ifCond .le 9, [48]), (.iload_n 0, []), (.iconst 1, [1]), (.iadd, []), (.goto 6, [51])], 0),
  (48, [(.iload_n 0, []), (.iconst 1, [1]), (.isub, [])], 51),
  (51, [(.ireturn, [])], 0),
  (52, [(.iload_n 0, []), (.ireturn, [])], 0)]
def mj_c46 : mj_C := [(0, [(.iload_n 0, []), (.iconst 5, [5]), (.idiv, []), (.istore_n 2, []), (.iload_n 0, []), (.iconst 5, [5]), (.irem, []), (.istore_n 3, []), (.iload_n 1, []), (.tableswitch 67 0 2 #[27, 40, 53], [76, 36, 49, 62])], 0),
  (36, [(.iload_n 2, []), (.ifCond .le 9, [46]), (.iload_n 0, []), (.iconst 5, [5]), (.isub, []), (.goto 5, [48])], 0),
  (46, [(.bipush 25, [25])], 48),
  (48, [(.ireturn, [])], 0),
  (49, [(.iload_n 3, []), (.ifCond .le 9, [59]), (.iload_n 0, []), (.iconst 1, [1]), (.isub, []), (.goto 5, [61])], 0),
  (59, [(.bipush 25, [25])], 61),
  (61, [(.ireturn, [])], 0),
  (62, [(.iload_n 3, []), (.iconst 4, [4]), (.if_icmp .ge 9, [73]), (.iload_n 0, []), (.iconst 1, [1]), (.iadd, []), (.goto 5, [75])], 0),
  (73, [(.bipush 25, [25])], 75),
  (75, [(.ireturn, [])], 0),
  (76, [(.iload_n 2, []), (.iconst 4, [4]), (.if_icmp .ge 9, [87]), (.iload_n 0, []), (.iconst 5, [5]), (.iadd, []), (.goto 5, [89])], 0),
  (87, [(.bipush 25, [25])], 89),
  (89, [(.ireturn, [])], 0)]
def mj_c47 : mj_C := [(0, [(.aload_n 1, []), (.getfield 30, [1, 7]), (.iload_n 2, []), (.iaload, []), (.bipush 9, [9]), (.invokestatic 35, [1]), (.istore 4, []), (.aload_n 1, []), (.getfield 41, [1, 8]), (.iload_n 2, []), (.iaload, []), (.aload_n 1, []), (.getfield 44, [1, 9]), (.iload_n 2, []), (.iaload, []), (.isub, []), (.istore 5, []), (.aload_n 0, []), (.aload_n 1, []), (.iload_n 2, []), (.iload_n 3, []), (.iload 4, []), (.invokevirtual 47, [48, 5, 0])], 37),
  (37, [(.aload_n 0, []), (.iload 4, []), (.invokevirtual 51, [50, 2, 0])], 43),
  (43, [(.iconst 0, [0]), (.istore 6, [])], 46),
  (46, [(.iload 6, []), (.iload 4, []), (.if_icmp .gt 34, [84]), (.aload_n 0, []), (.getfield 23, [4, 2]), (.iconst 0, [0]), (.aaload, []), (.iload 6, []), (.iaload, []), (.iload 5, []), (.if_icmp .lt 14, [78]), (.aload_n 0, []), (.iload 6, []), (.iload 5, []), (.invokevirtual 55, [51, 3, 0])], 75),
  (75, [(.iload 6, []), (.ireturn, [])], 0),
  (78, [(.iinc 6 1, [1]), (.goto (-35), [46])], 0),
  (84, [(.iconst (-1), [1, 1]), (.ireturn, [])], 0)]
def mj_c48 : mj_C := [(0, [(.aload_n 0, []), (.getfield 12, [4, 0]), (.aload_n 1, []), (.invokevirtual 59, [24, 2, 0])], 8),
  (8, [(.iconst 0, [0]), (.istore 5, [])], 11),
  (11, [(.iload 5, []), (.bipush 6, [6]), (.if_icmp .ge 92, [107]), (.aload_n 1, []), (.iload 5, []), (.invokevirtual 63, [29, 2, 1])], 24),
  (24, [(.istore 6, []), (.aload_n 0, []), (.getfield 20, [4, 1]), (.iload 5, []), (.aaload, []), (.iconst 0, [0]), (.iload 6, []), (.ifCond .eq 16, [52]), (.aload_n 0, []), (.aload_n 1, []), (.iload_n 2, []), (.iload_n 3, []), (.iload 5, []), (.iconst 0, [0]), (.invokevirtual 67, [49, 6, 1])], 49),
  (49, [(.goto 4, [53])], 0),
  (52, [(.iconst 0, [0])], 53),
  (53, [(.iastore, []), (.iconst 1, [1]), (.istore 7, [])], 57),
  (57, [(.iload 7, []), (.iload 4, []), (.if_icmp .gt 40, [101]), (.aload_n 0, []), (.getfield 20, [4, 1]), (.iload 5, []), (.aaload, []), (.iload 7, []), (.iload 6, []), (.ifCond .eq 17, [92]), (.aload_n 0, []), (.aload_n 1, []), (.iload_n 2, []), (.iload_n 3, []), (.iload 5, []), (.iload 7, []), (.invokevirtual 67, [49, 6, 1])], 89),
  (89, [(.goto 5, [94])], 0),
  (92, [(.ldc 71, [1000000, 1])], 94),
  (94, [(.iastore, []), (.iinc 7 1, [1]), (.goto (-41), [57])], 0),
  (101, [(.iinc 5 1, [1]), (.goto (-93), [11])], 0),
  (107, [(.return_, [])], 0)]
def mj_c49 : mj_C := [(0, [(.aload_n 0, []), (.getfield 12, [4, 0]), (.getfield 72, [0, 0]), (.astore 6, []), (.aload 6, []), (.aload_n 1, []), (.iload 4, []), (.invokevirtual 76, [27, 3, 0])], 17),
  (17, [(.aload 6, []), (.getfield 80, [1, 4]), (.iload 4, []), (.aaload, []), (.iload_n 2, []), (.iload 5, []), (.iastore, []), (.aload 6, []), (.getfield 44, [1, 9]), (.iload_n 2, []), (.iconst 0, [0]), (.iastore, []), (.aload_n 0, []), (.getfield 12, [4, 0]), (.iload 4, []), (.iload_n 3, []), (.invokevirtual 83, [25, 3, 0])], 47),
  (47, [(.aload 6, []), (.getfield 44, [1, 9]), (.iload_n 2, []), (.iaload, []), (.ireturn, [])], 0)]
def mj_c50 : mj_C := [(0, [(.iconst 5, [5]), (.istore_n 2, [])], 2),
  (2, [(.iload_n 2, []), (.ifCond .lt 89, [92]), (.iconst 0, [0]), (.istore_n 3, [])], 8),
  (8, [(.iload_n 3, []), (.iload_n 1, []), (.if_icmp .gt 76, [86]), (.aload_n 0, []), (.getfield 23, [4, 2]), (.iload_n 2, []), (.aaload, []), (.iload_n 3, []), (.ldc 71, [1000000, 1]), (.iastore, []), (.iconst 0, [0]), (.istore 4, [])], 26),
  (26, [(.iload 4, []), (.iload_n 3, []), (.if_icmp .gt 51, [80]), (.aload_n 0, []), (.getfield 23, [4, 2]), (.iload_n 2, []), (.aaload, []), (.iload_n 3, []), (.aload_n 0, []), (.getfield 23, [4, 2]), (.iload_n 2, []), (.aaload, []), (.iload_n 3, []), (.iaload, []), (.aload_n 0, []), (.getfield 20, [4, 1]), (.iload_n 2, []), (.aaload, []), (.iload 4, []), (.iaload, []), (.aload_n 0, []), (.getfield 23, [4, 2]), (.iload_n 2, []), (.iconst 1, [1]), (.iadd, []), (.aaload, []), (.iload_n 3, []), (.iload 4, []), (.isub, []), (.iaload, []), (.iadd, []), (.invokestatic 86, [0]), (.iastore, []), (.iinc 4 1, [1]), (.goto (-51), [26])], 0),
  (80, [(.iinc 3 1, [1]), (.goto (-75), [8])], 0),
  (86, [(.iinc 2 (-1), [1, 1]), (.goto (-87), [2])], 0),
  (92, [(.return_, [])], 0)]
def mj_c51 : mj_C := [(0, [(.iload_n 1, []), (.istore_n 3, []), (.iload_n 2, []), (.istore 4, []), (.iconst 0, [0]), (.istore 5, [])], 8),
  (8, [(.iload 5, []), (.bipush 6, [6]), (.if_icmp .ge 49, [61]), (.aload_n 0, []), (.iload 5, []), (.iload_n 3, []), (.iload 4, []), (.invokevirtual 89, [52, 4, 1])], 24),
  (24, [(.istore 6, []), (.aload_n 0, []), (.getfield 26, [4, 3]), (.iload 5, []), (.iload 6, []), (.iastore, []), (.iload 4, []), (.aload_n 0, []), (.getfield 20, [4, 1]), (.iload 5, []), (.aaload, []), (.iload 6, []), (.iaload, []), (.isub, []), (.istore 4, []), (.iload_n 3, []), (.iload 6, []), (.isub, []), (.istore_n 3, []), (.iinc 5 1, [1]), (.goto (-50), [8])], 0),
  (61, [(.return_, [])], 0)]
def mj_c52 : mj_C := [(0, [(.iconst 0, [0]), (.istore 4, [])], 3),
  (3, [(.iload 4, []), (.iload_n 2, []), (.if_icmp .ge 39, [45]), (.aload_n 0, []), (.getfield 20, [4, 1]), (.iload_n 1, []), (.aaload, []), (.iload 4, []), (.iaload, []), (.aload_n 0, []), (.getfield 23, [4, 2]), (.iload_n 1, []), (.iconst 1, [1]), (.iadd, []), (.aaload, []), (.iload_n 2, []), (.iload 4, []), (.isub, []), (.iaload, []), (.iadd, []), (.iload_n 3, []), (.if_icmp .lt 6, [39]), (.iload 4, []), (.ireturn, [])], 0),
  (39, [(.iinc 4 1, [1]), (.goto (-39), [3])], 0),
  (45, [(.iload_n 2, []), (.ireturn, [])], 0)]
def mj_c53 : mj_C := [(0, [(.aload_n 0, []), (.getfield 15, [5, 1]), (.bipush 48, [48]), (.if_icmp .ge 23, [29]), (.aload_n 0, []), (.getfield 9, [5, 0]), (.aload_n 0, []), (.getfield 15, [5, 1]), (.iload_n 1, []), (.iastore, []), (.aload_n 0, []), (.dup, []), (.getfield 15, [5, 1]), (.iconst 1, [1]), (.iadd, []), (.putfield 15, [5, 1, 0])], 29),
  (29, [(.return_, [])], 0)]
def mj_c54 : mj_C := [(0, [(.aload_n 1, []), (.iconst 0, [0]), (.putfield 19, [6, 2, 0]), (.iconst 0, [0]), (.istore_n 2, []), (.iconst 0, [0]), (.istore_n 3, []), (.iconst 0, [0]), (.istore 4, [])], 12),
  (12, [(.iload 4, []), (.aload_n 0, []), (.getfield 15, [5, 1]), (.if_icmp .ge 84, [102]), (.aload_n 0, []), (.getfield 9, [5, 0]), (.iload 4, []), (.iaload, []), (.istore 5, []), (.iload 5, []), (.bipush 32, [32]), (.if_icmp .ne 6, [40]), (.goto 59, [96])], 0),
  (40, [(.iload 5, []), (.iload_n 2, []), (.aload_n 1, []), (.getfield 19, [6, 2]), (.invokestatic 22, [55, 3, 1])], 50),
  (50, [(.ifCond .ne 9, [59]), (.bipush (-20), [20, 1]), (.iload 4, []), (.isub, []), (.ireturn, [])], 0),
  (59, [(.iload_n 2, []), (.ifCond .ne 14, [74]), (.iload 5, []), (.invokestatic 26, [56, 1, 1])], 68),
  (68, [(.istore_n 3, []), (.iconst 1, [1]), (.istore_n 2, []), (.goto 25, [96])], 0),
  (74, [(.iload_n 2, []), (.iconst 1, [1]), (.if_icmp .ne 18, [94]), (.aload_n 1, []), (.iload_n 3, []), (.iload 5, []), (.bipush 48, [48]), (.isub, []), (.invokevirtual 30, [57, 3, 0])], 89),
  (89, [(.iconst 2, [2]), (.istore_n 2, []), (.goto 5, [96])], 0),
  (94, [(.iconst 0, [0]), (.istore_n 2, [])], 96),
  (96, [(.iinc 4 1, [1]), (.goto (-87), [12])], 0),
  (102, [(.iload_n 2, []), (.iconst 2, [2]), (.if_icmp .ne 10, [114]), (.aload_n 1, []), (.getfield 19, [6, 2]), (.goto 10, [121])], 0),
  (114, [(.bipush (-20), [20, 1]), (.aload_n 0, []), (.getfield 15, [5, 1]), (.isub, [])], 121),
  (121, [(.ireturn, [])], 0)]
def mj_c55 : mj_C := [(0, [(.iload_n 1, []), (.ifCond .ne 16, [17]), (.iload_n 0, []), (.invokestatic 26, [56, 1, 1])], 8),
  (8, [(.ifCond .lt 7, [15]), (.iconst 1, [1]), (.goto 4, [16])], 0),
  (15, [(.iconst 0, [0])], 16),
  (16, [(.ireturn, [1])], 0),
  (17, [(.iload_n 1, []), (.iconst 1, [1]), (.if_icmp .ne 21, [40]), (.iload_n 0, []), (.bipush 48, [48]), (.if_icmp .lt 13, [38]), (.iload_n 0, []), (.bipush 51, [51]), (.if_icmp .gt 7, [38]), (.iconst 1, [1]), (.goto 4, [39])], 0),
  (38, [(.iconst 0, [0])], 39),
  (39, [(.ireturn, [1])], 0),
  (40, [(.iload_n 0, []), (.bipush 44, [44]), (.if_icmp .ne 13, [56]), (.iload_n 2, []), (.bipush 12, [12]), (.if_icmp .ge 7, [56]), (.iconst 1, [1]), (.goto 4, [57])], 0),
  (56, [(.iconst 0, [0])], 57),
  (57, [(.ireturn, [1])], 0)]
def mj_c56 : mj_C := [(0, [(.iload_n 0, []), (.lookupswitch 51 #[(100, 49), (108, 45), (114, 47), (117, 43)], [52, 50, 46, 48, 44])], 0),
  (44, [(.iconst 0, [0]), (.ireturn, [])], 0),
  (46, [(.iconst 1, [1]), (.ireturn, [])], 0),
  (48, [(.iconst 2, [2]), (.ireturn, [])], 0),
  (50, [(.iconst 3, [3]), (.ireturn, [])], 0),
  (52, [(.iconst (-1), [1, 1]), (.ireturn, [])], 0)]
def mj_c57 : mj_C := [(0, [(.aload_n 0, []), (.getfield 18, [6, 2]), (.bipush 12, [12]), (.if_icmp .ge 33, [39]), (.aload_n 0, []), (.getfield 9, [6, 0]), (.aload_n 0, []), (.getfield 18, [6, 2]), (.iload_n 1, []), (.iastore, []), (.aload_n 0, []), (.getfield 15, [6, 1]), (.aload_n 0, []), (.getfield 18, [6, 2]), (.iload_n 2, []), (.iastore, []), (.aload_n 0, []), (.dup, []), (.getfield 18, [6, 2]), (.iconst 1, [1]), (.iadd, []), (.putfield 18, [6, 2, 0])], 39),
  (39, [(.return_, [])], 0)]
def mj_c58 : mj_C := [(0, [(.aload_n 0, []), (.getfield 18, [6, 2]), (.ifCond .le 17, [21]), (.aload_n 0, []), (.getfield 9, [6, 0]), (.iload_n 1, []), (.aload_n 0, []), (.getfield 18, [6, 2]), (.irem, []), (.iaload, []), (.goto 4, [22])], 0),
  (21, [(.iconst 0, [0])], 22),
  (22, [(.ireturn, [])], 0)]
def mj_c59 : mj_C := [(0, [(.aload_n 0, []), (.getfield 18, [6, 2]), (.ifCond .le 17, [21]), (.aload_n 0, []), (.getfield 15, [6, 1]), (.iload_n 1, []), (.aload_n 0, []), (.getfield 18, [6, 2]), (.irem, []), (.iaload, []), (.goto 4, [22])], 0),
  (21, [(.iconst 0, [0])], 22),
  (22, [(.ireturn, [])], 0)]
def mj_c60 : mj_C := [(0, [(.aload_n 1, []), (.getfield 9, [6, 0]), (.iconst 0, [0]), (.aload_n 0, []), (.getfield 9, [6, 0]), (.iconst 0, [0]), (.bipush 12, [12]), (.invokestatic 22, []), (.aload_n 1, []), (.getfield 15, [6, 1]), (.iconst 0, [0]), (.aload_n 0, []), (.getfield 15, [6, 1]), (.iconst 0, [0]), (.bipush 12, [12]), (.invokestatic 22, []), (.aload_n 0, []), (.aload_n 1, []), (.getfield 18, [6, 2]), (.putfield 18, [6, 2, 0]), (.return_, [])], 0)]
def mj_c61 : mj_C := [(0, [(.iconst 0, [0]), (.istore_n 2, []), (.aload_n 0, []), (.arraylength, []), (.istore_n 3, [])], 5),
  (5, [(.iload_n 2, []), (.iload_n 3, []), (.if_icmp .ge 13, [20]), (.aload_n 0, []), (.iload_n 2, []), (.iload_n 1, []), (.iastore, []), (.iinc 2 1, [1]), (.goto (-12), [5])], 0),
  (20, [(.return_, [])], 0)]
def mj_c62 : mj_C := [(0, [(.iload_n 1, []), (.aload_n 0, []), (.arraylength, []), (.if_icmp .ge 9, [12]), (.aload_n 0, []), (.iload_n 1, []), (.iaload, []), (.goto 10, [19])], 0),
  (12, [(.ldc 7, [15485957]), (.iload_n 1, []), (.imul, []), (.bipush 107, [107]), (.iadd, [])], 19),
  (19, [(.ldc 8, [2147483647]), (.iand, []), (.ireturn, [])], 0)]
def mj_c63 : mj_C := [(0, [(.aload_n 0, []), (.iconst 0, [0]), (.invokestatic 9, [62, 2, 1])], 5),
  (5, [(.bipush 7, [7]), (.irem, []), (.ireturn, [])], 0)]
def mj_c64 : mj_C := [(0, [(.aload_n 0, []), (.iconst 0, [0]), (.invokestatic 9, [62, 2, 1])], 5),
  (5, [(.iconst 3, [3]), (.ishr, []), (.iconst 5, [5]), (.irem, []), (.ireturn, [])], 0)]
def mj_c65 : mj_C := [(0, [(.aload_n 0, []), (.iconst 0, [0]), (.invokestatic 9, [62, 2, 1])], 5),
  (5, [(.bipush 6, [6]), (.ishr, []), (.bipush 6, [6]), (.irem, []), (.ireturn, [])], 0)]
def mj_c66 : mj_C := [(0, [(.aload_n 0, []), (.iconst 1, [1]), (.invokestatic 9, [62, 2, 1])], 5),
  (5, [(.iconst 4, [4]), (.iload_n 1, []), (.imul, []), (.ishr, []), (.bipush 16, [16]), (.irem, []), (.ireturn, [])], 0)]
def mj_c67 : mj_C := [(0, [(.aload_n 0, []), (.iconst 2, [2]), (.invokestatic 9, [62, 2, 1])], 5),
  (5, [(.iconst 5, [5]), (.iload_n 1, []), (.imul, []), (.ishr, []), (.aload_n 0, []), (.iconst 0, [0]), (.invokestatic 9, [62, 2, 1])], 14),
  (14, [(.sipush 512, [512]), (.iand, []), (.ifCond .le 8, [26]), (.bipush 12, [12]), (.goto 5, [28])], 0),
  (26, [(.bipush 100, [100])], 28),
  (28, [(.irem, []), (.ireturn, [])], 0)]
def mj_c68 : mj_C := [(0, [(.iconst 1, [1]), (.istore_n 3, []), (.iconst 0, [0]), (.istore 4, [])], 5),
  (5, [(.iload 4, []), (.aload_n 1, []), (.invokestatic 15, [65, 1, 1])], 11),
  (11, [(.if_icmp .ge 112, [123]), (.iload_n 3, []), (.ifCond .eq 108, [123]), (.aload_n 1, []), (.iload 4, []), (.invokestatic 19, [66, 2, 1])], 24),
  (24, [(.iconst 4, [4]), (.irem, []), (.istore 5, []), (.iload 4, []), (.ifCond .eq 14, [44]), (.aload_n 0, []), (.ldc2_w 22, [44]), (.iconst 1, [1]), (.invokevirtual 24, [10, 3, 1])], 41),
  (41, [(.ifCond .le 74, [115])], 44),
  (44, [(.aload_n 0, []), (.iload 5, []), (.ifCond .ne 9, [56]), (.ldc2_w 30, [117]), (.goto 30, [83])], 0),
  (56, [(.iload 5, []), (.iconst 1, [1]), (.if_icmp .ne 9, [68]), (.ldc2_w 32, [108]), (.goto 18, [83])], 0),
  (68, [(.iload 5, []), (.iconst 2, [2]), (.if_icmp .ne 9, [80]), (.ldc2_w 34, [114]), (.goto 6, [83])], 0),
  (80, [(.ldc2_w 36, [100])], 83),
  (83, [(.iconst 1, [1]), (.invokevirtual 24, [10, 3, 1])], 87),
  (87, [(.ifCond .le 28, [115]), (.aload_n 0, []), (.ldc2_w 38, [48]), (.aload_n 1, []), (.iload 4, []), (.invokestatic 19, [66, 2, 1])], 100),
  (100, [(.iconst 4, [4]), (.idiv, []), (.i2l, []), (.ladd, []), (.iconst 1, [1]), (.invokevirtual 24, [10, 3, 1])], 108),
  (108, [(.ifCond .le 7, [115]), (.iconst 1, [1]), (.goto 4, [116])], 0),
  (115, [(.iconst 0, [0])], 116),
  (116, [(.istore_n 3, []), (.iinc 4 1, [1]), (.goto (-115), [5])], 0),
  (123, [(.iload_n 3, []), (.ifCond .eq 25, [149]), (.aload_n 1, []), (.invokestatic 15, [65, 1, 1])], 131),
  (131, [(.ifCond .eq 14, [145]), (.aload_n 0, []), (.invokevirtual 40, [11, 1, 1])], 138),
  (138, [(.aload_n 1, []), (.invokestatic 15, [65, 1, 1])], 142),
  (142, [(.if_icmp .ne 7, [149])], 145),
  (145, [(.iconst 1, [1]), (.goto 4, [150])], 0),
  (149, [(.iconst 0, [0])], 150),
  (150, [(.istore_n 3, []), (.iconst 0, [0]), (.istore 4, [])], 154),
  (154, [(.iload 4, []), (.aload_n 1, []), (.invokestatic 43, [63, 1, 1])], 160),
  (160, [(.if_icmp .ge 118, [278]), (.iload_n 3, []), (.ifCond .eq 114, [278]), (.aload_n 1, []), (.iconst 3, [3]), (.iload 4, []), (.iconst 3, [3]), (.irem, []), (.iadd, []), (.invokestatic 9, [62, 2, 1])], 177),
  (177, [(.bipush 13, [13]), (.iload 4, []), (.iconst 3, [3]), (.idiv, []), (.imul, []), (.ishr, []), (.istore 5, []), (.aload_n 2, []), (.iload 4, []), (.iload 5, []), (.bipush 25, [25]), (.irem, []), (.iastore, []), (.aload_n 2, []), (.bipush 6, [6]), (.iload 4, []), (.iadd, []), (.iconst 1, [1]), (.iload 5, []), (.iconst 5, [5]), (.ishr, []), (.iload 5, []), (.iconst 1, [1]), (.iand, []), (.ifCond .ne 8, [219]), (.bipush 30, [30]), (.goto 6, [222])], 0),
  (219, [(.sipush 200, [200])], 222),
  (222, [(.irem, []), (.iadd, []), (.iastore, []), (.aload_n 2, []), (.bipush 12, [12]), (.iload 4, []), (.iadd, []), (.iload 5, []), (.bipush 10, [10]), (.ishr, []), (.iconst 4, [4]), (.irem, []), (.iastore, []), (.aload_n 0, []), (.aload_n 2, []), (.bipush 12, [12]), (.iload 4, []), (.iadd, []), (.iaload, []), (.aload_n 2, []), (.iload 4, []), (.iaload, []), (.aload_n 2, []), (.bipush 6, [6]), (.iload 4, []), (.iadd, []), (.iaload, []), (.invokevirtual 46, [0, 4, 1])], 261),
  (261, [(.iload 4, []), (.if_icmp .ne 7, [270]), (.iconst 1, [1]), (.goto 4, [271])], 0),
  (270, [(.iconst 0, [0])], 271),
  (271, [(.istore_n 3, []), (.iinc 4 1, [1]), (.goto (-121), [154])], 0),
  (278, [(.iconst 0, [0]), (.istore 4, [])], 281),
  (281, [(.iload 4, []), (.aload_n 1, []), (.invokestatic 50, [64, 1, 1])], 287),
  (287, [(.if_icmp .ge 259, [546]), (.iload_n 3, []), (.ifCond .eq 255, [546]), (.aload_n 1, []), (.bipush 6, [6]), (.invokestatic 9, [62, 2, 1])], 300),
  (300, [(.iconst 5, [5]), (.iload 4, []), (.imul, []), (.ishr, []), (.bipush 25, [25]), (.irem, []), (.istore 5, []), (.iconst 0, [0]), (.istore 6, [])], 313),
  (313, [(.iload 6, []), (.iconst 4, [4]), (.if_icmp .ge 51, [367]), (.iconst 0, [0]), (.istore 7, [])], 322),
  (322, [(.iload 7, []), (.iload 4, []), (.if_icmp .ge 35, [361]), (.aload_n 2, []), (.bipush 50, [50]), (.iload 7, []), (.iadd, []), (.iaload, []), (.iload 5, []), (.if_icmp .ne 13, [351]), (.iload 5, []), (.iconst 1, [1]), (.iadd, []), (.bipush 25, [25]), (.irem, []), (.goto 5, [353])], 0),
  (351, [(.iload 5, [])], 353),
  (353, [(.istore 5, []), (.iinc 7 1, [1]), (.goto (-36), [322])], 0),
  (361, [(.iinc 6 1, [1]), (.goto (-51), [313])], 0),
  (367, [(.aload_n 2, []), (.bipush 50, [50]), (.iload 4, []), (.iadd, []), (.iload 5, []), (.iastore, []), (.aload_n 2, []), (.bipush 42, [42]), (.iload 4, []), (.iadd, []), (.aload_n 1, []), (.bipush 7, [7]), (.invokestatic 9, [62, 2, 1])], 388),
  (388, [(.iconst 4, [4]), (.iload 4, []), (.imul, []), (.ishr, []), (.bipush 10, [10]), (.irem, []), (.iastore, []), (.aload_n 0, []), (.iload 5, []), (.aload_n 2, []), (.bipush 42, [42]), (.iload 4, []), (.iadd, []), (.iaload, []), (.aload_n 1, []), (.iload 4, []), (.invokestatic 53, [67, 2, 1])], 413),
  (413, [(.invokevirtual 56, [1, 4, 1])], 416),
  (416, [(.iload 4, []), (.if_icmp .ne 7, [425]), (.iconst 1, [1]), (.goto 4, [426])], 0),
  (425, [(.iconst 0, [0])], 426),
  (426, [(.istore_n 3, []), (.aload_n 2, []), (.bipush 42, [42]), (.iload 4, []), (.iadd, []), (.iaload, []), (.istore 6, []), (.iconst 0, [0]), (.istore 7, [])], 439),
  (439, [(.iload 7, []), (.aload_n 1, []), (.invokestatic 43, [63, 1, 1])], 445),
  (445, [(.if_icmp .ge 95, [540]), (.iload_n 3, []), (.ifCond .eq 91, [540]), (.aload_n 1, []), (.bipush 8, [8]), (.iload 4, []), (.iconst 2, [2]), (.irem, []), (.iadd, []), (.invokestatic 9, [62, 2, 1])], 463),
  (463, [(.iconst 4, [4]), (.iload 7, []), (.imul, []), (.iload 4, []), (.iconst 2, [2]), (.idiv, []), (.iadd, []), (.ishr, []), (.iconst 4, [4]), (.irem, []), (.istore 8, []), (.iload 8, []), (.iload 6, []), (.if_icmp .le 8, [489]), (.iload 6, []), (.goto 5, [491])], 0),
  (489, [(.iload 8, [])], 491),
  (491, [(.istore 8, []), (.iload 6, []), (.iload 8, []), (.isub, []), (.istore 6, []), (.aload_n 2, []), (.bipush 18, [18]), (.bipush 6, [6]), (.iload 4, []), (.imul, []), (.iadd, []), (.iload 7, []), (.iadd, []), (.iload 8, []), (.iastore, []), (.aload_n 0, []), (.iload 4, []), (.iload 7, []), (.iload 8, []), (.invokevirtual 59, [5, 4, 1])], 525),
  (525, [(.ifCond .ne 7, [532]), (.iconst 1, [1]), (.goto 4, [533])], 0),
  (532, [(.iconst 0, [0])], 533),
  (533, [(.istore_n 3, []), (.iinc 7 1, [1]), (.goto (-98), [439])], 0),
  (540, [(.iinc 4 1, [1]), (.goto (-262), [281])], 0),
  (546, [(.iload_n 3, []), (.ireturn, [1])], 0)]
def mj_c69 : mj_C := [(0, [(.iload_n 0, []), (.iconst 5, [5]), (.idiv, []), (.iload_n 1, []), (.iconst 5, [5]), (.idiv, []), (.isub, []), (.istore_n 2, []), (.iload_n 0, []), (.iconst 5, [5]), (.irem, []), (.iload_n 1, []), (.iconst 5, [5]), (.irem, []), (.isub, []), (.istore_n 3, []), (.iload_n 2, []), (.ifCond .ge 8, [25]), (.iload_n 2, []), (.ineg, []), (.goto 4, [26])], 0),
  (25, [(.iload_n 2, [])], 26),
  (26, [(.iload_n 3, []), (.ifCond .ge 8, [35]), (.iload_n 3, []), (.ineg, []), (.goto 4, [36])], 0),
  (35, [(.iload_n 3, [])], 36),
  (36, [(.iadd, []), (.ireturn, [])], 0)]
def mj_c70 : mj_C := [(13, [(.aload_n 1, []), (.aload_n 0, []), (.aload_n 2, []), (.invokestatic 63, [68, 3, 1])], 19),
  (19, [(.istore_n 3, []), (.aload_n 0, []), (.invokestatic 43, [63, 1, 1])], 24),
  (24, [(.istore 4, []), (.aload_n 0, []), (.invokestatic 50, [64, 1, 1])], 30),
  (30, [(.istore 5, []), (.iconst 0, [0]), (.istore 6, []), (.iconst 0, [0]), (.istore 7, [])], 38),
  (38, [(.iload 7, []), (.iload 4, []), (.if_icmp .ge 21, [63]), (.iload 6, []), (.aload_n 2, []), (.bipush 6, [6]), (.iload 7, []), (.iadd, []), (.iaload, []), (.iadd, []), (.istore 6, []), (.iinc 7 1, [1]), (.goto (-22), [38])], 0),
  (63, [(.iconst 0, [0]), (.istore 7, []), (.iconst 0, [0]), (.istore 8, [])], 69),
  (69, [(.iload 8, []), (.aload_n 0, []), (.invokestatic 15, [65, 1, 1])], 75),
  (75, [(.if_icmp .ge 37, [112]), (.iload 7, []), (.aload_n 0, []), (.iload 8, []), (.invokestatic 19, [66, 2, 1])], 86),
  (86, [(.iconst 4, [4]), (.idiv, []), (.if_icmp .le 8, [96]), (.iload 7, []), (.goto 11, [104])], 0),
  (96, [(.aload_n 0, []), (.iload 8, []), (.invokestatic 19, [66, 2, 1])], 102),
  (102, [(.iconst 4, [4]), (.idiv, [])], 104),
  (104, [(.istore 7, []), (.iinc 8 1, [1]), (.goto (-40), [69])], 0),
  (112, [(.iconst 0, [0]), (.istore 8, [])], 115),
  (115, [(.iload 8, []), (.bipush 14, [14]), (.if_icmp .ge 549, [668]), (.iload_n 3, []), (.ifCond .eq 545, [668]), (.aload_n 0, []), (.bipush 10, [10]), (.iload 8, []), (.iadd, []), (.invokestatic 9, [62, 2, 1])], 135),
  (135, [(.istore 9, []), (.iconst 0, [0]), (.istore 10, []), (.iconst 0, [0]), (.istore 11, [])], 143),
  (143, [(.iload 11, []), (.aload_n 1, []), (.iconst 0, [0]), (.invokevirtual 67, [13, 2, 1])], 150),
  (150, [(.bipush 6, [6]), (.iadd, []), (.if_icmp .ge 44, [197]), (.aload_n 1, []), (.iload 11, []), (.iconst 0, [0]), (.invokevirtual 71, [2, 3, 1])], 163),
  (163, [(.ifCond .lt 34, [197]), (.iload 10, []), (.aload_n 1, []), (.iload 11, []), (.iconst 1, [1]), (.invokevirtual 71, [2, 3, 1])], 175),
  (175, [(.bipush 25, [25]), (.if_icmp .ne 10, [187]), (.iconst 1, [1]), (.iload 11, []), (.ishl, []), (.goto 4, [188])], 0),
  (187, [(.iconst 0, [0])], 188),
  (188, [(.ior, []), (.istore 10, []), (.iinc 11 1, [1]), (.goto (-51), [143])], 0),
  (197, [(.aload_n 1, []), (.bipush 6, [6]), (.invokevirtual 67, [13, 2, 1])], 203),
  (203, [(.istore 11, []), (.iconst 0, [0]), (.istore 12, []), (.iload 9, []), (.iconst 3, [3]), (.iand, []), (.iconst 2, [2]), (.if_icmp .ge 20, [233]), (.aload_n 1, []), (.iconst 1, [1]), (.iload 9, []), (.iconst 2, [2]), (.ishr, []), (.iconst 5, [5]), (.irem, []), (.iadd, []), (.invokevirtual 75, [14, 2, 1])], 228),
  (228, [(.istore 12, []), (.goto 161, [391])], 0),
  (233, [(.iload 9, []), (.iconst 3, [3]), (.iand, []), (.iconst 2, [2]), (.if_icmp .ne 54, [292]), (.iload 9, []), (.iconst 2, [2]), (.ishr, []), (.bipush 6, [6]), (.irem, []), (.istore 13, []), (.iload 9, []), (.iconst 5, [5]), (.ishr, []), (.bipush 6, [6]), (.irem, []), (.istore 14, []), (.aload_n 1, []), (.iload 13, []), (.iload 14, []), (.invokevirtual 78, [7, 3, 1])], 267),
  (267, [(.ifCond .ge 7, [274]), (.iconst 0, [0]), (.goto 12, [283])], 0),
  (274, [(.aload_n 1, []), (.bipush 6, [6]), (.invokevirtual 67, [13, 2, 1])], 280),
  (280, [(.iload 11, []), (.isub, [])], 283),
  (283, [(.istore 15, []), (.iload 15, []), (.istore 12, []), (.goto 102, [391])], 0),
  (292, [(.aload_n 1, []), (.iload 9, []), (.iconst 2, [2]), (.ishr, []), (.bipush 6, [6]), (.irem, []), (.iconst 1, [1]), (.iload 9, []), (.iconst 5, [5]), (.ishr, []), (.bipush 9, [9]), (.irem, []), (.iadd, []), (.invokevirtual 81, [8, 3, 1])], 312),
  (312, [(.istore 13, []), (.iload 13, []), (.ifCond .lt 32, [348]), (.aload_n 1, []), (.iload 13, []), (.iconst 2, [2]), (.invokevirtual 71, [2, 3, 1])], 326),
  (326, [(.iconst 1, [1]), (.iload 9, []), (.iconst 5, [5]), (.ishr, []), (.bipush 9, [9]), (.irem, []), (.iadd, []), (.if_icmp .ne 17, [352]), (.aload_n 1, []), (.iload 13, []), (.iconst 3, [3]), (.invokevirtual 71, [2, 3, 1])], 345),
  (345, [(.ifCond .ne 7, [352])], 348),
  (348, [(.iconst 1, [1]), (.goto 4, [353])], 0),
  (352, [(.iconst 0, [0])], 353),
  (353, [(.istore_n 3, []), (.iload_n 3, []), (.ifCond .eq 34, [389]), (.iload 9, []), (.bipush 9, [9]), (.ishr, []), (.iconst 4, [4]), (.irem, []), (.ifCond .gt 20, [385]), (.aload_n 1, []), (.iload 9, []), (.bipush 11, [11]), (.ishr, []), (.bipush 6, [6]), (.irem, []), (.invokevirtual 84, [9, 2, 1])], 380),
  (380, [(.bipush (-2), [2, 1]), (.if_icmp .lt 7, [389])], 385),
  (385, [(.iconst 1, [1]), (.goto 4, [390])], 0),
  (389, [(.iconst 0, [0])], 390),
  (390, [(.istore_n 3, [])], 391),
  (391, [(.iload_n 3, []), (.ifCond .eq 49, [441]), (.iload 12, []), (.ifCond .lt 44, [441]), (.aload_n 1, []), (.bipush 6, [6]), (.invokevirtual 67, [13, 2, 1])], 406),
  (406, [(.iload 11, []), (.iload 12, []), (.iadd, []), (.if_icmp .ne 30, [441]), (.aload_n 1, []), (.iconst 4, [4]), (.invokevirtual 67, [13, 2, 1])], 419),
  (419, [(.aload_n 1, []), (.iconst 5, [5]), (.invokevirtual 67, [13, 2, 1])], 424),
  (424, [(.iadd, []), (.aload_n 1, []), (.bipush 6, [6]), (.invokevirtual 67, [13, 2, 1])], 431),
  (431, [(.iadd, []), (.iload 6, []), (.if_icmp .ne 7, [441]), (.iconst 1, [1]), (.goto 4, [442])], 0),
  (441, [(.iconst 0, [0])], 442),
  (442, [(.istore_n 3, []), (.iconst 0, [0]), (.istore 13, [])], 446),
  (446, [(.iload 13, []), (.bipush 6, [6]), (.if_icmp .ge 41, [491]), (.iload_n 3, []), (.ifCond .eq 37, [491]), (.iload 10, []), (.iload 13, []), (.ishr, []), (.iconst 1, [1]), (.iand, []), (.ifCond .eq 15, [479]), (.aload_n 1, []), (.iload 13, []), (.iconst 1, [1]), (.invokevirtual 71, [2, 3, 1])], 474),
  (474, [(.bipush 25, [25]), (.if_icmp .ne 7, [483])], 479),
  (479, [(.iconst 1, [1]), (.goto 4, [484])], 0),
  (483, [(.iconst 0, [0])], 484),
  (484, [(.istore_n 3, []), (.iinc 13 1, [1]), (.goto (-42), [446])], 0),
  (491, [(.iconst 0, [0]), (.istore 13, [])], 494),
  (494, [(.iload 13, []), (.iload 5, []), (.if_icmp .ge 164, [662]), (.iload_n 3, []), (.ifCond .eq 160, [662]), (.aload_n 1, []), (.iload 13, []), (.iconst 4, [4]), (.invokevirtual 87, [3, 3, 1])], 512),
  (512, [(.ifCond .lt 28, [540]), (.aload_n 1, []), (.iload 13, []), (.iconst 3, [3]), (.invokevirtual 87, [3, 3, 1])], 522),
  (522, [(.aload_n 1, []), (.aload_n 1, []), (.iload 13, []), (.iconst 0, [0]), (.invokevirtual 87, [3, 3, 1])], 530),
  (530, [(.invokevirtual 90, [12, 2, 1])], 533),
  (533, [(.if_icmp .gt 7, [540]), (.iconst 1, [1]), (.goto 4, [541])], 0),
  (540, [(.iconst 0, [0])], 541),
  (541, [(.istore_n 3, []), (.iconst 0, [0]), (.istore 14, []), (.iconst 0, [0]), (.istore 15, [])], 548),
  (548, [(.iload 15, []), (.bipush 6, [6]), (.if_icmp .ge 74, [626]), (.aload_n 1, []), (.iload 13, []), (.iload 15, []), (.invokevirtual 93, [6, 3, 1])], 563),
  (563, [(.istore 16, []), (.iload 14, []), (.iload 16, []), (.ifCond .le 8, [577]), (.iload 16, []), (.goto 4, [578])], 0),
  (577, [(.iconst 0, [0])], 578),
  (578, [(.iadd, []), (.istore 14, []), (.iload_n 3, []), (.ifCond .eq 36, [618]), (.iload 16, []), (.ifCond .le 27, [614]), (.aload_n 1, []), (.iload 15, []), (.iconst 1, [1]), (.invokevirtual 71, [2, 3, 1])], 597),
  (597, [(.bipush 25, [25]), (.if_icmp .ge 19, [618]), (.aload_n 1, []), (.iload 15, []), (.iconst 3, [3]), (.invokevirtual 71, [2, 3, 1])], 609),
  (609, [(.iload 16, []), (.if_icmp .lt 7, [618])], 614),
  (614, [(.iconst 1, [1]), (.goto 4, [619])], 0),
  (618, [(.iconst 0, [0])], 619),
  (619, [(.istore_n 3, []), (.iinc 15 1, [1]), (.goto (-75), [548])], 0),
  (626, [(.iload_n 3, []), (.ifCond .eq 27, [654]), (.iload 14, []), (.aload_n 1, []), (.iload 13, []), (.iconst 4, [4]), (.invokevirtual 87, [3, 3, 1])], 639),
  (639, [(.iadd, []), (.aload_n 1, []), (.iload 13, []), (.iconst 1, [1]), (.invokevirtual 87, [3, 3, 1])], 647),
  (647, [(.if_icmp .ne 7, [654]), (.iconst 1, [1]), (.goto 4, [655])], 0),
  (654, [(.iconst 0, [0])], 655),
  (655, [(.istore_n 3, []), (.iinc 13 1, [1]), (.goto (-165), [494])], 0),
  (662, [(.iinc 8 1, [1]), (.goto (-550), [115])], 0),
  (683, [(.iload_n 3, []), (.ifCond .eq 42, [726]), (.aload 8, []), (.aload_n 0, []), (.aload 9, []), (.invokestatic 63, [68, 3, 1])], 695),
  (695, [(.ifCond .eq 31, [726]), (.aload 8, []), (.aload_n 0, []), (.bipush 24, [24]), (.invokestatic 9, [62, 2, 1])], 706),
  (706, [(.invokevirtual 96, [16, 2, 1])], 709),
  (709, [(.iconst 1, [1]), (.if_icmp .ne 16, [726]), (.aload 8, []), (.invokevirtual 99, [19, 1, 1])], 718),
  (718, [(.iconst 1, [1]), (.if_icmp .ne 7, [726]), (.iconst 1, [1]), (.goto 4, [727])], 0),
  (726, [(.iconst 0, [0])], 727),
  (727, [(.istore_n 3, []), (.iconst 0, [0]), (.istore 10, [])], 731),
  (731, [(.iload 10, []), (.iload 4, []), (.if_icmp .ge 265, [1000]), (.iload_n 3, []), (.ifCond .eq 261, [1000]), (.iload 5, []), (.ifCond .le 256, [1000]), (.iconst 0, [0]), (.istore 11, [])], 750),
  (750, [(.iload 11, []), (.iload 5, []), (.if_icmp .ge 32, [786]), (.iload_n 3, []), (.ifCond .eq 28, [786]), (.aload 8, []), (.iload 11, []), (.iload 10, []), (.iconst 0, [0]), (.invokevirtual 59, [5, 4, 1])], 771),
  (771, [(.ifCond .lt 7, [778]), (.iconst 1, [1]), (.goto 4, [779])], 0),
  (778, [(.iconst 0, [0])], 779),
  (779, [(.istore_n 3, []), (.iinc 11 1, [1]), (.goto (-33), [750])], 0),
  (786, [(.aload_n 0, []), (.bipush 25, [25]), (.invokestatic 9, [62, 2, 1])], 792),
  (792, [(.iload 5, []), (.irem, []), (.istore 11, []), (.aload 8, []), (.iload 11, []), (.iconst 4, [4]), (.invokevirtual 87, [3, 3, 1])], 805),
  (805, [(.istore 12, []), (.iload 7, []), (.aload 9, []), (.bipush 12, [12]), (.iload 10, []), (.iadd, []), (.iaload, []), (.iconst 2, [2]), (.if_icmp .ne 7, [825]), (.iconst 2, [2]), (.goto 4, [826])], 0),
  (825, [(.iconst 1, [1])], 826),
  (826, [(.imul, []), (.istore 13, []), (.iload_n 3, []), (.ifCond .eq 21, [851]), (.aload 8, []), (.iload 11, []), (.iload 10, []), (.iload 12, []), (.invokevirtual 59, [5, 4, 1])], 844),
  (844, [(.ifCond .ne 7, [851]), (.iconst 1, [1]), (.goto 4, [852])], 0),
  (851, [(.iconst 0, [0])], 852),
  (852, [(.istore_n 3, []), (.aload 8, []), (.iload 11, []), (.iconst 0, [0]), (.invokevirtual 87, [3, 3, 1])], 861),
  (861, [(.istore 14, []), (.aload 9, []), (.iload 10, []), (.iaload, []), (.iload 14, []), (.invokestatic 102, [69, 2, 1])], 873),
  (873, [(.istore 15, []), (.aload 8, []), (.iload 10, []), (.iconst 1, [1]), (.iconst 0, [0]), (.invokevirtual 105, [17, 4, 1])], 884),
  (884, [(.istore 16, []), (.iload_n 3, []), (.ifCond .eq 105, [992]), (.iload 12, []), (.ifCond .eq 49, [941]), (.iload 12, []), (.iload 13, []), (.if_icmp .lt 42, [941]), (.iload 15, []), (.ifCond .ne 16, [920]), (.iload 16, []), (.aload 9, []), (.iload 10, []), (.iaload, []), (.if_icmp .ne 78, [992]), (.goto 24, [941])], 0),
  (920, [(.iload 16, []), (.bipush 25, [25]), (.if_icmp .ge 68, [992]), (.iload 16, []), (.iload 14, []), (.invokestatic 102, [69, 2, 1])], 934),
  (934, [(.iload 15, []), (.iconst 1, [1]), (.isub, []), (.if_icmp .ne 54, [992])], 941),
  (941, [(.iload 7, []), (.ifCond .gt 36, [979]), (.aload 8, []), (.iload 10, []), (.bipush 24, [24]), (.iconst 0, [0]), (.invokevirtual 105, [17, 4, 1])], 956),
  (956, [(.bipush 25, [25]), (.if_icmp .ge 34, [992]), (.aload 8, []), (.iload 10, []), (.bipush 24, [24]), (.iconst 1, [1]), (.invokevirtual 105, [17, 4, 1])], 971),
  (971, [(.aload 9, []), (.iload 10, []), (.iaload, []), (.if_icmp .ne 16, [992])], 979),
  (979, [(.aload 8, []), (.invokevirtual 108, [20, 1, 1])], 984),
  (984, [(.iconst 1, [1]), (.if_icmp .ne 7, [992]), (.iconst 1, [1]), (.goto 4, [993])], 0),
  (992, [(.iconst 0, [0])], 993),
  (993, [(.istore_n 3, []), (.iinc 10 1, [1]), (.goto (-266), [731])], 0),
  (1000, [(.aload 8, []), (.bipush 9, [9]), (.invokevirtual 111, [15, 2, 1])], 1007),
  (1007, [(.istore 10, []), (.aload 8, []), (.iconst 2, [2]), (.invokevirtual 67, [13, 2, 1])], 1015),
  (1015, [(.istore 11, []), (.aload 8, []), (.bipush 6, [6]), (.invokevirtual 67, [13, 2, 1])], 1024),
  (1024, [(.istore 12, []), (.iload_n 3, []), (.ifCond .eq 76, [1103]), (.aload 8, []), (.invokevirtual 108, [20, 1, 1])], 1035),
  (1035, [(.iconst 1, [1]), (.if_icmp .ne 67, [1103]), (.aload 8, []), (.iconst 4, [4]), (.invokevirtual 111, [15, 2, 1])], 1045),
  (1045, [(.aload 8, []), (.iconst 5, [5]), (.invokevirtual 111, [15, 2, 1])], 1051),
  (1051, [(.iadd, []), (.iload 10, []), (.if_icmp .ne 49, [1103]), (.aload 8, []), (.iconst 2, [2]), (.invokevirtual 67, [13, 2, 1])], 1063),
  (1063, [(.iload 11, []), (.if_icmp .ne 38, [1103]), (.aload 8, []), (.bipush 6, [6]), (.invokevirtual 67, [13, 2, 1])], 1075),
  (1075, [(.iload 12, []), (.if_icmp .ne 26, [1103]), (.aload 8, []), (.invokevirtual 108, [20, 1, 1])], 1085),
  (1085, [(.iconst 1, [1]), (.if_icmp .ne 17, [1103]), (.aload 8, []), (.bipush 6, [6]), (.invokevirtual 67, [13, 2, 1])], 1096),
  (1096, [(.ifCond .ne 7, [1103]), (.iconst 1, [1]), (.goto 4, [1104])], 0),
  (1103, [(.iconst 0, [0])], 1104),
  (1104, [(.istore_n 3, []), (.iconst 0, [0]), (.istore 13, [])], 1108),
  (1108, [(.iload 13, []), (.iload 5, []), (.if_icmp .ge 169, [1281]), (.iload_n 3, []), (.ifCond .eq 165, [1281]), (.iconst 1, [1]), (.aload_n 0, []), (.bipush 26, [26]), (.invokestatic 9, [62, 2, 1])], 1126),
  (1126, [(.iconst 5, [5]), (.irem, []), (.iadd, []), (.istore 14, []), (.aload 8, []), (.iload 13, []), (.iload 14, []), (.iconst (-1), [1, 1]), (.invokevirtual 114, [18, 4, 1])], 1141),
  (1141, [(.istore 15, []), (.iload 15, []), (.aload 8, []), (.iload 13, []), (.iconst 1, [1]), (.invokevirtual 87, [3, 3, 1])], 1153),
  (1153, [(.if_icmp .gt 60, [1213]), (.iload 15, []), (.ifCond .ne 12, [1170]), (.aload_n 0, []), (.iload 13, []), (.invokestatic 53, [67, 2, 1])], 1167),
  (1167, [(.ifCond .lt 46, [1213])], 1170),
  (1170, [(.iload 15, []), (.bipush (-4), [4, 1]), (.if_icmp .eq 35, [1209]), (.aload 8, []), (.iload 13, []), (.iload 14, []), (.iconst 1, [1]), (.iadd, []), (.iconst (-1), [1, 1]), (.invokevirtual 114, [18, 4, 1])], 1189),
  (1189, [(.ifCond .lt 24, [1213]), (.aload 8, []), (.iload 13, []), (.iload 14, []), (.iconst 1, [1]), (.iadd, []), (.iconst (-1), [1, 1]), (.invokevirtual 114, [18, 4, 1])], 1204),
  (1204, [(.iload 15, []), (.if_icmp .gt 7, [1213])], 1209),
  (1209, [(.iconst 1, [1]), (.goto 4, [1214])], 0),
  (1213, [(.iconst 0, [0])], 1214),
  (1214, [(.istore_n 3, []), (.aload 8, []), (.iload 13, []), (.iconst 2, [2]), (.invokevirtual 87, [3, 3, 1])], 1223),
  (1223, [(.istore 16, []), (.iload_n 3, []), (.ifCond .eq 47, [1273]), (.aload 8, []), (.iload 13, []), (.iconst 1, [1]), (.iconst 0, [0]), (.invokevirtual 117, [4, 4, 1])], 1238),
  (1238, [(.iload 16, []), (.if_icmp .ne 33, [1273]), (.aload 8, []), (.iload 13, []), (.iload 14, []), (.iconst (-1), [1, 1]), (.invokevirtual 114, [18, 4, 1])], 1253),
  (1253, [(.ifCond .ne 20, [1273]), (.aload 8, []), (.iload 13, []), (.iconst 1, [1]), (.iload 16, []), (.invokevirtual 117, [4, 4, 1])], 1266),
  (1266, [(.ifCond .ne 7, [1273]), (.iconst 1, [1]), (.goto 4, [1274])], 0),
  (1273, [(.iconst 0, [0])], 1274),
  (1274, [(.istore_n 3, []), (.iinc 13 1, [1]), (.goto (-170), [1108])], 0),
  (1281, [(.iconst 0, [0]), (.istore 13, [])], 1284),
  (1284, [(.iload 13, []), (.iload 4, []), (.if_icmp .ge 54, [1342]), (.iload_n 3, []), (.ifCond .eq 50, [1342]), (.aload 8, []), (.iload 13, []), (.iconst 1, [1]), (.invokevirtual 71, [2, 3, 1])], 1303),
  (1303, [(.aload 9, []), (.iload 13, []), (.iaload, []), (.if_icmp .ne 26, [1334]), (.aload 8, []), (.iload 13, []), (.iconst 2, [2]), (.invokevirtual 71, [2, 3, 1])], 1319),
  (1319, [(.aload 9, []), (.bipush 6, [6]), (.iload 13, []), (.iadd, []), (.iaload, []), (.if_icmp .ne 7, [1334]), (.iconst 1, [1]), (.goto 4, [1335])], 0),
  (1334, [(.iconst 0, [0])], 1335),
  (1335, [(.istore_n 3, []), (.iinc 13 1, [1]), (.goto (-55), [1284])], 0),
  (1342, [(.iload_n 3, []), (.ireturn, [1])], 0)]
def mj_cs : List mj_C := [mj_c0, mj_c1, mj_c2, mj_c3, mj_c4, mj_c5, mj_c6, mj_c7, mj_c8, mj_c9, mj_c10, mj_c11, mj_c12, mj_c13, mj_c14, mj_c15, mj_c16, mj_c17, mj_c18, mj_c19, mj_c20, mj_c21, mj_c22, mj_c23, mj_c24, mj_c25, mj_c26, mj_c27, mj_c28, mj_c29, mj_c30, mj_c31, mj_c32, mj_c33, mj_c34, mj_c35, mj_c36, mj_c37, mj_c38, mj_c39, mj_c40, mj_c41, mj_c42, mj_c43, mj_c44, mj_c45, mj_c46, mj_c47, mj_c48, mj_c49, mj_c50, mj_c51, mj_c52, mj_c53, mj_c54, mj_c55, mj_c56, mj_c57, mj_c58, mj_c59, mj_c60, mj_c61, mj_c62, mj_c63, mj_c64, mj_c65, mj_c66, mj_c67, mj_c68, mj_c69, mj_c70]
def mj_ml : List Nat := [4, 4, 3, 3, 5, 5, 3, 3, 3, 3, 5, 2, 2, 2, 4, 5, 3, 4, 5, 1, 1, 3, 3, 6, 2, 5, 3, 3, 2, 2, 2, 3, 5, 5, 2, 4, 3, 4, 4, 1, 5, 8, 4, 4, 3, 4, 4, 7, 8, 7, 5, 7, 5, 2, 6, 3, 1, 3, 2, 2, 2, 4, 2, 1, 1, 1, 2, 2, 9, 4, 17]
def mj_Sp : Nat → Nat → List mj_V → mj_M → Option mj_V → mj_M → Prop
  | 0, _, _, _, _, _ => False
  | d + 1, f, vs, M, r, M' => ∀ P : Nat → mj_L → List mj_V → mj_M → Prop, mj_Cl (mj_cs.getD f []) (mj_Sp d) (0 < d) P (fun v M1 => v = r ∧ mj_eq M1 M') → (∀ (pc : Nat) (ls : mj_L) (st : List mj_V) (M M1 : mj_M), mj_eq M M1 → P pc ls st M1 → P pc ls st M) → P 0 (mj_ent (mj_ml.getD f 0) vs) [] M
end
section
/-! The rows are the methods' own code; which cells there are, where their numbers lie, whose they are. -/
def mj_ids : List mj_Id := [(0, 0, 0), (0, 1, 0), (0, 2, 0), (0, 3, 0), (0, 13, 0), (0, 4, 0), (0, 4, 1), (0, 4, 2), (0, 4, 3), (0, 4, 4), (0, 4, 5), (0, 5, 0), (0, 6, 0), (0, 7, 0), (0, 8, 0), (0, 9, 0), (20, 10, 0), (20, 11, 0), (20, 12, 0), (1, 0, 0), (1, 1, 0), (1, 2, 0), (1, 3, 0), (1, 13, 0), (1, 4, 0), (1, 4, 1), (1, 4, 2), (1, 4, 3), (1, 4, 4), (1, 4, 5), (1, 5, 0), (1, 6, 0), (1, 7, 0), (1, 8, 0), (1, 9, 0), (21, 10, 0), (21, 11, 0), (21, 12, 0), (2, 0, 0), (2, 1, 0), (2, 2, 0), (2, 3, 0), (2, 13, 0), (2, 4, 0), (2, 4, 1), (2, 4, 2), (2, 4, 3), (2, 4, 4), (2, 4, 5), (2, 5, 0), (2, 6, 0), (2, 7, 0), (2, 8, 0), (2, 9, 0), (22, 10, 0), (22, 11, 0), (22, 12, 0), (3, 0, 0), (3, 1, 0), (3, 2, 0), (3, 3, 0), (3, 13, 0), (3, 4, 0), (3, 4, 1), (3, 4, 2), (3, 4, 3), (3, 4, 4), (3, 4, 5), (3, 5, 0), (3, 6, 0), (3, 7, 0), (3, 8, 0), (3, 9, 0), (23, 10, 0), (23, 11, 0), (23, 12, 0), (4, 0, 0), (4, 1, 0), (4, 2, 0), (4, 3, 0), (4, 13, 0), (4, 4, 0), (4, 4, 1), (4, 4, 2), (4, 4, 3), (4, 4, 4), (4, 4, 5), (4, 5, 0), (4, 6, 0), (4, 7, 0), (4, 8, 0), (4, 9, 0), (24, 10, 0), (24, 11, 0), (24, 12, 0), (25, 10, 0), (25, 11, 0), (25, 12, 0), (2, 20, 0), (3, 20, 0), (4, 20, 0), (11, 21, 0), (11, 23, 0), (11, 24, 0), (11, 24, 1), (11, 24, 2), (11, 24, 3), (11, 24, 4), (11, 24, 5), (11, 25, 0), (11, 26, 0), (11, 26, 1), (11, 26, 2), (11, 26, 3), (11, 26, 4), (11, 26, 5), (11, 26, 6), (11, 27, 0), (12, 30, 0), (12, 31, 0), (12, 33, 0), (12, 34, 0), (12, 34, 1), (12, 34, 2), (12, 34, 3), (12, 34, 4), (12, 34, 5), (12, 35, 0), (12, 36, 0), (12, 37, 0), (12, 38, 0), (12, 38, 1), (12, 38, 2), (12, 38, 3), (12, 38, 4), (12, 38, 5), (12, 38, 6), (12, 39, 0), (12, 40, 0), (12, 40, 1), (12, 40, 2), (12, 40, 3), (12, 40, 4), (12, 40, 5), (12, 40, 6), (12, 41, 0), (6, 45, 0), (6, 46, 0), (7, 49, 0), (7, 47, 0), (7, 47, 1), (7, 47, 2), (7, 47, 3), (7, 48, 0), (7, 48, 1), (7, 48, 2), (7, 48, 3), (13, 50, 0), (17, 73, 0)]
def mj_kind (t : Nat) : Nat := if [0, 10, 20, 21, 30, 45, 47, 50, 60].contains t then 0 else if [13, 23, 25, 33, 37, 39].contains t then 2 else if t == 49 then 3 else 1
def mj_nf (t : Nat) : Nat := (mj_cl.getD (mj_ci t) ("", mj_T0, 0)).2.2
def mj_ln (q : mj_Id) : Nat := (mj_tl.lookup q.2.1).getD 0
/-- where a cell's numbers lie -/
def mj_lo (q : mj_Id) : List (Nat × Nat × Nat × Nat) :=
  if mj_kind q.2.1 = 0 then (List.range (mj_nf q.2.1)).filterMap (fun k => match mj_fd q k with
    | some (.inl l) => some l
    | _ => none)
  else if mj_kind q.2.1 = 1 then (List.range (mj_ln q)).map (mj_aloc q) else []
/-- whose a place is -/
def mj_own (l : Nat × Nat × Nat × Nat) : mj_Id :=
  if l.1 = 14 then (if l.2.1 = 0 then (if l.2.2.2 = 2 then (14, 61, 0) else (30, 60, 0)) else if l.2.1 = 5 then (14, 5, 0) else if l.2.1 = 7 then (14, 7, 0) else (14, 61, 0))
  else if l.1 = 15 then (15, 61, 0)
  else if l.1 = 16 then (if l.2.1 = 0 then (if l.2.2.2 = 3 then (30, 60, 0) else (16, 62, 0)) else (16, 62, 0))
  else if l.1 = 36 then (16, 62, 0)
  else if l.2.1 = 63 then (30, 60, 0)
  else if l.1 = 34 then (if l.2.1 = 10 then (30, 60, 0) else (34, l.2.1, 0))
  else (l.1, l.2.1, l.2.2.1)
def mj_idx (l : Nat × Nat × Nat × Nat) : Nat :=
  if l.1 = 14 ∨ l.1 = 15 ∨ l.1 = 16 then (match l.2.1 with
    | 2 => l.2.2.2
    | 3 => 6 + l.2.2.2
    | 1 => 12 + l.2.2.2
    | 4 => 18 + 6 * l.2.2.2 + l.2.2.1
    | 6 => 42 + l.2.2.2
    | 8 => 46 + l.2.2.2
    | 9 => 50 + l.2.2.2
    | 0 => if l.2.2.2 = 2 then 75 else 108 + l.2.2.2
    | 5 => if l.1 = 16 then 76 + l.2.2.2 else l.2.2.2
    | 7 => if l.1 = 16 then 80 + l.2.2.2 else l.2.2.2
    | _ => l.2.2.2)
  else if l.1 = 36 then (match l.2.1 with
    | 11 => 84 + l.2.2.2
    | 12 => 96 + l.2.2.2
    | _ => 110)
  else l.2.2.2
theorem mj_ids_own : mj_ids.all (fun q => (mj_lo q).all (fun l => decide (mj_own l = q) && Nat.blt l.1 40 && mj_ok l.2.1 l.2.2.1 l.2.2.2)) = true := by decide +kernel
theorem mj_ids_idx : mj_ids.all (fun q => mj_kind q.2.1 != 1 || (List.range (mj_ln q)).all (fun j => mj_idx (mj_aloc q j) == j)) = true := by decide +kernel
theorem mj_ids_fd : mj_ids.all (fun q => mj_kind q.2.1 != 0 || (Nat.blt (mj_ci q.2.1) 8 && (List.range (mj_nf q.2.1)).all (fun k => match mj_fd q k with
    | some (.inl l) => (List.range (mj_nf q.2.1)).all (fun k' => k' == k || match mj_fd q k' with
      | some (.inl l') => decide (l ≠ l')
      | _ => true)
    | some (.inr q') => mj_ids.contains q'
    | none => false))) = true := by decide +kernel
theorem mj_ids_el : mj_ids.all (fun q => (mj_kind q.2.1 == 2 || mj_kind q.2.1 == 3 || mj_ol q == 0) && (List.range (mj_ol q)).all (fun j => match mj_el q j with
    | some q' => mj_ids.contains q'
    | none => false)) = true := by decide +kernel
theorem mj_ids_kd : mj_ids.all (fun q => (mj_kind q.2.1 == 1 || mj_ln q == 0) && (mj_kind q.2.1 == 0 || mj_ci q.2.1 == 99) && q.2.1 != 82 && q.2.1 != 80 && q.2.1 != 81 && Nat.blt q.1 40 && (mj_kind q.2.1 == 1 || !mj_ia q.2.1)) = true := by decide +kernel
theorem mj_ids_nd : mj_ids.Nodup := by decide +kernel
/-! the checks of a row against the bytes -/
def mj_tg (pc : Nat) (off : Int) (t : Nat) : Bool := decide ((pc : Int) + off = (t : Int))
def mj_tgs (pc : Nat) (offs : List Int) (ts : List Nat) : Bool := match offs, ts with
  | [], [] => true
  | o :: os, t :: ts => mj_tg pc o t && mj_tgs pc os ts
  | _, _ => false
/-- no long stands ahead of a place that is stored to -/
def mj_lpk (lp : List Nat) (j : Nat) : Bool := match j with
  | 0 => true
  | i + 1 => !lp.contains i
def mj_rk (rt : Option FieldType) : Nat := match rt with
  | none => 0
  | some .int => 1
  | some .boolean => 1
  | _ => 9
def mj_ckk (o : Nat) (rt : Option FieldType) (lp : List Nat) (pc : Nat) (i : Instr) (a : List Nat) (n : Nat) : Bool := match i with
  | .iconst k => n == 1 && decide (Int32.ofInt k = mj_k a)
  | .bipush k => n == 2 && decide ((Int8.ofInt k).toInt32 = mj_k a)
  | .sipush k => n == 3 && decide ((Int16.ofInt k).toInt32 = mj_k a)
  | .ldc x => n == 2 && mj_KL.any (fun e => e.1 == o && e.2.1 == x && decide (Int32.ofInt e.2.2 = mj_k a))
  | .ldc2_w x => n == 3 && mj_KM.any (fun e => e.1 == o && e.2.1 == x && decide (Int64.ofInt e.2.2 = mj_kl a))
  | .lconst _ => n == 1
  | .iload _ => n == 2
  | .iload_n _ => n == 1
  | .lload _ => n == 2
  | .lload_n _ => n == 1
  | .aload _ => n == 2
  | .aload_n _ => n == 1
  | .istore j => n == 2 && mj_lpk lp j
  | .istore_n j => n == 1 && mj_lpk lp j.val
  | .astore j => n == 2 && mj_lpk lp j
  | .astore_n j => n == 1 && mj_lpk lp j.val
  | .iinc j c => n == 3 && decide (Int32.ofInt c = mj_k a) && mj_lpk lp j
  | .iadd => n == 1
  | .isub => n == 1
  | .imul => n == 1
  | .iand => n == 1
  | .ior => n == 1
  | .ixor => n == 1
  | .ishl => n == 1
  | .ishr => n == 1
  | .idiv => n == 1
  | .irem => n == 1
  | .ladd => n == 1
  | .lmul => n == 1
  | .land => n == 1
  | .lor => n == 1
  | .lcmp => n == 1
  | .lshl => n == 1
  | .lshr => n == 1
  | .lushr => n == 1
  | .i2l => n == 1
  | .l2i => n == 1
  | .i2b => n == 1
  | .ineg => n == 1
  | .i2s => n == 1
  | .dup => n == 1
  | .dup2 => n == 1
  | .pop => n == 1
  | .getfield x => n == 3 && mj_FL.contains (o, x, a.getD 0 99, a.getD 1 99) && Nat.blt (a.getD 1 99) (mj_cl.getD (a.getD 0 99) ("", mj_T0, 0)).2.2
  | .putfield x => n == 3 && mj_FL.contains (o, x, a.getD 0 99, a.getD 1 99) && Nat.blt (a.getD 1 99) (mj_cl.getD (a.getD 0 99) ("", mj_T0, 0)).2.2 && !(mj_TT (a.getD 0 99) (a.getD 1 99)).2.2.2 && decide (parseFieldDescriptor (mj_TT (a.getD 0 99) (a.getD 1 99)).2.2.1 = some (if a.getD 2 0 = 1 then .boolean else .int))
  | .getstatic x => n == 3 && o == 1 && ((x == 109 && a == [80]) || (x == 128 && a == [81]))
  | .iaload => n == 1
  | .iastore => n == 1
  | .aaload => n == 1
  | .arraylength => n == 1
  | .goto off => n == 3 && mj_tg pc off (a.getD 0 0)
  | .if_icmp _ off => n == 3 && mj_tg pc off (a.getD 0 0)
  | .ifCond _ off => n == 3 && mj_tg pc off (a.getD 0 0)
  | .tableswitch d lo hi offs => decide (lo = (lo.toNat : Int)) && decide (hi + 1 = lo + (offs.size : Int)) && Nat.blt (lo.toNat + offs.size) 1000 && mj_tgs pc (d :: offs.toList) a
  | .lookupswitch d ps => (ps.toList.zip (ps.toList.drop 1)).all (fun (x, y) => x.1 < y.1) && ps.toList.all (fun x => decide (x.1 = (x.1.toNat : Int)) && Nat.blt x.1.toNat 1000) && mj_tgs pc (d :: ps.toList.map (fun x => x.2)) a
  | .invokevirtual x => n == 3 && match a with
    | [g, k, r] => Nat.blt g mj_mt.length && mj_ML.contains (o, x, g) && !mj_stc g && k == mj_np.getD g 0 + 1 && r == mj_rk (mj_rt g)
    | _ => false
  | .invokestatic x => n == 3 && match a with
    | [] => mj_AL.contains (o, x)
    | [0] => mj_JL.contains (o, x, true)
    | [1] => mj_JL.contains (o, x, false)
    | [g, k, r] => Nat.blt g mj_mt.length && (mj_ML.contains (o, x, g) || (o == 1 && x == 85 && g == 23)) && mj_stc g && k == mj_np.getD g 0 && r == mj_rk (mj_rt g)
    | _ => false
  | .ireturn => n == 1 && ((decide (rt = some .int) && a == []) || (decide (rt = some .boolean) && a == [1]))
  | .return_ => n == 1 && decide (rt = none)
  | _ => false
/-- does the row end with this instruction: 1 by a jump or return, 2 by a call -/
def mj_te (i : Instr) (a : List Nat) : Nat := match i with
  | .goto _ => 1
  | .tableswitch _ _ _ _ => 1
  | .lookupswitch _ _ => 1
  | .ireturn => 1
  | .return_ => 1
  | .invokevirtual _ => 2
  | .invokestatic _ => if a.length = 3 then 2 else 0
  | _ => 0
def mj_ck (cc : ByteArray) (o : Nat) (rt : Option FieldType) (lp : List Nat) (nx : Nat) : Nat → List mj_I → Bool
  | pc, [] => pc == nx
  | pc, i :: is => match decode cc pc with
    | .ok (i', n) => decide (i' = i.1) && mj_ckk o rt lp pc i.1 i.2 n && (match mj_te i.1 i.2 with
      | 0 => mj_ck cc o rt lp nx (pc + n) is
      | 1 => is.isEmpty
      | _ => is.isEmpty && nx == pc + n)
    | _ => false
def mj_cm (cc : ByteArray) (o : Nat) (rt : Option FieldType) (lp : List Nat) (c : mj_C) : Bool := c.all (fun x => mj_ck cc o rt lp x.2.2 x.1 x.2.1)
/-- the places of the longs among a method's locals -/
def mj_lg (n : Nat) (ks : List Nat) : List Nat := match ks with
  | [] => []
  | 1 :: ks => n :: mj_lg (n + 2) ks
  | _ :: ks => mj_lg (n + 1) ks
def mj_cf (f : Nat) : Bool := mj_cm (mj_bc f) (mj_m f).1 (mj_rt f) (mj_lg 0 (mj_kd.getD f [])) (mj_cs.getD f []) && decide (mj_ml.getD f 0 = mj_mx f) && Nat.ble (mj_mx f) 11
theorem mj_cf0 : mj_cf 0 = true := by decide +kernel
theorem mj_cf1 : mj_cf 1 = true := by decide +kernel
theorem mj_cf2 : mj_cf 2 = true := by decide +kernel
theorem mj_cf3 : mj_cf 3 = true := by decide +kernel
theorem mj_cf4 : mj_cf 4 = true := by decide +kernel
theorem mj_cf5 : mj_cf 5 = true := by decide +kernel
theorem mj_cf6 : mj_cf 6 = true := by decide +kernel
theorem mj_cf7 : mj_cf 7 = true := by decide +kernel
theorem mj_cf8 : mj_cf 8 = true := by decide +kernel
theorem mj_cf9 : mj_cf 9 = true := by decide +kernel
theorem mj_cf10 : mj_cf 10 = true := by decide +kernel
theorem mj_cf11 : mj_cf 11 = true := by decide +kernel
theorem mj_cf12 : mj_cf 12 = true := by decide +kernel
theorem mj_cf13 : mj_cf 13 = true := by decide +kernel
theorem mj_cf14 : mj_cf 14 = true := by decide +kernel
theorem mj_cf15 : mj_cf 15 = true := by decide +kernel
theorem mj_cf16 : mj_cf 16 = true := by decide +kernel
theorem mj_cf17 : mj_cf 17 = true := by decide +kernel
theorem mj_cf18 : mj_cf 18 = true := by decide +kernel
theorem mj_cf19 : mj_cf 19 = true := by decide +kernel
theorem mj_cf20 : mj_cf 20 = true := by decide +kernel
theorem mj_cf21 : mj_cf 21 = true := by decide +kernel
theorem mj_cf22 : mj_cf 22 = true := by decide +kernel
theorem mj_cf23 : mj_cf 23 = true := by decide +kernel
theorem mj_cf24 : mj_cf 24 = true := by decide +kernel
theorem mj_cf25 : mj_cf 25 = true := by decide +kernel
theorem mj_cf26 : mj_cf 26 = true := by decide +kernel
theorem mj_cf27 : mj_cf 27 = true := by decide +kernel
theorem mj_cf28 : mj_cf 28 = true := by decide +kernel
theorem mj_cf29 : mj_cf 29 = true := by decide +kernel
theorem mj_cf30 : mj_cf 30 = true := by decide +kernel
theorem mj_cf31 : mj_cf 31 = true := by decide +kernel
theorem mj_cf32 : mj_cf 32 = true := by decide +kernel
theorem mj_cf33 : mj_cf 33 = true := by decide +kernel
theorem mj_cf34 : mj_cf 34 = true := by decide +kernel
theorem mj_cf35 : mj_cf 35 = true := by decide +kernel
theorem mj_cf36 : mj_cf 36 = true := by decide +kernel
theorem mj_cf37 : mj_cf 37 = true := by decide +kernel
theorem mj_cf38 : mj_cf 38 = true := by decide +kernel
theorem mj_cf39 : mj_cf 39 = true := by decide +kernel
theorem mj_cf40 : mj_cf 40 = true := by decide +kernel
theorem mj_cf41 : mj_cf 41 = true := by decide +kernel
theorem mj_cf42 : mj_cf 42 = true := by decide +kernel
theorem mj_cf43 : mj_cf 43 = true := by decide +kernel
theorem mj_cf44 : mj_cf 44 = true := by decide +kernel
theorem mj_cf45 : mj_cf 45 = true := by decide +kernel
theorem mj_cf46 : mj_cf 46 = true := by decide +kernel
theorem mj_cf47 : mj_cf 47 = true := by decide +kernel
theorem mj_cf48 : mj_cf 48 = true := by decide +kernel
theorem mj_cf49 : mj_cf 49 = true := by decide +kernel
theorem mj_cf50 : mj_cf 50 = true := by decide +kernel
theorem mj_cf51 : mj_cf 51 = true := by decide +kernel
theorem mj_cf52 : mj_cf 52 = true := by decide +kernel
theorem mj_cf53 : mj_cf 53 = true := by decide +kernel
theorem mj_cf54 : mj_cf 54 = true := by decide +kernel
theorem mj_cf55 : mj_cf 55 = true := by decide +kernel
theorem mj_cf56 : mj_cf 56 = true := by decide +kernel
theorem mj_cf57 : mj_cf 57 = true := by decide +kernel
theorem mj_cf58 : mj_cf 58 = true := by decide +kernel
theorem mj_cf59 : mj_cf 59 = true := by decide +kernel
theorem mj_cf60 : mj_cf 60 = true := by decide +kernel
theorem mj_cf61 : mj_cf 61 = true := by decide +kernel
theorem mj_cf62 : mj_cf 62 = true := by decide +kernel
theorem mj_cf63 : mj_cf 63 = true := by decide +kernel
theorem mj_cf64 : mj_cf 64 = true := by decide +kernel
theorem mj_cf65 : mj_cf 65 = true := by decide +kernel
theorem mj_cf66 : mj_cf 66 = true := by decide +kernel
theorem mj_cf67 : mj_cf 67 = true := by decide +kernel
theorem mj_cf68 : mj_cf 68 = true := by decide +kernel
theorem mj_cf69 : mj_cf 69 = true := by decide +kernel
end
section
/-! the law's own rows -/
theorem mj_cl0 : mj_cm code 8 (some .boolean) [] ((mj_c70.drop 0).take 8) = true := by decide +kernel
theorem mj_cl8 : mj_cm code 8 (some .boolean) [] ((mj_c70.drop 8).take 8) = true := by decide +kernel
theorem mj_cl16 : mj_cm code 8 (some .boolean) [] ((mj_c70.drop 16).take 8) = true := by decide +kernel
theorem mj_cl24 : mj_cm code 8 (some .boolean) [] ((mj_c70.drop 24).take 8) = true := by decide +kernel
theorem mj_cl32 : mj_cm code 8 (some .boolean) [] ((mj_c70.drop 32).take 8) = true := by decide +kernel
theorem mj_cl40 : mj_cm code 8 (some .boolean) [] ((mj_c70.drop 40).take 8) = true := by decide +kernel
theorem mj_cl48 : mj_cm code 8 (some .boolean) [] ((mj_c70.drop 48).take 8) = true := by decide +kernel
theorem mj_cl56 : mj_cm code 8 (some .boolean) [] ((mj_c70.drop 56).take 8) = true := by decide +kernel
theorem mj_cl64 : mj_cm code 8 (some .boolean) [] ((mj_c70.drop 64).take 8) = true := by decide +kernel
theorem mj_cl72 : mj_cm code 8 (some .boolean) [] ((mj_c70.drop 72).take 8) = true := by decide +kernel
theorem mj_cl80 : mj_cm code 8 (some .boolean) [] ((mj_c70.drop 80).take 8) = true := by decide +kernel
theorem mj_cl88 : mj_cm code 8 (some .boolean) [] ((mj_c70.drop 88).take 8) = true := by decide +kernel
theorem mj_cl96 : mj_cm code 8 (some .boolean) [] ((mj_c70.drop 96).take 8) = true := by decide +kernel
theorem mj_cl104 : mj_cm code 8 (some .boolean) [] ((mj_c70.drop 104).take 8) = true := by decide +kernel
theorem mj_cl112 : mj_cm code 8 (some .boolean) [] ((mj_c70.drop 112).take 8) = true := by decide +kernel
theorem mj_cl120 : mj_cm code 8 (some .boolean) [] ((mj_c70.drop 120).take 8) = true := by decide +kernel
theorem mj_cl128 : mj_cm code 8 (some .boolean) [] ((mj_c70.drop 128).take 8) = true := by decide +kernel
theorem mj_cl136 : mj_cm code 8 (some .boolean) [] ((mj_c70.drop 136).take 8) = true := by decide +kernel
set_option maxRecDepth 100000 in
theorem mj_cfL : mj_cm code 8 (some .boolean) [] mj_c70 = true := by
  have h : mj_c70 = (mj_c70.drop 0).take 8 ++ ((mj_c70.drop 8).take 8 ++ ((mj_c70.drop 16).take 8 ++ ((mj_c70.drop 24).take 8 ++ ((mj_c70.drop 32).take 8 ++ ((mj_c70.drop 40).take 8 ++ ((mj_c70.drop 48).take 8 ++ ((mj_c70.drop 56).take 8 ++ ((mj_c70.drop 64).take 8 ++ ((mj_c70.drop 72).take 8 ++ ((mj_c70.drop 80).take 8 ++ ((mj_c70.drop 88).take 8 ++ ((mj_c70.drop 96).take 8 ++ ((mj_c70.drop 104).take 8 ++ ((mj_c70.drop 112).take 8 ++ ((mj_c70.drop 120).take 8 ++ ((mj_c70.drop 128).take 8 ++ ((mj_c70.drop 136).take 8))))))))))))))))) := rfl
  rw [h]
  simp only [mj_cm, List.all_append, Bool.and_eq_true]
  exact ⟨mj_cl0, ⟨mj_cl8, ⟨mj_cl16, ⟨mj_cl24, ⟨mj_cl32, ⟨mj_cl40, ⟨mj_cl48, ⟨mj_cl56, ⟨mj_cl64, ⟨mj_cl72, ⟨mj_cl80, ⟨mj_cl88, ⟨mj_cl96, ⟨mj_cl104, ⟨mj_cl112, ⟨mj_cl120, ⟨mj_cl128, mj_cl136⟩⟩⟩⟩⟩⟩⟩⟩⟩⟩⟩⟩⟩⟩⟩⟩⟩
end
section
/-! The small machine over the real one: pictures. -/
def mj_rv (ρ : mj_Id → Nat) (v : mj_V) : Value := match v with
  | .inl x => .int x
  | .inr (.inl x) => .long x
  | .inr (.inr q) => .ref (ρ q)
def mj_fv (ρ : mj_Id → Nat) (M : mj_M) (q : mj_Id) (k : Nat) : Value := match mj_fd q k with
  | some (.inl l) => .int (M l.1 l.2.1 l.2.2.1 l.2.2.2)
  | some (.inr q') => .ref (ρ q')
  | none => .null
/-- the classes of arrays: of ints, of arrays of ints, of sheets -/
abbrev mj_X : Type := ClassId × ClassId × ClassId
def mj_en (ρ : mj_Id → Nat) (X : mj_X) (M : mj_M) (q : mj_Id) : va_E :=
  if mj_kind q.2.1 = 0 then .inr (mj_ci q.2.1, (List.range (mj_nf q.2.1)).map (mj_fv ρ M q))
  else if mj_kind q.2.1 = 1 then .inl (X.1, mj_ln q, .inl (mj_rd M q))
  else .inl (if mj_kind q.2.1 = 2 then X.2.1 else X.2.2, mj_ol q, .inr (.inr (.inr (.inr (fun j => if j < mj_ol q then (mj_el q j).map ρ else none)))))
def mj_ws (ρ : mj_Id → Nat) (X : mj_X) (M : mj_M) : va_W := mj_ids.map (fun q => (ρ q, mj_en ρ X M q))
def mj_A (Hb : Heap) : Nat → Prop := fun q => Hb.size ≤ q
def mj_Wt (j : Nat) : Int32 := if j = 2 then 2 else 1
def mj_Rn (j : Nat) : Int32 := if j = 0 then 2 else if j = 2 then 5 else 1
def mj_ty (X : mj_X) : List (ClassId × FieldType) := [(X.1, .int), (X.2.1, .array .int), (X.2.2, .object "CloudStrings$Sheet")]
/-- what the tables and the old heap say -/
def mj_K (D : va_G) (X : mj_X) (ρ : mj_Id → Nat) (Hb : Heap) (L : Nat) (xs : Nat → Int32) (U : State) : Prop :=
  va_K D mj_cl (mj_ty X) U ∧ va_Z "CloudStrings" "WEIGHTS" "[I" (.ref (ρ (40, 80, 0))) (mj_A Hb) U Hb ∧ va_Z "CloudStrings" "RAINS" "[I" (.ref (ρ (40, 81, 0))) (mj_A Hb) U Hb ∧
  va_T .int (ρ (40, 80, 0)) 4 (fun j => .int (mj_Wt j)) (mj_A Hb) U Hb ∧ va_T .int (ρ (40, 81, 0)) 4 (fun j => .int (mj_Rn j)) (mj_A Hb) U Hb ∧ va_X (ρ (41, 82, 0)) L xs U Hb ∧
  va_Nw (.methodLinkNest "CloudStrings$Land" 85 (mj_y 23) "CloudStrings") U ∧ va_Nw (.fieldLinkNest "CloudStrings$Land" 109 "CloudStrings" "WEIGHTS" "[I" "CloudStrings") U ∧ va_Nw (.fieldLinkNest "CloudStrings$Land" 128 "CloudStrings" "RAINS" "[I" "CloudStrings") U
theorem mj_K.moved {D : va_G} {X : mj_X} {ρ : mj_Id → Nat} {Hb : Heap} {L : Nat} {xs : Nat → Int32} {u U : State} (hW : u.WarmedH U.vm) (h : mj_K D X ρ Hb L xs u) : mj_K D X ρ Hb L xs U := by
  obtain ⟨h1, h2, h3, h4, h5, h6, h7, h8, h9⟩ := h
  exact ⟨va_K.moved hW.alike h1, va_Z.moved hW.alike h2, va_Z.moved hW.alike h3, va_T.moved hW.alike h4, va_T.moved hW.alike h5, va_X.moved hW.alike h6, va_Nw.warmM hW h7, va_Nw.warmF hW h8, va_Nw.warmF hW h9⟩
theorem mj_K.same {D : va_G} {X : mj_X} {ρ : mj_Id → Nat} {Hb : Heap} {L : Nat} {xs : Nat → Int32} {u U : State} (hv : u.vm = U.vm) (h : mj_K D X ρ Hb L xs u) : mj_K D X ρ Hb L xs U := by
  obtain ⟨h1, h2, h3, h4, h5, h6, h7, h8, h9⟩ := h
  have ha : u.vm.Alike U.vm := hv ▸ Vm.Alike.refl u.vm
  exact ⟨va_K.moved ha h1, va_Z.moved ha h2, va_Z.moved ha h3, va_T.moved ha h4, va_T.moved ha h5, va_X.moved ha h6, va_Nw.same rfl hv h7, va_Nw.same rfl hv h8, va_Nw.same rfl hv h9⟩
/-- what never changes of the memory: the static rows, the script -/
def mj_cM (L : Nat) (xs : Nat → Int32) (M : mj_M) : Prop := (∀ j, j < 4 → M 40 80 0 j = mj_Wt j) ∧ (∀ j, j < 4 → M 40 81 0 j = mj_Rn j) ∧ (M 41 83 0 0).toNatClampNeg = L ∧ ∀ j, j < L → M 41 82 0 j = xs j
/-- the heap holds the memory -/
def mj_P (D : va_G) (X : mj_X) (ρ : mj_Id → Nat) (Hb : Heap) (L : Nat) (xs : Nat → Int32) (M : mj_M) (H : Heap) : Prop :=
  va_P D mj_cl (mj_ws ρ X M) H ∧ va_S (mj_A Hb) Hb H [] ∧ mj_cM L xs M
def mj_Dd (ρ : mj_Id → Nat) (Hb : Heap) : Prop := (∀ p ∈ mj_ids, ∀ q ∈ mj_ids, ρ p = ρ q → p = q) ∧ ∀ q ∈ mj_ids, Hb.size ≤ ρ q
theorem mj_ws_get {ρ : mj_Id → Nat} {X : mj_X} {M : mj_M} {k : Nat} {x : Nat × va_E} (h : (mj_ws ρ X M)[k]? = some x) : ∃ q, mj_ids[k]? = some q ∧ x = (ρ q, mj_en ρ X M q) := by
  unfold mj_ws at h
  rw [List.getElem?_map] at h
  cases hq : mj_ids[k]? with
  | none => rw [hq] at h; cases h
  | some q => rw [hq] at h; exact ⟨q, rfl, (Option.some.inj h).symm⟩
theorem mj_ws_at {ρ : mj_Id → Nat} {X : mj_X} {M : mj_M} {q : mj_Id} (h : q ∈ mj_ids) : ∃ k : Nat, (mj_ws ρ X M)[k]? = some (ρ q, mj_en ρ X M q) ∧ mj_ids[k]? = some q := by
  obtain ⟨k, hk⟩ := List.getElem?_of_mem h
  exact ⟨k, by unfold mj_ws; rw [List.getElem?_map, hk]; rfl, hk⟩
theorem mj_Dd.ws {ρ : mj_Id → Nat} {Hb : Heap} (h : mj_Dd ρ Hb) (X : mj_X) (M : mj_M) : va_D (mj_A Hb) (mj_ws ρ X M) := by
  refine ⟨fun i j p q hi hj hpq => ?_, fun k q hk => ?_⟩
  · obtain ⟨a, ha, rfl⟩ := mj_ws_get hi
    obtain ⟨b, hb, rfl⟩ := mj_ws_get hj
    have hab := h.1 a (List.mem_of_getElem? ha) b (List.mem_of_getElem? hb) hpq
    subst hab
    have h1 := (List.getElem?_eq_some_iff.mp ha).1
    exact (List.getElem?_inj h1 mj_ids_nd).mp (ha.trans hb.symm)
  · obtain ⟨a, ha, rfl⟩ := mj_ws_get hk
    exact h.2 a (List.mem_of_getElem? ha)
/-! facts of the list of cells -/
theorem mj_own_lo {q : mj_Id} (h : q ∈ mj_ids) {l : Nat × Nat × Nat × Nat} (hl : l ∈ mj_lo q) : mj_own l = q ∧ l.1 < 40 ∧ mj_ok l.2.1 l.2.2.1 l.2.2.2 = true := by
  have h1 := List.all_eq_true.mp (List.all_eq_true.mp mj_ids_own q h) l hl
  simp only [Bool.and_eq_true, decide_eq_true_eq] at h1
  exact ⟨h1.1.1, Nat.lt_of_lt_of_le (Nat.le_of_ble_eq_true h1.1.2) (Nat.le_refl _), h1.2⟩
theorem mj_kd_of {q : mj_Id} (h : q ∈ mj_ids) : (mj_kind q.2.1 = 1 ∨ mj_ln q = 0) ∧ (mj_kind q.2.1 = 0 ∨ mj_ci q.2.1 = 99) ∧ q.2.1 ≠ 82 ∧ q.2.1 ≠ 80 ∧ q.2.1 ≠ 81 ∧ q.1 < 40 ∧ (mj_ia q.2.1 = true → mj_kind q.2.1 = 1) := by
  have h1 := List.all_eq_true.mp mj_ids_kd q h
  simp only [Bool.and_eq_true, Bool.or_eq_true, beq_iff_eq, bne_iff_ne, ne_eq] at h1
  obtain ⟨⟨⟨⟨⟨⟨a, b⟩, c⟩, d⟩, e⟩, f⟩, g⟩ := h1
  refine ⟨a, b, c, d, e, Nat.lt_of_lt_of_le (Nat.le_of_ble_eq_true f) (Nat.le_refl _), fun h => ?_⟩
  rcases g with g | g
  · exact g
  · rw [h] at g; cases g
theorem mj_aloc_lo {q : mj_Id} (hk : mj_kind q.2.1 = 1) {j : Nat} (hj : j < mj_ln q) : mj_aloc q j ∈ mj_lo q := by
  unfold mj_lo
  rw [if_neg (by rw [hk]; decide), if_pos hk]
  exact List.mem_map.mpr ⟨j, List.mem_range.mpr hj, rfl⟩
theorem mj_aloc_inj {q : mj_Id} (h : q ∈ mj_ids) (hk : mj_kind q.2.1 = 1) {i j : Nat} (hi : i < mj_ln q) (hj : j < mj_ln q) (e : mj_aloc q i = mj_aloc q j) : i = j := by
  have h1 := List.all_eq_true.mp mj_ids_idx q h
  simp only [hk, bne_self_eq_false, Bool.false_or] at h1
  have h2 := List.all_eq_true.mp h1
  have a := beq_iff_eq.mp (h2 i (List.mem_range.mpr hi))
  have b := beq_iff_eq.mp (h2 j (List.mem_range.mpr hj))
  rw [← a, ← b, e]
theorem mj_fd_of {q : mj_Id} (h : q ∈ mj_ids) (hk : mj_kind q.2.1 = 0) : mj_ci q.2.1 < 8 ∧ ∀ k, k < mj_nf q.2.1 → (match mj_fd q k with
    | some (.inl l) => l ∈ mj_lo q ∧ ∀ k', k' < mj_nf q.2.1 → k' ≠ k → ∀ l', mj_fd q k' = some (.inl l') → l ≠ l'
    | some (.inr q') => q' ∈ mj_ids
    | none => False) := by
  have h1 := List.all_eq_true.mp mj_ids_fd q h
  simp only [hk, bne_self_eq_false, Bool.false_or, Bool.and_eq_true] at h1
  refine ⟨Nat.lt_of_lt_of_le (Nat.le_of_ble_eq_true h1.1) (Nat.le_refl _), fun k hkk => ?_⟩
  have h2 := List.all_eq_true.mp h1.2 k (List.mem_range.mpr hkk)
  cases hf : mj_fd q k with
  | none => rw [hf] at h2; cases h2
  | some x =>
    cases x with
    | inr q' => rw [hf] at h2; exact List.contains_iff_mem.mp h2
    | inl l =>
      rw [hf] at h2
      refine ⟨?_, fun k' hk' hne l' hl' => ?_⟩
      · unfold mj_lo
        rw [if_pos hk]
        exact List.mem_filterMap.mpr ⟨k, List.mem_range.mpr hkk, by rw [hf]⟩
      · have h3 := List.all_eq_true.mp h2 k' (List.mem_range.mpr hk')
        rw [hl'] at h3
        simp only [Bool.or_eq_true, beq_iff_eq, decide_eq_true_eq] at h3
        exact h3.resolve_left hne
theorem mj_el_of {q : mj_Id} (h : q ∈ mj_ids) : (mj_kind q.2.1 = 2 ∨ mj_kind q.2.1 = 3 ∨ mj_ol q = 0) ∧ ∀ j, j < mj_ol q → ∃ q', mj_el q j = some q' ∧ q' ∈ mj_ids := by
  have h1 := List.all_eq_true.mp mj_ids_el q h
  simp only [Bool.and_eq_true, Bool.or_eq_true, beq_iff_eq] at h1
  refine ⟨by rcases h1.1 with (a | a) | a <;> simp [a], fun j hj => ?_⟩
  have h2 := List.all_eq_true.mp h1.2 j (List.mem_range.mpr hj)
  cases hf : mj_el q j with
  | none => rw [hf] at h2; cases h2
  | some q' => rw [hf] at h2; exact ⟨q', rfl, List.contains_iff_mem.mp h2⟩
/-! a cell is told by its numbers -/
theorem mj_arrV_congr {cI : ClassId} {N : Nat} {f g : Nat → Value} (h : ∀ j, j < N → f j = g j) : arrV cI N f = arrV cI N g := by
  unfold arrV
  have : (Array.ofFn (n := N) fun j => f j.val) = Array.ofFn (n := N) fun j => g j.val := congrArg _ (funext fun j => h j.val j.isLt)
  rw [this]
def mj_at (M : mj_M) (l : Nat × Nat × Nat × Nat) : Int32 := M l.1 l.2.1 l.2.2.1 l.2.2.2
theorem mj_en_congr {ρ : mj_Id → Nat} {X : mj_X} {M N : mj_M} {q : mj_Id} {D : va_G} {H : Heap} {a : Nat} (h : ∀ l ∈ mj_lo q, mj_at M l = mj_at N l) (hv : va_at D mj_cl (a, mj_en ρ X M q) H) : va_at D mj_cl (a, mj_en ρ X N q) H := by
  unfold mj_en at hv ⊢
  by_cases k0 : mj_kind q.2.1 = 0
  · rw [if_pos k0] at hv ⊢
    have e : (List.range (mj_nf q.2.1)).map (mj_fv ρ M q) = (List.range (mj_nf q.2.1)).map (mj_fv ρ N q) := by
      apply List.map_congr_left
      intro k hk
      unfold mj_fv
      cases hf : mj_fd q k with
      | none => rfl
      | some x =>
        cases x with
        | inr q' => rfl
        | inl l =>
          have := h l (by unfold mj_lo; rw [if_pos k0]; exact List.mem_filterMap.mpr ⟨k, hk, by rw [hf]⟩)
          exact congrArg Value.int this
    rw [← e]
    exact hv
  · rw [if_neg k0] at hv ⊢
    by_cases k1 : mj_kind q.2.1 = 1
    · rw [if_pos k1] at hv ⊢
      have hv : H[a]? = some (vp_cell X.1 (mj_ln q, .inl (mj_rd M q))) := hv
      show H[a]? = some (vp_cell X.1 (mj_ln q, .inl (mj_rd N q)))
      rw [hv, vp_cell_i, vp_cell_i]
      exact congrArg some (mj_arrV_congr fun j hj => congrArg Value.int (h _ (mj_aloc_lo k1 hj)))
    · rw [if_neg k1] at hv ⊢
      exact hv
/-- one cell changed -/
theorem mj_P_set {ρ : mj_Id → Nat} {X : mj_X} {M N : mj_M} {D : va_G} {H1 : Heap} {k : Nat} {q : mj_Id} {e' : va_E} (hk : mj_ids[k]? = some q) (h : va_P D mj_cl ((mj_ws ρ X M).set k (ρ q, e')) H1)
    (h1 : va_at D mj_cl (ρ q, e') H1 → va_at D mj_cl (ρ q, mj_en ρ X N q) H1) (h2 : ∀ p ∈ mj_ids, p ≠ q → ∀ l ∈ mj_lo p, mj_at M l = mj_at N l) : va_P D mj_cl (mj_ws ρ X N) H1 := by
  intro i x hx
  obtain ⟨p, hp, rfl⟩ := mj_ws_get hx
  have hlen : (mj_ws ρ X M).length = mj_ids.length := by unfold mj_ws; rw [List.length_map]
  by_cases e : k = i
  · subst e
    rw [hk] at hp
    cases hp
    exact h1 (h k _ (by rw [List.getElem?_set_self (by rw [hlen]; exact (List.getElem?_eq_some_iff.mp hk).1)]))
  · have hne : p ≠ q := fun z => e (by
      subst z
      exact (List.getElem?_inj (List.getElem?_eq_some_iff.mp hk).1 mj_ids_nd).mp (hk.trans hp.symm))
    refine mj_en_congr (h2 p (List.mem_of_getElem? hp) hne) (h i _ ?_)
    rw [List.getElem?_set_ne e]
    unfold mj_ws
    rw [List.getElem?_map, hp]
    rfl
theorem mj_at_wl {M : mj_M} {l l' : Nat × Nat × Nat × Nat} {v : Int32} : mj_at (mj_wl M l v) l' = if l' = l then v else mj_at M l' := by
  obtain ⟨i, t, c, j⟩ := l
  obtain ⟨i', t', c', j'⟩ := l'
  unfold mj_at mj_wl mj_up mj_us
  simp only [Prod.mk.injEq]
  by_cases h : i' = i
  · subst h
    simp
  · simp [h]
theorem mj_cM_wl {L : Nat} {xs : Nat → Int32} {M : mj_M} {l : Nat × Nat × Nat × Nat} {v : Int32} (hl : l.1 < 40) (h : mj_cM L xs M) : mj_cM L xs (mj_wl M l v) := by
  have e : ∀ i t c j : Nat, 40 ≤ i → mj_wl M l v i t c j = M i t c j := fun i t c j hi => by
    unfold mj_wl mj_up
    rw [if_neg (by omega)]
  obtain ⟨a, b, c, d⟩ := h
  exact ⟨fun j hj => (e _ _ _ _ (by omega)).trans (a j hj), fun j hj => (e _ _ _ _ (by omega)).trans (b j hj), by rw [e _ _ _ _ (by omega)]; exact c, fun j hj => (e _ _ _ _ (by omega)).trans (d j hj)⟩
/-! what a frame holds -/
def mj_vid (q : mj_Id) : Prop := q ∈ mj_ids ∨ q = (40, 80, 0) ∨ q = (40, 81, 0) ∨ q = (41, 82, 0)
def mj_val (lp : List Nat) (ls : mj_L) (st : List mj_V) : Prop := (∀ (j : Nat) (q : mj_Id), ls[j]? = some (some (.inr (.inr q))) → mj_vid q) ∧ (∀ (j : Nat) (w : Int64), ls[j]? = some (some (.inr (.inl w))) → lp.contains j = true) ∧ ∀ q : mj_Id, .inr (.inr q) ∈ st → mj_vid q
theorem mj_val.st {lp : List Nat} {ls : mj_L} {st st' : List mj_V} (h : mj_val lp ls st) (g : ∀ q : mj_Id, .inr (.inr q) ∈ st' → .inr (.inr q) ∈ st) : mj_val lp ls st' := ⟨h.1, h.2.1, fun q hq => h.2.2 q (g q hq)⟩
theorem mj_val.pu {lp : List Nat} {ls : mj_L} {st st' : List mj_V} {q : mj_Id} (h : mj_val lp ls st) (hq : mj_vid q) (g : ∀ v ∈ st', v ∈ st) : mj_val lp ls (.inr (.inr q) :: st') := ⟨h.1, h.2.1, fun q' hq' => by
  rcases List.mem_cons.mp hq' with e | e
  · cases e; exact hq
  · exact h.2.2 q' (g _ e)⟩
def mj_la (ρ : mj_Id → Nat) (ls : mj_L) : List (Nat × Value) := (List.range ls.length).filterMap (fun i => match ls[i]? with
  | some (some v) => some (i, mj_rv ρ v)
  | _ => none)
theorem mj_la_in {ρ : mj_Id → Nat} {ls : mj_L} {i : Nat} {v : mj_V} (h : ls[i]? = some (some v)) : (i, mj_rv ρ v) ∈ mj_la ρ ls :=
  List.mem_filterMap.mpr ⟨i, List.mem_range.mpr (List.getElem?_eq_some_iff.mp h).1, by rw [h]⟩
theorem mj_la_of {ρ : mj_Id → Nat} {ls : mj_L} {x : Nat × Value} (h : x ∈ mj_la ρ ls) : ∃ v, ls[x.1]? = some (some v) ∧ x.2 = mj_rv ρ v := by
  obtain ⟨i, -, hi⟩ := List.mem_filterMap.mp h
  split at hi
  · next v hv => cases hi; exact ⟨v, hv, rfl⟩
  · cases hi
theorem mj_la_at {ρ : mj_Id → Nat} {ls : mj_L} {la : Array Slot} {nL i : Nat} {v : mj_V} (h : lv_has la nL (mj_la ρ ls)) (hv : ls[i]? = some (some v)) : la[i]? = some (.val (mj_rv ρ v)) := h.2.2 _ (mj_la_in hv)
theorem mj_cat2 {ρ : mj_Id → Nat} {v : mj_V} (h : (mj_rv ρ v).category = 2) : ∃ w, v = .inr (.inl w) := by
  rcases v with x | w | q
  · simp [mj_rv, Value.category] at h
  · exact ⟨w, rfl⟩
  · simp [mj_rv, Value.category] at h
theorem mj_store {ρ : mj_Id → Nat} {lp : List Nat} {ls : mj_L} {st : List mj_V} {la : Array Slot} {nL i : Nat} {v : mj_V} (hv : mj_val lp ls st) (hk : mj_lpk lp i = true)
    (h : lv_has la nL ((i, mj_rv ρ v) :: (mj_la ρ ls).filter (fun q => !(q.1 == i) && !(q.1 + 1 == i && q.2.category == 2)))) : lv_has la nL (mj_la ρ (ls.set i (some v))) := by
  refine ⟨h.1, h.2.1, fun x hx => ?_⟩
  obtain ⟨w, hw, hxw⟩ := mj_la_of hx
  obtain ⟨j, y⟩ := x
  dsimp only at hw hxw
  subst hxw
  by_cases e : i = j
  · subst e
    have hi : i < ls.length := by
      have := (List.getElem?_eq_some_iff.mp hw).1
      rwa [List.length_set] at this
    rw [List.getElem?_set_self hi] at hw
    cases hw
    exact h.2.2 _ List.mem_cons_self
  · rw [List.getElem?_set_ne e] at hw
    refine h.2.2 _ (List.mem_cons_of_mem _ (List.mem_filter.mpr ⟨mj_la_in hw, ?_⟩))
    simp only [Bool.and_eq_true, Bool.not_eq_true', beq_eq_false_iff_ne, ne_eq, Bool.and_eq_false_iff]
    refine ⟨fun z => e z.symm, ?_⟩
    by_cases e2 : j + 1 = i
    · right
      intro hc
      obtain ⟨w', rfl⟩ := mj_cat2 hc
      have h1 := hv.2.1 j w' hw
      subst e2
      have hk : (!lp.contains j) = true := hk
      rw [h1] at hk
      cases hk
    · exact Or.inl e2
theorem mj_val.set {lp : List Nat} {ls : mj_L} {st st' : List mj_V} {i : Nat} {v : mj_V} (h : mj_val lp ls st) (hv : ∀ q, v = .inr (.inr q) → mj_vid q) (hl : ∀ w, v ≠ .inr (.inl w)) (g : ∀ q : mj_Id, .inr (.inr q) ∈ st' → .inr (.inr q) ∈ st) : mj_val lp (ls.set i (some v)) st' := by
  refine ⟨fun j q hj => ?_, fun j w hj => ?_, fun q hq => h.2.2 q (g q hq)⟩
  · by_cases e : i = j
    · subst e
      have hi := (List.getElem?_eq_some_iff.mp hj).1
      rw [List.length_set] at hi
      rw [List.getElem?_set_self hi] at hj
      cases hj
      exact hv q rfl
    · rw [List.getElem?_set_ne e] at hj
      exact h.1 j q hj
  · by_cases e : i = j
    · subst e
      have hi := (List.getElem?_eq_some_iff.mp hj).1
      rw [List.length_set] at hi
      rw [List.getElem?_set_self hi] at hj
      cases hj
      exact absurd rfl (hl w)
    · rw [List.getElem?_set_ne e] at hj
      exact h.2.1 j w hj
/-! what holds at a place of a method's row: the real machine comes to Q from there -/
def mj_GG (p : Program) (l : Launch) (e : Env) (R : Room) (s : State) (m : MethodId) (args : Array Value) (below : List Frame) (meth : Method) (c : Code) (cells slots : Nat) (Q : State → Prop) (nL : Nat) (lp : List Nat) (D : va_G) (X : mj_X) (ρ : mj_Id → Nat) (Hb : Heap) (L : Nat) (xs : Nat → Int32) (pc : Nat) (ls : mj_L) (st : List mj_V) (M : mj_M) : Prop :=
  ls.length = nL → mj_val lp ls st → ∀ (H : Heap) (locs : List Loc) (la : Array Slot), mj_P D X ρ Hb L xs M H → va_S (mj_A Hb) s.heap H locs → lv_has la nL (mj_la ρ ls) → W p l e R s m args below meth c H locs cells slots Q (F0 m pc la (st.map (mj_rv ρ)))

theorem mj_irem (x y : Int32) : x - x / y * y = x % y := by
  apply Int32.toInt_inj.mp
  rw [Int32.toInt_sub, Int32.toInt_mul, Int32.toInt_div, Int32.toInt_mod]
  have h1 := Int.mul_tdiv_add_tmod x.toInt y.toInt
  have h2 : x.toInt - (x.toInt.tdiv y.toInt) * y.toInt = x.toInt.tmod y.toInt := by rw [Int.mul_comm]; omega
  have h3 : ((x % y).toInt).bmod (2 ^ 32) = (x % y).toInt := by rw [← Int32.toInt_ofInt, Int32.ofInt_toInt]
  rw [Int32.toInt_mod] at h3
  rw [← h3, ← h2]
  simp

def mj_CX (p : Program) (s : State) (m : MethodId) (args : Array Value) (c : Code) (cc : ByteArray) (nL o : Nat) (D : va_G) (X : mj_X) (ρ : mj_Id → Nat) (Hb : Heap) (L : Nat) (xs : Nat → Int32) : Prop :=
  p.tables.exec = Jvm.exec ∧ c.code = cc ∧ c.maxLocals = nL ∧ s.vm.findClass (mj_cs_ o) = some m.cls ∧ (∀ w ∈ mj_WA, w.before args s = true) ∧ mj_K D X ρ Hb L xs s ∧ mj_Dd ρ Hb ∧ va_S (mj_A Hb) Hb s.heap []
section MS
variable {p : Program} {l : Launch} {e : Env} {R : Room} {s : State} {m : MethodId} {args : Array Value} {below : List Frame} {meth : Method} {c : Code} {cells slots : Nat} {Q : State → Prop}
variable {cc : ByteArray} {nL o : Nat} {lp : List Nat} {D : va_G} {X : mj_X} {ρ : mj_Id → Nat} {Hb : Heap} {L : Nat} {xs : Nat → Int32} {pc : Nat} {ls : mj_L} {r : List mj_V} {M : mj_M}

theorem ms_iadd (C : mj_CX p s m args c cc nL o D X ρ Hb L xs) {x y : Int32} (hd : decode cc pc = .ok (.iadd, 1)) (k : mj_GG p l e R s m args below meth c cells slots Q nL lp D X ρ Hb L xs (pc + 1) ls (.inl (x + y) :: r) M) : mj_GG p l e R s m args below meth c cells slots Q nL lp D X ρ Hb L xs pc ls (.inl y :: .inl x :: r) M :=
  fun hl hv H locs la hP hS hL => lv_iadd C.1 C.2.1 hd (k hl (hv.st (by simp)) H locs la hP hS hL)
theorem ms_isub (C : mj_CX p s m args c cc nL o D X ρ Hb L xs) {x y : Int32} (hd : decode cc pc = .ok (.isub, 1)) (k : mj_GG p l e R s m args below meth c cells slots Q nL lp D X ρ Hb L xs (pc + 1) ls (.inl (x - y) :: r) M) : mj_GG p l e R s m args below meth c cells slots Q nL lp D X ρ Hb L xs pc ls (.inl y :: .inl x :: r) M :=
  fun hl hv H locs la hP hS hL => lv_isub C.1 C.2.1 hd (k hl (hv.st (by simp)) H locs la hP hS hL)
theorem ms_imul (C : mj_CX p s m args c cc nL o D X ρ Hb L xs) {x y : Int32} (hd : decode cc pc = .ok (.imul, 1)) (k : mj_GG p l e R s m args below meth c cells slots Q nL lp D X ρ Hb L xs (pc + 1) ls (.inl (x * y) :: r) M) : mj_GG p l e R s m args below meth c cells slots Q nL lp D X ρ Hb L xs pc ls (.inl y :: .inl x :: r) M :=
  fun hl hv H locs la hP hS hL => lv_imul C.1 C.2.1 hd (k hl (hv.st (by simp)) H locs la hP hS hL)
theorem ms_iand (C : mj_CX p s m args c cc nL o D X ρ Hb L xs) {x y : Int32} (hd : decode cc pc = .ok (.iand, 1)) (k : mj_GG p l e R s m args below meth c cells slots Q nL lp D X ρ Hb L xs (pc + 1) ls (.inl (x &&& y) :: r) M) : mj_GG p l e R s m args below meth c cells slots Q nL lp D X ρ Hb L xs pc ls (.inl y :: .inl x :: r) M :=
  fun hl hv H locs la hP hS hL => lv_iand C.1 C.2.1 hd (k hl (hv.st (by simp)) H locs la hP hS hL)
theorem ms_ior (C : mj_CX p s m args c cc nL o D X ρ Hb L xs) {x y : Int32} (hd : decode cc pc = .ok (.ior, 1)) (k : mj_GG p l e R s m args below meth c cells slots Q nL lp D X ρ Hb L xs (pc + 1) ls (.inl (x ||| y) :: r) M) : mj_GG p l e R s m args below meth c cells slots Q nL lp D X ρ Hb L xs pc ls (.inl y :: .inl x :: r) M :=
  fun hl hv H locs la hP hS hL => lv_ior C.1 C.2.1 hd (k hl (hv.st (by simp)) H locs la hP hS hL)
theorem ms_ixor (C : mj_CX p s m args c cc nL o D X ρ Hb L xs) {x y : Int32} (hd : decode cc pc = .ok (.ixor, 1)) (k : mj_GG p l e R s m args below meth c cells slots Q nL lp D X ρ Hb L xs (pc + 1) ls (.inl (x ^^^ y) :: r) M) : mj_GG p l e R s m args below meth c cells slots Q nL lp D X ρ Hb L xs pc ls (.inl y :: .inl x :: r) M :=
  fun hl hv H locs la hP hS hL => lv_ixor C.1 C.2.1 hd (k hl (hv.st (by simp)) H locs la hP hS hL)
theorem ms_ishl (C : mj_CX p s m args c cc nL o D X ρ Hb L xs) {x y : Int32} (hd : decode cc pc = .ok (.ishl, 1)) (k : mj_GG p l e R s m args below meth c cells slots Q nL lp D X ρ Hb L xs (pc + 1) ls (.inl (x <<< (y &&& 31)) :: r) M) : mj_GG p l e R s m args below meth c cells slots Q nL lp D X ρ Hb L xs pc ls (.inl y :: .inl x :: r) M :=
  fun hl hv H locs la hP hS hL => lv_ishl C.1 C.2.1 hd (k hl (hv.st (by simp)) H locs la hP hS hL)
theorem ms_ishr (C : mj_CX p s m args c cc nL o D X ρ Hb L xs) {x y : Int32} (hd : decode cc pc = .ok (.ishr, 1)) (k : mj_GG p l e R s m args below meth c cells slots Q nL lp D X ρ Hb L xs (pc + 1) ls (.inl (x >>> (y &&& 31)) :: r) M) : mj_GG p l e R s m args below meth c cells slots Q nL lp D X ρ Hb L xs pc ls (.inl y :: .inl x :: r) M :=
  fun hl hv H locs la hP hS hL => lv_ishr C.1 C.2.1 hd (k hl (hv.st (by simp)) H locs la hP hS hL)
theorem ms_idiv (C : mj_CX p s m args c cc nL o D X ρ Hb L xs) {x y : Int32} (hd : decode cc pc = .ok (.idiv, 1)) (hne : ¬ y = 0) (k : mj_GG p l e R s m args below meth c cells slots Q nL lp D X ρ Hb L xs (pc + 1) ls (.inl (x / y) :: r) M) : mj_GG p l e R s m args below meth c cells slots Q nL lp D X ρ Hb L xs pc ls (.inl y :: .inl x :: r) M :=
  fun hl hv H locs la hP hS hL => lv_idiv C.1 C.2.1 hd hne (k hl (hv.st (by simp)) H locs la hP hS hL)
theorem ms_irem (C : mj_CX p s m args c cc nL o D X ρ Hb L xs) {x y : Int32} (hd : decode cc pc = .ok (.irem, 1)) (hne : ¬ y = 0) (k : mj_GG p l e R s m args below meth c cells slots Q nL lp D X ρ Hb L xs (pc + 1) ls (.inl (x % y) :: r) M) : mj_GG p l e R s m args below meth c cells slots Q nL lp D X ρ Hb L xs pc ls (.inl y :: .inl x :: r) M :=
  fun hl hv H locs la hP hS hL => lv_irem C.1 C.2.1 hd hne (by rw [mj_irem]; exact (k hl (hv.st (by simp)) H locs la hP hS hL))
theorem ms_ladd (C : mj_CX p s m args c cc nL o D X ρ Hb L xs) {x y : Int64} (hd : decode cc pc = .ok (.ladd, 1)) (k : mj_GG p l e R s m args below meth c cells slots Q nL lp D X ρ Hb L xs (pc + 1) ls (.inr (.inl (x + y)) :: r) M) : mj_GG p l e R s m args below meth c cells slots Q nL lp D X ρ Hb L xs pc ls (.inr (.inl y) :: .inr (.inl x) :: r) M :=
  fun hl hv H locs la hP hS hL => lv_ladd C.1 C.2.1 hd (k hl (hv.st (by simp)) H locs la hP hS hL)
theorem ms_lmul (C : mj_CX p s m args c cc nL o D X ρ Hb L xs) {x y : Int64} (hd : decode cc pc = .ok (.lmul, 1)) (k : mj_GG p l e R s m args below meth c cells slots Q nL lp D X ρ Hb L xs (pc + 1) ls (.inr (.inl (x * y)) :: r) M) : mj_GG p l e R s m args below meth c cells slots Q nL lp D X ρ Hb L xs pc ls (.inr (.inl y) :: .inr (.inl x) :: r) M :=
  fun hl hv H locs la hP hS hL => lv_lmul C.1 C.2.1 hd (k hl (hv.st (by simp)) H locs la hP hS hL)
theorem ms_land (C : mj_CX p s m args c cc nL o D X ρ Hb L xs) {x y : Int64} (hd : decode cc pc = .ok (.land, 1)) (k : mj_GG p l e R s m args below meth c cells slots Q nL lp D X ρ Hb L xs (pc + 1) ls (.inr (.inl (x &&& y)) :: r) M) : mj_GG p l e R s m args below meth c cells slots Q nL lp D X ρ Hb L xs pc ls (.inr (.inl y) :: .inr (.inl x) :: r) M :=
  fun hl hv H locs la hP hS hL => lv_land C.1 C.2.1 hd (k hl (hv.st (by simp)) H locs la hP hS hL)
theorem ms_lor (C : mj_CX p s m args c cc nL o D X ρ Hb L xs) {x y : Int64} (hd : decode cc pc = .ok (.lor, 1)) (k : mj_GG p l e R s m args below meth c cells slots Q nL lp D X ρ Hb L xs (pc + 1) ls (.inr (.inl (x ||| y)) :: r) M) : mj_GG p l e R s m args below meth c cells slots Q nL lp D X ρ Hb L xs pc ls (.inr (.inl y) :: .inr (.inl x) :: r) M :=
  fun hl hv H locs la hP hS hL => lv_lor C.1 C.2.1 hd (k hl (hv.st (by simp)) H locs la hP hS hL)
theorem ms_lcmp (C : mj_CX p s m args c cc nL o D X ρ Hb L xs) {x y : Int64} (hd : decode cc pc = .ok (.lcmp, 1)) (k : mj_GG p l e R s m args below meth c cells slots Q nL lp D X ρ Hb L xs (pc + 1) ls (.inl (lg_cmp x y) :: r) M) : mj_GG p l e R s m args below meth c cells slots Q nL lp D X ρ Hb L xs pc ls (.inr (.inl y) :: .inr (.inl x) :: r) M :=
  fun hl hv H locs la hP hS hL => W.lcmp C.1 C.2.1 hd (k hl (hv.st (by simp)) H locs la hP hS hL)
theorem ms_lshl (C : mj_CX p s m args c cc nL o D X ρ Hb L xs) {x : Int64} {y : Int32} (hd : decode cc pc = .ok (.lshl, 1)) (k : mj_GG p l e R s m args below meth c cells slots Q nL lp D X ρ Hb L xs (pc + 1) ls (.inr (.inl (x <<< (y.toInt64 &&& 63))) :: r) M) : mj_GG p l e R s m args below meth c cells slots Q nL lp D X ρ Hb L xs pc ls (.inl y :: .inr (.inl x) :: r) M :=
  fun hl hv H locs la hP hS hL => lv_lshl C.1 C.2.1 hd rfl (k hl (hv.st (by simp)) H locs la hP hS hL)
theorem ms_lshr (C : mj_CX p s m args c cc nL o D X ρ Hb L xs) {x : Int64} {y : Int32} (hd : decode cc pc = .ok (.lshr, 1)) (k : mj_GG p l e R s m args below meth c cells slots Q nL lp D X ρ Hb L xs (pc + 1) ls (.inr (.inl (x >>> (y.toInt64 &&& 63))) :: r) M) : mj_GG p l e R s m args below meth c cells slots Q nL lp D X ρ Hb L xs pc ls (.inl y :: .inr (.inl x) :: r) M :=
  fun hl hv H locs la hP hS hL => lv_lshr C.1 C.2.1 hd rfl (k hl (hv.st (by simp)) H locs la hP hS hL)
theorem ms_lushr (C : mj_CX p s m args c cc nL o D X ρ Hb L xs) {x : Int64} {y : Int32} (hd : decode cc pc = .ok (.lushr, 1)) (k : mj_GG p l e R s m args below meth c cells slots Q nL lp D X ρ Hb L xs (pc + 1) ls (.inr (.inl ((x.toUInt64 >>> (y.toInt64.toUInt64 &&& Int64.toUInt64 63)).toInt64)) :: r) M) : mj_GG p l e R s m args below meth c cells slots Q nL lp D X ρ Hb L xs pc ls (.inl y :: .inr (.inl x) :: r) M :=
  fun hl hv H locs la hP hS hL => lv_lushr C.1 C.2.1 hd rfl (k hl (hv.st (by simp)) H locs la hP hS hL)
theorem ms_i2l (C : mj_CX p s m args c cc nL o D X ρ Hb L xs) {x : Int32} (hd : decode cc pc = .ok (.i2l, 1)) (k : mj_GG p l e R s m args below meth c cells slots Q nL lp D X ρ Hb L xs (pc + 1) ls (.inr (.inl x.toInt64) :: r) M) : mj_GG p l e R s m args below meth c cells slots Q nL lp D X ρ Hb L xs pc ls (.inl x :: r) M :=
  fun hl hv H locs la hP hS hL => lv_i2l C.1 C.2.1 hd rfl (k hl (hv.st (by simp)) H locs la hP hS hL)
theorem ms_l2i (C : mj_CX p s m args c cc nL o D X ρ Hb L xs) {x : Int64} (hd : decode cc pc = .ok (.l2i, 1)) (k : mj_GG p l e R s m args below meth c cells slots Q nL lp D X ρ Hb L xs (pc + 1) ls (.inl x.toInt32 :: r) M) : mj_GG p l e R s m args below meth c cells slots Q nL lp D X ρ Hb L xs pc ls (.inr (.inl x) :: r) M :=
  fun hl hv H locs la hP hS hL => lv_l2i C.1 C.2.1 hd rfl (k hl (hv.st (by simp)) H locs la hP hS hL)
theorem ms_ineg (C : mj_CX p s m args c cc nL o D X ρ Hb L xs) {x : Int32} (hd : decode cc pc = .ok (.ineg, 1)) (k : mj_GG p l e R s m args below meth c cells slots Q nL lp D X ρ Hb L xs (pc + 1) ls (.inl (-x) :: r) M) : mj_GG p l e R s m args below meth c cells slots Q nL lp D X ρ Hb L xs pc ls (.inl x :: r) M :=
  fun hl hv H locs la hP hS hL => lv_ineg C.1 C.2.1 hd (k hl (hv.st (by simp)) H locs la hP hS hL)
theorem ms_i2b (C : mj_CX p s m args c cc nL o D X ρ Hb L xs) {x : Int32} (hd : decode cc pc = .ok (.i2b, 1)) (k : mj_GG p l e R s m args below meth c cells slots Q nL lp D X ρ Hb L xs (pc + 1) ls (.inl x.toInt8.toInt32 :: r) M) : mj_GG p l e R s m args below meth c cells slots Q nL lp D X ρ Hb L xs pc ls (.inl x :: r) M :=
  fun hl hv H locs la hP hS hL => lv_i2b C.1 C.2.1 hd rfl (k hl (hv.st (by simp)) H locs la hP hS hL)
theorem ms_i2s (C : mj_CX p s m args c cc nL o D X ρ Hb L xs) {x : Int32} (hd : decode cc pc = .ok (.i2s, 1)) (k : mj_GG p l e R s m args below meth c cells slots Q nL lp D X ρ Hb L xs (pc + 1) ls (.inl x.toInt16.toInt32 :: r) M) : mj_GG p l e R s m args below meth c cells slots Q nL lp D X ρ Hb L xs pc ls (.inl x :: r) M :=
  fun hl hv H locs la hP hS hL => lv_i2s C.1 C.2.1 hd rfl (k hl (hv.st (by simp)) H locs la hP hS hL)
theorem ms_iconst (C : mj_CX p s m args c cc nL o D X ρ Hb L xs) {n : Int} {v : Int32} (hd : decode cc pc = .ok (.iconst n, 1)) (hw : Int32.ofInt n = v) (k : mj_GG p l e R s m args below meth c cells slots Q nL lp D X ρ Hb L xs (pc + 1) ls (.inl v :: r) M) : mj_GG p l e R s m args below meth c cells slots Q nL lp D X ρ Hb L xs pc ls r M :=
  fun hl hv H locs la hP hS hL => lv_iconst C.1 C.2.1 hd hw (k hl (hv.st (by simp)) H locs la hP hS hL)
theorem ms_bipush (C : mj_CX p s m args c cc nL o D X ρ Hb L xs) {n : Int} {v : Int32} (hd : decode cc pc = .ok (.bipush n, 2)) (hw : (Int8.ofInt n).toInt32 = v) (k : mj_GG p l e R s m args below meth c cells slots Q nL lp D X ρ Hb L xs (pc + 2) ls (.inl v :: r) M) : mj_GG p l e R s m args below meth c cells slots Q nL lp D X ρ Hb L xs pc ls r M :=
  fun hl hv H locs la hP hS hL => lv_bipush C.1 C.2.1 hd hw (k hl (hv.st (by simp)) H locs la hP hS hL)
theorem ms_sipush (C : mj_CX p s m args c cc nL o D X ρ Hb L xs) {n : Int} {v : Int32} (hd : decode cc pc = .ok (.sipush n, 3)) (hw : (Int16.ofInt n).toInt32 = v) (k : mj_GG p l e R s m args below meth c cells slots Q nL lp D X ρ Hb L xs (pc + 3) ls (.inl v :: r) M) : mj_GG p l e R s m args below meth c cells slots Q nL lp D X ρ Hb L xs pc ls r M :=
  fun hl hv H locs la hP hS hL => lv_sipush C.1 C.2.1 hd hw (k hl (hv.st (by simp)) H locs la hP hS hL)
theorem ms_lconst (C : mj_CX p s m args c cc nL o D X ρ Hb L xs) {n : Fin 2} (hd : decode cc pc = .ok (.lconst n, 1)) (k : mj_GG p l e R s m args below meth c cells slots Q nL lp D X ρ Hb L xs (pc + 1) ls (.inr (.inl (Int64.ofNat n.val)) :: r) M) : mj_GG p l e R s m args below meth c cells slots Q nL lp D X ρ Hb L xs pc ls r M :=
  fun hl hv H locs la hP hS hL => lv_lconst C.1 C.2.1 hd rfl (k hl (hv.st (by simp)) H locs la hP hS hL)
theorem ms_dupi (C : mj_CX p s m args c cc nL o D X ρ Hb L xs) {x : Int32} (hd : decode cc pc = .ok (.dup, 1)) (k : mj_GG p l e R s m args below meth c cells slots Q nL lp D X ρ Hb L xs (pc + 1) ls (.inl x :: .inl x :: r) M) : mj_GG p l e R s m args below meth c cells slots Q nL lp D X ρ Hb L xs pc ls (.inl x :: r) M :=
  fun hl hv H locs la hP hS hL => lv_dup C.1 C.2.1 hd rfl (k hl (hv.st (by simp)) H locs la hP hS hL)
theorem ms_dupr (C : mj_CX p s m args c cc nL o D X ρ Hb L xs) {x : mj_Id} (hd : decode cc pc = .ok (.dup, 1)) (k : mj_GG p l e R s m args below meth c cells slots Q nL lp D X ρ Hb L xs (pc + 1) ls (.inr (.inr x) :: .inr (.inr x) :: r) M) : mj_GG p l e R s m args below meth c cells slots Q nL lp D X ρ Hb L xs pc ls (.inr (.inr x) :: r) M :=
  fun hl hv H locs la hP hS hL => lv_dup C.1 C.2.1 hd rfl (k hl (hv.st (by simp)) H locs la hP hS hL)
theorem ms_dup2 (C : mj_CX p s m args c cc nL o D X ρ Hb L xs) {q : mj_Id} {j : Int32} (hd : decode cc pc = .ok (.dup2, 1)) (k : mj_GG p l e R s m args below meth c cells slots Q nL lp D X ρ Hb L xs (pc + 1) ls (.inl j :: .inr (.inr q) :: .inl j :: .inr (.inr q) :: r) M) : mj_GG p l e R s m args below meth c cells slots Q nL lp D X ρ Hb L xs pc ls (.inl j :: .inr (.inr q) :: r) M :=
  fun hl hv H locs la hP hS hL => lv_dup2_11 C.1 C.2.1 hd rfl rfl (k hl (hv.st (by simp)) H locs la hP hS hL)
theorem ms_pop (C : mj_CX p s m args c cc nL o D X ρ Hb L xs) {x : Int32} (hd : decode cc pc = .ok (.pop, 1)) (k : mj_GG p l e R s m args below meth c cells slots Q nL lp D X ρ Hb L xs (pc + 1) ls r M) : mj_GG p l e R s m args below meth c cells slots Q nL lp D X ρ Hb L xs pc ls (.inl x :: r) M :=
  fun hl hv H locs la hP hS hL => lv_pop C.1 C.2.1 hd rfl (k hl (hv.st (fun q h => List.mem_cons_of_mem _ h)) H locs la hP hS hL)
theorem ms_iload (C : mj_CX p s m args c cc nL o D X ρ Hb L xs) {i : Nat} {x : Int32} (hd : decode cc pc = .ok (.iload i, 2)) (hx : ls[i]? = some (some (.inl x))) (k : mj_GG p l e R s m args below meth c cells slots Q nL lp D X ρ Hb L xs (pc + 2) ls (.inl x :: r) M) : mj_GG p l e R s m args below meth c cells slots Q nL lp D X ρ Hb L xs pc ls r M :=
  fun hl hv H locs la hP hS hL => lv_iload C.1 C.2.1 hd (mj_la_at hL hx) (k hl (hv.st (by simp)) H locs la hP hS hL)
theorem ms_iload_n (C : mj_CX p s m args c cc nL o D X ρ Hb L xs) {i : Fin 4} {x : Int32} (hd : decode cc pc = .ok (.iload_n i, 1)) (hx : ls[i.val]? = some (some (.inl x))) (k : mj_GG p l e R s m args below meth c cells slots Q nL lp D X ρ Hb L xs (pc + 1) ls (.inl x :: r) M) : mj_GG p l e R s m args below meth c cells slots Q nL lp D X ρ Hb L xs pc ls r M :=
  fun hl hv H locs la hP hS hL => lv_iload_n C.1 C.2.1 hd rfl (mj_la_at hL hx) (k hl (hv.st (by simp)) H locs la hP hS hL)
theorem ms_lload (C : mj_CX p s m args c cc nL o D X ρ Hb L xs) {i : Nat} {x : Int64} (hd : decode cc pc = .ok (.lload i, 2)) (hx : ls[i]? = some (some (.inr (.inl x)))) (k : mj_GG p l e R s m args below meth c cells slots Q nL lp D X ρ Hb L xs (pc + 2) ls (.inr (.inl x) :: r) M) : mj_GG p l e R s m args below meth c cells slots Q nL lp D X ρ Hb L xs pc ls r M :=
  fun hl hv H locs la hP hS hL => lv_lload C.1 C.2.1 hd (mj_la_at hL hx) (k hl (hv.st (by simp)) H locs la hP hS hL)
theorem ms_lload_n (C : mj_CX p s m args c cc nL o D X ρ Hb L xs) {i : Fin 4} {x : Int64} (hd : decode cc pc = .ok (.lload_n i, 1)) (hx : ls[i.val]? = some (some (.inr (.inl x)))) (k : mj_GG p l e R s m args below meth c cells slots Q nL lp D X ρ Hb L xs (pc + 1) ls (.inr (.inl x) :: r) M) : mj_GG p l e R s m args below meth c cells slots Q nL lp D X ρ Hb L xs pc ls r M :=
  fun hl hv H locs la hP hS hL => lv_lload_n C.1 C.2.1 hd rfl (mj_la_at hL hx) (k hl (hv.st (by simp)) H locs la hP hS hL)
theorem ms_aload (C : mj_CX p s m args c cc nL o D X ρ Hb L xs) {i : Nat} {x : mj_Id} (hd : decode cc pc = .ok (.aload i, 2)) (hx : ls[i]? = some (some (.inr (.inr x)))) (k : mj_GG p l e R s m args below meth c cells slots Q nL lp D X ρ Hb L xs (pc + 2) ls (.inr (.inr x) :: r) M) : mj_GG p l e R s m args below meth c cells slots Q nL lp D X ρ Hb L xs pc ls r M :=
  fun hl hv H locs la hP hS hL => lv_aload C.1 C.2.1 hd (mj_la_at hL hx) (k hl (hv.pu (hv.1 _ _ hx) (fun v h => h)) H locs la hP hS hL)
theorem ms_aload_n (C : mj_CX p s m args c cc nL o D X ρ Hb L xs) {i : Fin 4} {x : mj_Id} (hd : decode cc pc = .ok (.aload_n i, 1)) (hx : ls[i.val]? = some (some (.inr (.inr x)))) (k : mj_GG p l e R s m args below meth c cells slots Q nL lp D X ρ Hb L xs (pc + 1) ls (.inr (.inr x) :: r) M) : mj_GG p l e R s m args below meth c cells slots Q nL lp D X ρ Hb L xs pc ls r M :=
  fun hl hv H locs la hP hS hL => lv_aload_n C.1 C.2.1 hd rfl (mj_la_at hL hx) (k hl (hv.pu (hv.1 _ _ hx) (fun v h => h)) H locs la hP hS hL)
theorem ms_istore (C : mj_CX p s m args c cc nL o D X ρ Hb L xs) {i : Nat} {x : Int32} (hd : decode cc pc = .ok (.istore i, 2)) (hi : i < ls.length) (hk : mj_lpk lp i = true) (k : mj_GG p l e R s m args below meth c cells slots Q nL lp D X ρ Hb L xs (pc + 2) (ls.set i (some (.inl x))) r M) : mj_GG p l e R s m args below meth c cells slots Q nL lp D X ρ Hb L xs pc ls (.inl x :: r) M :=
  fun hl hv H locs la hP hS hL => lv_istore C.1 C.2.1 hd hL (hl ▸ hi) rfl (fun la' hL' => k ((List.length_set).trans hl) (hv.set (fun q h => by cases h) (fun w h => by cases h) (by simp)) H locs la' hP hS (mj_store hv hk hL'))
theorem ms_istore_n (C : mj_CX p s m args c cc nL o D X ρ Hb L xs) {i : Fin 4} {x : Int32} (hd : decode cc pc = .ok (.istore_n i, 1)) (hi : i.val < ls.length) (hk : mj_lpk lp i.val = true) (k : mj_GG p l e R s m args below meth c cells slots Q nL lp D X ρ Hb L xs (pc + 1) (ls.set i.val (some (.inl x))) r M) : mj_GG p l e R s m args below meth c cells slots Q nL lp D X ρ Hb L xs pc ls (.inl x :: r) M :=
  fun hl hv H locs la hP hS hL => lv_istore_n C.1 C.2.1 hd rfl hL (hl ▸ hi) rfl (fun la' hL' => k ((List.length_set).trans hl) (hv.set (fun q h => by cases h) (fun w h => by cases h) (by simp)) H locs la' hP hS (mj_store hv hk hL'))
theorem ms_astore (C : mj_CX p s m args c cc nL o D X ρ Hb L xs) {i : Nat} {x : mj_Id} (hd : decode cc pc = .ok (.astore i, 2)) (hi : i < ls.length) (hk : mj_lpk lp i = true) (k : mj_GG p l e R s m args below meth c cells slots Q nL lp D X ρ Hb L xs (pc + 2) (ls.set i (some (.inr (.inr x)))) r M) : mj_GG p l e R s m args below meth c cells slots Q nL lp D X ρ Hb L xs pc ls (.inr (.inr x) :: r) M :=
  fun hl hv H locs la hP hS hL => lv_astore C.1 C.2.1 hd hL (hl ▸ hi) rfl (fun la' hL' => k ((List.length_set).trans hl) (hv.set (fun q h => by cases h; exact hv.2.2 _ List.mem_cons_self) (fun w h => by cases h) (fun q h => List.mem_cons_of_mem _ h)) H locs la' hP hS (mj_store hv hk hL'))
theorem ms_astore_n (C : mj_CX p s m args c cc nL o D X ρ Hb L xs) {i : Fin 4} {x : mj_Id} (hd : decode cc pc = .ok (.astore_n i, 1)) (hi : i.val < ls.length) (hk : mj_lpk lp i.val = true) (k : mj_GG p l e R s m args below meth c cells slots Q nL lp D X ρ Hb L xs (pc + 1) (ls.set i.val (some (.inr (.inr x)))) r M) : mj_GG p l e R s m args below meth c cells slots Q nL lp D X ρ Hb L xs pc ls (.inr (.inr x) :: r) M :=
  fun hl hv H locs la hP hS hL => lv_astore_n C.1 C.2.1 hd rfl hL (hl ▸ hi) rfl (fun la' hL' => k ((List.length_set).trans hl) (hv.set (fun q h => by cases h; exact hv.2.2 _ List.mem_cons_self) (fun w h => by cases h) (fun q h => List.mem_cons_of_mem _ h)) H locs la' hP hS (mj_store hv hk hL'))
theorem ms_iinc (C : mj_CX p s m args c cc nL o D X ρ Hb L xs) {i : Nat} {n : Int} {x v : Int32} (hd : decode cc pc = .ok (.iinc i n, 3)) (hx : ls[i]? = some (some (.inl x))) (hw : Int32.ofInt n = v) (hi : i < ls.length) (hk : mj_lpk lp i = true) (k : mj_GG p l e R s m args below meth c cells slots Q nL lp D X ρ Hb L xs (pc + 3) (ls.set i (some (.inl (x + v)))) r M) : mj_GG p l e R s m args below meth c cells slots Q nL lp D X ρ Hb L xs pc ls r M := by
  intro hl hv H locs la hP hS hL
  obtain ⟨j, hj⟩ := List.getElem?_of_mem (mj_la_in (ρ := ρ) hx)
  refine lv_iinc (v := x + v) C.1 C.2.1 hd hL hj (by rw [hw]) (hl ▸ hi) rfl (fun la' hL' => ?_)
  exact k ((List.length_set).trans hl) (hv.set (fun q h => by cases h) (fun w h => by cases h) (fun q h => h)) H locs la' hP hS (mj_store hv hk hL')
theorem ms_icmp_eq (C : mj_CX p s m args c cc nL o D X ρ Hb L xs) {off : Int} {t : Nat} {x y : Int32} (hd : decode cc pc = .ok (.if_icmp .eq off, 3)) (ht : (pc : Int) + off = (t : Int)) (kt : x = y → mj_GG p l e R s m args below meth c cells slots Q nL lp D X ρ Hb L xs t ls r M) (kf : ¬ (x = y) → mj_GG p l e R s m args below meth c cells slots Q nL lp D X ρ Hb L xs (pc + 3) ls r M) : mj_GG p l e R s m args below meth c cells slots Q nL lp D X ρ Hb L xs pc ls (.inl y :: .inl x :: r) M :=
  fun hl hv H locs la hP hS hL => lv_icmp_eq C.1 C.2.1 hd ht (fun h => kt h hl (hv.st (by simp)) H locs la hP hS hL) (fun h => kf h hl (hv.st (by simp)) H locs la hP hS hL)
theorem ms_if_eq (C : mj_CX p s m args c cc nL o D X ρ Hb L xs) {off : Int} {t : Nat} {x : Int32} (hd : decode cc pc = .ok (.ifCond .eq off, 3)) (ht : (pc : Int) + off = (t : Int)) (kt : x = 0 → mj_GG p l e R s m args below meth c cells slots Q nL lp D X ρ Hb L xs t ls r M) (kf : ¬ (x = 0) → mj_GG p l e R s m args below meth c cells slots Q nL lp D X ρ Hb L xs (pc + 3) ls r M) : mj_GG p l e R s m args below meth c cells slots Q nL lp D X ρ Hb L xs pc ls (.inl x :: r) M :=
  fun hl hv H locs la hP hS hL => lv_if_eq C.1 C.2.1 hd ht (fun h => kt h hl (hv.st (by simp)) H locs la hP hS hL) (fun h => kf h hl (hv.st (by simp)) H locs la hP hS hL)
theorem ms_icmp_ne (C : mj_CX p s m args c cc nL o D X ρ Hb L xs) {off : Int} {t : Nat} {x y : Int32} (hd : decode cc pc = .ok (.if_icmp .ne off, 3)) (ht : (pc : Int) + off = (t : Int)) (kt : ¬ x = y → mj_GG p l e R s m args below meth c cells slots Q nL lp D X ρ Hb L xs t ls r M) (kf : ¬ (¬ x = y) → mj_GG p l e R s m args below meth c cells slots Q nL lp D X ρ Hb L xs (pc + 3) ls r M) : mj_GG p l e R s m args below meth c cells slots Q nL lp D X ρ Hb L xs pc ls (.inl y :: .inl x :: r) M :=
  fun hl hv H locs la hP hS hL => lv_icmp_ne C.1 C.2.1 hd ht (fun h => kt h hl (hv.st (by simp)) H locs la hP hS hL) (fun h => kf (fun z => z h) hl (hv.st (by simp)) H locs la hP hS hL)
theorem ms_if_ne (C : mj_CX p s m args c cc nL o D X ρ Hb L xs) {off : Int} {t : Nat} {x : Int32} (hd : decode cc pc = .ok (.ifCond .ne off, 3)) (ht : (pc : Int) + off = (t : Int)) (kt : ¬ x = 0 → mj_GG p l e R s m args below meth c cells slots Q nL lp D X ρ Hb L xs t ls r M) (kf : ¬ (¬ x = 0) → mj_GG p l e R s m args below meth c cells slots Q nL lp D X ρ Hb L xs (pc + 3) ls r M) : mj_GG p l e R s m args below meth c cells slots Q nL lp D X ρ Hb L xs pc ls (.inl x :: r) M :=
  fun hl hv H locs la hP hS hL => lv_if_ne C.1 C.2.1 hd ht (fun h => kt h hl (hv.st (by simp)) H locs la hP hS hL) (fun h => kf (fun z => z h) hl (hv.st (by simp)) H locs la hP hS hL)
theorem ms_icmp_lt (C : mj_CX p s m args c cc nL o D X ρ Hb L xs) {off : Int} {t : Nat} {x y : Int32} (hd : decode cc pc = .ok (.if_icmp .lt off, 3)) (ht : (pc : Int) + off = (t : Int)) (kt : x < y → mj_GG p l e R s m args below meth c cells slots Q nL lp D X ρ Hb L xs t ls r M) (kf : ¬ (x < y) → mj_GG p l e R s m args below meth c cells slots Q nL lp D X ρ Hb L xs (pc + 3) ls r M) : mj_GG p l e R s m args below meth c cells slots Q nL lp D X ρ Hb L xs pc ls (.inl y :: .inl x :: r) M :=
  fun hl hv H locs la hP hS hL => lv_icmp_lt C.1 C.2.1 hd ht (fun h => kt h hl (hv.st (by simp)) H locs la hP hS hL) (fun h => kf h hl (hv.st (by simp)) H locs la hP hS hL)
theorem ms_if_lt (C : mj_CX p s m args c cc nL o D X ρ Hb L xs) {off : Int} {t : Nat} {x : Int32} (hd : decode cc pc = .ok (.ifCond .lt off, 3)) (ht : (pc : Int) + off = (t : Int)) (kt : x < 0 → mj_GG p l e R s m args below meth c cells slots Q nL lp D X ρ Hb L xs t ls r M) (kf : ¬ (x < 0) → mj_GG p l e R s m args below meth c cells slots Q nL lp D X ρ Hb L xs (pc + 3) ls r M) : mj_GG p l e R s m args below meth c cells slots Q nL lp D X ρ Hb L xs pc ls (.inl x :: r) M :=
  fun hl hv H locs la hP hS hL => lv_if_lt C.1 C.2.1 hd ht (fun h => kt h hl (hv.st (by simp)) H locs la hP hS hL) (fun h => kf h hl (hv.st (by simp)) H locs la hP hS hL)
theorem ms_icmp_ge (C : mj_CX p s m args c cc nL o D X ρ Hb L xs) {off : Int} {t : Nat} {x y : Int32} (hd : decode cc pc = .ok (.if_icmp .ge off, 3)) (ht : (pc : Int) + off = (t : Int)) (kt : y ≤ x → mj_GG p l e R s m args below meth c cells slots Q nL lp D X ρ Hb L xs t ls r M) (kf : ¬ (y ≤ x) → mj_GG p l e R s m args below meth c cells slots Q nL lp D X ρ Hb L xs (pc + 3) ls r M) : mj_GG p l e R s m args below meth c cells slots Q nL lp D X ρ Hb L xs pc ls (.inl y :: .inl x :: r) M :=
  fun hl hv H locs la hP hS hL => lv_icmp_ge C.1 C.2.1 hd ht (fun h => kt h hl (hv.st (by simp)) H locs la hP hS hL) (fun h => kf h hl (hv.st (by simp)) H locs la hP hS hL)
theorem ms_if_ge (C : mj_CX p s m args c cc nL o D X ρ Hb L xs) {off : Int} {t : Nat} {x : Int32} (hd : decode cc pc = .ok (.ifCond .ge off, 3)) (ht : (pc : Int) + off = (t : Int)) (kt : 0 ≤ x → mj_GG p l e R s m args below meth c cells slots Q nL lp D X ρ Hb L xs t ls r M) (kf : ¬ (0 ≤ x) → mj_GG p l e R s m args below meth c cells slots Q nL lp D X ρ Hb L xs (pc + 3) ls r M) : mj_GG p l e R s m args below meth c cells slots Q nL lp D X ρ Hb L xs pc ls (.inl x :: r) M :=
  fun hl hv H locs la hP hS hL => lv_if_ge C.1 C.2.1 hd ht (fun h => kt h hl (hv.st (by simp)) H locs la hP hS hL) (fun h => kf h hl (hv.st (by simp)) H locs la hP hS hL)
theorem ms_icmp_gt (C : mj_CX p s m args c cc nL o D X ρ Hb L xs) {off : Int} {t : Nat} {x y : Int32} (hd : decode cc pc = .ok (.if_icmp .gt off, 3)) (ht : (pc : Int) + off = (t : Int)) (kt : y < x → mj_GG p l e R s m args below meth c cells slots Q nL lp D X ρ Hb L xs t ls r M) (kf : ¬ (y < x) → mj_GG p l e R s m args below meth c cells slots Q nL lp D X ρ Hb L xs (pc + 3) ls r M) : mj_GG p l e R s m args below meth c cells slots Q nL lp D X ρ Hb L xs pc ls (.inl y :: .inl x :: r) M :=
  fun hl hv H locs la hP hS hL => lv_icmp_gt C.1 C.2.1 hd ht (fun h => kt h hl (hv.st (by simp)) H locs la hP hS hL) (fun h => kf h hl (hv.st (by simp)) H locs la hP hS hL)
theorem ms_if_gt (C : mj_CX p s m args c cc nL o D X ρ Hb L xs) {off : Int} {t : Nat} {x : Int32} (hd : decode cc pc = .ok (.ifCond .gt off, 3)) (ht : (pc : Int) + off = (t : Int)) (kt : 0 < x → mj_GG p l e R s m args below meth c cells slots Q nL lp D X ρ Hb L xs t ls r M) (kf : ¬ (0 < x) → mj_GG p l e R s m args below meth c cells slots Q nL lp D X ρ Hb L xs (pc + 3) ls r M) : mj_GG p l e R s m args below meth c cells slots Q nL lp D X ρ Hb L xs pc ls (.inl x :: r) M :=
  fun hl hv H locs la hP hS hL => lv_if_gt C.1 C.2.1 hd ht (fun h => kt h hl (hv.st (by simp)) H locs la hP hS hL) (fun h => kf h hl (hv.st (by simp)) H locs la hP hS hL)
theorem ms_icmp_le (C : mj_CX p s m args c cc nL o D X ρ Hb L xs) {off : Int} {t : Nat} {x y : Int32} (hd : decode cc pc = .ok (.if_icmp .le off, 3)) (ht : (pc : Int) + off = (t : Int)) (kt : x ≤ y → mj_GG p l e R s m args below meth c cells slots Q nL lp D X ρ Hb L xs t ls r M) (kf : ¬ (x ≤ y) → mj_GG p l e R s m args below meth c cells slots Q nL lp D X ρ Hb L xs (pc + 3) ls r M) : mj_GG p l e R s m args below meth c cells slots Q nL lp D X ρ Hb L xs pc ls (.inl y :: .inl x :: r) M :=
  fun hl hv H locs la hP hS hL => lv_icmp_le C.1 C.2.1 hd ht (fun h => kt h hl (hv.st (by simp)) H locs la hP hS hL) (fun h => kf h hl (hv.st (by simp)) H locs la hP hS hL)
theorem ms_if_le (C : mj_CX p s m args c cc nL o D X ρ Hb L xs) {off : Int} {t : Nat} {x : Int32} (hd : decode cc pc = .ok (.ifCond .le off, 3)) (ht : (pc : Int) + off = (t : Int)) (kt : x ≤ 0 → mj_GG p l e R s m args below meth c cells slots Q nL lp D X ρ Hb L xs t ls r M) (kf : ¬ (x ≤ 0) → mj_GG p l e R s m args below meth c cells slots Q nL lp D X ρ Hb L xs (pc + 3) ls r M) : mj_GG p l e R s m args below meth c cells slots Q nL lp D X ρ Hb L xs pc ls (.inl x :: r) M :=
  fun hl hv H locs la hP hS hL => lv_if_le C.1 C.2.1 hd ht (fun h => kt h hl (hv.st (by simp)) H locs la hP hS hL) (fun h => kf h hl (hv.st (by simp)) H locs la hP hS hL)
theorem ms_goto (C : mj_CX p s m args c cc nL o D X ρ Hb L xs) {off : Int} {t : Nat} (hd : decode cc pc = .ok (.goto off, 3)) (ht : (pc : Int) + off = (t : Int)) (k : mj_GG p l e R s m args below meth c cells slots Q nL lp D X ρ Hb L xs t ls r M) : mj_GG p l e R s m args below meth c cells slots Q nL lp D X ρ Hb L xs pc ls r M :=
  fun hl hv H locs la hP hS hL => lv_goto C.1 C.2.1 hd ht (k hl hv H locs la hP hS hL)
end MS
end
section

theorem mj_S_tr {Hb H0 H : Heap} {locs : List Loc} (h : va_S (mj_A Hb) Hb H0 []) (g : va_S (mj_A Hb) H0 H locs) : va_S (mj_A Hb) Hb H [] :=
  ⟨Nat.le_trans h.1 g.1, fun q h1 h2 => (g.2.1 q (Nat.lt_of_lt_of_le h1 h.1) h2).trans (h.2.1 q h1 h2), fun _ h => by cases h⟩
theorem mj_obj {q : mj_Id} (hq : mj_vid q) {k : Nat} (hk : k < (mj_cl.getD (mj_ci q.2.1) ("", mj_T0, 0)).2.2) : q ∈ mj_ids ∧ mj_kind q.2.1 = 0 ∧ k < mj_nf q.2.1 := by
  rcases hq with h | rfl | rfl | rfl
  · refine ⟨h, ?_, hk⟩
    rcases (mj_kd_of h).2.1 with z | z
    · exact z
    · rw [z] at hk
      exact absurd hk (Nat.not_lt_zero k)
  · exact absurd hk (Nat.not_lt_zero k)
  · exact absurd hk (Nat.not_lt_zero k)
  · exact absurd hk (Nat.not_lt_zero k)
theorem mj_cl_at {ci : Nat} (h : ci < 8) : ∃ (Cn : String) (T : u_T) (N : Nat), mj_cl[ci]? = some (Cn, T, N) ∧ mj_TT ci = T ∧ (mj_cl.getD ci ("", mj_T0, 0)).2.2 = N ∧ mj_cs_ ci = Cn := by
  rcases (by omega : ci = 0 ∨ ci = 1 ∨ ci = 2 ∨ ci = 3 ∨ ci = 4 ∨ ci = 5 ∨ ci = 6 ∨ ci = 7) with rfl | rfl | rfl | rfl | rfl | rfl | rfl | rfl <;> exact ⟨_, _, _, rfl, rfl, rfl, rfl⟩
theorem mj_en_o {ρ : mj_Id → Nat} {X : mj_X} {M : mj_M} {q : mj_Id} (h : mj_kind q.2.1 = 0) : mj_en ρ X M q = .inr (mj_ci q.2.1, (List.range (mj_nf q.2.1)).map (mj_fv ρ M q)) := by
  unfold mj_en
  rw [if_pos h]
theorem mj_en_i {ρ : mj_Id → Nat} {X : mj_X} {M : mj_M} {q : mj_Id} (h : mj_kind q.2.1 = 1) : mj_en ρ X M q = .inl (X.1, mj_ln q, .inl (mj_rd M q)) := by
  unfold mj_en
  rw [if_neg (by rw [h]; decide), if_pos h]
theorem mj_fs_at {ρ : mj_Id → Nat} {M : mj_M} {q : mj_Id} {k : Nat} (h : k < mj_nf q.2.1) : ((List.range (mj_nf q.2.1)).map (mj_fv ρ M q))[k]? = some (mj_fv ρ M q k) := by
  rw [List.getElem?_map, List.getElem?_range h]
  rfl
theorem mj_len_of {M : mj_M} {q : mj_Id} (h : q ∈ mj_ids) : mj_len M q = mj_ln q := by
  have h1 := (mj_kd_of h).2.2.1
  unfold mj_len mj_ln
  split
  · next e => exact absurd e h1
  · rfl
theorem mj_in0 {i : Int32} : ¬ vp_in i 0 := fun h => h (Or.inr (Nat.zero_le _))
theorem mj_in_lt {i : Int32} {n : Nat} (h : vp_in i n) : i.toNatClampNeg < n := Nat.not_le.mp fun q => h (Or.inr q)
section MT
variable {p : Program} {l : Launch} {e : Env} {R : Room} {s : State} {m : MethodId} {args : Array Value} {below : List Frame} {meth : Method} {c : Code} {cells slots : Nat} {Q : State → Prop}
variable {cc : ByteArray} {nL o : Nat} {lp : List Nat} {D : va_G} {X : mj_X} {ρ : mj_Id → Nat} {Hb : Heap} {L : Nat} {xs : Nat → Int32} {pc : Nat} {ls : mj_L} {r : List mj_V} {M : mj_M}

theorem ms_getn (C : mj_CX p s m args c cc nL o D X ρ Hb L xs) {x k : Nat} {q : mj_Id} {t : Nat × Nat × Nat × Nat} (hd : decode cc pc = .ok (.getfield x, 3)) (hf : mj_FL.contains (o, x, mj_ci q.2.1, k) = true) (hk : k < (mj_cl.getD (mj_ci q.2.1) ("", mj_T0, 0)).2.2) (hv : mj_fd q k = some (.inl t))
    (kk : mj_GG p l e R s m args below meth c cells slots Q nL lp D X ρ Hb L xs (pc + 3) ls (.inl (mj_at M t) :: r) M) : mj_GG p l e R s m args below meth c cells slots Q nL lp D X ρ Hb L xs pc ls (.inr (.inr q) :: r) M := by
  intro hl hvv H locs la hP hS hL
  obtain ⟨hqi, hk0, hkn⟩ := mj_obj (hvv.2.2 q List.mem_cons_self) hk
  obtain ⟨q0, he, -⟩ := mj_ws_at (ρ := ρ) (X := X) (M := M) hqi
  obtain ⟨Cn, T, N, hc, hT, hN, -⟩ := mj_cl_at (mj_fd_of hqi hk0).1
  rw [mj_en_o hk0] at he
  have hw := mj_FL_ok _ (List.mem_map.mpr ⟨_, List.contains_iff_mem.mp hf, rfl⟩)
  have hlk := C.2.2.2.2.1 _ hw
  unfold mj_wf at hlk
  dsimp only at hlk
  rw [hT] at hlk
  exact va_get C.1 C.2.1 C.2.2.2.2.1 (mj_cl_u _ (List.mem_of_getElem? hc)) C.2.2.2.1 C.2.2.2.2.2.1.1 hP.1 q0 he hc k (hN ▸ hk) hlk (fun _ h => h) (v := .int (mj_at M t)) (by rw [mj_fs_at hkn]; unfold mj_fv; rw [hv]; rfl) hd
    (kk hl (hvv.st (fun _ h => by simp at h ⊢; simp [h])) H locs la hP hS hL)
theorem ms_getr (C : mj_CX p s m args c cc nL o D X ρ Hb L xs) {x k : Nat} {q t : mj_Id} (hd : decode cc pc = .ok (.getfield x, 3)) (hf : mj_FL.contains (o, x, mj_ci q.2.1, k) = true) (hk : k < (mj_cl.getD (mj_ci q.2.1) ("", mj_T0, 0)).2.2) (hv : mj_fd q k = some (.inr t))
    (kk : mj_GG p l e R s m args below meth c cells slots Q nL lp D X ρ Hb L xs (pc + 3) ls (.inr (.inr t) :: r) M) : mj_GG p l e R s m args below meth c cells slots Q nL lp D X ρ Hb L xs pc ls (.inr (.inr q) :: r) M := by
  intro hl hvv H locs la hP hS hL
  obtain ⟨hqi, hk0, hkn⟩ := mj_obj (hvv.2.2 q List.mem_cons_self) hk
  obtain ⟨q0, he, -⟩ := mj_ws_at (ρ := ρ) (X := X) (M := M) hqi
  obtain ⟨Cn, T, N, hc, hT, hN, -⟩ := mj_cl_at (mj_fd_of hqi hk0).1
  rw [mj_en_o hk0] at he
  have hw := mj_FL_ok _ (List.mem_map.mpr ⟨_, List.contains_iff_mem.mp hf, rfl⟩)
  have hlk := C.2.2.2.2.1 _ hw
  unfold mj_wf at hlk
  dsimp only at hlk
  rw [hT] at hlk
  have ht : mj_vid t := by
    have h := (mj_fd_of hqi hk0).2 k hkn
    rw [hv] at h
    exact Or.inl h
  exact va_get C.1 C.2.1 C.2.2.2.2.1 (mj_cl_u _ (List.mem_of_getElem? hc)) C.2.2.2.1 C.2.2.2.2.2.1.1 hP.1 q0 he hc k (hN ▸ hk) hlk (fun _ h => h) (v := .ref (ρ t)) (by rw [mj_fs_at hkn]; unfold mj_fv; rw [hv]) hd
    (kk hl (hvv.pu ht (fun v h => List.mem_cons_of_mem _ h)) H locs la hP hS hL)
theorem mj_fs_set {q : mj_Id} (hq : q ∈ mj_ids) (hk0 : mj_kind q.2.1 = 0) {k : Nat} (hkn : k < mj_nf q.2.1) {t : Nat × Nat × Nat × Nat} (hv : mj_fd q k = some (.inl t)) {v : Int32} : ((List.range (mj_nf q.2.1)).map (mj_fv ρ M q)).set k (.int v) = (List.range (mj_nf q.2.1)).map (mj_fv ρ (mj_wl M t v) q) := by
  have hf := (mj_fd_of hq hk0).2 k hkn
  rw [hv] at hf
  apply List.ext_getElem?
  intro i
  by_cases hi : i < mj_nf q.2.1
  · by_cases e : k = i
    · subst e
      rw [List.getElem?_set_self (by rw [List.length_map, List.length_range]; exact hkn), mj_fs_at hkn]
      unfold mj_fv
      rw [hv]
      have := mj_at_wl (M := M) (l := t) (l' := t) (v := v)
      rw [if_pos rfl] at this
      exact congrArg (fun z => some (Value.int z)) this.symm
    · rw [List.getElem?_set_ne e, mj_fs_at hi, mj_fs_at hi]
      unfold mj_fv
      cases hfi : mj_fd q i with
      | none => rfl
      | some x =>
        cases x with
        | inr q' => rfl
        | inl t' =>
          have hne := hf.2 i hi (fun z => e z.symm) t' hfi
          have := mj_at_wl (M := M) (l := t) (l' := t') (v := v)
          rw [if_neg (fun z => hne z.symm)] at this
          exact congrArg (fun z => some (Value.int z)) this.symm
  · have e1 : (((List.range (mj_nf q.2.1)).map (mj_fv ρ M q)).set k (.int v))[i]? = none := List.getElem?_eq_none (by rw [List.length_set, List.length_map, List.length_range]; omega)
    have e2 : ((List.range (mj_nf q.2.1)).map (mj_fv ρ (mj_wl M t v) q))[i]? = none := List.getElem?_eq_none (by rw [List.length_map, List.length_range]; omega)
    rw [e1, e2]
/-- a store to a place of a cell leaves the other cells -/
theorem mj_wl_others {q : mj_Id} (hq : q ∈ mj_ids) {t : Nat × Nat × Nat × Nat} (ht : t ∈ mj_lo q) {v : Int32} : ∀ p ∈ mj_ids, p ≠ q → ∀ t' ∈ mj_lo p, mj_at M t' = mj_at (mj_wl M t v) t' := by
  intro p hp hne t' ht'
  rw [mj_at_wl, if_neg]
  intro e
  subst e
  exact hne ((mj_own_lo hp ht').1.symm.trans (mj_own_lo hq ht).1)
theorem ms_put (C : mj_CX p s m args c cc nL o D X ρ Hb L xs) {x k b : Nat} {q : mj_Id} {t : Nat × Nat × Nat × Nat} {v : Int32} (hd : decode cc pc = .ok (.putfield x, 3)) (hf : mj_FL.contains (o, x, mj_ci q.2.1, k) = true) (hk : k < (mj_cl.getD (mj_ci q.2.1) ("", mj_T0, 0)).2.2) (hfin : (mj_TT (mj_ci q.2.1) k).2.2.2 = false)
    (hty : parseFieldDescriptor (mj_TT (mj_ci q.2.1) k).2.2.1 = some (if b = 1 then .boolean else .int)) (hb : b = 1 → v = 0 ∨ v = 1) (hv : mj_fd q k = some (.inl t)) (kk : mj_GG p l e R s m args below meth c cells slots Q nL lp D X ρ Hb L xs (pc + 3) ls r (mj_wl M t v)) : mj_GG p l e R s m args below meth c cells slots Q nL lp D X ρ Hb L xs pc ls (.inl v :: .inr (.inr q) :: r) M := by
  intro hl hvv H locs la hP hS hL
  obtain ⟨hqi, hk0, hkn⟩ := mj_obj (hvv.2.2 q (by simp)) hk
  obtain ⟨q0, he, hq0⟩ := mj_ws_at (ρ := ρ) (X := X) (M := M) hqi
  obtain ⟨Cn, T, N, hc, hT, hN, -⟩ := mj_cl_at (mj_fd_of hqi hk0).1
  have he0 := he
  rw [mj_en_o hk0] at he
  have hw := mj_FL_ok _ (List.mem_map.mpr ⟨_, List.contains_iff_mem.mp hf, rfl⟩)
  have hlk := C.2.2.2.2.1 _ hw
  unfold mj_wf at hlk
  dsimp only at hlk
  rw [hT] at hlk hfin hty
  have hft := (mj_fd_of hqi hk0).2 k hkn
  rw [hv] at hft
  have hnf : narrow (if b = 1 then FieldType.boolean else .int) (.int v) = .int v ∧ fits (if b = 1 then FieldType.boolean else .int) (.int v) = true := by
    by_cases e : b = 1
    · rw [if_pos e]
      rcases hb e with rfl | rfl <;> exact ⟨rfl, rfl⟩
    · rw [if_neg e]
      exact ⟨rfl, rfl⟩
  refine va_put C.1 C.2.1 C.2.2.2.2.1 (mj_cl_u _ (List.mem_of_getElem? hc)) (fun j => (parseFieldDescriptor (T j).2.2.1).getD .int) (mj_cl_t _ (List.mem_of_getElem? hc)) (mj_cl_n _ (List.mem_of_getElem? hc)) C.2.2.2.1 C.2.2.2.2.2.1.1 hP.1 (C.2.2.2.2.2.2.1.ws X M) hS q0 he hc k (hN ▸ hk) hlk (fun _ h => h) hfin hty hnf.1 hnf.2 (by rw [List.length_map, List.length_range]; exact hkn) hd (fun H1 locs1 hP1 _ hS1 => ?_)
  refine kk hl (hvv.st (fun q h => by simp [h])) H1 locs1 la ⟨?_, mj_S_tr C.2.2.2.2.2.2.2 hS1, mj_cM_wl (mj_own_lo hqi hft.1).2.1 hP.2.2⟩ hS1 hL
  refine mj_P_set hq0 hP1 (fun h => ?_) (mj_wl_others hqi hft.1)
  rw [mj_en_o hk0, ← mj_fs_set hqi hk0 hkn hv]
  exact h
theorem mj_T_at {a N : Nat} {f : Nat → Value} {U : State} {H : Heap} (h : va_T .int a N f (mj_A Hb) U Hb) (hS : va_S (mj_A Hb) Hb H []) : ∃ cell : Cell, H[a]? = some cell ∧ U.isArrayOf cell .int ∧ cell.vm ≠ .unknown ∧ N ≤ cell.slots.size ∧ cell.slots.size.toInt32 = Int32.ofNat N ∧ (∀ j : Nat, j < N → cell.slots[j]? = some (f j)) := by
  obtain ⟨cell, h1, h2, h3, h4, h5, h6, h7⟩ := h
  exact ⟨cell, by rw [hS.2.1 a (Array.getElem?_eq_some_iff.mp h1).1 h7]; exact h1, h2, h3, h4, h5, h6⟩
theorem ms_iald (C : mj_CX p s m args c cc nL o D X ρ Hb L xs) {q : mj_Id} {j : Int32} (hd : decode cc pc = .ok (.iaload, 1)) (hin : vp_in j (mj_len M q)) (kk : mj_GG p l e R s m args below meth c cells slots Q nL lp D X ρ Hb L xs (pc + 1) ls (.inl (mj_rd M q j.toNatClampNeg) :: r) M) : mj_GG p l e R s m args below meth c cells slots Q nL lp D X ρ Hb L xs pc ls (.inl j :: .inr (.inr q) :: r) M := by
  intro hl hvv H locs la hP hS hL
  have K := kk hl (hvv.st (fun _ h => by simp at h ⊢; simp [h])) H locs la hP hS hL
  have stat : ∀ {a : Nat} {f : Nat → Int32}, va_T .int a 4 (fun i => .int (f i)) (mj_A Hb) s Hb → vp_in j 4 → f j.toNatClampNeg = mj_rd M q j.toNatClampNeg → ρ q = a → W p l e R s m args below meth c H locs cells slots Q (F0 m pc la (.int j :: .ref (ρ q) :: r.map (mj_rv ρ))) := by
    intro a f hT hj hf ha
    subst ha
    obtain ⟨cell, g1, g2, g3, g4, g5, g6⟩ := mj_T_at hT hP.2.1
    refine W.iald (v := .int (mj_rd M q j.toNatClampNeg)) C.1 C.2.1 g1 g2 g3 (fun z => hj (z.imp id (fun z => Nat.le_trans g4 z))) (by rw [g6 _ (mj_in_lt hj), hf]) rfl rfl hd K
  rcases hvv.2.2 q (by simp) with h | rfl | rfl | rfl
  · rw [mj_len_of h] at hin
    rcases (mj_kd_of h).1 with hk | hk
    · obtain ⟨q0, he, -⟩ := mj_ws_at (ρ := ρ) (X := X) (M := M) h
      rw [mj_en_i hk] at he
      exact va_iald C.1 C.2.1 C.2.2.2.2.2.1.1 hP.1 q0 0 he rfl hin hd K
    · rw [hk] at hin
      exact absurd hin mj_in0
  · exact stat C.2.2.2.2.2.1.2.2.2.1 hin (hP.2.2.1 _ (mj_in_lt hin)).symm rfl
  · exact stat C.2.2.2.2.2.1.2.2.2.2.1 hin (hP.2.2.2.1 _ (mj_in_lt hin)).symm rfl
  · have hin : vp_in j L := hP.2.2.2.2.1 ▸ hin
    obtain ⟨scr, g1, g2, g3, g4, g5⟩ := C.2.2.2.2.2.1.2.2.2.2.2.1
    have K : W p l e R s m args below meth c H locs cells slots Q (F0 m (pc + 1) la (.int (M 41 82 0 j.toNatClampNeg) :: r.map (mj_rv ρ))) := K
    rw [hP.2.2.2.2.2 _ (mj_in_lt hin)] at K
    have hX : va_X (ρ (41, 82, 0)) L xs s Hb := ⟨scr, g1, g2, g3, g4, g5⟩
    have hlt : ρ (41, 82, 0) < Hb.size := (Array.getElem?_eq_some_iff.mp g1).1
    exact va_sld C.1 C.2.1 (A := mj_A Hb) hX hlt (fun z => absurd hlt (Nat.not_lt.mpr z)) ⟨hP.2.1.1, hP.2.1.2.1, hS.2.2⟩ hin hd K
theorem mj_ari {q : mj_Id} (h : mj_vid q) (ht : q.2.1 < 80) : q ∈ mj_ids := by
  rcases h with h | rfl | rfl | rfl
  · exact h
  · exact absurd ht (by decide)
  · exact absurd ht (by decide)
  · exact absurd ht (by decide)
theorem ms_iast (C : mj_CX p s m args c cc nL o D X ρ Hb L xs) {q : mj_Id} {j v : Int32} (hd : decode cc pc = .ok (.iastore, 1)) (ht : q.2.1 < 80) (hin : vp_in j (mj_len M q)) (kk : mj_GG p l e R s m args below meth c cells slots Q nL lp D X ρ Hb L xs (pc + 1) ls r (mj_wr M q j.toNatClampNeg v)) : mj_GG p l e R s m args below meth c cells slots Q nL lp D X ρ Hb L xs pc ls (.inl v :: .inl j :: .inr (.inr q) :: r) M := by
  intro hl hvv H locs la hP hS hL
  have h := mj_ari (hvv.2.2 q (by simp)) ht
  rw [mj_len_of h] at hin
  rcases (mj_kd_of h).1 with hk | hk
  · obtain ⟨q0, he, hq0⟩ := mj_ws_at (ρ := ρ) (X := X) (M := M) h
    rw [mj_en_i hk] at he
    refine va_iast C.1 C.2.1 C.2.2.2.2.2.1.1 hP.1 (C.2.2.2.2.2.2.1.ws X M) hS q0 0 he rfl hin hd (fun H1 locs1 hP1 _ hS1 => ?_)
    have hlo := mj_aloc_lo hk (mj_in_lt hin)
    refine kk hl (hvv.st (fun q h => by simp [h])) H1 locs1 la ⟨?_, mj_S_tr C.2.2.2.2.2.2.2 hS1, mj_cM_wl (mj_own_lo h hlo).2.1 hP.2.2⟩ hS1 hL
    refine mj_P_set hq0 hP1 (fun hv => ?_) (mj_wl_others h hlo)
    rw [mj_en_i hk]
    have hv : H1[ρ q]? = some (vp_cell X.1 (mj_ln q, .inl (upd (mj_rd M q) j.toNatClampNeg v))) := hv
    show H1[ρ q]? = some (vp_cell X.1 (mj_ln q, .inl (mj_rd (mj_wr M q j.toNatClampNeg v) q)))
    rw [hv, vp_cell_i, vp_cell_i]
    refine congrArg some (mj_arrV_congr fun i hi => congrArg Value.int ?_)
    have e := mj_at_wl (M := M) (l := mj_aloc q j.toNatClampNeg) (l' := mj_aloc q i) (v := v)
    unfold upd
    by_cases ei : i = j.toNatClampNeg
    · rw [if_pos ei]
      rw [if_pos (by rw [ei])] at e
      exact e.symm
    · rw [if_neg ei]
      rw [if_neg (fun z => ei (mj_aloc_inj h hk hi (mj_in_lt hin) z))] at e
      exact e.symm
  · rw [hk] at hin
    exact absurd hin mj_in0
theorem ms_aald (C : mj_CX p s m args c cc nL o D X ρ Hb L xs) {q q' : mj_Id} {j : Int32} (hd : decode cc pc = .ok (.aaload, 1)) (hin : vp_in j (mj_ol q)) (hv : mj_el q j.toNatClampNeg = some q') (kk : mj_GG p l e R s m args below meth c cells slots Q nL lp D X ρ Hb L xs (pc + 1) ls (.inr (.inr q') :: r) M) : mj_GG p l e R s m args below meth c cells slots Q nL lp D X ρ Hb L xs pc ls (.inl j :: .inr (.inr q) :: r) M := by
  intro hl hvv H locs la hP hS hL
  rcases hvv.2.2 q (by simp) with h | rfl | rfl | rfl
  · obtain ⟨h1, h2⟩ := mj_el_of h
    obtain ⟨z, hz, hzi⟩ := h2 _ (mj_in_lt hin)
    rw [hv] at hz
    cases hz
    have K := kk hl (hvv.pu (Or.inl hzi) (fun v h => by simp [h])) H locs la hP hS hL
    have e1 : va_rf ((fun i => if i < mj_ol q then (mj_el q i).map ρ else none) j.toNatClampNeg) = .ref (ρ q') := by
      dsimp only
      rw [if_pos (mj_in_lt hin), hv]
      rfl
    have go : ∀ {cA : ClassId} {ty : FieldType}, ty.isReference = true → ArrOfT s cA ty → H[ρ q]? = some (vp_cell cA (mj_ol q, .inr (.inr (.inr (.inr (fun i => if i < mj_ol q then (mj_el q i).map ρ else none)))))) → W p l e R s m args below meth c H locs cells slots Q (F0 m pc la (.int j :: .ref (ρ q) :: r.map (mj_rv ρ))) := by
      intro cA ty hty hA hcell
      refine W.aald (v := .ref (ρ q')) (ty := ty) C.1 C.2.1 hcell (hA _ _) hty (fun z => by cases z) (by show ¬ (j < 0 ∨ (arrV _ _ _).slots.size ≤ _); rw [arrV_size]; exact hin) (by show (arrV _ _ _).slots[_]? = _; rw [arrV_read _ _ (mj_in_lt hin)]; exact congrArg some e1) rfl rfl hd K
    obtain ⟨q0, he, -⟩ := mj_ws_at (ρ := ρ) (X := X) (M := M) h
    have hc := hP.1 q0 _ he
    rcases h1 with hk | hk | hk
    · have ee : mj_en ρ X M q = .inl (X.2.1, mj_ol q, .inr (.inr (.inr (.inr (fun i => if i < mj_ol q then (mj_el q i).map ρ else none))))) := by
        unfold mj_en
        rw [if_neg (by rw [hk]; decide), if_neg (by rw [hk]; decide), if_pos hk]
      rw [ee] at hc
      exact go (ty := .array .int) rfl (C.2.2.2.2.2.1.1.2 1 _ rfl).1 hc
    · have ee : mj_en ρ X M q = .inl (X.2.2, mj_ol q, .inr (.inr (.inr (.inr (fun i => if i < mj_ol q then (mj_el q i).map ρ else none))))) := by
        unfold mj_en
        rw [if_neg (by rw [hk]; decide), if_neg (by rw [hk]; decide), if_neg (by rw [hk]; decide)]
      rw [ee] at hc
      exact go (ty := .object "CloudStrings$Sheet") rfl (C.2.2.2.2.2.1.1.2 2 _ rfl).1 hc
    · rw [hk] at hin
      exact absurd hin mj_in0
  · exact absurd hin mj_in0
  · exact absurd hin mj_in0
  · exact absurd hin mj_in0
theorem ms_alen (C : mj_CX p s m args c cc nL o D X ρ Hb L xs) {q : mj_Id} (hd : decode cc pc = .ok (.arraylength, 1)) (ha : mj_ia q.2.1 = true) (kk : mj_GG p l e R s m args below meth c cells slots Q nL lp D X ρ Hb L xs (pc + 1) ls (.inl (nI (mj_len M q)) :: r) M) : mj_GG p l e R s m args below meth c cells slots Q nL lp D X ρ Hb L xs pc ls (.inr (.inr q) :: r) M := by
  intro hl hvv H locs la hP hS hL
  have K := kk hl (hvv.st (fun _ h => by simp at h ⊢; simp [h])) H locs la hP hS hL
  rcases hvv.2.2 q (by simp) with h | rfl | rfl | rfl
  · have hk := (mj_kd_of h).2.2.2.2.2.2 ha
    obtain ⟨q0, he, -⟩ := mj_ws_at (ρ := ρ) (X := X) (M := M) h
    rw [mj_en_i hk] at he
    rw [mj_len_of h] at K
    exact va_alen C.1 C.2.1 C.2.2.2.2.2.1.1 hP.1 q0 0 he (ty := .int) rfl rfl hd K
  · exact absurd ha (by decide)
  · exact absurd ha (by decide)
  · obtain ⟨scr, g1, g2, g3, g4, g5⟩ := C.2.2.2.2.2.1.2.2.2.2.2.1
    have hX : va_X (ρ (41, 82, 0)) L xs s Hb := ⟨scr, g1, g2, g3, g4, g5⟩
    have hlt : ρ (41, 82, 0) < Hb.size := (Array.getElem?_eq_some_iff.mp g1).1
    have hK : W p l e R s m args below meth c H locs cells slots Q (F0 m (pc + 1) la (.int (nI (M 41 83 0 0).toNatClampNeg) :: r.map (mj_rv ρ))) := K
    rw [hP.2.2.2.2.1] at hK
    exact va_slen C.1 C.2.1 (A := mj_A Hb) hX hlt (fun z => absurd hlt (Nat.not_lt.mpr z)) ⟨hP.2.1.1, hP.2.1.2.1, hS.2.2⟩ hd hK
theorem ms_gets (C : mj_CX p s m args c cc nL o D X ρ Hb L xs) {x t : Nat} (hd : decode cc pc = .ok (.getstatic x, 3)) (ho : o = 1) (hx : (x = 109 ∧ t = 80) ∨ (x = 128 ∧ t = 81)) (kk : mj_GG p l e R s m args below meth c cells slots Q nL lp D X ρ Hb L xs (pc + 3) ls (.inr (.inr (40, t, 0)) :: r) M) : mj_GG p l e R s m args below meth c cells slots Q nL lp D X ρ Hb L xs pc ls r M := by
  intro hl hvv H locs la hP hS hL
  have hid : mj_vid (40, t, 0) := by
    rcases hx with ⟨-, rfl⟩ | ⟨-, rfl⟩
    · exact Or.inr (Or.inl rfl)
    · exact Or.inr (Or.inr (Or.inl rfl))
  have K := kk hl (hvv.pu hid (fun v h => h)) H locs la hP hS hL
  subst ho
  have hk : ∀ a : Nat, a < Hb.size → ¬ mj_A Hb a → s.heap[a]? = Hb[a]? := C.2.2.2.2.2.2.2.2.1
  rcases hx with ⟨rfl, rfl⟩ | ⟨rfl, rfl⟩
  · exact va_getsN C.1 C.2.1 (C.2.2.2.2.2.1.2.1.kept hk) hS C.2.2.2.1 (va_Nw.use rfl C.2.2.2.2.2.1.2.2.2.2.2.2.2.1) (fun _ h => h) hd K
  · exact va_getsN C.1 C.2.1 (C.2.2.2.2.2.1.2.2.1.kept hk) hS C.2.2.2.1 (va_Nw.use rfl C.2.2.2.2.2.1.2.2.2.2.2.2.2.2) (fun _ h => h) hd K
theorem ms_ldc (C : mj_CX p s m args c cc nL o D X ρ Hb L xs) {x : Nat} {v : Int32} (hd : decode cc pc = .ok (.ldc x, 2)) (hw : Cond.constant (mj_cs_ o) x v ∈ mj_WA) (kk : mj_GG p l e R s m args below meth c cells slots Q nL lp D X ρ Hb L xs (pc + 2) ls (.inl v :: r) M) : mj_GG p l e R s m args below meth c cells slots Q nL lp D X ρ Hb L xs pc ls r M :=
  fun hl hv H locs la hP hS hL => lv_ldc C.1 C.2.1 C.2.2.2.1 (C.2.2.2.2.1 _ hw) hd (kk hl (hv.st (by simp)) H locs la hP hS hL)
theorem ms_ldc2 (C : mj_CX p s m args c cc nL o D X ρ Hb L xs) {x : Nat} {v : Int64} (hd : decode cc pc = .ok (.ldc2_w x, 3)) (hw : Cond.constantLong (mj_cs_ o) x v ∈ mj_WA) (kk : mj_GG p l e R s m args below meth c cells slots Q nL lp D X ρ Hb L xs (pc + 3) ls (.inr (.inl v) :: r) M) : mj_GG p l e R s m args below meth c cells slots Q nL lp D X ρ Hb L xs pc ls r M :=
  fun hl hv H locs la hP hS hL => lv_ldc2 C.1 C.2.1 C.2.2.2.1 (C.2.2.2.2.1 _ hw) hd (kk hl (hv.st (by simp)) H locs la hP hS hL)
theorem mj_cat_eq : (r.map (mj_rv ρ)).map (fun v => v.category) = r.map (fun v => match v with | .inr (.inl _) => 2 | _ => 1) := by
  rw [List.map_map]
  apply List.map_congr_left
  intro v _
  rcases v with x | w | q <;> rfl
theorem mj_cat_sum : ((r.map (mj_rv ρ)).map fun v => v.category).sum = mj_cat r := by
  rw [mj_cat_eq]
  induction r with
  | nil => rfl
  | cons v r ih =>
    rw [List.map_cons, List.sum_cons, ih]
    rcases v with x | w | q <;> rfl
theorem mj_wA {w : Cond} (C : mj_CX p s m args c cc nL o D X ρ Hb L xs) (h : w ∈ mj_WA) : w.before args s = true := C.2.2.2.2.1 w h
theorem ms_max (C : mj_CX p s m args c cc nL o D X ρ Hb L xs) {i : Nat} {x y : Int32} (hd : decode cc pc = .ok (.invokestatic i, 3)) (hj : mj_JL.contains (o, i, true) = true) (hcat : mj_cat r ≤ 8) (hR : 1 ≤ R.frames ∧ 30 ≤ R.locals) (hcs : cells ≤ R.cells ∧ slots ≤ R.slots) (kk : mj_GG p l e R s m args below meth c cells slots Q nL lp D X ρ Hb L xs (pc + 3) ls (.inl (if x < y then y else x) :: r) M) : mj_GG p l e R s m args below meth c cells slots Q nL lp D X ρ Hb L xs pc ls (.inl y :: .inl x :: r) M :=
  fun hl hv H locs la hP hS hL => va_mmax C.1 C.2.1 (C.2.2.1.trans hL.1.symm) C.2.2.2.1 (mj_wA C (mj_JL_ok _ (List.mem_map.mpr ⟨_, List.contains_iff_mem.mp hj, rfl⟩))) (mj_wA C (mj_JC_ok _ (by simp))) (mj_wA C (mj_JC_ok _ (by simp))) (mj_wA C (mj_JC_ok _ (by simp))) hR.1 (by rw [mj_cat_sum]; omega) hcs.1 hcs.2 hd (kk hl (hv.st (by simp)) H locs la hP hS hL)
theorem ms_min (C : mj_CX p s m args c cc nL o D X ρ Hb L xs) {i : Nat} {x y : Int32} (hd : decode cc pc = .ok (.invokestatic i, 3)) (hj : mj_JL.contains (o, i, false) = true) (hcat : mj_cat r ≤ 8) (hR : 1 ≤ R.frames ∧ 30 ≤ R.locals) (hcs : cells ≤ R.cells ∧ slots ≤ R.slots) (kk : mj_GG p l e R s m args below meth c cells slots Q nL lp D X ρ Hb L xs (pc + 3) ls (.inl (if y < x then y else x) :: r) M) : mj_GG p l e R s m args below meth c cells slots Q nL lp D X ρ Hb L xs pc ls (.inl y :: .inl x :: r) M :=
  fun hl hv H locs la hP hS hL => va_mmin C.1 C.2.1 (C.2.2.1.trans hL.1.symm) C.2.2.2.1 (mj_wA C (mj_JL_ok _ (List.mem_map.mpr ⟨_, List.contains_iff_mem.mp hj, rfl⟩))) (mj_wA C (mj_JC_ok _ (by simp))) (mj_wA C (mj_JC_ok _ (by simp))) (mj_wA C (mj_JC_ok _ (by simp))) hR.1 (by rw [mj_cat_sum]; omega) hcs.1 hcs.2 hd (kk hl (hv.st (by simp)) H locs la hP hS hL)
end MT
end
section

def mj_rm (d : Nat) : Room := { frames := d, cells := 0, slots := 0, locals := 30 * d }
def mj_wsf (g : Nat) : List Cond := mj_wc (mj_m g) :: mj_WA
theorem mj_m_in {g : Nat} (h : g < mj_mt.length) : mj_m g ∈ mj_mt := by
  unfold mj_m
  rw [List.getD_eq_getElem?_getD, List.getElem?_eq_getElem h]
  exact List.getElem_mem h
theorem mj_gc {g : Nat} (h : g < mj_mt.length) : mj_wc (mj_m g) ∈ mj_WA := mj_mt_c _ (mj_m_in h)
theorem mj_gi {g : Nat} (h : g < mj_mt.length) : mj_wi (mj_m g) ∈ mj_WA := mj_mt_i _ (List.mem_map.mpr ⟨_, mj_m_in h, rfl⟩)
theorem mj_gv {g : Nat} (h : g < mj_mt.length) : mj_wv (mj_m g) ∈ mj_WA := mj_mt_v _ (List.mem_map.mpr ⟨_, mj_m_in h, rfl⟩)
theorem mj_gn {g : Nat} (h : g < mj_mt.length) : Cond.initialized (mj_y g).cls ∈ mj_WA := mj_mt_n _ (List.mem_map.mpr ⟨_, mj_m_in h, rfl⟩)
theorem mj_gp {g : Nat} (h : g < mj_mt.length) : (parseMethodDescriptor (mj_y g).desc).map (fun d => d.parameters.length) = some (mj_np.getD g 0) := by
  have h1 := congrArg (fun z => z[g]?) mj_mt_p
  simp only [List.getElem?_map] at h1
  rw [List.getElem?_eq_getElem h] at h1
  have hl : mj_mt.length = mj_np.length := by
    have := congrArg List.length mj_mt_p
    simpa using this
  rw [List.getElem?_eq_getElem (hl ▸ h)] at h1
  have h2 : (parseMethodDescriptor (mj_mt[g]'h).2.2.1).map (fun d => d.parameters.length) = some (mj_np[g]'(hl ▸ h)) := Option.some.inj h1
  have e1 : mj_m g = mj_mt[g]'h := by
    unfold mj_m
    rw [List.getD_eq_getElem?_getD, List.getElem?_eq_getElem h]
    rfl
  have e2 : mj_np.getD g 0 = mj_np[g]'(hl ▸ h) := by
    rw [List.getD_eq_getElem?_getD, List.getElem?_eq_getElem (hl ▸ h)]
    rfl
  rw [e2, ← h2]
  unfold mj_y mj_yy
  rw [e1]
theorem mj_gd {g : Nat} (h : g < mj_mt.length) : plainName (mj_y g).cls = true ∧ (mj_y g).cls ≠ "java/lang/invoke/MethodHandle" ∧ (mj_y g).cls ≠ "java/lang/invoke/VarHandle" := by
  have h1 := List.all_eq_true.mp mj_mt_d _ (mj_m_in h)
  simp only [Bool.and_eq_true, decide_eq_true_eq] at h1
  exact ⟨h1.1.1, h1.1.2, h1.2⟩
theorem mj_gx : mj_mt.all (fun x => Nat.ble x.2.2.2.2.1 11) = true := by decide +kernel
theorem mj_gm {g : Nat} (h : g < mj_mt.length) : mj_mx g ≤ 11 := Nat.le_of_ble_eq_true (List.all_eq_true.mp mj_gx _ (mj_m_in h))
theorem mj_good : ∀ w ∈ mj_WA, w ∈ mj_WA ∧ ((w.onTables && w.keeps) = true ∨ ∃ ty, w = .arrayClass ty) := fun w h => ⟨h, good_of_word (List.mem_filter.mp h).2⟩
theorem mj_goodL {ws : List Cond} (h : ∀ w ∈ ws, w ∈ mj_WA) : GoodIn mj_WA ws := fun w hw => mj_good w (h w hw)
theorem mj_goodG {g : Nat} (h : g < mj_mt.length) : GoodIn mj_WA (mj_wsf g) := mj_goodL (fun w hw => (List.mem_cons.mp hw).elim (fun e => e ▸ mj_gc h) id)
/-- a method's contract: with these arguments, over this memory: it answers r and leaves N -/
def mj_Pc (D : va_G) (X : mj_X) (ρ : mj_Id → Nat) (Hb : Heap) (L : Nat) (xs : Nat → Int32) (vs : List mj_V) (M : mj_M) : Array Value → State → Prop := fun v U => v = (vs.map (mj_rv ρ)).toArray ∧ mj_P D X ρ Hb L xs M U.heap ∧ mj_K D X ρ Hb L xs U
def mj_Qc (D : va_G) (X : mj_X) (ρ : mj_Id → Nat) (Hb : Heap) (L : Nat) (xs : Nat → Int32) (r : Option mj_V) (N : mj_M) : Array Value → State → Outcome → State → Prop := fun _ st o t => o = .returned (r.map (mj_rv ρ)) ∧ mj_P D X ρ Hb L xs N t.heap ∧ va_F (mj_A Hb) st t
def mj_MT (l : Launch) (D : va_G) (X : mj_X) (ρ : mj_Id → Nat) (Hb : Heap) (L : Nat) (xs : Nat → Int32) (d g : Nat) (vs : List mj_V) (M : mj_M) (r : Option mj_V) (N : mj_M) : Prop :=
  Met l (mj_y g) (mj_wsf g) (mj_rm d) (mj_Pc D X ρ Hb L xs vs M) (mj_Qc D X ρ Hb L xs r N) 0 0 (mj_A Hb)
theorem mj_blind {D : va_G} {X : mj_X} {ρ : mj_Id → Nat} {Hb : Heap} {L : Nat} {xs : Nat → Int32} {vs : List mj_V} {M : mj_M} : FrameBlind (mj_Pc D X ρ Hb L xs vs M) := fun a U g mk q => ⟨q.1, q.2.1, mj_K.same (u := U) (U := U.calling g mk a) rfl q.2.2⟩
theorem mj_aloc_p {q : mj_Id} (h : q.2.1 < 60) (j : Nat) : mj_aloc q j = (q.1, q.2.1, q.2.2, j) := by
  unfold mj_aloc
  split
  · next e => omega
  · next e => omega
  · rfl
theorem mj_at_cp {M : mj_M} {qs qd : mj_Id} {a d n : Nat} {t : Nat × Nat × Nat × Nat} : mj_at (mj_cp M qs qd a d n) t = if t.1 = qd.1 ∧ t.2.1 = qd.2.1 ∧ t.2.2.1 = qd.2.2 ∧ d ≤ t.2.2.2 ∧ t.2.2.2 < d + n then M qs.1 qs.2.1 qs.2.2 (a + (t.2.2.2 - d)) else mj_at M t := by
  obtain ⟨i, tt, c, j⟩ := t
  unfold mj_at mj_cp mj_up
  dsimp only
  by_cases h : i = qd.1
  · subst h
    rw [if_pos rfl]
    simp only [true_and]
  · rw [if_neg h, if_neg (fun z => h z.1)]
section MU
variable {p : Program} {l : Launch} {e : Env} {R : Room} {s : State} {m : MethodId} {args : Array Value} {below : List Frame} {meth : Method} {c : Code} {cells slots : Nat} {Q : State → Prop}
variable {cc : ByteArray} {nL o : Nat} {lp : List Nat} {D : va_G} {X : mj_X} {ρ : mj_Id → Nat} {Hb : Heap} {L : Nat} {xs : Nat → Int32} {pc : Nat} {ls : mj_L} {r : List mj_V} {M : mj_M}

theorem ms_copy (C : mj_CX p s m args c cc nL o D X ρ Hb L xs) {i : Nat} {qs qd : mj_Id} {sp dp n : Int32} (hd : decode cc pc = .ok (.invokestatic i, 3)) (ha : mj_AL.contains (o, i) = true) (hcat : mj_cat r ≤ 8) (hR : 1 ≤ R.frames ∧ 30 ≤ R.locals) (hqs : qs.2.1 < 60 ∧ mj_ia qs.2.1 = true) (hqd : qd.2.1 < 60 ∧ mj_ia qd.2.1 = true) (h1 : ¬ sp < 0) (h2 : ¬ dp < 0) (h3 : ¬ n < 0)
    (h4 : sp.toNatClampNeg + n.toNatClampNeg ≤ mj_len M qs) (h5 : dp.toNatClampNeg + n.toNatClampNeg ≤ mj_len M qd) (kk : mj_GG p l e R s m args below meth c cells slots Q nL lp D X ρ Hb L xs (pc + 3) ls r (mj_cp M qs qd sp.toNatClampNeg dp.toNatClampNeg n.toNatClampNeg)) : mj_GG p l e R s m args below meth c cells slots Q nL lp D X ρ Hb L xs pc ls (.inl n :: .inl dp :: .inr (.inr qd) :: .inl sp :: .inr (.inr qs) :: r) M := by
  intro hl hvv H locs la hP hS hL
  have his := mj_ari (hvv.2.2 qs (by simp)) (by omega)
  have hid := mj_ari (hvv.2.2 qd (by simp)) (by omega)
  rw [mj_len_of his] at h4
  rw [mj_len_of hid] at h5
  have ks := (mj_kd_of his).2.2.2.2.2.2 hqs.2
  have kd := (mj_kd_of hid).2.2.2.2.2.2 hqd.2
  obtain ⟨q0, he0, -⟩ := mj_ws_at (ρ := ρ) (X := X) (M := M) his
  obtain ⟨q1, he1, hq1⟩ := mj_ws_at (ρ := ρ) (X := X) (M := M) hid
  rw [mj_en_i ks] at he0
  rw [mj_en_i kd] at he1
  have e : nativeFrameWords "java/lang/System" "arraycopy" 5 ≤ 11 := by decide +kernel
  refine va_copyi C.1 C.2.1 (C.2.2.1.trans hL.1.symm) C.2.2.2.1 (mj_wA C (mj_AL_ok _ (List.mem_map.mpr ⟨_, List.contains_iff_mem.mp ha, rfl⟩))) (mj_wA C (mj_AC_ok _ (by simp))) (mj_wA C (mj_AC_ok _ (by simp))) (mj_wA C (mj_AC_ok _ (by simp)))
    C.2.2.2.2.2.1.1 hP.1 (C.2.2.2.2.2.2.1.ws X M) hS q0 q1 0 0 he0 he1 rfl rfl rfl h1 h2 h3 h4 h5 (fun _ _ => rfl) hR.1 (by rw [mj_cat_sum (r := r)]; omega) hd (fun H1 locs1 hP1 _ hS1 => ?_)
  refine kk hl (hvv.st (fun q h => by simp [h])) H1 locs1 la ⟨?_, mj_S_tr C.2.2.2.2.2.2.2 hS1, ?_⟩ hS1 hL
  · refine mj_P_set hq1 hP1 (fun hv => ?_) (fun p hp hne t ht => ?_)
    · rw [mj_en_i kd]
      have hv : H1[ρ qd]? = some (vp_cell X.1 (mj_ln qd, .inl (va_cpy (mj_rd M qs) (mj_rd M qd) sp.toNatClampNeg dp.toNatClampNeg n.toNatClampNeg))) := hv
      show H1[ρ qd]? = some (vp_cell X.1 (mj_ln qd, .inl (mj_rd (mj_cp M qs qd sp.toNatClampNeg dp.toNatClampNeg n.toNatClampNeg) qd)))
      rw [hv, vp_cell_i, vp_cell_i]
      refine congrArg some (mj_arrV_congr fun j _ => congrArg Value.int ?_)
      have e := mj_at_cp (M := M) (qs := qs) (qd := qd) (a := sp.toNatClampNeg) (d := dp.toNatClampNeg) (n := n.toNatClampNeg) (t := mj_aloc qd j)
      rw [mj_aloc_p hqd.1] at e
      simp only [true_and] at e
      show (if dp.toNatClampNeg ≤ j ∧ j < dp.toNatClampNeg + n.toNatClampNeg then mj_rd M qs (sp.toNatClampNeg + (j - dp.toNatClampNeg)) else mj_rd M qd j) = mj_at (mj_cp M qs qd sp.toNatClampNeg dp.toNatClampNeg n.toNatClampNeg) (mj_aloc qd j)
      unfold mj_rd
      rw [mj_aloc_p hqs.1, mj_aloc_p hqd.1]
      exact e.symm
    · rw [mj_at_cp, if_neg]
      rintro ⟨e1, e2, e3, e4, e5⟩
      have e : t = mj_aloc qd t.2.2.2 := by
        rw [mj_aloc_p hqd.1, ← e1, ← e2, ← e3]
      have hin := mj_aloc_lo kd (j := t.2.2.2) (by omega)
      rw [← e] at hin
      exact hne ((mj_own_lo hp ht).1.symm.trans (mj_own_lo hid hin).1)
  · have hlt := (mj_kd_of hid).2.2.2.2.2.1
    have e : ∀ i t c j : Nat, 40 ≤ i → mj_cp M qs qd sp.toNatClampNeg dp.toNatClampNeg n.toNatClampNeg i t c j = M i t c j := fun i t c j hi => by
      unfold mj_cp mj_up
      rw [if_neg (by omega)]
    obtain ⟨a, b, c, d⟩ := hP.2.2
    exact ⟨fun j hj => (e _ _ _ _ (by omega)).trans (a j hj), fun j hj => (e _ _ _ _ (by omega)).trans (b j hj), by rw [e _ _ _ _ (by omega)]; exact c, fun j hj => (e _ _ _ _ (by omega)).trans (d j hj)⟩
/-- behind a call -/
theorem mj_run {a : Array Value} {st0 rest : List Value} {la : Array Slot} {H : Heap} {locs : List Loc} {rr : Option mj_V} {N : mj_M} (hr : va_Run p l e R s m args below meth c H locs cells slots 0 0 (F0 m pc la st0) rest (mj_Qc D X ρ Hb L xs rr N a) (mj_A Hb)) (hS : va_S (mj_A Hb) s.heap H locs)
    (kk : ∀ (H1 : Heap) (locs1 : List Loc), mj_P D X ρ Hb L xs N H1 → va_S (mj_A Hb) s.heap H1 locs1 → W p l e R s m args below meth c H1 locs1 cells slots Q (F0 m (pc + 3) la ((rr.map (mj_rv ρ)).toList ++ rest))) : W p l e R s m args below meth c H locs cells slots Q (F0 m pc la st0) := by
  intro T hT Xs
  obtain ⟨v, st₀, t, T', L1, h0, X', hL, e1, e2, ⟨hv, hp, hz⟩, st⟩ := hr T hT Xs
  have hv : v = rr.map (mj_rv ρ) := by injection hv
  subst hv
  unfold va_F at hz
  rw [h0, ← e1] at hz
  obtain ⟨t2, a1, b1⟩ := kk T'.heap (locs ++ L1) (by rw [e1]; exact hp)
    ⟨Nat.le_trans hS.1 hz.1, fun q h1 h2 => (hz.2 q (Nat.lt_of_lt_of_le h1 hS.1) h2).trans (hS.2.1 q h1 h2), fun q hq => by
      rcases List.mem_append.mp hq with h | h
      · exact hS.2.2 q h
      · exact hL q h⟩ T' rfl X'
  exact ⟨t2, st t2 a1, b1⟩
theorem ms_callV (C : mj_CX p s m args c cc nL o D X ρ Hb L xs) {i g dd : Nat} {q : mj_Id} {As : List mj_V} {rr : Option mj_V} {N : mj_M} (hd : decode cc pc = .ok (.invokevirtual i, 3)) (hg : g < mj_mt.length) (hm : mj_ML.contains (o, i, g) = true) (hst : mj_stc g = false) (hn : As.length = mj_np.getD g 0) (hq : mj_ci q.2.1 = (mj_m g).1) (hqi : q ∈ mj_ids) (hk0 : mj_kind q.2.1 = 0) (hcat : mj_cat r ≤ 8) (hR : dd + 1 ≤ R.frames ∧ 30 * (dd + 1) ≤ R.locals) (hcs : cells ≤ R.cells ∧ slots ≤ R.slots)
    (hM : mj_MT l D X ρ Hb L xs dd g (.inr (.inr q) :: As) M rr N) (hrr : ∀ q', rr ≠ some (.inr (.inr q'))) (kk : mj_GG p l e R s m args below meth c cells slots Q nL lp D X ρ Hb L xs (pc + 3) ls (rr.toList ++ r) N) : mj_GG p l e R s m args below meth c cells slots Q nL lp D X ρ Hb L xs pc ls (As.reverse ++ .inr (.inr q) :: r) M := by
  intro hl hvv H locs la hP hS hL
  obtain ⟨q0, he, -⟩ := mj_ws_at (ρ := ρ) (X := X) (M := M) hqi
  rw [mj_en_o hk0] at he
  obtain ⟨Cn, T, NN, hc, hT, hN, hcn⟩ := mj_cl_at (mj_fd_of hqi hk0).1
  have hcls : (mj_y g).cls = Cn := by
    show mj_cs_ (mj_m g).1 = Cn
    rw [← hq, hcn]
  have hrecv := va_recv C.2.2.2.2.2.1.1 hP.1 hc he
  have hw1 : Cond.methodLink (mj_cs_ o) i (mj_y g) ∈ mj_WA := mj_ML_ok _ (List.mem_map.mpr ⟨_, List.contains_iff_mem.mp hm, rfl⟩)
  have hst' : (mj_m g).2.2.2.2.2.2 = false := hst
  have hw2 : Cond.instanceMethod (mj_y g) ∈ mj_WA := by
    have := mj_gi hg
    unfold mj_wi at this
    rw [hst', if_neg (by decide)] at this
    exact this
  have hw3 : Cond.selects Cn (mj_y g) (mj_y g) ∈ mj_WA := by
    have := mj_gv hg
    unfold mj_wv at this
    rw [hst', if_neg (by decide)] at this
    rw [← hcls]
    exact this
  have hmx := mj_gm hg
  have cw := cwV (R := R) (s := s) (args := args) (own := mj_cs_ o) (index := i) (C := Cn) (y := mj_y g) (bytes := mj_bc g) (maxL := mj_mx g) (ret := mj_rt g) (ws := mj_wsf g) (rm := mj_rm dd) (mc := 0) (ms := 0) (ws' := mj_WA) (mj_np.getD g 0) C.2.2.2.2.1 (mj_goodL (fun w hw => by
    unfold wsV at hw
    rcases List.mem_append.mp hw with h | h
    · simp only [List.mem_cons, List.not_mem_nil, or_false] at h
      rcases h with rfl | rfl | rfl | rfl
      · exact hw1
      · exact hw2
      · exact hw3
      · rw [← hcls]; exact mj_gn hg
    · exact (mj_goodG hg w h).1)) rfl rfl rfl ⟨hcls, (mj_gd hg).2.1, (mj_gd hg).2.2, mj_gp hg⟩ ⟨by show dd + 1 ≤ _; exact hR.1, by show 8 + (mj_mx g + 11) + 30 * dd ≤ _; omega⟩
  have hrun := va_runV (rest := r.map (mj_rv ρ)) (As := As.map (mj_rv ρ)) (g := F0 m pc la ((As.reverse ++ .inr (.inr q) :: r).map (mj_rv ρ))) (H := H) (locs := locs) (cells := cells) (slots := slots) (e := e) (below := below) (meth := meth) (nL := nL) ⟨C.1, C.2.1, C.2.2.1, C.2.2.2.1, C.2.2.2.2.1⟩ hM cw ⟨mj_blind, hrecv, fun U hU hW => ⟨rfl, by rw [hU]; exact hP, mj_K.moved hW C.2.2.2.2.2.1⟩⟩ rfl (by rw [List.length_map]; exact hn) hL.1 (by simp [mj_rv]) (lv_room (by rw [mj_cat_sum]; exact hcat)) hd hcs
  refine mj_run hrun hS (fun H1 locs1 hP1 hS1 => ?_)
  have K := kk hl ⟨hvv.1, hvv.2.1, fun q' h => ?_⟩ H1 locs1 la hP1 hS1 hL
  · have e : (rr.toList ++ r).map (mj_rv ρ) = (rr.map (mj_rv ρ)).toList ++ r.map (mj_rv ρ) := by cases rr <;> simp
    rw [e] at K
    exact K
  · rcases List.mem_append.mp h with h | h
    · cases rr with
      | none => simp at h
      | some z => simp at h; exact absurd (by rw [h]) (hrr q')
    · exact hvv.2.2 q' (by simp [h])
theorem ms_callS (C : mj_CX p s m args c cc nL o D X ρ Hb L xs) {i g dd : Nat} {As : List mj_V} {rr : Option mj_V} {N : mj_M} (hd : decode cc pc = .ok (.invokestatic i, 3)) (hg : g < mj_mt.length) (hm : mj_ML.contains (o, i, g) = true ∨ (o = 1 ∧ i = 85 ∧ g = 23)) (hst : mj_stc g = true) (hn : As.length = mj_np.getD g 0) (hcat : mj_cat r ≤ 8) (hR : dd + 1 ≤ R.frames ∧ 30 * (dd + 1) ≤ R.locals) (hcs : cells ≤ R.cells ∧ slots ≤ R.slots)
    (hM : mj_MT l D X ρ Hb L xs dd g As M rr N) (hrr : ∀ q', rr ≠ some (.inr (.inr q'))) (kk : mj_GG p l e R s m args below meth c cells slots Q nL lp D X ρ Hb L xs (pc + 3) ls (rr.toList ++ r) N) : mj_GG p l e R s m args below meth c cells slots Q nL lp D X ρ Hb L xs pc ls (As.reverse ++ r) M := by
  intro hl hvv H locs la hP hS hL
  have hst' : (mj_m g).2.2.2.2.2.2 = true := hst
  have hw2 : Cond.static (mj_y g) ∈ mj_WA := by
    have := mj_gi hg
    unfold mj_wi at this
    rw [hst', if_pos rfl] at this
    exact this
  have hmx := mj_gm hg
  have hrun : va_Run p l e R s m args below meth c H locs cells slots 0 0 (F0 m pc la ((As.reverse ++ r).map (mj_rv ρ))) (r.map (mj_rv ρ)) (mj_Qc D X ρ Hb L xs rr N (As.map (mj_rv ρ)).toArray) (mj_A Hb) := by
    rcases hm with hm | ⟨ho, hi, hgg⟩
    · have hw1 : Cond.methodLink (mj_cs_ o) i (mj_y g) ∈ mj_WA := mj_ML_ok _ (List.mem_map.mpr ⟨_, List.contains_iff_mem.mp hm, rfl⟩)
      have cw := va_cwS (R := R) (s := s) (args := args) (own := mj_cs_ o) (index := i) (y := mj_y g) (bytes := mj_bc g) (maxL := mj_mx g) (ret := mj_rt g) (ws := mj_wsf g) (rm := mj_rm dd) (mc := 0) (ms := 0) (ws' := mj_WA) (mj_np.getD g 0) C.2.2.2.2.1 (mj_goodL (fun w hw => by
        unfold va_wsS at hw
        rcases List.mem_append.mp hw with h | h
        · simp only [List.mem_cons, List.not_mem_nil, or_false] at h
          rcases h with rfl | rfl | rfl
          · exact hw1
          · exact hw2
          · exact mj_gn hg
        · exact (mj_goodG hg w h).1)) rfl rfl rfl ⟨(mj_gd hg).2.1, (mj_gd hg).2.2, mj_gp hg⟩ ⟨by show dd + 1 ≤ _; exact hR.1, by show 8 + (mj_mx g + 11) + 30 * dd ≤ _; omega⟩
      exact va_runS (rest := r.map (mj_rv ρ)) (As := As.map (mj_rv ρ)) (g := F0 m pc la ((As.reverse ++ r).map (mj_rv ρ))) (nL := nL) ⟨C.1, C.2.1, C.2.2.1, C.2.2.2.1, C.2.2.2.2.1⟩ hM cw ⟨mj_blind, fun U hU hW => ⟨rfl, by rw [hU]; exact hP, mj_K.moved hW C.2.2.2.2.2.1⟩⟩ rfl (by rw [List.length_map]; exact hn) hL.1 (by simp) (lv_room (by rw [mj_cat_sum]; exact hcat)) hd hcs
    · subst ho; subst hi; subst hgg
      have cw := va_cnB (R := R) (s := s) (args := args) (own := mj_cs_ 1) (host := "CloudStrings") (index := 85) (y := mj_y 23) (bytes := mj_bc 23) (maxL := mj_mx 23) (ret := mj_rt 23) (ws := mj_wsf 23) (rm := mj_rm dd) (mc := 0) (ms := 0) (ws' := mj_WA) (mj_np.getD 23 0) C.2.2.2.2.1 (mj_goodG hg) rfl rfl rfl C.2.2.2.2.2.1.2.2.2.2.2.2.1 (mj_wA C (mj_gn hg)) ⟨(mj_gd hg).2.1, (mj_gd hg).2.2, mj_gp hg⟩ ⟨by show dd + 1 ≤ _; exact hR.1, by show 8 + (mj_mx 23 + 11) + 30 * dd ≤ _; omega⟩
      exact va_runSN (rest := r.map (mj_rv ρ)) (As := As.map (mj_rv ρ)) (g := F0 m pc la ((As.reverse ++ r).map (mj_rv ρ))) (nL := nL) ⟨C.1, C.2.1, C.2.2.1, C.2.2.2.1, C.2.2.2.2.1⟩ hM ⟨cw, mj_wA C hw2, trivial⟩ ⟨mj_blind, fun U hU hW => ⟨rfl, by rw [hU]; exact hP, mj_K.moved hW C.2.2.2.2.2.1⟩⟩ rfl (by rw [List.length_map]; exact hn) hL.1 (by simp) (lv_room (by rw [mj_cat_sum]; exact hcat)) hd hcs
  refine mj_run hrun hS (fun H1 locs1 hP1 hS1 => ?_)
  have K := kk hl ⟨hvv.1, hvv.2.1, fun q' h => ?_⟩ H1 locs1 la hP1 hS1 hL
  · have e : (rr.toList ++ r).map (mj_rv ρ) = (rr.map (mj_rv ρ)).toList ++ r.map (mj_rv ρ) := by cases rr <;> simp
    rw [e] at K
    exact K
  · rcases List.mem_append.mp h with h | h
    · cases rr with
      | none => simp at h
      | some z => simp at h; exact absurd (by rw [h]) (hrr q')
    · exact hvv.2.2 q' (by simp [h])
end MU
/-! switches -/
theorem mj_sw_tk {x : Int32} {K : Nat → Prop} {d : Nat} : ∀ (ts : List Nat) (n : Nat), mj_sw x (mj_tk n ts) d K → (∃ (i t : Nat), ts[i]? = some t ∧ x = nI (n + i) ∧ K t) ∨ ((∀ i : Nat, i < ts.length → ¬ x = nI (n + i)) ∧ K d)
  | [], n, h => Or.inr ⟨fun i hi => absurd hi (Nat.not_lt_zero i), h⟩
  | t :: ts, n, h => by
    obtain ⟨h1, h2⟩ : (x = nI n → K t) ∧ (¬ x = nI n → mj_sw x (mj_tk (n + 1) ts) d K) := h
    by_cases e : x = nI n
    · exact Or.inl ⟨0, t, rfl, e, h1 e⟩
    · rcases mj_sw_tk ts (n + 1) (h2 e) with ⟨i, t', a, b, k⟩ | ⟨a, k⟩
      · exact Or.inl ⟨i + 1, t', a, by rw [b]; congr 1; omega, k⟩
      · refine Or.inr ⟨fun i hi => ?_, k⟩
        cases i with
        | zero => exact e
        | succ i =>
          have := a i (by simpa using hi)
          intro z
          exact this (by rw [z]; congr 1; omega)
theorem mj_tgs_at {pc : Nat} : ∀ (os : List Int) (ts : List Nat), mj_tgs pc os ts = true → os.length = ts.length ∧ ∀ (i : Nat) (t : Nat), ts[i]? = some t → ∃ o', os[i]? = some o' ∧ (pc : Int) + o' = (t : Int)
  | [], [], _ => ⟨rfl, fun i t h => by simp at h⟩
  | o :: os, t :: ts, h => by
    have h : (mj_tg pc o t && mj_tgs pc os ts) = true := h
    rw [Bool.and_eq_true] at h
    obtain ⟨a, b⟩ := mj_tgs_at os ts h.2
    refine ⟨by simp [a], fun i t' hi => ?_⟩
    cases i with
    | zero => cases hi; exact ⟨o, rfl, of_decide_eq_true h.1⟩
    | succ i => exact b i t' (by simpa using hi)
  | [], _ :: _, h => by cases h
  | _ :: _, [], h => by cases h
theorem mj_sw_lk {x : Int32} {K : Nat → Prop} {d pc : Nat} {dflt : Int} (hd : (pc : Int) + dflt = (d : Int)) : ∀ (ps : List (Int × Int)) (ts : List Nat), mj_tgs pc (ps.map (fun x => x.2)) ts = true → (∀ z ∈ ps, z.1 = (z.1.toNat : Int) ∧ z.1.toNat < 1000) → mj_sw x (mj_lk ps ts) d K → ∃ t : Nat, K t ∧ (pc : Int) + Op.lookupswitch.offset ps dflt x.toInt = (t : Int)
  | [], [], _, _, h => ⟨d, h, hd⟩
  | (a, o') :: ps, t :: ts, h1, h2, h => by
    have h1 : (mj_tg pc o' t && mj_tgs pc (ps.map (fun x => x.2)) ts) = true := h1
    rw [Bool.and_eq_true] at h1
    obtain ⟨g1, g2⟩ : (x = nI a.toNat → K t) ∧ (¬ x = nI a.toNat → mj_sw x (mj_lk ps ts) d K) := h
    have ha := h2 (a, o') List.mem_cons_self
    have hk : (nI a.toNat).toInt = a := by rw [nI_toInt (by dsimp only at ha; omega)]; exact ha.1.symm
    by_cases e : x = nI a.toNat
    · refine ⟨t, g1 e, ?_⟩
      rw [Op.lookupswitch.offset_cons, if_pos (by rw [e, hk])]
      exact of_decide_eq_true h1.1
    · obtain ⟨t', k1, k2⟩ := mj_sw_lk hd ps ts h1.2 (fun z hz => h2 z (List.mem_cons_of_mem _ hz)) (g2 e)
      refine ⟨t', k1, ?_⟩
      rw [lv_osw e hk]
      exact k2
  | [], _ :: _, h1, _, _ => by cases h1
  | _ :: _, [], h1, _, _ => by cases h1
end
section

theorem mj_p1_of {st : List mj_V} {k : Int32 → List mj_V → Prop} (h : mj_p1 st k) : ∃ x r, st = .inl x :: r ∧ k x r := match st, h with
  | .inl x :: r, h => ⟨x, r, rfl, h⟩
theorem mj_p2_of {st : List mj_V} {k : Int32 → Int32 → List mj_V → Prop} (h : mj_p2 st k) : ∃ x y r, st = .inl y :: .inl x :: r ∧ k x y r := match st, h with
  | .inl y :: .inl x :: r, h => ⟨x, y, r, rfl, h⟩
theorem mj_pl_of {st : List mj_V} {k : Int64 → List mj_V → Prop} (h : mj_pl st k) : ∃ x r, st = .inr (.inl x) :: r ∧ k x r := match st, h with
  | .inr (.inl x) :: r, h => ⟨x, r, rfl, h⟩
theorem mj_pl2_of {st : List mj_V} {k : Int64 → Int64 → List mj_V → Prop} (h : mj_pl2 st k) : ∃ x y r, st = .inr (.inl y) :: .inr (.inl x) :: r ∧ k x y r := match st, h with
  | .inr (.inl y) :: .inr (.inl x) :: r, h => ⟨x, y, r, rfl, h⟩
theorem mj_pli_of {st : List mj_V} {k : Int64 → Int32 → List mj_V → Prop} (h : mj_pli st k) : ∃ x y r, st = .inl y :: .inr (.inl x) :: r ∧ k x y r := match st, h with
  | .inl y :: .inr (.inl x) :: r, h => ⟨x, y, r, rfl, h⟩
theorem mj_pr_of {st : List mj_V} {k : mj_Id → List mj_V → Prop} (h : mj_pr st k) : ∃ q r, st = .inr (.inr q) :: r ∧ k q r := match st, h with
  | .inr (.inr q) :: r, h => ⟨q, r, rfl, h⟩
theorem mj_pri_of {st : List mj_V} {k : mj_Id → Int32 → List mj_V → Prop} (h : mj_pri st k) : ∃ q j r, st = .inl j :: .inr (.inr q) :: r ∧ k q j r := match st, h with
  | .inl j :: .inr (.inr q) :: r, h => ⟨q, j, r, rfl, h⟩
theorem mj_prii_of {st : List mj_V} {k : mj_Id → Int32 → Int32 → List mj_V → Prop} (h : mj_prii st k) : ∃ q j v r, st = .inl v :: .inl j :: .inr (.inr q) :: r ∧ k q j v r := match st, h with
  | .inl v :: .inl j :: .inr (.inr q) :: r, h => ⟨q, j, v, r, rfl, h⟩
theorem mj_pcp_of {st : List mj_V} {k : mj_Id → Int32 → mj_Id → Int32 → Int32 → List mj_V → Prop} (h : mj_pcp st k) : ∃ qs s qd d n r, st = .inl n :: .inl d :: .inr (.inr qd) :: .inl s :: .inr (.inr qs) :: r ∧ k qs s qd d n r := match st, h with
  | .inl n :: .inl d :: .inr (.inr qd) :: .inl s :: .inr (.inr qs) :: r, h => ⟨qs, s, qd, d, n, r, rfl, h⟩
theorem mj_li_of {ls : mj_L} {i : Nat} {k : Int32 → Prop} (h : mj_li ls i k) : ∃ x, ls[i]? = some (some (.inl x)) ∧ k x := by
  unfold mj_li at h
  split at h
  · next x e => exact ⟨x, e, h⟩
  · exact h.elim
theorem mj_ll_of {ls : mj_L} {i : Nat} {k : Int64 → Prop} (h : mj_ll ls i k) : ∃ x, ls[i]? = some (some (.inr (.inl x))) ∧ k x := by
  unfold mj_ll at h
  split at h
  · next x e => exact ⟨x, e, h⟩
  · exact h.elim
theorem mj_lr_of {ls : mj_L} {i : Nat} {k : mj_Id → Prop} (h : mj_lr ls i k) : ∃ x, ls[i]? = some (some (.inr (.inr x))) ∧ k x := by
  unfold mj_lr at h
  split at h
  · next x e => exact ⟨x, e, h⟩
  · exact h.elim
theorem mj_bo_of {b : Nat} {x : Int32} {P : Prop} (h : mj_bo b x P) : (b = 1 → x = 0 ∨ x = 1) ∧ P := by
  unfold mj_bo at h
  split at h
  · exact ⟨fun _ => h.1, h.2⟩
  · next e => exact ⟨fun z => absurd z e, h⟩
theorem mj_blt {a b : Nat} (h : Nat.blt a b = true) : a < b := Nat.le_of_ble_eq_true h
theorem mj_no99 (ci : Nat) : ¬ 99 + 1 ≤ (mj_cl.getD ci ("", mj_T0, 0)).2.2 := by
  by_cases h : ci < 8
  · rcases (by omega : ci = 0 ∨ ci = 1 ∨ ci = 2 ∨ ci = 3 ∨ ci = 4 ∨ ci = 5 ∨ ci = 6 ∨ ci = 7) with rfl | rfl | rfl | rfl | rfl | rfl | rfl | rfl <;> decide
  · rw [List.getD_eq_getElem?_getD, List.getElem?_eq_none (by show 8 ≤ ci; omega)]
    decide
theorem mj_call_of {Cc : Nat → List mj_V → mj_M → Option mj_V → mj_M → Prop} {K : mj_L → List mj_V → mj_M → Prop} {a : List Nat} {ls : mj_L} {st : List mj_V} {M : mj_M} (h : mj_call Cc K a ls st M) :
    (∃ (f n : Nat) (N : mj_M), a = [f, n, 0] ∧ (Nat.ble n st.length && mj_fit (mj_kd.getD f []) (st.take n).reverse && Nat.ble (mj_cat (st.drop n)) 8) = true ∧ Cc f (st.take n).reverse M none N ∧ K ls (st.drop n) N) ∨
    ∃ (f n : Nat) (y : Int32) (N : mj_M), a = [f, n, 1] ∧ (Nat.ble n st.length && mj_fit (mj_kd.getD f []) (st.take n).reverse && Nat.ble (mj_cat (st.drop n)) 8) = true ∧ Cc f (st.take n).reverse M (some (.inl y)) N ∧ K ls (.inl y :: st.drop n) N := by
  unfold mj_call at h
  split at h
  · next f n => obtain ⟨h1, N, h2, h3⟩ := h; exact Or.inl ⟨f, n, N, rfl, h1, h2, h3⟩
  · next f n => obtain ⟨h1, y, N, h2, h3⟩ := h; exact Or.inr ⟨f, n, y, N, rfl, h1, h2, h3⟩
  · exact h.elim
theorem mj_st3 {Cc : Nat → List mj_V → mj_M → Option mj_V → mj_M → Prop} {K : Nat → mj_L → List mj_V → mj_M → Prop} {Rr : Option mj_V → mj_M → Prop} {nd : Prop} {nx x z1 z2 : Nat} {zs : List Nat} {ls : mj_L} {st : List mj_V} {M : mj_M} {k : mj_L → List mj_V → mj_M → Prop} (h : mj_w1 Cc K Rr nd nx (.invokestatic x) (z1 :: z2 :: zs) ls st M k) : mj_call Cc (K nx) (z1 :: z2 :: zs) ls st M := by
  rcases z1 with _ | _ | z1 <;> exact h
theorem mj_ck3 {o : Nat} {rt : Option FieldType} {lp : List Nat} {pc x g k r n : Nat} (h : mj_ckk o rt lp pc (.invokestatic x) [g, k, r] n = true) : (n == 3 && (Nat.blt g mj_mt.length && (mj_ML.contains (o, x, g) || (o == 1 && x == 85 && g == 23)) && mj_stc g && k == mj_np.getD g 0 && r == mj_rk (mj_rt g))) = true := by
  unfold mj_ckk at h
  generalize mj_mt.length = N at h ⊢
  rcases g with _ | _ | g <;> exact h
theorem mj_ck_cons {cc : ByteArray} {o : Nat} {rt : Option FieldType} {lp : List Nat} {nx pc : Nat} {i : mj_I} {is : List mj_I} (h : mj_ck cc o rt lp nx pc (i :: is) = true) : ∃ n, decode cc pc = .ok (i.1, n) ∧ mj_ckk o rt lp pc i.1 i.2 n = true ∧ (match mj_te i.1 i.2 with
      | 0 => mj_ck cc o rt lp nx (pc + n) is
      | 1 => is.isEmpty
      | _ => is.isEmpty && nx == pc + n) = true := by
  unfold mj_ck at h
  split at h
  · next i' n hd =>
    rw [Bool.and_eq_true, Bool.and_eq_true] at h
    obtain ⟨⟨h1, h2⟩, h3⟩ := h
    have e := of_decide_eq_true h1
    subst e
    exact ⟨n, hd, h2, h3⟩
  · cases h
/-- the kinds of parameters are as the table of methods has them -/
theorem mj_kd_ok : (List.range mj_mt.length).all (fun g => if mj_stc g then (mj_kd.getD g []).length == mj_np.getD g 0 else match mj_kd.getD g [] with
    | k :: ks => k == 100 + (mj_m g).1 && ks.length == mj_np.getD g 0 && Nat.blt (mj_m g).1 8
    | [] => false) = true := by decide +kernel
theorem mj_fit_len : ∀ (ks : List Nat) (vs : List mj_V), mj_fit ks vs = true → vs.length = ks.length
  | [], [], _ => rfl
  | k :: ks, v :: vs, h => by
    have h : (mj_fit1 k v && mj_fit ks vs) = true := h
    rw [Bool.and_eq_true] at h
    rw [List.length_cons, List.length_cons, mj_fit_len ks vs h.2]
  | [], _ :: _, h => by cases h
  | _ :: _, [], h => by cases h
section MV
variable {p : Program} {l : Launch} {e : Env} {R : Room} {s : State} {m : MethodId} {args : Array Value} {below : List Frame} {meth : Method} {c : Code} {cells slots : Nat} {Q : State → Prop}
variable {cc : ByteArray} {nL o : Nat} {lp : List Nat} {D : va_G} {X : mj_X} {ρ : mj_Id → Nat} {Hb : Heap} {L : Nat} {xs : Nat → Int32} {pc : Nat} {ls : mj_L} {r : List mj_V} {M : mj_M}

theorem ms_tab (C : mj_CX p s m args c cc nL o D X ρ Hb L xs) {d lo hi : Int} {offs : Array Int} {n : Nat} {x : Int32} {a : List Nat} (hd : decode cc pc = .ok (.tableswitch d lo hi offs, n)) (h1 : lo = (lo.toNat : Int)) (h2 : hi + 1 = lo + (offs.size : Int)) (h3 : lo.toNat + offs.size < 1000) (h4 : mj_tgs pc (d :: offs.toList) a = true)
    (kk : (∃ (i t : Nat), a.tail[i]? = some t ∧ x = nI (lo.toNat + i) ∧ mj_GG p l e R s m args below meth c cells slots Q nL lp D X ρ Hb L xs t ls r M) ∨ ((∀ i : Nat, i < a.tail.length → ¬ x = nI (lo.toNat + i)) ∧ mj_GG p l e R s m args below meth c cells slots Q nL lp D X ρ Hb L xs (a.getD 0 0) ls r M)) : mj_GG p l e R s m args below meth c cells slots Q nL lp D X ρ Hb L xs pc ls (.inl x :: r) M := by
  intro hl hv H locs la hP hS hL
  cases a with
  | nil => cases h4
  | cons t0 ts =>
    have h4 : (mj_tg pc d t0 && mj_tgs pc offs.toList ts) = true := h4
    rw [Bool.and_eq_true] at h4
    obtain ⟨hlen, hat⟩ := mj_tgs_at _ _ h4.2
    have hsz : offs.size = ts.length := by rw [← hlen, Array.length_toList]
    rcases kk with ⟨i, t, a1, a2, a3⟩ | ⟨a1, a2⟩
    · have a1 : ts[i]? = some t := a1
      have hi := (List.getElem?_eq_some_iff.mp a1).1
      obtain ⟨off, o1, o2⟩ := hat i t a1
      have ex : x.toInt = lo + i := by rw [a2, nI_toInt (by omega)]; omega
      exact lv_tableIn C.1 C.2.1 hd (by omega) (by omega) (off := off) (by rw [show (x.toInt - lo).toNat = i by omega, ← Array.getElem?_toList]; exact o1) o2 (a3 hl (hv.st (fun q h => List.mem_cons_of_mem _ h)) H locs la hP hS hL)
    · refine lv_tableOut C.1 C.2.1 hd ?_ (of_decide_eq_true h4.1) (a2 hl (hv.st (fun q h => List.mem_cons_of_mem _ h)) H locs la hP hS hL)
      rcases Int.lt_or_le x.toInt lo with z | z
      · exact Or.inl z
      · refine Or.inr (Int.not_le.mp fun z2 => ?_)
        refine a1 (x.toInt - lo).toNat (by show _ < ts.length; omega) (Int32.toInt_inj.mp ?_)
        rw [nI_toInt (by omega)]
        omega
theorem mj_goV (C : mj_CX p s m args c cc nL o D X ρ Hb L xs) {dd i g nn : Nat} {st : List mj_V} {rr : Option mj_V} {N : mj_M} (hR : dd ≤ R.frames ∧ 30 * dd ≤ R.locals) (hcs : cells ≤ R.cells ∧ slots ≤ R.slots)
    (hcall : ∀ (g : Nat) (vs : List mj_V) (M : mj_M) (r : Option mj_V) (N : mj_M), g < mj_mt.length → mj_fit (mj_kd.getD g []) vs = true → (∀ q : mj_Id, .inr (.inr q) ∈ vs → mj_vid q) → mj_Sp dd g vs M r N → 0 < dd ∧ mj_MT l D X ρ Hb L xs (dd - 1) g vs M r N)
    (hd : decode cc pc = .ok (.invokevirtual i, 3)) (hg : g < mj_mt.length) (hm : mj_ML.contains (o, i, g) = true) (hst : mj_stc g = false) (hn : nn = mj_np.getD g 0 + 1) (h1 : Nat.ble nn st.length = true) (h2 : mj_fit (mj_kd.getD g []) (st.take nn).reverse = true) (h3 : Nat.ble (mj_cat (st.drop nn)) 8 = true)
    (hs : mj_Sp dd g (st.take nn).reverse M rr N) (hrr : ∀ q', rr ≠ some (.inr (.inr q'))) (kk : mj_GG p l e R s m args below meth c cells slots Q nL lp D X ρ Hb L xs (pc + 3) ls (rr.toList ++ st.drop nn) N) : mj_GG p l e R s m args below meth c cells slots Q nL lp D X ρ Hb L xs pc ls st M := by
  intro hl hv
  have hk := List.all_eq_true.mp mj_kd_ok g (List.mem_range.mpr hg)
  rw [hst, if_neg (by decide)] at hk
  obtain ⟨hdd, hM⟩ := hcall g _ _ _ _ hg h2 (fun q h => hv.2.2 q (List.mem_of_mem_take (List.mem_reverse.mp h))) hs
  cases hkd : mj_kd.getD g [] with
  | nil => rw [hkd] at hk; cases hk
  | cons k ks =>
    rw [hkd] at hk h2
    simp only [Bool.and_eq_true, beq_iff_eq] at hk
    cases hvs : (st.take nn).reverse with
    | nil => rw [hvs] at h2; cases h2
    | cons v As =>
      rw [hvs] at h2 hM
      have h2 : (mj_fit1 k v && mj_fit ks As) = true := h2
      rw [Bool.and_eq_true] at h2
      have hlen := mj_fit_len ks As h2.2
      have hst2 : st = As.reverse ++ v :: st.drop nn := by
        have e := List.take_append_drop nn st
        have e2 : st.take nn = (v :: As).reverse := by rw [← hvs, List.reverse_reverse]
        rw [e2, List.reverse_cons, List.append_assoc] at e
        exact e.symm
      have hq : ∃ q : mj_Id, v = .inr (.inr q) ∧ mj_ci q.2.1 = (mj_m g).1 := by
        have h3 := h2.1
        rcases v with x | w | q
        · have : (k == 0) = true := h3
          rw [beq_iff_eq] at this
          omega
        · have : (k == 1) = true := h3
          rw [beq_iff_eq] at this
          omega
        · have : (k == 2 || (Nat.ble 100 k && mj_ci q.2.1 == k - 100)) = true := h3
          simp only [Bool.or_eq_true, Bool.and_eq_true, beq_iff_eq] at this
          refine ⟨q, rfl, ?_⟩
          omega
      obtain ⟨q, rfl, hci⟩ := hq
      have hlt : (mj_m g).1 < 8 := Nat.le_of_ble_eq_true hk.2
      have hvq : mj_vid q := hv.2.2 q (by rw [hst2]; simp)
      have h0 : 0 < (mj_cl.getD (mj_ci q.2.1) ("", mj_T0, 0)).2.2 := by
        rw [hci]
        generalize (mj_m g).1 = z at hlt
        rcases (by omega : z = 0 ∨ z = 1 ∨ z = 2 ∨ z = 3 ∨ z = 4 ∨ z = 5 ∨ z = 6 ∨ z = 7) with rfl | rfl | rfl | rfl | rfl | rfl | rfl | rfl <;> decide
      obtain ⟨hqi, hk0, -⟩ := mj_obj hvq h0
      have hfin := ms_callV (dd := dd - 1) (rr := rr) (N := N) (ls := ls) (As := As) (r := st.drop nn) (Q := Q) (lp := lp) (e := e) (below := below) (meth := meth) C hd hg hm hst (by omega) hci hqi hk0 (Nat.le_of_ble_eq_true h3) ⟨by omega, by omega⟩ hcs hM hrr kk
      rw [← hst2] at hfin
      exact hfin hl hv
theorem mj_goS (C : mj_CX p s m args c cc nL o D X ρ Hb L xs) {dd i g nn : Nat} {st : List mj_V} {rr : Option mj_V} {N : mj_M} (hR : dd ≤ R.frames ∧ 30 * dd ≤ R.locals) (hcs : cells ≤ R.cells ∧ slots ≤ R.slots)
    (hcall : ∀ (g : Nat) (vs : List mj_V) (M : mj_M) (r : Option mj_V) (N : mj_M), g < mj_mt.length → mj_fit (mj_kd.getD g []) vs = true → (∀ q : mj_Id, .inr (.inr q) ∈ vs → mj_vid q) → mj_Sp dd g vs M r N → 0 < dd ∧ mj_MT l D X ρ Hb L xs (dd - 1) g vs M r N)
    (hd : decode cc pc = .ok (.invokestatic i, 3)) (hg : g < mj_mt.length) (hm : mj_ML.contains (o, i, g) = true ∨ (o = 1 ∧ i = 85 ∧ g = 23)) (hst : mj_stc g = true) (hn : nn = mj_np.getD g 0) (h1 : Nat.ble nn st.length = true) (h2 : mj_fit (mj_kd.getD g []) (st.take nn).reverse = true) (h3 : Nat.ble (mj_cat (st.drop nn)) 8 = true)
    (hs : mj_Sp dd g (st.take nn).reverse M rr N) (hrr : ∀ q', rr ≠ some (.inr (.inr q'))) (kk : mj_GG p l e R s m args below meth c cells slots Q nL lp D X ρ Hb L xs (pc + 3) ls (rr.toList ++ st.drop nn) N) : mj_GG p l e R s m args below meth c cells slots Q nL lp D X ρ Hb L xs pc ls st M := by
  intro hl hv
  have hk := List.all_eq_true.mp mj_kd_ok g (List.mem_range.mpr hg)
  rw [hst, if_pos rfl] at hk
  have hk := beq_iff_eq.mp hk
  obtain ⟨hdd, hM⟩ := hcall g _ _ _ _ hg h2 (fun q h => hv.2.2 q (List.mem_of_mem_take (List.mem_reverse.mp h))) hs
  have hlen := mj_fit_len _ _ h2
  have hst2 : st = (st.take nn).reverse.reverse ++ st.drop nn := by rw [List.reverse_reverse, List.take_append_drop]
  have hfin := ms_callS (dd := dd - 1) (rr := rr) (N := N) (ls := ls) (As := (st.take nn).reverse) (r := st.drop nn) (Q := Q) (lp := lp) (e := e) (below := below) (meth := meth) C hd hg hm hst (by rw [hlen, hk]) (Nat.le_of_ble_eq_true h3) ⟨by omega, by omega⟩ hcs hM hrr kk
  rw [← hst2] at hfin
  exact hfin hl hv
set_option maxHeartbeats 8000000 in
theorem mj_main (C : mj_CX p s m args c cc nL o D X ρ Hb L xs) {dd nx : Nat} {rt : Option FieldType} {K : Nat → mj_L → List mj_V → mj_M → Prop} {Rr : Option mj_V → mj_M → Prop} (hR : dd ≤ R.frames ∧ 30 * dd ≤ R.locals) (hcs : cells ≤ R.cells ∧ slots ≤ R.slots)
    (hcall : ∀ (g : Nat) (vs : List mj_V) (M : mj_M) (r : Option mj_V) (N : mj_M), g < mj_mt.length → mj_fit (mj_kd.getD g []) vs = true → (∀ q : mj_Id, .inr (.inr q) ∈ vs → mj_vid q) → mj_Sp dd g vs M r N → 0 < dd ∧ mj_MT l D X ρ Hb L xs (dd - 1) g vs M r N)
    (hRi : ∀ (pc : Nat) (ls : mj_L) (x : Int32) (M : mj_M), decode cc pc = .ok (.ireturn, 1) → (rt = some .int ∨ (rt = some .boolean ∧ (x = 0 ∨ x = 1))) → Rr (some (.inl x)) M → mj_GG p l e R s m args below meth c cells slots Q nL lp D X ρ Hb L xs pc ls [.inl x] M)
    (hRv : ∀ (pc : Nat) (ls : mj_L) (M : mj_M), decode cc pc = .ok (.return_, 1) → rt = none → Rr none M → mj_GG p l e R s m args below meth c cells slots Q nL lp D X ρ Hb L xs pc ls [] M)
    (hK : ∀ (pc : Nat) (ls : mj_L) (st : List mj_V) (M : mj_M), K pc ls st M → mj_GG p l e R s m args below meth c cells slots Q nL lp D X ρ Hb L xs pc ls st M) :
    ∀ (is : List mj_I) (pc : Nat) (ls : mj_L) (st : List mj_V) (M : mj_M), mj_w (mj_Sp dd) K Rr (0 < dd) nx is ls st M → mj_ck cc o rt lp nx pc is = true → mj_GG p l e R s m args below meth c cells slots Q nL lp D X ρ Hb L xs pc ls st M
  | [], pc, ls, st, M, hw, hc => by
    have e : pc = nx := beq_iff_eq.mp hc
    subst e
    exact hK _ _ _ _ hw
  | (i, a) :: is, pc, ls, st, M, hw, hc => by
    obtain ⟨n, hd, hq, hr⟩ := mj_ck_cons hc
    have ih := mj_main (nx := nx) C hR hcs hcall hRi hRv hK is
    dsimp only at hd hq hr
    have hw : mj_w1 (mj_Sp dd) K Rr (0 < dd) nx i a ls st M (fun ls st M => mj_w (mj_Sp dd) K Rr (0 < dd) nx is ls st M) := hw
    cases i with
    | iadd =>
      obtain ⟨x, y, r, rfl, hw⟩ := mj_p2_of hw
      have hn : n = 1 := beq_iff_eq.mp hq
      subst hn
      exact ms_iadd C hd (ih _ _ _ _ hw hr)
    | isub =>
      obtain ⟨x, y, r, rfl, hw⟩ := mj_p2_of hw
      have hn : n = 1 := beq_iff_eq.mp hq
      subst hn
      exact ms_isub C hd (ih _ _ _ _ hw hr)
    | imul =>
      obtain ⟨x, y, r, rfl, hw⟩ := mj_p2_of hw
      have hn : n = 1 := beq_iff_eq.mp hq
      subst hn
      exact ms_imul C hd (ih _ _ _ _ hw hr)
    | iand =>
      obtain ⟨x, y, r, rfl, hw⟩ := mj_p2_of hw
      have hn : n = 1 := beq_iff_eq.mp hq
      subst hn
      exact ms_iand C hd (ih _ _ _ _ hw hr)
    | ior =>
      obtain ⟨x, y, r, rfl, hw⟩ := mj_p2_of hw
      have hn : n = 1 := beq_iff_eq.mp hq
      subst hn
      exact ms_ior C hd (ih _ _ _ _ hw hr)
    | ixor =>
      obtain ⟨x, y, r, rfl, hw⟩ := mj_p2_of hw
      have hn : n = 1 := beq_iff_eq.mp hq
      subst hn
      exact ms_ixor C hd (ih _ _ _ _ hw hr)
    | ishl =>
      obtain ⟨x, y, r, rfl, hw⟩ := mj_p2_of hw
      have hn : n = 1 := beq_iff_eq.mp hq
      subst hn
      exact ms_ishl C hd (ih _ _ _ _ hw hr)
    | ishr =>
      obtain ⟨x, y, r, rfl, hw⟩ := mj_p2_of hw
      have hn : n = 1 := beq_iff_eq.mp hq
      subst hn
      exact ms_ishr C hd (ih _ _ _ _ hw hr)
    | idiv =>
      obtain ⟨x, y, r, rfl, hne, hw⟩ := mj_p2_of hw
      have hn : n = 1 := beq_iff_eq.mp hq
      subst hn
      exact ms_idiv C hd hne (ih _ _ _ _ hw hr)
    | irem =>
      obtain ⟨x, y, r, rfl, hne, hw⟩ := mj_p2_of hw
      have hn : n = 1 := beq_iff_eq.mp hq
      subst hn
      exact ms_irem C hd hne (ih _ _ _ _ hw hr)
    | ladd =>
      obtain ⟨x, y, r, rfl, hw⟩ := mj_pl2_of hw
      have hn : n = 1 := beq_iff_eq.mp hq
      subst hn
      exact ms_ladd C hd (ih _ _ _ _ hw hr)
    | lmul =>
      obtain ⟨x, y, r, rfl, hw⟩ := mj_pl2_of hw
      have hn : n = 1 := beq_iff_eq.mp hq
      subst hn
      exact ms_lmul C hd (ih _ _ _ _ hw hr)
    | land =>
      obtain ⟨x, y, r, rfl, hw⟩ := mj_pl2_of hw
      have hn : n = 1 := beq_iff_eq.mp hq
      subst hn
      exact ms_land C hd (ih _ _ _ _ hw hr)
    | lor =>
      obtain ⟨x, y, r, rfl, hw⟩ := mj_pl2_of hw
      have hn : n = 1 := beq_iff_eq.mp hq
      subst hn
      exact ms_lor C hd (ih _ _ _ _ hw hr)
    | lcmp =>
      obtain ⟨x, y, r, rfl, hw⟩ := mj_pl2_of hw
      have hn : n = 1 := beq_iff_eq.mp hq
      subst hn
      exact ms_lcmp C hd (ih _ _ _ _ hw hr)
    | lshl =>
      obtain ⟨x, y, r, rfl, hw⟩ := mj_pli_of hw
      have hn : n = 1 := beq_iff_eq.mp hq
      subst hn
      exact ms_lshl C hd (ih _ _ _ _ hw hr)
    | lshr =>
      obtain ⟨x, y, r, rfl, hw⟩ := mj_pli_of hw
      have hn : n = 1 := beq_iff_eq.mp hq
      subst hn
      exact ms_lshr C hd (ih _ _ _ _ hw hr)
    | lushr =>
      obtain ⟨x, y, r, rfl, hw⟩ := mj_pli_of hw
      have hn : n = 1 := beq_iff_eq.mp hq
      subst hn
      exact ms_lushr C hd (ih _ _ _ _ hw hr)
    | i2l =>
      obtain ⟨x, r, rfl, hw⟩ := mj_p1_of hw
      have hn : n = 1 := beq_iff_eq.mp hq
      subst hn
      exact ms_i2l C hd (ih _ _ _ _ hw hr)
    | i2b =>
      obtain ⟨x, r, rfl, hw⟩ := mj_p1_of hw
      have hn : n = 1 := beq_iff_eq.mp hq
      subst hn
      exact ms_i2b C hd (ih _ _ _ _ hw hr)
    | i2s =>
      obtain ⟨x, r, rfl, hw⟩ := mj_p1_of hw
      have hn : n = 1 := beq_iff_eq.mp hq
      subst hn
      exact ms_i2s C hd (ih _ _ _ _ hw hr)
    | ineg =>
      obtain ⟨x, r, rfl, hw⟩ := mj_p1_of hw
      have hn : n = 1 := beq_iff_eq.mp hq
      subst hn
      exact ms_ineg C hd (ih _ _ _ _ hw hr)
    | l2i =>
      obtain ⟨x, r, rfl, hw⟩ := mj_pl_of hw
      have hn : n = 1 := beq_iff_eq.mp hq
      subst hn
      exact ms_l2i C hd (ih _ _ _ _ hw hr)
    | iconst k =>
      have hq : (n == 1 && decide (Int32.ofInt k = mj_k a)) = true := hq
      rw [Bool.and_eq_true] at hq
      have hn : n = 1 := beq_iff_eq.mp hq.1
      subst hn
      exact ms_iconst C hd (of_decide_eq_true hq.2) (ih _ _ _ _ hw hr)
    | bipush k =>
      have hq : (n == 2 && decide ((Int8.ofInt k).toInt32 = mj_k a)) = true := hq
      rw [Bool.and_eq_true] at hq
      have hn : n = 2 := beq_iff_eq.mp hq.1
      subst hn
      exact ms_bipush C hd (of_decide_eq_true hq.2) (ih _ _ _ _ hw hr)
    | sipush k =>
      have hq : (n == 3 && decide ((Int16.ofInt k).toInt32 = mj_k a)) = true := hq
      rw [Bool.and_eq_true] at hq
      have hn : n = 3 := beq_iff_eq.mp hq.1
      subst hn
      exact ms_sipush C hd (of_decide_eq_true hq.2) (ih _ _ _ _ hw hr)
    | lconst k =>
      have hn : n = 1 := beq_iff_eq.mp hq
      subst hn
      exact ms_lconst C hd (ih _ _ _ _ hw hr)
    | ldc x =>
      have hq : (n == 2 && mj_KL.any (fun e => e.1 == o && e.2.1 == x && decide (Int32.ofInt e.2.2 = mj_k a))) = true := hq
      rw [Bool.and_eq_true] at hq
      have hn : n = 2 := beq_iff_eq.mp hq.1
      subst hn
      obtain ⟨z, hz, hz2⟩ := List.any_eq_true.mp hq.2
      simp only [Bool.and_eq_true, beq_iff_eq, decide_eq_true_eq] at hz2
      have hw2 := mj_KL_ok _ (List.mem_map.mpr ⟨z, hz, rfl⟩)
      unfold mj_wk at hw2
      rw [hz2.1.1, hz2.1.2, hz2.2] at hw2
      exact ms_ldc C hd hw2 (ih _ _ _ _ hw hr)
    | ldc2_w x =>
      have hq : (n == 3 && mj_KM.any (fun e => e.1 == o && e.2.1 == x && decide (Int64.ofInt e.2.2 = mj_kl a))) = true := hq
      rw [Bool.and_eq_true] at hq
      have hn : n = 3 := beq_iff_eq.mp hq.1
      subst hn
      obtain ⟨z, hz, hz2⟩ := List.any_eq_true.mp hq.2
      simp only [Bool.and_eq_true, beq_iff_eq, decide_eq_true_eq] at hz2
      have hw2 := mj_KM_ok _ (List.mem_map.mpr ⟨z, hz, rfl⟩)
      unfold mj_wl2 at hw2
      rw [hz2.1.1, hz2.1.2, hz2.2] at hw2
      exact ms_ldc2 C hd hw2 (ih _ _ _ _ hw hr)
    | iload j =>
      obtain ⟨x, hx, hw⟩ := mj_li_of hw
      have hn : n = 2 := beq_iff_eq.mp hq
      subst hn
      exact ms_iload C hd hx (ih _ _ _ _ hw hr)
    | iload_n j =>
      obtain ⟨x, hx, hw⟩ := mj_li_of hw
      have hn : n = 1 := beq_iff_eq.mp hq
      subst hn
      exact ms_iload_n C hd hx (ih _ _ _ _ hw hr)
    | lload j =>
      obtain ⟨x, hx, hw⟩ := mj_ll_of hw
      have hn : n = 2 := beq_iff_eq.mp hq
      subst hn
      exact ms_lload C hd hx (ih _ _ _ _ hw hr)
    | lload_n j =>
      obtain ⟨x, hx, hw⟩ := mj_ll_of hw
      have hn : n = 1 := beq_iff_eq.mp hq
      subst hn
      exact ms_lload_n C hd hx (ih _ _ _ _ hw hr)
    | aload j =>
      obtain ⟨x, hx, hw⟩ := mj_lr_of hw
      have hn : n = 2 := beq_iff_eq.mp hq
      subst hn
      exact ms_aload C hd hx (ih _ _ _ _ hw hr)
    | aload_n j =>
      obtain ⟨x, hx, hw⟩ := mj_lr_of hw
      have hn : n = 1 := beq_iff_eq.mp hq
      subst hn
      exact ms_aload_n C hd hx (ih _ _ _ _ hw hr)
    | istore j =>
      obtain ⟨x, r, rfl, hlt, hw⟩ := mj_p1_of hw
      have hq : (n == 2 && mj_lpk lp j) = true := hq
      rw [Bool.and_eq_true] at hq
      have hn : n = 2 := beq_iff_eq.mp hq.1
      subst hn
      exact ms_istore C hd (Nat.le_of_ble_eq_true hlt) hq.2 (ih _ _ _ _ hw hr)
    | istore_n j =>
      obtain ⟨x, r, rfl, hlt, hw⟩ := mj_p1_of hw
      have hq : (n == 1 && mj_lpk lp j.val) = true := hq
      rw [Bool.and_eq_true] at hq
      have hn : n = 1 := beq_iff_eq.mp hq.1
      subst hn
      exact ms_istore_n C hd (Nat.le_of_ble_eq_true hlt) hq.2 (ih _ _ _ _ hw hr)
    | astore j =>
      obtain ⟨x, r, rfl, hlt, hw⟩ := mj_pr_of hw
      have hq : (n == 2 && mj_lpk lp j) = true := hq
      rw [Bool.and_eq_true] at hq
      have hn : n = 2 := beq_iff_eq.mp hq.1
      subst hn
      exact ms_astore C hd (Nat.le_of_ble_eq_true hlt) hq.2 (ih _ _ _ _ hw hr)
    | astore_n j =>
      obtain ⟨x, r, rfl, hlt, hw⟩ := mj_pr_of hw
      have hq : (n == 1 && mj_lpk lp j.val) = true := hq
      rw [Bool.and_eq_true] at hq
      have hn : n = 1 := beq_iff_eq.mp hq.1
      subst hn
      exact ms_astore_n C hd (Nat.le_of_ble_eq_true hlt) hq.2 (ih _ _ _ _ hw hr)
    | iinc j k =>
      obtain ⟨x, hx, hlt, hw⟩ := mj_li_of hw
      have hq : (n == 3 && decide (Int32.ofInt k = mj_k a) && mj_lpk lp j) = true := hq
      simp only [Bool.and_eq_true, beq_iff_eq, decide_eq_true_eq] at hq
      obtain ⟨⟨hn, hk⟩, hp⟩ := hq
      subst hn
      exact ms_iinc C hd hx hk (Nat.le_of_ble_eq_true hlt) hp (ih _ _ _ _ hw hr)
    | dup =>
      have hn : n = 1 := beq_iff_eq.mp hq
      subst hn
      match st, hw with
      | .inl x :: r, hw => exact ms_dupi C hd (ih _ _ _ _ hw hr)
      | .inr (.inr x) :: r, hw => exact ms_dupr C hd (ih _ _ _ _ hw hr)
      | [], hw => exact hw.elim
      | .inr (.inl x) :: r, hw => exact hw.elim
      
    | dup2 =>
      obtain ⟨q, j, r, rfl, hw⟩ := mj_pri_of hw
      have hn : n = 1 := beq_iff_eq.mp hq
      subst hn
      exact ms_dup2 C hd (ih _ _ _ _ hw hr)
    | pop =>
      obtain ⟨x, r, rfl, hw⟩ := mj_p1_of hw
      have hn : n = 1 := beq_iff_eq.mp hq
      subst hn
      exact ms_pop C hd (ih _ _ _ _ hw hr)
    | getfield x =>
      obtain ⟨q, r, rfl, ha, hw⟩ := mj_pr_of hw
      have hq : (n == 3 && mj_FL.contains (o, x, a.getD 0 99, a.getD 1 99) && Nat.blt (a.getD 1 99) (mj_cl.getD (a.getD 0 99) ("", mj_T0, 0)).2.2) = true := hq
      simp only [Bool.and_eq_true, beq_iff_eq] at hq
      obtain ⟨⟨hn, hf⟩, hk⟩ := hq
      subst hn
      have h0 : a.getD 0 99 = mj_ci q.2.1 := by rw [List.getD_eq_getElem?_getD, ha]; rfl
      rw [h0] at hf hk
      have hk := Nat.le_of_ble_eq_true hk
      have h1 : a.getD 1 99 = a.getD 1 0 ∨ a.getD 1 99 = 99 := by cases h : a[1]? <;> simp [List.getD_eq_getElem?_getD, h]
      have h1 : a.getD 1 99 = a.getD 1 0 := by
        rcases h1 with h1 | h1
        · exact h1
        · exfalso
          rw [h1] at hk
          exact absurd hk (mj_no99 _)
      rw [h1] at hf hk
      cases hv : mj_fd q (a.getD 1 0) with
      | none => rw [hv] at hw; exact hw.elim
      | some z =>
        rw [hv] at hw
        cases z with
        | inl t => exact ms_getn C hd hf hk hv (ih _ _ _ _ hw hr)
        | inr t => exact ms_getr C hd hf hk hv (ih _ _ _ _ hw hr)
      
    | putfield x =>
      match st, hw with
      | [], hw => exact hw.elim
      | [.inl _], hw => exact hw.elim
      | .inr _ :: _, hw => exact hw.elim
      | .inl _ :: .inl _ :: _, hw => exact hw.elim
      | .inl _ :: .inr (.inl _) :: _, hw => exact hw.elim
      | .inl v :: .inr (.inr q) :: r, hw =>
        obtain ⟨ha, hw⟩ := hw
        have hq : (n == 3 && mj_FL.contains (o, x, a.getD 0 99, a.getD 1 99) && Nat.blt (a.getD 1 99) (mj_cl.getD (a.getD 0 99) ("", mj_T0, 0)).2.2 && !(mj_TT (a.getD 0 99) (a.getD 1 99)).2.2.2 && decide (parseFieldDescriptor (mj_TT (a.getD 0 99) (a.getD 1 99)).2.2.1 = some (if a.getD 2 0 = 1 then .boolean else .int))) = true := hq
        simp only [Bool.and_eq_true, beq_iff_eq, Bool.not_eq_true', decide_eq_true_eq] at hq
        obtain ⟨⟨⟨⟨hn, hf⟩, hk⟩, hfin⟩, hty⟩ := hq
        subst hn
        have h0 : a.getD 0 99 = mj_ci q.2.1 := by rw [List.getD_eq_getElem?_getD, ha]; rfl
        rw [h0] at hf hk hfin hty
        have hk := Nat.le_of_ble_eq_true hk
        have h1 : a.getD 1 99 = a.getD 1 0 ∨ a.getD 1 99 = 99 := by cases h : a[1]? <;> simp [List.getD_eq_getElem?_getD, h]
        have h1 : a.getD 1 99 = a.getD 1 0 := by
          rcases h1 with h1 | h1
          · exact h1
          · exfalso
            rw [h1] at hk
            exact absurd hk (mj_no99 _)
        rw [h1] at hf hk hfin hty
        cases hv : mj_fd q (a.getD 1 0) with
        | none => rw [hv] at hw; exact hw.elim
        | some z =>
          rw [hv] at hw
          cases z with
          | inl t =>
            have hbo := mj_bo_of hw
            exact ms_put C hd hf hk hfin hty hbo.1 hv (ih _ _ _ _ hbo.2 hr)
          | inr t => exact hw.elim
      
    | getstatic x =>
      have hq : (n == 3 && o == 1 && ((x == 109 && a == [80]) || (x == 128 && a == [81]))) = true := hq
      simp only [Bool.and_eq_true, Bool.or_eq_true, beq_iff_eq] at hq
      obtain ⟨⟨hn, ho⟩, hx⟩ := hq
      subst hn
      rcases hx with ⟨hx, ha⟩ | ⟨hx, ha⟩
      · subst ha
        exact ms_gets C hd ho (Or.inl ⟨hx, rfl⟩) (ih _ _ _ _ hw hr)
      · subst ha
        exact ms_gets C hd ho (Or.inr ⟨hx, rfl⟩) (ih _ _ _ _ hw hr)
      
    | iaload =>
      obtain ⟨q, j, r, rfl, hin, hw⟩ := mj_pri_of hw
      have hn : n = 1 := beq_iff_eq.mp hq
      subst hn
      exact ms_iald C hd hin (ih _ _ _ _ hw hr)
    | iastore =>
      obtain ⟨q, j, v, r, rfl, ht, hin, hw⟩ := mj_prii_of hw
      have hn : n = 1 := beq_iff_eq.mp hq
      subst hn
      exact ms_iast C hd (Nat.le_of_ble_eq_true ht) hin (ih _ _ _ _ hw hr)
    | aaload =>
      obtain ⟨q, j, r, rfl, hin, hw⟩ := mj_pri_of hw
      have hn : n = 1 := beq_iff_eq.mp hq
      subst hn
      cases hv : mj_el q j.toNatClampNeg with
      | none => rw [hv] at hw; exact hw.elim
      | some z => rw [hv] at hw; exact ms_aald C hd hin hv (ih _ _ _ _ hw hr)
      
    | arraylength =>
      obtain ⟨q, r, rfl, ha, hw⟩ := mj_pr_of hw
      have hn : n = 1 := beq_iff_eq.mp hq
      subst hn
      exact ms_alen C hd ha (ih _ _ _ _ hw hr)
    | goto off =>
      have hq : (n == 3 && mj_tg pc off (a.getD 0 0)) = true := hq
      rw [Bool.and_eq_true] at hq
      have hn : n = 3 := beq_iff_eq.mp hq.1
      subst hn
      exact ms_goto C hd (of_decide_eq_true hq.2) (hK _ _ _ _ hw)
    | if_icmp cnd off =>
      obtain ⟨x, y, r, rfl, h1, h2⟩ := mj_p2_of hw
      have hq1 : (n == 3 && mj_tg pc off (a.getD 0 0)) = true := hq
      rw [Bool.and_eq_true] at hq1
      have hn : n = 3 := beq_iff_eq.mp hq1.1
      have ht := of_decide_eq_true hq1.2
      clear hq hq1
      subst hn
      cases cnd with
      | eq => exact ms_icmp_eq C hd ht (fun z => hK _ _ _ _ (h1 z)) (fun z => ih _ _ _ _ (h2 z) hr)
      | ne => exact ms_icmp_ne C hd ht (fun z => hK _ _ _ _ (h1 z)) (fun z => ih _ _ _ _ (h2 z) hr)
      | lt => exact ms_icmp_lt C hd ht (fun z => hK _ _ _ _ (h1 z)) (fun z => ih _ _ _ _ (h2 z) hr)
      | ge => exact ms_icmp_ge C hd ht (fun z => hK _ _ _ _ (h1 z)) (fun z => ih _ _ _ _ (h2 z) hr)
      | gt => exact ms_icmp_gt C hd ht (fun z => hK _ _ _ _ (h1 z)) (fun z => ih _ _ _ _ (h2 z) hr)
      | le => exact ms_icmp_le C hd ht (fun z => hK _ _ _ _ (h1 z)) (fun z => ih _ _ _ _ (h2 z) hr)
      
    | ifCond cnd off =>
      obtain ⟨x, r, rfl, h1, h2⟩ := mj_p1_of hw
      have hq1 : (n == 3 && mj_tg pc off (a.getD 0 0)) = true := hq
      rw [Bool.and_eq_true] at hq1
      have hn : n = 3 := beq_iff_eq.mp hq1.1
      have ht := of_decide_eq_true hq1.2
      clear hq hq1
      subst hn
      cases cnd with
      | eq => exact ms_if_eq C hd ht (fun z => hK _ _ _ _ (h1 z)) (fun z => ih _ _ _ _ (h2 z) hr)
      | ne => exact ms_if_ne C hd ht (fun z => hK _ _ _ _ (h1 z)) (fun z => ih _ _ _ _ (h2 z) hr)
      | lt => exact ms_if_lt C hd ht (fun z => hK _ _ _ _ (h1 z)) (fun z => ih _ _ _ _ (h2 z) hr)
      | ge => exact ms_if_ge C hd ht (fun z => hK _ _ _ _ (h1 z)) (fun z => ih _ _ _ _ (h2 z) hr)
      | gt => exact ms_if_gt C hd ht (fun z => hK _ _ _ _ (h1 z)) (fun z => ih _ _ _ _ (h2 z) hr)
      | le => exact ms_if_le C hd ht (fun z => hK _ _ _ _ (h1 z)) (fun z => ih _ _ _ _ (h2 z) hr)
      
    | tableswitch d lo hi offs =>
      obtain ⟨x, r, rfl, hw⟩ := mj_p1_of hw
      have hq : (decide (lo = (lo.toNat : Int)) && decide (hi + 1 = lo + (offs.size : Int)) && Nat.blt (lo.toNat + offs.size) 1000 && mj_tgs pc (d :: offs.toList) a) = true := hq
      simp only [Bool.and_eq_true, decide_eq_true_eq] at hq
      obtain ⟨⟨⟨q1, q2⟩, q3⟩, q4⟩ := hq
      refine ms_tab C hd q1 q2 (Nat.le_of_ble_eq_true q3) q4 ?_
      rcases mj_sw_tk _ _ hw with ⟨i, t, a1, a2, a3⟩ | ⟨a1, a2⟩
      · exact Or.inl ⟨i, t, a1, a2, hK _ _ _ _ a3⟩
      · exact Or.inr ⟨a1, hK _ _ _ _ a2⟩
      
    | lookupswitch d ps =>
      obtain ⟨x, r, rfl, hw⟩ := mj_p1_of hw
      have hq : ((ps.toList.zip (ps.toList.drop 1)).all (fun (x, y) => x.1 < y.1) && ps.toList.all (fun x => decide (x.1 = (x.1.toNat : Int)) && Nat.blt x.1.toNat 1000) && mj_tgs pc (d :: ps.toList.map (fun x => x.2)) a) = true := hq
      rw [Bool.and_eq_true, Bool.and_eq_true] at hq
      obtain ⟨⟨q1, q2⟩, q3⟩ := hq
      cases a with
      | nil => cases q3
      | cons t0 ts =>
        have q3 : (mj_tg pc d t0 && mj_tgs pc (ps.toList.map (fun x => x.2)) ts) = true := q3
        rw [Bool.and_eq_true] at q3
        obtain ⟨t, k1, k2⟩ := mj_sw_lk (of_decide_eq_true q3.1) ps.toList ts q3.2 (fun z hz => by
          have := List.all_eq_true.mp q2 z hz
          simp only [Bool.and_eq_true, decide_eq_true_eq] at this
          exact ⟨this.1, Nat.le_of_ble_eq_true this.2⟩) hw
        exact fun hl hv H locs la hP hS hL => lv_lookup C.1 C.2.1 hd q1 rfl k2 (hK _ _ _ _ k1 hl (hv.st (fun q h => List.mem_cons_of_mem _ h)) H locs la hP hS hL)
      
    | invokevirtual x =>
      rcases mj_call_of hw with ⟨g, nn, N, ha, hf, hc1, hk⟩ | ⟨g, nn, y, N, ha, hf, hc1, hk⟩
      · subst ha
        have hr : (is.isEmpty && nx == pc + n) = true := hr
        have hq : (n == 3 && (Nat.blt g mj_mt.length && mj_ML.contains (o, x, g) && !mj_stc g && nn == mj_np.getD g 0 + 1 && 0 == mj_rk (mj_rt g))) = true := hq
        simp only [Bool.and_eq_true, beq_iff_eq, Bool.not_eq_true'] at hq hr hf
        obtain ⟨hn, ⟨⟨⟨h1, h2⟩, h3⟩, h4⟩, -⟩ := hq
        subst hn
        obtain ⟨-, rfl⟩ := hr
        exact mj_goV C hR hcs hcall hd (mj_blt h1) h2 h3 h4 hf.1.1 hf.1.2 hf.2 hc1 (by intro q h; cases h) (hK _ _ _ _ hk)
      · subst ha
        have hr : (is.isEmpty && nx == pc + n) = true := hr
        have hq : (n == 3 && (Nat.blt g mj_mt.length && mj_ML.contains (o, x, g) && !mj_stc g && nn == mj_np.getD g 0 + 1 && 1 == mj_rk (mj_rt g))) = true := hq
        simp only [Bool.and_eq_true, beq_iff_eq, Bool.not_eq_true'] at hq hr hf
        obtain ⟨hn, ⟨⟨⟨h1, h2⟩, h3⟩, h4⟩, -⟩ := hq
        subst hn
        obtain ⟨-, rfl⟩ := hr
        exact mj_goV C hR hcs hcall hd (mj_blt h1) h2 h3 h4 hf.1.1 hf.1.2 hf.2 hc1 (by intro q h; cases h) (hK _ _ _ _ hk)
      
    | invokestatic x =>
      rcases a with _ | ⟨z1, _ | ⟨z2, zs⟩⟩
      · obtain ⟨qs, s1, qd, d1, n1, r, rfl, g1, g2, g3, g4, g5, g6, g7, g8, g9, hw⟩ := mj_pcp_of hw
        have hq1 : (n == 3 && mj_AL.contains (o, x)) = true := hq
        rw [Bool.and_eq_true] at hq1
        have hn : n = 3 := beq_iff_eq.mp hq1.1
        have ht := hq1.2
        clear hq hq1
        subst hn
        rw [Bool.and_eq_true] at g3 g4
        exact ms_copy C hd ht (Nat.le_of_ble_eq_true g1) ⟨by omega, by omega⟩ ⟨mj_blt g3.1, g3.2⟩ ⟨mj_blt g4.1, g4.2⟩ g5 g6 g7 g8 g9 (ih _ _ _ _ hw hr)
      · rcases z1 with _ | _ | k
        · obtain ⟨x1, y1, r, rfl, g1, g2, hw⟩ := mj_p2_of hw
          have hq1 : (n == 3 && mj_JL.contains (o, x, true)) = true := hq
          rw [Bool.and_eq_true] at hq1
          have hn : n = 3 := beq_iff_eq.mp hq1.1
          have ht := hq1.2
          clear hq hq1
          subst hn
          exact ms_max C hd ht (Nat.le_of_ble_eq_true g1) ⟨by omega, by omega⟩ hcs (ih _ _ _ _ hw hr)
        · obtain ⟨x1, y1, r, rfl, g1, g2, hw⟩ := mj_p2_of hw
          have hq1 : (n == 3 && mj_JL.contains (o, x, false)) = true := hq
          rw [Bool.and_eq_true] at hq1
          have hn : n = 3 := beq_iff_eq.mp hq1.1
          have ht := hq1.2
          clear hq hq1
          subst hn
          exact ms_min C hd ht (Nat.le_of_ble_eq_true g1) ⟨by omega, by omega⟩ hcs (ih _ _ _ _ hw hr)
        · exact hw.elim
      · have hw : mj_call (mj_Sp dd) (K nx) (z1 :: z2 :: zs) ls st M := mj_st3 hw
        rcases mj_call_of hw with ⟨g, nn, N, ha, hf, hc1, hk⟩ | ⟨g, nn, y, N, ha, hf, hc1, hk⟩
        · rw [ha] at hq hr
          have hr : (is.isEmpty && nx == pc + n) = true := hr
          have hq : (n == 3 && (Nat.blt g mj_mt.length && (mj_ML.contains (o, x, g) || (o == 1 && x == 85 && g == 23)) && mj_stc g && nn == mj_np.getD g 0 && 0 == mj_rk (mj_rt g))) = true := mj_ck3 hq
          simp only [Bool.and_eq_true, Bool.or_eq_true, beq_iff_eq] at hq hr hf
          obtain ⟨hn, ⟨⟨⟨h1, h2⟩, h3⟩, h4⟩, -⟩ := hq
          subst hn
          obtain ⟨-, rfl⟩ := hr
          exact mj_goS C hR hcs hcall hd (mj_blt h1) (h2.imp id (fun z => ⟨z.1.1, z.1.2, z.2⟩)) h3 h4 hf.1.1 hf.1.2 hf.2 hc1 (by intro q h; cases h) (hK _ _ _ _ hk)
        · rw [ha] at hq hr
          have hr : (is.isEmpty && nx == pc + n) = true := hr
          have hq : (n == 3 && (Nat.blt g mj_mt.length && (mj_ML.contains (o, x, g) || (o == 1 && x == 85 && g == 23)) && mj_stc g && nn == mj_np.getD g 0 && 1 == mj_rk (mj_rt g))) = true := mj_ck3 hq
          simp only [Bool.and_eq_true, Bool.or_eq_true, beq_iff_eq] at hq hr hf
          obtain ⟨hn, ⟨⟨⟨h1, h2⟩, h3⟩, h4⟩, -⟩ := hq
          subst hn
          obtain ⟨-, rfl⟩ := hr
          exact mj_goS C hR hcs hcall hd (mj_blt h1) (h2.imp id (fun z => ⟨z.1.1, z.1.2, z.2⟩)) h3 h4 hf.1.1 hf.1.2 hf.2 hc1 (by intro q h; cases h) (hK _ _ _ _ hk)
      
    | ireturn =>
      match st, hw with
      | [.inl x], hw =>
        have hq : (n == 1 && ((decide (rt = some .int) && a == []) || (decide (rt = some .boolean) && a == [1]))) = true := hq
        simp only [Bool.and_eq_true, Bool.or_eq_true, beq_iff_eq, decide_eq_true_eq] at hq
        obtain ⟨hn, hq1⟩ := hq
        subst hn
        rcases hq1 with ⟨e1, rfl⟩ | ⟨e1, rfl⟩
        · exact hRi _ _ _ _ hd (Or.inl e1) hw
        · exact hRi _ _ _ _ hd (Or.inr ⟨e1, hw.1⟩) hw.2
      | [], hw => exact hw.elim
      | [.inr _], hw => exact hw.elim
      | .inl _ :: _ :: _, hw => exact hw.elim
      | .inr _ :: _ :: _, hw => exact hw.elim
      
    | return_ =>
      match st, hw with
      | [], hw =>
        have hq : (n == 1 && decide (rt = none)) = true := hq
        rw [Bool.and_eq_true] at hq
        have hn : n = 1 := beq_iff_eq.mp hq.1
        subst hn
        exact hRv _ _ _ hd (of_decide_eq_true hq.2) hw
      | _ :: _, hw => exact hw.elim
      
    | _ => exact hw.elim
end MV
end
section
/-! Soundness: what the small machine says of a method is its contract on the real one. -/
theorem mj_P_eq {D : va_G} {X : mj_X} {ρ : mj_Id → Nat} {Hb : Heap} {L : Nat} {xs : Nat → Int32} {M N : mj_M} {H : Heap} (e : mj_eq M N) (h : mj_P D X ρ Hb L xs M H) : mj_P D X ρ Hb L xs N H := by
  refine ⟨fun k x hx => ?_, h.2.1, ?_⟩
  · obtain ⟨q, hq, rfl⟩ := mj_ws_get hx
    refine mj_en_congr (M := M) (fun t ht => e _ _ _ _ (mj_own_lo (List.mem_of_getElem? hq) ht).2.2) (h.1 k _ ?_)
    unfold mj_ws
    rw [List.getElem?_map, hq]
    rfl
  · obtain ⟨a, b, c, d⟩ := h.2.2
    exact ⟨fun j hj => (e 40 80 0 j rfl).symm.trans (a j hj), fun j hj => (e 40 81 0 j rfl).symm.trans (b j hj), by rw [← e 41 83 0 0 rfl]; exact c, fun j hj => (e 41 82 0 j rfl).symm.trans (d j hj)⟩
def mj_sl (ks : List Nat) : Nat := match ks with
  | [] => 0
  | 1 :: ks => 2 + mj_sl ks
  | _ :: ks => 1 + mj_sl ks
theorem mj_sl_ok : (List.range mj_mt.length).all (fun g => Nat.ble (mj_sl (mj_kd.getD g [])) (mj_mx g) && mj_ml.getD g 0 == mj_mx g) = true := by decide +kernel
theorem mj_fit1_l {k : Nat} {v : mj_V} (h : mj_fit1 k v = true) : (k = 1 ∧ ∃ w, v = .inr (.inl w)) ∨ (k ≠ 1 ∧ ∀ w, v ≠ .inr (.inl w)) := by
  rcases v with x | w | q
  · have h : (k == 0) = true := h
    rw [beq_iff_eq] at h
    exact Or.inr ⟨by omega, fun w z => by cases z⟩
  · have h : (k == 1) = true := h
    rw [beq_iff_eq] at h
    exact Or.inl ⟨h, w, rfl⟩
  · have h : (k == 2 || (Nat.ble 100 k && mj_ci q.2.1 == k - 100)) = true := h
    simp only [Bool.or_eq_true, Bool.and_eq_true, beq_iff_eq, Nat.ble_eq] at h
    exact Or.inr ⟨by omega, fun w z => by cases z⟩
theorem mj_av_c {v : mj_V} {vs : List mj_V} (h : ∀ w, v ≠ .inr (.inl w)) : mj_av (v :: vs) = some v :: mj_av vs := by
  rcases v with x | w | q
  · rfl
  · exact absurd rfl (h w)
  · rfl
theorem mj_sl_c {k : Nat} {ks : List Nat} (h : k ≠ 1) : mj_sl (k :: ks) = 1 + mj_sl ks := by
  match k, h with
  | 0, _ => rfl
  | 1, h => exact absurd rfl h
  | k + 2, _ => rfl
theorem mj_lg_c {n k : Nat} {ks : List Nat} (h : k ≠ 1) : mj_lg n (k :: ks) = mj_lg (n + 1) ks := by
  match k, h with
  | 0, _ => rfl
  | 1, h => exact absurd rfl h
  | k + 2, _ => rfl
theorem mj_av_len : ∀ (ks : List Nat) (vs : List mj_V), mj_fit ks vs = true → (mj_av vs).length = mj_sl ks
  | [], [], _ => rfl
  | k :: ks, v :: vs, h => by
    have h : (mj_fit1 k v && mj_fit ks vs) = true := h
    rw [Bool.and_eq_true] at h
    rcases mj_fit1_l h.1 with ⟨rfl, w, rfl⟩ | ⟨h1, h2⟩
    · show (mj_av vs).length + 1 + 1 = 2 + mj_sl ks
      rw [mj_av_len ks vs h.2]
      omega
    · rw [mj_av_c h2, mj_sl_c h1, List.length_cons, mj_av_len ks vs h.2]
      omega
  | [], _ :: _, h => by cases h
  | _ :: _, [], h => by cases h
theorem mj_av_in : ∀ (vs : List mj_V) (j : Nat) (v : mj_V), (mj_av vs)[j]? = some (some v) → v ∈ vs
  | [], j, v, h => by simp [mj_av] at h
  | .inl x :: vs, j, v, h => by
    cases j with
    | zero => cases h; exact List.mem_cons_self
    | succ j => exact List.mem_cons_of_mem _ (mj_av_in vs j v h)
  | .inr (.inr x) :: vs, j, v, h => by
    cases j with
    | zero => cases h; exact List.mem_cons_self
    | succ j => exact List.mem_cons_of_mem _ (mj_av_in vs j v h)
  | .inr (.inl x) :: vs, j, v, h => by
    rcases j with _ | _ | j
    · cases h; exact List.mem_cons_self
    · cases h
    · exact List.mem_cons_of_mem _ (mj_av_in vs j v h)
theorem mj_av_lg : ∀ (ks : List Nat) (vs : List mj_V) (n j : Nat) (w : Int64), mj_fit ks vs = true → (mj_av vs)[j]? = some (some (.inr (.inl w))) → n + j ∈ mj_lg n ks
  | [], [], n, j, w, _, h => by simp [mj_av] at h
  | k :: ks, v :: vs, n, j, w, h, hj => by
    have h : (mj_fit1 k v && mj_fit ks vs) = true := h
    rw [Bool.and_eq_true] at h
    rcases mj_fit1_l h.1 with ⟨rfl, w', rfl⟩ | ⟨h1, h2⟩
    · show n + j ∈ n :: mj_lg (n + 2) ks
      rcases j with _ | _ | j
      · exact List.mem_cons_self
      · cases hj
      · have := mj_av_lg ks vs (n + 2) j w h.2 hj
        rw [show n + 2 + j = n + (j + 1 + 1) by omega] at this
        exact List.mem_cons_of_mem _ this
    · rw [mj_av_c h2] at hj
      rw [mj_lg_c h1]
      cases j with
      | zero => cases hj; exact absurd rfl (h2 w)
      | succ j =>
        have := mj_av_lg ks vs (n + 1) j w h.2 hj
        rw [show n + 1 + j = n + (j + 1) by omega] at this
        exact this
  | [], _ :: _, _, _, _, h, _ => by cases h
  | _ :: _, [], _, _, _, h, _ => by cases h
theorem mj_av_args {ρ : mj_Id → Nat} : ∀ (vs : List mj_V) (i j : Nat) (v : mj_V), (mj_av vs)[j]? = some (some v) → (i + j, mj_rv ρ v) ∈ lv_args i (vs.map (mj_rv ρ))
  | [], i, j, v, h => by simp [mj_av] at h
  | .inl x :: vs, i, j, v, h => by
    show _ ∈ (i, mj_rv ρ (.inl x)) :: lv_args (i + 1) (vs.map (mj_rv ρ))
    cases j with
    | zero => cases h; exact List.mem_cons_self
    | succ j =>
      have := mj_av_args (ρ := ρ) vs (i + 1) j v h
      rw [show i + 1 + j = i + (j + 1) by omega] at this
      exact List.mem_cons_of_mem _ this
  | .inr (.inr x) :: vs, i, j, v, h => by
    show _ ∈ (i, mj_rv ρ (.inr (.inr x))) :: lv_args (i + 1) (vs.map (mj_rv ρ))
    cases j with
    | zero => cases h; exact List.mem_cons_self
    | succ j =>
      have := mj_av_args (ρ := ρ) vs (i + 1) j v h
      rw [show i + 1 + j = i + (j + 1) by omega] at this
      exact List.mem_cons_of_mem _ this
  | .inr (.inl x) :: vs, i, j, v, h => by
    show _ ∈ (i, mj_rv ρ (.inr (.inl x))) :: lv_args (i + 2) (vs.map (mj_rv ρ))
    rcases j with _ | _ | j
    · cases h; exact List.mem_cons_self
    · cases h
    · have := mj_av_args (ρ := ρ) vs (i + 2) j v h
      rw [show i + 2 + j = i + (j + 1 + 1) by omega] at this
      exact List.mem_cons_of_mem _ this
theorem mj_sl_len {ρ : mj_Id → Nat} : ∀ (vs : List mj_V), (lg_sl (vs.map (mj_rv ρ))).length = (mj_av vs).length
  | [] => rfl
  | .inl x :: vs => by
    have := mj_sl_len (ρ := ρ) vs
    show (lg_sl (.int x :: vs.map (mj_rv ρ))).length = (mj_av vs).length + 1
    rw [← this]
    simp [lg_sl, Value.category]
  | .inr (.inr x) :: vs => by
    have := mj_sl_len (ρ := ρ) vs
    show (lg_sl (.ref (ρ x) :: vs.map (mj_rv ρ))).length = (mj_av vs).length + 1
    rw [← this]
    simp [lg_sl, Value.category]
  | .inr (.inl x) :: vs => by
    have := mj_sl_len (ρ := ρ) vs
    show (lg_sl (.long x :: vs.map (mj_rv ρ))).length = (mj_av vs).length + 1 + 1
    rw [← this]
    simp [lg_sl, Value.category]
    try omega
theorem mj_ent_at {n : Nat} {vs : List mj_V} {j : Nat} {v : mj_V} (h : (mj_ent n vs)[j]? = some (some v)) : (mj_av vs)[j]? = some (some v) := by
  unfold mj_ent at h
  by_cases hj : j < (mj_av vs).length
  · rwa [List.getElem?_append_left hj] at h
  · rw [List.getElem?_append_right (by omega)] at h
    have := List.eq_of_mem_replicate (List.mem_of_getElem? h)
    cases this
/-- every method's rows stand -/
theorem mj_cfa : ∀ g, g < mj_mt.length → mj_cf g = true := by
  intro g hg
  have hg : g < 70 := hg
  rcases Nat.lt_or_ge g 35 with h | h
  · skip
    rcases Nat.lt_or_ge g 17 with h | h
    · skip
      rcases Nat.lt_or_ge g 8 with h | h
      · skip
        rcases Nat.lt_or_ge g 4 with h | h
        · skip
          rcases Nat.lt_or_ge g 2 with h | h
          · skip
            rcases Nat.lt_or_ge g 1 with h | h
            · skip
              exact (show g = 0 by omega) ▸ mj_cf0
            · skip
              exact (show g = 1 by omega) ▸ mj_cf1
          · skip
            rcases Nat.lt_or_ge g 3 with h | h
            · skip
              exact (show g = 2 by omega) ▸ mj_cf2
            · skip
              exact (show g = 3 by omega) ▸ mj_cf3
        · skip
          rcases Nat.lt_or_ge g 6 with h | h
          · skip
            rcases Nat.lt_or_ge g 5 with h | h
            · skip
              exact (show g = 4 by omega) ▸ mj_cf4
            · skip
              exact (show g = 5 by omega) ▸ mj_cf5
          · skip
            rcases Nat.lt_or_ge g 7 with h | h
            · skip
              exact (show g = 6 by omega) ▸ mj_cf6
            · skip
              exact (show g = 7 by omega) ▸ mj_cf7
      · skip
        rcases Nat.lt_or_ge g 12 with h | h
        · skip
          rcases Nat.lt_or_ge g 10 with h | h
          · skip
            rcases Nat.lt_or_ge g 9 with h | h
            · skip
              exact (show g = 8 by omega) ▸ mj_cf8
            · skip
              exact (show g = 9 by omega) ▸ mj_cf9
          · skip
            rcases Nat.lt_or_ge g 11 with h | h
            · skip
              exact (show g = 10 by omega) ▸ mj_cf10
            · skip
              exact (show g = 11 by omega) ▸ mj_cf11
        · skip
          rcases Nat.lt_or_ge g 14 with h | h
          · skip
            rcases Nat.lt_or_ge g 13 with h | h
            · skip
              exact (show g = 12 by omega) ▸ mj_cf12
            · skip
              exact (show g = 13 by omega) ▸ mj_cf13
          · skip
            rcases Nat.lt_or_ge g 15 with h | h
            · skip
              exact (show g = 14 by omega) ▸ mj_cf14
            · skip
              rcases Nat.lt_or_ge g 16 with h | h
              · skip
                exact (show g = 15 by omega) ▸ mj_cf15
              · skip
                exact (show g = 16 by omega) ▸ mj_cf16
    · skip
      rcases Nat.lt_or_ge g 26 with h | h
      · skip
        rcases Nat.lt_or_ge g 21 with h | h
        · skip
          rcases Nat.lt_or_ge g 19 with h | h
          · skip
            rcases Nat.lt_or_ge g 18 with h | h
            · skip
              exact (show g = 17 by omega) ▸ mj_cf17
            · skip
              exact (show g = 18 by omega) ▸ mj_cf18
          · skip
            rcases Nat.lt_or_ge g 20 with h | h
            · skip
              exact (show g = 19 by omega) ▸ mj_cf19
            · skip
              exact (show g = 20 by omega) ▸ mj_cf20
        · skip
          rcases Nat.lt_or_ge g 23 with h | h
          · skip
            rcases Nat.lt_or_ge g 22 with h | h
            · skip
              exact (show g = 21 by omega) ▸ mj_cf21
            · skip
              exact (show g = 22 by omega) ▸ mj_cf22
          · skip
            rcases Nat.lt_or_ge g 24 with h | h
            · skip
              exact (show g = 23 by omega) ▸ mj_cf23
            · skip
              rcases Nat.lt_or_ge g 25 with h | h
              · skip
                exact (show g = 24 by omega) ▸ mj_cf24
              · skip
                exact (show g = 25 by omega) ▸ mj_cf25
      · skip
        rcases Nat.lt_or_ge g 30 with h | h
        · skip
          rcases Nat.lt_or_ge g 28 with h | h
          · skip
            rcases Nat.lt_or_ge g 27 with h | h
            · skip
              exact (show g = 26 by omega) ▸ mj_cf26
            · skip
              exact (show g = 27 by omega) ▸ mj_cf27
          · skip
            rcases Nat.lt_or_ge g 29 with h | h
            · skip
              exact (show g = 28 by omega) ▸ mj_cf28
            · skip
              exact (show g = 29 by omega) ▸ mj_cf29
        · skip
          rcases Nat.lt_or_ge g 32 with h | h
          · skip
            rcases Nat.lt_or_ge g 31 with h | h
            · skip
              exact (show g = 30 by omega) ▸ mj_cf30
            · skip
              exact (show g = 31 by omega) ▸ mj_cf31
          · skip
            rcases Nat.lt_or_ge g 33 with h | h
            · skip
              exact (show g = 32 by omega) ▸ mj_cf32
            · skip
              rcases Nat.lt_or_ge g 34 with h | h
              · skip
                exact (show g = 33 by omega) ▸ mj_cf33
              · skip
                exact (show g = 34 by omega) ▸ mj_cf34
  · skip
    rcases Nat.lt_or_ge g 52 with h | h
    · skip
      rcases Nat.lt_or_ge g 43 with h | h
      · skip
        rcases Nat.lt_or_ge g 39 with h | h
        · skip
          rcases Nat.lt_or_ge g 37 with h | h
          · skip
            rcases Nat.lt_or_ge g 36 with h | h
            · skip
              exact (show g = 35 by omega) ▸ mj_cf35
            · skip
              exact (show g = 36 by omega) ▸ mj_cf36
          · skip
            rcases Nat.lt_or_ge g 38 with h | h
            · skip
              exact (show g = 37 by omega) ▸ mj_cf37
            · skip
              exact (show g = 38 by omega) ▸ mj_cf38
        · skip
          rcases Nat.lt_or_ge g 41 with h | h
          · skip
            rcases Nat.lt_or_ge g 40 with h | h
            · skip
              exact (show g = 39 by omega) ▸ mj_cf39
            · skip
              exact (show g = 40 by omega) ▸ mj_cf40
          · skip
            rcases Nat.lt_or_ge g 42 with h | h
            · skip
              exact (show g = 41 by omega) ▸ mj_cf41
            · skip
              exact (show g = 42 by omega) ▸ mj_cf42
      · skip
        rcases Nat.lt_or_ge g 47 with h | h
        · skip
          rcases Nat.lt_or_ge g 45 with h | h
          · skip
            rcases Nat.lt_or_ge g 44 with h | h
            · skip
              exact (show g = 43 by omega) ▸ mj_cf43
            · skip
              exact (show g = 44 by omega) ▸ mj_cf44
          · skip
            rcases Nat.lt_or_ge g 46 with h | h
            · skip
              exact (show g = 45 by omega) ▸ mj_cf45
            · skip
              exact (show g = 46 by omega) ▸ mj_cf46
        · skip
          rcases Nat.lt_or_ge g 49 with h | h
          · skip
            rcases Nat.lt_or_ge g 48 with h | h
            · skip
              exact (show g = 47 by omega) ▸ mj_cf47
            · skip
              exact (show g = 48 by omega) ▸ mj_cf48
          · skip
            rcases Nat.lt_or_ge g 50 with h | h
            · skip
              exact (show g = 49 by omega) ▸ mj_cf49
            · skip
              rcases Nat.lt_or_ge g 51 with h | h
              · skip
                exact (show g = 50 by omega) ▸ mj_cf50
              · skip
                exact (show g = 51 by omega) ▸ mj_cf51
    · skip
      rcases Nat.lt_or_ge g 61 with h | h
      · skip
        rcases Nat.lt_or_ge g 56 with h | h
        · skip
          rcases Nat.lt_or_ge g 54 with h | h
          · skip
            rcases Nat.lt_or_ge g 53 with h | h
            · skip
              exact (show g = 52 by omega) ▸ mj_cf52
            · skip
              exact (show g = 53 by omega) ▸ mj_cf53
          · skip
            rcases Nat.lt_or_ge g 55 with h | h
            · skip
              exact (show g = 54 by omega) ▸ mj_cf54
            · skip
              exact (show g = 55 by omega) ▸ mj_cf55
        · skip
          rcases Nat.lt_or_ge g 58 with h | h
          · skip
            rcases Nat.lt_or_ge g 57 with h | h
            · skip
              exact (show g = 56 by omega) ▸ mj_cf56
            · skip
              exact (show g = 57 by omega) ▸ mj_cf57
          · skip
            rcases Nat.lt_or_ge g 59 with h | h
            · skip
              exact (show g = 58 by omega) ▸ mj_cf58
            · skip
              rcases Nat.lt_or_ge g 60 with h | h
              · skip
                exact (show g = 59 by omega) ▸ mj_cf59
              · skip
                exact (show g = 60 by omega) ▸ mj_cf60
      · skip
        rcases Nat.lt_or_ge g 65 with h | h
        · skip
          rcases Nat.lt_or_ge g 63 with h | h
          · skip
            rcases Nat.lt_or_ge g 62 with h | h
            · skip
              exact (show g = 61 by omega) ▸ mj_cf61
            · skip
              exact (show g = 62 by omega) ▸ mj_cf62
          · skip
            rcases Nat.lt_or_ge g 64 with h | h
            · skip
              exact (show g = 63 by omega) ▸ mj_cf63
            · skip
              exact (show g = 64 by omega) ▸ mj_cf64
        · skip
          rcases Nat.lt_or_ge g 67 with h | h
          · skip
            rcases Nat.lt_or_ge g 66 with h | h
            · skip
              exact (show g = 65 by omega) ▸ mj_cf65
            · skip
              exact (show g = 66 by omega) ▸ mj_cf66
          · skip
            rcases Nat.lt_or_ge g 68 with h | h
            · skip
              exact (show g = 67 by omega) ▸ mj_cf67
            · skip
              rcases Nat.lt_or_ge g 69 with h | h
              · skip
                exact (show g = 68 by omega) ▸ mj_cf68
              · skip
                exact (show g = 69 by omega) ▸ mj_cf69
theorem mj_row {c : mj_C} {cc : ByteArray} {o : Nat} {rt : Option FieldType} {lp : List Nat} (h : mj_cm cc o rt lp c = true) (pc : Nat) : mj_b c pc = ([(.nop, [])], 0) ∨ mj_ck cc o rt lp (mj_b c pc).2 pc (mj_b c pc).1 = true := by
  unfold mj_b
  cases hl : c.lookup pc with
  | none => exact Or.inl rfl
  | some x =>
    right
    have hm : (pc, x) ∈ c := by
      unfold mj_cm at h
      clear h
      induction c with
      | nil => cases hl
      | cons y ys ih =>
        obtain ⟨a, b⟩ := y
        rw [List.lookup_cons] at hl
        by_cases e : pc == a
        · rw [e] at hl
          have e2 := beq_iff_eq.mp e
          subst e2
          cases hl
          exact List.mem_cons_self
        · have e3 : (pc == a) = false := by simpa using e
          rw [e3] at hl
          exact List.mem_cons_of_mem _ (ih hl)
    exact List.all_eq_true.mp h _ hm

theorem mj_sound_step {l : Launch} {D : va_G} {X : mj_X} {ρ : mj_Id → Nat} {Hb : Heap} {L : Nat} {xs : Nat → Int32} (hD : mj_Dd ρ Hb) {d : Nat}
    (hcall : ∀ (g : Nat) (vs : List mj_V) (M : mj_M) (r : Option mj_V) (N : mj_M), g < mj_mt.length → mj_fit (mj_kd.getD g []) vs = true → (∀ q : mj_Id, .inr (.inr q) ∈ vs → mj_vid q) → mj_Sp d g vs M r N → 0 < d ∧ mj_MT l D X ρ Hb L xs (d - 1) g vs M r N) :
    ∀ (g : Nat) (vs : List mj_V) (M : mj_M) (r : Option mj_V) (N : mj_M), g < mj_mt.length → mj_fit (mj_kd.getD g []) vs = true → (∀ q : mj_Id, .inr (.inr q) ∈ vs → mj_vid q) → mj_Sp (d + 1) g vs M r N → mj_MT l D X ρ Hb L xs d g vs M r N := by
  intro g vs M r N hg hfit hvid hsp
  refine Met.ofW (cc := mj_bc g) (maxL := mj_mx g) (ret := mj_rt g) (mj_gd hg).1 rfl ?_
  intro p e s m args below meth c s₁ B hml hv
  obtain ⟨rfl, hP, hK⟩ := hv
  have hts := atoms_spec (ws := mj_wsf g) B.pre
  have hlocks := B.notSynchronized
  have hr := B.returns
  have C : mj_CX p s m (vs.map (mj_rv ρ)).toArray c (mj_bc g) (mj_mx g) (mj_m g).1 D X ρ Hb L xs := ⟨B.exec, B.bytes, hml, findClass_of_methodNamed B.named, fun w hw => hts w (List.mem_cons_of_mem _ hw), hK, hD, hP.2.1⟩
  have hcf := mj_cfa g hg
  unfold mj_cf at hcf
  simp only [Bool.and_eq_true, decide_eq_true_eq] at hcf
  obtain ⟨⟨hcm, hml2⟩, -⟩ := hcf
  have hsl := List.all_eq_true.mp mj_sl_ok g (List.mem_range.mpr hg)
  simp only [Bool.and_eq_true, beq_iff_eq] at hsl
  have hlen : (mj_av vs).length ≤ mj_mx g := by rw [mj_av_len _ _ hfit]; exact Nat.le_of_ble_eq_true hsl.1
  have key := hsp (mj_GG p l e (headSpec (mj_wsf g) (mj_rm d)).room s m (vs.map (mj_rv ρ)).toArray below meth c 0 0 (MQ below (mj_Qc D X ρ Hb L xs r N) (vs.map (mj_rv ρ)).toArray s 0 0 (mj_A Hb)) (mj_mx g) (mj_lg 0 (mj_kd.getD g [])) D X ρ Hb L xs) ?_ ?_
  · rw [hml2] at key
    have hl := lv_entry (vs.map (mj_rv ρ)) (n := mj_mx g) (by rw [mj_sl_len]; exact hlen)
    rw [lg_entry_eq]
    refine key (by unfold mj_ent; rw [List.length_append, List.length_replicate]; omega) ⟨fun j q h => hvid q (mj_av_in vs j _ (mj_ent_at h)), fun j w h => ?_, fun q h => by cases h⟩ s.heap [] _ hP va_S.rf ⟨hl.1, hl.2.1, fun x hx => ?_⟩
    · have := mj_av_lg _ vs 0 j w hfit (mj_ent_at h)
      rw [Nat.zero_add] at this
      exact List.contains_iff_mem.mpr this
    · obtain ⟨v, hv1, hv2⟩ := mj_la_of hx
      have := mj_av_args (ρ := ρ) vs 0 x.1 v (mj_ent_at hv1)
      rw [Nat.zero_add, ← hv2] at this
      exact hl.2.2 x this
  · intro pc ls st M1 hw
    rcases mj_row hcm pc with h | h
    · rw [h] at hw
      exact hw.elim
    · refine mj_main C ⟨Nat.le_refl d, Nat.le_refl _⟩ ⟨Nat.le_refl _, Nat.le_refl _⟩ hcall ?_ ?_ (fun pc ls st M h => h) _ pc ls st M1 hw h
      · intro pc ls x M2 hd hrt hR hl hv H locs la hP2 hS hL
        obtain ⟨hr1, hr2⟩ := hR
        have hq : ∀ t : State, t.heap = H → s.WarmedH t.vm → mj_Qc D X ρ Hb L xs r N (vs.map (mj_rv ρ)).toArray s (.returned (some (.int x))) t := fun t ht _ => ⟨by rw [← hr1]; rfl, by rw [ht]; exact mj_P_eq hr2 hP2, hS.F ht⟩
        rcases hrt with hrt | ⟨hrt, hx⟩
        · exact W.iret C.1 C.2.1 (hr.trans hrt) hq (fun q hq => hS.2.2 q hq) hd hlocks
        · exact W.zret C.1 C.2.1 (hr.trans hrt) (by rcases hx with rfl | rfl <;> rfl) hq (fun q hq => hS.2.2 q hq) hd hlocks
      · intro pc ls M2 hd hrt hR hl hv H locs la hP2 hS hL
        obtain ⟨hr1, hr2⟩ := hR
        exact W.vret C.1 C.2.1 (hr.trans hrt) (fun t ht _ => ⟨by rw [← hr1]; rfl, by rw [ht]; exact mj_P_eq hr2 hP2, hS.F ht⟩) (fun q hq => hS.2.2 q hq) hd hlocks
  · intro pc ls st M1 M2 he h hl hv H locs la hP2 hS hL
    exact h hl hv H locs la (mj_P_eq he hP2) hS hL
theorem mj_sound {l : Launch} {D : va_G} {X : mj_X} {ρ : mj_Id → Nat} {Hb : Heap} {L : Nat} {xs : Nat → Int32} (hD : mj_Dd ρ Hb) : ∀ (d g : Nat) (vs : List mj_V) (M : mj_M) (r : Option mj_V) (N : mj_M), g < mj_mt.length → mj_fit (mj_kd.getD g []) vs = true → (∀ q : mj_Id, .inr (.inr q) ∈ vs → mj_vid q) → mj_Sp (d + 1) g vs M r N → mj_MT l D X ρ Hb L xs d g vs M r N := by
  intro d
  induction d with
  | zero => exact mj_sound_step hD (fun g vs M r N _ _ _ h => absurd h id)
  | succ d ih => exact mj_sound_step hD (fun g vs M r N h1 h2 h3 h4 => ⟨Nat.succ_pos d, ih g vs M r N h1 h2 h3 h4⟩)
end
section
/-! The constructors. -/
abbrev mk_V : Type := Int32 ⊕ Option Nat
/-- a cell: 0 an object, 1 ints, 2 arrays of ints, 3 sheets; its class; what it holds -/
abbrev mk_C : Type := Nat × Nat × List mk_V
def mk_df : List (List mk_V) := [[.inr none], [.inl 0, .inr none, .inr none, .inr none, .inr none, .inl 0, .inr none, .inr none, .inr none, .inr none, .inr none, .inr none, .inl 0, .inl 0], [.inr none, .inr none, .inl 0, .inr none, .inr none, .inr none, .inr none, .inr none, .inl 0, .inr none], [.inr none, .inl 0, .inl 0, .inl 0], [.inr none, .inr none, .inr none, .inr none], [.inr none, .inl 0], [.inr none, .inr none, .inl 0], [.inr none, .inr none, .inr none, .inr none, .inr none, .inr none, .inr none, .inr none, .inl 0]]
def mk_c0 : List (Nat × Instr × Nat × List Nat) := [(0, .aload_n 0, 1, []), (1, .invokespecial 1, 3, []), (4, .aload_n 0, 1, []), (5, .new 7, 3, [1]), (8, .dup, 1, []), (9, .invokespecial 9, 3, [1]), (12, .putfield 10, 3, [0, 0]), (15, .return_, 1, [])]
def mk_c1 : List (Nat × Instr × Nat × List Nat) := [(0, .aload_n 0, 1, []), (1, .invokespecial 3, 3, []), (4, .aload_n 0, 1, []), (5, .iconst 0, 1, []), (6, .putfield 9, 3, [1, 0]), (9, .aload_n 0, 1, []), (10, .bipush 6, 2, []), (12, .newarray .int, 2, []), (14, .putfield 15, 3, [1, 1]), (17, .aload_n 0, 1, []), (18, .bipush 6, 2, []), (20, .newarray .int, 2, []), (22, .putfield 19, 3, [1, 2]), (25, .aload_n 0, 1, []), (26, .bipush 6, 2, []), (28, .newarray .int, 2, []), (30, .putfield 22, 3, [1, 3]), (33, .aload_n 0, 1, []), (34, .bipush 6, 2, []), (36, .iconst 4, 1, []), (37, .multianewarray 25 2, 4, []), (41, .putfield 27, 3, [1, 4]), (44, .aload_n 0, 1, []), (45, .iconst 0, 1, []), (46, .putfield 30, 3, [1, 5]), (49, .aload_n 0, 1, []), (50, .iconst 4, 1, []), (51, .newarray .int, 2, []), (53, .putfield 33, 3, [1, 6]), (56, .aload_n 0, 1, []), (57, .iconst 4, 1, []), (58, .newarray .int, 2, []), (60, .putfield 36, 3, [1, 7]), (63, .aload_n 0, 1, []), (64, .iconst 4, 1, []), (65, .newarray .int, 2, []), (67, .putfield 39, 3, [1, 8]), (70, .aload_n 0, 1, []), (71, .iconst 4, 1, []), (72, .newarray .int, 2, []), (74, .putfield 42, 3, [1, 9]), (77, .aload_n 0, 1, []), (78, .bipush 25, 2, []), (80, .newarray .int, 2, []), (82, .putfield 45, 3, [1, 10]), (85, .aload_n 0, 1, []), (86, .new 48, 3, [6]), (89, .dup, 1, []), (90, .invokespecial 50, 3, [6]), (93, .putfield 51, 3, [1, 11]), (96, .aload_n 0, 1, []), (97, .iconst 0, 1, []), (98, .putfield 55, 3, [1, 12]), (101, .aload_n 0, 1, []), (102, .iconst 1, 1, []), (103, .putfield 58, 3, [1, 13]), (106, .return_, 1, [])]
def mk_c2 : List (Nat × Instr × Nat × List Nat) := [(0, .aload_n 0, 1, []), (1, .invokespecial 5, 3, []), (4, .aload_n 0, 1, []), (5, .new 11, 3, [0]), (8, .dup, 1, []), (9, .invokespecial 13, 3, [0]), (12, .putfield 14, 3, [2, 0]), (15, .aload_n 0, 1, []), (16, .bipush 7, 2, []), (18, .newarray .int, 2, []), (20, .putfield 18, 3, [2, 1]), (23, .aload_n 0, 1, []), (24, .iconst 0, 1, []), (25, .putfield 22, 3, [2, 2]), (28, .aload_n 0, 1, []), (29, .bipush 6, 2, []), (31, .bipush 64, 2, []), (33, .multianewarray 26 2, 4, []), (37, .putfield 28, 3, [2, 3]), (40, .aload_n 0, 1, []), (41, .bipush 7, 2, []), (43, .newarray .int, 2, []), (45, .putfield 31, 3, [2, 4]), (48, .aload_n 0, 1, []), (49, .iconst 4, 1, []), (50, .newarray .int, 2, []), (52, .putfield 34, 3, [2, 5]), (55, .aload_n 0, 1, []), (56, .bipush 7, 2, []), (58, .bipush 7, 2, []), (60, .multianewarray 26 2, 4, []), (64, .putfield 37, 3, [2, 6]), (67, .aload_n 0, 1, []), (68, .bipush 7, 2, []), (70, .bipush 7, 2, []), (72, .multianewarray 26 2, 4, []), (76, .putfield 40, 3, [2, 7]), (79, .aload_n 0, 1, []), (80, .iconst 0, 1, []), (81, .putfield 43, 3, [2, 8]), (84, .aload_n 0, 1, []), (85, .iconst 4, 1, []), (86, .newarray .int, 2, []), (88, .putfield 46, 3, [2, 9]), (91, .return_, 1, [])]
def mk_c3 : List (Nat × Instr × Nat × List Nat) := [(0, .aload_n 0, 1, []), (1, .invokespecial 3, 3, []), (4, .aload_n 0, 1, []), (5, .bipush 25, 2, []), (7, .newarray .int, 2, []), (9, .putfield 9, 3, [3, 0]), (12, .aload_n 0, 1, []), (13, .iconst 0, 1, []), (14, .putfield 15, 3, [3, 1]), (17, .aload_n 0, 1, []), (18, .iconst 0, 1, []), (19, .putfield 19, 3, [3, 2]), (22, .aload_n 0, 1, []), (23, .iconst 0, 1, []), (24, .putfield 23, 3, [3, 3]), (27, .return_, 1, [])]
def mk_c4 : List (Nat × Instr × Nat × List Nat) := [(0, .aload_n 0, 1, []), (1, .invokespecial 3, 3, []), (4, .aload_n 0, 1, []), (5, .new 9, 3, [0]), (8, .dup, 1, []), (9, .invokespecial 11, 3, [0]), (12, .putfield 12, 3, [4, 0]), (15, .aload_n 0, 1, []), (16, .bipush 6, 2, []), (18, .bipush 10, 2, []), (20, .multianewarray 18 2, 4, []), (24, .putfield 20, 3, [4, 1]), (27, .aload_n 0, 1, []), (28, .bipush 7, 2, []), (30, .bipush 10, 2, []), (32, .multianewarray 18 2, 4, []), (36, .putfield 23, 3, [4, 2]), (39, .aload_n 0, 1, []), (40, .bipush 6, 2, []), (42, .newarray .int, 2, []), (44, .putfield 26, 3, [4, 3]), (47, .return_, 1, [])]
def mk_c5 : List (Nat × Instr × Nat × List Nat) := [(0, .aload_n 0, 1, []), (1, .invokespecial 3, 3, []), (4, .aload_n 0, 1, []), (5, .bipush 48, 2, []), (7, .newarray .int, 2, []), (9, .putfield 9, 3, [5, 0]), (12, .aload_n 0, 1, []), (13, .iconst 0, 1, []), (14, .putfield 15, 3, [5, 1]), (17, .return_, 1, [])]
def mk_c6 : List (Nat × Instr × Nat × List Nat) := [(0, .aload_n 0, 1, []), (1, .invokespecial 3, 3, []), (4, .aload_n 0, 1, []), (5, .bipush 12, 2, []), (7, .newarray .int, 2, []), (9, .putfield 9, 3, [6, 0]), (12, .aload_n 0, 1, []), (13, .bipush 12, 2, []), (15, .newarray .int, 2, []), (17, .putfield 15, 3, [6, 1]), (20, .aload_n 0, 1, []), (21, .iconst 0, 1, []), (22, .putfield 18, 3, [6, 2]), (25, .return_, 1, [])]
def mk_c7 : List (Nat × Instr × Nat × List Nat) := [(0, .aload_n 0, 1, []), (1, .invokespecial 1, 3, []), (4, .aload_n 0, 1, []), (5, .new 7, 3, [1]), (8, .dup, 1, []), (9, .invokespecial 9, 3, [1]), (12, .putfield 10, 3, [7, 0]), (15, .aload_n 0, 1, []), (16, .new 7, 3, [1]), (19, .dup, 1, []), (20, .invokespecial 9, 3, [1]), (23, .putfield 16, 3, [7, 1]), (26, .aload_n 0, 1, []), (27, .new 19, 3, [0]), (30, .dup, 1, []), (31, .invokespecial 21, 3, [0]), (34, .putfield 22, 3, [7, 2]), (37, .aload_n 0, 1, []), (38, .new 26, 3, [4]), (41, .dup, 1, []), (42, .invokespecial 28, 3, [4]), (45, .putfield 29, 3, [7, 3]), (48, .aload_n 0, 1, []), (49, .new 33, 3, [2]), (52, .dup, 1, []), (53, .invokespecial 35, 3, [2]), (56, .putfield 36, 3, [7, 4]), (59, .aload_n 0, 1, []), (60, .new 40, 3, [5]), (63, .dup, 1, []), (64, .invokespecial 42, 3, [5]), (67, .putfield 43, 3, [7, 5]), (70, .aload_n 0, 1, []), (71, .new 47, 3, [6]), (74, .dup, 1, []), (75, .invokespecial 49, 3, [6]), (78, .putfield 50, 3, [7, 6]), (81, .aload_n 0, 1, []), (82, .iconst 4, 1, []), (83, .anewarray 54, 3, []), (86, .dup, 1, []), (87, .iconst 0, 1, []), (88, .new 54, 3, [3]), (91, .dup, 1, []), (92, .invokespecial 56, 3, [3]), (95, .aastore, 1, []), (96, .dup, 1, []), (97, .iconst 1, 1, []), (98, .new 54, 3, [3]), (101, .dup, 1, []), (102, .invokespecial 56, 3, [3]), (105, .aastore, 1, []), (106, .dup, 1, []), (107, .iconst 2, 1, []), (108, .new 54, 3, [3]), (111, .dup, 1, []), (112, .invokespecial 56, 3, [3]), (115, .aastore, 1, []), (116, .dup, 1, []), (117, .iconst 3, 1, []), (118, .new 54, 3, [3]), (121, .dup, 1, []), (122, .invokespecial 56, 3, [3]), (125, .aastore, 1, []), (126, .putfield 57, 3, [7, 7]), (129, .aload_n 0, 1, []), (130, .iconst 0, 1, []), (131, .putfield 61, 3, [7, 8]), (134, .return_, 1, [])]
def mk_cd (g : Nat) : List (Nat × Instr × Nat × List Nat) := match g with
  | 0 => mk_c0
  | 1 => mk_c1
  | 2 => mk_c2
  | 3 => mk_c3
  | 4 => mk_c4
  | 5 => mk_c5
  | 6 => mk_c6
  | 7 => mk_c7
  | _ => []
def mk_dp (g : Nat) : Nat := match g with
  | 0 => 3
  | 1 => 2
  | 2 => 4
  | 3 => 1
  | 4 => 4
  | 5 => 1
  | 6 => 1
  | 7 => 5
  | _ => 0
def mk_bc (g : Nat) : ByteArray := match g with
  | 0 => prog_2_method_1_code
  | 1 => prog_3_method_1_code
  | 2 => prog_4_method_1_code
  | 3 => prog_5_method_1_code
  | 4 => prog_6_method_1_code
  | 5 => prog_7_method_1_code
  | 6 => prog_8_method_1_code
  | 7 => prog_1_method_1_code
  | _ => ⟨#[]⟩
def mk_mx (_ : Nat) : Nat := 1
def mk_y (g : Nat) : MethodName := ⟨mj_cs_ g, "<init>", "()V"⟩
def mk_FL : List (Nat × Nat × Nat × Nat) := [(7, 10, 7, 0), (7, 16, 7, 1), (7, 22, 7, 2), (7, 29, 7, 3), (7, 36, 7, 4), (7, 43, 7, 5), (7, 50, 7, 6), (7, 57, 7, 7), (7, 61, 7, 8), (0, 10, 0, 0), (1, 9, 1, 0), (1, 15, 1, 1), (1, 19, 1, 2), (1, 22, 1, 3), (1, 27, 1, 4), (1, 30, 1, 5), (1, 33, 1, 6), (1, 36, 1, 7), (1, 39, 1, 8), (1, 42, 1, 9), (1, 45, 1, 10), (1, 51, 1, 11), (1, 55, 1, 12), (1, 58, 1, 13), (2, 14, 2, 0), (2, 18, 2, 1), (2, 22, 2, 2), (2, 28, 2, 3), (2, 31, 2, 4), (2, 34, 2, 5), (2, 37, 2, 6), (2, 40, 2, 7), (2, 43, 2, 8), (2, 46, 2, 9), (3, 9, 3, 0), (3, 15, 3, 1), (3, 19, 3, 2), (3, 23, 3, 3), (4, 12, 4, 0), (4, 20, 4, 1), (4, 23, 4, 2), (4, 26, 4, 3), (5, 9, 5, 0), (5, 15, 5, 1), (6, 9, 6, 0), (6, 15, 6, 1), (6, 18, 6, 2)]
theorem mk_FL_ok : ∀ w ∈ mk_FL.map mj_wf, w ∈ mj_WA := mj_of [230, 231, 232, 233, 234, 235, 236, 237, 238, 125, 54, 56, 58, 60, 62, 65, 67, 69, 72, 75, 78, 80, 83, 86, 163, 164, 165, 166, 167, 168, 169, 170, 171, 172, 217, 218, 219, 220, 140, 141, 142, 143, 200, 201, 41, 42, 43] (by decide +kernel) (by decide +kernel)
def mk_CL : List (Nat × Nat × String) := [(7, 7, "CloudStrings$Land"), (7, 19, "CloudStrings$Forecast"), (7, 26, "CloudStrings$Supply"), (7, 33, "CloudStrings$Laying"), (7, 40, "CloudStrings$Tape"), (7, 47, "CloudStrings$Winds"), (7, 54, "CloudStrings$Sheet"), (0, 7, "CloudStrings$Land"), (1, 25, "[[I"), (1, 48, "CloudStrings$Winds"), (2, 11, "CloudStrings$Forecast"), (2, 26, "[[I"), (4, 9, "CloudStrings$Forecast"), (4, 18, "[[I")]
theorem mk_CL_ok : ∀ w ∈ mk_CL.map (fun e => Cond.classLink (mj_cs_ e.1) e.2.1 e.2.2), w ∈ mj_WA := mj_of [27, 117, 131, 154, 194, 208, 210, 123, 33, 35, 160, 162, 137, 139] (by decide +kernel) (by decide +kernel)
theorem mk_IN_ok : ∀ w ∈ (List.range 8).map (fun g => Cond.instantiable (mj_cs_ g) (mj_cl.getD g ("", mj_T0, 0)).2.2), w ∈ mj_WA := mj_of [118, 28, 155, 212, 132, 195, 36, 20] (by decide +kernel) (by decide +kernel)
theorem mk_IT_ok : ∀ w ∈ (List.range 8).map (fun g => Cond.initialized (mj_cs_ g)), w ∈ mj_WA := mj_of [11, 9, 13, 15, 12, 14, 10, 8] (by decide +kernel) (by decide +kernel)
theorem mk_IM_ok : ∀ w ∈ (List.range 8).map (fun g => Cond.instanceMethod (mk_y g)), w ∈ mj_WA := mj_of [120, 30, 157, 214, 134, 197, 38, 22] (by decide +kernel) (by decide +kernel)
set_option maxRecDepth 100000 in
theorem mk_cw0 : Cond.code (mk_y 0) (mk_bc 0) (mk_mx 0) none ∈ mj_WA := List.mem_filter.mpr ⟨List.mem_of_getElem? (i := 121) rfl, rfl⟩
set_option maxRecDepth 100000 in
theorem mk_cw1 : Cond.code (mk_y 1) (mk_bc 1) (mk_mx 1) none ∈ mj_WA := List.mem_filter.mpr ⟨List.mem_of_getElem? (i := 31) rfl, rfl⟩
set_option maxRecDepth 100000 in
theorem mk_cw2 : Cond.code (mk_y 2) (mk_bc 2) (mk_mx 2) none ∈ mj_WA := List.mem_filter.mpr ⟨List.mem_of_getElem? (i := 158) rfl, rfl⟩
set_option maxRecDepth 100000 in
theorem mk_cw3 : Cond.code (mk_y 3) (mk_bc 3) (mk_mx 3) none ∈ mj_WA := List.mem_filter.mpr ⟨List.mem_of_getElem? (i := 215) rfl, rfl⟩
set_option maxRecDepth 100000 in
theorem mk_cw4 : Cond.code (mk_y 4) (mk_bc 4) (mk_mx 4) none ∈ mj_WA := List.mem_filter.mpr ⟨List.mem_of_getElem? (i := 135) rfl, rfl⟩
set_option maxRecDepth 100000 in
theorem mk_cw5 : Cond.code (mk_y 5) (mk_bc 5) (mk_mx 5) none ∈ mj_WA := List.mem_filter.mpr ⟨List.mem_of_getElem? (i := 198) rfl, rfl⟩
set_option maxRecDepth 100000 in
theorem mk_cw6 : Cond.code (mk_y 6) (mk_bc 6) (mk_mx 6) none ∈ mj_WA := List.mem_filter.mpr ⟨List.mem_of_getElem? (i := 39) rfl, rfl⟩
set_option maxRecDepth 100000 in
theorem mk_cw7 : Cond.code (mk_y 7) (mk_bc 7) (mk_mx 7) none ∈ mj_WA := List.mem_filter.mpr ⟨List.mem_of_getElem? (i := 23) rfl, rfl⟩
def mk_OL : List (Nat × Nat) := [(0, 1), (1, 3), (2, 5), (3, 3), (4, 3), (5, 3), (6, 3), (7, 1)]
theorem mk_OL_ok : ∀ w ∈ mk_OL.map (fun e => Cond.methodLink (mj_cs_ e.1) e.2 objectInit), w ∈ mj_WA := mj_of [122, 32, 159, 216, 136, 199, 40, 24] (by decide +kernel) (by decide +kernel)
theorem mk_OB_ok : ∀ w ∈ [Cond.instanceMethod objectInit, Cond.arrayClass .int], w ∈ mj_WA := mj_of [25, 53] (by decide +kernel) (by decide +kernel)
set_option maxRecDepth 100000 in
theorem mk_OC_ok : Cond.code objectInit ⟨#[0xb1]⟩ 1 none ∈ mj_WA := List.mem_filter.mpr ⟨List.mem_of_getElem? (i := 26) rfl, rfl⟩
/-- links of private constructors: whose file, its place there, the class -/
def mk_NL : List (Nat × Nat × Nat) := [(0, 9, 1), (1, 50, 6), (2, 13, 0), (4, 11, 0), (7, 9, 1), (7, 21, 0), (7, 28, 4), (7, 35, 2), (7, 42, 5), (7, 49, 6), (7, 56, 3)]
def mk_wN (e : Nat × Nat × Nat) : Cond := .methodLinkNest (mj_cs_ e.1) e.2.1 (mk_y e.2.2) "CloudStrings"
theorem mk_NL_ok : ∀ w ∈ mk_NL.map mk_wN, w ∈ lw_tbl := by
  intro w hw
  have h : mk_NL.map mk_wN = [124, 37, 161, 138, 29, 119, 133, 156, 196, 209, 213].filterMap (fun i => lw_tbl[i]?) := by decide +kernel
  rw [h] at hw
  obtain ⟨i, -, hi⟩ := List.mem_filterMap.mp hw
  exact List.mem_of_getElem? hi
def mk_at (h : List mk_C) (i : Nat) : mk_C := h.getD i (9, 0, [])
def mk_set (h : List mk_C) (i j : Nat) (v : mk_V) : List mk_C := h.set i ((mk_at h i).1, (mk_at h i).2.1, (mk_at h i).2.2.set j v)
/-- may the field of this type hold the value -/
def mk_okv (ty : Option FieldType) (v : mk_V) : Bool := match ty, v with
  | some .int, .inl _ => true
  | some .boolean, .inl x => x == 0
  | some (.object _), .inr (some _) => true
  | some (.array _), .inr (some _) => true
  | _, _ => false
def mk_fty (ci k : Nat) : Option FieldType := parseFieldDescriptor (mj_TT ci k).2.2.1
/-- what is there behind n steps: none if it is not through -/
def mk_go : Nat → Nat → Nat → List (Option mk_V) → List mk_V → List mk_C → Option (List mk_C)
  | 0, _, _, _, _, _ => none
  | n + 1, g, pc, ls, st, h => match (mk_cd g).lookup pc with
    | none => none
    | some (i, len, a) => match i with
      | .aload_n k => match ls[k.val]? with
        | some (some (.inr (some r))) => mk_go n g (pc + len) ls (.inr (some r) :: st) h
        | _ => none
      | .iload_n k => match ls[k.val]? with
        | some (some (.inl x)) => mk_go n g (pc + len) ls (.inl x :: st) h
        | _ => none
      | .istore_n k => match st with
        | .inl x :: st => if k.val < ls.length then mk_go n g (pc + len) (ls.set k.val (some (.inl x))) st h else none
        | _ => none
      | .iinc k c => match ls[k]? with
        | some (some (.inl x)) => mk_go n g (pc + len) (ls.set k (some (.inl (x + Int32.ofInt c)))) st h
        | _ => none
      | .iconst c => mk_go n g (pc + len) ls (.inl (Int32.ofInt c) :: st) h
      | .bipush c => mk_go n g (pc + len) ls (.inl (Int8.ofInt c).toInt32 :: st) h
      | .dup => match st with
        | .inr (some r) :: st => mk_go n g (pc + len) ls (.inr (some r) :: .inr (some r) :: st) h
        | _ => none
      | .goto off => mk_go n g ((pc : Int) + off).toNat ls st h
      | .if_icmp .ge off => match st with
        | .inl y :: .inl x :: st => if y ≤ x then mk_go n g ((pc : Int) + off).toNat ls st h else mk_go n g (pc + len) ls st h
        | _ => none
      | .new _ => match a with
        | [ci] => if ci < 8 then mk_go n g (pc + len) ls (.inr (some h.length) :: st) (h ++ [(0, ci, mk_df.getD ci [])]) else none
        | _ => none
      | .newarray .int => match st with
        | .inl x :: st => if ¬ x < 0 ∧ x.toNatClampNeg ≤ 1000 then mk_go n g (pc + len) ls (.inr (some h.length) :: st) (h ++ [(1, 0, List.replicate x.toNatClampNeg (.inl 0))]) else none
        | _ => none
      | .multianewarray _ 2 => match st with
        | .inl k :: .inl m :: st => if ¬ m < 0 ∧ ¬ k < 0 ∧ m.toNatClampNeg ≤ 1000 ∧ k.toNatClampNeg ≤ 1000 then mk_go n g (pc + len) ls (.inr (some h.length) :: st) (h ++ ((2, 0, (List.range m.toNatClampNeg).map (fun i => .inr (some (h.length + 1 + i)))) :: List.replicate m.toNatClampNeg (1, 0, List.replicate k.toNatClampNeg (.inl 0)))) else none
        | _ => none
      | .anewarray _ => match st with
        | .inl x :: st => if ¬ x < 0 ∧ x.toNatClampNeg ≤ 1000 then mk_go n g (pc + len) ls (.inr (some h.length) :: st) (h ++ [(3, 0, List.replicate x.toNatClampNeg (.inr none))]) else none
        | _ => none
      | .putfield _ => match st, a with
        | v :: .inr (some r) :: st, [ci, k] => if r < h.length ∧ (mk_at h r).1 = 0 ∧ (mk_at h r).2.1 = ci ∧ k < (mk_at h r).2.2.length ∧ mk_okv (mk_fty ci k) v = true then mk_go n g (pc + len) ls st (mk_set h r k v) else none
        | _, _ => none
      | .getfield _ => match st, a with
        | .inr (some r) :: st, [ci, k] => if r < h.length ∧ (mk_at h r).1 = 0 ∧ (mk_at h r).2.1 = ci then (match (mk_at h r).2.2[k]? with
          | some (.inr (some z)) => mk_go n g (pc + len) ls (.inr (some z) :: st) h
          | _ => none) else none
        | _, _ => none
      | .aastore => match st with
        | .inr (some v) :: .inl j :: .inr (some r) :: st => if r < h.length ∧ v < h.length ∧ (mk_at h r).1 = 3 ∧ (mk_at h v).1 = 0 ∧ (mk_at h v).2.1 = 3 ∧ ¬ j < 0 ∧ j.toNatClampNeg < (mk_at h r).2.2.length then mk_go n g (pc + len) ls st (mk_set h r j.toNatClampNeg (.inr (some v))) else none
        | _ => none
      | .iastore => match st with
        | .inl v :: .inl j :: .inr (some r) :: st => if r < h.length ∧ (mk_at h r).1 = 1 ∧ ¬ j < 0 ∧ j.toNatClampNeg < (mk_at h r).2.2.length then mk_go n g (pc + len) ls st (mk_set h r j.toNatClampNeg (.inl v)) else none
        | _ => none
      | .invokespecial _ => match a, st with
        | [], .inr (some _) :: st => if st.length ≤ 8 then mk_go n g (pc + len) ls st h else none
        | [g'], .inr (some r) :: st => if r < h.length ∧ (mk_at h r).1 = 0 ∧ (mk_at h r).2.1 = g' ∧ g' < 8 ∧ mk_dp g' < mk_dp g ∧ st.length ≤ 8 then (match mk_go n g' 0 (some (.inr (some r)) :: List.replicate (mk_mx g' - 1) none) [] h with
          | some h' => mk_go n g (pc + len) ls st h'
          | none => none) else none
        | _, _ => none
      | .return_ => match st with
        | [] => some h
        | _ => none
      | _ => none
/-- the rows against the bytes, and against the links -/
def mk_ct (g : Nat) (x : Nat × Instr × Nat × List Nat) : Bool := (match decode (mk_bc g) x.1 with
  | .ok (i, n) => decide (i = x.2.1) && n == x.2.2.1
  | _ => false) && match x.2.1 with
  | .aload_n _ => x.2.2.1 == 1
  | .iload_n _ => x.2.2.1 == 1
  | .istore_n _ => x.2.2.1 == 1
  | .iinc _ _ => x.2.2.1 == 3
  | .iconst _ => x.2.2.1 == 1
  | .bipush _ => x.2.2.1 == 2
  | .dup => x.2.2.1 == 1
  | .goto off => x.2.2.1 == 3 && decide (0 ≤ (x.1 : Int) + off)
  | .if_icmp .ge off => x.2.2.1 == 3 && decide (0 ≤ (x.1 : Int) + off)
  | .new i => x.2.2.1 == 3 && mk_CL.contains (g, i, mj_cs_ (x.2.2.2.getD 0 99))
  | .newarray _ => x.2.2.1 == 2
  | .multianewarray i _ => x.2.2.1 == 4 && mk_CL.contains (g, i, "[[I")
  | .anewarray i => x.2.2.1 == 3 && mk_CL.contains (g, i, "CloudStrings$Sheet")
  | .putfield i => x.2.2.1 == 3 && mk_FL.contains (g, i, x.2.2.2.getD 0 99, x.2.2.2.getD 1 99) && mj_cs_ (x.2.2.2.getD 0 99) == mj_cs_ g && Nat.blt (x.2.2.2.getD 1 99) (mj_cl.getD (x.2.2.2.getD 0 99) ("", mj_T0, 0)).2.2
  | .getfield i => x.2.2.1 == 3 && mk_FL.contains (g, i, x.2.2.2.getD 0 99, x.2.2.2.getD 1 99) && Nat.blt (x.2.2.2.getD 1 99) (mj_cl.getD (x.2.2.2.getD 0 99) ("", mj_T0, 0)).2.2
  | .aastore => x.2.2.1 == 1
  | .iastore => x.2.2.1 == 1
  | .invokespecial i => x.2.2.1 == 3 && (match x.2.2.2 with
    | [] => mk_OL.contains (g, i)
    | [g'] => mk_NL.contains (g, i, g')
    | _ => false)
  | .return_ => x.2.2.1 == 1
  | _ => false
def mk_cm (g : Nat) : Bool := (mk_cd g).all (mk_ct g)

/-- where each cell of mj_ids is among those made -/
def mk_ps : List Nat := [1, 2, 3, 4, 5, 6, 7, 8, 9, 10, 11, 12, 13, 14, 15, 16, 17, 18, 19, 20, 21, 22, 23, 24, 25, 26, 27, 28, 29, 30, 31, 32, 33, 34, 35, 36, 37, 38, 40, 41, 42, 43, 44, 45, 46, 47, 48, 49, 50, 51, 52, 53, 54, 55, 56, 57, 58, 61, 62, 63, 64, 65, 66, 67, 68, 69, 70, 71, 72, 73, 74, 75, 76, 77, 78, 79, 98, 99, 100, 101, 102, 103, 104, 105, 106, 107, 108, 109, 110, 111, 112, 113, 114, 115, 116, 146, 147, 148, 39, 60, 97, 59, 80, 81, 82, 83, 84, 85, 86, 87, 88, 89, 90, 91, 92, 93, 94, 95, 96, 117, 118, 119, 120, 121, 122, 123, 124, 125, 126, 127, 128, 129, 130, 131, 132, 133, 134, 135, 136, 137, 138, 139, 140, 141, 142, 143, 144, 145, 149, 150, 152, 154, 156, 151, 153, 155, 157, 0, 158]
def mk_n1 : Nat := 158
def mk_pos (q : mj_Id) : Nat := ((mj_ids.zip mk_ps).lookup q).getD 0
def mk_h0 : List mk_C := [(0, 7, mk_df.getD 7 [])]
def mk_h1 : List mk_C := (mk_go 200 7 0 [some (.inr (some 0))] [] mk_h0).getD []
theorem mk_h1_ok : mk_go 200 7 0 [some (.inr (some 0))] [] mk_h0 = some mk_h1 := by
  have h : (mk_go 200 7 0 [some (.inr (some 0))] [] mk_h0).isSome = true := by decide +kernel
  unfold mk_h1
  cases e : mk_go 200 7 0 [some (.inr (some 0))] [] mk_h0 with
  | none => rw [e] at h; cases h
  | some x => rfl
theorem mk_h1_len : mk_h1.length = mk_n1 := by decide +kernel
def mk_h2 : List mk_C := mk_h1 ++ [(1, 0, List.replicate 55 (.inl 0))]
/-- the numbers at the start: all 0, but a draw of 1 -/
def mk_M0 : mj_M := fun i t c j => if t = 0 ∧ c = 0 ∧ j = 3 ∧ i < 5 then 1 else 0
/-- the cell made at q's place is q's cell over these numbers -/
def mk_is (q : mj_Id) : Bool := let c := mk_at mk_h2 (mk_pos q)
  Nat.blt (mk_pos q) mk_h2.length && if mj_kind q.2.1 = 0 then c.1 == 0 && c.2.1 == mj_ci q.2.1 && c.2.2.length == mj_nf q.2.1 && (List.range (mj_nf q.2.1)).all (fun k => match mj_fd q k, c.2.2[k]? with
    | some (.inl l), some (.inl x) => decide (mk_M0 l.1 l.2.1 l.2.2.1 l.2.2.2 = x)
    | some (.inr q'), some (.inr (some z)) => mk_pos q' == z
    | _, _ => false)
  else if mj_kind q.2.1 = 1 then c.1 == 1 && c.2.2.length == mj_ln q && (List.range (mj_ln q)).all (fun j => match c.2.2[j]? with
    | some (.inl x) => decide (mj_rd mk_M0 q j = x)
    | _ => false)
  else c.1 == mj_kind q.2.1 && c.2.2.length == mj_ol q && (List.range (mj_ol q)).all (fun j => match mj_el q j, c.2.2[j]? with
    | some q', some (.inr (some z)) => mk_pos q' == z
    | _, _ => false)
theorem mk_is_ok : mj_ids.all mk_is = true := by decide +kernel
theorem mk_pos_nd : (mj_ids.map mk_pos).Nodup := by decide +kernel

theorem mk_ck0 : mk_cm 0 = true := by decide +kernel
theorem mk_ck1 : mk_cm 1 = true := by decide +kernel
theorem mk_ck2 : mk_cm 2 = true := by decide +kernel
theorem mk_ck3 : mk_cm 3 = true := by decide +kernel
theorem mk_ck4 : mk_cm 4 = true := by decide +kernel
theorem mk_ck5 : mk_cm 5 = true := by decide +kernel
theorem mk_ck6 : mk_cm 6 = true := by decide +kernel
theorem mk_ck7 : mk_cm 7 = true := by decide +kernel
end
section
/-! The constructors' machine over the real one. -/
def mk_rv (ad : Nat → Nat) (v : mk_V) : Value := match v with
  | .inl x => .int x
  | .inr none => .null
  | .inr (some k) => .ref (ad k)
def mk_int (vs : List mk_V) (j : Nat) : Int32 := match vs[j]? with
  | some (.inl x) => x
  | _ => 0
def mk_ref (vs : List mk_V) (j : Nat) : Option Nat := match vs[j]? with
  | some (.inr r) => r
  | _ => none
def mk_e (ad : Nat → Nat) (X : mj_X) (c : mk_C) : va_E :=
  if c.1 = 0 then .inr (c.2.1, c.2.2.map (mk_rv ad))
  else if c.1 = 1 then .inl (X.1, c.2.2.length, .inl (mk_int c.2.2))
  else .inl (if c.1 = 2 then X.2.1 else X.2.2, c.2.2.length, .inr (.inr (.inr (.inr (fun j => (mk_ref c.2.2 j).map ad)))))
def mk_ws (ad : Nat → Nat) (X : mj_X) (h : List mk_C) : va_W := (List.range h.length).map (fun i => (ad i, mk_e ad X (mk_at h i)))
def mk_wf (h : List mk_C) : Prop := ∀ c ∈ h, ∀ k : Nat, .inr (some k) ∈ c.2.2 → k < h.length
def mk_sz (h : List mk_C) : Nat := (h.map (fun c => c.2.2.length)).sum
theorem mk_at_in {h : List mk_C} {i : Nat} (hi : i < h.length) : mk_at h i ∈ h ∧ h[i]? = some (mk_at h i) := by
  unfold mk_at
  rw [List.getD_eq_getElem?_getD, List.getElem?_eq_getElem hi]
  exact ⟨List.getElem_mem hi, rfl⟩
theorem mk_ws_at {ad : Nat → Nat} {X : mj_X} {h : List mk_C} {i : Nat} (hi : i < h.length) : (mk_ws ad X h)[i]? = some (ad i, mk_e ad X (mk_at h i)) := by
  unfold mk_ws
  rw [List.getElem?_map, List.getElem?_range hi]
  rfl
theorem mk_ws_len {ad : Nat → Nat} {X : mj_X} {h : List mk_C} : (mk_ws ad X h).length = h.length := by
  unfold mk_ws
  rw [List.length_map, List.length_range]
theorem mk_ref_in {vs : List mk_V} {j k : Nat} (h : mk_ref vs j = some k) : .inr (some k) ∈ vs := by
  unfold mk_ref at h
  split at h
  · next r e => subst h; exact List.mem_of_getElem? e
  · cases h
theorem mk_e_congr {ad ad' : Nat → Nat} {X : mj_X} {c : mk_C} (h : ∀ k : Nat, .inr (some k) ∈ c.2.2 → ad k = ad' k) : mk_e ad X c = mk_e ad' X c := by
  unfold mk_e
  have e1 : c.2.2.map (mk_rv ad) = c.2.2.map (mk_rv ad') := by
    apply List.map_congr_left
    intro v hv
    rcases v with x | _ | k
    · rfl
    · rfl
    · exact congrArg Value.ref (h k hv)
  have e2 : (fun j => (mk_ref c.2.2 j).map ad) = (fun j => (mk_ref c.2.2 j).map ad') := by
    funext j
    cases hr : mk_ref c.2.2 j with
    | none => rfl
    | some k => exact congrArg some (h k (mk_ref_in hr))
  rw [e1, e2]
theorem mk_ws_ext {ad ad' : Nat → Nat} {X : mj_X} {h : List mk_C} (hw : mk_wf h) (e : ∀ k, k < h.length → ad k = ad' k) : mk_ws ad X h = mk_ws ad' X h := by
  unfold mk_ws
  apply List.map_congr_left
  intro i hi
  have hi := List.mem_range.mp hi
  rw [e i hi, mk_e_congr (fun k hk => e k (hw _ (mk_at_in hi).1 k hk))]
theorem mk_ws_app {ad : Nat → Nat} {X : mj_X} {h cs : List mk_C} : mk_ws ad X (h ++ cs) = mk_ws ad X h ++ (List.range cs.length).map (fun i => (ad (h.length + i), mk_e ad X (mk_at cs i))) := by
  unfold mk_ws
  rw [List.length_append, List.range_add, List.map_append, List.map_map]
  congr 1
  · apply List.map_congr_left
    intro i hi
    have hi := List.mem_range.mp hi
    have e : mk_at (h ++ cs) i = mk_at h i := by
      unfold mk_at
      rw [List.getD_eq_getElem?_getD, List.getD_eq_getElem?_getD, List.getElem?_append_left hi]
    rw [e]
  · apply List.map_congr_left
    intro i hi
    have e : mk_at (h ++ cs) (h.length + i) = mk_at cs i := by
      unfold mk_at
      rw [List.getD_eq_getElem?_getD, List.getD_eq_getElem?_getD, List.getElem?_append_right (by omega), show h.length + i - h.length = i by omega]
    show (ad (h.length + i), mk_e ad X (mk_at (h ++ cs) (h.length + i))) = _
    rw [e]
theorem mk_ws_set {ad : Nat → Nat} {X : mj_X} {h : List mk_C} {r : Nat} {c : mk_C} : mk_ws ad X (h.set r c) = (mk_ws ad X h).set r (ad r, mk_e ad X c) := by
  apply List.ext_getElem?
  intro i
  by_cases hi : i < h.length
  · rw [mk_ws_at (by rw [List.length_set]; exact hi)]
    by_cases e : r = i
    · subst e
      rw [List.getElem?_set_self (by rw [mk_ws_len]; exact hi)]
      have : mk_at (h.set r c) r = c := by
        unfold mk_at
        rw [List.getD_eq_getElem?_getD, List.getElem?_set_self hi]
        rfl
      rw [this]
    · rw [List.getElem?_set_ne e, mk_ws_at hi]
      have : mk_at (h.set r c) i = mk_at h i := by
        unfold mk_at
        rw [List.getD_eq_getElem?_getD, List.getD_eq_getElem?_getD, List.getElem?_set_ne e]
      rw [this]
  · rw [List.getElem?_eq_none (by rw [mk_ws_len, List.length_set]; omega), List.getElem?_eq_none (by rw [List.length_set, mk_ws_len]; omega)]
/-! what the tables say -/
def mk_AOA (U : State) : Prop := (Cond.arrayOver (.array .int)).before #[] U = true
theorem mk_AOA.moved {u U : State} (hvm : u.vm.Alike U.vm) (h : mk_AOA u) : mk_AOA U := by
  obtain ⟨comp, c, k, h1, h2, h3, h4, h5⟩ := arrayOverA_spec (t := .int) h
  obtain ⟨k', hk', he⟩ := hvm.2.2 _ _ h3
  have hi : (U.vm.classes.findIdx? fun (x : Class) => match x.kind with | .array component _ => component == comp | _ => false) = some c := by
    have e1 := va_idx_bare u.vm comp
    have e2 := va_idx_bare U.vm comp
    first | rw [hvm.bare_eq] at e1 | rw [← hvm.bare_eq] at e1
    exact e2.symm.trans (e1.trans h2)
  have hkind : k'.kind = .array comp (.array .int) := by rw [he]; exact h4
  have f1 : U.vm.findClass (FieldType.array .int).toString = some comp := by rw [hvm.findClass]; exact h1
  have f2 : U.vm.findClass ("[" ++ (FieldType.array .int).toString) = some c := by rw [hvm.findClass]; exact h5
  unfold mk_AOA Cond.before Cond.holds
  simp only [Cond.value]
  rw [f1, Option.bind_some]
  refine (congrArg (fun o : Option Nat => (o.bind (fun c => (U.vm.classes[c]?).map fun (k : Class) => match k.kind with | .array _ ty => decide (ty = FieldType.array .int) && decide (U.vm.findClass ("[" ++ (FieldType.array .int).toString) = some c) | _ => false) == some true)) hi).trans ?_
  simp [hk', hkind, f2]
def mk_K (D : va_G) (X : mj_X) (U : State) : Prop := va_K D mj_cl (mj_ty X) U ∧ va_AO "CloudStrings$Sheet" U ∧ mk_AOA U ∧ ∀ e ∈ mk_NL, va_Nw (mk_wN e) U
theorem mk_K.moved {D : va_G} {X : mj_X} {u U : State} (hW : u.WarmedH U.vm) (h : mk_K D X u) : mk_K D X U :=
  ⟨va_K.moved hW.alike h.1, h.2.1.moved hW.alike, h.2.2.1.moved hW.alike, fun e he => va_Nw.warmM hW (h.2.2.2 e he)⟩
theorem mk_K.same {D : va_G} {X : mj_X} {u U : State} (hv : u.vm = U.vm) (h : mk_K D X u) : mk_K D X U :=
  have ha : u.vm.Alike U.vm := hv ▸ Vm.Alike.refl u.vm
  ⟨va_K.moved ha h.1, h.2.1.moved ha, h.2.2.1.moved ha, fun e he => va_Nw.same rfl hv (h.2.2.2 e he)⟩
def mk_wsf (g : Nat) : List Cond := Cond.code (mk_y g) (mk_bc g) (mk_mx g) none :: mj_WA
def mk_rm (g mc ms : Nat) : Room := { frames := mk_dp g, cells := mc, slots := ms, locals := 30 * mk_dp g }
def mk_Pc (D : va_G) (X : mj_X) (Hb : Heap) (ad : Nat → Nat) (h : List mk_C) (r : Nat) : Array Value → State → Prop := fun v U => v = #[.ref (ad r)] ∧ va_P D mj_cl (mk_ws ad X h) U.heap ∧ va_D (mj_A Hb) (mk_ws ad X h) ∧ va_S (mj_A Hb) Hb U.heap [] ∧ mk_K D X U
def mk_Qc (D : va_G) (X : mj_X) (Hb : Heap) (ad : Nat → Nat) (n : Nat) (h' : List mk_C) : Array Value → State → Outcome → State → Prop := fun _ st o t => o = .returned none ∧ (∃ ad' : Nat → Nat, (∀ k, k < n → ad' k = ad k) ∧ va_P D mj_cl (mk_ws ad' X h') t.heap ∧ va_D (mj_A Hb) (mk_ws ad' X h')) ∧ va_F (mj_A Hb) st t
def mk_MT (l : Launch) (D : va_G) (X : mj_X) (Hb : Heap) (ad : Nat → Nat) (g r : Nat) (h h' : List mk_C) : Prop :=
  Met l (mk_y g) (mk_wsf g) (mk_rm g (h'.length - h.length) (mk_sz h' - mk_sz h)) (mk_Pc D X Hb ad h r) (mk_Qc D X Hb ad h.length h') (h'.length - h.length) (mk_sz h' - mk_sz h) (mj_A Hb)
theorem mk_blind {D : va_G} {X : mj_X} {Hb : Heap} {ad : Nat → Nat} {h : List mk_C} {r : Nat} : FrameBlind (mk_Pc D X Hb ad h r) := fun a U g mk q => ⟨q.1, q.2.1, q.2.2.1, q.2.2.2.1, mk_K.same (u := U) (U := U.calling g mk a) rfl q.2.2.2.2⟩
/-! the size never falls, the cells stay well formed -/
def mk_vs (n : Nat) (ls : List (Option mk_V)) (st : List mk_V) : Prop := (∀ k : Nat, some (.inr (some k)) ∈ ls → k < n) ∧ ∀ k : Nat, .inr (some k) ∈ st → k < n
def mk_iv (ls : List (Option mk_V)) (st : List mk_V) (h : List mk_C) : Prop := mk_vs h.length ls st ∧ mk_wf h
theorem mk_sz_app (h cs : List mk_C) : mk_sz (h ++ cs) = mk_sz h + mk_sz cs := by
  unfold mk_sz
  rw [List.map_append, List.sum_append]
theorem mk_vs.le {n m : Nat} {ls : List (Option mk_V)} {st : List mk_V} (h : mk_vs n ls st) (e : n ≤ m) : mk_vs m ls st := ⟨fun k hk => Nat.lt_of_lt_of_le (h.1 k hk) e, fun k hk => Nat.lt_of_lt_of_le (h.2 k hk) e⟩
theorem mk_wf_app {h cs : List mk_C} (hw : mk_wf h) (hc : ∀ c ∈ cs, ∀ k : Nat, .inr (some k) ∈ c.2.2 → k < h.length + cs.length) : mk_wf (h ++ cs) := by
  intro c hm k hk
  rw [List.length_append]
  rcases List.mem_append.mp hm with z | z
  · exact Nat.lt_of_lt_of_le (hw c z k hk) (Nat.le_add_right _ _)
  · exact hc c z k hk
theorem mk_wf_set {h : List mk_C} {r j : Nat} {v : mk_V} (hw : mk_wf h) (hr : r < h.length) (hv : ∀ k, v = .inr (some k) → k < h.length) : mk_wf (mk_set h r j v) := by
  intro c hm k hk
  unfold mk_set at hm ⊢
  rw [List.length_set]
  rcases List.mem_or_eq_of_mem_set hm with z | z
  · exact hw c z k hk
  · subst z
    rcases List.mem_or_eq_of_mem_set hk with y | y
    · exact hw _ (mk_at_in hr).1 k y
    · exact hv k y.symm
theorem mk_set_len {h : List mk_C} {r j : Nat} {v : mk_V} : (mk_set h r j v).length = h.length := by
  unfold mk_set
  rw [List.length_set]
theorem mk_sz_set {h : List mk_C} {r j : Nat} {v : mk_V} (hr : r < h.length) : mk_sz (mk_set h r j v) = mk_sz h := by
  have e : (mk_set h r j v).map (fun c => c.2.2.length) = h.map (fun c => c.2.2.length) := by
    apply List.ext_getElem?
    intro i
    rw [List.getElem?_map, List.getElem?_map]
    unfold mk_set
    by_cases e : r = i
    · subst e
      rw [List.getElem?_set_self hr, (mk_at_in hr).2]
      simp
    · rw [List.getElem?_set_ne e]
  unfold mk_sz
  rw [e]
theorem mk_df_ok : (List.range 8).all (fun g => (mk_df.getD g []).all (fun v => match v with
    | .inr (some _) => false
    | _ => true) && (mk_df.getD g []).length == (mj_cl.getD g ("", mj_T0, 0)).2.2) = true := by decide +kernel
theorem mk_df_no {g : Nat} (hg : g < 8) : (∀ k : Nat, (.inr (some k) : mk_V) ∈ mk_df.getD g [] → False) ∧ (mk_df.getD g []).length = (mj_cl.getD g ("", mj_T0, 0)).2.2 := by
  have h := List.all_eq_true.mp mk_df_ok g (List.mem_range.mpr hg)
  simp only [Bool.and_eq_true, beq_iff_eq] at h
  refine ⟨fun k hk => ?_, h.2⟩
  have := List.all_eq_true.mp h.1 _ hk
  cases this
theorem mk_inv : ∀ (n g pc : Nat) (ls : List (Option mk_V)) (st : List mk_V) (h h' : List mk_C), mk_go n g pc ls st h = some h' → mk_iv ls st h → mk_wf h' ∧ h.length ≤ h'.length ∧ mk_sz h ≤ mk_sz h'
  | 0, g, pc, ls, st, h, h', e, _ => by cases e
  | n + 1, g, pc, ls, st, h, h', e, ⟨⟨iv1, iv2⟩, iv3⟩ => by
    have ih := mk_inv n
    unfold mk_go at e
    split at e
    · cases e
    · next i len a hl =>
      split at e
      · next k => 
        split at e
        · next r hr => exact ih _ _ _ _ _ _ e ⟨⟨iv1, fun k hk => (List.mem_cons.mp hk).elim (fun z => by cases z; exact iv1 _ (List.mem_of_getElem? hr)) (fun z => iv2 k z)⟩, iv3⟩
        · cases e
      · next k =>
        split at e
        · next x hr => exact ih _ _ _ _ _ _ e ⟨⟨iv1, fun k hk => (List.mem_cons.mp hk).elim (fun z => by cases z) (fun z => iv2 k z)⟩, iv3⟩
        · cases e
      · next k =>
        split at e
        · next x st =>
          split at e
          · refine ih _ _ _ _ _ _ e ⟨⟨fun k hk => ?_, fun k hk => iv2 k (List.mem_cons_of_mem _ hk)⟩, iv3⟩
            rcases List.mem_or_eq_of_mem_set hk with z | z
            · exact iv1 k z
            · cases z
          · cases e
        · cases e
      · next k c =>
        split at e
        · next x hx =>
          refine ih _ _ _ _ _ _ e ⟨⟨fun k hk => ?_, iv2⟩, iv3⟩
          rcases List.mem_or_eq_of_mem_set hk with z | z
          · exact iv1 k z
          · cases z
        · cases e
      · next c => exact ih _ _ _ _ _ _ e ⟨⟨iv1, fun k hk => (List.mem_cons.mp hk).elim (fun z => by cases z) (fun z => iv2 k z)⟩, iv3⟩
      · next c => exact ih _ _ _ _ _ _ e ⟨⟨iv1, fun k hk => (List.mem_cons.mp hk).elim (fun z => by cases z) (fun z => iv2 k z)⟩, iv3⟩
      · split at e
        · next r st => exact ih _ _ _ _ _ _ e ⟨⟨iv1, fun k hk => (List.mem_cons.mp hk).elim (fun z => by cases z; exact iv2 _ List.mem_cons_self) (fun z => iv2 k z)⟩, iv3⟩
        · cases e
      · exact ih _ _ _ _ _ _ e ⟨⟨iv1, iv2⟩, iv3⟩
      · split at e
        · next y x st =>
          split at e
          · exact ih _ _ _ _ _ _ e ⟨⟨iv1, fun k hk => iv2 k (by simp [hk])⟩, iv3⟩
          · exact ih _ _ _ _ _ _ e ⟨⟨iv1, fun k hk => iv2 k (by simp [hk])⟩, iv3⟩
        · cases e
      · split at e
        · next ci =>
          split at e
          · next hci =>
            obtain ⟨g1, g2, g3⟩ := ih _ _ _ _ _ _ e ⟨⟨fun k hk => by rw [List.length_append]; have := iv1 k hk; omega, fun k hk => by
              rw [List.length_append]
              rcases List.mem_cons.mp hk with z | z
              · cases z; show h.length < h.length + 1; omega
              · have := iv2 k z; omega⟩, mk_wf_app iv3 (fun c hc k hk => by
                rw [List.mem_singleton.mp hc] at hk
                exact ((mk_df_no hci).1 k hk).elim)⟩
            rw [List.length_append] at g2
            rw [mk_sz_app] at g3
            exact ⟨g1, by omega, by omega⟩
          · cases e
        · cases e
      · split at e
        · next x st =>
          split at e
          · obtain ⟨g1, g2, g3⟩ := ih _ _ _ _ _ _ e ⟨⟨fun k hk => by rw [List.length_append]; have := iv1 k hk; omega, fun k hk => by
              rw [List.length_append]
              rcases List.mem_cons.mp hk with z | z
              · cases z; show h.length < h.length + 1; omega
              · have := iv2 k (List.mem_cons_of_mem _ z); omega⟩, mk_wf_app iv3 (fun c hc k hk => by
                rw [List.mem_singleton.mp hc] at hk
                have := List.eq_of_mem_replicate hk
                cases this)⟩
            rw [List.length_append] at g2
            rw [mk_sz_app] at g3
            exact ⟨g1, by omega, by omega⟩
          · cases e
        · cases e
      · split at e
        · next k m st =>
          split at e
          · obtain ⟨g1, g2, g3⟩ := ih _ _ _ _ _ _ e ⟨⟨fun k hk => by rw [List.length_append]; have := iv1 k hk; omega, fun k hk => by
              rw [List.length_append]
              rcases List.mem_cons.mp hk with z | z
              · cases z; rw [List.length_cons]; omega
              · have := iv2 k (by simp [z]); omega⟩, mk_wf_app iv3 (fun c hc k hk => by
                rw [List.length_cons, List.length_replicate]
                rcases List.mem_cons.mp hc with z | z
                · subst z
                  obtain ⟨i, hi, hik⟩ := List.mem_map.mp hk
                  have hi := List.mem_range.mp hi
                  cases hik
                  omega
                · have := List.eq_of_mem_replicate z
                  subst this
                  have := List.eq_of_mem_replicate hk
                  cases this)⟩
            rw [List.length_append] at g2
            rw [mk_sz_app] at g3
            exact ⟨g1, by omega, by omega⟩
          · cases e
        · cases e
      · split at e
        · next x st =>
          split at e
          · obtain ⟨g1, g2, g3⟩ := ih _ _ _ _ _ _ e ⟨⟨fun k hk => by rw [List.length_append]; have := iv1 k hk; omega, fun k hk => by
              rw [List.length_append]
              rcases List.mem_cons.mp hk with z | z
              · cases z; show h.length < h.length + 1; omega
              · have := iv2 k (List.mem_cons_of_mem _ z); omega⟩, mk_wf_app iv3 (fun c hc k hk => by
                rw [List.mem_singleton.mp hc] at hk
                have := List.eq_of_mem_replicate hk
                cases this)⟩
            rw [List.length_append] at g2
            rw [mk_sz_app] at g3
            exact ⟨g1, by omega, by omega⟩
          · cases e
        · cases e
      · split at e
        · next v r st ci k =>
          split at e
          · next hc =>
            obtain ⟨g1, g2, g3⟩ := ih _ _ _ _ _ _ e ⟨⟨fun k hk => by rw [mk_set_len]; exact iv1 k hk, fun k hk => by rw [mk_set_len]; exact iv2 k (by simp [hk])⟩, mk_wf_set iv3 hc.1 (fun k hk => iv2 k (by simp [hk]))⟩
            rw [mk_set_len] at g2
            rw [mk_sz_set hc.1] at g3
            exact ⟨g1, g2, g3⟩
          · cases e
        · cases e
      · split at e
        · next r st ci k =>
          split at e
          · next hc =>
            split at e
            · next z hz => exact ih _ _ _ _ _ _ e ⟨⟨iv1, fun k hk => (List.mem_cons.mp hk).elim (fun y => by cases y; exact iv3 _ (mk_at_in hc.1).1 _ (List.mem_of_getElem? hz)) (fun y => iv2 k (List.mem_cons_of_mem _ y))⟩, iv3⟩
            · cases e
          · cases e
        · cases e
      · split at e
        · next v j r st =>
          split at e
          · next hc =>
            obtain ⟨g1, g2, g3⟩ := ih _ _ _ _ _ _ e ⟨⟨fun k hk => by rw [mk_set_len]; exact iv1 k hk, fun k hk => by rw [mk_set_len]; exact iv2 k (by simp [hk])⟩, mk_wf_set iv3 hc.1 (fun k hk => by cases hk; exact hc.2.1)⟩
            rw [mk_set_len] at g2
            rw [mk_sz_set hc.1] at g3
            exact ⟨g1, g2, g3⟩
          · cases e
        · cases e
      · split at e
        · next v j r st =>
          split at e
          · next hc =>
            obtain ⟨g1, g2, g3⟩ := ih _ _ _ _ _ _ e ⟨⟨fun k hk => by rw [mk_set_len]; exact iv1 k hk, fun k hk => by rw [mk_set_len]; exact iv2 k (by simp [hk])⟩, mk_wf_set iv3 hc.1 (fun k hk => by cases hk)⟩
            rw [mk_set_len] at g2
            rw [mk_sz_set hc.1] at g3
            exact ⟨g1, g2, g3⟩
          · cases e
        · cases e
      · split at e
        · next r st =>
          split at e
          · exact ih _ _ _ _ _ _ e ⟨⟨iv1, fun k hk => iv2 k (List.mem_cons_of_mem _ hk)⟩, iv3⟩
          · cases e
        · next g' r st =>
          split at e
          · next hc =>
            split at e
            · next h1 e1 =>
              obtain ⟨a1, a2, a3⟩ := ih _ _ _ _ _ _ e1 ⟨⟨fun k hk => (List.mem_cons.mp hk).elim (fun z => by cases z; exact hc.1) (fun z => by cases (List.eq_of_mem_replicate z)), fun k hk => by cases hk⟩, iv3⟩
              obtain ⟨g1, g2, g3⟩ := ih _ _ _ _ _ _ e ⟨⟨fun k hk => Nat.lt_of_lt_of_le (iv1 k hk) a2, fun k hk => Nat.lt_of_lt_of_le (iv2 k (List.mem_cons_of_mem _ hk)) a2⟩, a1⟩
              exact ⟨g1, Nat.le_trans a2 g2, Nat.le_trans a3 g3⟩
            · cases e
          · cases e
        · cases e
      · split at e
        · cases e; exact ⟨iv3, Nat.le_refl _, Nat.le_refl _⟩
        · cases e
      · cases e
end
section

/-! one step of a constructor on the real machine -/
def mk_CX (p : Program) (s : State) (m : MethodId) (args : Array Value) (meth : Method) (c : Code) (g : Nat) (D : va_G) (X : mj_X) (Hb : Heap) : Prop :=
  p.tables.exec = Jvm.exec ∧ c.code = mk_bc g ∧ c.maxLocals = mk_mx g ∧ s.vm.findClass (mj_cs_ g) = some m.cls ∧ (∀ w ∈ mj_WA, w.before args s = true) ∧ mk_K D X s ∧ va_S (mj_A Hb) Hb s.heap [] ∧ meth.name = "<init>"
def mk_la (ad : Nat → Nat) (ls : List (Option mk_V)) : List (Nat × Value) := (List.range ls.length).filterMap (fun i => match ls[i]? with
  | some (some v) => some (i, mk_rv ad v)
  | _ => none)
theorem mk_la_in {ad : Nat → Nat} {ls : List (Option mk_V)} {i : Nat} {v : mk_V} (h : ls[i]? = some (some v)) : (i, mk_rv ad v) ∈ mk_la ad ls :=
  List.mem_filterMap.mpr ⟨i, List.mem_range.mpr (List.getElem?_eq_some_iff.mp h).1, by rw [h]⟩
theorem mk_la_of {ad : Nat → Nat} {ls : List (Option mk_V)} {x : Nat × Value} (h : x ∈ mk_la ad ls) : ∃ v, ls[x.1]? = some (some v) ∧ x.2 = mk_rv ad v := by
  obtain ⟨i, -, hi⟩ := List.mem_filterMap.mp h
  split at hi
  · next v hv => cases hi; exact ⟨v, hv, rfl⟩
  · cases hi
theorem mk_la_at {ad : Nat → Nat} {ls : List (Option mk_V)} {la : Array Slot} {nL i : Nat} {v : mk_V} (h : lv_has la nL (mk_la ad ls)) (hv : ls[i]? = some (some v)) : la[i]? = some (.val (mk_rv ad v)) := h.2.2 _ (mk_la_in hv)
theorem mk_cat1 {ad : Nat → Nat} {v : mk_V} : (mk_rv ad v).category = 1 := by
  rcases v with x | _ | k <;> rfl
theorem mk_store {ad : Nat → Nat} {ls : List (Option mk_V)} {la : Array Slot} {nL i : Nat} {v : mk_V} (h : lv_has la nL ((i, mk_rv ad v) :: (mk_la ad ls).filter (fun q => !(q.1 == i) && !(q.1 + 1 == i && q.2.category == 2)))) : lv_has la nL (mk_la ad (ls.set i (some v))) := by
  refine ⟨h.1, h.2.1, fun x hx => ?_⟩
  obtain ⟨w, hw, hxw⟩ := mk_la_of hx
  obtain ⟨j, y⟩ := x
  dsimp only at hw hxw
  subst hxw
  by_cases e : i = j
  · subst e
    have hi : i < ls.length := by
      have := (List.getElem?_eq_some_iff.mp hw).1
      rwa [List.length_set] at this
    rw [List.getElem?_set_self hi] at hw
    cases hw
    exact h.2.2 _ List.mem_cons_self
  · rw [List.getElem?_set_ne e] at hw
    refine h.2.2 _ (List.mem_cons_of_mem _ (List.mem_filter.mpr ⟨mk_la_in hw, ?_⟩))
    simp only [Bool.and_eq_true, Bool.not_eq_true', beq_eq_false_iff_ne, ne_eq, Bool.and_eq_false_iff]
    exact ⟨fun z => e z.symm, Or.inr (by rw [mk_cat1]; decide)⟩
theorem mk_fmc {α β : Type} {f g : α → Option β} : ∀ (l : List α), (∀ x ∈ l, f x = g x) → l.filterMap f = l.filterMap g
  | [], _ => rfl
  | x :: l, h => by
    rw [List.filterMap_cons, List.filterMap_cons, h x List.mem_cons_self, mk_fmc l (fun y hy => h y (List.mem_cons_of_mem _ hy))]
theorem mk_la_ext {ad ad' : Nat → Nat} {ls : List (Option mk_V)} {n : Nat} (hv : ∀ k : Nat, some (.inr (some k)) ∈ ls → k < n) (e : ∀ k, k < n → ad' k = ad k) : mk_la ad' ls = mk_la ad ls := by
  unfold mk_la
  apply mk_fmc
  intro i _
  cases hl : ls[i]? with
  | none => rfl
  | some o =>
    cases o with
    | none => rfl
    | some v =>
      rcases v with x | _ | k
      · rfl
      · rfl
      · show some (i, Value.ref (ad' k)) = some (i, Value.ref (ad k))
        rw [e k (hv k (List.mem_of_getElem? hl))]
theorem mk_st_ext {ad ad' : Nat → Nat} {st : List mk_V} {n : Nat} (hv : ∀ k : Nat, .inr (some k) ∈ st → k < n) (e : ∀ k, k < n → ad' k = ad k) : st.map (mk_rv ad') = st.map (mk_rv ad) := by
  apply List.map_congr_left
  intro v hm
  rcases v with x | _ | k
  · rfl
  · rfl
  · show Value.ref (ad' k) = Value.ref (ad k)
    rw [e k (hv k hm)]
theorem mk_cat_sum {ad : Nat → Nat} {st : List mk_V} : ((st.map (mk_rv ad)).map fun v => v.category).sum = st.length := by
  induction st with
  | nil => rfl
  | cons v r ih =>
    rw [List.map_cons, List.map_cons, List.sum_cons, ih, mk_cat1, List.length_cons, Nat.add_comm]
def mk_GG (p : Program) (l : Launch) (e : Env) (R : Room) (s : State) (m : MethodId) (args : Array Value) (below : List Frame) (meth : Method) (c : Code) (Q : State → Prop) (nL : Nat) (D : va_G) (X : mj_X) (Hb : Heap) (ad0 : Nat → Nat) (h0 sz0 : Nat) (pc : Nat) (ls : List (Option mk_V)) (st : List mk_V) (h : List mk_C) : Prop :=
  ls.length = nL → mk_iv ls st h → h0 ≤ h.length → sz0 ≤ mk_sz h → ∀ (ad : Nat → Nat) (H : Heap) (locs : List Loc) (la : Array Slot), (∀ k, k < h0 → ad k = ad0 k) → va_P D mj_cl (mk_ws ad X h) H → va_D (mj_A Hb) (mk_ws ad X h) → va_S (mj_A Hb) s.heap H locs → lv_has la nL (mk_la ad ls) →
  W p l e R s m args below meth c H locs (h.length - h0) (mk_sz h - sz0) Q (F0 m pc la (st.map (mk_rv ad)))
theorem mk_okv_of {ty : Option FieldType} {v : mk_V} {ad : Nat → Nat} (h : mk_okv ty v = true) : ∃ t, ty = some t ∧ narrow t (mk_rv ad v) = mk_rv ad v ∧ fits t (mk_rv ad v) = true := by
  unfold mk_okv at h
  split at h
  · exact ⟨_, rfl, rfl, rfl⟩
  · next x =>
    rw [beq_iff_eq] at h
    subst h
    exact ⟨_, rfl, rfl, rfl⟩
  · exact ⟨_, rfl, rfl, rfl⟩
  · exact ⟨_, rfl, rfl, rfl⟩
  · cases h
theorem mk_df_v : (List.range 8).all (fun g => (List.range (mj_cl.getD g ("", mj_T0, 0)).2.2).all (fun j => decide (defaultValue ((mk_fty g j).getD .int) = mk_rv (fun _ => 0) ((mk_df.getD g []).getD j (.inl 0))))) = true := by decide +kernel
theorem mk_decl : (List.range 8).all (fun g => (List.range (mj_cl.getD g ("", mj_T0, 0)).2.2).all (fun j => (mj_TT g j).1 == mj_cs_ g)) = true := by decide +kernel
theorem mk_rv_no {ad : Nat → Nat} {v : mk_V} (h : ∀ k, v ≠ .inr (some k)) : mk_rv ad v = mk_rv (fun _ => 0) v := by
  rcases v with x | _ | k
  · rfl
  · rfl
  · exact absurd rfl (h k)
section MK
variable {p : Program} {l : Launch} {e : Env} {R : Room} {s : State} {m : MethodId} {args : Array Value} {below : List Frame} {meth : Method} {c : Code} {Q : State → Prop}
variable {g nL : Nat} {D : va_G} {X : mj_X} {Hb : Heap} {ad0 : Nat → Nat} {h0 sz0 pc : Nat} {ls : List (Option mk_V)} {st : List mk_V} {h : List mk_C}

theorem mk_hA (C : mk_CX p s m args meth c g D X Hb) : ∀ q : Nat, s.heap.size ≤ q → mj_A Hb q := fun q hq => Nat.le_trans C.2.2.2.2.2.2.1.1 hq
/-- going on behind new cells -/
theorem mk_more {cs : List mk_C} {ad ad' : Nat → Nat} {H : Heap} {locs : List Loc} {la : Array Slot} {st' : List mk_V} {cells slots pc' : Nat} (K : mk_GG p l e R s m args below meth c Q nL D X Hb ad0 h0 sz0 pc' ls st' (h ++ cs)) (hl : ls.length = nL) (hv : mk_iv ls st h) (hv' : mk_iv ls st' (h ++ cs)) (g1 : h0 ≤ h.length) (g2 : sz0 ≤ mk_sz h) (ha : ∀ k, k < h0 → ad k = ad0 k) (he : ∀ k, k < h.length → ad' k = ad k)
    (hP : va_P D mj_cl (mk_ws ad' X (h ++ cs)) H) (hD : va_D (mj_A Hb) (mk_ws ad' X (h ++ cs))) (hS : va_S (mj_A Hb) s.heap H locs) (hL : lv_has la nL (mk_la ad ls)) (hc : cells = h.length - h0 + cs.length) (hs : slots = mk_sz h - sz0 + mk_sz cs) : W p l e R s m args below meth c H locs cells slots Q (F0 m pc' la (st'.map (mk_rv ad'))) := by
  refine W.cs (cells' := (h ++ cs).length - h0) (slots' := mk_sz (h ++ cs) - sz0) (by rw [hc, List.length_append]; omega) (by rw [hs, mk_sz_app]; omega) ?_
  exact K hl hv' (by rw [List.length_append]; omega) (by rw [mk_sz_app]; omega) ad' H locs la (fun k hk => (he k (by omega)).trans (ha k hk)) hP hD hS (by rw [mk_la_ext hv.1.1 he]; exact hL)
theorem nk_new (C : mk_CX p s m args meth c g D X Hb) {i ci : Nat} (hg : ci < 8) (hd : decode (mk_bc g) pc = .ok (.new i, 3)) (hcl : mk_CL.contains (g, i, mj_cs_ ci) = true) (hR : (h ++ [(0, ci, mk_df.getD ci [])]).length - h0 ≤ R.cells ∧ mk_sz (h ++ [(0, ci, mk_df.getD ci [])]) - sz0 ≤ R.slots)
    (K : mk_GG p l e R s m args below meth c Q nL D X Hb ad0 h0 sz0 (pc + 3) ls (.inr (some h.length) :: st) (h ++ [(0, ci, mk_df.getD ci [])])) : mk_GG p l e R s m args below meth c Q nL D X Hb ad0 h0 sz0 pc ls st h := by
  intro hl hv g1 g2 ad H locs la ha hP hD hS hL
  obtain ⟨Cn, T, N, hc, hT, hN, hcn⟩ := mj_cl_at hg
  have hdf := mk_df_no hg
  have hno : ∀ v ∈ mk_df.getD ci [], ∀ k, v ≠ .inr (some k) := fun v hm k e => hdf.1 k (e ▸ hm)
  have hw1 : Cond.classLink (mj_cs_ g) i Cn ∈ mj_WA := hcn ▸ mk_CL_ok _ (List.mem_map.mpr ⟨_, List.contains_iff_mem.mp hcl, rfl⟩)
  have hw2 : Cond.instantiable Cn N ∈ mj_WA := by
    have := mk_IN_ok _ (List.mem_map.mpr ⟨ci, List.mem_range.mpr hg, rfl⟩)
    rwa [hcn, hN] at this
  have hw3 : Cond.initialized Cn ∈ mj_WA := hcn ▸ mk_IT_ok _ (List.mem_map.mpr ⟨ci, List.mem_range.mpr hg, rfl⟩)
  have hdv := List.all_eq_true.mp mk_df_v ci (List.mem_range.mpr hg)
  generalize mk_df.getD ci [] = dl at hR K hdf hno hdv ⊢
  have hsz : mk_sz [(0, ci, dl)] = N := by rw [← hN, ← hdf.2]; simp [mk_sz]
  rw [List.length_append, mk_sz_app, hsz] at hR
  have h1 : ([(0, ci, dl)] : List mk_C).length = 1 := rfl
  rw [h1] at hR
  refine va_new (ci := ci) (fs := (dl).map (mk_rv ad)) C.1 C.2.1 C.2.2.2.2.1 (mj_cl_u _ (List.mem_of_getElem? hc)) (fun j => (parseFieldDescriptor (T j).2.2.1).getD .int) (mj_cl_t _ (List.mem_of_getElem? hc)) C.2.2.2.1 (C.2.2.2.2.1 _ hw1) (C.2.2.2.2.1 _ hw2) (C.2.2.2.2.1 _ hw3) C.2.2.2.2.2.1.1 hP hD hS (mk_hA C) hc (fun j hj => ?_) (by omega) (by show _ + N ≤ _; omega) hd (fun q H1 hP1 hD1 hS1 => ?_)
  · have h2 := of_decide_eq_true (List.all_eq_true.mp hdv j (List.mem_range.mpr (by rw [hN]; exact hj)))
    unfold mk_fty at h2
    rw [hT] at h2
    rw [h2]
    unfold vp_V
    rw [List.getD_eq_getElem?_getD, List.getD_eq_getElem?_getD, List.getElem?_map]
    have hjl : j < (dl).length := by rw [hdf.2, hN]; exact hj
    rw [List.getElem?_eq_getElem hjl]
    exact (mk_rv_no (hno _ (List.getElem_mem hjl))).symm
  · have he : ∀ k, k < h.length → (fun k => if k = h.length then q else ad k) k = ad k := fun k hk => if_neg (by omega)
    have ews : mk_ws (fun k => if k = h.length then q else ad k) X (h ++ [(0, ci, dl)]) = mk_ws ad X h ++ [(q, .inr (ci, (dl).map (mk_rv ad)))] := by
      rw [mk_ws_app, ← mk_ws_ext hv.2 (fun k hk => (he k hk).symm)]
      have e2 : (dl).map (mk_rv (fun k => if k = h.length then q else ad k)) = (dl).map (mk_rv ad) := by
        apply List.map_congr_left
        intro v hm
        exact (mk_rv_no (hno v hm)).trans (mk_rv_no (hno v hm)).symm
      rw [← e2]
      simp [mk_at, mk_e, List.range_succ]
    have hfin := mk_more (cs := [(0, ci, dl)]) (ad := ad) (ad' := fun k => if k = h.length then q else ad k) (cells := h.length - h0 + 1) (slots := mk_sz h - sz0 + N) K hl hv ?_ g1 g2 ha he (by rw [ews]; exact hP1) (by rw [ews]; exact hD1) hS1 hL rfl (by rw [hsz])
    · rw [List.map_cons, mk_st_ext hv.1.2 he] at hfin
      have e3 : mk_rv (fun k => if k = h.length then q else ad k) (.inr (some h.length)) = .ref q := by
        show Value.ref (if h.length = h.length then q else ad h.length) = .ref q
        rw [if_pos rfl]
      rw [e3] at hfin
      exact hfin
    · refine ⟨⟨fun k hk => by rw [List.length_append]; have := hv.1.1 k hk; omega, fun k hk => ?_⟩, mk_wf_app hv.2 (fun x hx k hk => by
        rw [List.mem_singleton.mp hx] at hk
        exact (hdf.1 k hk).elim)⟩
      rw [List.length_append]
      rcases List.mem_cons.mp hk with z | z
      · cases z; show h.length < h.length + 1; omega
      · have := hv.1.2 k z; omega
theorem mk_cI (C : mk_CX p s m args meth c g D X Hb) {cA : ClassId} (h : va_K D mj_cl (mj_ty X ++ [(cA, .int)]) s) : cA = X.1 := by
  have h1 : s.vm.findClass ("[" ++ FieldType.int.toString) = some cA := (h.2 3 _ rfl).2
  have h2 : s.vm.findClass ("[" ++ FieldType.int.toString) = some X.1 := (C.2.2.2.2.2.1.1.2 0 _ rfl).2
  exact Option.some.inj (h1.symm.trans h2)
theorem mk_cS (C : mk_CX p s m args meth c g D X Hb) {cA : ClassId} (h : va_K D mj_cl (mj_ty X ++ [(cA, .object "CloudStrings$Sheet")]) s) : cA = X.2.2 := by
  obtain ⟨_, _, _, _, _, h1⟩ := (h.2 3 _ rfl).2
  obtain ⟨_, _, _, _, _, h2⟩ := (C.2.2.2.2.2.1.1.2 2 _ rfl).2
  exact Option.some.inj (h1.symm.trans h2)
theorem nk_newa (C : mk_CX p s m args meth c g D X Hb) {x : Int32} (hd : decode (mk_bc g) pc = .ok (.newarray .int, 2)) (hx : ¬ x < 0 ∧ x.toNatClampNeg ≤ 1000) (hR : (h ++ [(1, 0, List.replicate x.toNatClampNeg (.inl 0 : mk_V))]).length - h0 ≤ R.cells ∧ mk_sz (h ++ [(1, 0, List.replicate x.toNatClampNeg (.inl 0 : mk_V))]) - sz0 ≤ R.slots)
    (K : mk_GG p l e R s m args below meth c Q nL D X Hb ad0 h0 sz0 (pc + 2) ls (.inr (some h.length) :: st) (h ++ [(1, 0, List.replicate x.toNatClampNeg (.inl 0 : mk_V))])) : mk_GG p l e R s m args below meth c Q nL D X Hb ad0 h0 sz0 pc ls (.inl x :: st) h := by
  intro hl hv g1 g2 ad H locs la ha hP hD hS hL
  have hsz : mk_sz ([(1, 0, List.replicate x.toNatClampNeg (.inl 0 : mk_V))] : List mk_C) = x.toNatClampNeg := by simp [mk_sz]
  rw [List.length_append, mk_sz_app, hsz] at hR
  have h1 : ([(1, 0, List.replicate x.toNatClampNeg (.inl 0 : mk_V))] : List mk_C).length = 1 := rfl
  rw [h1] at hR
  refine va_newa (atype := .int) (ty := .int) (N' := x.toNatClampNeg) (a0 := (x.toNatClampNeg, .inl (fun _ => 0))) C.1 C.2.1 (C.2.2.2.2.1 (Cond.arrayClass .int) (mk_OB_ok _ (by simp))) rfl C.2.2.2.2.2.1.1 hP hD hS (mk_hA C) (fun _ => rfl) hx.1 rfl (by show x.toNatClampNeg * 4 ≤ _; omega) (by omega) (by omega) hd (fun q cA H1 hK1 hP1 hD1 hS1 => ?_)
  have ecA := mk_cI C hK1
  subst ecA
  have he : ∀ k, k < h.length → (fun k => if k = h.length then q else ad k) k = ad k := fun k hk => if_neg (by omega)
  have e0 : mk_int (List.replicate x.toNatClampNeg (.inl 0)) = fun _ => 0 := by
    funext j
    unfold mk_int
    rw [List.getElem?_replicate]
    by_cases z : j < x.toNatClampNeg
    · rw [if_pos z]
    · rw [if_neg z]
  have ews : mk_ws (fun k => if k = h.length then q else ad k) X (h ++ [(1, 0, List.replicate x.toNatClampNeg (.inl 0 : mk_V))]) = mk_ws ad X h ++ [(q, .inl (X.1, x.toNatClampNeg, .inl (fun _ => 0)))] := by
    rw [mk_ws_app, ← mk_ws_ext hv.2 (fun k hk => (he k hk).symm)]
    simp [mk_at, mk_e, List.range_succ, e0]
  have hfin := mk_more (st := .inl x :: st) (cs := [(1, 0, List.replicate x.toNatClampNeg (.inl 0 : mk_V))]) (ad := ad) (ad' := fun k => if k = h.length then q else ad k) (cells := h.length - h0 + 1) (slots := mk_sz h - sz0 + x.toNatClampNeg) K hl hv ?_ g1 g2 ha he (by rw [ews]; exact hP1) (by rw [ews]; exact hD1) hS1 hL rfl (by rw [hsz])
  · rw [List.map_cons, mk_st_ext (fun k hk => hv.1.2 k (List.mem_cons_of_mem _ hk)) he] at hfin
    have e3 : mk_rv (fun k => if k = h.length then q else ad k) (.inr (some h.length)) = .ref q := by
      show Value.ref (if h.length = h.length then q else ad h.length) = .ref q
      rw [if_pos rfl]
    rw [e3] at hfin
    exact hfin
  · refine ⟨⟨fun k hk => by rw [List.length_append]; have := hv.1.1 k hk; omega, fun k hk => ?_⟩, mk_wf_app hv.2 (fun y hy k hk => by
      rw [List.mem_singleton.mp hy] at hk
      cases (List.eq_of_mem_replicate hk))⟩
    rw [List.length_append]
    rcases List.mem_cons.mp hk with z | z
    · cases z; show h.length < h.length + 1; omega
    · have := hv.1.2 k (List.mem_cons_of_mem _ z); omega
theorem nk_newq (C : mk_CX p s m args meth c g D X Hb) {i : Nat} {x : Int32} (hd : decode (mk_bc g) pc = .ok (.anewarray i, 3)) (hcl : mk_CL.contains (g, i, "CloudStrings$Sheet") = true) (hx : ¬ x < 0 ∧ x.toNatClampNeg ≤ 1000) (hR : (h ++ [(3, 0, List.replicate x.toNatClampNeg (.inr none : mk_V))]).length - h0 ≤ R.cells ∧ mk_sz (h ++ [(3, 0, List.replicate x.toNatClampNeg (.inr none : mk_V))]) - sz0 ≤ R.slots)
    (K : mk_GG p l e R s m args below meth c Q nL D X Hb ad0 h0 sz0 (pc + 3) ls (.inr (some h.length) :: st) (h ++ [(3, 0, List.replicate x.toNatClampNeg (.inr none : mk_V))])) : mk_GG p l e R s m args below meth c Q nL D X Hb ad0 h0 sz0 pc ls (.inl x :: st) h := by
  intro hl hv g1 g2 ad H locs la ha hP hD hS hL
  have hsz : mk_sz ([(3, 0, List.replicate x.toNatClampNeg (.inr none : mk_V))] : List mk_C) = x.toNatClampNeg := by simp [mk_sz]
  rw [List.length_append, mk_sz_app, hsz] at hR
  have h1 : ([(3, 0, List.replicate x.toNatClampNeg (.inr none : mk_V))] : List mk_C).length = 1 := rfl
  rw [h1] at hR
  have hw1 : Cond.classLink (mj_cs_ g) i "CloudStrings$Sheet" ∈ mj_WA := mk_CL_ok _ (List.mem_map.mpr ⟨_, List.contains_iff_mem.mp hcl, rfl⟩)
  refine va_newq (N' := x.toNatClampNeg) C.1 C.2.1 C.2.2.2.1 (C.2.2.2.2.1 _ hw1) C.2.2.2.2.2.1.2.1 C.2.2.2.2.2.1.1 hP hD hS (mk_hA C) hx.1 rfl (by omega) (by omega) (by omega) hd (fun q cA H1 hK1 hP1 hD1 hS1 => ?_)
  have ecA := mk_cS C hK1
  subst ecA
  have he : ∀ k, k < h.length → (fun k => if k = h.length then q else ad k) k = ad k := fun k hk => if_neg (by omega)
  have e0 : ∀ ad' : Nat → Nat, (fun j => (mk_ref (List.replicate x.toNatClampNeg (.inr none)) j).map ad') = fun _ => none := by
    intro ad'
    funext j
    unfold mk_ref
    rw [List.getElem?_replicate]
    by_cases z : j < x.toNatClampNeg
    · rw [if_pos z]; rfl
    · rw [if_neg z]; rfl
  have ews : mk_ws (fun k => if k = h.length then q else ad k) X (h ++ [(3, 0, List.replicate x.toNatClampNeg (.inr none : mk_V))]) = mk_ws ad X h ++ [(q, .inl (X.2.2, x.toNatClampNeg, .inr (.inr (.inr (.inr (fun _ => none))))))] := by
    rw [mk_ws_app, ← mk_ws_ext hv.2 (fun k hk => (he k hk).symm)]
    simp [mk_at, mk_e, List.range_succ, e0]
  have hfin := mk_more (st := .inl x :: st) (cs := [(3, 0, List.replicate x.toNatClampNeg (.inr none : mk_V))]) (ad := ad) (ad' := fun k => if k = h.length then q else ad k) (cells := h.length - h0 + 1) (slots := mk_sz h - sz0 + x.toNatClampNeg) K hl hv ?_ g1 g2 ha he (by rw [ews]; exact hP1) (by rw [ews]; exact hD1) hS1 hL rfl (by rw [hsz])
  · rw [List.map_cons, mk_st_ext (fun k hk => hv.1.2 k (List.mem_cons_of_mem _ hk)) he] at hfin
    have e3 : mk_rv (fun k => if k = h.length then q else ad k) (.inr (some h.length)) = .ref q := by
      show Value.ref (if h.length = h.length then q else ad h.length) = .ref q
      rw [if_pos rfl]
    rw [e3] at hfin
    exact hfin
  · refine ⟨⟨fun k hk => by rw [List.length_append]; have := hv.1.1 k hk; omega, fun k hk => ?_⟩, mk_wf_app hv.2 (fun y hy k hk => by
      rw [List.mem_singleton.mp hy] at hk
      cases (List.eq_of_mem_replicate hk))⟩
    rw [List.length_append]
    rcases List.mem_cons.mp hk with z | z
    · cases z; show h.length < h.length + 1; omega
    · have := hv.1.2 k (List.mem_cons_of_mem _ z); omega
end MK
end
section

theorem mk_kd3 {ad : Nat → Nat} {X : mj_X} {c : mk_C} (h : c.1 = 3) : mk_e ad X c = .inl (X.2.2, c.2.2.length, .inr (.inr (.inr (.inr (fun j => (mk_ref c.2.2 j).map ad))))) := by
  unfold mk_e
  rw [if_neg (by rw [h]; decide), if_neg (by rw [h]; decide), if_neg (by rw [h]; decide)]
theorem mk_kd0 {ad : Nat → Nat} {X : mj_X} {c : mk_C} (h : c.1 = 0) : mk_e ad X c = .inr (c.2.1, c.2.2.map (mk_rv ad)) := by
  unfold mk_e
  rw [if_pos h]
theorem mk_kd1 {ad : Nat → Nat} {X : mj_X} {c : mk_C} (h : c.1 = 1) : mk_e ad X c = .inl (X.1, c.2.2.length, .inl (mk_int c.2.2)) := by
  unfold mk_e
  rw [if_neg (by rw [h]; decide), if_pos h]
section MK2
variable {p : Program} {l : Launch} {e : Env} {R : Room} {s : State} {m : MethodId} {args : Array Value} {below : List Frame} {meth : Method} {c : Code} {Q : State → Prop}
variable {g nL : Nat} {D : va_G} {X : mj_X} {Hb : Heap} {ad0 : Nat → Nat} {h0 sz0 pc : Nat} {ls : List (Option mk_V)} {st : List mk_V} {h : List mk_C}

/-- going on where one cell changed -/
theorem mk_chg {r j : Nat} {v : mk_V} {ad : Nat → Nat} {H : Heap} {locs : List Loc} {la : Array Slot} {st' : List mk_V} {pc' : Nat} (K : mk_GG p l e R s m args below meth c Q nL D X Hb ad0 h0 sz0 pc' ls st' (mk_set h r j v)) (hr : r < h.length) (hl : ls.length = nL) (hv : mk_iv ls st' (mk_set h r j v)) (g1 : h0 ≤ h.length) (g2 : sz0 ≤ mk_sz h) (ha : ∀ k, k < h0 → ad k = ad0 k)
    (hP : va_P D mj_cl (mk_ws ad X (mk_set h r j v)) H) (hD : va_D (mj_A Hb) (mk_ws ad X (mk_set h r j v))) (hS : va_S (mj_A Hb) s.heap H locs) (hL : lv_has la nL (mk_la ad ls)) : W p l e R s m args below meth c H locs (h.length - h0) (mk_sz h - sz0) Q (F0 m pc' la (st'.map (mk_rv ad))) := by
  refine W.cs (cells' := (mk_set h r j v).length - h0) (slots' := mk_sz (mk_set h r j v) - sz0) (by rw [mk_set_len]) (by rw [mk_sz_set hr]) ?_
  exact K hl hv (by rw [mk_set_len]; exact g1) (by rw [mk_sz_set hr]; exact g2) ad H locs la ha hP hD hS hL
theorem nk_mna (C : mk_CX p s m args meth c g D X Hb) {i : Nat} {n k : Int32} (hd : decode (mk_bc g) pc = .ok (.multianewarray i 2, 4)) (hcl : mk_CL.contains (g, i, "[[I") = true) (hx : ¬ n < 0 ∧ ¬ k < 0 ∧ n.toNatClampNeg ≤ 1000 ∧ k.toNatClampNeg ≤ 1000) {cs : List mk_C} (hcs : cs = (2, 0, (List.range n.toNatClampNeg).map (fun i => .inr (some (h.length + 1 + i)))) :: List.replicate n.toNatClampNeg (1, 0, List.replicate k.toNatClampNeg (.inl 0 : mk_V)))
    (hR : (h ++ cs).length - h0 ≤ R.cells ∧ mk_sz (h ++ cs) - sz0 ≤ R.slots) (K : mk_GG p l e R s m args below meth c Q nL D X Hb ad0 h0 sz0 (pc + 4) ls (.inr (some h.length) :: st) (h ++ cs)) : mk_GG p l e R s m args below meth c Q nL D X Hb ad0 h0 sz0 pc ls (.inl k :: .inl n :: st) h := by
  intro hl hv g1 g2 ad H locs la ha hP hD hS hL
  generalize hN : n.toNatClampNeg = N at hx hcs
  generalize hM : k.toNatClampNeg = M at hx hcs
  have hlen : cs.length = 1 + N := by rw [hcs, List.length_cons, List.length_replicate]; omega
  have hsz : mk_sz cs = N + N * M := by
    rw [hcs]
    simp [mk_sz]
  rw [List.length_append, mk_sz_app, hlen, hsz] at hR
  have hw1 : Cond.classLink (mj_cs_ g) i "[[I" ∈ mj_WA := mk_CL_ok _ (List.mem_map.mpr ⟨_, List.contains_iff_mem.mp hcl, rfl⟩)
  intro T hT Xs
  obtain ⟨vm₁, cA, comp, -, fA, fC, hO, -, X', step⟩ := Jvm.Stand.multianewarray2F (ty := .int) Xs C.1 C.2.2.2.1 (C.2.2.2.2.1 _ hw1) (show (Cond.arrayOver (.array .int)).before args s = true from C.2.2.2.2.2.1.2.2.1) (C.2.2.2.2.1 (Cond.arrayClass .int) (mk_OB_ok _ (by simp))) (g := F0 m pc la (.int k :: .int n :: st.map (mk_rv ad))) rfl (by rw [C.2.1]; exact hd) rfl hx.1 hx.2.1 (by rw [hN]; omega) (by rw [hM]; show M * 4 ≤ _; omega) (by rw [hM]; omega) rfl rfl (by rw [hN]; omega) (by rw [hN, hM]; omega)
  rw [hN, hM] at X' step
  generalize hF : Jvm.Free.Multi.fill (T.setVm vm₁) cA comp N M (defaultValue .int) N = F at X' step
  have hTh : (T.setVm vm₁).heap = H := hT
  obtain ⟨f1, f2, -, -⟩ := Jvm.Free.Multi.fill_facts (T.setVm vm₁) cA comp N M (defaultValue .int) N
  rw [hF, hTh] at f1 f2
  have hold : ∀ x : Nat, x < H.size → F.heap[x]? = H[x]? := fun x hx => by
    have := Jvm.Free.Multi.fill_old (T.setVm vm₁) cA comp N M (defaultValue .int) (a := x) (by rw [hTh]; exact hx) N
    rw [hF, hTh] at this
    exact this
  have hrow : ∀ j : Nat, j < N → F.heap[H.size + 1 + j]? = some (vp_cell comp (M, .inl (fun _ => 0))) := fun j hj => by
    have := Jvm.Free.Multi.fill_inner (T.setVm vm₁) cA comp N M (defaultValue .int) N j hj
    rw [hF, hTh] at this
    rw [this]
    show some (Jvm.Free.Multi.innerC comp M (.int 0)) = some (arrV comp M (fun j => .int 0))
    exact congrArg some (arrV_new comp M (.int 0))
  have ecA : cA = X.2.1 := by
    have h2 : s.vm.findClass ("[" ++ (FieldType.array .int).toString) = some X.2.1 := (C.2.2.2.2.2.1.1.2 1 _ rfl).2
    exact Option.some.inj (fA.symm.trans h2)
  have ecm : comp = X.1 := by
    have h2 : s.vm.findClass ("[" ++ FieldType.int.toString) = some X.1 := (C.2.2.2.2.2.1.1.2 0 _ rfl).2
    have e : (FieldType.array .int).toString = "[" ++ FieldType.int.toString := by decide +kernel
    rw [e] at fC
    exact Option.some.inj (fC.symm.trans h2)
  subst ecA
  subst ecm
  have hAd : ∀ i, i < h.length → ad i < H.size := fun i hi => (hP i _ (mk_ws_at hi)).lt
  have he : ∀ k, k < h.length → (fun k => if h.length ≤ k then H.size + (k - h.length) else ad k) k = ad k := fun k hk => if_neg (by omega)
  generalize had : (fun k => if h.length ≤ k then H.size + (k - h.length) else ad k) = ad' at he
  have hnew : ∀ j, ad' (h.length + j) = H.size + j := fun j => by
    rw [← had]
    show (if h.length ≤ h.length + j then H.size + (h.length + j - h.length) else ad (h.length + j)) = _
    rw [if_pos (by omega)]
    omega
  have hat : ∀ j, j < 1 + N → mk_at cs j = if j = 0 then (2, 0, (List.range N).map (fun i => .inr (some (h.length + 1 + i)))) else (1, 0, List.replicate M (.inl 0)) := fun j hj => by
    rw [hcs]
    unfold mk_at
    cases j with
    | zero => rfl
    | succ j =>
      rw [if_neg (by omega), List.getD_eq_getElem?_getD, List.getElem?_cons_succ, List.getElem?_replicate, if_pos (by omega)]
      rfl
  have hPn : va_P D mj_cl (mk_ws ad' X (h ++ cs)) F.heap := by
    rw [mk_ws_app, ← mk_ws_ext hv.2 (fun k hk => (he k hk).symm)]
    refine (hP.kept (fun k x hx => hold x.1 ((hP k x hx).lt))).app (fun j x hx => ?_)
    have hj : j < 1 + N := by
      have := (List.getElem?_eq_some_iff.mp hx).1
      rw [List.length_map, List.length_range, hlen] at this
      exact this
    rw [List.getElem?_map, List.getElem?_range (by rw [hlen]; exact hj)] at hx
    cases hx
    show va_at D mj_cl (ad' (h.length + j), mk_e ad' X (mk_at cs j)) F.heap
    rw [hnew, hat j hj]
    cases j with
    | zero =>
      rw [if_pos rfl]
      have hk2 : mk_e ad' X (2, 0, (List.range N).map (fun i => .inr (some (h.length + 1 + i)))) = .inl (X.2.1, N, .inr (.inr (.inr (.inr (fun i => if i < N then some (H.size + 1 + i) else none))))) := by
        unfold mk_e
        rw [if_neg (show ¬ (2 : Nat) = 0 by decide), if_neg (show ¬ (2 : Nat) = 1 by decide), if_pos rfl]
        have e1 : (fun j => (mk_ref ((List.range N).map (fun i => .inr (some (h.length + 1 + i)))) j).map ad') = fun i => if i < N then some (H.size + 1 + i) else none := by
          funext i
          unfold mk_ref
          rw [List.getElem?_map]
          by_cases z : i < N
          · rw [List.getElem?_range z, if_pos z]
            show some (ad' (h.length + 1 + i)) = _
            rw [Nat.add_assoc, hnew, Nat.add_assoc]
          · rw [List.getElem?_eq_none (by rw [List.length_range]; omega), if_neg z]
            rfl
        show (Sum.inl (X.2.1, ((List.range N).map (fun i => (.inr (some (h.length + 1 + i)) : mk_V))).length, _) : va_E) = _
        rw [List.length_map, List.length_range]
        exact congrArg (fun z => (Sum.inl (X.2.1, N, Sum.inr (Sum.inr (Sum.inr (Sum.inr z)))) : va_E)) e1
      rw [hk2]
      show F.heap[H.size + 0]? = some (vp_cell X.2.1 (N, _))
      rw [Nat.add_zero, f2, vp_cell_q]
      refine congrArg some ?_
      have hout : ∀ i : Nat, i ≤ N → Jvm.Free.Multi.outerC X.2.1 N H.size i = arrV X.2.1 N (fun j => va_rf (if j < i then some (H.size + 1 + j) else none)) := by
        intro i
        induction i with
        | zero =>
          intro _
          show ({ cls := X.2.1, slots := Array.replicate N .null, vm := .none } : Cell) = _
          rw [arrV_new]
          refine congrArg (arrV X.2.1 N) (funext fun j => ?_)
          simp [va_rf]
        | succ i ih =>
          intro hi
          show (Jvm.Free.Multi.outerC X.2.1 N H.size i).setSlot i (.ref (H.size + 1 + i)) = _
          rw [ih (by omega), arrV_store]
          refine congrArg (arrV X.2.1 N) (funext fun j => ?_)
          by_cases e : j = i
          · subst e
            simp [updV, va_rf]
          · by_cases h : j < i
            · simp [updV, e, h, Nat.lt_succ_of_lt h]
            · simp [updV, e, h, show ¬ j < i + 1 by omega]
      exact hout N (Nat.le_refl _)
    | succ j =>
      rw [if_neg (by omega)]
      have hk1 : mk_e ad' X (1, 0, List.replicate M (.inl 0)) = .inl (X.1, M, .inl (fun _ => 0)) := by
        rw [mk_kd1 rfl]
        show (Sum.inl (X.1, (List.replicate M (.inl 0 : mk_V)).length, _) : va_E) = _
        rw [List.length_replicate]
        refine congrArg (fun z => (Sum.inl (X.1, M, Sum.inl z) : va_E)) (funext fun i => ?_)
        unfold mk_int
        rw [List.getElem?_replicate]
        by_cases z : i < M
        · rw [if_pos z]
        · rw [if_neg z]
      rw [hk1]
      show F.heap[H.size + (j + 1)]? = some (vp_cell X.1 (M, _))
      rw [show H.size + (j + 1) = H.size + 1 + j by omega]
      exact hrow j (by omega)
  have hDn : va_D (mj_A Hb) (mk_ws ad' X (h ++ cs)) := by
    rw [mk_ws_app, ← mk_ws_ext hv.2 (fun k hk => (he k hk).symm)]
    refine hD.app ⟨fun i j x y hi hj hxy => ?_, fun k x hx => ?_⟩ (fun i j x y hi hj => ?_)
    · have li := (List.getElem?_eq_some_iff.mp hi).1
      have lj := (List.getElem?_eq_some_iff.mp hj).1
      rw [List.length_map, List.length_range] at li lj
      rw [List.getElem?_map, List.getElem?_range li] at hi
      rw [List.getElem?_map, List.getElem?_range lj] at hj
      cases hi
      cases hj
      have hxy : ad' (h.length + i) = ad' (h.length + j) := hxy
      rw [hnew, hnew] at hxy
      omega
    · have li := (List.getElem?_eq_some_iff.mp hx).1
      rw [List.length_map, List.length_range] at li
      rw [List.getElem?_map, List.getElem?_range li] at hx
      cases hx
      show mj_A Hb (ad' (h.length + k))
      rw [hnew]
      have h1 := C.2.2.2.2.2.2.1.1
      have h2 := hS.1
      show Hb.size ≤ H.size + k
      omega
    · have lj := (List.getElem?_eq_some_iff.mp hj).1
      rw [List.length_map, List.length_range] at lj
      rw [List.getElem?_map, List.getElem?_range lj] at hj
      cases hj
      have := (hP i x hi).lt
      show x.1 ≠ ad' (h.length + j)
      rw [hnew]
      omega
  have hSn : va_S (mj_A Hb) s.heap F.heap locs := ⟨by rw [f1]; have := hS.1; omega, fun x h1 h2 => (hold x (Nat.lt_of_lt_of_le h1 hS.1)).trans (hS.2.1 x h1 h2), hS.2.2⟩
  have hfin := mk_more (st := .inl k :: .inl n :: st) (cs := cs) (ad := ad) (ad' := ad') (cells := h.length - h0 + 1 + N) (slots := mk_sz h - sz0 + N + N * M) K hl hv ?_ g1 g2 ha he hPn hDn hSn hL (by rw [hlen]; omega) (by rw [hsz]; omega)
  · obtain ⟨t, a1, b1⟩ := hfin F rfl X'
    refine ⟨t, step t ?_, b1⟩
    rw [List.map_cons, mk_st_ext (fun k hk => hv.1.2 k (by simp [hk])) he] at a1
    have e3 : mk_rv ad' (.inr (some h.length)) = .ref T.heap.size := by
      show Value.ref (ad' h.length) = _
      have := hnew 0
      rw [Nat.add_zero, Nat.add_zero] at this
      rw [this, hT]
    rw [e3] at a1
    exact a1
  · refine ⟨⟨fun k hk => by rw [List.length_append]; have := hv.1.1 k hk; omega, fun k hk => ?_⟩, mk_wf_app hv.2 (fun y hy k hk => ?_)⟩
    · rw [List.length_append]
      rcases List.mem_cons.mp hk with z | z
      · cases z; omega
      · have := hv.1.2 k (by simp [z]); omega
    · rw [hlen]
      rw [hcs] at hy
      rcases List.mem_cons.mp hy with z | z
      · subst z
        obtain ⟨i, hi, hik⟩ := List.mem_map.mp hk
        have hi := List.mem_range.mp hi
        cases hik
        omega
      · have := List.eq_of_mem_replicate z
        subst this
        cases (List.eq_of_mem_replicate hk)
theorem nk_put (C : mk_CX p s m args meth c g D X Hb) {i r ci k : Nat} {v : mk_V} (hd : decode (mk_bc g) pc = .ok (.putfield i, 3)) (hf : mk_FL.contains (g, i, ci, k) = true) (hown : mj_cs_ ci = mj_cs_ g) (hk : k < (mj_cl.getD ci ("", mj_T0, 0)).2.2) (hci : ci < 8) (hr : r < h.length ∧ (mk_at h r).1 = 0 ∧ (mk_at h r).2.1 = ci ∧ k < (mk_at h r).2.2.length ∧ mk_okv (mk_fty ci k) v = true)
    (K : mk_GG p l e R s m args below meth c Q nL D X Hb ad0 h0 sz0 (pc + 3) ls st (mk_set h r k v)) : mk_GG p l e R s m args below meth c Q nL D X Hb ad0 h0 sz0 pc ls (v :: .inr (some r) :: st) h := by
  intro hl hv g1 g2 ad H locs la ha hP hD hS hL
  obtain ⟨h1, h2, h3, h4, h5⟩ := hr
  obtain ⟨Cn, T, N, hc, hT, hN, hcn⟩ := mj_cl_at hci
  have hw := mk_FL_ok _ (List.mem_map.mpr ⟨_, List.contains_iff_mem.mp hf, rfl⟩)
  have hlk := C.2.2.2.2.1 _ hw
  unfold mj_wf at hlk
  dsimp only at hlk
  rw [hT] at hlk
  obtain ⟨ty, t1, t2, t3⟩ := mk_okv_of (ad := ad) h5
  unfold mk_fty at t1
  rw [hT] at t1
  have he := mk_ws_at (ad := ad) (X := X) h1
  rw [mk_kd0 h2, h3] at he
  have hiv : mk_iv ls st (mk_set h r k v) := ⟨⟨fun k hk => by rw [mk_set_len]; exact hv.1.1 k hk, fun k hk => by rw [mk_set_len]; exact hv.1.2 k (by simp [hk])⟩, mk_wf_set hv.2 h1 (fun k hk => hv.1.2 k (by simp [hk]))⟩
  have ews : mk_ws ad X (mk_set h r k v) = (mk_ws ad X h).set r (ad r, .inr (ci, ((mk_at h r).2.2.map (mk_rv ad)).set k (mk_rv ad v))) := by
    unfold mk_set
    rw [mk_ws_set, mk_kd0 (c := ((mk_at h r).1, (mk_at h r).2.1, (mk_at h r).2.2.set k v)) h2]
    show (mk_ws ad X h).set r (ad r, .inr ((mk_at h r).2.1, ((mk_at h r).2.2.set k v).map (mk_rv ad))) = _
    rw [List.map_set, h3]
  by_cases hfin : (T k).2.2.2 = true
  · refine va_putF C.1 C.2.1 C.2.2.2.2.1 (mj_cl_u _ (List.mem_of_getElem? hc)) (fun j => (parseFieldDescriptor (T j).2.2.1).getD .int) (mj_cl_t _ (List.mem_of_getElem? hc)) (mj_cl_n _ (List.mem_of_getElem? hc)) C.2.2.2.1 C.2.2.2.2.2.1.1 hP hD hS r he hc k (hN ▸ hk) hlk (fun _ h => h) hfin C.2.2.2.2.2.2.2 ?_ t1 t2 t3 (by rw [List.length_map]; exact h4) hd (fun H1 locs1 hP1 hD1 hS1 => ?_)
    · have := beq_iff_eq.mp (List.all_eq_true.mp (List.all_eq_true.mp mk_decl ci (List.mem_range.mpr hci)) k (List.mem_range.mpr hk))
      rw [hT] at this
      rw [this, hown]
    · exact mk_chg K h1 hl hiv g1 g2 ha (by rw [ews]; exact hP1) (by rw [ews]; exact hD1) hS1 hL
  · refine va_put C.1 C.2.1 C.2.2.2.2.1 (mj_cl_u _ (List.mem_of_getElem? hc)) (fun j => (parseFieldDescriptor (T j).2.2.1).getD .int) (mj_cl_t _ (List.mem_of_getElem? hc)) (mj_cl_n _ (List.mem_of_getElem? hc)) C.2.2.2.1 C.2.2.2.2.2.1.1 hP hD hS r he hc k (hN ▸ hk) hlk (fun _ h => h) (by simpa using hfin) t1 t2 t3 (by rw [List.length_map]; exact h4) hd (fun H1 locs1 hP1 hD1 hS1 => ?_)
    exact mk_chg K h1 hl hiv g1 g2 ha (by rw [ews]; exact hP1) (by rw [ews]; exact hD1) hS1 hL
theorem nk_get (C : mk_CX p s m args meth c g D X Hb) {i r ci k z : Nat} (hd : decode (mk_bc g) pc = .ok (.getfield i, 3)) (hf : mk_FL.contains (g, i, ci, k) = true) (hk : k < (mj_cl.getD ci ("", mj_T0, 0)).2.2) (hci : ci < 8) (hr : r < h.length ∧ (mk_at h r).1 = 0 ∧ (mk_at h r).2.1 = ci) (hz : (mk_at h r).2.2[k]? = some (.inr (some z)))
    (K : mk_GG p l e R s m args below meth c Q nL D X Hb ad0 h0 sz0 (pc + 3) ls (.inr (some z) :: st) h) : mk_GG p l e R s m args below meth c Q nL D X Hb ad0 h0 sz0 pc ls (.inr (some r) :: st) h := by
  intro hl hv g1 g2 ad H locs la ha hP hD hS hL
  obtain ⟨h1, h2, h3⟩ := hr
  obtain ⟨Cn, T, N, hc, hT, hN, hcn⟩ := mj_cl_at hci
  have hw := mk_FL_ok _ (List.mem_map.mpr ⟨_, List.contains_iff_mem.mp hf, rfl⟩)
  have hlk := C.2.2.2.2.1 _ hw
  unfold mj_wf at hlk
  dsimp only at hlk
  rw [hT] at hlk
  have he := mk_ws_at (ad := ad) (X := X) h1
  rw [mk_kd0 h2, h3] at he
  refine va_get C.1 C.2.1 C.2.2.2.2.1 (mj_cl_u _ (List.mem_of_getElem? hc)) C.2.2.2.1 C.2.2.2.2.2.1.1 hP r he hc k (hN ▸ hk) hlk (fun _ h => h) (v := .ref (ad z)) (by rw [List.getElem?_map, hz]; rfl) hd ?_
  exact K hl ⟨⟨hv.1.1, fun k hk => (List.mem_cons.mp hk).elim (fun y => by cases y; exact hv.2 _ (mk_at_in h1).1 _ (List.mem_of_getElem? hz)) (fun y => hv.1.2 k (List.mem_cons_of_mem _ y))⟩, hv.2⟩ g1 g2 ad H locs la ha hP hD hS hL
theorem nk_aast (C : mk_CX p s m args meth c g D X Hb) {r v : Nat} {j : Int32} (hd : decode (mk_bc g) pc = .ok (.aastore, 1)) (hr : r < h.length ∧ v < h.length ∧ (mk_at h r).1 = 3 ∧ (mk_at h v).1 = 0 ∧ (mk_at h v).2.1 = 3 ∧ ¬ j < 0 ∧ j.toNatClampNeg < (mk_at h r).2.2.length)
    (K : mk_GG p l e R s m args below meth c Q nL D X Hb ad0 h0 sz0 (pc + 1) ls st (mk_set h r j.toNatClampNeg (.inr (some v)))) : mk_GG p l e R s m args below meth c Q nL D X Hb ad0 h0 sz0 pc ls (.inr (some v) :: .inl j :: .inr (some r) :: st) h := by
  intro hl hv g1 g2 ad H locs la ha hP hD hS hL
  obtain ⟨h1, h2, h3, h4, h5, h6, h7⟩ := hr
  have he := mk_ws_at (ad := ad) (X := X) h1
  rw [mk_kd3 h3] at he
  have hev := mk_ws_at (ad := ad) (X := X) h2
  rw [mk_kd0 h4, h5] at hev
  have hiv : mk_iv ls st (mk_set h r j.toNatClampNeg (.inr (some v))) := ⟨⟨fun k hk => by rw [mk_set_len]; exact hv.1.1 k hk, fun k hk => by rw [mk_set_len]; exact hv.1.2 k (by simp [hk])⟩, mk_wf_set hv.2 h1 (fun k hk => by cases hk; exact h2)⟩
  have ews : mk_ws ad X (mk_set h r j.toNatClampNeg (.inr (some v))) = (mk_ws ad X h).set r (ad r, .inl (X.2.2, (mk_at h r).2.2.length, .inr (.inr (.inr (.inr (va_up (fun i => (mk_ref (mk_at h r).2.2 i).map ad) j.toNatClampNeg (some (ad v)))))))) := by
    unfold mk_set
    rw [mk_ws_set, mk_kd3 (c := ((mk_at h r).1, (mk_at h r).2.1, (mk_at h r).2.2.set j.toNatClampNeg (.inr (some v)))) h3]
    show (mk_ws ad X h).set r (ad r, .inl (X.2.2, ((mk_at h r).2.2.set j.toNatClampNeg (.inr (some v))).length, _)) = _
    rw [List.length_set]
    refine congrArg (fun z => (mk_ws ad X h).set r (ad r, (Sum.inl (X.2.2, (mk_at h r).2.2.length, Sum.inr (Sum.inr (Sum.inr (Sum.inr z)))) : va_E))) (funext fun i => ?_)
    unfold mk_ref va_up
    by_cases e : i = j.toNatClampNeg
    · subst e
      show Option.map ad (match ((mk_at h r).2.2.set j.toNatClampNeg (.inr (some v)))[j.toNatClampNeg]? with
        | some (.inr r) => r
        | _ => none) = _
      rw [List.getElem?_set_self h7, if_pos rfl]
      rfl
    · show Option.map ad (match ((mk_at h r).2.2.set j.toNatClampNeg (.inr (some v)))[i]? with
        | some (.inr r) => r
        | _ => none) = _
      rw [List.getElem?_set_ne (fun z => e z.symm), if_neg e]
      rfl
  refine va_astq (r := ("CloudStrings$Sheet", mj_T3, 4)) C.1 C.2.1 C.2.2.2.2.2.1.1 hP hD hS r 2 v 3 he rfl hev rfl (fun z => z.elim h6 (fun z => absurd h7 (Nat.not_lt.mpr z))) hd (fun H1 locs1 hP1 hD1 hS1 => ?_)
  exact mk_chg K h1 hl hiv g1 g2 ha (by rw [ews]; exact hP1) (by rw [ews]; exact hD1) hS1 hL
theorem nk_iast (C : mk_CX p s m args meth c g D X Hb) {r : Nat} {j v : Int32} (hd : decode (mk_bc g) pc = .ok (.iastore, 1)) (hr : r < h.length ∧ (mk_at h r).1 = 1 ∧ ¬ j < 0 ∧ j.toNatClampNeg < (mk_at h r).2.2.length)
    (K : mk_GG p l e R s m args below meth c Q nL D X Hb ad0 h0 sz0 (pc + 1) ls st (mk_set h r j.toNatClampNeg (.inl v))) : mk_GG p l e R s m args below meth c Q nL D X Hb ad0 h0 sz0 pc ls (.inl v :: .inl j :: .inr (some r) :: st) h := by
  intro hl hv g1 g2 ad H locs la ha hP hD hS hL
  obtain ⟨h1, h3, h6, h7⟩ := hr
  have he := mk_ws_at (ad := ad) (X := X) h1
  rw [mk_kd1 h3] at he
  have hiv : mk_iv ls st (mk_set h r j.toNatClampNeg (.inl v)) := ⟨⟨fun k hk => by rw [mk_set_len]; exact hv.1.1 k hk, fun k hk => by rw [mk_set_len]; exact hv.1.2 k (by simp [hk])⟩, mk_wf_set hv.2 h1 (fun k hk => by cases hk)⟩
  have ews : mk_ws ad X (mk_set h r j.toNatClampNeg (.inl v)) = (mk_ws ad X h).set r (ad r, .inl (X.1, (mk_at h r).2.2.length, .inl (upd (mk_int (mk_at h r).2.2) j.toNatClampNeg v))) := by
    unfold mk_set
    rw [mk_ws_set, mk_kd1 (c := ((mk_at h r).1, (mk_at h r).2.1, (mk_at h r).2.2.set j.toNatClampNeg (.inl v))) h3]
    show (mk_ws ad X h).set r (ad r, .inl (X.1, ((mk_at h r).2.2.set j.toNatClampNeg (.inl v)).length, _)) = _
    rw [List.length_set]
    refine congrArg (fun z => (mk_ws ad X h).set r (ad r, (Sum.inl (X.1, (mk_at h r).2.2.length, Sum.inl z) : va_E))) (funext fun i => ?_)
    unfold mk_int upd
    by_cases e : i = j.toNatClampNeg
    · subst e
      show (match ((mk_at h r).2.2.set j.toNatClampNeg (.inl v))[j.toNatClampNeg]? with
        | some (.inl x) => x
        | _ => 0) = _
      rw [List.getElem?_set_self h7, if_pos rfl]
    · show (match ((mk_at h r).2.2.set j.toNatClampNeg (.inl v))[i]? with
        | some (.inl x) => x
        | _ => 0) = _
      rw [List.getElem?_set_ne (fun z => e z.symm), if_neg e]
      rfl
  refine va_iast C.1 C.2.1 C.2.2.2.2.2.1.1 hP hD hS r 0 he rfl (fun z => z.elim h6 (fun z => absurd h7 (Nat.not_lt.mpr z))) hd (fun H1 locs1 hP1 hD1 hS1 => ?_)
  exact mk_chg K h1 hl hiv g1 g2 ha (by rw [ews]; exact hP1) (by rw [ews]; exact hD1) hS1 hL
end MK2
end
section

/-! the constructors' main theorem -/
theorem mk_mono : ∀ (n g pc : Nat) (ls : List (Option mk_V)) (st : List mk_V) (h h' : List mk_C), mk_go n g pc ls st h = some h' → h.length ≤ h'.length ∧ mk_sz h ≤ mk_sz h'
  | 0, g, pc, ls, st, h, h', e => by cases e
  | n + 1, g, pc, ls, st, h, h', e => by
    have ih := mk_mono n
    have app : ∀ (cs : List mk_C) (pc : Nat) (st : List mk_V), mk_go n g pc ls st (h ++ cs) = some h' → h.length ≤ h'.length ∧ mk_sz h ≤ mk_sz h' := fun cs pc st e => by
      have := ih _ _ _ _ _ _ e
      rw [List.length_append, mk_sz_app] at this
      exact ⟨by omega, by omega⟩
    have chg : ∀ (r j : Nat) (v : mk_V) (pc : Nat) (st : List mk_V), r < h.length → mk_go n g pc ls st (mk_set h r j v) = some h' → h.length ≤ h'.length ∧ mk_sz h ≤ mk_sz h' := fun r j v pc st hr e => by
      have := ih _ _ _ _ _ _ e
      rw [mk_set_len, mk_sz_set hr] at this
      exact this
    unfold mk_go at e
    split at e
    · cases e
    · split at e <;> (try (exact ih _ _ _ _ _ _ e))
      · split at e
        · exact ih _ _ _ _ _ _ e
        · cases e
      · split at e
        · exact ih _ _ _ _ _ _ e
        · cases e
      · split at e
        · split at e
          · exact ih _ _ _ _ _ _ e
          · cases e
        · cases e
      · split at e
        · exact ih _ _ _ _ _ _ e
        · cases e
      · split at e
        · exact ih _ _ _ _ _ _ e
        · cases e
      · split at e
        · split at e
          · exact ih _ _ _ _ _ _ e
          · exact ih _ _ _ _ _ _ e
        · cases e
      · split at e
        · split at e
          · exact app _ _ _ e
          · cases e
        · cases e
      · split at e
        · split at e
          · exact app _ _ _ e
          · cases e
        · cases e
      · split at e
        · split at e
          · exact app _ _ _ e
          · cases e
        · cases e
      · split at e
        · split at e
          · exact app _ _ _ e
          · cases e
        · cases e
      · split at e
        · split at e
          · next hc => exact chg _ _ _ _ _ hc.1 e
          · cases e
        · cases e
      · split at e
        · split at e
          · split at e
            · exact ih _ _ _ _ _ _ e
            · cases e
          · cases e
        · cases e
      · split at e
        · split at e
          · next hc => exact chg _ _ _ _ _ hc.1 e
          · cases e
        · cases e
      · split at e
        · split at e
          · next hc => exact chg _ _ _ _ _ hc.1 e
          · cases e
        · cases e
      · split at e
        · split at e
          · exact ih _ _ _ _ _ _ e
          · cases e
        · split at e
          · split at e
            · next h1 e1 =>
              have a := ih _ _ _ _ _ _ e1
              have b := ih _ _ _ _ _ _ e
              exact ⟨Nat.le_trans a.1 b.1, Nat.le_trans a.2 b.2⟩
            · cases e
          · cases e
        · cases e
      · split at e
        · cases e; exact ⟨Nat.le_refl _, Nat.le_refl _⟩
        · cases e
      · cases e
theorem mk_lk {α : Type} {pc : Nat} {x : α} : ∀ (c : List (Nat × α)), c.lookup pc = some x → (pc, x) ∈ c
  | [], h => by cases h
  | (a, b) :: ys, h => by
    rw [List.lookup_cons] at h
    by_cases e : pc == a
    · rw [e] at h
      have e2 := beq_iff_eq.mp e
      subst e2
      cases h
      exact List.mem_cons_self
    · have e3 : (pc == a) = false := by simpa using e
      rw [e3] at h
      exact List.mem_cons_of_mem _ (mk_lk ys h)
theorem mk_cma {g : Nat} (hg : g < 8) : mk_cm g = true := by
  rcases (by omega : g = 0 ∨ g = 1 ∨ g = 2 ∨ g = 3 ∨ g = 4 ∨ g = 5 ∨ g = 6 ∨ g = 7) with rfl | rfl | rfl | rfl | rfl | rfl | rfl | rfl
  · exact mk_ck0
  · exact mk_ck1
  · exact mk_ck2
  · exact mk_ck3
  · exact mk_ck4
  · exact mk_ck5
  · exact mk_ck6
  · exact mk_ck7
theorem mk_cwa {g : Nat} (hg : g < 8) : Cond.code (mk_y g) (mk_bc g) (mk_mx g) none ∈ mj_WA := by
  rcases (by omega : g = 0 ∨ g = 1 ∨ g = 2 ∨ g = 3 ∨ g = 4 ∨ g = 5 ∨ g = 6 ∨ g = 7) with rfl | rfl | rfl | rfl | rfl | rfl | rfl | rfl
  · exact mk_cw0
  · exact mk_cw1
  · exact mk_cw2
  · exact mk_cw3
  · exact mk_cw4
  · exact mk_cw5
  · exact mk_cw6
  · exact mk_cw7
theorem mk_good {g : Nat} (hg : g < 8) : GoodIn mj_WA (mk_wsf g) := mj_goodL (fun w hw => (List.mem_cons.mp hw).elim (fun e => e ▸ mk_cwa hg) id)
theorem mk_yd : (List.range 8).all (fun g => plainName (mk_y g).cls && decide ((mk_y g).cls ≠ "java/lang/invoke/MethodHandle") && decide ((mk_y g).cls ≠ "java/lang/invoke/VarHandle") && decide ((parseMethodDescriptor (mk_y g).desc).map (fun d => d.parameters.length) = some 0) && Nat.ble (mk_mx g) 2) = true := by decide +kernel
theorem mk_ydo {g : Nat} (hg : g < 8) : plainName (mk_y g).cls = true ∧ (mk_y g).cls ≠ "java/lang/invoke/MethodHandle" ∧ (mk_y g).cls ≠ "java/lang/invoke/VarHandle" ∧ (parseMethodDescriptor (mk_y g).desc).map (fun d => d.parameters.length) = some 0 ∧ mk_mx g ≤ 2 := by
  have h := List.all_eq_true.mp mk_yd g (List.mem_range.mpr hg)
  simp only [Bool.and_eq_true, decide_eq_true_eq] at h
  exact ⟨h.1.1.1.1, h.1.1.1.2, h.1.1.2, h.1.2, Nat.le_of_ble_eq_true h.2⟩
section MK3
variable {p : Program} {l : Launch} {e : Env} {R : Room} {s : State} {m : MethodId} {args : Array Value} {below : List Frame} {meth : Method} {c : Code} {Q : State → Prop}
variable {g nL : Nat} {D : va_G} {X : mj_X} {Hb : Heap} {ad0 : Nat → Nat} {h0 sz0 pc : Nat} {ls : List (Option mk_V)} {st : List mk_V} {h : List mk_C}

/-- behind a constructor -/
theorem mk_run {h1 : List mk_C} {ad : Nat → Nat} {H : Heap} {locs : List Loc} {la : Array Slot} {st0 : List Value} {a : Array Value} {cells slots mc ms : Nat} (hr : va_Run p l e R s m args below meth c H locs cells slots mc ms (F0 m pc la st0) (st.map (mk_rv ad)) (mk_Qc D X Hb ad h.length h1 a) (mj_A Hb)) (hS : va_S (mj_A Hb) s.heap H locs)
    (kk : ∀ (H1 : Heap) (locs1 : List Loc) (ad' : Nat → Nat), (∀ k, k < h.length → ad' k = ad k) → va_P D mj_cl (mk_ws ad' X h1) H1 → va_D (mj_A Hb) (mk_ws ad' X h1) → va_S (mj_A Hb) s.heap H1 locs1 → W p l e R s m args below meth c H1 locs1 (cells + mc) (slots + ms) Q (F0 m (pc + 3) la (st.map (mk_rv ad)))) : W p l e R s m args below meth c H locs cells slots Q (F0 m pc la st0) := by
  intro T hT Xs
  obtain ⟨v, st₀, t, T', L1, h0', X', hL, e1, e2, ⟨hv, ⟨ad', ha, hp, hd⟩, hz⟩, st'⟩ := hr T hT Xs
  have hv : v = none := by injection hv
  subst hv
  unfold va_F at hz
  rw [h0', ← e1] at hz
  obtain ⟨t2, a1, b1⟩ := kk T'.heap (locs ++ L1) ad' ha (by rw [e1]; exact hp) hd
    ⟨Nat.le_trans hS.1 hz.1, fun q h1 h2 => (hz.2 q (Nat.lt_of_lt_of_le h1 hS.1) h2).trans (hS.2.1 q h1 h2), fun q hq => by
      rcases List.mem_append.mp hq with h | h
      · exact hS.2.2 q h
      · exact hL q h⟩ T' rfl X'
  exact ⟨t2, st' t2 a1, b1⟩
theorem nk_call (C : mk_CX p s m args meth c g D X Hb) (hnL : nL = mk_mx g) {i r g' : Nat} {h1 : List mk_C} (hd : decode (mk_bc g) pc = .ok (.invokespecial i, 3)) (hn : mk_NL.contains (g, i, g') = true) (hg' : g' < 8) (hr : r < h.length ∧ (mk_at h r).1 = 0 ∧ (mk_at h r).2.1 = g') (hdp : mk_dp g' < mk_dp g) (hst : st.length ≤ 8) (hM : ∀ ad, mk_MT l D X Hb ad g' r h h1) (hi : mk_wf h1 ∧ h.length ≤ h1.length ∧ mk_sz h ≤ mk_sz h1)
    (hR : mk_dp g ≤ R.frames ∧ 30 * mk_dp g ≤ R.locals ∧ h1.length - h0 ≤ R.cells ∧ mk_sz h1 - sz0 ≤ R.slots) (K : mk_GG p l e R s m args below meth c Q nL D X Hb ad0 h0 sz0 (pc + 3) ls st h1) : mk_GG p l e R s m args below meth c Q nL D X Hb ad0 h0 sz0 pc ls (.inr (some r) :: st) h := by
  intro hl hv g1 g2 ad H locs la ha hP hD hS hL
  have hw1 : mk_wN (g, i, g') ∈ mk_NL.map mk_wN := List.mem_map.mpr ⟨_, List.contains_iff_mem.mp hn, rfl⟩
  have hK := C.2.2.2.2.2.1.2.2.2 (g, i, g') (List.contains_iff_mem.mp hn)
  obtain ⟨-, y2, y3, y4, y5⟩ := mk_ydo hg'
  have cw := va_cnB (R := R) (s := s) (args := args) (own := mj_cs_ g) (host := "CloudStrings") (index := i) (y := mk_y g') (bytes := mk_bc g') (maxL := mk_mx g') (ret := none) (ws := mk_wsf g') (rm := mk_rm g' (h1.length - h.length) (mk_sz h1 - mk_sz h)) (mc := h1.length - h.length) (ms := mk_sz h1 - mk_sz h) (ws' := mj_WA) 0 C.2.2.2.2.1 (mk_good hg') rfl rfl rfl hK (C.2.2.2.2.1 _ (mk_IT_ok _ (List.mem_map.mpr ⟨g', List.mem_range.mpr hg', rfl⟩))) ⟨y2, y3, y4⟩ ⟨by show mk_dp g' + 1 ≤ _; omega, by show 8 + (mk_mx g' + 11) + 30 * mk_dp g' ≤ _; omega⟩
  have hrun := va_runIN (rest := st.map (mk_rv ad)) (As := []) (b := ad r) (g := F0 m pc la ((.inr (some r) :: st).map (mk_rv ad))) (H := H) (locs := locs) (cells := h.length - h0) (slots := mk_sz h - sz0) (e := e) (below := below) (meth := meth) (nL := mk_mx g) ⟨C.1, C.2.1, C.2.2.1, C.2.2.2.1, C.2.2.2.2.1⟩ (hM ad) ⟨cw, rfl, C.2.2.2.2.1 _ (mk_IM_ok _ (List.mem_map.mpr ⟨g', List.mem_range.mpr hg', rfl⟩))⟩ ⟨mk_blind, fun U hU hW => ⟨rfl, by rw [hU]; exact hP, hD, by rw [hU]; exact mj_S_tr C.2.2.2.2.2.2.1 hS, mk_K.moved hW C.2.2.2.2.2.1⟩⟩ rfl rfl (hL.1.trans hnL) rfl (lv_room (by rw [mk_cat_sum]; exact hst)) hd ⟨by omega, by omega⟩
  refine mk_run hrun hS (fun H1 locs1 ad' hea hP1 hD1 hS1 => ?_)
  refine W.cs (cells' := h1.length - h0) (slots' := mk_sz h1 - sz0) (by omega) (by omega) ?_
  have hfin := K hl ⟨⟨fun k hk => Nat.lt_of_lt_of_le (hv.1.1 k hk) hi.2.1, fun k hk => Nat.lt_of_lt_of_le (hv.1.2 k (List.mem_cons_of_mem _ hk)) hi.2.1⟩, hi.1⟩ (by omega) (by omega) ad' H1 locs1 la (fun k hk => (hea k (by omega)).trans (ha k hk)) hP1 hD1 hS1 (by rw [mk_la_ext hv.1.1 hea]; exact hL)
  rw [mk_st_ext (fun k hk => hv.1.2 k (List.mem_cons_of_mem _ hk)) hea] at hfin
  exact hfin
end MK3
theorem mk_dec {cc : ByteArray} {pc len : Nat} {i : Instr} (h : (match decode cc pc with
  | .ok (i', n) => decide (i' = i) && n == len
  | _ => false) = true) : decode cc pc = .ok (i, len) := by
  split at h
  · next i' n hd =>
    rw [Bool.and_eq_true] at h
    have e1 := of_decide_eq_true h.1
    have e2 := beq_iff_eq.mp h.2
    subst e1
    subst e2
    exact hd
  · cases h
/-- what the frame's walk says at n steps -/
def mk_St (n : Nat) : Prop := ∀ (g pc : Nat) (ls : List (Option mk_V)) (st : List mk_V) (h hf : List mk_C), g < 8 → mk_go n g pc ls st h = some hf → ∀ {p : Program} {l : Launch} {e : Env} {s : State} {m : MethodId} {args : Array Value} {below : List Frame} {meth : Method} {c : Code} {D : va_G} {X : mj_X} {Hb : Heap} {ad0 : Nat → Nat} {h0 sz0 : Nat},
  mk_CX p s m args meth c g D X Hb → meth.locks = false → meth.sig.returnType = none → mk_GG p l e (mk_rm g (hf.length - h0) (mk_sz hf - sz0)) s m args below meth c (MQ below (mk_Qc D X Hb ad0 h0 hf) args s (hf.length - h0) (mk_sz hf - sz0) (mj_A Hb)) (mk_mx g) D X Hb ad0 h0 sz0 pc ls st h
theorem mk_met {n : Nat} (H : mk_St n) {g r : Nat} {h h1 : List mk_C} (hg : g < 8) (hr : r < h.length) (hw : mk_wf h) (e : mk_go n g 0 (some (.inr (some r)) :: List.replicate (mk_mx g - 1) none) [] h = some h1) (l : Launch) (D : va_G) (X : mj_X) (Hb : Heap) (ad : Nat → Nat) : mk_MT l D X Hb ad g r h h1 := by
  obtain ⟨y1, y2, y3, y4, y5⟩ := mk_ydo hg
  refine Met.ofW (cc := mk_bc g) (maxL := mk_mx g) (ret := none) y1 rfl ?_
  intro p e' s m args below meth c s₁ B hml hv
  obtain ⟨rfl, hP, hD, hS, hK⟩ := hv
  have hts := atoms_spec (ws := mk_wsf g) B.pre
  have C : mk_CX p s m #[.ref (ad r)] meth c g D X Hb := ⟨B.exec, B.bytes, hml, findClass_of_methodNamed B.named, fun w hw => hts w (List.mem_cons_of_mem _ hw), hK, hS, (name_of_methodNamed B.named B.method).1⟩
  have key := H g 0 _ [] h h1 hg e (p := p) (l := l) (e := e') (below := below) (ad0 := ad) (h0 := h.length) (sz0 := mk_sz h) C B.notSynchronized B.returns
  have h1m : 1 ≤ mk_mx g := by
    unfold mk_mx
    exact Nat.le_refl 1
  have hl := lv_entry [.ref (ad r)] (n := mk_mx g) h1m
  show W _ _ _ _ _ _ _ _ _ _ _ _ _ _ _ (entryFrame m ([Value.ref (ad r)] : List Value).toArray (mk_mx g))
  rw [lg_entry_eq]
  have hfin := key (by rw [List.length_cons, List.length_replicate]; omega) ⟨⟨fun k hk => (List.mem_cons.mp hk).elim (fun z => by cases z; exact hr) (fun z => by cases (List.eq_of_mem_replicate z)), fun k hk => by cases hk⟩, hw⟩ (Nat.le_refl _) (Nat.le_refl _) ad s.heap [] _ (fun _ _ => rfl) hP hD va_S.rf ⟨hl.1, hl.2.1, fun x hx => ?_⟩
  · rw [Nat.sub_self, Nat.sub_self] at hfin
    exact hfin
  · obtain ⟨v, hv1, hv2⟩ := mk_la_of hx
    obtain ⟨i, y⟩ := x
    dsimp only at hv1 hv2
    subst hv2
    cases i with
    | zero =>
      cases hv1
      exact hl.2.2 (0, .ref (ad r)) List.mem_cons_self
    | succ i =>
      rw [List.getElem?_cons_succ] at hv1
      cases (List.eq_of_mem_replicate (List.mem_of_getElem? hv1))
set_option maxHeartbeats 4000000 in
theorem mk_main : ∀ n, mk_St n
  | 0 => fun g pc ls st h hf _ e => by cases e
  | n + 1 => by
    intro g pc ls st h hf hg e p l e' s m args below meth c D X Hb ad0 h0 sz0 C hlk hrt
    have ih := mk_main n
    have mono := mk_mono n
    have inv := mk_inv n
    unfold mk_go at e
    split at e
    · cases e
    · next i len a hl0 =>
      have hm := List.all_eq_true.mp (mk_cma hg) _ (mk_lk _ hl0)
      unfold mk_ct at hm
      rw [Bool.and_eq_true] at hm
      obtain ⟨hdec, hop⟩ := hm
      have hd := mk_dec hdec
      dsimp only at hd hop
      clear hdec hl0
      split at e
      · next k =>
        have hn : len = 1 := beq_iff_eq.mp hop
        subst hn
        split at e
        · next r hr => exact fun hl hv g1 g2 ad H locs la ha hP hD hS hL => lv_aload_n C.1 C.2.1 hd rfl (mk_la_at hL hr) (ih _ _ _ _ _ _ hg e C hlk hrt hl ⟨⟨hv.1.1, fun k hk => (List.mem_cons.mp hk).elim (fun z => by cases z; exact hv.1.1 _ (List.mem_of_getElem? hr)) (fun z => hv.1.2 k z)⟩, hv.2⟩ g1 g2 ad H locs la ha hP hD hS hL)
        · cases e
      · next k =>
        have hn : len = 1 := beq_iff_eq.mp hop
        subst hn
        split at e
        · next x hr => exact fun hl hv g1 g2 ad H locs la ha hP hD hS hL => lv_iload_n C.1 C.2.1 hd rfl (mk_la_at hL hr) (ih _ _ _ _ _ _ hg e C hlk hrt hl ⟨⟨hv.1.1, fun k hk => (List.mem_cons.mp hk).elim (fun z => by cases z) (fun z => hv.1.2 k z)⟩, hv.2⟩ g1 g2 ad H locs la ha hP hD hS hL)
        · cases e
      · next k =>
        have hn : len = 1 := beq_iff_eq.mp hop
        subst hn
        split at e
        · next x st =>
          split at e
          · next hk => exact fun hl hv g1 g2 ad H locs la ha hP hD hS hL => lv_istore_n C.1 C.2.1 hd rfl hL (hl ▸ hk) rfl (fun la' hL' => ih _ _ _ _ _ _ hg e C hlk hrt (List.length_set.trans hl) ⟨⟨fun k hk => (List.mem_or_eq_of_mem_set hk).elim (fun z => hv.1.1 k z) (fun z => by cases z), fun k hk => hv.1.2 k (List.mem_cons_of_mem _ hk)⟩, hv.2⟩ g1 g2 ad H locs la' ha hP hD hS (mk_store hL'))
          · cases e
        · cases e
      · next k z =>
        have hn : len = 3 := beq_iff_eq.mp hop
        subst hn
        split at e
        · next x hx =>
          intro hl hv g1 g2 ad H locs la ha hP hD hS hL
          obtain ⟨j, hj⟩ := List.getElem?_of_mem (mk_la_in (ad := ad) hx)
          refine lv_iinc C.1 C.2.1 hd hL hj rfl (hl ▸ (List.getElem?_eq_some_iff.mp hx).1) rfl (fun la' hL' => ?_)
          exact ih _ _ _ _ _ _ hg e C hlk hrt (List.length_set.trans hl) ⟨⟨fun k hk => (List.mem_or_eq_of_mem_set hk).elim (fun z => hv.1.1 k z) (fun z => by cases z), hv.1.2⟩, hv.2⟩ g1 g2 ad H locs la' ha hP hD hS (mk_store hL')
        · cases e
      · next z =>
        have hn : len = 1 := beq_iff_eq.mp hop
        subst hn
        exact fun hl hv g1 g2 ad H locs la ha hP hD hS hL => lv_iconst C.1 C.2.1 hd rfl (ih _ _ _ _ _ _ hg e C hlk hrt hl ⟨⟨hv.1.1, fun k hk => (List.mem_cons.mp hk).elim (fun z => by cases z) (fun z => hv.1.2 k z)⟩, hv.2⟩ g1 g2 ad H locs la ha hP hD hS hL)
      · next z =>
        have hn : len = 2 := beq_iff_eq.mp hop
        subst hn
        exact fun hl hv g1 g2 ad H locs la ha hP hD hS hL => lv_bipush C.1 C.2.1 hd rfl (ih _ _ _ _ _ _ hg e C hlk hrt hl ⟨⟨hv.1.1, fun k hk => (List.mem_cons.mp hk).elim (fun z => by cases z) (fun z => hv.1.2 k z)⟩, hv.2⟩ g1 g2 ad H locs la ha hP hD hS hL)
      · have hn : len = 1 := beq_iff_eq.mp hop
        subst hn
        split at e
        · next r st => exact fun hl hv g1 g2 ad H locs la ha hP hD hS hL => lv_dup C.1 C.2.1 hd rfl (ih _ _ _ _ _ _ hg e C hlk hrt hl ⟨⟨hv.1.1, fun k hk => (List.mem_cons.mp hk).elim (fun z => by cases z; exact hv.1.2 _ List.mem_cons_self) (fun z => hv.1.2 k z)⟩, hv.2⟩ g1 g2 ad H locs la ha hP hD hS hL)
        · cases e
      · next off =>
        have hop : (len == 3 && decide (0 ≤ (pc : Int) + off)) = true := hop
        rw [Bool.and_eq_true] at hop
        have hn : len = 3 := beq_iff_eq.mp hop.1
        have ho := of_decide_eq_true hop.2
        clear hop
        subst hn
        exact fun hl hv g1 g2 ad H locs la ha hP hD hS hL => lv_goto C.1 C.2.1 hd (tgt := ((pc : Int) + off).toNat) (by omega) (ih _ _ _ _ _ _ hg e C hlk hrt hl hv g1 g2 ad H locs la ha hP hD hS hL)
      · next off =>
        have hop : (len == 3 && decide (0 ≤ (pc : Int) + off)) = true := hop
        rw [Bool.and_eq_true] at hop
        have hn : len = 3 := beq_iff_eq.mp hop.1
        have ho := of_decide_eq_true hop.2
        clear hop
        subst hn
        split at e
        · next y x st =>
          intro hl hv g1 g2 ad H locs la ha hP hD hS hL
          have hv2 : mk_iv ls st h := ⟨⟨hv.1.1, fun k hk => hv.1.2 k (by simp [hk])⟩, hv.2⟩
          refine lv_icmp_ge C.1 C.2.1 hd (tgt := ((pc : Int) + off).toNat) (by omega) (fun hc => ?_) (fun hc => ?_)
          · rw [if_pos hc] at e
            exact ih _ _ _ _ _ _ hg e C hlk hrt hl hv2 g1 g2 ad H locs la ha hP hD hS hL
          · rw [if_neg hc] at e
            exact ih _ _ _ _ _ _ hg e C hlk hrt hl hv2 g1 g2 ad H locs la ha hP hD hS hL
        · cases e
      · next x =>
        split at e
        · next ci =>
          split at e
          · next hci =>
            have hop : (len == 3 && mk_CL.contains (g, x, mj_cs_ ci)) = true := hop
            rw [Bool.and_eq_true] at hop
            have hn : len = 3 := beq_iff_eq.mp hop.1
            have ho := hop.2
            clear hop
            subst hn
            have mo := mono _ _ _ _ _ _ e
            exact nk_new C hci hd ho ⟨by show _ ≤ hf.length - h0; omega, by show _ ≤ mk_sz hf - sz0; omega⟩ (ih _ _ _ _ _ _ hg e C hlk hrt)
          · cases e
        · cases e
      · have hn : len = 2 := beq_iff_eq.mp hop
        subst hn
        split at e
        · next x st =>
          split at e
          · next hx =>
            have mo := mono _ _ _ _ _ _ e
            exact nk_newa C hd hx ⟨by show _ ≤ hf.length - h0; omega, by show _ ≤ mk_sz hf - sz0; omega⟩ (ih _ _ _ _ _ _ hg e C hlk hrt)
          · cases e
        · cases e
      · next x =>
        have hop : (len == 4 && mk_CL.contains (g, x, "[[I")) = true := hop
        rw [Bool.and_eq_true] at hop
        have hn : len = 4 := beq_iff_eq.mp hop.1
        have ho := hop.2
        clear hop
        subst hn
        split at e
        · next k z st =>
          split at e
          · next hx =>
            have mo := mono _ _ _ _ _ _ e
            exact nk_mna C hd ho hx rfl ⟨by show _ ≤ hf.length - h0; omega, by show _ ≤ mk_sz hf - sz0; omega⟩ (ih _ _ _ _ _ _ hg e C hlk hrt)
          · cases e
        · cases e
      · next x =>
        have hop : (len == 3 && mk_CL.contains (g, x, "CloudStrings$Sheet")) = true := hop
        rw [Bool.and_eq_true] at hop
        have hn : len = 3 := beq_iff_eq.mp hop.1
        have ho := hop.2
        clear hop
        subst hn
        split at e
        · next y st =>
          split at e
          · next hx =>
            have mo := mono _ _ _ _ _ _ e
            exact nk_newq C hd ho hx ⟨by show _ ≤ hf.length - h0; omega, by show _ ≤ mk_sz hf - sz0; omega⟩ (ih _ _ _ _ _ _ hg e C hlk hrt)
          · cases e
        · cases e
      · next x =>
        split at e
        · next v r st ci k =>
          split at e
          · next hc =>
            have hop : (len == 3 && mk_FL.contains (g, x, ci, k) && mj_cs_ ci == mj_cs_ g && Nat.blt k (mj_cl.getD ci ("", mj_T0, 0)).2.2) = true := hop
            rw [Bool.and_eq_true, Bool.and_eq_true, Bool.and_eq_true] at hop
            obtain ⟨⟨⟨o1, o2⟩, o3⟩, o4⟩ := hop
            have hn : len = 3 := beq_iff_eq.mp o1
            subst hn
            have o5 := mj_blt o4
            have hci : ci < 8 := by
              rcases Nat.lt_or_ge ci 8 with z | z
              · exact z
              · rw [List.getD_eq_getElem?_getD, List.getElem?_eq_none (by show 8 ≤ ci; omega)] at o5
                exact absurd o5 (Nat.not_lt_zero k)
            exact nk_put C hd o2 (beq_iff_eq.mp o3) o5 hci hc (ih _ _ _ _ _ _ hg e C hlk hrt)
          · cases e
        · cases e
      · next x =>
        split at e
        · next r st ci k =>
          split at e
          · next hc =>
            split at e
            · next z hz =>
              have hop : (len == 3 && mk_FL.contains (g, x, ci, k) && Nat.blt k (mj_cl.getD ci ("", mj_T0, 0)).2.2) = true := hop
              rw [Bool.and_eq_true, Bool.and_eq_true] at hop
              obtain ⟨⟨o1, o2⟩, o4⟩ := hop
              have hn : len = 3 := beq_iff_eq.mp o1
              subst hn
              have o5 := mj_blt o4
              have hci : ci < 8 := by
                rcases Nat.lt_or_ge ci 8 with z | z
                · exact z
                · rw [List.getD_eq_getElem?_getD, List.getElem?_eq_none (by show 8 ≤ ci; omega)] at o5
                  exact absurd o5 (Nat.not_lt_zero k)
              exact nk_get C hd o2 o5 hci hc hz (ih _ _ _ _ _ _ hg e C hlk hrt)
            · cases e
          · cases e
        · cases e
      · have hn : len = 1 := beq_iff_eq.mp hop
        subst hn
        split at e
        · next v j r st =>
          split at e
          · next hc => exact nk_aast C hd hc (ih _ _ _ _ _ _ hg e C hlk hrt)
          · cases e
        · cases e
      · have hn : len = 1 := beq_iff_eq.mp hop
        subst hn
        split at e
        · next v j r st =>
          split at e
          · next hc => exact nk_iast C hd hc (ih _ _ _ _ _ _ hg e C hlk hrt)
          · cases e
        · cases e
      · next x =>
        split at e
        · next r st =>
          split at e
          · next hc =>
            have hop : (len == 3 && mk_OL.contains (g, x)) = true := hop
            rw [Bool.and_eq_true] at hop
            have hn : len = 3 := beq_iff_eq.mp hop.1
            have ho := hop.2
            clear hop
            subst hn
            intro hl hv g1 g2 ad H locs la ha hP hD hS hL
            have hdp : 1 ≤ mk_dp g := by
              rcases (by omega : g = 0 ∨ g = 1 ∨ g = 2 ∨ g = 3 ∨ g = 4 ∨ g = 5 ∨ g = 6 ∨ g = 7) with rfl | rfl | rfl | rfl | rfl | rfl | rfl | rfl <;> decide
            refine W.objInit C.1 C.2.1 C.2.2.2.1 (C.2.2.2.2.1 _ (mk_OL_ok _ (List.mem_map.mpr ⟨_, List.contains_iff_mem.mp ho, rfl⟩))) (C.2.2.2.2.1 _ (mk_OB_ok _ (by simp))) (C.2.2.2.2.1 _ mk_OC_ok) rfl (by rw [C.2.2.1]; exact hL.1) rfl hd hdp (by show 2 * 0 + ((st.map (mk_rv ad)).map fun v => v.category).sum + 12 ≤ 30 * mk_dp g; rw [mk_cat_sum]; omega) ?_
            exact ih _ _ _ _ _ _ hg e C hlk hrt hl ⟨⟨hv.1.1, fun k hk => hv.1.2 k (List.mem_cons_of_mem _ hk)⟩, hv.2⟩ g1 g2 ad H locs la ha hP hD hS hL
          · cases e
        · next g' r st =>
          split at e
          · next hc =>
            split at e
            · next h1 e1 =>
              have hop : (len == 3 && mk_NL.contains (g, x, g')) = true := hop
              rw [Bool.and_eq_true] at hop
              have hn : len = 3 := beq_iff_eq.mp hop.1
              have ho := hop.2
              clear hop
              subst hn
              have mo := mono _ _ _ _ _ _ e
              intro hl hv
              have iv := inv _ _ _ _ _ _ e1 ⟨⟨fun k hk => (List.mem_cons.mp hk).elim (fun z => by cases z; exact hc.1) (fun z => by cases (List.eq_of_mem_replicate z)), fun k hk => by cases hk⟩, hv.2⟩
              exact nk_call C rfl hd ho hc.2.2.2.1 ⟨hc.1, hc.2.1, hc.2.2.1⟩ hc.2.2.2.2.1 hc.2.2.2.2.2 (fun ad => mk_met ih hc.2.2.2.1 hc.1 hv.2 e1 l D X Hb ad) iv ⟨Nat.le_refl _, Nat.le_refl _, by show _ ≤ hf.length - h0; omega, by show _ ≤ mk_sz hf - sz0; omega⟩ (ih _ _ _ _ _ _ hg e C hlk hrt) hl hv
            · cases e
          · cases e
        · cases e
      · have hn : len = 1 := beq_iff_eq.mp hop
        subst hn
        split at e
        · cases e
          exact fun hl hv g1 g2 ad H locs la ha hP hD hS hL => W.vret C.1 C.2.1 hrt (fun t ht _ => ⟨rfl, ⟨ad, ha, by rw [ht]; exact hP, hD⟩, hS.F ht⟩) (fun q hq => hS.2.2 q hq) hd hlk
        · cases e
      · cases e
end
section
/-! THE CLAIM OUT OF ONE WALK OF THE LAW'S BODY. Your part is whole_start (and what it stands on); all else here is the same for every law, but numbers. -/
def R_law : String := "CloudStringsLaw"
def lw_P (b : Addr) (xs : List Int32) (args : Array Value) (s : State) : Prop := args = #[.ref b] ∧ s.IntsAt b xs ∧ xs.length ≤ 260 ∧ (Jvm.Cond.and given_1 narrow_1).before args s = true
def lw_Q (_ : Array Value) (s : State) (o : Outcome) (t : State) : Prop := o = .returned (some (.int 1)) ∧ Framed s o t [] 600000 7302250
def lw_Z (below : List Frame) (a : Array Value) (s : State) : State → Prop := fun t => ∃ o, t.status = .running ∧ Ended t below o ∧ lw_Q a s o t
/-- the law's own end, with 1 on the stack, nothing written that was there before, its room as the claim has it -/
theorem lw_ret {p : Program} {l : Launch} {e : Env} {s : State} {m : MethodId} {below : List Frame} {meth : Method} {c : Code} {b : Nat} (hx : p.tables.exec = Jvm.exec) (hb : c.code = code) (hr : meth.sig.returnType = ret) (hlocks : meth.locks = false) {pc : Nat} {H : Heap} {ls : Array Slot} (hdg : decode code pc = .ok (.ireturn, 1)) : W p l e room_1 s m #[Value.ref b] below meth c H [] 600000 7302250 (lw_Z below #[Value.ref b] s) (F0 m pc ls [.int 1]) := by
  intro T hT X
  obtain ⟨fs, hret, hrun, hended, hW, hframe⟩ := X.leave (v := some (.int 1)) (hlocks := hlocks) (fun h => by rw [hr] at h; cases h)
  have hmeth' : T.vm.method? m = some meth := X.method'
  refine ⟨T.setFrames fs, ?_, .returned (some (.int 1)), hrun, hended, rfl, ⟨_, rfl⟩, hW, hframe⟩
  jvm_step X.here [X.here.top, hx, hb, hdg, hmeth', hr, ret, narrow_b1]
  (try refine ⟨rfl, ?_⟩); (try refine ⟨rfl, ?_⟩)
  first | (intro acts; rw [hret _ acts rfl rfl rfl]) | rw [hret _ _ rfl rfl rfl]
  exact Steps.refl _
/-- what holds at the law's entry: the machine, the code, the tables' words (any of lw_tbl by 'hts w (by decide +kernel)'), the script of L ints xs at the cell b, what the Statement gives of the start (any of its parts by flat_of_before) -/
def lw_At (p : Program) (s : State) (m : MethodId) (meth : Method) (c : Code) (b L : Nat) (xs : Nat → Int32) : Prop :=
  p.tables.exec = Jvm.exec ∧ c.code = code ∧ meth.sig.returnType = ret ∧ c.maxLocals = 17 ∧ s.vm.findClass R_law = some m.cls ∧ (∀ w ∈ lw_tbl, w.before #[Value.ref b] s = true) ∧ va_X b L xs s s.heap ∧ b < s.heap.size ∧ meth.locks = false ∧ (Jvm.Cond.and given_1 narrow_1).before #[Value.ref b] s = true

/-! the law's start -/
theorem lw_nN {w : Cond} (hw : w.onTables = true) {s : State} {A : Array Value} (h : w.before A s = true) : w.before #[] s = true := va_tabs hw rfl h
set_option maxHeartbeats 4000000 in
theorem lw_K {s : State} {b : Nat} (hts : ∀ w ∈ lw_tbl, w.before #[Value.ref b] s = true) : ∃ (D : va_G) (X : mj_X), mk_K D X s := by
  obtain ⟨cI, kI, compI, i1, i2, i3⟩ := Cond.arrayClass_spec (hts (.arrayClass .int) (by decide +kernel))
  obtain ⟨compA, cA, kA, a1, -, a3, a4, a5⟩ := arrayOverA_spec (t := .int) (hts (.arrayOver (.array .int)) (by decide +kernel))
  obtain ⟨compS, cS, kS, s1, -, s3, s4, s5⟩ := Cond.arrayOver_spec (n := "CloudStrings$Sheet") (hts (.arrayOver (.object "CloudStrings$Sheet")) (by decide +kernel))
  have hWA : ∀ w ∈ mj_WA, w.before #[Value.ref b] s = true := fun w hw => hts w (List.mem_filter.mp hw).1
  have hk : ∀ c : Nat, ∃ (cC : ClassId) (iS : Nat → Nat), ∀ q, mj_cl[c]? = some q → u_Kn s q.1 q.2.1 q.2.2 cC iS := fun c => by
    cases hc : mj_cl[c]? with
    | none => exact ⟨cI, fun _ => 0, fun q hq => by cases hq⟩
    | some q =>
      have h9 : c < 8 := (List.getElem?_eq_some_iff.mp hc).1
      obtain ⟨Cn, Tn, N, hcc, hT, hN, hcn⟩ := mj_cl_at h9
      cases hc.symm.trans hcc
      have hi := mk_IN_ok _ (List.mem_map.mpr ⟨c, List.mem_range.mpr h9, rfl⟩)
      rw [hcn, hN] at hi
      obtain ⟨cC, iS, h⟩ := u_known hWA (mj_cl_u _ (List.mem_of_getElem? hc)) (hWA _ hi)
      exact ⟨cC, iS, fun q hq => by cases hq; exact h⟩
  refine ⟨(fun c => Classical.choose (hk c), fun c => Classical.choose (Classical.choose_spec (hk c))), (cI, cA, cS), ⟨fun c q hq => Classical.choose_spec (Classical.choose_spec (hk c)) q hq, fun k q hq => ?_⟩, ?_, ?_, fun e he => va_Nw.of rfl (hts _ (mk_NL_ok _ (List.mem_map.mpr ⟨e, he, rfl⟩)))⟩
  · rcases k with _ | _ | _ | k
    · cases hq
      exact ⟨fun n z => ⟨fun k h => (by cases h), kI, i2, compI, i3⟩, i1⟩
    · cases hq
      exact ⟨fun n z => ⟨fun k h => (by cases h), kA, a3, compA, a4⟩, a5⟩
    · cases hq
      exact ⟨fun n z => ⟨fun k h => (by cases h), kS, s3, compS, s4⟩, kS, compS, s3, s4, s1, s5⟩
    · cases hq
  · exact va_AO.of (hts (.arrayOver (.object "CloudStrings$Sheet")) (by decide +kernel))
  · exact hts (.arrayOver (.array .int)) (by decide +kernel)
/-- the static rows -/
theorem lw_st {s : State} {b : Nat} {nm : String} {f : Nat → Int32} {A : Nat → Prop} (hl : (Cond.laysStatic "CloudStrings" nm "[I").before #[Value.ref b] s = true) (hi : (Cond.initialized "CloudStrings").before #[Value.ref b] s = true) (ha : (Cond.arrayOf (.static "CloudStrings" nm "[I") .int).before #[Value.ref b] s = true)
    (hn : (Cond.eq (.length (.static "CloudStrings" nm "[I")) (.int 4)).before #[Value.ref b] s = true) (h0 : (Cond.eq (.elem (.static "CloudStrings" nm "[I") (.int 0)) (.int (f 0))).before #[Value.ref b] s = true) (h1 : (Cond.eq (.elem (.static "CloudStrings" nm "[I") (.int 1)) (.int (f 1))).before #[Value.ref b] s = true)
    (h2 : (Cond.eq (.elem (.static "CloudStrings" nm "[I") (.int 2)) (.int (f 2))).before #[Value.ref b] s = true) (h3 : (Cond.eq (.elem (.static "CloudStrings" nm "[I") (.int 3)) (.int (f 3))).before #[Value.ref b] s = true) (hA : ∀ a : Nat, a < s.heap.size → ¬ A a) :
    ∃ t : Nat, va_Z "CloudStrings" nm "[I" (.ref t) A s s.heap ∧ va_T .int t 4 (fun j => .int (f j)) A s s.heap := by
  obtain ⟨t, ht, hT⟩ := va_Tof (N := 4) (f := fun j => .int (f j)) (by decide) ha (va_eqt hn) (fun j hj => by
    rcases (by omega : j = 0 ∨ j = 1 ∨ j = 2 ∨ j = 3) with rfl | rfl | rfl | rfl
    · exact va_eqt h0
    · exact va_eqt h1
    · exact va_eqt h2
    · exact va_eqt h3) hA
  exact ⟨t, va_Zof hl hi ht hA, hT⟩
/-! the law's constructors made: the memory -/
def lw_rho (ad : Nat → Nat) (tW tR b : Nat) (q : mj_Id) : Nat := if q = (40, 80, 0) then tW else if q = (40, 81, 0) then tR else if q = (41, 82, 0) then b else ad (mk_pos q)
def lw_M (L : Nat) (xs : Nat → Int32) : mj_M := fun i t c j => if i = 40 then (if t = 80 then mj_Wt j else mj_Rn j) else if i = 41 then (if t = 83 then nI L else xs j) else mk_M0 i t c j
theorem lw_cM {L : Nat} {xs : Nat → Int32} (hL : L ≤ 260) : mj_cM L xs (lw_M L xs) := ⟨fun j _ => rfl, fun j _ => rfl, nI_clamp (by omega), fun j _ => rfl⟩
theorem lw_M_lt {L : Nat} {xs : Nat → Int32} {i t c j : Nat} (h : i < 40) : lw_M L xs i t c j = mk_M0 i t c j := by
  unfold lw_M
  rw [if_neg (by omega), if_neg (by omega)]
theorem lw_rho_in {ad : Nat → Nat} {tW tR b : Nat} {q : mj_Id} (h : q ∈ mj_ids) : lw_rho ad tW tR b q = ad (mk_pos q) := by
  have h1 := (mj_kd_of h).2.2.2.2.2.1
  unfold lw_rho
  rw [if_neg (fun e => by rw [e] at h1; exact absurd h1 (by decide)), if_neg (fun e => by rw [e] at h1; exact absurd h1 (by decide)), if_neg (fun e => by rw [e] at h1; exact absurd h1 (by decide))]
theorem lw_pos_lt {q : mj_Id} (h : q ∈ mj_ids) : mk_pos q < mk_h2.length := by
  have h1 := List.all_eq_true.mp mk_is_ok q h
  unfold mk_is at h1
  exact mj_blt (Bool.and_eq_true _ _ ▸ h1).1
theorem lw_nd {α : Type} {f : mj_Id → α} : ∀ (l : List mj_Id), (l.map f).Nodup → ∀ p ∈ l, ∀ q ∈ l, f p = f q → p = q
  | [], _, _, hp, _, _, _ => by cases hp
  | x :: l, h, p, hp, q, hq, e => by
    rw [List.map_cons, List.nodup_cons] at h
    rcases List.mem_cons.mp hp with e1 | h1
    · rcases List.mem_cons.mp hq with e2 | h2
      · exact e1.trans e2.symm
      · exact absurd (List.mem_map.mpr ⟨q, h2, e.symm.trans (congrArg f e1)⟩) h.1
    · rcases List.mem_cons.mp hq with e2 | h2
      · exact absurd (List.mem_map.mpr ⟨p, h1, e.trans (congrArg f e2)⟩) h.1
      · exact lw_nd l h.2 p h1 q h2 e
theorem lw_Dd {D : va_G} {X : mj_X} {Hb : Heap} {ad : Nat → Nat} {tW tR b : Nat} (hD : va_D (mj_A Hb) (mk_ws ad X mk_h2)) : mj_Dd (lw_rho ad tW tR b) Hb := by
  refine ⟨fun p hp q hq e => ?_, fun q hq => ?_⟩
  · rw [lw_rho_in hp, lw_rho_in hq] at e
    exact lw_nd mj_ids mk_pos_nd p hp q hq (hD.1 _ _ _ _ (mk_ws_at (lw_pos_lt hp)) (mk_ws_at (lw_pos_lt hq)) e)
  · rw [lw_rho_in hq]
    exact hD.2 _ _ (mk_ws_at (lw_pos_lt hq))
theorem lw_atP {D : va_G} {X : mj_X} {H : Heap} {ad : Nat → Nat} {h : List mk_C} {i : Nat} (hP : va_P D mj_cl (mk_ws ad X h) H) (hi : i < h.length) : va_at D mj_cl (ad i, mk_e ad X (mk_at h i)) H := hP i _ (mk_ws_at hi)
theorem lw_pic {D : va_G} {X : mj_X} {H : Heap} {ad : Nat → Nat} {tW tR b L : Nat} {xs : Nat → Int32} (hP : va_P D mj_cl (mk_ws ad X mk_h2) H) : va_P D mj_cl (mj_ws (lw_rho ad tW tR b) X (lw_M L xs)) H := by
  intro i x hx
  obtain ⟨q, hq, rfl⟩ := mj_ws_get hx
  have hm := List.mem_of_getElem? hq
  have hl := lw_pos_lt hm
  have h2 := List.all_eq_true.mp mk_is_ok q hm
  unfold mk_is at h2
  generalize mk_h2 = h at hP hl h2
  have h1 := lw_atP hP hl
  rw [lw_rho_in hm]
  dsimp only at h2
  rw [Bool.and_eq_true] at h2
  have h2 := h2.2
  generalize mk_at h (mk_pos q) = c at h1 h2
  unfold mj_en
  by_cases k0 : mj_kind q.2.1 = 0
  · rw [if_pos k0] at h2 ⊢
    simp only [Bool.and_eq_true, beq_iff_eq] at h2
    obtain ⟨⟨⟨c1, c2⟩, c3⟩, c4⟩ := h2
    have c4 := List.all_eq_true.mp c4
    have e : mk_e ad X c = .inr (mj_ci q.2.1, (List.range (mj_nf q.2.1)).map (mj_fv (lw_rho ad tW tR b) (lw_M L xs) q)) := by
      unfold mk_e
      rw [if_pos c1, c2]
      refine congrArg (fun z => (Sum.inr (mj_ci q.2.1, z) : va_E)) (List.ext_getElem? fun k => ?_)
      rw [List.getElem?_map, List.getElem?_map]
      by_cases hk : k < mj_nf q.2.1
      · have h4 := c4 k (List.mem_range.mpr hk)
        rw [List.getElem?_range hk]
        have hfd := (mj_fd_of hm k0).2 k hk
        unfold mj_fv
        split at h4
        · next l x e1 e2 =>
          rw [e1] at hfd
          rw [e2]
          have := of_decide_eq_true h4
          rw [Option.map_some, Option.map_some]
          rw [e1]
          show some (Value.int x) = some (Value.int (lw_M L xs l.1 l.2.1 l.2.2.1 l.2.2.2))
          rw [lw_M_lt (mj_own_lo hm hfd.1).2.1, this]
        · next q' z e1 e2 =>
          rw [e1] at hfd
          rw [e2]
          have := beq_iff_eq.mp h4
          rw [Option.map_some, Option.map_some]
          rw [e1]
          show some (Value.ref (ad z)) = some (Value.ref (lw_rho ad tW tR b q'))
          rw [lw_rho_in hfd, this]
        · cases h4
      · rw [List.getElem?_eq_none (by omega), List.getElem?_eq_none (by rw [List.length_range]; omega)]
        rfl
    rw [← e]
    exact h1
  · rw [if_neg k0] at h2 ⊢
    by_cases k1 : mj_kind q.2.1 = 1
    · rw [if_pos k1] at h2 ⊢
      simp only [Bool.and_eq_true, beq_iff_eq] at h2
      obtain ⟨⟨c1, c3⟩, c4⟩ := h2
      have c4 := List.all_eq_true.mp c4
      have e : mk_e ad X c = .inl (X.1, c.2.2.length, .inl (mk_int c.2.2)) := by
        unfold mk_e
        rw [if_neg (by omega), if_pos c1]
      rw [e, c3] at h1
      have h1 : H[ad (mk_pos q)]? = some (vp_cell X.1 (mj_ln q, .inl (mk_int c.2.2))) := h1
      show H[ad (mk_pos q)]? = some (vp_cell X.1 (mj_ln q, .inl (mj_rd (lw_M L xs) q)))
      rw [h1, vp_cell_i, vp_cell_i]
      refine congrArg some (mj_arrV_congr fun j hj => ?_)
      have h4 := c4 j (List.mem_range.mpr hj)
      have hlo := (mj_own_lo hm (mj_aloc_lo k1 hj)).2.1
      refine congrArg Value.int ?_
      unfold mk_int
      split at h4
      · next x e2 =>
        rw [e2]
        have := of_decide_eq_true h4
        show x = mj_rd (lw_M L xs) q j
        rw [← this]
        unfold mj_rd
        rw [lw_M_lt hlo]
      · cases h4
    · rw [if_neg k1] at h2 ⊢
      simp only [Bool.and_eq_true, beq_iff_eq] at h2
      obtain ⟨⟨c1, c3⟩, c4⟩ := h2
      have c4 := List.all_eq_true.mp c4
      have hel := (mj_el_of hm).2
      have e : mk_e ad X c = .inl (if mj_kind q.2.1 = 2 then X.2.1 else X.2.2, mj_ol q, .inr (.inr (.inr (.inr (fun j => if j < mj_ol q then (mj_el q j).map (lw_rho ad tW tR b) else none))))) := by
        unfold mk_e
        rw [if_neg (by omega), if_neg (by omega), c1, c3]
        refine congrArg (fun z => (Sum.inl (if mj_kind q.2.1 = 2 then X.2.1 else X.2.2, mj_ol q, Sum.inr (Sum.inr (Sum.inr (Sum.inr z)))) : va_E)) (funext fun j => ?_)
        unfold mk_ref
        by_cases hj : j < mj_ol q
        · rw [if_pos hj]
          have h4 := c4 j (List.mem_range.mpr hj)
          obtain ⟨q', hq1, hq2⟩ := hel j hj
          split at h4
          · next q2 z e1 e2 =>
            rw [e1] at hq1
            cases hq1
            rw [e1, e2]
            have := beq_iff_eq.mp h4
            show some (ad z) = some (lw_rho ad tW tR b q')
            rw [lw_rho_in hq2, this]
          · cases h4
        · rw [if_neg hj, List.getElem?_eq_none (by omega)]
          rfl
      rw [← e]
      exact h1
/-! the script's numbers, as the law reads them -/
def sq (L : Nat) (xs : Nat → Int32) (k : Nat) : Int32 := (if k < L then xs k else nI 15485957 * nI k + nI 107) &&& nI 2147483647
def sqN (L : Nat) (xs : Nat → Int32) : Int32 := sq L xs 0 % nI 7
def sqM (L : Nat) (xs : Nat → Int32) : Int32 := (sq L xs 0 >>> (nI 3 &&& 31)) % nI 5
def sqW (L : Nat) (xs : Nat → Int32) : Int32 := (sq L xs 0 >>> (nI 6 &&& 31)) % nI 6
def sqw (L : Nat) (xs : Nat → Int32) (k : Nat) : Int32 := (sq L xs 1 >>> ((nI 4 * nI k) &&& 31)) % nI 16
def sqs (L : Nat) (xs : Nat → Int32) : Nat → Int32
  | 0 => nI 0
  | k + 1 => if sqw L xs k / nI 4 < sqs L xs k then sqs L xs k else sqw L xs k / nI 4
def sqS (L : Nat) (xs : Nat → Int32) : Int32 := sqs L xs (sqW L xs).toNatClampNeg
end
section

/-! the law's walk to its loop -/
theorem lw_d0 : decode code 0 = .ok (.new 25, 3) := by decide +kernel
theorem lw_d3 : decode code 3 = .ok (.dup, 1) := by decide +kernel
theorem lw_d4 : decode code 4 = .ok (.invokespecial 62, 3) := by decide +kernel
theorem lw_d7 : decode code 7 = .ok (.astore_n 1, 1) := by decide +kernel
theorem lw_d8 : decode code 8 = .ok (.bipush 55, 2) := by decide +kernel
theorem lw_d10 : decode code 10 = .ok (.newarray .int, 2) := by decide +kernel
theorem lw_d12 : decode code 12 = .ok (.astore_n 2, 1) := by decide +kernel
theorem lw_d668 : decode code 668 = .ok (.new 25, 3) := by decide +kernel
theorem lw_d671 : decode code 671 = .ok (.dup, 1) := by decide +kernel
theorem lw_d672 : decode code 672 = .ok (.invokespecial 62, 3) := by decide +kernel
theorem lw_d675 : decode code 675 = .ok (.astore 8, 2) := by decide +kernel
theorem lw_d677 : decode code 677 = .ok (.bipush 55, 2) := by decide +kernel
theorem lw_d679 : decode code 679 = .ok (.newarray .int, 2) := by decide +kernel
theorem lw_d681 : decode code 681 = .ok (.astore 9, 2) := by decide +kernel
theorem lw_c7 : Cond.classLink R_law 25 (mj_cs_ 7) ∈ lw_tbl := by decide +kernel
theorem lw_m9 : Cond.methodLink R_law 62 (mk_y 7) ∈ lw_tbl := by decide +kernel
theorem lw_aI : Cond.arrayClass .int ∈ lw_tbl := by decide +kernel
/-- the law's own facts -/
def lw_LX (p : Program) (s : State) (m : MethodId) (c : Code) (b : Nat) (D : va_G) (X : mj_X) : Prop := p.tables.exec = Jvm.exec ∧ c.code = code ∧ c.maxLocals = 17 ∧ s.vm.findClass R_law = some m.cls ∧ (∀ w ∈ lw_tbl, w.before #[Value.ref b] s = true) ∧ mk_K D X s
section LWN
variable {p : Program} {l : Launch} {e : Env} {s : State} {m : MethodId} {below : List Frame} {meth : Method} {c : Code} {Q : State → Prop} {b : Nat} {D : va_G} {X : mj_X} {pc : Nat} {ad : Nat → Nat} {h : List mk_C} {H : Heap} {locs : List Loc} {la : Array Slot} {cells slots : Nat}
theorem lw_new (C : lw_LX p s m c b D X) {i ci : Nat} {st : List Value} (hg : ci < 8) (hw : mk_wf h) (hd : decode code pc = .ok (.new i, 3)) (hcl : Cond.classLink R_law i (mj_cs_ ci) ∈ lw_tbl) (hP : va_P D mj_cl (mk_ws ad X h) H) (hD : va_D (mj_A s.heap) (mk_ws ad X h)) (hS : va_S (mj_A s.heap) s.heap H locs)
    (hR : cells + 1 ≤ 600000 ∧ slots + mk_sz [(0, ci, mk_df.getD ci [])] ≤ 7302250)
    (kk : ∀ (ad' : Nat → Nat) (H1 : Heap), (∀ k, k < h.length → ad' k = ad k) → va_P D mj_cl (mk_ws ad' X (h ++ [(0, ci, mk_df.getD ci [])])) H1 → va_D (mj_A s.heap) (mk_ws ad' X (h ++ [(0, ci, mk_df.getD ci [])])) → va_S (mj_A s.heap) s.heap H1 locs → W p l e room_1 s m #[Value.ref b] below meth c H1 locs (cells + 1) (slots + mk_sz [(0, ci, mk_df.getD ci [])]) Q (F0 m (pc + 3) la (.ref (ad' h.length) :: st))) : W p l e room_1 s m #[Value.ref b] below meth c H locs cells slots Q (F0 m pc la st) := by
  obtain ⟨Cn, T, N, hc, hT, hN, hcn⟩ := mj_cl_at hg
  have hdf := mk_df_no hg
  have hno : ∀ v ∈ mk_df.getD ci [], ∀ k, v ≠ .inr (some k) := fun v hm k e => hdf.1 k (e ▸ hm)
  have hw2 : Cond.instantiable Cn N ∈ mj_WA := by
    have := mk_IN_ok _ (List.mem_map.mpr ⟨ci, List.mem_range.mpr hg, rfl⟩)
    rwa [hcn, hN] at this
  have hw3 : Cond.initialized Cn ∈ mj_WA := hcn ▸ mk_IT_ok _ (List.mem_map.mpr ⟨ci, List.mem_range.mpr hg, rfl⟩)
  rw [hcn] at hcl
  have hdv := List.all_eq_true.mp mk_df_v ci (List.mem_range.mpr hg)
  generalize mk_df.getD ci [] = dl at kk hdf hno hdv hR ⊢
  have hsz : mk_sz [(0, ci, dl)] = N := by rw [← hN, ← hdf.2]; simp [mk_sz]
  rw [hsz] at hR
  refine va_new (ci := ci) (fs := (dl).map (mk_rv ad)) (Ts := lw_tbl) C.1 C.2.1 C.2.2.2.2.1 (fun w hw => (List.mem_filter.mp (mj_cl_u _ (List.mem_of_getElem? hc) w hw)).1) (fun j => (parseFieldDescriptor (T j).2.2.1).getD .int) (mj_cl_t _ (List.mem_of_getElem? hc)) C.2.2.2.1 (C.2.2.2.2.1 _ hcl) (C.2.2.2.2.1 _ (List.mem_filter.mp hw2).1) (C.2.2.2.2.1 _ (List.mem_filter.mp hw3).1) C.2.2.2.2.2.1 hP hD hS (fun q hq => hq) hc (fun j hj => ?_) hR.1 hR.2 hd (fun q H1 hP1 hD1 hS1 => ?_)
  · have h2 := of_decide_eq_true (List.all_eq_true.mp hdv j (List.mem_range.mpr (by rw [hN]; exact hj)))
    unfold mk_fty at h2
    rw [hT] at h2
    rw [h2]
    unfold vp_V
    rw [List.getD_eq_getElem?_getD, List.getD_eq_getElem?_getD, List.getElem?_map]
    have hjl : j < (dl).length := by rw [hdf.2, hN]; exact hj
    rw [List.getElem?_eq_getElem hjl]
    exact (mk_rv_no (hno _ (List.getElem_mem hjl))).symm
  · have he : ∀ k, k < h.length → (fun k => if k = h.length then q else ad k) k = ad k := fun k hk => if_neg (by omega)
    have ews : mk_ws (fun k => if k = h.length then q else ad k) X (h ++ [(0, ci, dl)]) = mk_ws ad X h ++ [(q, .inr (ci, (dl).map (mk_rv ad)))] := by
      rw [mk_ws_app, ← mk_ws_ext hw (fun k hk => (he k hk).symm)]
      have e2 : (dl).map (mk_rv (fun k => if k = h.length then q else ad k)) = (dl).map (mk_rv ad) := by
        apply List.map_congr_left
        intro v hm
        exact (mk_rv_no (hno v hm)).trans (mk_rv_no (hno v hm)).symm
      rw [← e2]
      simp [mk_at, mk_e, List.range_succ]
    have hfin := kk (fun k => if k = h.length then q else ad k) H1 he (by rw [ews]; exact hP1) (by rw [ews]; exact hD1) hS1
    rw [hsz] at hfin
    rw [if_pos rfl] at hfin
    exact hfin
theorem lw_inv (C : lw_LX p s m c b D X) {i r g' n : Nat} {h1 : List mk_C} {st : List mk_V} (hg' : g' < 8) (hd : decode code pc = .ok (.invokespecial i, 3)) (hl : Cond.methodLink R_law i (mk_y g') ∈ lw_tbl) (hr : r < h.length) (hw : mk_wf h) (e1 : mk_go n g' 0 (some (.inr (some r)) :: List.replicate (mk_mx g' - 1) none) [] h = some h1)
    (hP : va_P D mj_cl (mk_ws ad X h) H) (hD : va_D (mj_A s.heap) (mk_ws ad X h)) (hS : va_S (mj_A s.heap) s.heap H locs) (hla : la.size = 17) (hst : st.length ≤ 8) (hR : mk_dp g' + 1 ≤ 10 ∧ 8 + (mk_mx g' + 11) + 30 * mk_dp g' ≤ 400) (hcs : cells + (h1.length - h.length) ≤ 600000 ∧ slots + (mk_sz h1 - mk_sz h) ≤ 7302250)
    (kk : ∀ (H1 : Heap) (locs1 : List Loc) (ad' : Nat → Nat), (∀ k, k < h.length → ad' k = ad k) → va_P D mj_cl (mk_ws ad' X h1) H1 → va_D (mj_A s.heap) (mk_ws ad' X h1) → va_S (mj_A s.heap) s.heap H1 locs1 → W p l e room_1 s m #[Value.ref b] below meth c H1 locs1 (cells + (h1.length - h.length)) (slots + (mk_sz h1 - mk_sz h)) Q (F0 m (pc + 3) la (st.map (mk_rv ad)))) : W p l e room_1 s m #[Value.ref b] below meth c H locs cells slots Q (F0 m pc la ((.inr (some r) :: st).map (mk_rv ad))) := by
  obtain ⟨-, y2, y3, y4, y5⟩ := mk_ydo hg'
  have hWA : ∀ w ∈ mj_WA, w.before #[Value.ref b] s = true := fun w hw => C.2.2.2.2.1 w (List.mem_filter.mp hw).1
  have cw := callB_of (R := room_1) (s := s) (args := #[Value.ref b]) (own := R_law) (index := i) (y := mk_y g') (bytes := mk_bc g') (maxL := mk_mx g') (ret := none) (ws := mk_wsf g') (rm := mk_rm g' (h1.length - h.length) (mk_sz h1 - mk_sz h)) (mc := h1.length - h.length) (ms := mk_sz h1 - mk_sz h) (ws' := mj_WA) 0 hWA (mk_good hg') rfl rfl rfl (hWA _ (mk_IT_ok _ (List.mem_map.mpr ⟨g', List.mem_range.mpr hg', rfl⟩))) (C.2.2.2.2.1 _ hl) ⟨y2, y3, y4⟩ hR
  have hrun := va_runI (rest := st.map (mk_rv ad)) (As := []) (b := ad r) (g := F0 m pc la ((.inr (some r) :: st).map (mk_rv ad))) (H := H) (locs := locs) (cells := cells) (slots := slots) (e := e) (below := below) (meth := meth) (nL := 17) (Ts := lw_tbl) ⟨C.1, C.2.1, C.2.2.1, C.2.2.2.1, C.2.2.2.2.1⟩ (mk_met (mk_main n) hg' hr hw e1 l D X s.heap ad) ⟨cw, rfl, hWA _ (mk_IM_ok _ (List.mem_map.mpr ⟨g', List.mem_range.mpr hg', rfl⟩))⟩ ⟨mk_blind, fun U hU hW => ⟨rfl, by rw [hU]; exact hP, hD, by rw [hU]; exact ⟨hS.1, hS.2.1, fun q hq => by cases hq⟩, mk_K.moved hW C.2.2.2.2.2⟩⟩ rfl rfl hla rfl (lv_room (by rw [mk_cat_sum]; exact hst)) hd hcs
  exact mk_run hrun hS (fun H1 locs1 ad' hea hP1 hD1 hS1 => kk H1 locs1 ad' hea hP1 hD1 hS1)
theorem lw_newa (C : lw_LX p s m c b D X) {st : List Value} (hw : mk_wf h) (hd : decode code pc = .ok (.newarray .int, 2)) (hP : va_P D mj_cl (mk_ws ad X h) H) (hD : va_D (mj_A s.heap) (mk_ws ad X h)) (hS : va_S (mj_A s.heap) s.heap H locs)
    (hR : cells + 1 ≤ 600000 ∧ slots + 55 ≤ 7302250)
    (kk : ∀ (ad' : Nat → Nat) (H1 : Heap), (∀ k, k < h.length → ad' k = ad k) → va_P D mj_cl (mk_ws ad' X (h ++ [(1, 0, List.replicate 55 (.inl 0))])) H1 → va_D (mj_A s.heap) (mk_ws ad' X (h ++ [(1, 0, List.replicate 55 (.inl 0))])) → va_S (mj_A s.heap) s.heap H1 locs → W p l e room_1 s m #[Value.ref b] below meth c H1 locs (cells + 1) (slots + 55) Q (F0 m (pc + 2) la (.ref (ad' h.length) :: st))) : W p l e room_1 s m #[Value.ref b] below meth c H locs cells slots Q (F0 m pc la (.int 55 :: st)) := by
  refine va_newa (atype := .int) (ty := .int) (N' := 55) (a0 := (55, .inl (fun _ => 0))) C.1 C.2.1 (C.2.2.2.2.1 _ lw_aI) rfl C.2.2.2.2.2.1 hP hD hS (fun q hq => hq) (fun _ => rfl) (by decide) rfl (by show 55 * 4 ≤ _; omega) (by exact hR.1) (by exact hR.2) hd (fun q cA H1 hK1 hP1 hD1 hS1 => ?_)
  have ecA : cA = X.1 := by
    have h1 : s.vm.findClass ("[" ++ FieldType.int.toString) = some cA := (hK1.2 3 _ rfl).2
    have h2 : s.vm.findClass ("[" ++ FieldType.int.toString) = some X.1 := (C.2.2.2.2.2.1.2 0 _ rfl).2
    exact Option.some.inj (h1.symm.trans h2)
  subst ecA
  have he : ∀ k, k < h.length → (fun k => if k = h.length then q else ad k) k = ad k := fun k hk => if_neg (by omega)
  have e0 : mk_int (List.replicate 55 (.inl 0)) = fun _ => 0 := by
    funext j
    unfold mk_int
    rw [List.getElem?_replicate]
    by_cases z : j < 55
    · rw [if_pos z]
    · rw [if_neg z]
  have ews : mk_ws (fun k => if k = h.length then q else ad k) X (h ++ [(1, 0, List.replicate 55 (.inl 0 : mk_V))]) = mk_ws ad X h ++ [(q, .inl (X.1, 55, .inl (fun _ => 0)))] := by
    rw [mk_ws_app, ← mk_ws_ext hw (fun k hk => (he k hk).symm)]
    generalize hz : (List.replicate 55 (.inl 0) : List mk_V) = z
    rw [hz] at e0
    have e1 : z.length = 55 := by rw [← hz, List.length_replicate]
    simp [mk_at, mk_e, List.range_succ, e0, e1]
  have hfin := kk (fun k => if k = h.length then q else ad k) H1 he (by rw [ews]; exact hP1) (by rw [ews]; exact hD1) hS1
  rw [if_pos rfl] at hfin
  exact hfin
theorem lw_sz55 {h : List mk_C} : mk_sz (h ++ [(1, 0, List.replicate 55 (.inl 0))]) = mk_sz h + 55 := by
  rw [mk_sz_app]
  congr 1
theorem lw_wf0 : mk_wf [(0, 7, mk_df.getD 7 [])] := fun c hc k hk => by
  rw [List.mem_singleton.mp hc] at hk
  exact ((mk_df_no (by decide : 7 < 8)).1 k hk).elim
/-- an object of the class, and a row of 55 numbers: made at two places of the law -/
theorem lw_mk (C : lw_LX p s m c b D X) {h1 : List mk_C} (e1 : mk_go 200 7 0 [some (.inr (some 0))] [] [(0, 7, mk_df.getD 7 [])] = some h1) {pc2 k1 : Nat} {T : List (Nat × Value)} (d0 : decode code pc = .ok (.new 25, 3)) (d3 : decode code (pc + 3) = .ok (.dup, 1)) (d4 : decode code (pc + 3 + 1) = .ok (.invokespecial 62, 3))
    (hS : va_S (mj_A s.heap) s.heap H locs) (hla : la.size = 17) (hn : cells + (h1.length + 1) ≤ 600000) (hz : slots + (mk_sz h1 + 55) ≤ 7302250)
    (st1 : ∀ (H2 : Heap) (locs2 : List Loc) (cells2 slots2 : Nat) (v : Nat), (∀ la2 : Array Slot, lv_has la2 17 ((k1, .ref v) :: T) → W p l e room_1 s m #[Value.ref b] below meth c H2 locs2 cells2 slots2 Q (F0 m pc2 la2 [.int 55])) → W p l e room_1 s m #[Value.ref b] below meth c H2 locs2 cells2 slots2 Q (F0 m (pc + 3 + 1 + 3) la [.ref v]))
    (d10 : decode code pc2 = .ok (.newarray .int, 2))
    (kk : ∀ (ad : Nat → Nat) (H1 : Heap) (locs1 : List Loc) (la1 : Array Slot), va_P D mj_cl (mk_ws ad X (h1 ++ [(1, 0, List.replicate 55 (.inl 0))])) H1 → va_D (mj_A s.heap) (mk_ws ad X (h1 ++ [(1, 0, List.replicate 55 (.inl 0))])) → va_S (mj_A s.heap) s.heap H1 locs1 → lv_has la1 17 ((k1, .ref (ad 0)) :: T) →
      W p l e room_1 s m #[Value.ref b] below meth c H1 locs1 (cells + (h1.length + 1)) (slots + (mk_sz h1 + 55)) Q (F0 m (pc2 + 2) la1 [.ref (ad h1.length)])) :
    W p l e room_1 s m #[Value.ref b] below meth c H locs cells slots Q (F0 m pc la []) := by
  have i1 := mk_inv _ _ _ _ _ _ _ e1 ⟨⟨fun k hk => (List.mem_cons.mp hk).elim (fun z => by cases z; exact Nat.one_pos) (fun z => by cases z), fun k hk => by cases hk⟩, lw_wf0⟩
  have hl0 : ([(0, 7, mk_df.getD 7 [])] : List mk_C).length = 1 := rfl
  have i12 := i1.2.1
  have i13 := i1.2.2
  refine lw_new (ad := fun _ => 0) (h := []) C (by decide : 7 < 8) (fun c hc => by cases hc) d0 lw_c7 (fun k q hq => by cases hq) ⟨fun i j p q hi => (by cases hi), fun k q hq => by cases hq⟩ hS ⟨by omega, by omega⟩ (fun ad1 H1 _ hP1 hD1 hS1 => ?_)
  refine lv_dup C.1 C.2.1 d3 rfl ?_
  refine lw_inv (h := [(0, 7, mk_df.getD 7 [])]) (st := [.inr (some 0)]) C (by decide : 7 < 8) d4 lw_m9 Nat.one_pos lw_wf0 e1 hP1 hD1 hS1 hla (by decide) ⟨by decide, by decide⟩ ⟨by omega, by omega⟩ (fun H2 locs2 ad2 he2 hP2 hD2 hS2 => ?_)
  rw [show ([.inr (some 0)] : List mk_V).map (mk_rv ad1) = [.ref (ad2 0)] by rw [he2 0 Nat.one_pos]; rfl]
  refine st1 _ _ _ _ _ (fun la2 z3 => ?_)
  refine lw_newa C i1.1 d10 hP2 hD2 hS2 ⟨by omega, by omega⟩ (fun ad3 H3 he3 hP3 hD3 hS3 => ?_)
  refine W.cs (cells' := cells + (h1.length + 1)) (slots' := slots + (mk_sz h1 + 55)) (by omega) (by omega) ?_
  exact kk ad3 H3 locs2 la2 hP3 hD3 hS3 (by rw [he3 0 (by omega)]; exact z3)
/-- from the entry to the law's first call -/
theorem lw_go1 (C : lw_LX p s m c b D X) {h1 : List mk_C} (e1 : mk_go 200 7 0 [some (.inr (some 0))] [] [(0, 7, mk_df.getD 7 [])] = some h1) (hn : h1.length + 1 ≤ 600000) (hz : mk_sz h1 + 55 ≤ 7302250)
    (kk : ∀ (ad : Nat → Nat) (H : Heap) (locs : List Loc) (la : Array Slot), va_P D mj_cl (mk_ws ad X (h1 ++ [(1, 0, List.replicate 55 (.inl 0))])) H → va_D (mj_A s.heap) (mk_ws ad X (h1 ++ [(1, 0, List.replicate 55 (.inl 0))])) → va_S (mj_A s.heap) s.heap H locs → lv_has la 17 [(2, .ref (ad h1.length)), (1, .ref (ad 0)), (0, .ref b)] → W p l e room_1 s m #[Value.ref b] below meth c H locs (h1.length + 1) (mk_sz h1 + 55) Q (F0 m 13 la [])) :
    W p l e room_1 s m #[Value.ref b] below meth c s.heap [] 0 0 Q (entryFrame m ([Value.ref b] : List Value).toArray 17) := by
  rw [lg_entry_eq]
  have hL0 := lv_entry [.ref b] (n := 17) (show 1 ≤ 17 by decide)
  have hL0 : lv_has _ 17 [(0, Value.ref b)] := hL0
  revert hL0
  generalize (lg_sl [Value.ref b] ++ List.replicate (17 - (lg_sl [Value.ref b]).length) Slot.unset).toArray = la0
  intro hL0
  refine lw_mk (pc2 := 10) (k1 := 1) (T := [(0, .ref b)]) C e1 lw_d0 lw_d3 lw_d4 va_S.rf hL0.1 (by omega) (by omega) (fun H2 locs2 cells2 slots2 v kk2 => ?_) lw_d10 (fun ad H1 locs1 la1 hP hD hS hL => ?_)
  · exact lv_astore_n C.1 C.2.1 lw_d7 rfl hL0 (by decide : 1 < 17) rfl (fun la1 hL1 => lv_bipush C.1 C.2.1 lw_d8 (v := 55) rfl (kk2 la1 hL1))
  · refine lv_astore_n C.1 C.2.1 lw_d12 rfl hL (by decide : 2 < 17) rfl (fun la2 hL2 => ?_)
    refine W.cs (cells' := h1.length + 1) (slots' := mk_sz h1 + 55) (by omega) (by omega) ?_
    exact kk ad H1 locs1 la2 hP hD hS hL2
/-- the second object and row -/
theorem lw_go2 (C : lw_LX p s m c b D X) {h1 : List mk_C} (e1 : mk_go 200 7 0 [some (.inr (some 0))] [] [(0, 7, mk_df.getD 7 [])] = some h1) (hn : cells + (h1.length + 1) ≤ 600000) (hz : slots + (mk_sz h1 + 55) ≤ 7302250) (hS : va_S (mj_A s.heap) s.heap H locs) {n4 n5 n7 : Int32} (hL : lv_has la 17 [(7, .int n7), (5, .int n5), (4, .int n4), (3, .int 1), (0, .ref b)])
    (kk : ∀ (ad : Nat → Nat) (H1 : Heap) (locs1 : List Loc) (la1 : Array Slot), va_P D mj_cl (mk_ws ad X (h1 ++ [(1, 0, List.replicate 55 (.inl 0))])) H1 → va_D (mj_A s.heap) (mk_ws ad X (h1 ++ [(1, 0, List.replicate 55 (.inl 0))])) → va_S (mj_A s.heap) s.heap H1 locs1 → lv_has la1 17 [(9, .ref (ad h1.length)), (8, .ref (ad 0)), (7, .int n7), (5, .int n5), (4, .int n4), (3, .int 1), (0, .ref b)] → W p l e room_1 s m #[Value.ref b] below meth c H1 locs1 (cells + (h1.length + 1)) (slots + (mk_sz h1 + 55)) Q (F0 m 683 la1 [])) :
    W p l e room_1 s m #[Value.ref b] below meth c H locs cells slots Q (F0 m 668 la []) := by
  refine lw_mk (pc2 := 679) (k1 := 8) (T := [(7, .int n7), (5, .int n5), (4, .int n4), (3, .int 1), (0, .ref b)]) C e1 lw_d668 lw_d671 lw_d672 hS hL.1 hn hz (fun H2 locs2 cells2 slots2 v kk2 => ?_) lw_d679 (fun ad H1 locs1 la1 hP hD hS hL => ?_)
  · exact lv_astore C.1 C.2.1 lw_d675 hL (by decide : 8 < 17) rfl (fun la1 hL1 => lv_bipush C.1 C.2.1 lw_d677 (v := 55) rfl (kk2 la1 hL1))
  · exact lv_astore C.1 C.2.1 lw_d681 hL (by decide : 9 < 17) rfl (fun la2 hL2 => kk ad H1 locs1 la2 hP hD hS hL2)
end LWN
end
section

/-! the law over the small machine -/
abbrev lw_PP : Type := Nat → mj_L → List mj_V → mj_M → Prop
def lw_Ps (P : lw_PP) : Prop := mj_Cl mj_c70 (mj_Sp 10) (0 < 10) P (fun v _ => v = some (.inl 1)) ∧ ∀ (pc : Nat) (ls : mj_L) (st : List mj_V) (M M1 : mj_M), mj_eq M M1 → P pc ls st M1 → P pc ls st M
/-- the first object's part, up to where the second is made -/
def lw_Pure1 : Prop := ∀ (L : Nat) (xs : Nat → Int32), L ≤ 260 → ∀ P : lw_PP, lw_Ps P → (∀ (ts : mj_L) (x6 : Int32) (M : mj_M), ts.length = 9 → P 668 (some (mj_r (41, 82, 0)) :: some (mj_r (13, 50, 0)) :: some (mj_r (17, 73, 0)) :: some (mj_i 1) :: some (mj_i (sqN L xs)) :: some (mj_i (sqM L xs)) :: some (mj_i x6) :: some (mj_i (sqS L xs)) :: ts) [] M) →
  P 13 [some (mj_r (41, 82, 0)), some (mj_r (13, 50, 0)), some (mj_r (17, 73, 0)), none, none, none, none, none, none, none, none, none, none, none, none, none, none] [] (lw_M L xs)
/-- the second object's part -/
def lw_Pure2 : Prop := ∀ (L : Nat) (xs : Nat → Int32), L ≤ 260 → ∀ P : lw_PP, lw_Ps P →
  P 683 [some (mj_r (41, 82, 0)), none, none, some (mj_i 1), some (mj_i (sqN L xs)), some (mj_i (sqM L xs)), none, some (mj_i (sqS L xs)), some (mj_r (13, 50, 0)), some (mj_r (17, 73, 0)), none, none, none, none, none, none, none] [] (lw_M L xs)
theorem lw_len2 : (mk_h1.length + 1) + (mk_h1.length + 1) ≤ 600000 := by decide +kernel
theorem lw_sz2 : (mk_sz mk_h1 + 55) + (mk_sz mk_h1 + 55) ≤ 7302250 := by decide +kernel
theorem lw_q13 : mk_pos (13, 50, 0) = 0 := by decide +kernel
theorem lw_q17 : mk_pos (17, 73, 0) = mk_n1 := by decide +kernel
theorem lw_i13 : ((13, 50, 0) : mj_Id) ∈ mj_ids := by decide +kernel
theorem lw_i17 : ((17, 73, 0) : mj_Id) ∈ mj_ids := by decide +kernel
theorem lw_fact {s : State} {b L : Nat} {xs : Nat → Int32} {D : va_G} {X : mj_X} (hts : ∀ w ∈ lw_tbl, w.before #[Value.ref b] s = true) (hgv : (Jvm.Cond.and given_1 narrow_1).before #[Value.ref b] s = true) (hX : va_X b L xs s s.heap) (hK : mk_K D X s) : ∃ tW tR : Nat, ∀ ad : Nat → Nat, mj_K D X (lw_rho ad tW tR b) s.heap L xs s := by
  have hs := flat_of_before _ hgv
  have hA : ∀ a : Nat, a < s.heap.size → ¬ mj_A s.heap a := fun a h => Nat.not_le.mpr h
  obtain ⟨tW, zW, aW⟩ := lw_st (nm := "WEIGHTS") (f := mj_Wt) (hts (Cond.laysStatic "CloudStrings" "WEIGHTS" "[I") (by decide +kernel)) (hts (Cond.initialized "CloudStrings") (by decide +kernel)) (hs (Cond.arrayOf (.static "CloudStrings" "WEIGHTS" "[I") .int) (by decide +kernel)) (hs (Cond.eq (.length (.static "CloudStrings" "WEIGHTS" "[I")) (.int 4)) (by decide +kernel)) (hs (Cond.eq (.elem (.static "CloudStrings" "WEIGHTS" "[I") (.int 0)) (.int (mj_Wt 0))) (by decide +kernel)) (hs (Cond.eq (.elem (.static "CloudStrings" "WEIGHTS" "[I") (.int 1)) (.int (mj_Wt 1))) (by decide +kernel)) (hs (Cond.eq (.elem (.static "CloudStrings" "WEIGHTS" "[I") (.int 2)) (.int (mj_Wt 2))) (by decide +kernel)) (hs (Cond.eq (.elem (.static "CloudStrings" "WEIGHTS" "[I") (.int 3)) (.int (mj_Wt 3))) (by decide +kernel)) hA
  obtain ⟨tR, zR, aR⟩ := lw_st (nm := "RAINS") (f := mj_Rn) (hts (Cond.laysStatic "CloudStrings" "RAINS" "[I") (by decide +kernel)) (hts (Cond.initialized "CloudStrings") (by decide +kernel)) (hs (Cond.arrayOf (.static "CloudStrings" "RAINS" "[I") .int) (by decide +kernel)) (hs (Cond.eq (.length (.static "CloudStrings" "RAINS" "[I")) (.int 4)) (by decide +kernel)) (hs (Cond.eq (.elem (.static "CloudStrings" "RAINS" "[I") (.int 0)) (.int (mj_Rn 0))) (by decide +kernel)) (hs (Cond.eq (.elem (.static "CloudStrings" "RAINS" "[I") (.int 1)) (.int (mj_Rn 1))) (by decide +kernel)) (hs (Cond.eq (.elem (.static "CloudStrings" "RAINS" "[I") (.int 2)) (.int (mj_Rn 2))) (by decide +kernel)) (hs (Cond.eq (.elem (.static "CloudStrings" "RAINS" "[I") (.int 3)) (.int (mj_Rn 3))) (by decide +kernel)) hA
  refine ⟨tW, tR, fun ad => ?_⟩
  have e1 : lw_rho ad tW tR b (40, 80, 0) = tW := if_pos rfl
  have e2 : lw_rho ad tW tR b (40, 81, 0) = tR := by
    unfold lw_rho
    rw [if_neg (by decide), if_pos rfl]
  have e3 : lw_rho ad tW tR b (41, 82, 0) = b := by
    unfold lw_rho
    rw [if_neg (by decide), if_neg (by decide), if_pos rfl]
  refine ⟨hK.1, ?_, ?_, ?_, ?_, ?_, va_Nw.of rfl (hts _ (by decide +kernel)), va_Nw.of rfl (hts _ (by decide +kernel)), va_Nw.of rfl (hts _ (by decide +kernel))⟩
  · rw [e1]; exact zW
  · rw [e2]; exact zR
  · rw [e1]; exact aW
  · rw [e2]; exact aR
  · rw [e3]; exact hX
theorem lw_cl {p : Program} {e : Env} {s : State} {m : MethodId} {below : List Frame} {meth : Method} {c : Code} {l : Launch} {b L n2 z2 : Nat} {xs : Nat → Int32} {D : va_G} {X : mj_X} {ρ : mj_Id → Nat} (C0 : lw_At p s m meth c b L xs) (C : mj_CX p s m #[Value.ref b] c code 17 8 D X ρ s.heap L xs) (hn : n2 ≤ 600000) (hz : z2 ≤ 7302250) : lw_Ps (mj_GG p l e room_1 s m #[Value.ref b] below meth c n2 z2 (lw_Z below #[Value.ref b] s) 17 [] D X ρ s.heap L xs) := by
  obtain ⟨hx, hb, hr, hml, hown, hts, hX, hbl, hlk, hgv⟩ := C0
  have hDd : mj_Dd ρ s.heap := C.2.2.2.2.2.2.1
  refine ⟨?_, ?_⟩
  · intro pc ls st M1 hw
    rcases mj_row mj_cfL pc with h | h
    · rw [h] at hw
      exact hw.elim
    · refine mj_main (dd := 10) C ⟨by decide, by decide⟩ ⟨hn, hz⟩ (fun g vs M r N h1 h2 h3 h4 => ⟨by decide, mj_sound hDd 9 g vs M r N h1 h2 h3 h4⟩) ?_ ?_ (fun pc ls st M h => h) _ pc ls st M1 hw h
      · intro pc ls x M2 hd hrt hR hl hv H locs la hP2 hS hL
        have hx1 : x = 1 := by cases hR; rfl
        subst hx1
        exact va_forget (fun q hq => hS.2.2 q hq) (W.widen hn hz (lw_ret hx hb hr hlk hd))
      · intro pc ls M2 hd hrt hR
        cases hR
  · intro pc ls st M1 M2 he h hl hv H locs la hP2 hS hL
    exact h hl hv H locs la (mj_P_eq he hP2) hS hL
theorem lw_no (l : List (Option mj_V)) (h : ∀ x ∈ l, x = none) (j : Nat) {v : mj_V} : ¬ l[j]? = some (some v) := fun e => by
  have := h _ (List.mem_of_getElem? e)
  cases this
theorem lw_atv {ρ : mj_Id → Nat} {ls : mj_L} {la : Array Slot} {T : List (Nat × Value)} (hL : lv_has la 17 T) (h : ∀ (j : Nat) (v : mj_V), ls[j]? = some (some v) → (j, mj_rv ρ v) ∈ T) : lv_has la 17 (mj_la ρ ls) := ⟨hL.1, hL.2.1, fun x hx => by
  obtain ⟨v, hv1, hv2⟩ := mj_la_of hx
  obtain ⟨i, y⟩ := x
  dsimp only at hv1 hv2
  subst hv2
  exact hL.2.2 _ (h i v hv1)⟩
theorem lw_end (pure1 : lw_Pure1) (pure2 : lw_Pure2) {p : Program} {e : Env} {s : State} {m : MethodId} {below : List Frame} {meth : Method} {c : Code} (l : Launch) {b L : Nat} {xs : Nat → Int32} (hL : L ≤ 260) (C0 : lw_At p s m meth c b L xs) : W p l e room_1 s m #[Value.ref b] below meth c s.heap [] 0 0 (lw_Z below #[Value.ref b] s) (entryFrame m ([Value.ref b] : List Value).toArray 17) := by
  have C0' := C0
  obtain ⟨hx, hb, hr, hml, hown, hts, hX, hbl, hlk, hgv⟩ := C0'
  obtain ⟨D, X, hK⟩ := lw_K hts
  obtain ⟨tW, tR, hKK⟩ := lw_fact hts hgv hX hK
  have hn := lw_len2
  have hz := lw_sz2
  have CL : lw_LX p s m c b D X := ⟨hx, hb, hml, hown, hts, hK⟩
  have i13 : ∀ ad, lw_rho ad tW tR b (13, 50, 0) = ad 0 := fun ad => by rw [lw_rho_in lw_i13, lw_q13]
  have i17 : ∀ ad, lw_rho ad tW tR b (17, 73, 0) = ad mk_h1.length := fun ad => by rw [lw_rho_in lw_i17, lw_q17, mk_h1_len]
  have i41 : ∀ ad, lw_rho ad tW tR b (41, 82, 0) = b := fun ad => by
    unfold lw_rho
    rw [if_neg (by decide), if_neg (by decide), if_pos rfl]
  have hMC : ∀ {ad : Nat → Nat} {H : Heap}, va_D (mj_A s.heap) (mk_ws ad X mk_h2) → mj_CX p s m #[Value.ref b] c code 17 8 D X (lw_rho ad tW tR b) s.heap L xs := fun hD => ⟨hx, hb, hml, hown, fun w hw => hts w (List.mem_filter.mp hw).1, hKK _, lw_Dd (D := D) (tW := tW) (tR := tR) (b := b) hD, va_S.rf⟩
  refine lw_go1 CL mk_h1_ok (by omega) (by omega) (fun ad H locs la hP hD hS hL1 => ?_)
  have hPp := lw_pic (tW := tW) (tR := tR) (b := b) (L := L) (xs := xs) hP
  have C := hMC (H := H) hD
  have e13 := i13 ad
  have e17 := i17 ad
  have e41 := i41 ad
  have key := pure1 L xs hL _ (lw_cl (l := l) (e := e) (below := below) (n2 := mk_h1.length + 1) (z2 := mk_sz mk_h1 + 55) C0 C (by omega) (by omega)) ?_
  · clear hP hD
    generalize mk_h1.length = n1 at *
    generalize mk_sz mk_h1 = z1 at *
    refine key rfl ⟨fun j q h => ?_, fun j w h => ?_, fun q h => by cases h⟩ H locs la ⟨hPp, ⟨hS.1, hS.2.1, fun q hq => by cases hq⟩, lw_cM hL⟩ hS (lw_atv hL1 fun j v hv => ?_)
    · rcases j with _ | _ | _ | j
      · cases h; exact Or.inr (Or.inr (Or.inr rfl))
      · cases h; exact Or.inl lw_i13
      · cases h; exact Or.inl lw_i17
      · exact absurd h (lw_no [none, none, none, none, none, none, none, none, none, none, none, none, none, none] (by simp) j)
    · rcases j with _ | _ | _ | j
      · cases h
      · cases h
      · cases h
      · exact absurd h (lw_no [none, none, none, none, none, none, none, none, none, none, none, none, none, none] (by simp) j)
    · rcases j with _ | _ | _ | j
      · cases hv
        show (0, Value.ref (lw_rho ad tW tR b (41, 82, 0))) ∈ _
        rw [e41]
        simp
      · cases hv
        show (1, Value.ref (lw_rho ad tW tR b (13, 50, 0))) ∈ _
        rw [e13]
        simp
      · cases hv
        show (2, Value.ref (lw_rho ad tW tR b (17, 73, 0))) ∈ _
        rw [e17]
        simp
      · exact absurd hv (lw_no [none, none, none, none, none, none, none, none, none, none, none, none, none, none] (by simp) j)
  · intro ts x6 M hts2 hl hv H2 locs2 la2 hP2 hS2 hL2
    clear C e13 e17 e41 hPp hP hD hS hL1
    have g0 := mj_la_at hL2 (i := 0) rfl
    have g3 := mj_la_at hL2 (i := 3) rfl
    have g4 := mj_la_at hL2 (i := 4) rfl
    have g5 := mj_la_at hL2 (i := 5) rfl
    have g7 := mj_la_at hL2 (i := 7) rfl
    have g0 : la2[0]? = some (.val (.ref b)) := by
      rw [g0]
      show some (Slot.val (Value.ref (lw_rho ad tW tR b (41, 82, 0)))) = _
      rw [i41 ad]
    have hT : lv_has la2 17 [(7, .int (sqS L xs)), (5, .int (sqM L xs)), (4, .int (sqN L xs)), (3, .int 1), (0, .ref b)] := ⟨hL2.1, hL2.2.1, fun x hx => by
      simp only [List.mem_cons, List.not_mem_nil, or_false] at hx
      rcases hx with rfl | rfl | rfl | rfl | rfl
      · exact g7
      · exact g5
      · exact g4
      · exact g3
      · exact g0⟩
    refine lw_go2 CL mk_h1_ok (by omega) (by omega) hS2 hT (fun ad3 H3 locs3 la3 hP3 hD3 hS3 hL3 => ?_)
    have C := hMC (H := H3) hD3
    have hPp := lw_pic (tW := tW) (tR := tR) (b := b) (L := L) (xs := xs) hP3
    have e13 := i13 ad3
    have e17 := i17 ad3
    have e41 := i41 ad3
    have key := pure2 L xs hL _ (lw_cl (l := l) (e := e) (below := below) (n2 := mk_h1.length + 1 + (mk_h1.length + 1)) (z2 := mk_sz mk_h1 + 55 + (mk_sz mk_h1 + 55)) C0 C (by omega) (by omega))
    clear hP3 hD3
    generalize mk_h1.length = n1 at *
    generalize mk_sz mk_h1 = z1 at *
    refine key rfl ⟨fun j q h => ?_, fun j w h => ?_, fun q h => by cases h⟩ H3 locs3 la3 ⟨hPp, ⟨hS3.1, hS3.2.1, fun q hq => by cases hq⟩, lw_cM hL⟩ hS3 (lw_atv hL3 fun j v hv => ?_)
    · rcases j with _ | _ | _ | _ | _ | _ | _ | _ | _ | _ | j
      · cases h; exact Or.inr (Or.inr (Or.inr rfl))
      · cases h
      · cases h
      · cases h
      · cases h
      · cases h
      · cases h
      · cases h
      · cases h; exact Or.inl lw_i13
      · cases h; exact Or.inl lw_i17
      · exact absurd h (lw_no [none, none, none, none, none, none, none] (by simp) j)
    · rcases j with _ | _ | _ | _ | _ | _ | _ | _ | _ | _ | j
      · cases h
      · cases h
      · cases h
      · cases h
      · cases h
      · cases h
      · cases h
      · cases h
      · cases h
      · cases h
      · exact absurd h (lw_no [none, none, none, none, none, none, none] (by simp) j)
    · rcases j with _ | _ | _ | _ | _ | _ | _ | _ | _ | _ | j
      · cases hv
        show (0, Value.ref (lw_rho ad3 tW tR b (41, 82, 0))) ∈ _
        rw [e41]
        simp
      · cases hv
      · cases hv
      · cases hv
        exact List.mem_of_getElem? (i := 5) rfl
      · cases hv
        exact List.mem_of_getElem? (i := 4) rfl
      · cases hv
        exact List.mem_of_getElem? (i := 3) rfl
      · cases hv
      · cases hv
        exact List.mem_of_getElem? (i := 2) rfl
      · cases hv
        show (8, Value.ref (lw_rho ad3 tW tR b (13, 50, 0))) ∈ _
        rw [e13]
        simp
      · cases hv
        show (9, Value.ref (lw_rho ad3 tW tR b (17, 73, 0))) ∈ _
        rw [e17]
        simp
      · exact absurd hv (lw_no [none, none, none, none, none, none, none] (by simp) j)
end
