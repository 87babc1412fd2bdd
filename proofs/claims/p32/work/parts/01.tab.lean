/-- a private method of a class that the tables say can be made, by its rows of tables_1 -/
def lw_okq (q : MethodName × Nat) : Prop := (q.1.cls ≠ "java/lang/invoke/MethodHandle" ∧ q.1.cls ≠ "java/lang/invoke/VarHandle") ∧ Cond.instantiable q.1.cls q.2 ∈ tables_1 ∧ Cond.privateMethod q.1 ∈ tables_1 ∧ Cond.instanceMethod q.1 ∈ tables_1
theorem lw_p0 : lw_okq (⟨"CloudStrings$Land", "pullerOf", "(I)I"⟩, 14) := ⟨⟨by decide +kernel, by decide +kernel⟩, List.mem_of_getElem? (i := 21) (by decide +kernel), List.mem_of_getElem? (i := 366) (by decide +kernel), List.mem_of_getElem? (i := 367) (by decide +kernel)⟩
theorem lw_p1 : lw_okq (⟨"CloudStrings$Land", "loseStrings", "(I)V"⟩, 14) := ⟨⟨by decide +kernel, by decide +kernel⟩, List.mem_of_getElem? (i := 21) (by decide +kernel), List.mem_of_getElem? (i := 376) (by decide +kernel), List.mem_of_getElem? (i := 377) (by decide +kernel)⟩
theorem lw_p2 : lw_okq (⟨"CloudStrings$Supply", "learnGains", "(LCloudStrings$Land;III)V"⟩, 4) := ⟨⟨by decide +kernel, by decide +kernel⟩, List.mem_of_getElem? (i := 125) (by decide +kernel), List.mem_of_getElem? (i := 447) (by decide +kernel), List.mem_of_getElem? (i := 448) (by decide +kernel)⟩
theorem lw_p3 : lw_okq (⟨"CloudStrings$Supply", "gainBy", "(LCloudStrings$Land;IIII)I"⟩, 4) := ⟨⟨by decide +kernel, by decide +kernel⟩, List.mem_of_getElem? (i := 125) (by decide +kernel), List.mem_of_getElem? (i := 453) (by decide +kernel), List.mem_of_getElem? (i := 454) (by decide +kernel)⟩
theorem lw_p4 : lw_okq (⟨"CloudStrings$Supply", "learnMost", "(I)V"⟩, 4) := ⟨⟨by decide +kernel, by decide +kernel⟩, List.mem_of_getElem? (i := 125) (by decide +kernel), List.mem_of_getElem? (i := 460) (by decide +kernel), List.mem_of_getElem? (i := 461) (by decide +kernel)⟩
theorem lw_p5 : lw_okq (⟨"CloudStrings$Supply", "layFirstRow", "(II)V"⟩, 4) := ⟨⟨by decide +kernel, by decide +kernel⟩, List.mem_of_getElem? (i := 125) (by decide +kernel), List.mem_of_getElem? (i := 467) (by decide +kernel), List.mem_of_getElem? (i := 468) (by decide +kernel)⟩
theorem lw_p6 : lw_okq (⟨"CloudStrings$Supply", "fewestOn", "(III)I"⟩, 4) := ⟨⟨by decide +kernel, by decide +kernel⟩, List.mem_of_getElem? (i := 125) (by decide +kernel), List.mem_of_getElem? (i := 471) (by decide +kernel), List.mem_of_getElem? (i := 472) (by decide +kernel)⟩
def lw_privs_1 : List (MethodName × Nat) := [(⟨"CloudStrings$Land", "pullerOf", "(I)I"⟩, 14), (⟨"CloudStrings$Land", "loseStrings", "(I)V"⟩, 14), (⟨"CloudStrings$Supply", "learnGains", "(LCloudStrings$Land;III)V"⟩, 4), (⟨"CloudStrings$Supply", "gainBy", "(LCloudStrings$Land;IIII)I"⟩, 4), (⟨"CloudStrings$Supply", "learnMost", "(I)V"⟩, 4), (⟨"CloudStrings$Supply", "layFirstRow", "(II)V"⟩, 4), (⟨"CloudStrings$Supply", "fewestOn", "(III)I"⟩, 4)]
theorem lw_r1 : ∀ q ∈ lw_privs_1, lw_okq q := List.forall_mem_cons.mpr ⟨lw_p0, List.forall_mem_cons.mpr ⟨lw_p1, List.forall_mem_cons.mpr ⟨lw_p2, List.forall_mem_cons.mpr ⟨lw_p3, List.forall_mem_cons.mpr ⟨lw_p4, List.forall_mem_cons.mpr ⟨lw_p5, List.forall_mem_cons.mpr ⟨lw_p6, fun _ h => absurd h List.not_mem_nil⟩⟩⟩⟩⟩⟩⟩
def lw_privs : List (MethodName × Nat) := lw_privs_1
def lw_tbl : List Cond := k2_sels lw_privs ++ tables_1
theorem lw_privs_ok : ∀ q ∈ lw_privs, lw_okq q := lw_r1

/-- the names of the classes, by number: those of the worlds, the law, the JDK's -/
def mj_cn : List String := ["CloudStrings$Forecast", "CloudStrings$Land", "CloudStrings$Laying", "CloudStrings$Sheet", "CloudStrings$Supply", "CloudStrings$Tape", "CloudStrings$Winds", "CloudStrings", "CloudStringsLaw", "java/util/Arrays", "java/lang/Math"]
def mj_T0 : u_T := fun k => match k with
  | _ => ("CloudStrings$Forecast", "trial", "LCloudStrings$Land;", true)
def mj_T1 : u_T := fun k => match k with
  | 0 => ("CloudStrings$Land", "clouds", "I", false)
  | 1 => ("CloudStrings$Land", "kind", "[I", true)
  | 2 => ("CloudStrings$Land", "field", "[I", true)
  | 3 => ("CloudStrings$Land", "water", "[I", true)
  | 4 => ("CloudStrings$Land", "strings", "[[I", true)
  | 5 => ("CloudStrings$Land", "villages", "I", false)
  | 6 => ("CloudStrings$Land", "home", "[I", true)
  | 7 => ("CloudStrings$Land", "string", "[I", true)
  | 8 => ("CloudStrings$Land", "thirst", "[I", true)
  | 9 => ("CloudStrings$Land", "wetness", "[I", true)
  | 10 => ("CloudStrings$Land", "fallenOn", "[I", true)
  | 11 => ("CloudStrings$Land", "winds", "LCloudStrings$Winds;", true)
  | 12 => ("CloudStrings$Land", "hour", "I", false)
  | _ => ("CloudStrings$Land", "draw", "I", false)
def mj_T2 : u_T := fun k => match k with
  | 0 => ("CloudStrings$Laying", "forecast", "LCloudStrings$Forecast;", true)
  | 1 => ("CloudStrings$Laying", "open", "[I", true)
  | 2 => ("CloudStrings$Laying", "opens", "I", false)
  | 3 => ("CloudStrings$Laying", "gains", "[[I", true)
  | 4 => ("CloudStrings$Laying", "layersOn", "[I", true)
  | 5 => ("CloudStrings$Laying", "choice", "[I", true)
  | 6 => ("CloudStrings$Laying", "gainOfFirst", "[[I", true)
  | 7 => ("CloudStrings$Laying", "gainOfSecond", "[[I", true)
  | 8 => ("CloudStrings$Laying", "found", "I", false)
  | _ => ("CloudStrings$Laying", "first", "[I", true)
def mj_T3 : u_T := fun k => match k with
  | 0 => ("CloudStrings$Sheet", "items", "[I", true)
  | 1 => ("CloudStrings$Sheet", "isThere", "Z", false)
  | 2 => ("CloudStrings$Sheet", "lane", "I", false)
  | _ => ("CloudStrings$Sheet", "length", "I", false)
def mj_T4 : u_T := fun k => match k with
  | 0 => ("CloudStrings$Supply", "forecast", "LCloudStrings$Forecast;", true)
  | 1 => ("CloudStrings$Supply", "gains", "[[I", true)
  | 2 => ("CloudStrings$Supply", "most", "[[I", true)
  | _ => ("CloudStrings$Supply", "row", "[I", true)
def mj_T5 : u_T := fun k => match k with
  | 0 => ("CloudStrings$Tape", "signs", "[I", true)
  | _ => ("CloudStrings$Tape", "length", "I", false)
def mj_T6 : u_T := fun k => match k with
  | 0 => ("CloudStrings$Winds", "sides", "[I", true)
  | 1 => ("CloudStrings$Winds", "forces", "[I", true)
  | _ => ("CloudStrings$Winds", "length", "I", false)
def mj_T7 : u_T := fun k => match k with
  | 0 => ("CloudStrings", "now", "LCloudStrings$Land;", true)
  | 1 => ("CloudStrings", "kept", "LCloudStrings$Land;", true)
  | 2 => ("CloudStrings", "forecast", "LCloudStrings$Forecast;", true)
  | 3 => ("CloudStrings", "supply", "LCloudStrings$Supply;", true)
  | 4 => ("CloudStrings", "laying", "LCloudStrings$Laying;", true)
  | 5 => ("CloudStrings", "tape", "LCloudStrings$Tape;", true)
  | 6 => ("CloudStrings", "read", "LCloudStrings$Winds;", true)
  | 7 => ("CloudStrings", "sheets", "[LCloudStrings$Sheet;", true)
  | _ => ("CloudStrings", "hasImage", "Z", false)
abbrev mj_cl : List vw_C := [("CloudStrings$Forecast", mj_T0, 1), ("CloudStrings$Land", mj_T1, 14), ("CloudStrings$Laying", mj_T2, 10), ("CloudStrings$Sheet", mj_T3, 4), ("CloudStrings$Supply", mj_T4, 4), ("CloudStrings$Tape", mj_T5, 2), ("CloudStrings$Winds", mj_T6, 3), ("CloudStrings", mj_T7, 9)]
/-- methods: class, name, descriptor, code, locals, answer, static -/
abbrev mj_mT : Type := Nat × String × String × ByteArray × Nat × Option FieldType × Bool
def mj_mt : List mj_mT := [(7, "cloud", "(III)I", prog_1_method_2_code, 4, some .int, false),
  (7, "village", "(III)I", prog_1_method_3_code, 4, some .int, false),
  (7, "told", "(II)I", prog_1_method_4_code, 3, some .int, false),
  (7, "of", "(II)I", prog_1_method_5_code, 3, some .int, false),
  (7, "set", "(III)I", prog_1_method_6_code, 5, some .int, false),
  (7, "hold", "(III)I", prog_1_method_7_code, 5, some .int, false),
  (7, "holds", "(II)I", prog_1_method_8_code, 3, some .int, false),
  (7, "join", "(II)I", prog_1_method_9_code, 3, some .int, false),
  (7, "split", "(II)I", prog_1_method_10_code, 3, some .int, false),
  (7, "salt", "(I)I", prog_1_method_11_code, 3, some .int, false),
  (7, "type", "(JI)I", prog_1_method_12_code, 5, some .int, false),
  (7, "winds", "()I", prog_1_method_13_code, 2, some .int, false),
  (7, "fallen", "(I)I", prog_1_method_14_code, 2, some .int, false),
  (7, "count", "(I)I", prog_1_method_15_code, 2, some .int, false),
  (7, "pass", "(I)I", prog_1_method_16_code, 4, some .int, false),
  (7, "drawn", "(I)I", prog_1_method_17_code, 5, some .int, false),
  (7, "seed", "(I)I", prog_1_method_18_code, 3, some .int, false),
  (7, "where", "(III)I", prog_1_method_20_code, 4, some .int, false),
  (7, "fewest", "(III)I", prog_1_method_21_code, 5, some .int, false),
  (7, "image", "()I", prog_1_method_23_code, 1, some .int, false),
  (7, "restore", "()I", prog_1_method_24_code, 1, some .int, false),
  (7, "isOutside", "(III)Z", prog_1_method_31_code, 3, some .boolean, true),
  (7, "byteOf", "(JI)I", prog_1_method_33_code, 3, some .int, true),
  (7, "sumOf", "([I)I", prog_1_method_34_code, 6, some .int, true),
  (0, "start", "(LCloudStrings$Land;)V", prog_2_method_2_code, 2, none, false),
  (0, "follow", "(II)V", prog_2_method_3_code, 5, none, false),
  (1, "takeAll", "(LCloudStrings$Land;)V", prog_3_method_2_code, 3, none, false),
  (1, "takeCloud", "(LCloudStrings$Land;I)V", prog_3_method_3_code, 3, none, false),
  (1, "isCloud", "(I)Z", prog_3_method_4_code, 2, some .boolean, false),
  (1, "isOver", "(I)Z", prog_3_method_5_code, 2, some .boolean, false),
  (1, "isVillage", "(I)Z", prog_3_method_6_code, 2, some .boolean, false),
  (1, "villageIn", "(I)I", prog_3_method_7_code, 3, some .int, false),
  (1, "addCloud", "(III)I", prog_3_method_8_code, 5, some .int, false),
  (1, "addVillage", "(III)I", prog_3_method_9_code, 5, some .int, false),
  (1, "stringsOn", "(I)I", prog_3_method_10_code, 2, some .int, false),
  (1, "tiedBy", "(I)I", prog_3_method_11_code, 4, some .int, false),
  (1, "cloudsOver", "()I", prog_3_method_12_code, 3, some .int, false),
  (1, "waterWhere", "(Z)I", prog_3_method_13_code, 4, some .int, false),
  (1, "joinClouds", "(II)V", prog_3_method_14_code, 4, none, false),
  (1, "drawWind", "()I", prog_3_method_15_code, 1, some .int, false),
  (1, "passHour", "(II)I", prog_3_method_16_code, 5, some .int, false),
  (1, "move", "(III)V", prog_3_method_17_code, 8, none, false),
  (1, "rain", "(I)I", prog_3_method_18_code, 4, some .int, false),
  (1, "pullerOf", "(I)I", prog_3_method_19_code, 4, some .int, false),
  (1, "loseStrings", "(I)V", prog_3_method_20_code, 3, none, false),
  (1, "towards", "(II)I", prog_3_method_21_code, 4, some .int, true),
  (1, "besides", "(II)I", prog_3_method_22_code, 4, some .int, true),
  (4, "plan", "(LCloudStrings$Land;II)I", prog_6_method_2_code, 7, some .int, false),
  (4, "learnGains", "(LCloudStrings$Land;III)V", prog_6_method_3_code, 8, none, false),
  (4, "gainBy", "(LCloudStrings$Land;IIII)I", prog_6_method_4_code, 7, some .int, false),
  (4, "learnMost", "(I)V", prog_6_method_5_code, 5, none, false),
  (4, "layFirstRow", "(II)V", prog_6_method_6_code, 7, none, false),
  (4, "fewestOn", "(III)I", prog_6_method_7_code, 5, some .int, false),
  (5, "add", "(I)V", prog_7_method_2_code, 2, none, false),
  (5, "readInto", "(LCloudStrings$Winds;)I", prog_7_method_3_code, 6, some .int, false),
  (5, "canStand", "(III)Z", prog_7_method_4_code, 3, some .boolean, true),
  (5, "sideOf", "(I)I", prog_7_method_5_code, 1, some .int, true),
  (6, "add", "(II)V", prog_8_method_2_code, 3, none, false),
  (6, "sideIn", "(I)I", prog_8_method_3_code, 2, some .int, false),
  (6, "forceIn", "(I)I", prog_8_method_4_code, 2, some .int, false),
  (6, "takeAll", "(LCloudStrings$Winds;)V", prog_8_method_5_code, 2, none, false),
  (9, "fill", "([II)V", prog_13_method_103_code, 4, none, true),
  (8, "cell", "([II)I", method_2_code, 2, some .int, true),
  (8, "clouds", "([I)I", method_3_code, 1, some .int, true),
  (8, "villages", "([I)I", method_4_code, 1, some .int, true),
  (8, "winds", "([I)I", method_5_code, 1, some .int, true),
  (8, "wind", "([II)I", method_6_code, 2, some .int, true),
  (8, "thirst", "([II)I", method_7_code, 2, some .int, true),
  (8, "lays", "(LCloudStrings;[I[I)Z", method_8_code, 9, some .boolean, true),
  (8, "apart", "(II)I", method_10_code, 4, some .int, true)]
def mj_m (f : Nat) : mj_mT := mj_mt.getD f (0, "", "", ⟨#[]⟩, 0, none, false)
def mj_cs_ (i : Nat) : String := mj_cn.getD i ""
def mj_yy (x : mj_mT) : MethodName := ⟨mj_cs_ x.1, x.2.1, x.2.2.1⟩
def mj_y (f : Nat) : MethodName := mj_yy (mj_m f)
def mj_bc (f : Nat) : ByteArray := (mj_m f).2.2.2.1
def mj_mx (f : Nat) : Nat := (mj_m f).2.2.2.2.1
def mj_rt (f : Nat) : Option FieldType := (mj_m f).2.2.2.2.2.1
def mj_stc (f : Nat) : Bool := (mj_m f).2.2.2.2.2.2
def mj_wc (x : mj_mT) : Cond := .code (mj_yy x) x.2.2.2.1 x.2.2.2.2.1 x.2.2.2.2.2.1
def mj_wi (x : mj_mT) : Cond := if x.2.2.2.2.2.2 then .static (mj_yy x) else .instanceMethod (mj_yy x)
def mj_wv (x : mj_mT) : Cond := if x.2.2.2.2.2.2 then .static (mj_yy x) else .selects (mj_cs_ x.1) (mj_yy x) (mj_yy x)
def mj_wn (x : mj_mT) : Cond := .initialized (mj_cs_ x.1)
/-- the words that every method is given -/
def mj_WA : List Cond := lw_tbl.filter goodWord
theorem mj_of {xs : List Cond} (ps : List Nat) (h : xs = ps.filterMap (fun i => lw_tbl[i]?)) (g : xs.all goodWord = true) : ∀ w ∈ xs, w ∈ mj_WA := by
  intro w hw
  have h1 := List.all_eq_true.mp g w hw
  rw [h] at hw
  obtain ⟨i, -, hi⟩ := List.mem_filterMap.mp hw
  exact List.mem_filter.mpr ⟨List.mem_of_getElem? hi, h1⟩
set_option maxRecDepth 100000 in
theorem mj_mc0 : mj_wc (7, "cloud", "(III)I", prog_1_method_2_code, 4, some .int, false) ∈ lw_tbl := List.mem_of_getElem? (i := 552) rfl
set_option maxRecDepth 100000 in
theorem mj_mc1 : mj_wc (7, "village", "(III)I", prog_1_method_3_code, 4, some .int, false) ∈ lw_tbl := List.mem_of_getElem? (i := 556) rfl
set_option maxRecDepth 100000 in
theorem mj_mc2 : mj_wc (7, "told", "(II)I", prog_1_method_4_code, 3, some .int, false) ∈ lw_tbl := List.mem_of_getElem? (i := 261) rfl
set_option maxRecDepth 100000 in
theorem mj_mc3 : mj_wc (7, "of", "(II)I", prog_1_method_5_code, 3, some .int, false) ∈ lw_tbl := List.mem_of_getElem? (i := 276) rfl
set_option maxRecDepth 100000 in
theorem mj_mc4 : mj_wc (7, "set", "(III)I", prog_1_method_6_code, 5, some .int, false) ∈ lw_tbl := List.mem_of_getElem? (i := 288) rfl
set_option maxRecDepth 100000 in
theorem mj_mc5 : mj_wc (7, "hold", "(III)I", prog_1_method_7_code, 5, some .int, false) ∈ lw_tbl := List.mem_of_getElem? (i := 295) rfl
set_option maxRecDepth 100000 in
theorem mj_mc6 : mj_wc (7, "holds", "(II)I", prog_1_method_8_code, 3, some .int, false) ∈ lw_tbl := List.mem_of_getElem? (i := 304) rfl
set_option maxRecDepth 100000 in
theorem mj_mc7 : mj_wc (7, "join", "(II)I", prog_1_method_9_code, 3, some .int, false) ∈ lw_tbl := List.mem_of_getElem? (i := 308) rfl
set_option maxRecDepth 100000 in
theorem mj_mc8 : mj_wc (7, "split", "(II)I", prog_1_method_10_code, 3, some .int, false) ∈ lw_tbl := List.mem_of_getElem? (i := 322) rfl
set_option maxRecDepth 100000 in
theorem mj_mc9 : mj_wc (7, "salt", "(I)I", prog_1_method_11_code, 3, some .int, false) ∈ lw_tbl := List.mem_of_getElem? (i := 330) rfl
set_option maxRecDepth 100000 in
theorem mj_mc10 : mj_wc (7, "type", "(JI)I", prog_1_method_12_code, 5, some .int, false) ∈ lw_tbl := List.mem_of_getElem? (i := 517) rfl
set_option maxRecDepth 100000 in
theorem mj_mc11 : mj_wc (7, "winds", "()I", prog_1_method_13_code, 2, some .int, false) ∈ lw_tbl := List.mem_of_getElem? (i := 533) rfl
set_option maxRecDepth 100000 in
theorem mj_mc12 : mj_wc (7, "fallen", "(I)I", prog_1_method_14_code, 2, some .int, false) ∈ lw_tbl := List.mem_of_getElem? (i := 334) rfl
set_option maxRecDepth 100000 in
theorem mj_mc13 : mj_wc (7, "count", "(I)I", prog_1_method_15_code, 2, some .int, false) ∈ lw_tbl := List.mem_of_getElem? (i := 338) rfl
set_option maxRecDepth 100000 in
theorem mj_mc14 : mj_wc (7, "pass", "(I)I", prog_1_method_16_code, 4, some .int, false) ∈ lw_tbl := List.mem_of_getElem? (i := 352) rfl
set_option maxRecDepth 100000 in
theorem mj_mc15 : mj_wc (7, "drawn", "(I)I", prog_1_method_17_code, 5, some .int, false) ∈ lw_tbl := List.mem_of_getElem? (i := 399) rfl
set_option maxRecDepth 100000 in
theorem mj_mc16 : mj_wc (7, "seed", "(I)I", prog_1_method_18_code, 3, some .int, false) ∈ lw_tbl := List.mem_of_getElem? (i := 410) rfl
set_option maxRecDepth 100000 in
theorem mj_mc17 : mj_wc (7, "where", "(III)I", prog_1_method_20_code, 4, some .int, false) ∈ lw_tbl := List.mem_of_getElem? (i := 414) rfl
set_option maxRecDepth 100000 in
theorem mj_mc18 : mj_wc (7, "fewest", "(III)I", prog_1_method_21_code, 5, some .int, false) ∈ lw_tbl := List.mem_of_getElem? (i := 447) rfl
set_option maxRecDepth 100000 in
theorem mj_mc19 : mj_wc (7, "image", "()I", prog_1_method_23_code, 1, some .int, false) ∈ lw_tbl := List.mem_of_getElem? (i := 484) rfl
set_option maxRecDepth 100000 in
theorem mj_mc20 : mj_wc (7, "restore", "()I", prog_1_method_24_code, 1, some .int, false) ∈ lw_tbl := List.mem_of_getElem? (i := 489) rfl
set_option maxRecDepth 100000 in
theorem mj_mc21 : mj_wc (7, "isOutside", "(III)Z", prog_1_method_31_code, 3, some .boolean, true) ∈ lw_tbl := List.mem_of_getElem? (i := 291) rfl
set_option maxRecDepth 100000 in
theorem mj_mc22 : mj_wc (7, "byteOf", "(JI)I", prog_1_method_33_code, 3, some .int, true) ∈ lw_tbl := List.mem_of_getElem? (i := 520) rfl
set_option maxRecDepth 100000 in
theorem mj_mc23 : mj_wc (7, "sumOf", "([I)I", prog_1_method_34_code, 6, some .int, true) ∈ lw_tbl := List.mem_of_getElem? (i := 272) rfl
set_option maxRecDepth 100000 in
theorem mj_mc24 : mj_wc (0, "start", "(LCloudStrings$Land;)V", prog_2_method_2_code, 2, none, false) ∈ lw_tbl := List.mem_of_getElem? (i := 418) rfl
set_option maxRecDepth 100000 in
theorem mj_mc25 : mj_wc (0, "follow", "(II)V", prog_2_method_3_code, 5, none, false) ∈ lw_tbl := List.mem_of_getElem? (i := 439) rfl
set_option maxRecDepth 100000 in
theorem mj_mc26 : mj_wc (1, "takeAll", "(LCloudStrings$Land;)V", prog_3_method_2_code, 3, none, false) ∈ lw_tbl := List.mem_of_getElem? (i := 422) rfl
set_option maxRecDepth 100000 in
theorem mj_mc27 : mj_wc (1, "takeCloud", "(LCloudStrings$Land;I)V", prog_3_method_3_code, 3, none, false) ∈ lw_tbl := List.mem_of_getElem? (i := 426) rfl
set_option maxRecDepth 100000 in
theorem mj_mc28 : mj_wc (1, "isCloud", "(I)Z", prog_3_method_4_code, 2, some .boolean, false) ∈ lw_tbl := List.mem_of_getElem? (i := 265) rfl
set_option maxRecDepth 100000 in
theorem mj_mc29 : mj_wc (1, "isOver", "(I)Z", prog_3_method_5_code, 2, some .boolean, false) ∈ lw_tbl := List.mem_of_getElem? (i := 299) rfl
set_option maxRecDepth 100000 in
theorem mj_mc30 : mj_wc (1, "isVillage", "(I)Z", prog_3_method_6_code, 2, some .boolean, false) ∈ lw_tbl := List.mem_of_getElem? (i := 280) rfl
set_option maxRecDepth 100000 in
theorem mj_mc31 : mj_wc (1, "villageIn", "(I)I", prog_3_method_7_code, 3, some .int, false) ∈ lw_tbl := List.mem_of_getElem? (i := 395) rfl
set_option maxRecDepth 100000 in
theorem mj_mc32 : mj_wc (1, "addCloud", "(III)I", prog_3_method_8_code, 5, some .int, false) ∈ lw_tbl := List.mem_of_getElem? (i := 326) rfl
set_option maxRecDepth 100000 in
theorem mj_mc33 : mj_wc (1, "addVillage", "(III)I", prog_3_method_9_code, 5, some .int, false) ∈ lw_tbl := List.mem_of_getElem? (i := 561) rfl
set_option maxRecDepth 100000 in
theorem mj_mc34 : mj_wc (1, "stringsOn", "(I)I", prog_3_method_10_code, 2, some .int, false) ∈ lw_tbl := List.mem_of_getElem? (i := 269) rfl
set_option maxRecDepth 100000 in
theorem mj_mc35 : mj_wc (1, "tiedBy", "(I)I", prog_3_method_11_code, 4, some .int, false) ∈ lw_tbl := List.mem_of_getElem? (i := 284) rfl
set_option maxRecDepth 100000 in
theorem mj_mc36 : mj_wc (1, "cloudsOver", "()I", prog_3_method_12_code, 3, some .int, false) ∈ lw_tbl := List.mem_of_getElem? (i := 342) rfl
set_option maxRecDepth 100000 in
theorem mj_mc37 : mj_wc (1, "waterWhere", "(Z)I", prog_3_method_13_code, 4, some .int, false) ∈ lw_tbl := List.mem_of_getElem? (i := 347) rfl
set_option maxRecDepth 100000 in
theorem mj_mc38 : mj_wc (1, "joinClouds", "(II)V", prog_3_method_14_code, 4, none, false) ∈ lw_tbl := List.mem_of_getElem? (i := 312) rfl
set_option maxRecDepth 100000 in
theorem mj_mc39 : mj_wc (1, "drawWind", "()I", prog_3_method_15_code, 1, some .int, false) ∈ lw_tbl := List.mem_of_getElem? (i := 403) rfl
set_option maxRecDepth 100000 in
theorem mj_mc40 : mj_wc (1, "passHour", "(II)I", prog_3_method_16_code, 5, some .int, false) ∈ lw_tbl := List.mem_of_getElem? (i := 364) rfl
set_option maxRecDepth 100000 in
theorem mj_mc41 : mj_wc (1, "move", "(III)V", prog_3_method_17_code, 8, none, false) ∈ lw_tbl := List.mem_of_getElem? (i := 368) rfl
set_option maxRecDepth 100000 in
theorem mj_mc42 : mj_wc (1, "rain", "(I)I", prog_3_method_18_code, 4, some .int, false) ∈ lw_tbl := List.mem_of_getElem? (i := 389) rfl
set_option maxRecDepth 100000 in
theorem mj_mc43 : mj_wc (1, "pullerOf", "(I)I", prog_3_method_19_code, 4, some .int, false) ∈ lw_tbl := List.mem_of_getElem? (i := 375) rfl
set_option maxRecDepth 100000 in
theorem mj_mc44 : mj_wc (1, "loseStrings", "(I)V", prog_3_method_20_code, 3, none, false) ∈ lw_tbl := List.mem_of_getElem? (i := 385) rfl
set_option maxRecDepth 100000 in
theorem mj_mc45 : mj_wc (1, "towards", "(II)I", prog_3_method_21_code, 4, some .int, true) ∈ lw_tbl := List.mem_of_getElem? (i := 378) rfl
set_option maxRecDepth 100000 in
theorem mj_mc46 : mj_wc (1, "besides", "(II)I", prog_3_method_22_code, 4, some .int, true) ∈ lw_tbl := List.mem_of_getElem? (i := 381) rfl
set_option maxRecDepth 100000 in
theorem mj_mc47 : mj_wc (4, "plan", "(LCloudStrings$Land;II)I", prog_6_method_2_code, 7, some .int, false) ∈ lw_tbl := List.mem_of_getElem? (i := 451) rfl
set_option maxRecDepth 100000 in
theorem mj_mc48 : mj_wc (4, "learnGains", "(LCloudStrings$Land;III)V", prog_6_method_3_code, 8, none, false) ∈ lw_tbl := List.mem_of_getElem? (i := 456) rfl
set_option maxRecDepth 100000 in
theorem mj_mc49 : mj_wc (4, "gainBy", "(LCloudStrings$Land;IIII)I", prog_6_method_4_code, 7, some .int, false) ∈ lw_tbl := List.mem_of_getElem? (i := 462) rfl
set_option maxRecDepth 100000 in
theorem mj_mc50 : mj_wc (4, "learnMost", "(I)V", prog_6_method_5_code, 5, none, false) ∈ lw_tbl := List.mem_of_getElem? (i := 469) rfl
set_option maxRecDepth 100000 in
theorem mj_mc51 : mj_wc (4, "layFirstRow", "(II)V", prog_6_method_6_code, 7, none, false) ∈ lw_tbl := List.mem_of_getElem? (i := 476) rfl
set_option maxRecDepth 100000 in
theorem mj_mc52 : mj_wc (4, "fewestOn", "(III)I", prog_6_method_7_code, 5, some .int, false) ∈ lw_tbl := List.mem_of_getElem? (i := 480) rfl
set_option maxRecDepth 100000 in
theorem mj_mc53 : mj_wc (5, "add", "(I)V", prog_7_method_2_code, 2, none, false) ∈ lw_tbl := List.mem_of_getElem? (i := 524) rfl
set_option maxRecDepth 100000 in
theorem mj_mc54 : mj_wc (5, "readInto", "(LCloudStrings$Winds;)I", prog_7_method_3_code, 6, some .int, false) ∈ lw_tbl := List.mem_of_getElem? (i := 537) rfl
set_option maxRecDepth 100000 in
theorem mj_mc55 : mj_wc (5, "canStand", "(III)Z", prog_7_method_4_code, 3, some .boolean, true) ∈ lw_tbl := List.mem_of_getElem? (i := 540) rfl
set_option maxRecDepth 100000 in
theorem mj_mc56 : mj_wc (5, "sideOf", "(I)I", prog_7_method_5_code, 1, some .int, true) ∈ lw_tbl := List.mem_of_getElem? (i := 543) rfl
set_option maxRecDepth 100000 in
theorem mj_mc57 : mj_wc (6, "add", "(II)V", prog_8_method_2_code, 3, none, false) ∈ lw_tbl := List.mem_of_getElem? (i := 547) rfl
set_option maxRecDepth 100000 in
theorem mj_mc58 : mj_wc (6, "sideIn", "(I)I", prog_8_method_3_code, 2, some .int, false) ∈ lw_tbl := List.mem_of_getElem? (i := 356) rfl
set_option maxRecDepth 100000 in
theorem mj_mc59 : mj_wc (6, "forceIn", "(I)I", prog_8_method_4_code, 2, some .int, false) ∈ lw_tbl := List.mem_of_getElem? (i := 360) rfl
set_option maxRecDepth 100000 in
theorem mj_mc60 : mj_wc (6, "takeAll", "(LCloudStrings$Winds;)V", prog_8_method_5_code, 2, none, false) ∈ lw_tbl := List.mem_of_getElem? (i := 433) rfl
set_option maxRecDepth 100000 in
theorem mj_mc61 : mj_wc (9, "fill", "([II)V", prog_13_method_103_code, 4, none, true) ∈ lw_tbl := List.mem_of_getElem? (i := 318) rfl
set_option maxRecDepth 100000 in
theorem mj_mc62 : mj_wc (8, "cell", "([II)I", method_2_code, 2, some .int, true) ∈ lw_tbl := List.mem_of_getElem? (i := 492) rfl
set_option maxRecDepth 100000 in
theorem mj_mc63 : mj_wc (8, "clouds", "([I)I", method_3_code, 1, some .int, true) ∈ lw_tbl := List.mem_of_getElem? (i := 497) rfl
set_option maxRecDepth 100000 in
theorem mj_mc64 : mj_wc (8, "villages", "([I)I", method_4_code, 1, some .int, true) ∈ lw_tbl := List.mem_of_getElem? (i := 500) rfl
set_option maxRecDepth 100000 in
theorem mj_mc65 : mj_wc (8, "winds", "([I)I", method_5_code, 1, some .int, true) ∈ lw_tbl := List.mem_of_getElem? (i := 503) rfl
set_option maxRecDepth 100000 in
theorem mj_mc66 : mj_wc (8, "wind", "([II)I", method_6_code, 2, some .int, true) ∈ lw_tbl := List.mem_of_getElem? (i := 506) rfl
set_option maxRecDepth 100000 in
theorem mj_mc67 : mj_wc (8, "thirst", "([II)I", method_7_code, 2, some .int, true) ∈ lw_tbl := List.mem_of_getElem? (i := 509) rfl
set_option maxRecDepth 100000 in
theorem mj_mc68 : mj_wc (8, "lays", "(LCloudStrings;[I[I)Z", method_8_code, 9, some .boolean, true) ∈ lw_tbl := List.mem_of_getElem? (i := 512) rfl
set_option maxRecDepth 100000 in
theorem mj_mc69 : mj_wc (8, "apart", "(II)I", method_10_code, 4, some .int, true) ∈ lw_tbl := List.mem_of_getElem? (i := 564) rfl
theorem mj_wc_g (x : mj_mT) : goodWord (mj_wc x) = true := rfl
theorem mj_mcs0 : ∀ x ∈ (mj_mt.drop 0).take 20, mj_wc x ∈ lw_tbl := List.forall_mem_cons.mpr ⟨mj_mc0, List.forall_mem_cons.mpr ⟨mj_mc1, List.forall_mem_cons.mpr ⟨mj_mc2, List.forall_mem_cons.mpr ⟨mj_mc3, List.forall_mem_cons.mpr ⟨mj_mc4, List.forall_mem_cons.mpr ⟨mj_mc5, List.forall_mem_cons.mpr ⟨mj_mc6, List.forall_mem_cons.mpr ⟨mj_mc7, List.forall_mem_cons.mpr ⟨mj_mc8, List.forall_mem_cons.mpr ⟨mj_mc9, List.forall_mem_cons.mpr ⟨mj_mc10, List.forall_mem_cons.mpr ⟨mj_mc11, List.forall_mem_cons.mpr ⟨mj_mc12, List.forall_mem_cons.mpr ⟨mj_mc13, List.forall_mem_cons.mpr ⟨mj_mc14, List.forall_mem_cons.mpr ⟨mj_mc15, List.forall_mem_cons.mpr ⟨mj_mc16, List.forall_mem_cons.mpr ⟨mj_mc17, List.forall_mem_cons.mpr ⟨mj_mc18, List.forall_mem_cons.mpr ⟨mj_mc19, fun _ h => absurd h List.not_mem_nil⟩⟩⟩⟩⟩⟩⟩⟩⟩⟩⟩⟩⟩⟩⟩⟩⟩⟩⟩⟩
theorem mj_mcs20 : ∀ x ∈ (mj_mt.drop 20).take 20, mj_wc x ∈ lw_tbl := List.forall_mem_cons.mpr ⟨mj_mc20, List.forall_mem_cons.mpr ⟨mj_mc21, List.forall_mem_cons.mpr ⟨mj_mc22, List.forall_mem_cons.mpr ⟨mj_mc23, List.forall_mem_cons.mpr ⟨mj_mc24, List.forall_mem_cons.mpr ⟨mj_mc25, List.forall_mem_cons.mpr ⟨mj_mc26, List.forall_mem_cons.mpr ⟨mj_mc27, List.forall_mem_cons.mpr ⟨mj_mc28, List.forall_mem_cons.mpr ⟨mj_mc29, List.forall_mem_cons.mpr ⟨mj_mc30, List.forall_mem_cons.mpr ⟨mj_mc31, List.forall_mem_cons.mpr ⟨mj_mc32, List.forall_mem_cons.mpr ⟨mj_mc33, List.forall_mem_cons.mpr ⟨mj_mc34, List.forall_mem_cons.mpr ⟨mj_mc35, List.forall_mem_cons.mpr ⟨mj_mc36, List.forall_mem_cons.mpr ⟨mj_mc37, List.forall_mem_cons.mpr ⟨mj_mc38, List.forall_mem_cons.mpr ⟨mj_mc39, fun _ h => absurd h List.not_mem_nil⟩⟩⟩⟩⟩⟩⟩⟩⟩⟩⟩⟩⟩⟩⟩⟩⟩⟩⟩⟩
theorem mj_mcs40 : ∀ x ∈ (mj_mt.drop 40).take 20, mj_wc x ∈ lw_tbl := List.forall_mem_cons.mpr ⟨mj_mc40, List.forall_mem_cons.mpr ⟨mj_mc41, List.forall_mem_cons.mpr ⟨mj_mc42, List.forall_mem_cons.mpr ⟨mj_mc43, List.forall_mem_cons.mpr ⟨mj_mc44, List.forall_mem_cons.mpr ⟨mj_mc45, List.forall_mem_cons.mpr ⟨mj_mc46, List.forall_mem_cons.mpr ⟨mj_mc47, List.forall_mem_cons.mpr ⟨mj_mc48, List.forall_mem_cons.mpr ⟨mj_mc49, List.forall_mem_cons.mpr ⟨mj_mc50, List.forall_mem_cons.mpr ⟨mj_mc51, List.forall_mem_cons.mpr ⟨mj_mc52, List.forall_mem_cons.mpr ⟨mj_mc53, List.forall_mem_cons.mpr ⟨mj_mc54, List.forall_mem_cons.mpr ⟨mj_mc55, List.forall_mem_cons.mpr ⟨mj_mc56, List.forall_mem_cons.mpr ⟨mj_mc57, List.forall_mem_cons.mpr ⟨mj_mc58, List.forall_mem_cons.mpr ⟨mj_mc59, fun _ h => absurd h List.not_mem_nil⟩⟩⟩⟩⟩⟩⟩⟩⟩⟩⟩⟩⟩⟩⟩⟩⟩⟩⟩⟩
theorem mj_mcs60 : ∀ x ∈ (mj_mt.drop 60).take 20, mj_wc x ∈ lw_tbl := List.forall_mem_cons.mpr ⟨mj_mc60, List.forall_mem_cons.mpr ⟨mj_mc61, List.forall_mem_cons.mpr ⟨mj_mc62, List.forall_mem_cons.mpr ⟨mj_mc63, List.forall_mem_cons.mpr ⟨mj_mc64, List.forall_mem_cons.mpr ⟨mj_mc65, List.forall_mem_cons.mpr ⟨mj_mc66, List.forall_mem_cons.mpr ⟨mj_mc67, List.forall_mem_cons.mpr ⟨mj_mc68, List.forall_mem_cons.mpr ⟨mj_mc69, fun _ h => absurd h List.not_mem_nil⟩⟩⟩⟩⟩⟩⟩⟩⟩⟩
set_option maxRecDepth 100000 in
theorem mj_mt_c : ∀ x ∈ mj_mt, mj_wc x ∈ mj_WA := by
  intro x hx
  refine List.mem_filter.mpr ⟨?_, mj_wc_g x⟩
  have h : mj_mt = (mj_mt.drop 0).take 20 ++ (mj_mt.drop 20).take 20 ++ (mj_mt.drop 40).take 20 ++ (mj_mt.drop 60).take 20 := rfl
  rw [h] at hx
  simp only [List.mem_append] at hx
  rcases hx with (((h | h) | h) | h)
  · exact mj_mcs0 x h
  · exact mj_mcs20 x h
  · exact mj_mcs40 x h
  · exact mj_mcs60 x h
theorem mj_mt_i : ∀ w ∈ mj_mt.map mj_wi, w ∈ mj_WA := mj_of [550, 554, 259, 274, 286, 293, 302, 306, 320, 328, 515, 531, 332, 336, 350, 397, 408, 412, 445, 482, 487, 290, 519, 271, 416, 437, 420, 424, 263, 297, 278, 393, 324, 559, 267, 282, 340, 345, 310, 401, 362, 366, 387, 374, 384, 377, 380, 449, 455, 461, 468, 475, 479, 522, 535, 539, 542, 545, 354, 358, 431, 317, 491, 496, 499, 502, 505, 508, 511, 563] (by decide +kernel) (by decide +kernel)
theorem mj_mt_v : ∀ w ∈ mj_mt.map mj_wv, w ∈ mj_WA := mj_of [551, 555, 260, 275, 287, 294, 303, 307, 321, 329, 516, 532, 333, 337, 351, 398, 409, 413, 446, 483, 488, 290, 519, 271, 417, 438, 421, 425, 264, 298, 279, 394, 325, 560, 268, 283, 341, 346, 311, 402, 363, 367, 388, 0, 1, 377, 380, 450, 2, 3, 4, 5, 6, 523, 536, 539, 542, 546, 355, 359, 432, 317, 491, 496, 499, 502, 505, 508, 511, 563] (by decide +kernel) (by decide +kernel)
theorem mj_mt_n : ∀ w ∈ mj_mt.map mj_wn, w ∈ mj_WA := mj_of [8, 8, 8, 8, 8, 8, 8, 8, 8, 8, 8, 8, 8, 8, 8, 8, 8, 8, 8, 8, 8, 8, 8, 8, 11, 11, 9, 9, 9, 9, 9, 9, 9, 9, 9, 9, 9, 9, 9, 9, 9, 9, 9, 9, 9, 9, 9, 12, 12, 12, 12, 12, 12, 14, 14, 14, 14, 10, 10, 10, 10, 17, 7, 7, 7, 7, 7, 7, 7, 7] (by decide +kernel) (by decide +kernel)
theorem mj_mt_d : mj_mt.all (fun x => plainName (mj_cs_ x.1) && decide (mj_cs_ x.1 ≠ "java/lang/invoke/MethodHandle") && decide (mj_cs_ x.1 ≠ "java/lang/invoke/VarHandle")) = true := by decide +kernel
/-- how many a method takes, the receiver not counted -/
def mj_np : List Nat := [3, 3, 2, 2, 3, 3, 2, 2, 2, 1, 2, 0, 1, 1, 1, 1, 1, 3, 3, 0, 0, 3, 2, 1, 1, 2, 1, 2, 1, 1, 1, 1, 3, 3, 1, 1, 0, 1, 2, 0, 2, 3, 1, 1, 1, 2, 2, 3, 4, 5, 1, 2, 3, 1, 1, 3, 1, 2, 1, 1, 1, 2, 2, 1, 1, 1, 2, 2, 3, 2]
theorem mj_mt_p : mj_mt.map (fun x => (parseMethodDescriptor x.2.2.1).map (fun d => d.parameters.length)) = mj_np.map some := by decide +kernel
/-- links of fields: whose file, its place there, class, field -/
def mj_FL : List (Nat × Nat × Nat × Nat) := [(0, 10, 0, 0), (0, 20, 1, 12), (0, 24, 1, 11), (1, 9, 1, 0), (1, 15, 1, 1), (1, 19, 1, 2), (1, 22, 1, 3), (1, 27, 1, 4), (1, 30, 1, 5), (1, 33, 1, 6), (1, 36, 1, 7), (1, 39, 1, 8), (1, 42, 1, 9), (1, 45, 1, 10), (1, 51, 1, 11), (1, 55, 1, 12), (1, 58, 1, 13), (4, 12, 4, 0), (4, 20, 4, 1), (4, 23, 4, 2), (4, 26, 4, 3), (4, 30, 1, 7), (4, 41, 1, 8), (4, 44, 1, 9), (4, 72, 0, 0), (4, 80, 1, 4), (5, 9, 5, 0), (5, 15, 5, 1), (5, 19, 6, 2), (6, 9, 6, 0), (6, 15, 6, 1), (6, 18, 6, 2), (7, 10, 7, 0), (7, 16, 7, 1), (7, 22, 7, 2), (7, 29, 7, 3), (7, 43, 7, 5), (7, 50, 7, 6), (7, 61, 7, 8), (7, 69, 1, 0), (7, 81, 1, 5), (7, 91, 1, 1), (7, 95, 1, 2), (7, 98, 1, 3), (7, 107, 1, 6), (7, 110, 1, 7), (7, 113, 1, 8), (7, 116, 1, 9), (7, 125, 1, 4), (7, 137, 5, 1), (7, 148, 1, 11), (7, 155, 1, 10), (7, 162, 1, 12), (7, 165, 6, 2), (7, 187, 1, 13), (7, 197, 0, 0), (7, 210, 4, 3)]
def mj_TT (ci : Nat) : u_T := (mj_cl.getD ci ("", mj_T0, 0)).2.1
def mj_wf (e : Nat × Nat × Nat × Nat) : Cond := .fieldLink (mj_cs_ e.1) e.2.1 (mj_TT e.2.2.1 e.2.2.2).1 (mj_TT e.2.2.1 e.2.2.2).2.1 (mj_TT e.2.2.1 e.2.2.2).2.2.1
theorem mj_FL_ok : ∀ w ∈ mj_FL.map mj_wf, w ∈ mj_WA := mj_of [125, 84, 81, 54, 56, 58, 60, 62, 65, 67, 69, 72, 75, 78, 80, 83, 86, 140, 141, 142, 143, 70, 73, 76, 126, 63, 200, 201, 44, 41, 42, 43, 230, 231, 232, 233, 235, 236, 238, 55, 66, 57, 59, 61, 68, 71, 74, 77, 64, 202, 82, 79, 85, 45, 87, 127, 144] (by decide +kernel) (by decide +kernel)
/-- links of methods: whose file, its place there, the method -/
def mj_ML : List (Nat × Nat × Nat) := [(0, 16, 26), (0, 28, 58), (0, 34, 59), (0, 37, 41), (0, 41, 42), (1, 61, 27), (1, 71, 60), (1, 75, 28), (1, 79, 61), (1, 89, 29), (1, 101, 41), (1, 105, 42), (1, 112, 34), (1, 115, 43), (1, 118, 45), (1, 121, 46), (1, 124, 44), (1, 131, 31), (4, 47, 48), (4, 51, 50), (4, 55, 51), (4, 59, 24), (4, 63, 29), (4, 67, 49), (4, 76, 27), (4, 83, 25), (4, 89, 52), (5, 22, 55), (5, 26, 56), (5, 30, 57), (7, 65, 21), (7, 73, 32), (7, 77, 31), (7, 84, 33), (7, 87, 28), (7, 101, 34), (7, 104, 30), (7, 119, 35), (7, 122, 29), (7, 129, 38), (7, 133, 22), (7, 140, 53), (7, 144, 54), (7, 151, 60), (7, 158, 36), (7, 166, 37), (7, 170, 23), (7, 174, 58), (7, 177, 59), (7, 180, 40), (7, 184, 39), (7, 190, 24), (7, 194, 25), (7, 200, 61), (7, 206, 47), (7, 223, 26), (8, 9, 62), (8, 15, 65), (8, 19, 66), (8, 24, 10), (8, 40, 11), (8, 43, 63), (8, 46, 0), (8, 50, 64), (8, 53, 67), (8, 56, 1), (8, 59, 5), (8, 63, 68), (8, 67, 13), (8, 71, 2), (8, 75, 14), (8, 78, 7), (8, 81, 8), (8, 84, 9), (8, 87, 3), (8, 90, 12), (8, 93, 6), (8, 96, 16), (8, 99, 19), (8, 102, 69), (8, 105, 17), (8, 108, 20), (8, 111, 15), (8, 114, 18), (8, 117, 4)]
def mj_wm (e : Nat × Nat × Nat) : Cond := .methodLink (mj_cs_ e.1) e.2.1 (mj_y e.2.2)
theorem mj_ML_ok : ∀ w ∈ mj_ML.map mj_wm, w ∈ mj_WA := mj_of [419, 440, 441, 442, 443, 423, 430, 300, 316, 343, 365, 386, 371, 372, 376, 379, 382, 392, 453, 466, 473, 457, 458, 459, 463, 464, 477, 538, 541, 544, 289, 323, 557, 558, 262, 266, 277, 281, 296, 309, 518, 521, 534, 548, 339, 344, 348, 353, 357, 361, 400, 415, 436, 435, 448, 485, 490, 501, 504, 514, 530, 495, 549, 498, 507, 553, 292, 510, 335, 258, 349, 305, 319, 327, 273, 331, 301, 407, 481, 562, 411, 486, 396, 444, 285] (by decide +kernel) (by decide +kernel)
def mj_KL : List (Nat × Nat × Int) := [(1, 98, 1103515245), (1, 99, 2147483647), (1, 100, 65536), (4, 71, -1000000), (8, 7, 15485957), (8, 8, 2147483647)]
def mj_wk (e : Nat × Nat × Int) : Cond := .constant (mj_cs_ e.1) e.2.1 (Int32.ofInt e.2.2)
theorem mj_KL_ok : ∀ w ∈ mj_KL.map mj_wk, w ∈ mj_WA := mj_of [404, 405, 406, 465, 493, 494] (by decide +kernel) (by decide +kernel)
def mj_KM : List (Nat × Nat × Int) := [(8, 22, 44), (8, 30, 117), (8, 32, 108), (8, 34, 114), (8, 36, 100), (8, 38, 48)]
def mj_wl2 (e : Nat × Nat × Int) : Cond := .constantLong (mj_cs_ e.1) e.2.1 (Int64.ofInt e.2.2)
theorem mj_KM_ok : ∀ w ∈ mj_KM.map mj_wl2, w ∈ mj_WA := mj_of [513, 525, 526, 527, 528, 529] (by decide +kernel) (by decide +kernel)
def mj_AL : List (Nat × Nat) := [(1, 65), (6, 22)]
def mj_wa (e : Nat × Nat) : Cond := .methodLink (mj_cs_ e.1) e.2 arraycopyName
theorem mj_AL_ok : ∀ w ∈ mj_AL.map mj_wa, w ∈ mj_WA := mj_of [427, 434] (by decide +kernel) (by decide +kernel)
theorem mj_AC_ok : ∀ w ∈ [Cond.native arraycopyName, Cond.static arraycopyName, Cond.initialized "java/lang/System"], w ∈ mj_WA := mj_of [429, 428, 16] (by decide +kernel) (by decide +kernel)
/-- Math.max (0), min (1): whose file, its place there -/
def mj_JL : List (Nat × Nat × Bool) := [(1, 92, false), (4, 35, false), (4, 86, true)]
def mj_wj (e : Nat × Nat × Bool) : Cond := .methodLink (mj_cs_ e.1) e.2.1 (if e.2.2 then Lib.Math.max.name else Lib.Math.min.name)
theorem mj_JL_ok : ∀ w ∈ mj_JL.map mj_wj, w ∈ mj_WA := mj_of [313, 452, 470] (by decide +kernel) (by decide +kernel)
theorem mj_JC_ok : ∀ w ∈ [Cond.static Lib.Math.max.name, Cond.static Lib.Math.min.name, Cond.initialized "java/lang/Math", Cond.code Lib.Math.max.name Lib.Math.max.code 2 (some .int), Cond.code Lib.Math.min.name Lib.Math.min.code 2 (some .int)], w ∈ mj_WA := mj_of [471, 314, 18, 472, 315] (by decide +kernel) (by decide +kernel)
theorem mj_u0 : ∀ w ∈ u_ws "CloudStrings$Forecast" mj_T0 1, w ∈ mj_WA := mj_of [128] (by decide +kernel) (by decide +kernel)
theorem mj_u1 : ∀ w ∈ u_ws "CloudStrings$Land" mj_T1 14, w ∈ mj_WA := mj_of [88, 90, 92, 94, 96, 98, 100, 102, 104, 106, 108, 110, 112, 114] (by decide +kernel) (by decide +kernel)
theorem mj_u2 : ∀ w ∈ u_ws "CloudStrings$Laying" mj_T2 10, w ∈ mj_WA := mj_of [173, 175, 177, 179, 181, 183, 185, 187, 189, 191] (by decide +kernel) (by decide +kernel)
theorem mj_u3 : ∀ w ∈ u_ws "CloudStrings$Sheet" mj_T3 4, w ∈ mj_WA := mj_of [221, 223, 225, 227] (by decide +kernel) (by decide +kernel)
theorem mj_u4 : ∀ w ∈ u_ws "CloudStrings$Supply" mj_T4 4, w ∈ mj_WA := mj_of [145, 147, 149, 151] (by decide +kernel) (by decide +kernel)
theorem mj_u5 : ∀ w ∈ u_ws "CloudStrings$Tape" mj_T5 2, w ∈ mj_WA := mj_of [203, 205] (by decide +kernel) (by decide +kernel)
theorem mj_u6 : ∀ w ∈ u_ws "CloudStrings$Winds" mj_T6 3, w ∈ mj_WA := mj_of [46, 48, 50] (by decide +kernel) (by decide +kernel)
theorem mj_u7 : ∀ w ∈ u_ws "CloudStrings" mj_T7 9, w ∈ mj_WA := mj_of [239, 241, 243, 245, 247, 249, 251, 253, 255] (by decide +kernel) (by decide +kernel)
theorem mj_cl_u : ∀ c ∈ mj_cl, ∀ w ∈ u_ws c.1 c.2.1 c.2.2, w ∈ mj_WA := by
  intro c hc
  simp only [mj_cl, List.mem_cons, List.not_mem_nil, or_false] at hc
  rcases hc with rfl | rfl | rfl | rfl | rfl | rfl | rfl | rfl
  · exact mj_u0
  · exact mj_u1
  · exact mj_u2
  · exact mj_u3
  · exact mj_u4
  · exact mj_u5
  · exact mj_u6
  · exact mj_u7
theorem mj_cl_t : ∀ c ∈ mj_cl, ∀ k, k < c.2.2 → parseFieldDescriptor (c.2.1 k).2.2.1 = some ((parseFieldDescriptor (c.2.1 k).2.2.1).getD .int) := by decide +kernel
theorem mj_cl_n : ∀ c ∈ mj_cl, ∀ a, a < c.2.2 → ∀ b, b < c.2.2 → a ≠ b → (c.2.1 a).2.1 ≠ (c.2.1 b).2.1 := by decide +kernel
