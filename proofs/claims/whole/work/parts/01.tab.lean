/-- a private method of a class that the tables say can be made, by its rows of tables_1 -/
def lw_okq (q : MethodName × Nat) : Prop := (q.1.cls ≠ "java/lang/invoke/MethodHandle" ∧ q.1.cls ≠ "java/lang/invoke/VarHandle") ∧ Cond.instantiable q.1.cls q.2 ∈ tables_1 ∧ Cond.privateMethod q.1 ∈ tables_1 ∧ Cond.instanceMethod q.1 ∈ tables_1
theorem lw_p0 : lw_okq (⟨"CloudStrings$Land", "pullerOf", "(I)I"⟩, 14) := ⟨⟨by decide +kernel, by decide +kernel⟩, List.mem_of_getElem? (i := 22) (by decide +kernel), List.mem_of_getElem? (i := 430) (by decide +kernel), List.mem_of_getElem? (i := 431) (by decide +kernel)⟩
theorem lw_p1 : lw_okq (⟨"CloudStrings$Land", "loseStrings", "(I)V"⟩, 14) := ⟨⟨by decide +kernel, by decide +kernel⟩, List.mem_of_getElem? (i := 22) (by decide +kernel), List.mem_of_getElem? (i := 440) (by decide +kernel), List.mem_of_getElem? (i := 441) (by decide +kernel)⟩
theorem lw_p2 : lw_okq (⟨"CloudStrings$Supply", "learnGains", "(LCloudStrings$Land;III)V"⟩, 4) := ⟨⟨by decide +kernel, by decide +kernel⟩, List.mem_of_getElem? (i := 131) (by decide +kernel), List.mem_of_getElem? (i := 506) (by decide +kernel), List.mem_of_getElem? (i := 507) (by decide +kernel)⟩
theorem lw_p3 : lw_okq (⟨"CloudStrings$Supply", "gainBy", "(LCloudStrings$Land;IIII)I"⟩, 4) := ⟨⟨by decide +kernel, by decide +kernel⟩, List.mem_of_getElem? (i := 131) (by decide +kernel), List.mem_of_getElem? (i := 512) (by decide +kernel), List.mem_of_getElem? (i := 513) (by decide +kernel)⟩
theorem lw_p4 : lw_okq (⟨"CloudStrings$Supply", "learnMost", "(I)V"⟩, 4) := ⟨⟨by decide +kernel, by decide +kernel⟩, List.mem_of_getElem? (i := 131) (by decide +kernel), List.mem_of_getElem? (i := 519) (by decide +kernel), List.mem_of_getElem? (i := 520) (by decide +kernel)⟩
theorem lw_p5 : lw_okq (⟨"CloudStrings$Supply", "layFirstRow", "(II)V"⟩, 4) := ⟨⟨by decide +kernel, by decide +kernel⟩, List.mem_of_getElem? (i := 131) (by decide +kernel), List.mem_of_getElem? (i := 526) (by decide +kernel), List.mem_of_getElem? (i := 527) (by decide +kernel)⟩
theorem lw_p6 : lw_okq (⟨"CloudStrings$Supply", "fewestOn", "(III)I"⟩, 4) := ⟨⟨by decide +kernel, by decide +kernel⟩, List.mem_of_getElem? (i := 131) (by decide +kernel), List.mem_of_getElem? (i := 530) (by decide +kernel), List.mem_of_getElem? (i := 531) (by decide +kernel)⟩
theorem lw_p7 : lw_okq (⟨"CloudStrings$Laying", "prepare", "(LCloudStrings$Land;II)V"⟩, 10) := ⟨⟨by decide +kernel, by decide +kernel⟩, List.mem_of_getElem? (i := 154) (by decide +kernel), List.mem_of_getElem? (i := 542) (by decide +kernel), List.mem_of_getElem? (i := 543) (by decide +kernel)⟩
theorem lw_p8 : lw_okq (⟨"CloudStrings$Laying", "learnGains", "(LCloudStrings$Land;III)V"⟩, 10) := ⟨⟨by decide +kernel, by decide +kernel⟩, List.mem_of_getElem? (i := 154) (by decide +kernel), List.mem_of_getElem? (i := 548) (by decide +kernel), List.mem_of_getElem? (i := 549) (by decide +kernel)⟩
theorem lw_p9 : lw_okq (⟨"CloudStrings$Laying", "layBy", "(LCloudStrings$Land;III)V"⟩, 10) := ⟨⟨by decide +kernel, by decide +kernel⟩, List.mem_of_getElem? (i := 154) (by decide +kernel), List.mem_of_getElem? (i := 552) (by decide +kernel), List.mem_of_getElem? (i := 553) (by decide +kernel)⟩
theorem lw_p10 : lw_okq (⟨"CloudStrings$Laying", "gainOf", "(I)I"⟩, 10) := ⟨⟨by decide +kernel, by decide +kernel⟩, List.mem_of_getElem? (i := 154) (by decide +kernel), List.mem_of_getElem? (i := 560) (by decide +kernel), List.mem_of_getElem? (i := 561) (by decide +kernel)⟩
theorem lw_p11 : lw_okq (⟨"CloudStrings$Laying", "isKeptByBoth", "(II)Z"⟩, 10) := ⟨⟨by decide +kernel, by decide +kernel⟩, List.mem_of_getElem? (i := 154) (by decide +kernel), List.mem_of_getElem? (i := 564) (by decide +kernel), List.mem_of_getElem? (i := 565) (by decide +kernel)⟩
theorem lw_p12 : lw_okq (⟨"CloudStrings$Laying", "noteFound", "(II)V"⟩, 10) := ⟨⟨by decide +kernel, by decide +kernel⟩, List.mem_of_getElem? (i := 154) (by decide +kernel), List.mem_of_getElem? (i := 568) (by decide +kernel), List.mem_of_getElem? (i := 569) (by decide +kernel)⟩
theorem lw_p13 : lw_okq (⟨"CloudStrings$Laying", "layChoices", "(I)V"⟩, 10) := ⟨⟨by decide +kernel, by decide +kernel⟩, List.mem_of_getElem? (i := 154) (by decide +kernel), List.mem_of_getElem? (i := 600) (by decide +kernel), List.mem_of_getElem? (i := 601) (by decide +kernel)⟩
theorem lw_p14 : lw_okq (⟨"CloudStrings$Laying", "isAsTold", "(LCloudStrings$Land;[II)Z"⟩, 10) := ⟨⟨by decide +kernel, by decide +kernel⟩, List.mem_of_getElem? (i := 154) (by decide +kernel), List.mem_of_getElem? (i := 604) (by decide +kernel), List.mem_of_getElem? (i := 605) (by decide +kernel)⟩
theorem lw_p15 : lw_okq (⟨"CloudStrings$Laying", "noteRow", "(I)V"⟩, 10) := ⟨⟨by decide +kernel, by decide +kernel⟩, List.mem_of_getElem? (i := 154) (by decide +kernel), List.mem_of_getElem? (i := 608) (by decide +kernel), List.mem_of_getElem? (i := 609) (by decide +kernel)⟩
def lw_privs_1 : List (MethodName × Nat) := [(⟨"CloudStrings$Land", "pullerOf", "(I)I"⟩, 14), (⟨"CloudStrings$Land", "loseStrings", "(I)V"⟩, 14), (⟨"CloudStrings$Supply", "learnGains", "(LCloudStrings$Land;III)V"⟩, 4), (⟨"CloudStrings$Supply", "gainBy", "(LCloudStrings$Land;IIII)I"⟩, 4), (⟨"CloudStrings$Supply", "learnMost", "(I)V"⟩, 4), (⟨"CloudStrings$Supply", "layFirstRow", "(II)V"⟩, 4), (⟨"CloudStrings$Supply", "fewestOn", "(III)I"⟩, 4), (⟨"CloudStrings$Laying", "prepare", "(LCloudStrings$Land;II)V"⟩, 10), (⟨"CloudStrings$Laying", "learnGains", "(LCloudStrings$Land;III)V"⟩, 10), (⟨"CloudStrings$Laying", "layBy", "(LCloudStrings$Land;III)V"⟩, 10), (⟨"CloudStrings$Laying", "gainOf", "(I)I"⟩, 10), (⟨"CloudStrings$Laying", "isKeptByBoth", "(II)Z"⟩, 10), (⟨"CloudStrings$Laying", "noteFound", "(II)V"⟩, 10), (⟨"CloudStrings$Laying", "layChoices", "(I)V"⟩, 10), (⟨"CloudStrings$Laying", "isAsTold", "(LCloudStrings$Land;[II)Z"⟩, 10), (⟨"CloudStrings$Laying", "noteRow", "(I)V"⟩, 10)]
theorem lw_r1 : ∀ q ∈ lw_privs_1, lw_okq q := List.forall_mem_cons.mpr ⟨lw_p0, List.forall_mem_cons.mpr ⟨lw_p1, List.forall_mem_cons.mpr ⟨lw_p2, List.forall_mem_cons.mpr ⟨lw_p3, List.forall_mem_cons.mpr ⟨lw_p4, List.forall_mem_cons.mpr ⟨lw_p5, List.forall_mem_cons.mpr ⟨lw_p6, List.forall_mem_cons.mpr ⟨lw_p7, List.forall_mem_cons.mpr ⟨lw_p8, List.forall_mem_cons.mpr ⟨lw_p9, List.forall_mem_cons.mpr ⟨lw_p10, List.forall_mem_cons.mpr ⟨lw_p11, List.forall_mem_cons.mpr ⟨lw_p12, List.forall_mem_cons.mpr ⟨lw_p13, List.forall_mem_cons.mpr ⟨lw_p14, List.forall_mem_cons.mpr ⟨lw_p15, fun _ h => absurd h List.not_mem_nil⟩⟩⟩⟩⟩⟩⟩⟩⟩⟩⟩⟩⟩⟩⟩⟩
theorem lw_p16 : lw_okq (⟨"CloudStrings$Laying", "goOn", "(I)Z"⟩, 10) := ⟨⟨by decide +kernel, by decide +kernel⟩, List.mem_of_getElem? (i := 154) (by decide +kernel), List.mem_of_getElem? (i := 612) (by decide +kernel), List.mem_of_getElem? (i := 613) (by decide +kernel)⟩
theorem lw_p17 : lw_okq (⟨"CloudStringsModel", "comes", "(III)I"⟩, 25) := ⟨⟨by decide +kernel, by decide +kernel⟩, List.mem_of_getElem? (i := 647) (by decide +kernel), List.mem_of_getElem? (i := 739) (by decide +kernel), List.mem_of_getElem? (i := 740) (by decide +kernel)⟩
theorem lw_p18 : lw_okq (⟨"CloudStringsModel", "villageIn", "(I)I"⟩, 25) := ⟨⟨by decide +kernel, by decide +kernel⟩, List.mem_of_getElem? (i := 647) (by decide +kernel), List.mem_of_getElem? (i := 749) (by decide +kernel), List.mem_of_getElem? (i := 750) (by decide +kernel)⟩
theorem lw_p19 : lw_okq (⟨"CloudStringsModel", "isCloud", "(I)Z"⟩, 25) := ⟨⟨by decide +kernel, by decide +kernel⟩, List.mem_of_getElem? (i := 647) (by decide +kernel), List.mem_of_getElem? (i := 757) (by decide +kernel), List.mem_of_getElem? (i := 758) (by decide +kernel)⟩
theorem lw_p20 : lw_okq (⟨"CloudStringsModel", "strings", "(I)I"⟩, 25) := ⟨⟨by decide +kernel, by decide +kernel⟩, List.mem_of_getElem? (i := 647) (by decide +kernel), List.mem_of_getElem? (i := 761) (by decide +kernel), List.mem_of_getElem? (i := 762) (by decide +kernel)⟩
theorem lw_p21 : lw_okq (⟨"CloudStringsModel", "isVillage", "(I)Z"⟩, 25) := ⟨⟨by decide +kernel, by decide +kernel⟩, List.mem_of_getElem? (i := 647) (by decide +kernel), List.mem_of_getElem? (i := 769) (by decide +kernel), List.mem_of_getElem? (i := 770) (by decide +kernel)⟩
theorem lw_p22 : lw_okq (⟨"CloudStringsModel", "heldBy", "(I)I"⟩, 25) := ⟨⟨by decide +kernel, by decide +kernel⟩, List.mem_of_getElem? (i := 647) (by decide +kernel), List.mem_of_getElem? (i := 774) (by decide +kernel), List.mem_of_getElem? (i := 775) (by decide +kernel)⟩
theorem lw_p23 : lw_okq (⟨"CloudStringsModel", "isOver", "(I)Z"⟩, 25) := ⟨⟨by decide +kernel, by decide +kernel⟩, List.mem_of_getElem? (i := 647) (by decide +kernel), List.mem_of_getElem? (i := 786) (by decide +kernel), List.mem_of_getElem? (i := 787) (by decide +kernel)⟩
theorem lw_p24 : lw_okq (⟨"CloudStringsModel", "letGo", "(I)V"⟩, 25) := ⟨⟨by decide +kernel, by decide +kernel⟩, List.mem_of_getElem? (i := 647) (by decide +kernel), List.mem_of_getElem? (i := 798) (by decide +kernel), List.mem_of_getElem? (i := 799) (by decide +kernel)⟩
theorem lw_p25 : lw_okq (⟨"CloudStringsModel", "readWind", "(I)V"⟩, 25) := ⟨⟨by decide +kernel, by decide +kernel⟩, List.mem_of_getElem? (i := 647) (by decide +kernel), List.mem_of_getElem? (i := 822) (by decide +kernel), List.mem_of_getElem? (i := 823) (by decide +kernel)⟩
theorem lw_p26 : lw_okq (⟨"CloudStringsModel", "here", "()I"⟩, 25) := ⟨⟨by decide +kernel, by decide +kernel⟩, List.mem_of_getElem? (i := 647) (by decide +kernel), List.mem_of_getElem? (i := 826) (by decide +kernel), List.mem_of_getElem? (i := 827) (by decide +kernel)⟩
theorem lw_p27 : lw_okq (⟨"CloudStringsModel", "sum", "(II)I"⟩, 25) := ⟨⟨by decide +kernel, by decide +kernel⟩, List.mem_of_getElem? (i := 647) (by decide +kernel), List.mem_of_getElem? (i := 841) (by decide +kernel), List.mem_of_getElem? (i := 842) (by decide +kernel)⟩
theorem lw_p28 : lw_okq (⟨"CloudStringsModel", "goes", "(I)I"⟩, 25) := ⟨⟨by decide +kernel, by decide +kernel⟩, List.mem_of_getElem? (i := 647) (by decide +kernel), List.mem_of_getElem? (i := 850) (by decide +kernel), List.mem_of_getElem? (i := 851) (by decide +kernel)⟩
theorem lw_p29 : lw_okq (⟨"CloudStringsModel", "hour", "(II)I"⟩, 25) := ⟨⟨by decide +kernel, by decide +kernel⟩, List.mem_of_getElem? (i := 647) (by decide +kernel), List.mem_of_getElem? (i := 854) (by decide +kernel), List.mem_of_getElem? (i := 855) (by decide +kernel)⟩
theorem lw_p30 : lw_okq (⟨"CloudStringsModel", "moves", "(III)V"⟩, 25) := ⟨⟨by decide +kernel, by decide +kernel⟩, List.mem_of_getElem? (i := 647) (by decide +kernel), List.mem_of_getElem? (i := 858) (by decide +kernel), List.mem_of_getElem? (i := 859) (by decide +kernel)⟩
theorem lw_p31 : lw_okq (⟨"CloudStringsModel", "keeps", "()V"⟩, 25) := ⟨⟨by decide +kernel, by decide +kernel⟩, List.mem_of_getElem? (i := 647) (by decide +kernel), List.mem_of_getElem? (i := 887) (by decide +kernel), List.mem_of_getElem? (i := 888) (by decide +kernel)⟩
def lw_privs_2 : List (MethodName × Nat) := [(⟨"CloudStrings$Laying", "goOn", "(I)Z"⟩, 10), (⟨"CloudStringsModel", "comes", "(III)I"⟩, 25), (⟨"CloudStringsModel", "villageIn", "(I)I"⟩, 25), (⟨"CloudStringsModel", "isCloud", "(I)Z"⟩, 25), (⟨"CloudStringsModel", "strings", "(I)I"⟩, 25), (⟨"CloudStringsModel", "isVillage", "(I)Z"⟩, 25), (⟨"CloudStringsModel", "heldBy", "(I)I"⟩, 25), (⟨"CloudStringsModel", "isOver", "(I)Z"⟩, 25), (⟨"CloudStringsModel", "letGo", "(I)V"⟩, 25), (⟨"CloudStringsModel", "readWind", "(I)V"⟩, 25), (⟨"CloudStringsModel", "here", "()I"⟩, 25), (⟨"CloudStringsModel", "sum", "(II)I"⟩, 25), (⟨"CloudStringsModel", "goes", "(I)I"⟩, 25), (⟨"CloudStringsModel", "hour", "(II)I"⟩, 25), (⟨"CloudStringsModel", "moves", "(III)V"⟩, 25), (⟨"CloudStringsModel", "keeps", "()V"⟩, 25)]
theorem lw_r2 : ∀ q ∈ lw_privs_2, lw_okq q := List.forall_mem_cons.mpr ⟨lw_p16, List.forall_mem_cons.mpr ⟨lw_p17, List.forall_mem_cons.mpr ⟨lw_p18, List.forall_mem_cons.mpr ⟨lw_p19, List.forall_mem_cons.mpr ⟨lw_p20, List.forall_mem_cons.mpr ⟨lw_p21, List.forall_mem_cons.mpr ⟨lw_p22, List.forall_mem_cons.mpr ⟨lw_p23, List.forall_mem_cons.mpr ⟨lw_p24, List.forall_mem_cons.mpr ⟨lw_p25, List.forall_mem_cons.mpr ⟨lw_p26, List.forall_mem_cons.mpr ⟨lw_p27, List.forall_mem_cons.mpr ⟨lw_p28, List.forall_mem_cons.mpr ⟨lw_p29, List.forall_mem_cons.mpr ⟨lw_p30, List.forall_mem_cons.mpr ⟨lw_p31, fun _ h => absurd h List.not_mem_nil⟩⟩⟩⟩⟩⟩⟩⟩⟩⟩⟩⟩⟩⟩⟩⟩
theorem lw_p32 : lw_okq (⟨"CloudStringsModel", "back", "()V"⟩, 25) := ⟨⟨by decide +kernel, by decide +kernel⟩, List.mem_of_getElem? (i := 647) (by decide +kernel), List.mem_of_getElem? (i := 891) (by decide +kernel), List.mem_of_getElem? (i := 892) (by decide +kernel)⟩
theorem lw_p33 : lw_okq (⟨"CloudStringsModel", "begins", "(I)Z"⟩, 25) := ⟨⟨by decide +kernel, by decide +kernel⟩, List.mem_of_getElem? (i := 647) (by decide +kernel), List.mem_of_getElem? (i := 906) (by decide +kernel), List.mem_of_getElem? (i := 907) (by decide +kernel)⟩
theorem lw_p34 : lw_okq (⟨"CloudStringsModel", "lastOver", "()I"⟩, 25) := ⟨⟨by decide +kernel, by decide +kernel⟩, List.mem_of_getElem? (i := 647) (by decide +kernel), List.mem_of_getElem? (i := 910) (by decide +kernel), List.mem_of_getElem? (i := 911) (by decide +kernel)⟩
theorem lw_p35 : lw_okq (⟨"CloudStringsModel", "isEnough", "(II)Z"⟩, 25) := ⟨⟨by decide +kernel, by decide +kernel⟩, List.mem_of_getElem? (i := 647) (by decide +kernel), List.mem_of_getElem? (i := 914) (by decide +kernel), List.mem_of_getElem? (i := 915) (by decide +kernel)⟩
theorem lw_p36 : lw_okq (⟨"CloudStringsModel", "turns", "()Z"⟩, 25) := ⟨⟨by decide +kernel, by decide +kernel⟩, List.mem_of_getElem? (i := 647) (by decide +kernel), List.mem_of_getElem? (i := 918) (by decide +kernel), List.mem_of_getElem? (i := 919) (by decide +kernel)⟩
theorem lw_p37 : lw_okq (⟨"CloudStringsModel", "isChoice", "(I)Z"⟩, 25) := ⟨⟨by decide +kernel, by decide +kernel⟩, List.mem_of_getElem? (i := 647) (by decide +kernel), List.mem_of_getElem? (i := 926) (by decide +kernel), List.mem_of_getElem? (i := 927) (by decide +kernel)⟩
theorem lw_p38 : lw_okq (⟨"CloudStringsModel", "lays", "(II)V"⟩, 25) := ⟨⟨by decide +kernel, by decide +kernel⟩, List.mem_of_getElem? (i := 647) (by decide +kernel), List.mem_of_getElem? (i := 930) (by decide +kernel), List.mem_of_getElem? (i := 931) (by decide +kernel)⟩
theorem lw_p39 : lw_okq (⟨"CloudStringsModel", "lay", "([II)I"⟩, 25) := ⟨⟨by decide +kernel, by decide +kernel⟩, List.mem_of_getElem? (i := 647) (by decide +kernel), List.mem_of_getElem? (i := 938) (by decide +kernel), List.mem_of_getElem? (i := 939) (by decide +kernel)⟩
theorem lw_p40 : lw_okq (⟨"CloudStringsModel", "gives", "(I[I)I"⟩, 25) := ⟨⟨by decide +kernel, by decide +kernel⟩, List.mem_of_getElem? (i := 647) (by decide +kernel), List.mem_of_getElem? (i := 946) (by decide +kernel), List.mem_of_getElem? (i := 947) (by decide +kernel)⟩
theorem lw_p41 : lw_okq (⟨"CloudStringsModel", "why", "(IIII)I"⟩, 25) := ⟨⟨by decide +kernel, by decide +kernel⟩, List.mem_of_getElem? (i := 647) (by decide +kernel), List.mem_of_getElem? (i := 961) (by decide +kernel), List.mem_of_getElem? (i := 962) (by decide +kernel)⟩
theorem lw_p42 : lw_okq (⟨"CloudStringsModel", "isAs", "(III)Z"⟩, 25) := ⟨⟨by decide +kernel, by decide +kernel⟩, List.mem_of_getElem? (i := 647) (by decide +kernel), List.mem_of_getElem? (i := 965) (by decide +kernel), List.mem_of_getElem? (i := 966) (by decide +kernel)⟩
theorem lw_p43 : lw_okq (⟨"CloudStringsModel", "puts", "(IIJ)V"⟩, 25) := ⟨⟨by decide +kernel, by decide +kernel⟩, List.mem_of_getElem? (i := 647) (by decide +kernel), List.mem_of_getElem? (i := 973) (by decide +kernel), List.mem_of_getElem? (i := 974) (by decide +kernel)⟩
def lw_privs_3 : List (MethodName × Nat) := [(⟨"CloudStringsModel", "back", "()V"⟩, 25), (⟨"CloudStringsModel", "begins", "(I)Z"⟩, 25), (⟨"CloudStringsModel", "lastOver", "()I"⟩, 25), (⟨"CloudStringsModel", "isEnough", "(II)Z"⟩, 25), (⟨"CloudStringsModel", "turns", "()Z"⟩, 25), (⟨"CloudStringsModel", "isChoice", "(I)Z"⟩, 25), (⟨"CloudStringsModel", "lays", "(II)V"⟩, 25), (⟨"CloudStringsModel", "lay", "([II)I"⟩, 25), (⟨"CloudStringsModel", "gives", "(I[I)I"⟩, 25), (⟨"CloudStringsModel", "why", "(IIII)I"⟩, 25), (⟨"CloudStringsModel", "isAs", "(III)Z"⟩, 25), (⟨"CloudStringsModel", "puts", "(IIJ)V"⟩, 25)]
theorem lw_r3 : ∀ q ∈ lw_privs_3, lw_okq q := List.forall_mem_cons.mpr ⟨lw_p32, List.forall_mem_cons.mpr ⟨lw_p33, List.forall_mem_cons.mpr ⟨lw_p34, List.forall_mem_cons.mpr ⟨lw_p35, List.forall_mem_cons.mpr ⟨lw_p36, List.forall_mem_cons.mpr ⟨lw_p37, List.forall_mem_cons.mpr ⟨lw_p38, List.forall_mem_cons.mpr ⟨lw_p39, List.forall_mem_cons.mpr ⟨lw_p40, List.forall_mem_cons.mpr ⟨lw_p41, List.forall_mem_cons.mpr ⟨lw_p42, List.forall_mem_cons.mpr ⟨lw_p43, fun _ h => absurd h List.not_mem_nil⟩⟩⟩⟩⟩⟩⟩⟩⟩⟩⟩⟩
def lw_privs : List (MethodName × Nat) := lw_privs_1 ++ (lw_privs_2 ++ (lw_privs_3))
def lw_tbl : List Cond := k2_sels lw_privs ++ tables_1
theorem lw_privs_ok : ∀ q ∈ lw_privs, lw_okq q := by
  show ∀ q ∈ lw_privs_1 ++ (lw_privs_2 ++ (lw_privs_3)), lw_okq q
  exact List.forall_mem_append.mpr ⟨lw_r1, List.forall_mem_append.mpr ⟨lw_r2, lw_r3⟩⟩

/-- the names of the classes, by number: those of the worlds, the law, the JDK's -/
def mj_cn : List String := ["CloudStrings$Forecast", "CloudStrings$Land", "CloudStrings$Laying", "CloudStrings$Sheet", "CloudStrings$Supply", "CloudStrings$Tape", "CloudStrings$Winds", "CloudStrings", "CloudStringsModel", "CloudStringsLaw", "java/util/Arrays", "java/lang/Math"]
def mj_T0 : u_T := fun k => match k with
  | _ => ("CloudStrings$Forecast", "trial", "LCloudStrings$Land;", true)
def mj_T1 : u_T := fun k => match k with
  | 0 => ("CloudStrings$Land", "clouds", "I", false)
  | 1 => ("CloudStrings$Land", "kind", "[I", true)
  | 2 => ("CloudStrings$Land", "field", "[I", true)
  | 3 => ("CloudStrings$Land", "water", "[I", true)
  | 4 => ("CloudStrings$Land", "strings", "[[I", true)
  | 5 => ("CloudStrings$Land", "villages", "I", false)
  | 6 => ("CloudStrings$Land", "home", "[I", true)
  | 7 => ("CloudStrings$Land", "string", "[I", true)
  | 8 => ("CloudStrings$Land", "thirst", "[I", true)
  | 9 => ("CloudStrings$Land", "wetness", "[I", true)
  | 10 => ("CloudStrings$Land", "fallenOn", "[I", true)
  | 11 => ("CloudStrings$Land", "winds", "LCloudStrings$Winds;", true)
  | 12 => ("CloudStrings$Land", "hour", "I", false)
  | _ => ("CloudStrings$Land", "draw", "I", false)
def mj_T2 : u_T := fun k => match k with
  | 0 => ("CloudStrings$Laying", "forecast", "LCloudStrings$Forecast;", true)
  | 1 => ("CloudStrings$Laying", "open", "[I", true)
  | 2 => ("CloudStrings$Laying", "opens", "I", false)
  | 3 => ("CloudStrings$Laying", "gains", "[[I", true)
  | 4 => ("CloudStrings$Laying", "layersOn", "[I", true)
  | 5 => ("CloudStrings$Laying", "choice", "[I", true)
  | 6 => ("CloudStrings$Laying", "gainOfFirst", "[[I", true)
  | 7 => ("CloudStrings$Laying", "gainOfSecond", "[[I", true)
  | 8 => ("CloudStrings$Laying", "found", "I", false)
  | _ => ("CloudStrings$Laying", "first", "[I", true)
def mj_T3 : u_T := fun k => match k with
  | 0 => ("CloudStrings$Sheet", "items", "[I", true)
  | 1 => ("CloudStrings$Sheet", "isThere", "Z", false)
  | 2 => ("CloudStrings$Sheet", "lane", "I", false)
  | _ => ("CloudStrings$Sheet", "length", "I", false)
def mj_T4 : u_T := fun k => match k with
  | 0 => ("CloudStrings$Supply", "forecast", "LCloudStrings$Forecast;", true)
  | 1 => ("CloudStrings$Supply", "gains", "[[I", true)
  | 2 => ("CloudStrings$Supply", "most", "[[I", true)
  | _ => ("CloudStrings$Supply", "row", "[I", true)
def mj_T5 : u_T := fun k => match k with
  | 0 => ("CloudStrings$Tape", "signs", "[I", true)
  | _ => ("CloudStrings$Tape", "length", "I", false)
def mj_T6 : u_T := fun k => match k with
  | 0 => ("CloudStrings$Winds", "sides", "[I", true)
  | 1 => ("CloudStrings$Winds", "forces", "[I", true)
  | _ => ("CloudStrings$Winds", "length", "I", false)
def mj_T7 : u_T := fun k => match k with
  | 0 => ("CloudStrings", "now", "LCloudStrings$Land;", true)
  | 1 => ("CloudStrings", "kept", "LCloudStrings$Land;", true)
  | 2 => ("CloudStrings", "forecast", "LCloudStrings$Forecast;", true)
  | 3 => ("CloudStrings", "supply", "LCloudStrings$Supply;", true)
  | 4 => ("CloudStrings", "laying", "LCloudStrings$Laying;", true)
  | 5 => ("CloudStrings", "tape", "LCloudStrings$Tape;", true)
  | 6 => ("CloudStrings", "read", "LCloudStrings$Winds;", true)
  | 7 => ("CloudStrings", "sheets", "[LCloudStrings$Sheet;", true)
  | _ => ("CloudStrings", "hasImage", "Z", false)
def mj_T8 : u_T := fun k => match k with
  | 0 => ("CloudStringsModel", "now", "[I", true)
  | 1 => ("CloudStringsModel", "clouds", "I", false)
  | 2 => ("CloudStringsModel", "villages", "I", false)
  | 3 => ("CloudStringsModel", "homes", "[I", true)
  | 4 => ("CloudStringsModel", "thirsts", "[I", true)
  | 5 => ("CloudStringsModel", "winds", "I", false)
  | 6 => ("CloudStringsModel", "sides", "[I", true)
  | 7 => ("CloudStringsModel", "forces", "[I", true)
  | 8 => ("CloudStringsModel", "draw", "I", false)
  | 9 => ("CloudStringsModel", "tape", "[I", true)
  | 10 => ("CloudStringsModel", "taped", "I", false)
  | 11 => ("CloudStringsModel", "at", "I", false)
  | 12 => ("CloudStringsModel", "wrong", "Z", false)
  | 13 => ("CloudStringsModel", "read", "[I", true)
  | 14 => ("CloudStringsModel", "kept", "[I", true)
  | 15 => ("CloudStringsModel", "row", "[I", true)
  | 16 => ("CloudStringsModel", "firsts", "[I", true)
  | 17 => ("CloudStringsModel", "seconds", "[I", true)
  | 18 => ("CloudStringsModel", "image", "[I", true)
  | 19 => ("CloudStringsModel", "isImage", "Z", false)
  | 20 => ("CloudStringsModel", "imageDraw", "I", false)
  | 21 => ("CloudStringsModel", "lanes", "[I", true)
  | 22 => ("CloudStringsModel", "sizes", "[I", true)
  | 23 => ("CloudStringsModel", "items", "[I", true)
  | _ => ("CloudStringsModel", "moved", "[I", true)
abbrev mj_cl : List vw_C := [("CloudStrings$Forecast", mj_T0, 1), ("CloudStrings$Land", mj_T1, 14), ("CloudStrings$Laying", mj_T2, 10), ("CloudStrings$Sheet", mj_T3, 4), ("CloudStrings$Supply", mj_T4, 4), ("CloudStrings$Tape", mj_T5, 2), ("CloudStrings$Winds", mj_T6, 3), ("CloudStrings", mj_T7, 9), ("CloudStringsModel", mj_T8, 25)]
/-- methods: class, name, descriptor, code, locals, answer, static -/
abbrev mj_mT : Type := Nat × String × String × ByteArray × Nat × Option FieldType × Bool
def mj_mt : List mj_mT := [(7, "cloud", "(III)I", prog_1_method_2_code, 4, some .int, false),
  (7, "village", "(III)I", prog_1_method_3_code, 4, some .int, false),
  (7, "told", "(II)I", prog_1_method_4_code, 3, some .int, false),
  (7, "of", "(II)I", prog_1_method_5_code, 3, some .int, false),
  (7, "set", "(III)I", prog_1_method_6_code, 5, some .int, false),
  (7, "hold", "(III)I", prog_1_method_7_code, 5, some .int, false),
  (7, "holds", "(II)I", prog_1_method_8_code, 3, some .int, false),
  (7, "join", "(II)I", prog_1_method_9_code, 3, some .int, false),
  (7, "split", "(II)I", prog_1_method_10_code, 3, some .int, false),
  (7, "salt", "(I)I", prog_1_method_11_code, 3, some .int, false),
  (7, "type", "(JI)I", prog_1_method_12_code, 5, some .int, false),
  (7, "winds", "()I", prog_1_method_13_code, 2, some .int, false),
  (7, "fallen", "(I)I", prog_1_method_14_code, 2, some .int, false),
  (7, "count", "(I)I", prog_1_method_15_code, 2, some .int, false),
  (7, "pass", "(I)I", prog_1_method_16_code, 4, some .int, false),
  (7, "drawn", "(I)I", prog_1_method_17_code, 5, some .int, false),
  (7, "seed", "(I)I", prog_1_method_18_code, 3, some .int, false),
  (7, "wet", "(II)I", prog_1_method_19_code, 4, some .int, false),
  (7, "where", "(III)I", prog_1_method_20_code, 4, some .int, false),
  (7, "fewest", "(III)I", prog_1_method_21_code, 5, some .int, false),
  (7, "tug", "(IIII)I", prog_1_method_22_code, 5, some .int, false),
  (7, "image", "()I", prog_1_method_23_code, 1, some .int, false),
  (7, "restore", "()I", prog_1_method_24_code, 1, some .int, false),
  (7, "held", "(IIIII)I", prog_1_method_25_code, 7, some .int, false),
  (7, "film", "(IIII)I", prog_1_method_26_code, 7, some .int, false),
  (7, "sheet", "(III)I", prog_1_method_27_code, 4, some .int, false),
  (7, "drop", "(I)I", prog_1_method_28_code, 2, some .int, false),
  (7, "item", "(IIIJ)I", prog_1_method_29_code, 7, some .int, false),
  (7, "copy", "(IIIII)I", prog_1_method_30_code, 8, some .int, false),
  (7, "isOutside", "(III)Z", prog_1_method_31_code, 3, some .boolean, true),
  (7, "isNoRow", "(II)Z", prog_1_method_32_code, 2, some .boolean, true),
  (7, "byteOf", "(JI)I", prog_1_method_33_code, 3, some .int, true),
  (7, "sumOf", "([I)I", prog_1_method_34_code, 6, some .int, true),
  (0, "start", "(LCloudStrings$Land;)V", prog_2_method_2_code, 2, none, false),
  (0, "follow", "(II)V", prog_2_method_3_code, 5, none, false),
  (1, "takeAll", "(LCloudStrings$Land;)V", prog_3_method_2_code, 3, none, false),
  (1, "takeCloud", "(LCloudStrings$Land;I)V", prog_3_method_3_code, 3, none, false),
  (1, "isCloud", "(I)Z", prog_3_method_4_code, 2, some .boolean, false),
  (1, "isOver", "(I)Z", prog_3_method_5_code, 2, some .boolean, false),
  (1, "isVillage", "(I)Z", prog_3_method_6_code, 2, some .boolean, false),
  (1, "villageIn", "(I)I", prog_3_method_7_code, 3, some .int, false),
  (1, "addCloud", "(III)I", prog_3_method_8_code, 5, some .int, false),
  (1, "addVillage", "(III)I", prog_3_method_9_code, 5, some .int, false),
  (1, "stringsOn", "(I)I", prog_3_method_10_code, 2, some .int, false),
  (1, "tiedBy", "(I)I", prog_3_method_11_code, 4, some .int, false),
  (1, "cloudsOver", "()I", prog_3_method_12_code, 3, some .int, false),
  (1, "waterWhere", "(Z)I", prog_3_method_13_code, 4, some .int, false),
  (1, "joinClouds", "(II)V", prog_3_method_14_code, 4, none, false),
  (1, "drawWind", "()I", prog_3_method_15_code, 1, some .int, false),
  (1, "passHour", "(II)I", prog_3_method_16_code, 5, some .int, false),
  (1, "move", "(III)V", prog_3_method_17_code, 8, none, false),
  (1, "rain", "(I)I", prog_3_method_18_code, 4, some .int, false),
  (1, "pullerOf", "(I)I", prog_3_method_19_code, 4, some .int, false),
  (1, "loseStrings", "(I)V", prog_3_method_20_code, 3, none, false),
  (1, "towards", "(II)I", prog_3_method_21_code, 4, some .int, true),
  (1, "besides", "(II)I", prog_3_method_22_code, 4, some .int, true),
  (2, "findPairs", "(LCloudStrings$Land;III)V", prog_4_method_2_code, 7, none, false),
  (2, "findRows", "(LCloudStrings$Land;I[II)V", prog_4_method_3_code, 7, none, false),
  (2, "prepare", "(LCloudStrings$Land;II)V", prog_4_method_4_code, 5, none, false),
  (2, "learnGains", "(LCloudStrings$Land;III)V", prog_4_method_5_code, 6, none, false),
  (2, "layBy", "(LCloudStrings$Land;III)V", prog_4_method_6_code, 7, none, false),
  (2, "gainOf", "(I)I", prog_4_method_7_code, 5, some .int, false),
  (2, "isKeptByBoth", "(II)Z", prog_4_method_8_code, 4, some .boolean, false),
  (2, "noteFound", "(II)V", prog_4_method_9_code, 3, none, false),
  (2, "layChoices", "(I)V", prog_4_method_10_code, 3, none, false),
  (2, "isAsTold", "(LCloudStrings$Land;[II)Z", prog_4_method_11_code, 5, some .boolean, false),
  (2, "noteRow", "(I)V", prog_4_method_12_code, 3, none, false),
  (2, "goOn", "(I)Z", prog_4_method_13_code, 3, some .boolean, false),
  (3, "renew", "(II)V", prog_5_method_2_code, 3, none, false),
  (3, "faultOf", "(III)I", prog_5_method_3_code, 4, some .int, false),
  (3, "lacks", "(II)Z", prog_5_method_4_code, 3, some .boolean, false),
  (3, "put", "(IJ)V", prog_5_method_5_code, 4, none, false),
  (4, "plan", "(LCloudStrings$Land;II)I", prog_6_method_2_code, 7, some .int, false),
  (4, "learnGains", "(LCloudStrings$Land;III)V", prog_6_method_3_code, 8, none, false),
  (4, "gainBy", "(LCloudStrings$Land;IIII)I", prog_6_method_4_code, 7, some .int, false),
  (4, "learnMost", "(I)V", prog_6_method_5_code, 5, none, false),
  (4, "layFirstRow", "(II)V", prog_6_method_6_code, 7, none, false),
  (4, "fewestOn", "(III)I", prog_6_method_7_code, 5, some .int, false),
  (5, "add", "(I)V", prog_7_method_2_code, 2, none, false),
  (5, "readInto", "(LCloudStrings$Winds;)I", prog_7_method_3_code, 6, some .int, false),
  (5, "canStand", "(III)Z", prog_7_method_4_code, 3, some .boolean, true),
  (5, "sideOf", "(I)I", prog_7_method_5_code, 1, some .int, true),
  (6, "add", "(II)V", prog_8_method_2_code, 3, none, false),
  (6, "sideIn", "(I)I", prog_8_method_3_code, 2, some .int, false),
  (6, "forceIn", "(I)I", prog_8_method_4_code, 2, some .int, false),
  (6, "takeAll", "(LCloudStrings$Winds;)V", prog_8_method_5_code, 2, none, false),
  (8, "in", "(JJJ)Z", prog_10_method_2_code, 6, some .boolean, true),
  (8, "isCloud", "(I)Z", prog_10_method_4_code, 2, some .boolean, false),
  (8, "isVillage", "(I)Z", prog_10_method_5_code, 2, some .boolean, false),
  (8, "isOver", "(I)Z", prog_10_method_6_code, 2, some .boolean, false),
  (8, "comes", "(III)I", prog_10_method_7_code, 5, some .int, false),
  (8, "cloud", "(III)I", prog_10_method_8_code, 4, some .int, false),
  (8, "village", "(III)I", prog_10_method_9_code, 4, some .int, false),
  (8, "villageIn", "(I)I", prog_10_method_10_code, 4, some .int, false),
  (8, "strings", "(I)I", prog_10_method_11_code, 4, some .int, false),
  (8, "heldBy", "(I)I", prog_10_method_12_code, 4, some .int, false),
  (8, "told", "(II)I", prog_10_method_13_code, 3, some .int, false),
  (8, "of", "(II)I", prog_10_method_14_code, 3, some .int, false),
  (8, "set", "(III)I", prog_10_method_15_code, 5, some .int, false),
  (8, "hold", "(III)I", prog_10_method_16_code, 5, some .int, false),
  (8, "holds", "(II)I", prog_10_method_17_code, 3, some .int, false),
  (8, "letGo", "(I)V", prog_10_method_18_code, 3, none, false),
  (8, "join", "(II)I", prog_10_method_19_code, 5, some .int, false),
  (8, "split", "(II)I", prog_10_method_20_code, 3, some .int, false),
  (8, "salt", "(I)I", prog_10_method_21_code, 3, some .int, false),
  (8, "type", "(JI)I", prog_10_method_22_code, 5, some .int, false),
  (8, "here", "()I", prog_10_method_23_code, 1, some .int, false),
  (8, "sideOf", "(I)I", prog_10_method_24_code, 1, some .int, true),
  (8, "readWind", "(I)V", prog_10_method_25_code, 2, none, false),
  (8, "winds", "()I", prog_10_method_26_code, 4, some .int, false),
  (8, "fallen", "(I)I", prog_10_method_27_code, 2, some .int, false),
  (8, "sum", "(II)I", prog_10_method_28_code, 5, some .int, false),
  (8, "count", "(I)I", prog_10_method_29_code, 5, some .int, false),
  (8, "rains", "(I)I", prog_10_method_30_code, 1, some .int, true),
  (8, "next", "(II)I", prog_10_method_31_code, 4, some .int, true),
  (8, "towards", "(II)I", prog_10_method_32_code, 2, some .int, true),
  (8, "moves", "(III)V", prog_10_method_33_code, 10, none, false),
  (8, "hour", "(II)I", prog_10_method_34_code, 8, some .int, false),
  (8, "goes", "(I)I", prog_10_method_35_code, 5, some .int, false),
  (8, "pass", "(I)I", prog_10_method_36_code, 2, some .int, false),
  (8, "drawn", "(I)I", prog_10_method_37_code, 5, some .int, false),
  (8, "seed", "(I)I", prog_10_method_38_code, 3, some .int, false),
  (8, "keeps", "()V", prog_10_method_39_code, 2, none, false),
  (8, "back", "()V", prog_10_method_40_code, 2, none, false),
  (8, "wet", "(II)I", prog_10_method_41_code, 4, some .int, false),
  (8, "where", "(III)I", prog_10_method_42_code, 5, some .int, false),
  (8, "begins", "(I)Z", prog_10_method_43_code, 3, some .boolean, false),
  (8, "lastOver", "()I", prog_10_method_44_code, 3, some .int, false),
  (8, "turns", "()Z", prog_10_method_45_code, 5, some .boolean, false),
  (8, "isEnough", "(II)Z", prog_10_method_46_code, 4, some .boolean, false),
  (8, "fewest", "(III)I", prog_10_method_47_code, 6, some .int, false),
  (8, "lays", "(II)V", prog_10_method_48_code, 4, none, false),
  (8, "isChoice", "(I)Z", prog_10_method_49_code, 2, some .boolean, false),
  (8, "tug", "(IIII)I", prog_10_method_50_code, 10, some .int, false),
  (8, "lay", "([II)I", prog_10_method_51_code, 4, some .int, false),
  (8, "gives", "(I[I)I", prog_10_method_52_code, 4, some .int, false),
  (8, "image", "()I", prog_10_method_53_code, 2, some .int, false),
  (8, "restore", "()I", prog_10_method_54_code, 2, some .int, false),
  (8, "isSheet", "(I)Z", prog_10_method_55_code, 1, some .boolean, true),
  (8, "isLane", "(I)Z", prog_10_method_56_code, 1, some .boolean, true),
  (8, "why", "(IIII)I", prog_10_method_57_code, 5, some .int, false),
  (8, "isAs", "(III)Z", prog_10_method_58_code, 7, some .boolean, false),
  (8, "held", "(IIIII)I", prog_10_method_59_code, 11, some .int, false),
  (8, "puts", "(IIJ)V", prog_10_method_60_code, 6, none, false),
  (8, "film", "(IIII)I", prog_10_method_61_code, 7, some .int, false),
  (8, "sheet", "(III)I", prog_10_method_62_code, 5, some .int, false),
  (8, "drop", "(I)I", prog_10_method_63_code, 2, some .int, false),
  (8, "item", "(IIIJ)I", prog_10_method_64_code, 7, some .int, false),
  (8, "copy", "(IIIII)I", prog_10_method_65_code, 7, some .int, false),
  (10, "fill", "([II)V", prog_13_method_103_code, 4, none, true)]
def mj_m (f : Nat) : mj_mT := mj_mt.getD f (0, "", "", ⟨#[]⟩, 0, none, false)
def mj_cs_ (i : Nat) : String := mj_cn.getD i ""
def mj_yy (x : mj_mT) : MethodName := ⟨mj_cs_ x.1, x.2.1, x.2.2.1⟩
def mj_y (f : Nat) : MethodName := mj_yy (mj_m f)
def mj_bc (f : Nat) : ByteArray := (mj_m f).2.2.2.1
def mj_mx (f : Nat) : Nat := (mj_m f).2.2.2.2.1
def mj_rt (f : Nat) : Option FieldType := (mj_m f).2.2.2.2.2.1
def mj_stc (f : Nat) : Bool := (mj_m f).2.2.2.2.2.2
def mj_wc (x : mj_mT) : Cond := .code (mj_yy x) x.2.2.2.1 x.2.2.2.2.1 x.2.2.2.2.2.1
def mj_wi (x : mj_mT) : Cond := if x.2.2.2.2.2.2 then .static (mj_yy x) else .instanceMethod (mj_yy x)
def mj_wv (x : mj_mT) : Cond := if x.2.2.2.2.2.2 then .static (mj_yy x) else .selects (mj_cs_ x.1) (mj_yy x) (mj_yy x)
def mj_wn (x : mj_mT) : Cond := .initialized (mj_cs_ x.1)
/-- the words that every method is given -/
def mj_WA : List Cond := lw_tbl.filter goodWord
theorem mj_of {xs : List Cond} (ps : List Nat) (h : xs = ps.filterMap (fun i => lw_tbl[i]?)) (g : xs.all goodWord = true) : ∀ w ∈ xs, w ∈ mj_WA := by
  intro w hw
  have h1 := List.all_eq_true.mp g w hw
  rw [h] at hw
  obtain ⟨i, -, hi⟩ := List.mem_filterMap.mp hw
  exact List.mem_filter.mpr ⟨List.mem_of_getElem? hi, h1⟩
set_option maxRecDepth 100000 in
theorem mj_mc0 : mj_wc (7, "cloud", "(III)I", prog_1_method_2_code, 4, some .int, false) ∈ lw_tbl := List.mem_of_getElem? (i := 310) rfl
set_option maxRecDepth 100000 in
theorem mj_mc1 : mj_wc (7, "village", "(III)I", prog_1_method_3_code, 4, some .int, false) ∈ lw_tbl := List.mem_of_getElem? (i := 324) rfl
set_option maxRecDepth 100000 in
theorem mj_mc2 : mj_wc (7, "told", "(II)I", prog_1_method_4_code, 3, some .int, false) ∈ lw_tbl := List.mem_of_getElem? (i := 336) rfl
set_option maxRecDepth 100000 in
theorem mj_mc3 : mj_wc (7, "of", "(II)I", prog_1_method_5_code, 3, some .int, false) ∈ lw_tbl := List.mem_of_getElem? (i := 351) rfl
set_option maxRecDepth 100000 in
theorem mj_mc4 : mj_wc (7, "set", "(III)I", prog_1_method_6_code, 5, some .int, false) ∈ lw_tbl := List.mem_of_getElem? (i := 363) rfl
set_option maxRecDepth 100000 in
theorem mj_mc5 : mj_wc (7, "hold", "(III)I", prog_1_method_7_code, 5, some .int, false) ∈ lw_tbl := List.mem_of_getElem? (i := 367) rfl
set_option maxRecDepth 100000 in
theorem mj_mc6 : mj_wc (7, "holds", "(II)I", prog_1_method_8_code, 3, some .int, false) ∈ lw_tbl := List.mem_of_getElem? (i := 376) rfl
set_option maxRecDepth 100000 in
theorem mj_mc7 : mj_wc (7, "join", "(II)I", prog_1_method_9_code, 3, some .int, false) ∈ lw_tbl := List.mem_of_getElem? (i := 380) rfl
set_option maxRecDepth 100000 in
theorem mj_mc8 : mj_wc (7, "split", "(II)I", prog_1_method_10_code, 3, some .int, false) ∈ lw_tbl := List.mem_of_getElem? (i := 391) rfl
set_option maxRecDepth 100000 in
theorem mj_mc9 : mj_wc (7, "salt", "(I)I", prog_1_method_11_code, 3, some .int, false) ∈ lw_tbl := List.mem_of_getElem? (i := 395) rfl
set_option maxRecDepth 100000 in
theorem mj_mc10 : mj_wc (7, "type", "(JI)I", prog_1_method_12_code, 5, some .int, false) ∈ lw_tbl := List.mem_of_getElem? (i := 399) rfl
set_option maxRecDepth 100000 in
theorem mj_mc11 : mj_wc (7, "winds", "()I", prog_1_method_13_code, 2, some .int, false) ∈ lw_tbl := List.mem_of_getElem? (i := 410) rfl
set_option maxRecDepth 100000 in
theorem mj_mc12 : mj_wc (7, "fallen", "(I)I", prog_1_method_14_code, 2, some .int, false) ∈ lw_tbl := List.mem_of_getElem? (i := 435) rfl
set_option maxRecDepth 100000 in
theorem mj_mc13 : mj_wc (7, "count", "(I)I", prog_1_method_15_code, 2, some .int, false) ∈ lw_tbl := List.mem_of_getElem? (i := 439) rfl
set_option maxRecDepth 100000 in
theorem mj_mc14 : mj_wc (7, "pass", "(I)I", prog_1_method_16_code, 4, some .int, false) ∈ lw_tbl := List.mem_of_getElem? (i := 453) rfl
set_option maxRecDepth 100000 in
theorem mj_mc15 : mj_wc (7, "drawn", "(I)I", prog_1_method_17_code, 5, some .int, false) ∈ lw_tbl := List.mem_of_getElem? (i := 497) rfl
set_option maxRecDepth 100000 in
theorem mj_mc16 : mj_wc (7, "seed", "(I)I", prog_1_method_18_code, 3, some .int, false) ∈ lw_tbl := List.mem_of_getElem? (i := 508) rfl
set_option maxRecDepth 100000 in
theorem mj_mc17 : mj_wc (7, "wet", "(II)I", prog_1_method_19_code, 4, some .int, false) ∈ lw_tbl := List.mem_of_getElem? (i := 512) rfl
set_option maxRecDepth 100000 in
theorem mj_mc18 : mj_wc (7, "where", "(III)I", prog_1_method_20_code, 4, some .int, false) ∈ lw_tbl := List.mem_of_getElem? (i := 538) rfl
set_option maxRecDepth 100000 in
theorem mj_mc19 : mj_wc (7, "fewest", "(III)I", prog_1_method_21_code, 5, some .int, false) ∈ lw_tbl := List.mem_of_getElem? (i := 543) rfl
set_option maxRecDepth 100000 in
theorem mj_mc20 : mj_wc (7, "tug", "(IIII)I", prog_1_method_22_code, 5, some .int, false) ∈ lw_tbl := List.mem_of_getElem? (i := 580) rfl
set_option maxRecDepth 100000 in
theorem mj_mc21 : mj_wc (7, "image", "()I", prog_1_method_23_code, 1, some .int, false) ∈ lw_tbl := List.mem_of_getElem? (i := 618) rfl
set_option maxRecDepth 100000 in
theorem mj_mc22 : mj_wc (7, "restore", "()I", prog_1_method_24_code, 1, some .int, false) ∈ lw_tbl := List.mem_of_getElem? (i := 623) rfl
set_option maxRecDepth 100000 in
theorem mj_mc23 : mj_wc (7, "held", "(IIIII)I", prog_1_method_25_code, 7, some .int, false) ∈ lw_tbl := List.mem_of_getElem? (i := 627) rfl
set_option maxRecDepth 100000 in
theorem mj_mc24 : mj_wc (7, "film", "(IIII)I", prog_1_method_26_code, 7, some .int, false) ∈ lw_tbl := List.mem_of_getElem? (i := 662) rfl
set_option maxRecDepth 100000 in
theorem mj_mc25 : mj_wc (7, "sheet", "(III)I", prog_1_method_27_code, 4, some .int, false) ∈ lw_tbl := List.mem_of_getElem? (i := 670) rfl
set_option maxRecDepth 100000 in
theorem mj_mc26 : mj_wc (7, "drop", "(I)I", prog_1_method_28_code, 2, some .int, false) ∈ lw_tbl := List.mem_of_getElem? (i := 679) rfl
set_option maxRecDepth 100000 in
theorem mj_mc27 : mj_wc (7, "item", "(IIIJ)I", prog_1_method_29_code, 7, some .int, false) ∈ lw_tbl := List.mem_of_getElem? (i := 683) rfl
set_option maxRecDepth 100000 in
theorem mj_mc28 : mj_wc (7, "copy", "(IIIII)I", prog_1_method_30_code, 8, some .int, false) ∈ lw_tbl := List.mem_of_getElem? (i := 687) rfl
set_option maxRecDepth 100000 in
theorem mj_mc29 : mj_wc (7, "isOutside", "(III)Z", prog_1_method_31_code, 3, some .boolean, true) ∈ lw_tbl := List.mem_of_getElem? (i := 313) rfl
set_option maxRecDepth 100000 in
theorem mj_mc30 : mj_wc (7, "isNoRow", "(II)Z", prog_1_method_32_code, 2, some .boolean, true) ∈ lw_tbl := List.mem_of_getElem? (i := 630) rfl
set_option maxRecDepth 100000 in
theorem mj_mc31 : mj_wc (7, "byteOf", "(JI)I", prog_1_method_33_code, 3, some .int, true) ∈ lw_tbl := List.mem_of_getElem? (i := 402) rfl
set_option maxRecDepth 100000 in
theorem mj_mc32 : mj_wc (7, "sumOf", "([I)I", prog_1_method_34_code, 6, some .int, true) ∈ lw_tbl := List.mem_of_getElem? (i := 347) rfl
set_option maxRecDepth 100000 in
theorem mj_mc33 : mj_wc (0, "start", "(LCloudStrings$Land;)V", prog_2_method_2_code, 2, none, false) ∈ lw_tbl := List.mem_of_getElem? (i := 516) rfl
set_option maxRecDepth 100000 in
theorem mj_mc34 : mj_wc (0, "follow", "(II)V", prog_2_method_3_code, 5, none, false) ∈ lw_tbl := List.mem_of_getElem? (i := 530) rfl
set_option maxRecDepth 100000 in
theorem mj_mc35 : mj_wc (1, "takeAll", "(LCloudStrings$Land;)V", prog_3_method_2_code, 3, none, false) ∈ lw_tbl := List.mem_of_getElem? (i := 520) rfl
set_option maxRecDepth 100000 in
theorem mj_mc36 : mj_wc (1, "takeCloud", "(LCloudStrings$Land;I)V", prog_3_method_3_code, 3, none, false) ∈ lw_tbl := List.mem_of_getElem? (i := 524) rfl
set_option maxRecDepth 100000 in
theorem mj_mc37 : mj_wc (1, "isCloud", "(I)Z", prog_3_method_4_code, 2, some .boolean, false) ∈ lw_tbl := List.mem_of_getElem? (i := 340) rfl
set_option maxRecDepth 100000 in
theorem mj_mc38 : mj_wc (1, "isOver", "(I)Z", prog_3_method_5_code, 2, some .boolean, false) ∈ lw_tbl := List.mem_of_getElem? (i := 371) rfl
set_option maxRecDepth 100000 in
theorem mj_mc39 : mj_wc (1, "isVillage", "(I)Z", prog_3_method_6_code, 2, some .boolean, false) ∈ lw_tbl := List.mem_of_getElem? (i := 355) rfl
set_option maxRecDepth 100000 in
theorem mj_mc40 : mj_wc (1, "villageIn", "(I)I", prog_3_method_7_code, 3, some .int, false) ∈ lw_tbl := List.mem_of_getElem? (i := 328) rfl
set_option maxRecDepth 100000 in
theorem mj_mc41 : mj_wc (1, "addCloud", "(III)I", prog_3_method_8_code, 5, some .int, false) ∈ lw_tbl := List.mem_of_getElem? (i := 317) rfl
set_option maxRecDepth 100000 in
theorem mj_mc42 : mj_wc (1, "addVillage", "(III)I", prog_3_method_9_code, 5, some .int, false) ∈ lw_tbl := List.mem_of_getElem? (i := 332) rfl
set_option maxRecDepth 100000 in
theorem mj_mc43 : mj_wc (1, "stringsOn", "(I)I", prog_3_method_10_code, 2, some .int, false) ∈ lw_tbl := List.mem_of_getElem? (i := 344) rfl
set_option maxRecDepth 100000 in
theorem mj_mc44 : mj_wc (1, "tiedBy", "(I)I", prog_3_method_11_code, 4, some .int, false) ∈ lw_tbl := List.mem_of_getElem? (i := 359) rfl
set_option maxRecDepth 100000 in
theorem mj_mc45 : mj_wc (1, "cloudsOver", "()I", prog_3_method_12_code, 3, some .int, false) ∈ lw_tbl := List.mem_of_getElem? (i := 443) rfl
set_option maxRecDepth 100000 in
theorem mj_mc46 : mj_wc (1, "waterWhere", "(Z)I", prog_3_method_13_code, 4, some .int, false) ∈ lw_tbl := List.mem_of_getElem? (i := 448) rfl
set_option maxRecDepth 100000 in
theorem mj_mc47 : mj_wc (1, "joinClouds", "(II)V", prog_3_method_14_code, 4, none, false) ∈ lw_tbl := List.mem_of_getElem? (i := 384) rfl
set_option maxRecDepth 100000 in
theorem mj_mc48 : mj_wc (1, "drawWind", "()I", prog_3_method_15_code, 1, some .int, false) ∈ lw_tbl := List.mem_of_getElem? (i := 501) rfl
set_option maxRecDepth 100000 in
theorem mj_mc49 : mj_wc (1, "passHour", "(II)I", prog_3_method_16_code, 5, some .int, false) ∈ lw_tbl := List.mem_of_getElem? (i := 465) rfl
set_option maxRecDepth 100000 in
theorem mj_mc50 : mj_wc (1, "move", "(III)V", prog_3_method_17_code, 8, none, false) ∈ lw_tbl := List.mem_of_getElem? (i := 469) rfl
set_option maxRecDepth 100000 in
theorem mj_mc51 : mj_wc (1, "rain", "(I)I", prog_3_method_18_code, 4, some .int, false) ∈ lw_tbl := List.mem_of_getElem? (i := 490) rfl
set_option maxRecDepth 100000 in
theorem mj_mc52 : mj_wc (1, "pullerOf", "(I)I", prog_3_method_19_code, 4, some .int, false) ∈ lw_tbl := List.mem_of_getElem? (i := 476) rfl
set_option maxRecDepth 100000 in
theorem mj_mc53 : mj_wc (1, "loseStrings", "(I)V", prog_3_method_20_code, 3, none, false) ∈ lw_tbl := List.mem_of_getElem? (i := 486) rfl
set_option maxRecDepth 100000 in
theorem mj_mc54 : mj_wc (1, "towards", "(II)I", prog_3_method_21_code, 4, some .int, true) ∈ lw_tbl := List.mem_of_getElem? (i := 479) rfl
set_option maxRecDepth 100000 in
theorem mj_mc55 : mj_wc (1, "besides", "(II)I", prog_3_method_22_code, 4, some .int, true) ∈ lw_tbl := List.mem_of_getElem? (i := 482) rfl
set_option maxRecDepth 100000 in
theorem mj_mc56 : mj_wc (2, "findPairs", "(LCloudStrings$Land;III)V", prog_4_method_2_code, 7, none, false) ∈ lw_tbl := List.mem_of_getElem? (i := 584) rfl
set_option maxRecDepth 100000 in
theorem mj_mc57 : mj_wc (2, "findRows", "(LCloudStrings$Land;I[II)V", prog_4_method_3_code, 7, none, false) ∈ lw_tbl := List.mem_of_getElem? (i := 642) rfl
set_option maxRecDepth 100000 in
theorem mj_mc58 : mj_wc (2, "prepare", "(LCloudStrings$Land;II)V", prog_4_method_4_code, 5, none, false) ∈ lw_tbl := List.mem_of_getElem? (i := 588) rfl
set_option maxRecDepth 100000 in
theorem mj_mc59 : mj_wc (2, "learnGains", "(LCloudStrings$Land;III)V", prog_4_method_5_code, 6, none, false) ∈ lw_tbl := List.mem_of_getElem? (i := 594) rfl
set_option maxRecDepth 100000 in
theorem mj_mc60 : mj_wc (2, "layBy", "(LCloudStrings$Land;III)V", prog_4_method_6_code, 7, none, false) ∈ lw_tbl := List.mem_of_getElem? (i := 598) rfl
set_option maxRecDepth 100000 in
theorem mj_mc61 : mj_wc (2, "gainOf", "(I)I", prog_4_method_7_code, 5, some .int, false) ∈ lw_tbl := List.mem_of_getElem? (i := 606) rfl
set_option maxRecDepth 100000 in
theorem mj_mc62 : mj_wc (2, "isKeptByBoth", "(II)Z", prog_4_method_8_code, 4, some .boolean, false) ∈ lw_tbl := List.mem_of_getElem? (i := 610) rfl
set_option maxRecDepth 100000 in
theorem mj_mc63 : mj_wc (2, "noteFound", "(II)V", prog_4_method_9_code, 3, none, false) ∈ lw_tbl := List.mem_of_getElem? (i := 614) rfl
set_option maxRecDepth 100000 in
theorem mj_mc64 : mj_wc (2, "layChoices", "(I)V", prog_4_method_10_code, 3, none, false) ∈ lw_tbl := List.mem_of_getElem? (i := 646) rfl
set_option maxRecDepth 100000 in
theorem mj_mc65 : mj_wc (2, "isAsTold", "(LCloudStrings$Land;[II)Z", prog_4_method_11_code, 5, some .boolean, false) ∈ lw_tbl := List.mem_of_getElem? (i := 650) rfl
set_option maxRecDepth 100000 in
theorem mj_mc66 : mj_wc (2, "noteRow", "(I)V", prog_4_method_12_code, 3, none, false) ∈ lw_tbl := List.mem_of_getElem? (i := 654) rfl
set_option maxRecDepth 100000 in
theorem mj_mc67 : mj_wc (2, "goOn", "(I)Z", prog_4_method_13_code, 3, some .boolean, false) ∈ lw_tbl := List.mem_of_getElem? (i := 658) rfl
set_option maxRecDepth 100000 in
theorem mj_mc68 : mj_wc (3, "renew", "(II)V", prog_5_method_2_code, 3, none, false) ∈ lw_tbl := List.mem_of_getElem? (i := 674) rfl
set_option maxRecDepth 100000 in
theorem mj_mc69 : mj_wc (3, "faultOf", "(III)I", prog_5_method_3_code, 4, some .int, false) ∈ lw_tbl := List.mem_of_getElem? (i := 634) rfl
set_option maxRecDepth 100000 in
theorem mj_mc70 : mj_wc (3, "lacks", "(II)Z", prog_5_method_4_code, 3, some .boolean, false) ∈ lw_tbl := List.mem_of_getElem? (i := 638) rfl
set_option maxRecDepth 100000 in
theorem mj_mc71 : mj_wc (3, "put", "(IJ)V", prog_5_method_5_code, 4, none, false) ∈ lw_tbl := List.mem_of_getElem? (i := 666) rfl
set_option maxRecDepth 100000 in
theorem mj_mc72 : mj_wc (4, "plan", "(LCloudStrings$Land;II)I", prog_6_method_2_code, 7, some .int, false) ∈ lw_tbl := List.mem_of_getElem? (i := 547) rfl
set_option maxRecDepth 100000 in
theorem mj_mc73 : mj_wc (4, "learnGains", "(LCloudStrings$Land;III)V", prog_6_method_3_code, 8, none, false) ∈ lw_tbl := List.mem_of_getElem? (i := 552) rfl
set_option maxRecDepth 100000 in
theorem mj_mc74 : mj_wc (4, "gainBy", "(LCloudStrings$Land;IIII)I", prog_6_method_4_code, 7, some .int, false) ∈ lw_tbl := List.mem_of_getElem? (i := 558) rfl
set_option maxRecDepth 100000 in
theorem mj_mc75 : mj_wc (4, "learnMost", "(I)V", prog_6_method_5_code, 5, none, false) ∈ lw_tbl := List.mem_of_getElem? (i := 565) rfl
set_option maxRecDepth 100000 in
theorem mj_mc76 : mj_wc (4, "layFirstRow", "(II)V", prog_6_method_6_code, 7, none, false) ∈ lw_tbl := List.mem_of_getElem? (i := 572) rfl
set_option maxRecDepth 100000 in
theorem mj_mc77 : mj_wc (4, "fewestOn", "(III)I", prog_6_method_7_code, 5, some .int, false) ∈ lw_tbl := List.mem_of_getElem? (i := 576) rfl
set_option maxRecDepth 100000 in
theorem mj_mc78 : mj_wc (5, "add", "(I)V", prog_7_method_2_code, 2, none, false) ∈ lw_tbl := List.mem_of_getElem? (i := 406) rfl
set_option maxRecDepth 100000 in
theorem mj_mc79 : mj_wc (5, "readInto", "(LCloudStrings$Winds;)I", prog_7_method_3_code, 6, some .int, false) ∈ lw_tbl := List.mem_of_getElem? (i := 414) rfl
set_option maxRecDepth 100000 in
theorem mj_mc80 : mj_wc (5, "canStand", "(III)Z", prog_7_method_4_code, 3, some .boolean, true) ∈ lw_tbl := List.mem_of_getElem? (i := 417) rfl
set_option maxRecDepth 100000 in
theorem mj_mc81 : mj_wc (5, "sideOf", "(I)I", prog_7_method_5_code, 1, some .int, true) ∈ lw_tbl := List.mem_of_getElem? (i := 420) rfl
set_option maxRecDepth 100000 in
theorem mj_mc82 : mj_wc (6, "add", "(II)V", prog_8_method_2_code, 3, none, false) ∈ lw_tbl := List.mem_of_getElem? (i := 424) rfl
set_option maxRecDepth 100000 in
theorem mj_mc83 : mj_wc (6, "sideIn", "(I)I", prog_8_method_3_code, 2, some .int, false) ∈ lw_tbl := List.mem_of_getElem? (i := 457) rfl
set_option maxRecDepth 100000 in
theorem mj_mc84 : mj_wc (6, "forceIn", "(I)I", prog_8_method_4_code, 2, some .int, false) ∈ lw_tbl := List.mem_of_getElem? (i := 461) rfl
set_option maxRecDepth 100000 in
theorem mj_mc85 : mj_wc (6, "takeAll", "(LCloudStrings$Winds;)V", prog_8_method_5_code, 2, none, false) ∈ lw_tbl := List.mem_of_getElem? (i := 428) rfl
set_option maxRecDepth 100000 in
theorem mj_mc86 : mj_wc (8, "in", "(JJJ)Z", prog_10_method_2_code, 6, some .boolean, true) ∈ lw_tbl := List.mem_of_getElem? (i := 779) rfl
set_option maxRecDepth 100000 in
theorem mj_mc87 : mj_wc (8, "isCloud", "(I)Z", prog_10_method_4_code, 2, some .boolean, false) ∈ lw_tbl := List.mem_of_getElem? (i := 803) rfl
set_option maxRecDepth 100000 in
theorem mj_mc88 : mj_wc (8, "isVillage", "(I)Z", prog_10_method_5_code, 2, some .boolean, false) ∈ lw_tbl := List.mem_of_getElem? (i := 815) rfl
set_option maxRecDepth 100000 in
theorem mj_mc89 : mj_wc (8, "isOver", "(I)Z", prog_10_method_6_code, 2, some .boolean, false) ∈ lw_tbl := List.mem_of_getElem? (i := 832) rfl
set_option maxRecDepth 100000 in
theorem mj_mc90 : mj_wc (8, "comes", "(III)I", prog_10_method_7_code, 5, some .int, false) ∈ lw_tbl := List.mem_of_getElem? (i := 785) rfl
set_option maxRecDepth 100000 in
theorem mj_mc91 : mj_wc (8, "cloud", "(III)I", prog_10_method_8_code, 4, some .int, false) ∈ lw_tbl := List.mem_of_getElem? (i := 775) rfl
set_option maxRecDepth 100000 in
theorem mj_mc92 : mj_wc (8, "village", "(III)I", prog_10_method_9_code, 4, some .int, false) ∈ lw_tbl := List.mem_of_getElem? (i := 789) rfl
set_option maxRecDepth 100000 in
theorem mj_mc93 : mj_wc (8, "villageIn", "(I)I", prog_10_method_10_code, 4, some .int, false) ∈ lw_tbl := List.mem_of_getElem? (i := 795) rfl
set_option maxRecDepth 100000 in
theorem mj_mc94 : mj_wc (8, "strings", "(I)I", prog_10_method_11_code, 4, some .int, false) ∈ lw_tbl := List.mem_of_getElem? (i := 807) rfl
set_option maxRecDepth 100000 in
theorem mj_mc95 : mj_wc (8, "heldBy", "(I)I", prog_10_method_12_code, 4, some .int, false) ∈ lw_tbl := List.mem_of_getElem? (i := 820) rfl
set_option maxRecDepth 100000 in
theorem mj_mc96 : mj_wc (8, "told", "(II)I", prog_10_method_13_code, 3, some .int, false) ∈ lw_tbl := List.mem_of_getElem? (i := 799) rfl
set_option maxRecDepth 100000 in
theorem mj_mc97 : mj_wc (8, "of", "(II)I", prog_10_method_14_code, 3, some .int, false) ∈ lw_tbl := List.mem_of_getElem? (i := 811) rfl
set_option maxRecDepth 100000 in
theorem mj_mc98 : mj_wc (8, "set", "(III)I", prog_10_method_15_code, 5, some .int, false) ∈ lw_tbl := List.mem_of_getElem? (i := 824) rfl
set_option maxRecDepth 100000 in
theorem mj_mc99 : mj_wc (8, "hold", "(III)I", prog_10_method_16_code, 5, some .int, false) ∈ lw_tbl := List.mem_of_getElem? (i := 828) rfl
set_option maxRecDepth 100000 in
theorem mj_mc100 : mj_wc (8, "holds", "(II)I", prog_10_method_17_code, 3, some .int, false) ∈ lw_tbl := List.mem_of_getElem? (i := 836) rfl
set_option maxRecDepth 100000 in
theorem mj_mc101 : mj_wc (8, "letGo", "(I)V", prog_10_method_18_code, 3, none, false) ∈ lw_tbl := List.mem_of_getElem? (i := 844) rfl
set_option maxRecDepth 100000 in
theorem mj_mc102 : mj_wc (8, "join", "(II)I", prog_10_method_19_code, 5, some .int, false) ∈ lw_tbl := List.mem_of_getElem? (i := 840) rfl
set_option maxRecDepth 100000 in
theorem mj_mc103 : mj_wc (8, "split", "(II)I", prog_10_method_20_code, 3, some .int, false) ∈ lw_tbl := List.mem_of_getElem? (i := 848) rfl
set_option maxRecDepth 100000 in
theorem mj_mc104 : mj_wc (8, "salt", "(I)I", prog_10_method_21_code, 3, some .int, false) ∈ lw_tbl := List.mem_of_getElem? (i := 852) rfl
set_option maxRecDepth 100000 in
theorem mj_mc105 : mj_wc (8, "type", "(JI)I", prog_10_method_22_code, 5, some .int, false) ∈ lw_tbl := List.mem_of_getElem? (i := 856) rfl
set_option maxRecDepth 100000 in
theorem mj_mc106 : mj_wc (8, "here", "()I", prog_10_method_23_code, 1, some .int, false) ∈ lw_tbl := List.mem_of_getElem? (i := 872) rfl
set_option maxRecDepth 100000 in
theorem mj_mc107 : mj_wc (8, "sideOf", "(I)I", prog_10_method_24_code, 1, some .int, true) ∈ lw_tbl := List.mem_of_getElem? (i := 875) rfl
set_option maxRecDepth 100000 in
theorem mj_mc108 : mj_wc (8, "readWind", "(I)V", prog_10_method_25_code, 2, none, false) ∈ lw_tbl := List.mem_of_getElem? (i := 868) rfl
set_option maxRecDepth 100000 in
theorem mj_mc109 : mj_wc (8, "winds", "()I", prog_10_method_26_code, 4, some .int, false) ∈ lw_tbl := List.mem_of_getElem? (i := 864) rfl
set_option maxRecDepth 100000 in
theorem mj_mc110 : mj_wc (8, "fallen", "(I)I", prog_10_method_27_code, 2, some .int, false) ∈ lw_tbl := List.mem_of_getElem? (i := 879) rfl
set_option maxRecDepth 100000 in
theorem mj_mc111 : mj_wc (8, "sum", "(II)I", prog_10_method_28_code, 5, some .int, false) ∈ lw_tbl := List.mem_of_getElem? (i := 887) rfl
set_option maxRecDepth 100000 in
theorem mj_mc112 : mj_wc (8, "count", "(I)I", prog_10_method_29_code, 5, some .int, false) ∈ lw_tbl := List.mem_of_getElem? (i := 883) rfl
set_option maxRecDepth 100000 in
theorem mj_mc113 : mj_wc (8, "rains", "(I)I", prog_10_method_30_code, 1, some .int, true) ∈ lw_tbl := List.mem_of_getElem? (i := 913) rfl
set_option maxRecDepth 100000 in
theorem mj_mc114 : mj_wc (8, "next", "(II)I", prog_10_method_31_code, 4, some .int, true) ∈ lw_tbl := List.mem_of_getElem? (i := 910) rfl
set_option maxRecDepth 100000 in
theorem mj_mc115 : mj_wc (8, "towards", "(II)I", prog_10_method_32_code, 2, some .int, true) ∈ lw_tbl := List.mem_of_getElem? (i := 907) rfl
set_option maxRecDepth 100000 in
theorem mj_mc116 : mj_wc (8, "moves", "(III)V", prog_10_method_33_code, 10, none, false) ∈ lw_tbl := List.mem_of_getElem? (i := 904) rfl
set_option maxRecDepth 100000 in
theorem mj_mc117 : mj_wc (8, "hour", "(II)I", prog_10_method_34_code, 8, some .int, false) ∈ lw_tbl := List.mem_of_getElem? (i := 900) rfl
set_option maxRecDepth 100000 in
theorem mj_mc118 : mj_wc (8, "goes", "(I)I", prog_10_method_35_code, 5, some .int, false) ∈ lw_tbl := List.mem_of_getElem? (i := 896) rfl
set_option maxRecDepth 100000 in
theorem mj_mc119 : mj_wc (8, "pass", "(I)I", prog_10_method_36_code, 2, some .int, false) ∈ lw_tbl := List.mem_of_getElem? (i := 891) rfl
set_option maxRecDepth 100000 in
theorem mj_mc120 : mj_wc (8, "drawn", "(I)I", prog_10_method_37_code, 5, some .int, false) ∈ lw_tbl := List.mem_of_getElem? (i := 917) rfl
set_option maxRecDepth 100000 in
theorem mj_mc121 : mj_wc (8, "seed", "(I)I", prog_10_method_38_code, 3, some .int, false) ∈ lw_tbl := List.mem_of_getElem? (i := 925) rfl
set_option maxRecDepth 100000 in
theorem mj_mc122 : mj_wc (8, "keeps", "()V", prog_10_method_39_code, 2, none, false) ∈ lw_tbl := List.mem_of_getElem? (i := 933) rfl
set_option maxRecDepth 100000 in
theorem mj_mc123 : mj_wc (8, "back", "()V", prog_10_method_40_code, 2, none, false) ∈ lw_tbl := List.mem_of_getElem? (i := 937) rfl
set_option maxRecDepth 100000 in
theorem mj_mc124 : mj_wc (8, "wet", "(II)I", prog_10_method_41_code, 4, some .int, false) ∈ lw_tbl := List.mem_of_getElem? (i := 929) rfl
set_option maxRecDepth 100000 in
theorem mj_mc125 : mj_wc (8, "where", "(III)I", prog_10_method_42_code, 5, some .int, false) ∈ lw_tbl := List.mem_of_getElem? (i := 941) rfl
set_option maxRecDepth 100000 in
theorem mj_mc126 : mj_wc (8, "begins", "(I)Z", prog_10_method_43_code, 3, some .boolean, false) ∈ lw_tbl := List.mem_of_getElem? (i := 952) rfl
set_option maxRecDepth 100000 in
theorem mj_mc127 : mj_wc (8, "lastOver", "()I", prog_10_method_44_code, 3, some .int, false) ∈ lw_tbl := List.mem_of_getElem? (i := 956) rfl
set_option maxRecDepth 100000 in
theorem mj_mc128 : mj_wc (8, "turns", "()Z", prog_10_method_45_code, 5, some .boolean, false) ∈ lw_tbl := List.mem_of_getElem? (i := 964) rfl
set_option maxRecDepth 100000 in
theorem mj_mc129 : mj_wc (8, "isEnough", "(II)Z", prog_10_method_46_code, 4, some .boolean, false) ∈ lw_tbl := List.mem_of_getElem? (i := 960) rfl
set_option maxRecDepth 100000 in
theorem mj_mc130 : mj_wc (8, "fewest", "(III)I", prog_10_method_47_code, 6, some .int, false) ∈ lw_tbl := List.mem_of_getElem? (i := 945) rfl
set_option maxRecDepth 100000 in
theorem mj_mc131 : mj_wc (8, "lays", "(II)V", prog_10_method_48_code, 4, none, false) ∈ lw_tbl := List.mem_of_getElem? (i := 976) rfl
set_option maxRecDepth 100000 in
theorem mj_mc132 : mj_wc (8, "isChoice", "(I)Z", prog_10_method_49_code, 2, some .boolean, false) ∈ lw_tbl := List.mem_of_getElem? (i := 972) rfl
set_option maxRecDepth 100000 in
theorem mj_mc133 : mj_wc (8, "tug", "(IIII)I", prog_10_method_50_code, 10, some .int, false) ∈ lw_tbl := List.mem_of_getElem? (i := 968) rfl
set_option maxRecDepth 100000 in
theorem mj_mc134 : mj_wc (8, "lay", "([II)I", prog_10_method_51_code, 4, some .int, false) ∈ lw_tbl := List.mem_of_getElem? (i := 984) rfl
set_option maxRecDepth 100000 in
theorem mj_mc135 : mj_wc (8, "gives", "(I[I)I", prog_10_method_52_code, 4, some .int, false) ∈ lw_tbl := List.mem_of_getElem? (i := 992) rfl
set_option maxRecDepth 100000 in
theorem mj_mc136 : mj_wc (8, "image", "()I", prog_10_method_53_code, 2, some .int, false) ∈ lw_tbl := List.mem_of_getElem? (i := 980) rfl
set_option maxRecDepth 100000 in
theorem mj_mc137 : mj_wc (8, "restore", "()I", prog_10_method_54_code, 2, some .int, false) ∈ lw_tbl := List.mem_of_getElem? (i := 988) rfl
set_option maxRecDepth 100000 in
theorem mj_mc138 : mj_wc (8, "isSheet", "(I)Z", prog_10_method_55_code, 1, some .boolean, true) ∈ lw_tbl := List.mem_of_getElem? (i := 999) rfl
set_option maxRecDepth 100000 in
theorem mj_mc139 : mj_wc (8, "isLane", "(I)Z", prog_10_method_56_code, 1, some .boolean, true) ∈ lw_tbl := List.mem_of_getElem? (i := 1002) rfl
set_option maxRecDepth 100000 in
theorem mj_mc140 : mj_wc (8, "why", "(IIII)I", prog_10_method_57_code, 5, some .int, false) ∈ lw_tbl := List.mem_of_getElem? (i := 1007) rfl
set_option maxRecDepth 100000 in
theorem mj_mc141 : mj_wc (8, "isAs", "(III)Z", prog_10_method_58_code, 7, some .boolean, false) ∈ lw_tbl := List.mem_of_getElem? (i := 1011) rfl
set_option maxRecDepth 100000 in
theorem mj_mc142 : mj_wc (8, "held", "(IIIII)I", prog_10_method_59_code, 11, some .int, false) ∈ lw_tbl := List.mem_of_getElem? (i := 996) rfl
set_option maxRecDepth 100000 in
theorem mj_mc143 : mj_wc (8, "puts", "(IIJ)V", prog_10_method_60_code, 6, none, false) ∈ lw_tbl := List.mem_of_getElem? (i := 1019) rfl
set_option maxRecDepth 100000 in
theorem mj_mc144 : mj_wc (8, "film", "(IIII)I", prog_10_method_61_code, 7, some .int, false) ∈ lw_tbl := List.mem_of_getElem? (i := 1015) rfl
set_option maxRecDepth 100000 in
theorem mj_mc145 : mj_wc (8, "sheet", "(III)I", prog_10_method_62_code, 5, some .int, false) ∈ lw_tbl := List.mem_of_getElem? (i := 1023) rfl
set_option maxRecDepth 100000 in
theorem mj_mc146 : mj_wc (8, "drop", "(I)I", prog_10_method_63_code, 2, some .int, false) ∈ lw_tbl := List.mem_of_getElem? (i := 1027) rfl
set_option maxRecDepth 100000 in
theorem mj_mc147 : mj_wc (8, "item", "(IIIJ)I", prog_10_method_64_code, 7, some .int, false) ∈ lw_tbl := List.mem_of_getElem? (i := 1031) rfl
set_option maxRecDepth 100000 in
theorem mj_mc148 : mj_wc (8, "copy", "(IIIII)I", prog_10_method_65_code, 7, some .int, false) ∈ lw_tbl := List.mem_of_getElem? (i := 1035) rfl
set_option maxRecDepth 100000 in
theorem mj_mc149 : mj_wc (10, "fill", "([II)V", prog_13_method_103_code, 4, none, true) ∈ lw_tbl := List.mem_of_getElem? (i := 320) rfl
theorem mj_wc_g (x : mj_mT) : goodWord (mj_wc x) = true := rfl
theorem mj_mcs0 : ∀ x ∈ (mj_mt.drop 0).take 20, mj_wc x ∈ lw_tbl := List.forall_mem_cons.mpr ⟨mj_mc0, List.forall_mem_cons.mpr ⟨mj_mc1, List.forall_mem_cons.mpr ⟨mj_mc2, List.forall_mem_cons.mpr ⟨mj_mc3, List.forall_mem_cons.mpr ⟨mj_mc4, List.forall_mem_cons.mpr ⟨mj_mc5, List.forall_mem_cons.mpr ⟨mj_mc6, List.forall_mem_cons.mpr ⟨mj_mc7, List.forall_mem_cons.mpr ⟨mj_mc8, List.forall_mem_cons.mpr ⟨mj_mc9, List.forall_mem_cons.mpr ⟨mj_mc10, List.forall_mem_cons.mpr ⟨mj_mc11, List.forall_mem_cons.mpr ⟨mj_mc12, List.forall_mem_cons.mpr ⟨mj_mc13, List.forall_mem_cons.mpr ⟨mj_mc14, List.forall_mem_cons.mpr ⟨mj_mc15, List.forall_mem_cons.mpr ⟨mj_mc16, List.forall_mem_cons.mpr ⟨mj_mc17, List.forall_mem_cons.mpr ⟨mj_mc18, List.forall_mem_cons.mpr ⟨mj_mc19, fun _ h => absurd h List.not_mem_nil⟩⟩⟩⟩⟩⟩⟩⟩⟩⟩⟩⟩⟩⟩⟩⟩⟩⟩⟩⟩
theorem mj_mcs20 : ∀ x ∈ (mj_mt.drop 20).take 20, mj_wc x ∈ lw_tbl := List.forall_mem_cons.mpr ⟨mj_mc20, List.forall_mem_cons.mpr ⟨mj_mc21, List.forall_mem_cons.mpr ⟨mj_mc22, List.forall_mem_cons.mpr ⟨mj_mc23, List.forall_mem_cons.mpr ⟨mj_mc24, List.forall_mem_cons.mpr ⟨mj_mc25, List.forall_mem_cons.mpr ⟨mj_mc26, List.forall_mem_cons.mpr ⟨mj_mc27, List.forall_mem_cons.mpr ⟨mj_mc28, List.forall_mem_cons.mpr ⟨mj_mc29, List.forall_mem_cons.mpr ⟨mj_mc30, List.forall_mem_cons.mpr ⟨mj_mc31, List.forall_mem_cons.mpr ⟨mj_mc32, List.forall_mem_cons.mpr ⟨mj_mc33, List.forall_mem_cons.mpr ⟨mj_mc34, List.forall_mem_cons.mpr ⟨mj_mc35, List.forall_mem_cons.mpr ⟨mj_mc36, List.forall_mem_cons.mpr ⟨mj_mc37, List.forall_mem_cons.mpr ⟨mj_mc38, List.forall_mem_cons.mpr ⟨mj_mc39, fun _ h => absurd h List.not_mem_nil⟩⟩⟩⟩⟩⟩⟩⟩⟩⟩⟩⟩⟩⟩⟩⟩⟩⟩⟩⟩
theorem mj_mcs40 : ∀ x ∈ (mj_mt.drop 40).take 20, mj_wc x ∈ lw_tbl := List.forall_mem_cons.mpr ⟨mj_mc40, List.forall_mem_cons.mpr ⟨mj_mc41, List.forall_mem_cons.mpr ⟨mj_mc42, List.forall_mem_cons.mpr ⟨mj_mc43, List.forall_mem_cons.mpr ⟨mj_mc44, List.forall_mem_cons.mpr ⟨mj_mc45, List.forall_mem_cons.mpr ⟨mj_mc46, List.forall_mem_cons.mpr ⟨mj_mc47, List.forall_mem_cons.mpr ⟨mj_mc48, List.forall_mem_cons.mpr ⟨mj_mc49, List.forall_mem_cons.mpr ⟨mj_mc50, List.forall_mem_cons.mpr ⟨mj_mc51, List.forall_mem_cons.mpr ⟨mj_mc52, List.forall_mem_cons.mpr ⟨mj_mc53, List.forall_mem_cons.mpr ⟨mj_mc54, List.forall_mem_cons.mpr ⟨mj_mc55, List.forall_mem_cons.mpr ⟨mj_mc56, List.forall_mem_cons.mpr ⟨mj_mc57, List.forall_mem_cons.mpr ⟨mj_mc58, List.forall_mem_cons.mpr ⟨mj_mc59, fun _ h => absurd h List.not_mem_nil⟩⟩⟩⟩⟩⟩⟩⟩⟩⟩⟩⟩⟩⟩⟩⟩⟩⟩⟩⟩
theorem mj_mcs60 : ∀ x ∈ (mj_mt.drop 60).take 20, mj_wc x ∈ lw_tbl := List.forall_mem_cons.mpr ⟨mj_mc60, List.forall_mem_cons.mpr ⟨mj_mc61, List.forall_mem_cons.mpr ⟨mj_mc62, List.forall_mem_cons.mpr ⟨mj_mc63, List.forall_mem_cons.mpr ⟨mj_mc64, List.forall_mem_cons.mpr ⟨mj_mc65, List.forall_mem_cons.mpr ⟨mj_mc66, List.forall_mem_cons.mpr ⟨mj_mc67, List.forall_mem_cons.mpr ⟨mj_mc68, List.forall_mem_cons.mpr ⟨mj_mc69, List.forall_mem_cons.mpr ⟨mj_mc70, List.forall_mem_cons.mpr ⟨mj_mc71, List.forall_mem_cons.mpr ⟨mj_mc72, List.forall_mem_cons.mpr ⟨mj_mc73, List.forall_mem_cons.mpr ⟨mj_mc74, List.forall_mem_cons.mpr ⟨mj_mc75, List.forall_mem_cons.mpr ⟨mj_mc76, List.forall_mem_cons.mpr ⟨mj_mc77, List.forall_mem_cons.mpr ⟨mj_mc78, List.forall_mem_cons.mpr ⟨mj_mc79, fun _ h => absurd h List.not_mem_nil⟩⟩⟩⟩⟩⟩⟩⟩⟩⟩⟩⟩⟩⟩⟩⟩⟩⟩⟩⟩
theorem mj_mcs80 : ∀ x ∈ (mj_mt.drop 80).take 20, mj_wc x ∈ lw_tbl := List.forall_mem_cons.mpr ⟨mj_mc80, List.forall_mem_cons.mpr ⟨mj_mc81, List.forall_mem_cons.mpr ⟨mj_mc82, List.forall_mem_cons.mpr ⟨mj_mc83, List.forall_mem_cons.mpr ⟨mj_mc84, List.forall_mem_cons.mpr ⟨mj_mc85, List.forall_mem_cons.mpr ⟨mj_mc86, List.forall_mem_cons.mpr ⟨mj_mc87, List.forall_mem_cons.mpr ⟨mj_mc88, List.forall_mem_cons.mpr ⟨mj_mc89, List.forall_mem_cons.mpr ⟨mj_mc90, List.forall_mem_cons.mpr ⟨mj_mc91, List.forall_mem_cons.mpr ⟨mj_mc92, List.forall_mem_cons.mpr ⟨mj_mc93, List.forall_mem_cons.mpr ⟨mj_mc94, List.forall_mem_cons.mpr ⟨mj_mc95, List.forall_mem_cons.mpr ⟨mj_mc96, List.forall_mem_cons.mpr ⟨mj_mc97, List.forall_mem_cons.mpr ⟨mj_mc98, List.forall_mem_cons.mpr ⟨mj_mc99, fun _ h => absurd h List.not_mem_nil⟩⟩⟩⟩⟩⟩⟩⟩⟩⟩⟩⟩⟩⟩⟩⟩⟩⟩⟩⟩
theorem mj_mcs100 : ∀ x ∈ (mj_mt.drop 100).take 20, mj_wc x ∈ lw_tbl := List.forall_mem_cons.mpr ⟨mj_mc100, List.forall_mem_cons.mpr ⟨mj_mc101, List.forall_mem_cons.mpr ⟨mj_mc102, List.forall_mem_cons.mpr ⟨mj_mc103, List.forall_mem_cons.mpr ⟨mj_mc104, List.forall_mem_cons.mpr ⟨mj_mc105, List.forall_mem_cons.mpr ⟨mj_mc106, List.forall_mem_cons.mpr ⟨mj_mc107, List.forall_mem_cons.mpr ⟨mj_mc108, List.forall_mem_cons.mpr ⟨mj_mc109, List.forall_mem_cons.mpr ⟨mj_mc110, List.forall_mem_cons.mpr ⟨mj_mc111, List.forall_mem_cons.mpr ⟨mj_mc112, List.forall_mem_cons.mpr ⟨mj_mc113, List.forall_mem_cons.mpr ⟨mj_mc114, List.forall_mem_cons.mpr ⟨mj_mc115, List.forall_mem_cons.mpr ⟨mj_mc116, List.forall_mem_cons.mpr ⟨mj_mc117, List.forall_mem_cons.mpr ⟨mj_mc118, List.forall_mem_cons.mpr ⟨mj_mc119, fun _ h => absurd h List.not_mem_nil⟩⟩⟩⟩⟩⟩⟩⟩⟩⟩⟩⟩⟩⟩⟩⟩⟩⟩⟩⟩
theorem mj_mcs120 : ∀ x ∈ (mj_mt.drop 120).take 20, mj_wc x ∈ lw_tbl := List.forall_mem_cons.mpr ⟨mj_mc120, List.forall_mem_cons.mpr ⟨mj_mc121, List.forall_mem_cons.mpr ⟨mj_mc122, List.forall_mem_cons.mpr ⟨mj_mc123, List.forall_mem_cons.mpr ⟨mj_mc124, List.forall_mem_cons.mpr ⟨mj_mc125, List.forall_mem_cons.mpr ⟨mj_mc126, List.forall_mem_cons.mpr ⟨mj_mc127, List.forall_mem_cons.mpr ⟨mj_mc128, List.forall_mem_cons.mpr ⟨mj_mc129, List.forall_mem_cons.mpr ⟨mj_mc130, List.forall_mem_cons.mpr ⟨mj_mc131, List.forall_mem_cons.mpr ⟨mj_mc132, List.forall_mem_cons.mpr ⟨mj_mc133, List.forall_mem_cons.mpr ⟨mj_mc134, List.forall_mem_cons.mpr ⟨mj_mc135, List.forall_mem_cons.mpr ⟨mj_mc136, List.forall_mem_cons.mpr ⟨mj_mc137, List.forall_mem_cons.mpr ⟨mj_mc138, List.forall_mem_cons.mpr ⟨mj_mc139, fun _ h => absurd h List.not_mem_nil⟩⟩⟩⟩⟩⟩⟩⟩⟩⟩⟩⟩⟩⟩⟩⟩⟩⟩⟩⟩
theorem mj_mcs140 : ∀ x ∈ (mj_mt.drop 140).take 20, mj_wc x ∈ lw_tbl := List.forall_mem_cons.mpr ⟨mj_mc140, List.forall_mem_cons.mpr ⟨mj_mc141, List.forall_mem_cons.mpr ⟨mj_mc142, List.forall_mem_cons.mpr ⟨mj_mc143, List.forall_mem_cons.mpr ⟨mj_mc144, List.forall_mem_cons.mpr ⟨mj_mc145, List.forall_mem_cons.mpr ⟨mj_mc146, List.forall_mem_cons.mpr ⟨mj_mc147, List.forall_mem_cons.mpr ⟨mj_mc148, List.forall_mem_cons.mpr ⟨mj_mc149, fun _ h => absurd h List.not_mem_nil⟩⟩⟩⟩⟩⟩⟩⟩⟩⟩
set_option maxRecDepth 100000 in
theorem mj_mt_c : ∀ x ∈ mj_mt, mj_wc x ∈ mj_WA := by
  intro x hx
  refine List.mem_filter.mpr ⟨?_, mj_wc_g x⟩
  have h : mj_mt = (mj_mt.drop 0).take 20 ++ (mj_mt.drop 20).take 20 ++ (mj_mt.drop 40).take 20 ++ (mj_mt.drop 60).take 20 ++ (mj_mt.drop 80).take 20 ++ (mj_mt.drop 100).take 20 ++ (mj_mt.drop 120).take 20 ++ (mj_mt.drop 140).take 20 := rfl
  rw [h] at hx
  simp only [List.mem_append] at hx
  rcases hx with (((((((h | h) | h) | h) | h) | h) | h) | h)
  · exact mj_mcs0 x h
  · exact mj_mcs20 x h
  · exact mj_mcs40 x h
  · exact mj_mcs60 x h
  · exact mj_mcs80 x h
  · exact mj_mcs100 x h
  · exact mj_mcs120 x h
  · exact mj_mcs140 x h
theorem mj_mt_i : ∀ w ∈ mj_mt.map mj_wi, w ∈ mj_WA := mj_of [308, 322, 334, 349, 361, 365, 374, 378, 389, 393, 397, 408, 433, 437, 451, 495, 506, 510, 536, 541, 578, 616, 621, 625, 660, 668, 677, 681, 685, 312, 629, 401, 346, 514, 528, 518, 522, 338, 369, 353, 326, 315, 330, 342, 357, 441, 446, 382, 499, 463, 467, 488, 475, 485, 478, 481, 582, 640, 587, 593, 597, 605, 609, 613, 645, 649, 653, 657, 672, 632, 636, 664, 545, 551, 557, 564, 571, 575, 404, 412, 416, 419, 422, 455, 459, 426, 778, 802, 814, 831, 784, 773, 787, 794, 806, 819, 797, 809, 822, 826, 834, 843, 838, 846, 850, 854, 871, 874, 867, 862, 877, 886, 881, 912, 909, 906, 903, 899, 895, 889, 915, 923, 932, 936, 927, 939, 951, 955, 963, 959, 943, 975, 971, 966, 983, 991, 978, 986, 998, 1001, 1006, 1010, 994, 1018, 1013, 1021, 1025, 1029, 1033, 319] (by decide +kernel) (by decide +kernel)
theorem mj_mt_v : ∀ w ∈ mj_mt.map mj_wv, w ∈ mj_WA := mj_of [309, 323, 335, 350, 362, 366, 375, 379, 390, 394, 398, 409, 434, 438, 452, 496, 507, 511, 537, 542, 579, 617, 622, 626, 661, 669, 678, 682, 686, 312, 629, 401, 346, 515, 529, 519, 523, 339, 370, 354, 327, 316, 331, 343, 358, 442, 447, 383, 500, 464, 468, 489, 0, 1, 478, 481, 583, 641, 7, 8, 9, 10, 11, 12, 13, 14, 15, 16, 673, 633, 637, 665, 546, 2, 3, 4, 5, 6, 405, 413, 416, 419, 423, 456, 460, 427, 778, 19, 21, 23, 17, 774, 788, 18, 20, 22, 798, 810, 823, 827, 835, 24, 839, 847, 851, 855, 26, 874, 25, 863, 878, 27, 882, 912, 909, 906, 30, 29, 28, 890, 916, 924, 31, 32, 928, 940, 33, 34, 36, 35, 944, 38, 37, 967, 39, 40, 979, 987, 998, 1001, 41, 42, 995, 43, 1014, 1022, 1026, 1030, 1034, 319] (by decide +kernel) (by decide +kernel)
theorem mj_mt_n : ∀ w ∈ mj_mt.map mj_wn, w ∈ mj_WA := mj_of [45, 45, 45, 45, 45, 45, 45, 45, 45, 45, 45, 45, 45, 45, 45, 45, 45, 45, 45, 45, 45, 45, 45, 45, 45, 45, 45, 45, 45, 45, 45, 45, 45, 48, 48, 46, 46, 46, 46, 46, 46, 46, 46, 46, 46, 46, 46, 46, 46, 46, 46, 46, 46, 46, 46, 46, 50, 50, 50, 50, 50, 50, 50, 50, 50, 50, 50, 50, 52, 52, 52, 52, 49, 49, 49, 49, 49, 49, 51, 51, 51, 51, 47, 47, 47, 47, 53, 53, 53, 53, 53, 53, 53, 53, 53, 53, 53, 53, 53, 53, 53, 53, 53, 53, 53, 53, 53, 53, 53, 53, 53, 53, 53, 53, 53, 53, 53, 53, 53, 53, 53, 53, 53, 53, 53, 53, 53, 53, 53, 53, 53, 53, 53, 53, 53, 53, 53, 53, 53, 53, 53, 53, 53, 53, 53, 53, 53, 53, 53, 54] (by decide +kernel) (by decide +kernel)
theorem mj_mt_d : mj_mt.all (fun x => plainName (mj_cs_ x.1) && decide (mj_cs_ x.1 ≠ "java/lang/invoke/MethodHandle") && decide (mj_cs_ x.1 ≠ "java/lang/invoke/VarHandle")) = true := by decide +kernel
/-- how many a method takes, the receiver not counted -/
def mj_np : List Nat := [3, 3, 2, 2, 3, 3, 2, 2, 2, 1, 2, 0, 1, 1, 1, 1, 1, 2, 3, 3, 4, 0, 0, 5, 4, 3, 1, 4, 5, 3, 2, 2, 1, 1, 2, 1, 2, 1, 1, 1, 1, 3, 3, 1, 1, 0, 1, 2, 0, 2, 3, 1, 1, 1, 2, 2, 4, 4, 3, 4, 4, 1, 2, 2, 1, 3, 1, 1, 2, 3, 2, 2, 3, 4, 5, 1, 2, 3, 1, 1, 3, 1, 2, 1, 1, 1, 3, 1, 1, 1, 3, 3, 3, 1, 1, 1, 2, 2, 3, 3, 2, 1, 2, 2, 1, 2, 0, 1, 1, 0, 1, 2, 1, 1, 2, 2, 3, 2, 1, 1, 1, 1, 0, 0, 2, 3, 1, 0, 0, 2, 3, 2, 1, 4, 2, 2, 0, 0, 1, 1, 4, 3, 5, 3, 4, 3, 1, 4, 5, 2]
theorem mj_mt_p : mj_mt.map (fun x => (parseMethodDescriptor x.2.2.1).map (fun d => d.parameters.length)) = mj_np.map some := by decide +kernel
/-- links of fields: whose file, its place there, class, field -/
def mj_FL : List (Nat × Nat × Nat × Nat) := [(0, 10, 0, 0), (0, 20, 1, 12), (0, 24, 1, 11), (1, 9, 1, 0), (1, 15, 1, 1), (1, 19, 1, 2), (1, 22, 1, 3), (1, 27, 1, 4), (1, 30, 1, 5), (1, 33, 1, 6), (1, 36, 1, 7), (1, 39, 1, 8), (1, 42, 1, 9), (1, 45, 1, 10), (1, 51, 1, 11), (1, 55, 1, 12), (1, 58, 1, 13), (2, 14, 2, 0), (2, 18, 2, 1), (2, 22, 2, 2), (2, 28, 2, 3), (2, 31, 2, 4), (2, 34, 2, 5), (2, 37, 2, 6), (2, 40, 2, 7), (2, 43, 2, 8), (2, 46, 2, 9), (2, 71, 1, 5), (2, 105, 0, 0), (2, 109, 1, 9), (2, 125, 1, 4), (2, 128, 1, 7), (3, 9, 3, 0), (3, 15, 3, 1), (3, 19, 3, 2), (3, 23, 3, 3), (4, 12, 4, 0), (4, 20, 4, 1), (4, 23, 4, 2), (4, 26, 4, 3), (4, 30, 1, 7), (4, 41, 1, 8), (4, 44, 1, 9), (4, 72, 0, 0), (4, 80, 1, 4), (5, 9, 5, 0), (5, 15, 5, 1), (5, 19, 6, 2), (6, 9, 6, 0), (6, 15, 6, 1), (6, 18, 6, 2), (7, 10, 7, 0), (7, 16, 7, 1), (7, 22, 7, 2), (7, 29, 7, 3), (7, 36, 7, 4), (7, 43, 7, 5), (7, 50, 7, 6), (7, 57, 7, 7), (7, 61, 7, 8), (7, 69, 1, 0), (7, 81, 1, 5), (7, 91, 1, 1), (7, 95, 1, 2), (7, 98, 1, 3), (7, 107, 1, 6), (7, 110, 1, 7), (7, 113, 1, 8), (7, 116, 1, 9), (7, 125, 1, 4), (7, 137, 5, 1), (7, 148, 1, 11), (7, 155, 1, 10), (7, 162, 1, 12), (7, 165, 6, 2), (7, 187, 1, 13), (7, 197, 0, 0), (7, 210, 4, 3), (7, 217, 2, 8), (7, 220, 2, 9), (7, 232, 3, 0), (7, 246, 3, 1), (7, 249, 3, 3), (7, 250, 3, 2), (8, 7, 8, 0), (8, 13, 8, 3), (8, 16, 8, 4), (8, 19, 8, 6), (8, 22, 8, 7), (8, 25, 8, 8), (8, 29, 8, 9), (8, 32, 8, 13), (8, 35, 8, 14), (8, 38, 8, 15), (8, 41, 8, 16), (8, 44, 8, 17), (8, 47, 8, 18), (8, 50, 8, 21), (8, 53, 8, 22), (8, 56, 8, 23), (8, 59, 8, 24), (8, 62, 8, 1), (8, 69, 8, 2), (8, 120, 8, 10), (8, 123, 8, 11), (8, 133, 8, 12), (8, 140, 8, 5), (8, 212, 8, 19), (8, 215, 8, 20)]
def mj_TT (ci : Nat) : u_T := (mj_cl.getD ci ("", mj_T0, 0)).2.1
def mj_wf (e : Nat × Nat × Nat × Nat) : Cond := .fieldLink (mj_cs_ e.1) e.2.1 (mj_TT e.2.2.1 e.2.2.2).1 (mj_TT e.2.2.1 e.2.2.2).2.1 (mj_TT e.2.2.1 e.2.2.2).2.2.1
theorem mj_FL_ok : ∀ w ∈ mj_FL.map mj_wf, w ∈ mj_WA := mj_of [167, 126, 123, 92, 94, 96, 98, 100, 104, 107, 109, 113, 116, 120, 122, 125, 128, 206, 207, 208, 209, 210, 211, 212, 213, 214, 216, 105, 169, 118, 102, 112, 262, 264, 266, 268, 183, 184, 185, 186, 110, 114, 117, 168, 101, 245, 246, 82, 79, 80, 81, 279, 280, 281, 282, 283, 284, 285, 286, 287, 93, 106, 95, 97, 99, 108, 111, 115, 119, 103, 247, 124, 121, 127, 83, 129, 170, 187, 215, 217, 263, 265, 269, 267, 696, 699, 700, 702, 703, 704, 705, 709, 710, 711, 712, 713, 714, 717, 718, 719, 720, 697, 698, 706, 707, 708, 701, 715, 716] (by decide +kernel) (by decide +kernel)
/-- links of methods: whose file, its place there, the method -/
def mj_ML : List (Nat × Nat × Nat) := [(0, 16, 35), (0, 28, 83), (0, 34, 84), (0, 37, 50), (0, 41, 51), (1, 61, 36), (1, 71, 85), (1, 75, 37), (1, 79, 149), (1, 89, 38), (1, 101, 50), (1, 105, 51), (1, 112, 43), (1, 115, 52), (1, 118, 54), (1, 121, 55), (1, 124, 53), (1, 131, 40), (2, 49, 58), (2, 53, 149), (2, 59, 61), (2, 63, 62), (2, 67, 63), (2, 76, 64), (2, 80, 65), (2, 84, 66), (2, 87, 67), (2, 91, 33), (2, 95, 38), (2, 98, 59), (2, 102, 60), (2, 112, 34), (2, 121, 36), (3, 26, 149), (3, 32, 70), (4, 47, 73), (4, 51, 75), (4, 55, 76), (4, 59, 33), (4, 63, 38), (4, 67, 74), (4, 76, 36), (4, 83, 34), (4, 89, 77), (5, 22, 80), (5, 26, 81), (5, 30, 82), (7, 65, 29), (7, 73, 41), (7, 77, 40), (7, 84, 42), (7, 87, 37), (7, 101, 43), (7, 104, 39), (7, 119, 44), (7, 122, 38), (7, 129, 47), (7, 133, 31), (7, 140, 78), (7, 144, 79), (7, 151, 85), (7, 158, 45), (7, 166, 46), (7, 170, 32), (7, 174, 83), (7, 177, 84), (7, 180, 49), (7, 184, 48), (7, 190, 33), (7, 194, 34), (7, 200, 149), (7, 206, 72), (7, 213, 56), (7, 223, 35), (7, 225, 30), (7, 229, 69), (7, 235, 57), (7, 239, 71), (7, 243, 68), (7, 253, 70), (8, 65, 86), (8, 78, 90), (8, 86, 93), (8, 90, 87), (8, 94, 94), (8, 97, 88), (8, 102, 95), (8, 105, 89), (8, 108, 101), (8, 126, 106), (8, 130, 107), (8, 137, 108), (8, 143, 111), (8, 147, 115), (8, 150, 114), (8, 153, 116), (8, 157, 113), (8, 160, 117), (8, 165, 118), (8, 175, 122), (8, 178, 123), (8, 181, 127), (8, 190, 126), (8, 193, 129), (8, 197, 128), (8, 201, 132), (8, 204, 131), (8, 208, 134), (8, 218, 135), (8, 224, 138), (8, 227, 139), (8, 230, 140), (8, 234, 141), (8, 238, 143), (9, 13, 0), (9, 17, 91), (9, 18, 1), (9, 21, 92), (9, 22, 2), (9, 26, 96), (9, 27, 3), (9, 30, 97), (9, 31, 4), (9, 34, 98), (9, 35, 5), (9, 38, 99), (9, 39, 6), (9, 42, 100), (9, 43, 7), (9, 46, 102), (9, 47, 8), (9, 50, 103), (9, 51, 9), (9, 55, 104), (9, 58, 10), (9, 62, 105), (9, 63, 11), (9, 67, 109), (9, 68, 12), (9, 71, 110), (9, 72, 13), (9, 75, 112), (9, 76, 14), (9, 79, 119), (9, 80, 15), (9, 83, 120), (9, 84, 16), (9, 87, 121), (9, 88, 17), (9, 91, 124), (9, 92, 18), (9, 95, 125), (9, 96, 19), (9, 99, 130), (9, 100, 20), (9, 104, 133), (9, 105, 21), (9, 108, 136), (9, 109, 22), (9, 112, 137), (9, 113, 23), (9, 117, 142), (9, 118, 24), (9, 121, 144), (9, 122, 25), (9, 125, 145), (9, 126, 26), (9, 129, 146), (9, 130, 27), (9, 134, 147), (9, 135, 28), (9, 138, 148)]
def mj_wm (e : Nat × Nat × Nat) : Cond := .methodLink (mj_cs_ e.1) e.2.1 (mj_y e.2.2)
theorem mj_ML_ok : ∀ w ∈ mj_ML.map mj_wm, w ∈ mj_WA := mj_of [517, 531, 532, 533, 534, 521, 526, 372, 318, 444, 466, 487, 472, 473, 477, 480, 483, 493, 585, 600, 603, 607, 611, 643, 647, 651, 655, 589, 590, 591, 595, 601, 599, 675, 635, 549, 562, 569, 553, 554, 555, 559, 560, 573, 415, 418, 421, 311, 314, 325, 329, 337, 341, 352, 356, 368, 381, 400, 403, 411, 425, 440, 445, 449, 454, 458, 462, 498, 513, 527, 539, 544, 581, 619, 628, 631, 639, 663, 671, 688, 777, 782, 792, 800, 804, 812, 817, 829, 841, 869, 873, 865, 884, 905, 908, 901, 911, 897, 893, 930, 934, 953, 949, 957, 961, 969, 973, 981, 989, 997, 1000, 1004, 1008, 1016, 307, 772, 321, 786, 333, 796, 348, 808, 360, 821, 364, 825, 373, 833, 377, 837, 388, 845, 392, 849, 396, 853, 407, 861, 432, 876, 436, 880, 450, 888, 494, 914, 505, 922, 509, 926, 535, 938, 540, 942, 577, 965, 615, 977, 620, 985, 624, 993, 659, 1012, 667, 1020, 676, 1024, 680, 1028, 684, 1032] (by decide +kernel) (by decide +kernel)
def mj_KL : List (Nat × Nat × Int) := [(1, 98, 1103515245), (1, 99, 2147483647), (1, 100, 65536), (4, 71, -1000000), (8, 174, 65536)]
def mj_wk (e : Nat × Nat × Int) : Cond := .constant (mj_cs_ e.1) e.2.1 (Int32.ofInt e.2.2)
theorem mj_KL_ok : ∀ w ∈ mj_KL.map mj_wk, w ∈ mj_WA := mj_of [502, 503, 504, 561, 921] (by decide +kernel) (by decide +kernel)
def mj_KM : List (Nat × Nat × Int) := [(9, 56, 4294967295), (8, 72, 3), (8, 74, 24), (8, 76, 999), (8, 82, 9), (8, 84, 99), (8, 100, 4), (8, 112, 8), (8, 114, 255), (8, 116, 32), (8, 118, 126), (8, 163, 60), (8, 168, 1103515245), (8, 170, 12345), (8, 172, 2147483647), (8, 184, 12), (8, 186, -1), (8, 188, 5), (8, 222, 2)]
def mj_wl2 (e : Nat × Nat × Int) : Cond := .constantLong (mj_cs_ e.1) e.2.1 (Int64.ofInt e.2.2)
theorem mj_KM_ok : ∀ w ∈ mj_KM.map mj_wl2, w ∈ mj_WA := mj_of [1036, 776, 780, 781, 790, 791, 816, 857, 858, 859, 860, 892, 918, 919, 920, 946, 947, 948, 1003] (by decide +kernel) (by decide +kernel)
def mj_AL : List (Nat × Nat) := [(7, 256), (1, 65), (2, 115), (6, 22)]
def mj_wa (e : Nat × Nat) : Cond := .methodLink (mj_cs_ e.1) e.2 arraycopyName
theorem mj_AL_ok : ∀ w ∈ mj_AL.map mj_wa, w ∈ mj_WA := mj_of [689, 525, 602, 429] (by decide +kernel) (by decide +kernel)
theorem mj_AC_ok : ∀ w ∈ [Cond.native arraycopyName, Cond.static arraycopyName, Cond.initialized "java/lang/System"], w ∈ mj_WA := mj_of [431, 430, 56] (by decide +kernel) (by decide +kernel)
/-- Math.max (0), min (1): whose file, its place there -/
def mj_JL : List (Nat × Nat × Bool) := [(1, 92, false), (4, 35, false), (4, 86, true)]
def mj_wj (e : Nat × Nat × Bool) : Cond := .methodLink (mj_cs_ e.1) e.2.1 (if e.2.2 then Lib.Math.max.name else Lib.Math.min.name)
theorem mj_JL_ok : ∀ w ∈ mj_JL.map mj_wj, w ∈ mj_WA := mj_of [385, 548, 566] (by decide +kernel) (by decide +kernel)
theorem mj_JC_ok : ∀ w ∈ [Cond.static Lib.Math.max.name, Cond.static Lib.Math.min.name, Cond.initialized "java/lang/Math", Cond.code Lib.Math.max.name Lib.Math.max.code 2 (some .int), Cond.code Lib.Math.min.name Lib.Math.min.code 2 (some .int)], w ∈ mj_WA := mj_of [567, 386, 55, 568, 387] (by decide +kernel) (by decide +kernel)
theorem mj_u0 : ∀ w ∈ u_ws "CloudStrings$Forecast" mj_T0 1, w ∈ mj_WA := mj_of [171] (by decide +kernel) (by decide +kernel)
theorem mj_u1 : ∀ w ∈ u_ws "CloudStrings$Land" mj_T1 14, w ∈ mj_WA := mj_of [130, 132, 134, 136, 138, 140, 142, 144, 146, 148, 150, 152, 154, 156] (by decide +kernel) (by decide +kernel)
theorem mj_u2 : ∀ w ∈ u_ws "CloudStrings$Laying" mj_T2 10, w ∈ mj_WA := mj_of [218, 220, 222, 224, 226, 228, 230, 232, 234, 236] (by decide +kernel) (by decide +kernel)
theorem mj_u3 : ∀ w ∈ u_ws "CloudStrings$Sheet" mj_T3 4, w ∈ mj_WA := mj_of [270, 272, 274, 276] (by decide +kernel) (by decide +kernel)
theorem mj_u4 : ∀ w ∈ u_ws "CloudStrings$Supply" mj_T4 4, w ∈ mj_WA := mj_of [188, 190, 192, 194] (by decide +kernel) (by decide +kernel)
theorem mj_u5 : ∀ w ∈ u_ws "CloudStrings$Tape" mj_T5 2, w ∈ mj_WA := mj_of [248, 250] (by decide +kernel) (by decide +kernel)
theorem mj_u6 : ∀ w ∈ u_ws "CloudStrings$Winds" mj_T6 3, w ∈ mj_WA := mj_of [84, 86, 88] (by decide +kernel) (by decide +kernel)
theorem mj_u7 : ∀ w ∈ u_ws "CloudStrings" mj_T7 9, w ∈ mj_WA := mj_of [288, 290, 292, 294, 296, 298, 300, 302, 304] (by decide +kernel) (by decide +kernel)
theorem mj_u8 : ∀ w ∈ u_ws "CloudStringsModel" mj_T8 25, w ∈ mj_WA := mj_of [721, 723, 725, 727, 729, 731, 733, 735, 737, 739, 741, 743, 745, 747, 749, 751, 753, 755, 757, 759, 761, 763, 765, 767, 769] (by decide +kernel) (by decide +kernel)
theorem mj_cl_u : ∀ c ∈ mj_cl, ∀ w ∈ u_ws c.1 c.2.1 c.2.2, w ∈ mj_WA := by
  intro c hc
  simp only [mj_cl, List.mem_cons, List.not_mem_nil, or_false] at hc
  rcases hc with rfl | rfl | rfl | rfl | rfl | rfl | rfl | rfl | rfl
  · exact mj_u0
  · exact mj_u1
  · exact mj_u2
  · exact mj_u3
  · exact mj_u4
  · exact mj_u5
  · exact mj_u6
  · exact mj_u7
  · exact mj_u8
theorem mj_cl_t : ∀ c ∈ mj_cl, ∀ k, k < c.2.2 → parseFieldDescriptor (c.2.1 k).2.2.1 = some ((parseFieldDescriptor (c.2.1 k).2.2.1).getD .int) := by decide +kernel
theorem mj_cl_n : ∀ c ∈ mj_cl, ∀ a, a < c.2.2 → ∀ b, b < c.2.2 → a ≠ b → (c.2.1 a).2.1 ≠ (c.2.1 b).2.1 := by decide +kernel
