/-! printed by wip/gen_ok.py: the same of CrowdOut, what is nested in it, the JDK -/
theorem ok_Area_init : so_mok 0 ((⟨"CrowdOut$Area", "<init>", "(II)V"⟩ : MethodName), prog_2_method_1_code, 3, ((Option.none : Option FieldType) : Option FieldType), 2, true) := ⟨by decide +kernel, by decide +kernel, tb_Area_init, rfl, by decide +kernel⟩
theorem ok_Area_copyFrom : so_mok 1 ((⟨"CrowdOut$Area", "copyFrom", "(LCrowdOut$Area;)V"⟩ : MethodName), prog_2_method_2_code, 2, ((Option.none : Option FieldType) : Option FieldType), 1, false) := ⟨by decide +kernel, by decide +kernel, tb_Area_copyFrom, rfl, by decide +kernel⟩
theorem ok_Area_press : so_mok 2 ((⟨"CrowdOut$Area", "press", "()I"⟩ : MethodName), prog_2_method_3_code, 1, ((Option.some FieldType.int) : Option FieldType), 0, false) := ⟨by decide +kernel, by decide +kernel, tb_Area_press, rfl, by decide +kernel⟩
theorem ok_Area_seeTight : so_mok 3 ((⟨"CrowdOut$Area", "seeTight", "(I)Z"⟩ : MethodName), prog_2_method_4_code, 4, ((Option.some FieldType.boolean) : Option FieldType), 1, false) := ⟨by decide +kernel, by decide +kernel, tb_Area_seeTight, rfl, by decide +kernel⟩
theorem ok_Area_roomLeft : so_mok 4 ((⟨"CrowdOut$Area", "roomLeft", "(I)I"⟩ : MethodName), prog_2_method_5_code, 2, ((Option.some FieldType.int) : Option FieldType), 1, false) := ⟨by decide +kernel, by decide +kernel, tb_Area_roomLeft, rfl, by decide +kernel⟩
theorem ok_Area_fall : so_mok 5 ((⟨"CrowdOut$Area", "fall", "(II)V"⟩ : MethodName), prog_2_method_6_code, 4, ((Option.none : Option FieldType) : Option FieldType), 2, false) := ⟨by decide +kernel, by decide +kernel, tb_Area_fall, rfl, by decide +kernel⟩
theorem ok_Folk_init : so_mok 100 ((⟨"CrowdOut$Folk", "<init>", "(IIII)V"⟩ : MethodName), prog_3_method_1_code, 5, ((Option.none : Option FieldType) : Option FieldType), 4, true) := ⟨by decide +kernel, by decide +kernel, tb_Folk_init, rfl, by decide +kernel⟩
theorem ok_Folk_copyFrom : so_mok 101 ((⟨"CrowdOut$Folk", "copyFrom", "(LCrowdOut$Folk;)V"⟩ : MethodName), prog_3_method_2_code, 2, ((Option.none : Option FieldType) : Option FieldType), 1, false) := ⟨by decide +kernel, by decide +kernel, tb_Folk_copyFrom, rfl, by decide +kernel⟩
theorem ok_Folk_target : so_mok 102 ((⟨"CrowdOut$Folk", "target", "()I"⟩ : MethodName), prog_3_method_3_code, 1, ((Option.some FieldType.int) : Option FieldType), 0, false) := ⟨by decide +kernel, by decide +kernel, tb_Folk_target, rfl, by decide +kernel⟩
theorem ok_Folk_isWhereItShould : so_mok 103 ((⟨"CrowdOut$Folk", "isWhereItShould", "()Z"⟩ : MethodName), prog_3_method_4_code, 1, ((Option.some FieldType.boolean) : Option FieldType), 0, false) := ⟨by decide +kernel, by decide +kernel, tb_Folk_isWhereItShould, rfl, by decide +kernel⟩
theorem ok_Given_init : so_mok 200 ((⟨"CrowdOut$Given", "<init>", "()V"⟩ : MethodName), prog_4_method_1_code, 1, ((Option.none : Option FieldType) : Option FieldType), 0, true) := ⟨by decide +kernel, by decide +kernel, tb_Given_init, rfl, by decide +kernel⟩
theorem ok_Given_copyFrom : so_mok 201 ((⟨"CrowdOut$Given", "copyFrom", "(LCrowdOut$Given;)V"⟩ : MethodName), prog_4_method_2_code, 2, ((Option.none : Option FieldType) : Option FieldType), 1, false) := ⟨by decide +kernel, by decide +kernel, tb_Given_copyFrom, rfl, by decide +kernel⟩
theorem ok_Given_passOverHeard : so_mok 202 ((⟨"CrowdOut$Given", "passOverHeard", "(I)V"⟩ : MethodName), prog_4_method_3_code, 3, ((Option.none : Option FieldType) : Option FieldType), 1, false) := ⟨by decide +kernel, by decide +kernel, tb_Given_passOverHeard, rfl, by decide +kernel⟩
theorem ok_Link_init : so_mok 300 ((⟨"CrowdOut$Link", "<init>", "(III)V"⟩ : MethodName), prog_5_method_1_code, 4, ((Option.none : Option FieldType) : Option FieldType), 3, true) := ⟨by decide +kernel, by decide +kernel, tb_Link_init, rfl, by decide +kernel⟩
theorem ok_Link_copyFrom : so_mok 301 ((⟨"CrowdOut$Link", "copyFrom", "(LCrowdOut$Link;)V"⟩ : MethodName), prog_5_method_2_code, 2, ((Option.none : Option FieldType) : Option FieldType), 1, false) := ⟨by decide +kernel, by decide +kernel, tb_Link_copyFrom, rfl, by decide +kernel⟩
theorem ok_Link_rowOf : so_mok 302 ((⟨"CrowdOut$Link", "rowOf", "(II)I"⟩ : MethodName), prog_5_method_3_code, 3, ((Option.some FieldType.int) : Option FieldType), 2, false) := ⟨by decide +kernel, by decide +kernel, tb_Link_rowOf, rfl, by decide +kernel⟩
theorem ok_Link_note : so_mok 303 ((⟨"CrowdOut$Link", "note", "(I)V"⟩ : MethodName), prog_5_method_4_code, 2, ((Option.none : Option FieldType) : Option FieldType), 1, false) := ⟨by decide +kernel, by decide +kernel, tb_Link_note, rfl, by decide +kernel⟩
theorem ok_Link_wentOn : so_mok 304 ((⟨"CrowdOut$Link", "wentOn", "(I)I"⟩ : MethodName), prog_5_method_5_code, 2, ((Option.some FieldType.int) : Option FieldType), 1, false) := ⟨by decide +kernel, by decide +kernel, tb_Link_wentOn, rfl, by decide +kernel⟩
theorem ok_Link_headsOf : so_mok 305 ((⟨"CrowdOut$Link", "headsOf", "(I)I"⟩ : MethodName), prog_5_method_6_code, 4, ((Option.some FieldType.int) : Option FieldType), 1, false) := ⟨by decide +kernel, by decide +kernel, tb_Link_headsOf, rfl, by decide +kernel⟩
theorem ok_Order_init : so_mok 400 ((⟨"CrowdOut$Order", "<init>", "([I[IZ)V"⟩ : MethodName), prog_6_method_1_code, 4, ((Option.none : Option FieldType) : Option FieldType), 3, true) := ⟨by decide +kernel, by decide +kernel, tb_Order_init, rfl, by decide +kernel⟩
theorem ok_Reader_init : so_mok 500 ((⟨"CrowdOut$Reader", "<init>", "()V"⟩ : MethodName), prog_7_method_1_code, 1, ((Option.none : Option FieldType) : Option FieldType), 0, true) := ⟨by decide +kernel, by decide +kernel, tb_Reader_init, rfl, by decide +kernel⟩
theorem ok_Reader_keep : so_mok 501 ((⟨"CrowdOut$Reader", "keep", "(I)V"⟩ : MethodName), prog_7_method_2_code, 2, ((Option.none : Option FieldType) : Option FieldType), 1, false) := ⟨by decide +kernel, by decide +kernel, tb_Reader_keep, rfl, by decide +kernel⟩
theorem ok_Reader_begin : so_mok 502 ((⟨"CrowdOut$Reader", "begin", "()V"⟩ : MethodName), prog_7_method_3_code, 1, ((Option.none : Option FieldType) : Option FieldType), 0, false) := ⟨by decide +kernel, by decide +kernel, tb_Reader_begin, rfl, by decide +kernel⟩
theorem ok_Reader_writtenTests : so_mok 503 ((⟨"CrowdOut$Reader", "writtenTests", "()[I"⟩ : MethodName), prog_7_method_4_code, 1, ((Option.some (FieldType.array FieldType.int)) : Option FieldType), 0, false) := ⟨by decide +kernel, by decide +kernel, tb_Reader_writtenTests, rfl, by decide +kernel⟩
theorem ok_Reader_writtenActs : so_mok 504 ((⟨"CrowdOut$Reader", "writtenActs", "()[I"⟩ : MethodName), prog_7_method_5_code, 1, ((Option.some (FieldType.array FieldType.int)) : Option FieldType), 0, false) := ⟨by decide +kernel, by decide +kernel, tb_Reader_writtenActs, rfl, by decide +kernel⟩
theorem ok_Reader_readOrs : so_mok 505 ((⟨"CrowdOut$Reader", "readOrs", "(I)V"⟩ : MethodName), prog_7_method_6_code, 3, ((Option.none : Option FieldType) : Option FieldType), 1, false) := ⟨by decide +kernel, by decide +kernel, tb_Reader_readOrs, rfl, by decide +kernel⟩
theorem ok_Reader_readActs : so_mok 506 ((⟨"CrowdOut$Reader", "readActs", "()V"⟩ : MethodName), prog_7_method_7_code, 2, ((Option.none : Option FieldType) : Option FieldType), 0, false) := ⟨by decide +kernel, by decide +kernel, tb_Reader_readActs, rfl, by decide +kernel⟩
theorem ok_Reader_readAnds : so_mok 507 ((⟨"CrowdOut$Reader", "readAnds", "(I)V"⟩ : MethodName), prog_7_method_8_code, 3, ((Option.none : Option FieldType) : Option FieldType), 1, false) := ⟨by decide +kernel, by decide +kernel, tb_Reader_readAnds, rfl, by decide +kernel⟩
theorem ok_Reader_readTest : so_mok 508 ((⟨"CrowdOut$Reader", "readTest", "(I)V"⟩ : MethodName), prog_7_method_9_code, 5, ((Option.none : Option FieldType) : Option FieldType), 1, false) := ⟨by decide +kernel, by decide +kernel, tb_Reader_readTest, rfl, by decide +kernel⟩
theorem ok_Reader_readSum : so_mok 509 ((⟨"CrowdOut$Reader", "readSum", "()V"⟩ : MethodName), prog_7_method_10_code, 3, ((Option.none : Option FieldType) : Option FieldType), 0, false) := ⟨by decide +kernel, by decide +kernel, tb_Reader_readSum, rfl, by decide +kernel⟩
theorem ok_Reader_readUnit : so_mok 510 ((⟨"CrowdOut$Reader", "readUnit", "()V"⟩ : MethodName), prog_7_method_11_code, 2, ((Option.none : Option FieldType) : Option FieldType), 0, false) := ⟨by decide +kernel, by decide +kernel, tb_Reader_readUnit, rfl, by decide +kernel⟩
theorem ok_Reader_unitOf : so_mok 511 ((⟨"CrowdOut$Reader", "unitOf", "(I)I"⟩ : MethodName), prog_7_method_12_code, 1, ((Option.some FieldType.int) : Option FieldType), 1, false) := ⟨by decide +kernel, by decide +kernel, tb_Reader_unitOf, rfl, by decide +kernel⟩
theorem ok_Reader_readAct : so_mok 512 ((⟨"CrowdOut$Reader", "readAct", "()V"⟩ : MethodName), prog_7_method_13_code, 3, ((Option.none : Option FieldType) : Option FieldType), 0, false) := ⟨by decide +kernel, by decide +kernel, tb_Reader_readAct, rfl, by decide +kernel⟩
theorem ok_Reader_readDigits : so_mok 513 ((⟨"CrowdOut$Reader", "readDigits", "(II)I"⟩ : MethodName), prog_7_method_14_code, 6, ((Option.some FieldType.int) : Option FieldType), 2, false) := ⟨by decide +kernel, by decide +kernel, tb_Reader_readDigits, rfl, by decide +kernel⟩
theorem ok_Reader_step : so_mok 514 ((⟨"CrowdOut$Reader", "step", "()V"⟩ : MethodName), prog_7_method_15_code, 1, ((Option.none : Option FieldType) : Option FieldType), 0, false) := ⟨by decide +kernel, by decide +kernel, tb_Reader_step, rfl, by decide +kernel⟩
theorem ok_Reader_stepOver : so_mok 515 ((⟨"CrowdOut$Reader", "stepOver", "(I)V"⟩ : MethodName), prog_7_method_16_code, 2, ((Option.none : Option FieldType) : Option FieldType), 1, false) := ⟨by decide +kernel, by decide +kernel, tb_Reader_stepOver, rfl, by decide +kernel⟩
theorem ok_Reader_fail : so_mok 516 ((⟨"CrowdOut$Reader", "fail", "()V"⟩ : MethodName), prog_7_method_17_code, 1, ((Option.none : Option FieldType) : Option FieldType), 0, false) := ⟨by decide +kernel, by decide +kernel, tb_Reader_fail, rfl, by decide +kernel⟩
theorem ok_Reader_put : so_mok 517 ((⟨"CrowdOut$Reader", "put", "(II)V"⟩ : MethodName), prog_7_method_18_code, 3, ((Option.none : Option FieldType) : Option FieldType), 2, false) := ⟨by decide +kernel, by decide +kernel, tb_Reader_put, rfl, by decide +kernel⟩
theorem ok_Tellings_init : so_mok 600 ((⟨"CrowdOut$Tellings", "<init>", "()V"⟩ : MethodName), prog_8_method_1_code, 1, ((Option.none : Option FieldType) : Option FieldType), 0, true) := ⟨by decide +kernel, by decide +kernel, tb_Tellings_init, rfl, by decide +kernel⟩
theorem ok_Tellings_add : so_mok 601 ((⟨"CrowdOut$Tellings", "add", "(IIII)V"⟩ : MethodName), prog_8_method_2_code, 5, ((Option.none : Option FieldType) : Option FieldType), 4, false) := ⟨by decide +kernel, by decide +kernel, tb_Tellings_add, rfl, by decide +kernel⟩
theorem ok_Tellings_latest : so_mok 602 ((⟨"CrowdOut$Tellings", "latest", "(III)I"⟩ : MethodName), prog_8_method_3_code, 5, ((Option.some FieldType.int) : Option FieldType), 3, false) := ⟨by decide +kernel, by decide +kernel, tb_Tellings_latest, rfl, by decide +kernel⟩
theorem ok_Tellings_off : so_mok 603 ((⟨"CrowdOut$Tellings", "off", "(IILCrowdOut$Link;)I"⟩ : MethodName), prog_8_method_4_code, 6, ((Option.some FieldType.int) : Option FieldType), 3, false) := ⟨by decide +kernel, by decide +kernel, tb_Tellings_off, rfl, by decide +kernel⟩
theorem ok_Train_init : so_mok 700 ((⟨"CrowdOut$Train", "<init>", "(IIII)V"⟩ : MethodName), prog_9_method_1_code, 5, ((Option.none : Option FieldType) : Option FieldType), 4, true) := ⟨by decide +kernel, by decide +kernel, tb_Train_init, rfl, by decide +kernel⟩
theorem ok_Train_comesOn : so_mok 701 ((⟨"CrowdOut$Train", "comesOn", "(I)Z"⟩ : MethodName), prog_9_method_2_code, 2, ((Option.some FieldType.boolean) : Option FieldType), 1, false) := ⟨by decide +kernel, by decide +kernel, tb_Train_comesOn, rfl, by decide +kernel⟩
theorem ok_Ways_init : so_mok 800 ((⟨"CrowdOut$Ways", "<init>", "()V"⟩ : MethodName), prog_10_method_1_code, 1, ((Option.none : Option FieldType) : Option FieldType), 0, true) := ⟨by decide +kernel, by decide +kernel, tb_Ways_init, rfl, by decide +kernel⟩
theorem ok_Ways_forget : so_mok 801 ((⟨"CrowdOut$Ways", "forget", "()V"⟩ : MethodName), prog_10_method_2_code, 1, ((Option.none : Option FieldType) : Option FieldType), 0, false) := ⟨by decide +kernel, by decide +kernel, tb_Ways_forget, rfl, by decide +kernel⟩
theorem ok_Ways_rowTo : so_mok 802 ((⟨"CrowdOut$Ways", "rowTo", "(LCrowdOut$World;IZ)I"⟩ : MethodName), prog_10_method_3_code, 8, ((Option.some FieldType.int) : Option FieldType), 3, false) := ⟨by decide +kernel, by decide +kernel, tb_Ways_rowTo, rfl, by decide +kernel⟩
theorem ok_Ways_shorten : so_mok 803 ((⟨"CrowdOut$Ways", "shorten", "(LCrowdOut$World;IZ)Z"⟩ : MethodName), prog_10_method_4_code, 12, ((Option.some FieldType.boolean) : Option FieldType), 3, false) := ⟨by decide +kernel, by decide +kernel, tb_Ways_shorten, rfl, by decide +kernel⟩
theorem ok_World_init : so_mok 900 ((⟨"CrowdOut$World", "<init>", "()V"⟩ : MethodName), prog_11_method_1_code, 1, ((Option.none : Option FieldType) : Option FieldType), 0, true) := ⟨by decide +kernel, by decide +kernel, tb_World_init, rfl, by decide +kernel⟩
theorem ok_World_isArea : so_mok 901 ((⟨"CrowdOut$World", "isArea", "(I)Z"⟩ : MethodName), prog_11_method_2_code, 2, ((Option.some FieldType.boolean) : Option FieldType), 1, false) := ⟨by decide +kernel, by decide +kernel, tb_World_isArea, rfl, by decide +kernel⟩
theorem ok_World_isGoal : so_mok 902 ((⟨"CrowdOut$World", "isGoal", "(I)Z"⟩ : MethodName), prog_11_method_3_code, 2, ((Option.some FieldType.boolean) : Option FieldType), 1, false) := ⟨by decide +kernel, by decide +kernel, tb_World_isGoal, rfl, by decide +kernel⟩
theorem ok_World_isLink : so_mok 903 ((⟨"CrowdOut$World", "isLink", "(I)Z"⟩ : MethodName), prog_11_method_4_code, 2, ((Option.some FieldType.boolean) : Option FieldType), 1, false) := ⟨by decide +kernel, by decide +kernel, tb_World_isLink, rfl, by decide +kernel⟩
theorem ok_World_isFolk : so_mok 904 ((⟨"CrowdOut$World", "isFolk", "(I)Z"⟩ : MethodName), prog_11_method_5_code, 2, ((Option.some FieldType.boolean) : Option FieldType), 1, false) := ⟨by decide +kernel, by decide +kernel, tb_World_isFolk, rfl, by decide +kernel⟩
theorem ok_World_isTrain : so_mok 905 ((⟨"CrowdOut$World", "isTrain", "(I)Z"⟩ : MethodName), prog_11_method_6_code, 2, ((Option.some FieldType.boolean) : Option FieldType), 1, false) := ⟨by decide +kernel, by decide +kernel, tb_World_isTrain, rfl, by decide +kernel⟩
theorem ok_World_isOrder : so_mok 906 ((⟨"CrowdOut$World", "isOrder", "(I)Z"⟩ : MethodName), prog_11_method_7_code, 2, ((Option.some FieldType.boolean) : Option FieldType), 1, false) := ⟨by decide +kernel, by decide +kernel, tb_World_isOrder, rfl, by decide +kernel⟩
theorem ok_World_copyFrom : so_mok 907 ((⟨"CrowdOut$World", "copyFrom", "(LCrowdOut$World;)V"⟩ : MethodName), prog_11_method_8_code, 4, ((Option.none : Option FieldType) : Option FieldType), 1, false) := ⟨by decide +kernel, by decide +kernel, tb_World_copyFrom, rfl, by decide +kernel⟩
theorem ok_World_copyGround : so_mok 908 ((⟨"CrowdOut$World", "copyGround", "(LCrowdOut$World;)V"⟩ : MethodName), prog_11_method_9_code, 4, ((Option.none : Option FieldType) : Option FieldType), 1, false) := ⟨by decide +kernel, by decide +kernel, tb_World_copyGround, rfl, by decide +kernel⟩
theorem ok_World_change : so_mok 909 ((⟨"CrowdOut$World", "change", "(III)V"⟩ : MethodName), prog_11_method_10_code, 4, ((Option.none : Option FieldType) : Option FieldType), 3, false) := ⟨by decide +kernel, by decide +kernel, tb_World_change, rfl, by decide +kernel⟩
theorem ok_World_shift : so_mok 910 ((⟨"CrowdOut$World", "shift", "(II)V"⟩ : MethodName), prog_11_method_11_code, 3, ((Option.none : Option FieldType) : Option FieldType), 2, false) := ⟨by decide +kernel, by decide +kernel, tb_World_shift, rfl, by decide +kernel⟩
theorem ok_World_seeAllTight : so_mok 911 ((⟨"CrowdOut$World", "seeAllTight", "()V"⟩ : MethodName), prog_11_method_12_code, 2, ((Option.none : Option FieldType) : Option FieldType), 0, false) := ⟨by decide +kernel, by decide +kernel, tb_World_seeAllTight, rfl, by decide +kernel⟩
theorem ok_World_allInside : so_mok 912 ((⟨"CrowdOut$World", "allInside", "()I"⟩ : MethodName), prog_11_method_13_code, 3, ((Option.some FieldType.int) : Option FieldType), 0, false) := ⟨by decide +kernel, by decide +kernel, tb_World_allInside, rfl, by decide +kernel⟩
theorem ok_World_allOnWay : so_mok 913 ((⟨"CrowdOut$World", "allOnWay", "()I"⟩ : MethodName), prog_11_method_14_code, 3, ((Option.some FieldType.int) : Option FieldType), 0, false) := ⟨by decide +kernel, by decide +kernel, tb_World_allOnWay, rfl, by decide +kernel⟩
theorem ok_World_allOut : so_mok 914 ((⟨"CrowdOut$World", "allOut", "()I"⟩ : MethodName), prog_11_method_15_code, 3, ((Option.some FieldType.int) : Option FieldType), 0, false) := ⟨by decide +kernel, by decide +kernel, tb_World_allOut, rfl, by decide +kernel⟩
theorem ok_World_allFell : so_mok 915 ((⟨"CrowdOut$World", "allFell", "()I"⟩ : MethodName), prog_11_method_16_code, 3, ((Option.some FieldType.int) : Option FieldType), 0, false) := ⟨by decide +kernel, by decide +kernel, tb_World_allFell, rfl, by decide +kernel⟩
theorem ok_World_allTaken : so_mok 916 ((⟨"CrowdOut$World", "allTaken", "()I"⟩ : MethodName), prog_11_method_17_code, 3, ((Option.some FieldType.int) : Option FieldType), 0, false) := ⟨by decide +kernel, by decide +kernel, tb_World_allTaken, rfl, by decide +kernel⟩
theorem ok_World_ordersThatStand : so_mok 917 ((⟨"CrowdOut$World", "ordersThatStand", "()I"⟩ : MethodName), prog_11_method_18_code, 3, ((Option.some FieldType.int) : Option FieldType), 0, false) := ⟨by decide +kernel, by decide +kernel, tb_World_ordersThatStand, rfl, by decide +kernel⟩
theorem ok_World_empty : so_mok 918 ((⟨"CrowdOut$World", "empty", "(II)I"⟩ : MethodName), prog_11_method_19_code, 5, ((Option.some FieldType.int) : Option FieldType), 2, false) := ⟨by decide +kernel, by decide +kernel, tb_World_empty, rfl, by decide +kernel⟩
theorem ok_World_isOver : so_mok 919 ((⟨"CrowdOut$World", "isOver", "()Z"⟩ : MethodName), prog_11_method_20_code, 2, ((Option.some FieldType.boolean) : Option FieldType), 0, false) := ⟨by decide +kernel, by decide +kernel, tb_World_isOver, rfl, by decide +kernel⟩
theorem ok_World_isStuck : so_mok 920 ((⟨"CrowdOut$World", "isStuck", "()Z"⟩ : MethodName), prog_11_method_21_code, 1, ((Option.some FieldType.boolean) : Option FieldType), 0, false) := ⟨by decide +kernel, by decide +kernel, tb_World_isStuck, rfl, by decide +kernel⟩
theorem ok_World_pass : so_mok 921 ((⟨"CrowdOut$World", "pass", "()V"⟩ : MethodName), prog_11_method_22_code, 1, ((Option.none : Option FieldType) : Option FieldType), 0, false) := ⟨by decide +kernel, by decide +kernel, tb_World_pass, rfl, by decide +kernel⟩
theorem ok_World_hear : so_mok 922 ((⟨"CrowdOut$World", "hear", "()V"⟩ : MethodName), prog_11_method_23_code, 2, ((Option.none : Option FieldType) : Option FieldType), 0, false) := ⟨by decide +kernel, by decide +kernel, tb_World_hear, rfl, by decide +kernel⟩
theorem ok_World_perform : so_mok 923 ((⟨"CrowdOut$World", "perform", "(II)V"⟩ : MethodName), prog_11_method_24_code, 3, ((Option.none : Option FieldType) : Option FieldType), 2, false) := ⟨by decide +kernel, by decide +kernel, tb_World_perform, rfl, by decide +kernel⟩
theorem ok_World_comeIn : so_mok 924 ((⟨"CrowdOut$World", "comeIn", "()V"⟩ : MethodName), prog_11_method_25_code, 5, ((Option.none : Option FieldType) : Option FieldType), 0, false) := ⟨by decide +kernel, by decide +kernel, tb_World_comeIn, rfl, by decide +kernel⟩
theorem ok_World_arrive : so_mok 925 ((⟨"CrowdOut$World", "arrive", "(LCrowdOut$Link;II)V"⟩ : MethodName), prog_11_method_26_code, 7, ((Option.none : Option FieldType) : Option FieldType), 3, false) := ⟨by decide +kernel, by decide +kernel, tb_World_arrive, rfl, by decide +kernel⟩
theorem ok_World_goOn : so_mok 926 ((⟨"CrowdOut$World", "goOn", "()V"⟩ : MethodName), prog_11_method_27_code, 6, ((Option.none : Option FieldType) : Option FieldType), 0, false) := ⟨by decide +kernel, by decide +kernel, tb_World_goOn, rfl, by decide +kernel⟩
theorem ok_World_leave : so_mok 927 ((⟨"CrowdOut$World", "leave", "(III)V"⟩ : MethodName), prog_11_method_28_code, 11, ((Option.none : Option FieldType) : Option FieldType), 3, false) := ⟨by decide +kernel, by decide +kernel, tb_World_leave, rfl, by decide +kernel⟩
theorem ok_World_fitting : so_mok 928 ((⟨"CrowdOut$World", "fitting", "(IILCrowdOut$Link;I)I"⟩ : MethodName), prog_11_method_29_code, 6, ((Option.some FieldType.int) : Option FieldType), 4, false) := ⟨by decide +kernel, by decide +kernel, tb_World_fitting, rfl, by decide +kernel⟩
theorem ok_World_pressOn : so_mok 929 ((⟨"CrowdOut$World", "pressOn", "()V"⟩ : MethodName), prog_11_method_30_code, 3, ((Option.none : Option FieldType) : Option FieldType), 0, false) := ⟨by decide +kernel, by decide +kernel, tb_World_pressOn, rfl, by decide +kernel⟩
theorem ok_World_board : so_mok 930 ((⟨"CrowdOut$World", "board", "()V"⟩ : MethodName), prog_11_method_31_code, 4, ((Option.none : Option FieldType) : Option FieldType), 0, false) := ⟨by decide +kernel, by decide +kernel, tb_World_board, rfl, by decide +kernel⟩
theorem ok_World_ask : so_mok 931 ((⟨"CrowdOut$World", "ask", "()V"⟩ : MethodName), prog_11_method_32_code, 3, ((Option.none : Option FieldType) : Option FieldType), 0, false) := ⟨by decide +kernel, by decide +kernel, tb_World_ask, rfl, by decide +kernel⟩
theorem ok_World_give : so_mok 932 ((⟨"CrowdOut$World", "give", "(I)V"⟩ : MethodName), prog_11_method_33_code, 6, ((Option.none : Option FieldType) : Option FieldType), 1, false) := ⟨by decide +kernel, by decide +kernel, tb_World_give, rfl, by decide +kernel⟩
theorem ok_World_isTrue : so_mok 933 ((⟨"CrowdOut$World", "isTrue", "(LCrowdOut$Order;)Z"⟩ : MethodName), prog_11_method_34_code, 5, ((Option.some FieldType.boolean) : Option FieldType), 1, false) := ⟨by decide +kernel, by decide +kernel, tb_World_isTrue, rfl, by decide +kernel⟩
theorem ok_World_worth : so_mok 934 ((⟨"CrowdOut$World", "worth", "(II)I"⟩ : MethodName), prog_11_method_35_code, 3, ((Option.some FieldType.int) : Option FieldType), 2, false) := ⟨by decide +kernel, by decide +kernel, tb_World_worth, rfl, by decide +kernel⟩
theorem ok_World_joined : so_mok 935 ((⟨"CrowdOut$World", "joined", "(III)I"⟩ : MethodName), prog_11_method_36_code, 3, ((Option.some FieldType.int) : Option FieldType), 3, false) := ⟨by decide +kernel, by decide +kernel, tb_World_joined, rfl, by decide +kernel⟩
theorem ok_C_init : so_mok 1000 ((⟨"CrowdOut", "<init>", "()V"⟩ : MethodName), prog_1_method_1_code, 1, ((Option.none : Option FieldType) : Option FieldType), 0, true) := ⟨by decide +kernel, by decide +kernel, tb_C_init, rfl, by decide +kernel⟩
theorem ok_C_area : so_mok 1001 ((⟨"CrowdOut", "area", "(II)I"⟩ : MethodName), prog_1_method_2_code, 3, ((Option.some FieldType.int) : Option FieldType), 2, false) := ⟨by decide +kernel, by decide +kernel, tb_C_area, rfl, by decide +kernel⟩
theorem ok_C_link : so_mok 1002 ((⟨"CrowdOut", "link", "(IIII)I"⟩ : MethodName), prog_1_method_3_code, 6, ((Option.some FieldType.int) : Option FieldType), 4, false) := ⟨by decide +kernel, by decide +kernel, tb_C_link, rfl, by decide +kernel⟩
theorem ok_C_linkSet : so_mok 1003 ((⟨"CrowdOut", "linkSet", "(III)I"⟩ : MethodName), prog_1_method_4_code, 6, ((Option.some FieldType.int) : Option FieldType), 3, false) := ⟨by decide +kernel, by decide +kernel, tb_C_linkSet, rfl, by decide +kernel⟩
theorem ok_C_folk : so_mok 1004 ((⟨"CrowdOut", "folk", "(IIII)I"⟩ : MethodName), prog_1_method_5_code, 7, ((Option.some FieldType.int) : Option FieldType), 4, false) := ⟨by decide +kernel, by decide +kernel, tb_C_folk, rfl, by decide +kernel⟩
theorem ok_C_train : so_mok 1005 ((⟨"CrowdOut", "train", "(IIII)I"⟩ : MethodName), prog_1_method_6_code, 5, ((Option.some FieldType.int) : Option FieldType), 4, false) := ⟨by decide +kernel, by decide +kernel, tb_C_train, rfl, by decide +kernel⟩
theorem ok_C_hold : so_mok 1006 ((⟨"CrowdOut", "hold", "(IZ)I"⟩ : MethodName), prog_1_method_7_code, 4, ((Option.some FieldType.int) : Option FieldType), 2, false) := ⟨by decide +kernel, by decide +kernel, tb_C_hold, rfl, by decide +kernel⟩
theorem ok_C_set : so_mok 1007 ((⟨"CrowdOut", "set", "(II)I"⟩ : MethodName), prog_1_method_8_code, 4, ((Option.some FieldType.int) : Option FieldType), 2, false) := ⟨by decide +kernel, by decide +kernel, tb_C_set, rfl, by decide +kernel⟩
theorem ok_C_ticks : so_mok 1008 ((⟨"CrowdOut", "ticks", "(I)I"⟩ : MethodName), prog_1_method_9_code, 5, ((Option.some FieldType.int) : Option FieldType), 1, false) := ⟨by decide +kernel, by decide +kernel, tb_C_ticks, rfl, by decide +kernel⟩
theorem ok_C_areaOf : so_mok 1009 ((⟨"CrowdOut", "areaOf", "(II)I"⟩ : MethodName), prog_1_method_10_code, 4, ((Option.some FieldType.int) : Option FieldType), 2, false) := ⟨by decide +kernel, by decide +kernel, tb_C_areaOf, rfl, by decide +kernel⟩
theorem ok_C_folkOf : so_mok 1010 ((⟨"CrowdOut", "folkOf", "(III)I"⟩ : MethodName), prog_1_method_11_code, 5, ((Option.some FieldType.int) : Option FieldType), 3, false) := ⟨by decide +kernel, by decide +kernel, tb_C_folkOf, rfl, by decide +kernel⟩
theorem ok_C_next : so_mok 1011 ((⟨"CrowdOut", "next", "(IIZ)I"⟩ : MethodName), prog_1_method_12_code, 4, ((Option.some FieldType.int) : Option FieldType), 3, false) := ⟨by decide +kernel, by decide +kernel, tb_C_next, rfl, by decide +kernel⟩
theorem ok_C_walk : so_mok 1012 ((⟨"CrowdOut", "walk", "(IIZ)I"⟩ : MethodName), prog_1_method_13_code, 4, ((Option.some FieldType.int) : Option FieldType), 3, false) := ⟨by decide +kernel, by decide +kernel, tb_C_walk, rfl, by decide +kernel⟩
theorem ok_C_feed : so_mok 1013 ((⟨"CrowdOut", "feed", "(IJ)I"⟩ : MethodName), prog_1_method_14_code, 5, ((Option.some FieldType.int) : Option FieldType), 2, false) := ⟨by decide +kernel, by decide +kernel, tb_C_feed, rfl, by decide +kernel⟩
theorem ok_C_order : so_mok 1014 ((⟨"CrowdOut", "order", "(I)I"⟩ : MethodName), prog_1_method_15_code, 3, ((Option.some FieldType.int) : Option FieldType), 1, false) := ⟨by decide +kernel, by decide +kernel, tb_C_order, rfl, by decide +kernel⟩
theorem ok_C_stand : so_mok 1015 ((⟨"CrowdOut", "stand", "(IZ)I"⟩ : MethodName), prog_1_method_16_code, 4, ((Option.some FieldType.int) : Option FieldType), 2, false) := ⟨by decide +kernel, by decide +kernel, tb_C_stand, rfl, by decide +kernel⟩
theorem ok_C_holds : so_mok 1016 ((⟨"CrowdOut", "holds", "(I)I"⟩ : MethodName), prog_1_method_17_code, 2, ((Option.some FieldType.int) : Option FieldType), 1, false) := ⟨by decide +kernel, by decide +kernel, tb_C_holds, rfl, by decide +kernel⟩
theorem ok_C_given : so_mok 1017 ((⟨"CrowdOut", "given", "(II)I"⟩ : MethodName), prog_1_method_18_code, 4, ((Option.some FieldType.int) : Option FieldType), 2, false) := ⟨by decide +kernel, by decide +kernel, tb_C_given, rfl, by decide +kernel⟩
theorem ok_C_counted : so_mok 1018 ((⟨"CrowdOut", "counted", "(III)I"⟩ : MethodName), prog_1_method_19_code, 4, ((Option.some FieldType.int) : Option FieldType), 3, false) := ⟨by decide +kernel, by decide +kernel, tb_C_counted, rfl, by decide +kernel⟩
theorem ok_C_count : so_mok 1019 ((⟨"CrowdOut", "count", "(III)I"⟩ : MethodName), prog_1_method_20_code, 5, ((Option.some FieldType.int) : Option FieldType), 3, false) := ⟨by decide +kernel, by decide +kernel, tb_C_count, rfl, by decide +kernel⟩
theorem ok_C_wrong : so_mok 1020 ((⟨"CrowdOut", "wrong", "(II)I"⟩ : MethodName), prog_1_method_21_code, 3, ((Option.some FieldType.int) : Option FieldType), 2, false) := ⟨by decide +kernel, by decide +kernel, tb_C_wrong, rfl, by decide +kernel⟩
theorem ok_C_out : so_mok 1021 ((⟨"CrowdOut", "out", "(II)I"⟩ : MethodName), prog_1_method_22_code, 3, ((Option.some FieldType.int) : Option FieldType), 2, false) := ⟨by decide +kernel, by decide +kernel, tb_C_out, rfl, by decide +kernel⟩
theorem ok_C_worst : so_mok 1022 ((⟨"CrowdOut", "worst", "(I)I"⟩ : MethodName), prog_1_method_23_code, 9, ((Option.some FieldType.int) : Option FieldType), 1, false) := ⟨by decide +kernel, by decide +kernel, tb_C_worst, rfl, by decide +kernel⟩
theorem ok_C_option : so_mok 1023 ((⟨"CrowdOut", "option", "(III)I"⟩ : MethodName), prog_1_method_24_code, 5, ((Option.some FieldType.int) : Option FieldType), 3, false) := ⟨by decide +kernel, by decide +kernel, tb_C_option, rfl, by decide +kernel⟩
theorem ok_C_design : so_mok 1024 ((⟨"CrowdOut", "design", "(III)I"⟩ : MethodName), prog_1_method_25_code, 5, ((Option.some FieldType.int) : Option FieldType), 3, false) := ⟨by decide +kernel, by decide +kernel, tb_C_design, rfl, by decide +kernel⟩
theorem ok_C_kin : so_mok 1025 ((⟨"CrowdOut", "kin", "(I)I"⟩ : MethodName), prog_1_method_26_code, 4, ((Option.some FieldType.int) : Option FieldType), 1, false) := ⟨by decide +kernel, by decide +kernel, tb_C_kin, rfl, by decide +kernel⟩
theorem ok_C_total : so_mok 1026 ((⟨"CrowdOut", "total", "(I)I"⟩ : MethodName), prog_1_method_27_code, 2, ((Option.some FieldType.int) : Option FieldType), 1, false) := ⟨by decide +kernel, by decide +kernel, tb_C_total, rfl, by decide +kernel⟩
theorem ok_C_refuse : so_mok 1027 ((⟨"CrowdOut", "refuse", "(I)I"⟩ : MethodName), prog_1_method_28_code, 3, ((Option.some FieldType.int) : Option FieldType), 1, false) := ⟨by decide +kernel, by decide +kernel, tb_C_refuse, rfl, by decide +kernel⟩
theorem ok_C_linkRefusal : so_mok 1028 ((⟨"CrowdOut", "linkRefusal", "(III)I"⟩ : MethodName), prog_1_method_29_code, 4, ((Option.some FieldType.int) : Option FieldType), 3, false) := ⟨by decide +kernel, by decide +kernel, tb_C_linkRefusal, rfl, by decide +kernel⟩
theorem ok_C_emptiedRow : so_mok 1029 ((⟨"CrowdOut", "emptiedRow", "(II)I"⟩ : MethodName), prog_1_method_30_code, 5, ((Option.some FieldType.int) : Option FieldType), 2, false) := ⟨by decide +kernel, by decide +kernel, tb_C_emptiedRow, rfl, by decide +kernel⟩
theorem ok_C_isEnough : so_mok 1030 ((⟨"CrowdOut", "isEnough", "(III)Z"⟩ : MethodName), prog_1_method_31_code, 7, ((Option.some FieldType.boolean) : Option FieldType), 3, false) := ⟨by decide +kernel, by decide +kernel, tb_C_isEnough, rfl, by decide +kernel⟩
theorem ok_J_bitCount : so_mok 1203 ((⟨"java/lang/Integer", "bitCount", "(I)I"⟩ : MethodName), prog_15_method_49_code, 1, ((Option.some FieldType.int) : Option FieldType), 1, false) := ⟨by decide +kernel, by decide +kernel, tb_J_bitCount, rfl, by decide +kernel⟩
theorem ok_J_copyOf : so_mok 1204 ((⟨"java/util/Arrays", "copyOf", "([II)[I"⟩ : MethodName), prog_18_method_123_code, 3, ((Option.some (FieldType.array FieldType.int)) : Option FieldType), 2, false) := ⟨by decide +kernel, by decide +kernel, tb_J_copyOf, rfl, by decide +kernel⟩
theorem ok_J_fill : so_mok 1205 ((⟨"java/util/Arrays", "fill", "([IIII)V"⟩ : MethodName), prog_18_method_104_code, 5, ((Option.none : Option FieldType) : Option FieldType), 4, false) := ⟨by decide +kernel, by decide +kernel, tb_J_fill, rfl, by decide +kernel⟩
theorem ok_J_rangeCheck : so_mok 1206 ((⟨"java/util/Arrays", "rangeCheck", "(III)V"⟩ : MethodName), prog_18_method_30_code, 3, ((Option.none : Option FieldType) : Option FieldType), 3, false) := ⟨by decide +kernel, by decide +kernel, tb_J_rangeCheck, rfl, by decide +kernel⟩
theorem so_fin : ∀ e ∈ so_ml, so_mok e.1 e.2 := by
  unfold so_ml
  refine List.forall_mem_cons.mpr ⟨ok_Area_init, ?_⟩
  refine List.forall_mem_cons.mpr ⟨ok_Area_copyFrom, ?_⟩
  refine List.forall_mem_cons.mpr ⟨ok_Area_press, ?_⟩
  refine List.forall_mem_cons.mpr ⟨ok_Area_seeTight, ?_⟩
  refine List.forall_mem_cons.mpr ⟨ok_Area_roomLeft, ?_⟩
  refine List.forall_mem_cons.mpr ⟨ok_Area_fall, ?_⟩
  refine List.forall_mem_cons.mpr ⟨ok_Folk_init, ?_⟩
  refine List.forall_mem_cons.mpr ⟨ok_Folk_copyFrom, ?_⟩
  refine List.forall_mem_cons.mpr ⟨ok_Folk_target, ?_⟩
  refine List.forall_mem_cons.mpr ⟨ok_Folk_isWhereItShould, ?_⟩
  refine List.forall_mem_cons.mpr ⟨ok_Given_init, ?_⟩
  refine List.forall_mem_cons.mpr ⟨ok_Given_copyFrom, ?_⟩
  refine List.forall_mem_cons.mpr ⟨ok_Given_passOverHeard, ?_⟩
  refine List.forall_mem_cons.mpr ⟨ok_Link_init, ?_⟩
  refine List.forall_mem_cons.mpr ⟨ok_Link_copyFrom, ?_⟩
  refine List.forall_mem_cons.mpr ⟨ok_Link_rowOf, ?_⟩
  refine List.forall_mem_cons.mpr ⟨ok_Link_note, ?_⟩
  refine List.forall_mem_cons.mpr ⟨ok_Link_wentOn, ?_⟩
  refine List.forall_mem_cons.mpr ⟨ok_Link_headsOf, ?_⟩
  refine List.forall_mem_cons.mpr ⟨ok_Order_init, ?_⟩
  refine List.forall_mem_cons.mpr ⟨ok_Reader_init, ?_⟩
  refine List.forall_mem_cons.mpr ⟨ok_Reader_keep, ?_⟩
  refine List.forall_mem_cons.mpr ⟨ok_Reader_begin, ?_⟩
  refine List.forall_mem_cons.mpr ⟨ok_Reader_writtenTests, ?_⟩
  refine List.forall_mem_cons.mpr ⟨ok_Reader_writtenActs, ?_⟩
  refine List.forall_mem_cons.mpr ⟨ok_Reader_readOrs, ?_⟩
  refine List.forall_mem_cons.mpr ⟨ok_Reader_readActs, ?_⟩
  refine List.forall_mem_cons.mpr ⟨ok_Reader_readAnds, ?_⟩
  refine List.forall_mem_cons.mpr ⟨ok_Reader_readTest, ?_⟩
  refine List.forall_mem_cons.mpr ⟨ok_Reader_readSum, ?_⟩
  refine List.forall_mem_cons.mpr ⟨ok_Reader_readUnit, ?_⟩
  refine List.forall_mem_cons.mpr ⟨ok_Reader_unitOf, ?_⟩
  refine List.forall_mem_cons.mpr ⟨ok_Reader_readAct, ?_⟩
  refine List.forall_mem_cons.mpr ⟨ok_Reader_readDigits, ?_⟩
  refine List.forall_mem_cons.mpr ⟨ok_Reader_step, ?_⟩
  refine List.forall_mem_cons.mpr ⟨ok_Reader_stepOver, ?_⟩
  refine List.forall_mem_cons.mpr ⟨ok_Reader_fail, ?_⟩
  refine List.forall_mem_cons.mpr ⟨ok_Reader_put, ?_⟩
  refine List.forall_mem_cons.mpr ⟨ok_Tellings_init, ?_⟩
  refine List.forall_mem_cons.mpr ⟨ok_Tellings_add, ?_⟩
  refine List.forall_mem_cons.mpr ⟨ok_Tellings_latest, ?_⟩
  refine List.forall_mem_cons.mpr ⟨ok_Tellings_off, ?_⟩
  refine List.forall_mem_cons.mpr ⟨ok_Train_init, ?_⟩
  refine List.forall_mem_cons.mpr ⟨ok_Train_comesOn, ?_⟩
  refine List.forall_mem_cons.mpr ⟨ok_Ways_init, ?_⟩
  refine List.forall_mem_cons.mpr ⟨ok_Ways_forget, ?_⟩
  refine List.forall_mem_cons.mpr ⟨ok_Ways_rowTo, ?_⟩
  refine List.forall_mem_cons.mpr ⟨ok_Ways_shorten, ?_⟩
  refine List.forall_mem_cons.mpr ⟨ok_World_init, ?_⟩
  refine List.forall_mem_cons.mpr ⟨ok_World_isArea, ?_⟩
  refine List.forall_mem_cons.mpr ⟨ok_World_isGoal, ?_⟩
  refine List.forall_mem_cons.mpr ⟨ok_World_isLink, ?_⟩
  refine List.forall_mem_cons.mpr ⟨ok_World_isFolk, ?_⟩
  refine List.forall_mem_cons.mpr ⟨ok_World_isTrain, ?_⟩
  refine List.forall_mem_cons.mpr ⟨ok_World_isOrder, ?_⟩
  refine List.forall_mem_cons.mpr ⟨ok_World_copyFrom, ?_⟩
  refine List.forall_mem_cons.mpr ⟨ok_World_copyGround, ?_⟩
  refine List.forall_mem_cons.mpr ⟨ok_World_change, ?_⟩
  refine List.forall_mem_cons.mpr ⟨ok_World_shift, ?_⟩
  refine List.forall_mem_cons.mpr ⟨ok_World_seeAllTight, ?_⟩
  refine List.forall_mem_cons.mpr ⟨ok_World_allInside, ?_⟩
  refine List.forall_mem_cons.mpr ⟨ok_World_allOnWay, ?_⟩
  refine List.forall_mem_cons.mpr ⟨ok_World_allOut, ?_⟩
  refine List.forall_mem_cons.mpr ⟨ok_World_allFell, ?_⟩
  refine List.forall_mem_cons.mpr ⟨ok_World_allTaken, ?_⟩
  refine List.forall_mem_cons.mpr ⟨ok_World_ordersThatStand, ?_⟩
  refine List.forall_mem_cons.mpr ⟨ok_World_empty, ?_⟩
  refine List.forall_mem_cons.mpr ⟨ok_World_isOver, ?_⟩
  refine List.forall_mem_cons.mpr ⟨ok_World_isStuck, ?_⟩
  refine List.forall_mem_cons.mpr ⟨ok_World_pass, ?_⟩
  refine List.forall_mem_cons.mpr ⟨ok_World_hear, ?_⟩
  refine List.forall_mem_cons.mpr ⟨ok_World_perform, ?_⟩
  refine List.forall_mem_cons.mpr ⟨ok_World_comeIn, ?_⟩
  refine List.forall_mem_cons.mpr ⟨ok_World_arrive, ?_⟩
  refine List.forall_mem_cons.mpr ⟨ok_World_goOn, ?_⟩
  refine List.forall_mem_cons.mpr ⟨ok_World_leave, ?_⟩
  refine List.forall_mem_cons.mpr ⟨ok_World_fitting, ?_⟩
  refine List.forall_mem_cons.mpr ⟨ok_World_pressOn, ?_⟩
  refine List.forall_mem_cons.mpr ⟨ok_World_board, ?_⟩
  refine List.forall_mem_cons.mpr ⟨ok_World_ask, ?_⟩
  refine List.forall_mem_cons.mpr ⟨ok_World_give, ?_⟩
  refine List.forall_mem_cons.mpr ⟨ok_World_isTrue, ?_⟩
  refine List.forall_mem_cons.mpr ⟨ok_World_worth, ?_⟩
  refine List.forall_mem_cons.mpr ⟨ok_World_joined, ?_⟩
  refine List.forall_mem_cons.mpr ⟨ok_C_init, ?_⟩
  refine List.forall_mem_cons.mpr ⟨ok_C_area, ?_⟩
  refine List.forall_mem_cons.mpr ⟨ok_C_link, ?_⟩
  refine List.forall_mem_cons.mpr ⟨ok_C_linkSet, ?_⟩
  refine List.forall_mem_cons.mpr ⟨ok_C_folk, ?_⟩
  refine List.forall_mem_cons.mpr ⟨ok_C_train, ?_⟩
  refine List.forall_mem_cons.mpr ⟨ok_C_hold, ?_⟩
  refine List.forall_mem_cons.mpr ⟨ok_C_set, ?_⟩
  refine List.forall_mem_cons.mpr ⟨ok_C_ticks, ?_⟩
  refine List.forall_mem_cons.mpr ⟨ok_C_areaOf, ?_⟩
  refine List.forall_mem_cons.mpr ⟨ok_C_folkOf, ?_⟩
  refine List.forall_mem_cons.mpr ⟨ok_C_next, ?_⟩
  refine List.forall_mem_cons.mpr ⟨ok_C_walk, ?_⟩
  refine List.forall_mem_cons.mpr ⟨ok_C_feed, ?_⟩
  refine List.forall_mem_cons.mpr ⟨ok_C_order, ?_⟩
  refine List.forall_mem_cons.mpr ⟨ok_C_stand, ?_⟩
  refine List.forall_mem_cons.mpr ⟨ok_C_holds, ?_⟩
  refine List.forall_mem_cons.mpr ⟨ok_C_given, ?_⟩
  refine List.forall_mem_cons.mpr ⟨ok_C_counted, ?_⟩
  refine List.forall_mem_cons.mpr ⟨ok_C_count, ?_⟩
  refine List.forall_mem_cons.mpr ⟨ok_C_wrong, ?_⟩
  refine List.forall_mem_cons.mpr ⟨ok_C_out, ?_⟩
  refine List.forall_mem_cons.mpr ⟨ok_C_worst, ?_⟩
  refine List.forall_mem_cons.mpr ⟨ok_C_option, ?_⟩
  refine List.forall_mem_cons.mpr ⟨ok_C_design, ?_⟩
  refine List.forall_mem_cons.mpr ⟨ok_C_kin, ?_⟩
  refine List.forall_mem_cons.mpr ⟨ok_C_total, ?_⟩
  refine List.forall_mem_cons.mpr ⟨ok_C_refuse, ?_⟩
  refine List.forall_mem_cons.mpr ⟨ok_C_linkRefusal, ?_⟩
  refine List.forall_mem_cons.mpr ⟨ok_C_emptiedRow, ?_⟩
  refine List.forall_mem_cons.mpr ⟨ok_C_isEnough, ?_⟩
  refine List.forall_mem_cons.mpr ⟨ok_M_init, ?_⟩
  refine List.forall_mem_cons.mpr ⟨ok_M_no, ?_⟩
  refine List.forall_mem_cons.mpr ⟨ok_M_isArea, ?_⟩
  refine List.forall_mem_cons.mpr ⟨ok_M_isLink, ?_⟩
  refine List.forall_mem_cons.mpr ⟨ok_M_isFolk, ?_⟩
  refine List.forall_mem_cons.mpr ⟨ok_M_isTrain, ?_⟩
  refine List.forall_mem_cons.mpr ⟨ok_M_isOrder, ?_⟩
  refine List.forall_mem_cons.mpr ⟨ok_M_area, ?_⟩
  refine List.forall_mem_cons.mpr ⟨ok_M_link, ?_⟩
  refine List.forall_mem_cons.mpr ⟨ok_M_barred, ?_⟩
  refine List.forall_mem_cons.mpr ⟨ok_M_linkSet, ?_⟩
  refine List.forall_mem_cons.mpr ⟨ok_M_folk, ?_⟩
  refine List.forall_mem_cons.mpr ⟨ok_M_train, ?_⟩
  refine List.forall_mem_cons.mpr ⟨ok_M_hold, ?_⟩
  refine List.forall_mem_cons.mpr ⟨ok_M_set, ?_⟩
  refine List.forall_mem_cons.mpr ⟨ok_M_pressOf, ?_⟩
  refine List.forall_mem_cons.mpr ⟨ok_M_addHeads, ?_⟩
  refine List.forall_mem_cons.mpr ⟨ok_M_endOf, ?_⟩
  refine List.forall_mem_cons.mpr ⟨ok_M_goes, ?_⟩
  refine List.forall_mem_cons.mpr ⟨ok_M_timeOf, ?_⟩
  refine List.forall_mem_cons.mpr ⟨ok_M_far, ?_⟩
  refine List.forall_mem_cons.mpr ⟨ok_M_lower, ?_⟩
  refine List.forall_mem_cons.mpr ⟨ok_M_wayOn, ?_⟩
  refine List.forall_mem_cons.mpr ⟨ok_M_next, ?_⟩
  refine List.forall_mem_cons.mpr ⟨ok_M_walk, ?_⟩
  refine List.forall_mem_cons.mpr ⟨ok_M_wayAt, ?_⟩
  refine List.forall_mem_cons.mpr ⟨ok_M_hear, ?_⟩
  refine List.forall_mem_cons.mpr ⟨ok_M_arrive, ?_⟩
  refine List.forall_mem_cons.mpr ⟨ok_M_comeIn, ?_⟩
  refine List.forall_mem_cons.mpr ⟨ok_M_goOn, ?_⟩
  refine List.forall_mem_cons.mpr ⟨ok_M_pushes, ?_⟩
  refine List.forall_mem_cons.mpr ⟨ok_M_carry, ?_⟩
  refine List.forall_mem_cons.mpr ⟨ok_M_pass, ?_⟩
  refine List.forall_mem_cons.mpr ⟨ok_M_ticks, ?_⟩
  refine List.forall_mem_cons.mpr ⟨ok_M_areaOf, ?_⟩
  refine List.forall_mem_cons.mpr ⟨ok_M_onLink, ?_⟩
  refine List.forall_mem_cons.mpr ⟨ok_M_folkOf, ?_⟩
  refine List.forall_mem_cons.mpr ⟨ok_M_kin, ?_⟩
  refine List.forall_mem_cons.mpr ⟨ok_M_feed, ?_⟩
  refine List.forall_mem_cons.mpr ⟨ok_M_isDigit, ?_⟩
  refine List.forall_mem_cons.mpr ⟨ok_M_byteOf, ?_⟩
  refine List.forall_mem_cons.mpr ⟨ok_M_isOf, ?_⟩
  refine List.forall_mem_cons.mpr ⟨ok_M_isAct, ?_⟩
  refine List.forall_mem_cons.mpr ⟨ok_M_behind, ?_⟩
  refine List.forall_mem_cons.mpr ⟨ok_M_fault, ?_⟩
  refine List.forall_mem_cons.mpr ⟨ok_M_order, ?_⟩
  refine List.forall_mem_cons.mpr ⟨ok_M_stand, ?_⟩
  refine List.forall_mem_cons.mpr ⟨ok_M_twoDigits, ?_⟩
  refine List.forall_mem_cons.mpr ⟨ok_M_unit, ?_⟩
  refine List.forall_mem_cons.mpr ⟨ok_M_sum, ?_⟩
  refine List.forall_mem_cons.mpr ⟨ok_M_wordsHold, ?_⟩
  refine List.forall_mem_cons.mpr ⟨ok_M_test, ?_⟩
  refine List.forall_mem_cons.mpr ⟨ok_M_holds, ?_⟩
  refine List.forall_mem_cons.mpr ⟨ok_M_ask, ?_⟩
  refine List.forall_mem_cons.mpr ⟨ok_M_give, ?_⟩
  refine List.forall_mem_cons.mpr ⟨ok_M_given, ?_⟩
  refine List.forall_mem_cons.mpr ⟨ok_M_counted, ?_⟩
  refine List.forall_mem_cons.mpr ⟨ok_M_countOf, ?_⟩
  refine List.forall_mem_cons.mpr ⟨ok_M_count, ?_⟩
  refine List.forall_mem_cons.mpr ⟨ok_M_wrong, ?_⟩
  refine List.forall_mem_cons.mpr ⟨ok_M_copyGround, ?_⟩
  refine List.forall_mem_cons.mpr ⟨ok_M_isOver, ?_⟩
  refine List.forall_mem_cons.mpr ⟨ok_M_empty, ?_⟩
  refine List.forall_mem_cons.mpr ⟨ok_M_out, ?_⟩
  refine List.forall_mem_cons.mpr ⟨ok_M_worst, ?_⟩
  refine List.forall_mem_cons.mpr ⟨ok_M_option, ?_⟩
  refine List.forall_mem_cons.mpr ⟨ok_M_sizeOf, ?_⟩
  refine List.forall_mem_cons.mpr ⟨ok_M_bears, ?_⟩
  refine List.forall_mem_cons.mpr ⟨ok_M_design, ?_⟩
  refine List.forall_mem_cons.mpr ⟨ok_M_sumOf, ?_⟩
  refine List.forall_mem_cons.mpr ⟨ok_M_total, ?_⟩
  refine List.forall_mem_cons.mpr ⟨ok_J_bitCount, ?_⟩
  refine List.forall_mem_cons.mpr ⟨ok_J_copyOf, ?_⟩
  refine List.forall_mem_cons.mpr ⟨ok_J_fill, ?_⟩
  refine List.forall_mem_cons.mpr ⟨ok_J_rangeCheck, ?_⟩
  exact fun _ h => absurd h List.not_mem_nil
theorem so_find_mem : ∀ (l : List (Nat × so_MI)) (y : Nat) (q : so_MI), so_find l y = some q → (y, q) ∈ l := by
  intro l
  induction l with
  | nil => intro y q h; cases h
  | cons e l ih =>
    obtain ⟨z, r⟩ := e
    intro y q h
    have h : (bif Nat.beq z y then some r else so_find l y) = some q := h
    cases hz : Nat.beq z y
    · rw [hz] at h; exact List.mem_cons_of_mem _ (ih y q h)
    · rw [hz] at h
      cases h
      rw [so_beq hz]
      exact List.mem_cons_self
