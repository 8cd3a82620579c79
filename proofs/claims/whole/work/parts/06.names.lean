-- ===== PART A: goes FIRST, ahead of the names: the tables' words, and 'selects' of the private methods out of them =====
/-- a private method of a class that the tables say can be made, by its rows of tables_1 -/
def lw_okq (q : MethodName × Nat) : Prop := (q.1.cls ≠ "java/lang/invoke/MethodHandle" ∧ q.1.cls ≠ "java/lang/invoke/VarHandle") ∧ Cond.instantiable q.1.cls q.2 ∈ tables_1 ∧ Cond.privateMethod q.1 ∈ tables_1 ∧ Cond.instanceMethod q.1 ∈ tables_1
theorem lw_p0 : lw_okq (⟨"CrowdOut", "refuse", "(I)I"⟩, 18) := ⟨⟨by decide +kernel, by decide +kernel⟩, List.mem_of_getElem? (i := 18) (by decide +kernel), List.mem_of_getElem? (i := 318) (by decide +kernel), List.mem_of_getElem? (i := 319) (by decide +kernel)⟩
theorem lw_p1 : lw_okq (⟨"CrowdOut", "linkRefusal", "(III)I"⟩, 18) := ⟨⟨by decide +kernel, by decide +kernel⟩, List.mem_of_getElem? (i := 18) (by decide +kernel), List.mem_of_getElem? (i := 444) (by decide +kernel), List.mem_of_getElem? (i := 445) (by decide +kernel)⟩
theorem lw_p2 : lw_okq (⟨"CrowdOut$World", "hear", "()V"⟩, 20) := ⟨⟨by decide +kernel, by decide +kernel⟩, List.mem_of_getElem? (i := 26) (by decide +kernel), List.mem_of_getElem? (i := 595) (by decide +kernel), List.mem_of_getElem? (i := 596) (by decide +kernel)⟩
theorem lw_p3 : lw_okq (⟨"CrowdOut$World", "perform", "(II)V"⟩, 20) := ⟨⟨by decide +kernel, by decide +kernel⟩, List.mem_of_getElem? (i := 26) (by decide +kernel), List.mem_of_getElem? (i := 599) (by decide +kernel), List.mem_of_getElem? (i := 600) (by decide +kernel)⟩
theorem lw_p4 : lw_okq (⟨"CrowdOut$World", "comeIn", "()V"⟩, 20) := ⟨⟨by decide +kernel, by decide +kernel⟩, List.mem_of_getElem? (i := 26) (by decide +kernel), List.mem_of_getElem? (i := 614) (by decide +kernel), List.mem_of_getElem? (i := 615) (by decide +kernel)⟩
theorem lw_p5 : lw_okq (⟨"CrowdOut$World", "arrive", "(LCrowdOut$Link;II)V"⟩, 20) := ⟨⟨by decide +kernel, by decide +kernel⟩, List.mem_of_getElem? (i := 26) (by decide +kernel), List.mem_of_getElem? (i := 622) (by decide +kernel), List.mem_of_getElem? (i := 623) (by decide +kernel)⟩
theorem lw_p6 : lw_okq (⟨"CrowdOut$World", "goOn", "()V"⟩, 20) := ⟨⟨by decide +kernel, by decide +kernel⟩, List.mem_of_getElem? (i := 26) (by decide +kernel), List.mem_of_getElem? (i := 627) (by decide +kernel), List.mem_of_getElem? (i := 628) (by decide +kernel)⟩
theorem lw_p7 : lw_okq (⟨"CrowdOut$World", "leave", "(III)V"⟩, 20) := ⟨⟨by decide +kernel, by decide +kernel⟩, List.mem_of_getElem? (i := 26) (by decide +kernel), List.mem_of_getElem? (i := 635) (by decide +kernel), List.mem_of_getElem? (i := 636) (by decide +kernel)⟩
theorem lw_p8 : lw_okq (⟨"CrowdOut$Ways", "shorten", "(LCrowdOut$World;IZ)Z"⟩, 4) := ⟨⟨by decide +kernel, by decide +kernel⟩, List.mem_of_getElem? (i := 85) (by decide +kernel), List.mem_of_getElem? (i := 649) (by decide +kernel), List.mem_of_getElem? (i := 650) (by decide +kernel)⟩
theorem lw_p9 : lw_okq (⟨"CrowdOut$World", "pressOn", "()V"⟩, 20) := ⟨⟨by decide +kernel, by decide +kernel⟩, List.mem_of_getElem? (i := 26) (by decide +kernel), List.mem_of_getElem? (i := 662) (by decide +kernel), List.mem_of_getElem? (i := 663) (by decide +kernel)⟩
theorem lw_p10 : lw_okq (⟨"CrowdOut$World", "board", "()V"⟩, 20) := ⟨⟨by decide +kernel, by decide +kernel⟩, List.mem_of_getElem? (i := 26) (by decide +kernel), List.mem_of_getElem? (i := 675) (by decide +kernel), List.mem_of_getElem? (i := 676) (by decide +kernel)⟩
theorem lw_p11 : lw_okq (⟨"CrowdOut$World", "ask", "()V"⟩, 20) := ⟨⟨by decide +kernel, by decide +kernel⟩, List.mem_of_getElem? (i := 26) (by decide +kernel), List.mem_of_getElem? (i := 683) (by decide +kernel), List.mem_of_getElem? (i := 684) (by decide +kernel)⟩
theorem lw_p12 : lw_okq (⟨"CrowdOut$World", "worth", "(II)I"⟩, 20) := ⟨⟨by decide +kernel, by decide +kernel⟩, List.mem_of_getElem? (i := 26) (by decide +kernel), List.mem_of_getElem? (i := 692) (by decide +kernel), List.mem_of_getElem? (i := 693) (by decide +kernel)⟩
theorem lw_p13 : lw_okq (⟨"CrowdOut$World", "give", "(I)V"⟩, 20) := ⟨⟨by decide +kernel, by decide +kernel⟩, List.mem_of_getElem? (i := 26) (by decide +kernel), List.mem_of_getElem? (i := 699) (by decide +kernel), List.mem_of_getElem? (i := 700) (by decide +kernel)⟩
theorem lw_p14 : lw_okq (⟨"CrowdOut$Reader", "readAnds", "(I)V"⟩, 9) := ⟨⟨by decide +kernel, by decide +kernel⟩, List.mem_of_getElem? (i := 199) (by decide +kernel), List.mem_of_getElem? (i := 750) (by decide +kernel), List.mem_of_getElem? (i := 751) (by decide +kernel)⟩
theorem lw_p15 : lw_okq (⟨"CrowdOut$Reader", "readTest", "(I)V"⟩, 9) := ⟨⟨by decide +kernel, by decide +kernel⟩, List.mem_of_getElem? (i := 199) (by decide +kernel), List.mem_of_getElem? (i := 754) (by decide +kernel), List.mem_of_getElem? (i := 755) (by decide +kernel)⟩
def lw_privs_1 : List (MethodName × Nat) := [(⟨"CrowdOut", "refuse", "(I)I"⟩, 18), (⟨"CrowdOut", "linkRefusal", "(III)I"⟩, 18), (⟨"CrowdOut$World", "hear", "()V"⟩, 20), (⟨"CrowdOut$World", "perform", "(II)V"⟩, 20), (⟨"CrowdOut$World", "comeIn", "()V"⟩, 20), (⟨"CrowdOut$World", "arrive", "(LCrowdOut$Link;II)V"⟩, 20), (⟨"CrowdOut$World", "goOn", "()V"⟩, 20), (⟨"CrowdOut$World", "leave", "(III)V"⟩, 20), (⟨"CrowdOut$Ways", "shorten", "(LCrowdOut$World;IZ)Z"⟩, 4), (⟨"CrowdOut$World", "pressOn", "()V"⟩, 20), (⟨"CrowdOut$World", "board", "()V"⟩, 20), (⟨"CrowdOut$World", "ask", "()V"⟩, 20), (⟨"CrowdOut$World", "worth", "(II)I"⟩, 20), (⟨"CrowdOut$World", "give", "(I)V"⟩, 20), (⟨"CrowdOut$Reader", "readAnds", "(I)V"⟩, 9), (⟨"CrowdOut$Reader", "readTest", "(I)V"⟩, 9)]
theorem lw_r1 : ∀ q ∈ lw_privs_1, lw_okq q := List.forall_mem_cons.mpr ⟨lw_p0, List.forall_mem_cons.mpr ⟨lw_p1, List.forall_mem_cons.mpr ⟨lw_p2, List.forall_mem_cons.mpr ⟨lw_p3, List.forall_mem_cons.mpr ⟨lw_p4, List.forall_mem_cons.mpr ⟨lw_p5, List.forall_mem_cons.mpr ⟨lw_p6, List.forall_mem_cons.mpr ⟨lw_p7, List.forall_mem_cons.mpr ⟨lw_p8, List.forall_mem_cons.mpr ⟨lw_p9, List.forall_mem_cons.mpr ⟨lw_p10, List.forall_mem_cons.mpr ⟨lw_p11, List.forall_mem_cons.mpr ⟨lw_p12, List.forall_mem_cons.mpr ⟨lw_p13, List.forall_mem_cons.mpr ⟨lw_p14, List.forall_mem_cons.mpr ⟨lw_p15, fun _ h => absurd h List.not_mem_nil⟩⟩⟩⟩⟩⟩⟩⟩⟩⟩⟩⟩⟩⟩⟩⟩
theorem lw_p16 : lw_okq (⟨"CrowdOut$Reader", "fail", "()V"⟩, 9) := ⟨⟨by decide +kernel, by decide +kernel⟩, List.mem_of_getElem? (i := 199) (by decide +kernel), List.mem_of_getElem? (i := 758) (by decide +kernel), List.mem_of_getElem? (i := 759) (by decide +kernel)⟩
theorem lw_p17 : lw_okq (⟨"CrowdOut$Reader", "step", "()V"⟩, 9) := ⟨⟨by decide +kernel, by decide +kernel⟩, List.mem_of_getElem? (i := 199) (by decide +kernel), List.mem_of_getElem? (i := 762) (by decide +kernel), List.mem_of_getElem? (i := 763) (by decide +kernel)⟩
theorem lw_p18 : lw_okq (⟨"CrowdOut$Reader", "put", "(II)V"⟩, 9) := ⟨⟨by decide +kernel, by decide +kernel⟩, List.mem_of_getElem? (i := 199) (by decide +kernel), List.mem_of_getElem? (i := 766) (by decide +kernel), List.mem_of_getElem? (i := 767) (by decide +kernel)⟩
theorem lw_p19 : lw_okq (⟨"CrowdOut$Reader", "stepOver", "(I)V"⟩, 9) := ⟨⟨by decide +kernel, by decide +kernel⟩, List.mem_of_getElem? (i := 199) (by decide +kernel), List.mem_of_getElem? (i := 771) (by decide +kernel), List.mem_of_getElem? (i := 772) (by decide +kernel)⟩
theorem lw_p20 : lw_okq (⟨"CrowdOut$Reader", "readSum", "()V"⟩, 9) := ⟨⟨by decide +kernel, by decide +kernel⟩, List.mem_of_getElem? (i := 199) (by decide +kernel), List.mem_of_getElem? (i := 775) (by decide +kernel), List.mem_of_getElem? (i := 776) (by decide +kernel)⟩
theorem lw_p21 : lw_okq (⟨"CrowdOut$Reader", "readUnit", "()V"⟩, 9) := ⟨⟨by decide +kernel, by decide +kernel⟩, List.mem_of_getElem? (i := 199) (by decide +kernel), List.mem_of_getElem? (i := 779) (by decide +kernel), List.mem_of_getElem? (i := 780) (by decide +kernel)⟩
theorem lw_p22 : lw_okq (⟨"CrowdOut$Reader", "readDigits", "(II)I"⟩, 9) := ⟨⟨by decide +kernel, by decide +kernel⟩, List.mem_of_getElem? (i := 199) (by decide +kernel), List.mem_of_getElem? (i := 786) (by decide +kernel), List.mem_of_getElem? (i := 787) (by decide +kernel)⟩
theorem lw_p23 : lw_okq (⟨"CrowdOut$Reader", "readAct", "()V"⟩, 9) := ⟨⟨by decide +kernel, by decide +kernel⟩, List.mem_of_getElem? (i := 199) (by decide +kernel), List.mem_of_getElem? (i := 794) (by decide +kernel), List.mem_of_getElem? (i := 795) (by decide +kernel)⟩
theorem lw_p24 : lw_okq (⟨"CrowdOut", "emptiedRow", "(II)I"⟩, 18) := ⟨⟨by decide +kernel, by decide +kernel⟩, List.mem_of_getElem? (i := 18) (by decide +kernel), List.mem_of_getElem? (i := 889) (by decide +kernel), List.mem_of_getElem? (i := 890) (by decide +kernel)⟩
theorem lw_p25 : lw_okq (⟨"CrowdOut$World", "copyGround", "(LCrowdOut$World;)V"⟩, 20) := ⟨⟨by decide +kernel, by decide +kernel⟩, List.mem_of_getElem? (i := 26) (by decide +kernel), List.mem_of_getElem? (i := 897) (by decide +kernel), List.mem_of_getElem? (i := 898) (by decide +kernel)⟩
theorem lw_p26 : lw_okq (⟨"CrowdOut$World", "isOver", "()Z"⟩, 20) := ⟨⟨by decide +kernel, by decide +kernel⟩, List.mem_of_getElem? (i := 26) (by decide +kernel), List.mem_of_getElem? (i := 930) (by decide +kernel), List.mem_of_getElem? (i := 931) (by decide +kernel)⟩
theorem lw_p27 : lw_okq (⟨"CrowdOut$World", "isStuck", "()Z"⟩, 20) := ⟨⟨by decide +kernel, by decide +kernel⟩, List.mem_of_getElem? (i := 26) (by decide +kernel), List.mem_of_getElem? (i := 939) (by decide +kernel), List.mem_of_getElem? (i := 940) (by decide +kernel)⟩
theorem lw_p28 : lw_okq (⟨"CrowdOut$World", "allOnWay", "()I"⟩, 20) := ⟨⟨by decide +kernel, by decide +kernel⟩, List.mem_of_getElem? (i := 26) (by decide +kernel), List.mem_of_getElem? (i := 943) (by decide +kernel), List.mem_of_getElem? (i := 944) (by decide +kernel)⟩
theorem lw_p29 : lw_okq (⟨"CrowdOut", "isEnough", "(III)Z"⟩, 18) := ⟨⟨by decide +kernel, by decide +kernel⟩, List.mem_of_getElem? (i := 18) (by decide +kernel), List.mem_of_getElem? (i := 970) (by decide +kernel), List.mem_of_getElem? (i := 971) (by decide +kernel)⟩
theorem lw_p30 : lw_okq (⟨"CrowdOutModel", "no", "(I)I"⟩, 75) := ⟨⟨by decide +kernel, by decide +kernel⟩, List.mem_of_getElem? (i := 998) (by decide +kernel), List.mem_of_getElem? (i := 1236) (by decide +kernel), List.mem_of_getElem? (i := 1237) (by decide +kernel)⟩
theorem lw_p31 : lw_okq (⟨"CrowdOutModel", "isArea", "(I)Z"⟩, 75) := ⟨⟨by decide +kernel, by decide +kernel⟩, List.mem_of_getElem? (i := 998) (by decide +kernel), List.mem_of_getElem? (i := 1244) (by decide +kernel), List.mem_of_getElem? (i := 1245) (by decide +kernel)⟩
def lw_privs_2 : List (MethodName × Nat) := [(⟨"CrowdOut$Reader", "fail", "()V"⟩, 9), (⟨"CrowdOut$Reader", "step", "()V"⟩, 9), (⟨"CrowdOut$Reader", "put", "(II)V"⟩, 9), (⟨"CrowdOut$Reader", "stepOver", "(I)V"⟩, 9), (⟨"CrowdOut$Reader", "readSum", "()V"⟩, 9), (⟨"CrowdOut$Reader", "readUnit", "()V"⟩, 9), (⟨"CrowdOut$Reader", "readDigits", "(II)I"⟩, 9), (⟨"CrowdOut$Reader", "readAct", "()V"⟩, 9), (⟨"CrowdOut", "emptiedRow", "(II)I"⟩, 18), (⟨"CrowdOut$World", "copyGround", "(LCrowdOut$World;)V"⟩, 20), (⟨"CrowdOut$World", "isOver", "()Z"⟩, 20), (⟨"CrowdOut$World", "isStuck", "()Z"⟩, 20), (⟨"CrowdOut$World", "allOnWay", "()I"⟩, 20), (⟨"CrowdOut", "isEnough", "(III)Z"⟩, 18), (⟨"CrowdOutModel", "no", "(I)I"⟩, 75), (⟨"CrowdOutModel", "isArea", "(I)Z"⟩, 75)]
theorem lw_r2 : ∀ q ∈ lw_privs_2, lw_okq q := List.forall_mem_cons.mpr ⟨lw_p16, List.forall_mem_cons.mpr ⟨lw_p17, List.forall_mem_cons.mpr ⟨lw_p18, List.forall_mem_cons.mpr ⟨lw_p19, List.forall_mem_cons.mpr ⟨lw_p20, List.forall_mem_cons.mpr ⟨lw_p21, List.forall_mem_cons.mpr ⟨lw_p22, List.forall_mem_cons.mpr ⟨lw_p23, List.forall_mem_cons.mpr ⟨lw_p24, List.forall_mem_cons.mpr ⟨lw_p25, List.forall_mem_cons.mpr ⟨lw_p26, List.forall_mem_cons.mpr ⟨lw_p27, List.forall_mem_cons.mpr ⟨lw_p28, List.forall_mem_cons.mpr ⟨lw_p29, List.forall_mem_cons.mpr ⟨lw_p30, List.forall_mem_cons.mpr ⟨lw_p31, fun _ h => absurd h List.not_mem_nil⟩⟩⟩⟩⟩⟩⟩⟩⟩⟩⟩⟩⟩⟩⟩⟩
theorem lw_p32 : lw_okq (⟨"CrowdOutModel", "barred", "(III)I"⟩, 75) := ⟨⟨by decide +kernel, by decide +kernel⟩, List.mem_of_getElem? (i := 998) (by decide +kernel), List.mem_of_getElem? (i := 1252) (by decide +kernel), List.mem_of_getElem? (i := 1253) (by decide +kernel)⟩
theorem lw_p33 : lw_okq (⟨"CrowdOutModel", "isLink", "(I)Z"⟩, 75) := ⟨⟨by decide +kernel, by decide +kernel⟩, List.mem_of_getElem? (i := 998) (by decide +kernel), List.mem_of_getElem? (i := 1256) (by decide +kernel), List.mem_of_getElem? (i := 1257) (by decide +kernel)⟩
theorem lw_p34 : lw_okq (⟨"CrowdOutModel", "addHeads", "(II)V"⟩, 75) := ⟨⟨by decide +kernel, by decide +kernel⟩, List.mem_of_getElem? (i := 998) (by decide +kernel), List.mem_of_getElem? (i := 1264) (by decide +kernel), List.mem_of_getElem? (i := 1265) (by decide +kernel)⟩
theorem lw_p35 : lw_okq (⟨"CrowdOutModel", "pressOf", "(I)I"⟩, 75) := ⟨⟨by decide +kernel, by decide +kernel⟩, List.mem_of_getElem? (i := 998) (by decide +kernel), List.mem_of_getElem? (i := 1268) (by decide +kernel), List.mem_of_getElem? (i := 1269) (by decide +kernel)⟩
theorem lw_p36 : lw_okq (⟨"CrowdOutModel", "isTrain", "(I)Z"⟩, 75) := ⟨⟨by decide +kernel, by decide +kernel⟩, List.mem_of_getElem? (i := 998) (by decide +kernel), List.mem_of_getElem? (i := 1280) (by decide +kernel), List.mem_of_getElem? (i := 1281) (by decide +kernel)⟩
theorem lw_p37 : lw_okq (⟨"CrowdOutModel", "wayOn", "(IIZ)I"⟩, 75) := ⟨⟨by decide +kernel, by decide +kernel⟩, List.mem_of_getElem? (i := 998) (by decide +kernel), List.mem_of_getElem? (i := 1292) (by decide +kernel), List.mem_of_getElem? (i := 1293) (by decide +kernel)⟩
theorem lw_p38 : lw_okq (⟨"CrowdOutModel", "far", "(IZ)I"⟩, 75) := ⟨⟨by decide +kernel, by decide +kernel⟩, List.mem_of_getElem? (i := 998) (by decide +kernel), List.mem_of_getElem? (i := 1296) (by decide +kernel), List.mem_of_getElem? (i := 1297) (by decide +kernel)⟩
theorem lw_p39 : lw_okq (⟨"CrowdOutModel", "lower", "(IIIZ)Z"⟩, 75) := ⟨⟨by decide +kernel, by decide +kernel⟩, List.mem_of_getElem? (i := 998) (by decide +kernel), List.mem_of_getElem? (i := 1300) (by decide +kernel), List.mem_of_getElem? (i := 1301) (by decide +kernel)⟩
theorem lw_p40 : lw_okq (⟨"CrowdOutModel", "endOf", "(II)I"⟩, 75) := ⟨⟨by decide +kernel, by decide +kernel⟩, List.mem_of_getElem? (i := 998) (by decide +kernel), List.mem_of_getElem? (i := 1304) (by decide +kernel), List.mem_of_getElem? (i := 1305) (by decide +kernel)⟩
theorem lw_p41 : lw_okq (⟨"CrowdOutModel", "goes", "(IIZ)Z"⟩, 75) := ⟨⟨by decide +kernel, by decide +kernel⟩, List.mem_of_getElem? (i := 998) (by decide +kernel), List.mem_of_getElem? (i := 1308) (by decide +kernel), List.mem_of_getElem? (i := 1309) (by decide +kernel)⟩
theorem lw_p42 : lw_okq (⟨"CrowdOutModel", "timeOf", "(II)I"⟩, 75) := ⟨⟨by decide +kernel, by decide +kernel⟩, List.mem_of_getElem? (i := 998) (by decide +kernel), List.mem_of_getElem? (i := 1312) (by decide +kernel), List.mem_of_getElem? (i := 1313) (by decide +kernel)⟩
theorem lw_p43 : lw_okq (⟨"CrowdOutModel", "pass", "()I"⟩, 75) := ⟨⟨by decide +kernel, by decide +kernel⟩, List.mem_of_getElem? (i := 998) (by decide +kernel), List.mem_of_getElem? (i := 1324) (by decide +kernel), List.mem_of_getElem? (i := 1325) (by decide +kernel)⟩
theorem lw_p44 : lw_okq (⟨"CrowdOutModel", "hear", "()V"⟩, 75) := ⟨⟨by decide +kernel, by decide +kernel⟩, List.mem_of_getElem? (i := 998) (by decide +kernel), List.mem_of_getElem? (i := 1328) (by decide +kernel), List.mem_of_getElem? (i := 1329) (by decide +kernel)⟩
theorem lw_p45 : lw_okq (⟨"CrowdOutModel", "isFolk", "(I)Z"⟩, 75) := ⟨⟨by decide +kernel, by decide +kernel⟩, List.mem_of_getElem? (i := 998) (by decide +kernel), List.mem_of_getElem? (i := 1332) (by decide +kernel), List.mem_of_getElem? (i := 1333) (by decide +kernel)⟩
theorem lw_p46 : lw_okq (⟨"CrowdOutModel", "arrive", "()I"⟩, 75) := ⟨⟨by decide +kernel, by decide +kernel⟩, List.mem_of_getElem? (i := 998) (by decide +kernel), List.mem_of_getElem? (i := 1336) (by decide +kernel), List.mem_of_getElem? (i := 1337) (by decide +kernel)⟩
theorem lw_p47 : lw_okq (⟨"CrowdOutModel", "comeIn", "(III)I"⟩, 75) := ⟨⟨by decide +kernel, by decide +kernel⟩, List.mem_of_getElem? (i := 998) (by decide +kernel), List.mem_of_getElem? (i := 1340) (by decide +kernel), List.mem_of_getElem? (i := 1341) (by decide +kernel)⟩
def lw_privs_3 : List (MethodName × Nat) := [(⟨"CrowdOutModel", "barred", "(III)I"⟩, 75), (⟨"CrowdOutModel", "isLink", "(I)Z"⟩, 75), (⟨"CrowdOutModel", "addHeads", "(II)V"⟩, 75), (⟨"CrowdOutModel", "pressOf", "(I)I"⟩, 75), (⟨"CrowdOutModel", "isTrain", "(I)Z"⟩, 75), (⟨"CrowdOutModel", "wayOn", "(IIZ)I"⟩, 75), (⟨"CrowdOutModel", "far", "(IZ)I"⟩, 75), (⟨"CrowdOutModel", "lower", "(IIIZ)Z"⟩, 75), (⟨"CrowdOutModel", "endOf", "(II)I"⟩, 75), (⟨"CrowdOutModel", "goes", "(IIZ)Z"⟩, 75), (⟨"CrowdOutModel", "timeOf", "(II)I"⟩, 75), (⟨"CrowdOutModel", "pass", "()I"⟩, 75), (⟨"CrowdOutModel", "hear", "()V"⟩, 75), (⟨"CrowdOutModel", "isFolk", "(I)Z"⟩, 75), (⟨"CrowdOutModel", "arrive", "()I"⟩, 75), (⟨"CrowdOutModel", "comeIn", "(III)I"⟩, 75)]
theorem lw_r3 : ∀ q ∈ lw_privs_3, lw_okq q := List.forall_mem_cons.mpr ⟨lw_p32, List.forall_mem_cons.mpr ⟨lw_p33, List.forall_mem_cons.mpr ⟨lw_p34, List.forall_mem_cons.mpr ⟨lw_p35, List.forall_mem_cons.mpr ⟨lw_p36, List.forall_mem_cons.mpr ⟨lw_p37, List.forall_mem_cons.mpr ⟨lw_p38, List.forall_mem_cons.mpr ⟨lw_p39, List.forall_mem_cons.mpr ⟨lw_p40, List.forall_mem_cons.mpr ⟨lw_p41, List.forall_mem_cons.mpr ⟨lw_p42, List.forall_mem_cons.mpr ⟨lw_p43, List.forall_mem_cons.mpr ⟨lw_p44, List.forall_mem_cons.mpr ⟨lw_p45, List.forall_mem_cons.mpr ⟨lw_p46, List.forall_mem_cons.mpr ⟨lw_p47, fun _ h => absurd h List.not_mem_nil⟩⟩⟩⟩⟩⟩⟩⟩⟩⟩⟩⟩⟩⟩⟩⟩
theorem lw_p48 : lw_okq (⟨"CrowdOutModel", "wayAt", "(IIII)I"⟩, 75) := ⟨⟨by decide +kernel, by decide +kernel⟩, List.mem_of_getElem? (i := 998) (by decide +kernel), List.mem_of_getElem? (i := 1344) (by decide +kernel), List.mem_of_getElem? (i := 1345) (by decide +kernel)⟩
theorem lw_p49 : lw_okq (⟨"CrowdOutModel", "goOn", "(II)V"⟩, 75) := ⟨⟨by decide +kernel, by decide +kernel⟩, List.mem_of_getElem? (i := 998) (by decide +kernel), List.mem_of_getElem? (i := 1348) (by decide +kernel), List.mem_of_getElem? (i := 1349) (by decide +kernel)⟩
theorem lw_p50 : lw_okq (⟨"CrowdOutModel", "pushes", "()V"⟩, 75) := ⟨⟨by decide +kernel, by decide +kernel⟩, List.mem_of_getElem? (i := 998) (by decide +kernel), List.mem_of_getElem? (i := 1353) (by decide +kernel), List.mem_of_getElem? (i := 1354) (by decide +kernel)⟩
theorem lw_p51 : lw_okq (⟨"CrowdOutModel", "carry", "()V"⟩, 75) := ⟨⟨by decide +kernel, by decide +kernel⟩, List.mem_of_getElem? (i := 998) (by decide +kernel), List.mem_of_getElem? (i := 1357) (by decide +kernel), List.mem_of_getElem? (i := 1358) (by decide +kernel)⟩
theorem lw_p52 : lw_okq (⟨"CrowdOutModel", "ask", "()V"⟩, 75) := ⟨⟨by decide +kernel, by decide +kernel⟩, List.mem_of_getElem? (i := 998) (by decide +kernel), List.mem_of_getElem? (i := 1361) (by decide +kernel), List.mem_of_getElem? (i := 1362) (by decide +kernel)⟩
theorem lw_p53 : lw_okq (⟨"CrowdOutModel", "wordsHold", "(I)Z"⟩, 75) := ⟨⟨by decide +kernel, by decide +kernel⟩, List.mem_of_getElem? (i := 998) (by decide +kernel), List.mem_of_getElem? (i := 1365) (by decide +kernel), List.mem_of_getElem? (i := 1366) (by decide +kernel)⟩
theorem lw_p54 : lw_okq (⟨"CrowdOutModel", "test", "(IZ)V"⟩, 75) := ⟨⟨by decide +kernel, by decide +kernel⟩, List.mem_of_getElem? (i := 998) (by decide +kernel), List.mem_of_getElem? (i := 1369) (by decide +kernel), List.mem_of_getElem? (i := 1370) (by decide +kernel)⟩
theorem lw_p55 : lw_okq (⟨"CrowdOutModel", "sum", "(I)I"⟩, 75) := ⟨⟨by decide +kernel, by decide +kernel⟩, List.mem_of_getElem? (i := 998) (by decide +kernel), List.mem_of_getElem? (i := 1373) (by decide +kernel), List.mem_of_getElem? (i := 1374) (by decide +kernel)⟩
theorem lw_p56 : lw_okq (⟨"CrowdOutModel", "unit", "(I)I"⟩, 75) := ⟨⟨by decide +kernel, by decide +kernel⟩, List.mem_of_getElem? (i := 998) (by decide +kernel), List.mem_of_getElem? (i := 1377) (by decide +kernel), List.mem_of_getElem? (i := 1378) (by decide +kernel)⟩
theorem lw_p57 : lw_okq (⟨"CrowdOutModel", "isOf", "(I)Z"⟩, 75) := ⟨⟨by decide +kernel, by decide +kernel⟩, List.mem_of_getElem? (i := 998) (by decide +kernel), List.mem_of_getElem? (i := 1381) (by decide +kernel), List.mem_of_getElem? (i := 1382) (by decide +kernel)⟩
theorem lw_p58 : lw_okq (⟨"CrowdOutModel", "twoDigits", "(I)I"⟩, 75) := ⟨⟨by decide +kernel, by decide +kernel⟩, List.mem_of_getElem? (i := 998) (by decide +kernel), List.mem_of_getElem? (i := 1385) (by decide +kernel), List.mem_of_getElem? (i := 1386) (by decide +kernel)⟩
theorem lw_p59 : lw_okq (⟨"CrowdOutModel", "give", "(I)V"⟩, 75) := ⟨⟨by decide +kernel, by decide +kernel⟩, List.mem_of_getElem? (i := 998) (by decide +kernel), List.mem_of_getElem? (i := 1389) (by decide +kernel), List.mem_of_getElem? (i := 1390) (by decide +kernel)⟩
theorem lw_p60 : lw_okq (⟨"CrowdOutModel", "onLink", "(II)I"⟩, 75) := ⟨⟨by decide +kernel, by decide +kernel⟩, List.mem_of_getElem? (i := 998) (by decide +kernel), List.mem_of_getElem? (i := 1401) (by decide +kernel), List.mem_of_getElem? (i := 1402) (by decide +kernel)⟩
theorem lw_p61 : lw_okq (⟨"CrowdOutModel", "fault", "()I"⟩, 75) := ⟨⟨by decide +kernel, by decide +kernel⟩, List.mem_of_getElem? (i := 998) (by decide +kernel), List.mem_of_getElem? (i := 1417) (by decide +kernel), List.mem_of_getElem? (i := 1418) (by decide +kernel)⟩
theorem lw_p62 : lw_okq (⟨"CrowdOutModel", "byteOf", "(I)I"⟩, 75) := ⟨⟨by decide +kernel, by decide +kernel⟩, List.mem_of_getElem? (i := 998) (by decide +kernel), List.mem_of_getElem? (i := 1421) (by decide +kernel), List.mem_of_getElem? (i := 1422) (by decide +kernel)⟩
theorem lw_p63 : lw_okq (⟨"CrowdOutModel", "behind", "(I)I"⟩, 75) := ⟨⟨by decide +kernel, by decide +kernel⟩, List.mem_of_getElem? (i := 998) (by decide +kernel), List.mem_of_getElem? (i := 1425) (by decide +kernel), List.mem_of_getElem? (i := 1426) (by decide +kernel)⟩
def lw_privs_4 : List (MethodName × Nat) := [(⟨"CrowdOutModel", "wayAt", "(IIII)I"⟩, 75), (⟨"CrowdOutModel", "goOn", "(II)V"⟩, 75), (⟨"CrowdOutModel", "pushes", "()V"⟩, 75), (⟨"CrowdOutModel", "carry", "()V"⟩, 75), (⟨"CrowdOutModel", "ask", "()V"⟩, 75), (⟨"CrowdOutModel", "wordsHold", "(I)Z"⟩, 75), (⟨"CrowdOutModel", "test", "(IZ)V"⟩, 75), (⟨"CrowdOutModel", "sum", "(I)I"⟩, 75), (⟨"CrowdOutModel", "unit", "(I)I"⟩, 75), (⟨"CrowdOutModel", "isOf", "(I)Z"⟩, 75), (⟨"CrowdOutModel", "twoDigits", "(I)I"⟩, 75), (⟨"CrowdOutModel", "give", "(I)V"⟩, 75), (⟨"CrowdOutModel", "onLink", "(II)I"⟩, 75), (⟨"CrowdOutModel", "fault", "()I"⟩, 75), (⟨"CrowdOutModel", "byteOf", "(I)I"⟩, 75), (⟨"CrowdOutModel", "behind", "(I)I"⟩, 75)]
theorem lw_r4 : ∀ q ∈ lw_privs_4, lw_okq q := List.forall_mem_cons.mpr ⟨lw_p48, List.forall_mem_cons.mpr ⟨lw_p49, List.forall_mem_cons.mpr ⟨lw_p50, List.forall_mem_cons.mpr ⟨lw_p51, List.forall_mem_cons.mpr ⟨lw_p52, List.forall_mem_cons.mpr ⟨lw_p53, List.forall_mem_cons.mpr ⟨lw_p54, List.forall_mem_cons.mpr ⟨lw_p55, List.forall_mem_cons.mpr ⟨lw_p56, List.forall_mem_cons.mpr ⟨lw_p57, List.forall_mem_cons.mpr ⟨lw_p58, List.forall_mem_cons.mpr ⟨lw_p59, List.forall_mem_cons.mpr ⟨lw_p60, List.forall_mem_cons.mpr ⟨lw_p61, List.forall_mem_cons.mpr ⟨lw_p62, List.forall_mem_cons.mpr ⟨lw_p63, fun _ h => absurd h List.not_mem_nil⟩⟩⟩⟩⟩⟩⟩⟩⟩⟩⟩⟩⟩⟩⟩⟩
theorem lw_p64 : lw_okq (⟨"CrowdOutModel", "isDigit", "(I)Z"⟩, 75) := ⟨⟨by decide +kernel, by decide +kernel⟩, List.mem_of_getElem? (i := 998) (by decide +kernel), List.mem_of_getElem? (i := 1429) (by decide +kernel), List.mem_of_getElem? (i := 1430) (by decide +kernel)⟩
theorem lw_p65 : lw_okq (⟨"CrowdOutModel", "isAct", "(I)Z"⟩, 75) := ⟨⟨by decide +kernel, by decide +kernel⟩, List.mem_of_getElem? (i := 998) (by decide +kernel), List.mem_of_getElem? (i := 1433) (by decide +kernel), List.mem_of_getElem? (i := 1434) (by decide +kernel)⟩
theorem lw_p66 : lw_okq (⟨"CrowdOutModel", "isOrder", "(I)Z"⟩, 75) := ⟨⟨by decide +kernel, by decide +kernel⟩, List.mem_of_getElem? (i := 998) (by decide +kernel), List.mem_of_getElem? (i := 1441) (by decide +kernel), List.mem_of_getElem? (i := 1442) (by decide +kernel)⟩
theorem lw_p67 : lw_okq (⟨"CrowdOutModel", "countOf", "(III)I"⟩, 75) := ⟨⟨by decide +kernel, by decide +kernel⟩, List.mem_of_getElem? (i := 998) (by decide +kernel), List.mem_of_getElem? (i := 1462) (by decide +kernel), List.mem_of_getElem? (i := 1463) (by decide +kernel)⟩
theorem lw_p68 : lw_okq (⟨"CrowdOutModel", "empty", "(II)V"⟩, 75) := ⟨⟨by decide +kernel, by decide +kernel⟩, List.mem_of_getElem? (i := 998) (by decide +kernel), List.mem_of_getElem? (i := 1474) (by decide +kernel), List.mem_of_getElem? (i := 1475) (by decide +kernel)⟩
theorem lw_p69 : lw_okq (⟨"CrowdOutModel", "copyGround", "()V"⟩, 75) := ⟨⟨by decide +kernel, by decide +kernel⟩, List.mem_of_getElem? (i := 998) (by decide +kernel), List.mem_of_getElem? (i := 1478) (by decide +kernel), List.mem_of_getElem? (i := 1479) (by decide +kernel)⟩
theorem lw_p70 : lw_okq (⟨"CrowdOutModel", "isOver", "()Z"⟩, 75) := ⟨⟨by decide +kernel, by decide +kernel⟩, List.mem_of_getElem? (i := 998) (by decide +kernel), List.mem_of_getElem? (i := 1482) (by decide +kernel), List.mem_of_getElem? (i := 1483) (by decide +kernel)⟩
theorem lw_p71 : lw_okq (⟨"CrowdOutModel", "sizeOf", "(I)I"⟩, 75) := ⟨⟨by decide +kernel, by decide +kernel⟩, List.mem_of_getElem? (i := 998) (by decide +kernel), List.mem_of_getElem? (i := 1498) (by decide +kernel), List.mem_of_getElem? (i := 1499) (by decide +kernel)⟩
theorem lw_p72 : lw_okq (⟨"CrowdOutModel", "bears", "(III)Z"⟩, 75) := ⟨⟨by decide +kernel, by decide +kernel⟩, List.mem_of_getElem? (i := 998) (by decide +kernel), List.mem_of_getElem? (i := 1502) (by decide +kernel), List.mem_of_getElem? (i := 1503) (by decide +kernel)⟩
theorem lw_p73 : lw_okq (⟨"CrowdOutModel", "sumOf", "(I)I"⟩, 75) := ⟨⟨by decide +kernel, by decide +kernel⟩, List.mem_of_getElem? (i := 998) (by decide +kernel), List.mem_of_getElem? (i := 1510) (by decide +kernel), List.mem_of_getElem? (i := 1511) (by decide +kernel)⟩
def lw_privs_5 : List (MethodName × Nat) := [(⟨"CrowdOutModel", "isDigit", "(I)Z"⟩, 75), (⟨"CrowdOutModel", "isAct", "(I)Z"⟩, 75), (⟨"CrowdOutModel", "isOrder", "(I)Z"⟩, 75), (⟨"CrowdOutModel", "countOf", "(III)I"⟩, 75), (⟨"CrowdOutModel", "empty", "(II)V"⟩, 75), (⟨"CrowdOutModel", "copyGround", "()V"⟩, 75), (⟨"CrowdOutModel", "isOver", "()Z"⟩, 75), (⟨"CrowdOutModel", "sizeOf", "(I)I"⟩, 75), (⟨"CrowdOutModel", "bears", "(III)Z"⟩, 75), (⟨"CrowdOutModel", "sumOf", "(I)I"⟩, 75)]
theorem lw_r5 : ∀ q ∈ lw_privs_5, lw_okq q := List.forall_mem_cons.mpr ⟨lw_p64, List.forall_mem_cons.mpr ⟨lw_p65, List.forall_mem_cons.mpr ⟨lw_p66, List.forall_mem_cons.mpr ⟨lw_p67, List.forall_mem_cons.mpr ⟨lw_p68, List.forall_mem_cons.mpr ⟨lw_p69, List.forall_mem_cons.mpr ⟨lw_p70, List.forall_mem_cons.mpr ⟨lw_p71, List.forall_mem_cons.mpr ⟨lw_p72, List.forall_mem_cons.mpr ⟨lw_p73, fun _ h => absurd h List.not_mem_nil⟩⟩⟩⟩⟩⟩⟩⟩⟩⟩
def lw_privs : List (MethodName × Nat) := lw_privs_1 ++ (lw_privs_2 ++ (lw_privs_3 ++ (lw_privs_4 ++ (lw_privs_5))))
def lw_tbl : List Cond := k2_sels lw_privs ++ tables_1
theorem lw_privs_ok : ∀ q ∈ lw_privs, lw_okq q := by
  show ∀ q ∈ lw_privs_1 ++ (lw_privs_2 ++ (lw_privs_3 ++ (lw_privs_4 ++ (lw_privs_5)))), lw_okq q
  exact List.forall_mem_append.mpr ⟨lw_r1, List.forall_mem_append.mpr ⟨lw_r2, List.forall_mem_append.mpr ⟨lw_r3, List.forall_mem_append.mpr ⟨lw_r4, lw_r5⟩⟩⟩⟩
def RX0 : String := "CrowdOut$Area"
def TX0 : u_T := fun k => match k with
  | 0 => ("CrowdOut$Area", "kind", "I", true)
  | 1 => ("CrowdOut$Area", "room", "I", true)
  | 2 => ("CrowdOut$Area", "heads", "I", false)
  | 3 => ("CrowdOut$Area", "coming", "I", false)
  | 4 => ("CrowdOut$Area", "waits", "I", false)
  | 5 => ("CrowdOut$Area", "push", "I", false)
  | 6 => ("CrowdOut$Area", "fell", "I", false)
  | 7 => ("CrowdOut$Area", "peak", "I", false)
  | 8 => ("CrowdOut$Area", "firstFell", "I", false)
  | _ => ("CrowdOut$Area", "tight", "Z", false)
def tyX0 : Nat → FieldType := fun k => match k with
  | 0 => .int
  | 1 => .int
  | 2 => .int
  | 3 => .int
  | 4 => .int
  | 5 => .int
  | 6 => .int
  | 7 => .int
  | 8 => .int
  | _ => .boolean
theorem nmX0 : ∀ a, a < 10 → ∀ b, b < 10 → a ≠ b → (TX0 a).2.1 ≠ (TX0 b).2.1 := by decide +kernel
theorem tyX0_ok : ∀ k, k < 10 → parseFieldDescriptor (TX0 k).2.2.1 = some (tyX0 k) := by decide +kernel
def RX1 : String := "CrowdOut$Folk"
def TX1 : u_T := fun k => match k with
  | 0 => ("CrowdOut$Folk", "home", "I", true)
  | 1 => ("CrowdOut$Folk", "heads", "I", true)
  | 2 => ("CrowdOut$Folk", "goal", "I", true)
  | 3 => ("CrowdOut$Folk", "kind", "I", true)
  | 4 => ("CrowdOut$Folk", "turned", "Z", false)
  | 5 => ("CrowdOut$Folk", "in", "[I", true)
  | 6 => ("CrowdOut$Folk", "came", "[I", true)
  | 7 => ("CrowdOut$Folk", "inAreas", "I", false)
  | 8 => ("CrowdOut$Folk", "outs", "I", false)
  | _ => ("CrowdOut$Folk", "lastOut", "I", false)
def tyX1 : Nat → FieldType := fun k => match k with
  | 0 => .int
  | 1 => .int
  | 2 => .int
  | 3 => .int
  | 4 => .boolean
  | 5 => .array .int
  | 6 => .array .int
  | 7 => .int
  | 8 => .int
  | _ => .int
theorem nmX1 : ∀ a, a < 10 → ∀ b, b < 10 → a ≠ b → (TX1 a).2.1 ≠ (TX1 b).2.1 := by decide +kernel
theorem tyX1_ok : ∀ k, k < 10 → parseFieldDescriptor (TX1 k).2.2.1 = some (tyX1 k) := by decide +kernel
def RX2 : String := "CrowdOut$Given"
def TX2 : u_T := fun k => match k with
  | 0 => ("CrowdOut$Given", "order", "[I", true)
  | 1 => ("CrowdOut$Given", "tick", "[I", true)
  | 2 => ("CrowdOut$Given", "act", "[I", true)
  | 3 => ("CrowdOut$Given", "number", "[I", true)
  | 4 => ("CrowdOut$Given", "heard", "[I", true)
  | 5 => ("CrowdOut$Given", "length", "I", false)
  | _ => ("CrowdOut$Given", "firstUnheard", "I", false)
def tyX2 : Nat → FieldType := fun k => match k with
  | 0 => .array .int
  | 1 => .array .int
  | 2 => .array .int
  | 3 => .array .int
  | 4 => .array .int
  | 5 => .int
  | _ => .int
theorem nmX2 : ∀ a, a < 7 → ∀ b, b < 7 → a ≠ b → (TX2 a).2.1 ≠ (TX2 b).2.1 := by decide +kernel
theorem tyX2_ok : ∀ k, k < 7 → parseFieldDescriptor (TX2 k).2.2.1 = some (tyX2 k) := by decide +kernel
def RX3 : String := "CrowdOut$Link"
def TX3 : u_T := fun k => match k with
  | 0 => ("CrowdOut$Link", "a", "I", true)
  | 1 => ("CrowdOut$Link", "b", "I", true)
  | 2 => ("CrowdOut$Link", "far", "I", true)
  | 3 => ("CrowdOut$Link", "setting", "[I", true)
  | 4 => ("CrowdOut$Link", "went", "I", false)
  | 5 => ("CrowdOut$Link", "way", "[I", true)
  | 6 => ("CrowdOut$Link", "wayAll", "[I", true)
  | _ => ("CrowdOut$Link", "history", "[I", false)
def tyX3 : Nat → FieldType := fun k => match k with
  | 0 => .int
  | 1 => .int
  | 2 => .int
  | 3 => .array .int
  | 4 => .int
  | 5 => .array .int
  | 6 => .array .int
  | _ => .array .int
theorem nmX3 : ∀ a, a < 8 → ∀ b, b < 8 → a ≠ b → (TX3 a).2.1 ≠ (TX3 b).2.1 := by decide +kernel
theorem tyX3_ok : ∀ k, k < 8 → parseFieldDescriptor (TX3 k).2.2.1 = some (tyX3 k) := by decide +kernel
def RX4 : String := "CrowdOut$Order"
def TX4 : u_T := fun k => match k with
  | 0 => ("CrowdOut$Order", "tests", "[I", true)
  | 1 => ("CrowdOut$Order", "acts", "[I", true)
  | _ => ("CrowdOut$Order", "stands", "Z", false)
def tyX4 : Nat → FieldType := fun k => match k with
  | 0 => .array .int
  | 1 => .array .int
  | _ => .boolean
theorem nmX4 : ∀ a, a < 3 → ∀ b, b < 3 → a ≠ b → (TX4 a).2.1 ≠ (TX4 b).2.1 := by decide +kernel
theorem tyX4_ok : ∀ k, k < 3 → parseFieldDescriptor (TX4 k).2.2.1 = some (tyX4 k) := by decide +kernel
def RX5 : String := "CrowdOut$Reader"
def TX5 : u_T := fun k => match k with
  | 0 => ("CrowdOut$Reader", "tape", "[I", true)
  | 1 => ("CrowdOut$Reader", "length", "I", false)
  | 2 => ("CrowdOut$Reader", "fault", "I", false)
  | 3 => ("CrowdOut$Reader", "at", "I", false)
  | 4 => ("CrowdOut$Reader", "sign", "I", false)
  | 5 => ("CrowdOut$Reader", "tests", "[I", true)
  | 6 => ("CrowdOut$Reader", "testCount", "I", false)
  | 7 => ("CrowdOut$Reader", "acts", "[I", true)
  | _ => ("CrowdOut$Reader", "actCount", "I", false)
def tyX5 : Nat → FieldType := fun k => match k with
  | 0 => .array .int
  | 1 => .int
  | 2 => .int
  | 3 => .int
  | 4 => .int
  | 5 => .array .int
  | 6 => .int
  | 7 => .array .int
  | _ => .int
theorem nmX5 : ∀ a, a < 9 → ∀ b, b < 9 → a ≠ b → (TX5 a).2.1 ≠ (TX5 b).2.1 := by decide +kernel
theorem tyX5_ok : ∀ k, k < 9 → parseFieldDescriptor (TX5 k).2.2.1 = some (tyX5 k) := by decide +kernel
def RX6 : String := "CrowdOut$Tellings"
def TX6 : u_T := fun k => match k with
  | 0 => ("CrowdOut$Tellings", "link", "[I", true)
  | 1 => ("CrowdOut$Tellings", "tick", "[I", true)
  | 2 => ("CrowdOut$Tellings", "told", "[I", true)
  | 3 => ("CrowdOut$Tellings", "heads", "[I", true)
  | _ => ("CrowdOut$Tellings", "length", "I", false)
def tyX6 : Nat → FieldType := fun k => match k with
  | 0 => .array .int
  | 1 => .array .int
  | 2 => .array .int
  | 3 => .array .int
  | _ => .int
theorem nmX6 : ∀ a, a < 5 → ∀ b, b < 5 → a ≠ b → (TX6 a).2.1 ≠ (TX6 b).2.1 := by decide +kernel
theorem tyX6_ok : ∀ k, k < 5 → parseFieldDescriptor (TX6 k).2.2.1 = some (tyX6 k) := by decide +kernel
def RX7 : String := "CrowdOut$Train"
def TX7 : u_T := fun k => match k with
  | 0 => ("CrowdOut$Train", "area", "I", true)
  | 1 => ("CrowdOut$Train", "first", "I", true)
  | 2 => ("CrowdOut$Train", "every", "I", true)
  | 3 => ("CrowdOut$Train", "takes", "I", true)
  | 4 => ("CrowdOut$Train", "taken", "I", false)
  | _ => ("CrowdOut$Train", "held", "Z", false)
def tyX7 : Nat → FieldType := fun k => match k with
  | 0 => .int
  | 1 => .int
  | 2 => .int
  | 3 => .int
  | 4 => .int
  | _ => .boolean
theorem nmX7 : ∀ a, a < 6 → ∀ b, b < 6 → a ≠ b → (TX7 a).2.1 ≠ (TX7 b).2.1 := by decide +kernel
theorem tyX7_ok : ∀ k, k < 6 → parseFieldDescriptor (TX7 k).2.2.1 = some (tyX7 k) := by decide +kernel
def RX8 : String := "CrowdOut$Ways"
def TX8 : u_T := fun k => match k with
  | 0 => ("CrowdOut$Ways", "time", "[I", true)
  | 1 => ("CrowdOut$Ways", "first", "[I", true)
  | 2 => ("CrowdOut$Ways", "filled", "[I", true)
  | _ => ("CrowdOut$Ways", "filling", "I", false)
def tyX8 : Nat → FieldType := fun k => match k with
  | 0 => .array .int
  | 1 => .array .int
  | 2 => .array .int
  | _ => .int
theorem nmX8 : ∀ a, a < 4 → ∀ b, b < 4 → a ≠ b → (TX8 a).2.1 ≠ (TX8 b).2.1 := by decide +kernel
theorem tyX8_ok : ∀ k, k < 4 → parseFieldDescriptor (TX8 k).2.2.1 = some (tyX8 k) := by decide +kernel
def RX9 : String := "CrowdOut$World"
def TX9 : u_T := fun k => match k with
  | 0 => ("CrowdOut$World", "areas", "[LCrowdOut$Area;", true)
  | 1 => ("CrowdOut$World", "areaCount", "I", false)
  | 2 => ("CrowdOut$World", "links", "[LCrowdOut$Link;", true)
  | 3 => ("CrowdOut$World", "linkCount", "I", false)
  | 4 => ("CrowdOut$World", "folks", "[LCrowdOut$Folk;", true)
  | 5 => ("CrowdOut$World", "folkCount", "I", false)
  | 6 => ("CrowdOut$World", "trains", "[LCrowdOut$Train;", true)
  | 7 => ("CrowdOut$World", "trainCount", "I", false)
  | 8 => ("CrowdOut$World", "orders", "[LCrowdOut$Order;", false)
  | 9 => ("CrowdOut$World", "orderCount", "I", false)
  | 10 => ("CrowdOut$World", "held", "[Z", true)
  | 11 => ("CrowdOut$World", "given", "LCrowdOut$Given;", true)
  | 12 => ("CrowdOut$World", "ways", "LCrowdOut$Ways;", true)
  | 13 => ("CrowdOut$World", "rule", "[I", true)
  | 14 => ("CrowdOut$World", "tick", "I", false)
  | 15 => ("CrowdOut$World", "block", "I", false)
  | 16 => ("CrowdOut$World", "topPress", "I", false)
  | 17 => ("CrowdOut$World", "topArea", "I", false)
  | 18 => ("CrowdOut$World", "arrived", "Z", false)
  | _ => ("CrowdOut$World", "stack", "[I", true)
def tyX9 : Nat → FieldType := fun k => match k with
  | 0 => .array (.object "CrowdOut$Area")
  | 1 => .int
  | 2 => .array (.object "CrowdOut$Link")
  | 3 => .int
  | 4 => .array (.object "CrowdOut$Folk")
  | 5 => .int
  | 6 => .array (.object "CrowdOut$Train")
  | 7 => .int
  | 8 => .array (.object "CrowdOut$Order")
  | 9 => .int
  | 10 => .array .boolean
  | 11 => .object "CrowdOut$Given"
  | 12 => .object "CrowdOut$Ways"
  | 13 => .array .int
  | 14 => .int
  | 15 => .int
  | 16 => .int
  | 17 => .int
  | 18 => .boolean
  | _ => .array .int
theorem nmX9 : ∀ a, a < 20 → ∀ b, b < 20 → a ≠ b → (TX9 a).2.1 ≠ (TX9 b).2.1 := by decide +kernel
theorem tyX9_ok : ∀ k, k < 20 → parseFieldDescriptor (TX9 k).2.2.1 = some (tyX9 k) := by decide +kernel
def RX10 : String := "CrowdOut"
def TX10 : u_T := fun k => match k with
  | 0 => ("CrowdOut", "world", "LCrowdOut$World;", true)
  | 1 => ("CrowdOut", "trial", "LCrowdOut$World;", true)
  | 2 => ("CrowdOut", "reader", "LCrowdOut$Reader;", true)
  | 3 => ("CrowdOut", "tellings", "LCrowdOut$Tellings;", true)
  | 4 => ("CrowdOut", "refusals", "[I", true)
  | 5 => ("CrowdOut", "optionLink", "[I", true)
  | 6 => ("CrowdOut", "optionWhat", "[I", true)
  | 7 => ("CrowdOut", "optionValue", "[I", true)
  | 8 => ("CrowdOut", "options", "I", false)
  | 9 => ("CrowdOut", "stamp", "I", false)
  | 10 => ("CrowdOut", "emptied", "[I", true)
  | 11 => ("CrowdOut", "emptiedStamp", "[I", true)
  | 12 => ("CrowdOut", "designStamp", "I", false)
  | 13 => ("CrowdOut", "designTicks", "I", false)
  | 14 => ("CrowdOut", "designPress", "I", false)
  | 15 => ("CrowdOut", "designBits", "I", false)
  | 16 => ("CrowdOut", "designWorstTicks", "I", false)
  | _ => ("CrowdOut", "designWorstPress", "I", false)
def tyX10 : Nat → FieldType := fun k => match k with
  | 0 => .object "CrowdOut$World"
  | 1 => .object "CrowdOut$World"
  | 2 => .object "CrowdOut$Reader"
  | 3 => .object "CrowdOut$Tellings"
  | 4 => .array .int
  | 5 => .array .int
  | 6 => .array .int
  | 7 => .array .int
  | 8 => .int
  | 9 => .int
  | 10 => .array .int
  | 11 => .array .int
  | 12 => .int
  | 13 => .int
  | 14 => .int
  | 15 => .int
  | 16 => .int
  | _ => .int
theorem nmX10 : ∀ a, a < 18 → ∀ b, b < 18 → a ≠ b → (TX10 a).2.1 ≠ (TX10 b).2.1 := by decide +kernel
theorem tyX10_ok : ∀ k, k < 18 → parseFieldDescriptor (TX10 k).2.2.1 = some (tyX10 k) := by decide +kernel
def RX11 : String := "CrowdOutModel"
def TX11 : u_T := fun k => match k with
  | 0 => ("CrowdOutModel", "z", "I", false)
  | 1 => ("CrowdOutModel", "tickNow", "[I", true)
  | 2 => ("CrowdOutModel", "areas", "I", false)
  | 3 => ("CrowdOutModel", "arKind", "[I", true)
  | 4 => ("CrowdOutModel", "arRoom", "[I", true)
  | 5 => ("CrowdOutModel", "headsIn", "[I", true)
  | 6 => ("CrowdOutModel", "toward", "[I", true)
  | 7 => ("CrowdOutModel", "waits", "[I", true)
  | 8 => ("CrowdOutModel", "push", "[I", true)
  | 9 => ("CrowdOutModel", "fell", "[I", true)
  | 10 => ("CrowdOutModel", "topPress", "[I", true)
  | 11 => ("CrowdOutModel", "firstFell", "[I", true)
  | 12 => ("CrowdOutModel", "links", "I", false)
  | 13 => ("CrowdOutModel", "liA", "[I", true)
  | 14 => ("CrowdOutModel", "liB", "[I", true)
  | 15 => ("CrowdOutModel", "liFar", "[I", true)
  | 16 => ("CrowdOutModel", "liSet", "[I", true)
  | 17 => ("CrowdOutModel", "took", "[I", true)
  | 18 => ("CrowdOutModel", "folks", "I", false)
  | 19 => ("CrowdOutModel", "foHome", "[I", true)
  | 20 => ("CrowdOutModel", "foHeads", "[I", true)
  | 21 => ("CrowdOutModel", "foGoal", "[I", true)
  | 22 => ("CrowdOutModel", "foKind", "[I", true)
  | 23 => ("CrowdOutModel", "turned", "[Z", true)
  | 24 => ("CrowdOutModel", "outOf", "[I", true)
  | 25 => ("CrowdOutModel", "lastOut", "[I", true)
  | 26 => ("CrowdOutModel", "inArea", "[I", true)
  | 27 => ("CrowdOutModel", "came", "[I", true)
  | 28 => ("CrowdOutModel", "onWay", "[I", true)
  | 29 => ("CrowdOutModel", "trains", "I", false)
  | 30 => ("CrowdOutModel", "trArea", "[I", true)
  | 31 => ("CrowdOutModel", "trFirst", "[I", true)
  | 32 => ("CrowdOutModel", "trEvery", "[I", true)
  | 33 => ("CrowdOutModel", "trTakes", "[I", true)
  | 34 => ("CrowdOutModel", "held", "[Z", true)
  | 35 => ("CrowdOutModel", "taken", "[I", true)
  | 36 => ("CrowdOutModel", "pace", "I", false)
  | 37 => ("CrowdOutModel", "tight", "I", false)
  | 38 => ("CrowdOutModel", "longer", "I", false)
  | 39 => ("CrowdOutModel", "tape", "[B", true)
  | 40 => ("CrowdOutModel", "taped", "I", false)
  | 41 => ("CrowdOutModel", "orders", "I", false)
  | 42 => ("CrowdOutModel", "text", "[B", true)
  | 43 => ("CrowdOutModel", "length", "[I", true)
  | 44 => ("CrowdOutModel", "stands", "[Z", true)
  | 45 => ("CrowdOutModel", "asked", "[I", true)
  | 46 => ("CrowdOutModel", "held1", "[Z", true)
  | 47 => ("CrowdOutModel", "givenOf", "[I", true)
  | 48 => ("CrowdOutModel", "givens", "[I", true)
  | 49 => ("CrowdOutModel", "went", "[S", true)
  | 50 => ("CrowdOutModel", "tellings", "I", false)
  | 51 => ("CrowdOutModel", "teLink", "[I", true)
  | 52 => ("CrowdOutModel", "teTick", "[I", true)
  | 53 => ("CrowdOutModel", "teHeads", "[I", true)
  | 54 => ("CrowdOutModel", "teKnown", "[I", true)
  | 55 => ("CrowdOutModel", "options", "I", false)
  | 56 => ("CrowdOutModel", "opLink", "[I", true)
  | 57 => ("CrowdOutModel", "opWhat", "[I", true)
  | 58 => ("CrowdOutModel", "opTo", "[I", true)
  | 59 => ("CrowdOutModel", "blocked", "I", false)
  | 60 => ("CrowdOutModel", "roads", "I", false)
  | 61 => ("CrowdOutModel", "roadsAt", "[I", true)
  | 62 => ("CrowdOutModel", "dist", "[I", true)
  | 63 => ("CrowdOutModel", "nots", "[I", true)
  | 64 => ("CrowdOutModel", "anyOf", "[Z", true)
  | 65 => ("CrowdOutModel", "allOf", "[Z", true)
  | 66 => ("CrowdOutModel", "not", "[Z", true)
  | 67 => ("CrowdOutModel", "at", "I", false)
  | 68 => ("CrowdOutModel", "emptyTicks", "I", false)
  | 69 => ("CrowdOutModel", "emptyPress", "I", false)
  | 70 => ("CrowdOutModel", "emptyArea", "I", false)
  | 71 => ("CrowdOutModel", "emptyFell", "I", false)
  | 72 => ("CrowdOutModel", "refusals", "[I", true)
  | 73 => ("CrowdOutModel", "worstTicks", "I", false)
  | _ => ("CrowdOutModel", "worstPress", "I", false)
def tyX11 : Nat → FieldType := fun k => match k with
  | 0 => .int
  | 1 => .array .int
  | 2 => .int
  | 3 => .array .int
  | 4 => .array .int
  | 5 => .array .int
  | 6 => .array .int
  | 7 => .array .int
  | 8 => .array .int
  | 9 => .array .int
  | 10 => .array .int
  | 11 => .array .int
  | 12 => .int
  | 13 => .array .int
  | 14 => .array .int
  | 15 => .array .int
  | 16 => .array .int
  | 17 => .array .int
  | 18 => .int
  | 19 => .array .int
  | 20 => .array .int
  | 21 => .array .int
  | 22 => .array .int
  | 23 => .array .boolean
  | 24 => .array .int
  | 25 => .array .int
  | 26 => .array .int
  | 27 => .array .int
  | 28 => .array .int
  | 29 => .int
  | 30 => .array .int
  | 31 => .array .int
  | 32 => .array .int
  | 33 => .array .int
  | 34 => .array .boolean
  | 35 => .array .int
  | 36 => .int
  | 37 => .int
  | 38 => .int
  | 39 => .array .byte
  | 40 => .int
  | 41 => .int
  | 42 => .array .byte
  | 43 => .array .int
  | 44 => .array .boolean
  | 45 => .array .int
  | 46 => .array .boolean
  | 47 => .array .int
  | 48 => .array .int
  | 49 => .array .short
  | 50 => .int
  | 51 => .array .int
  | 52 => .array .int
  | 53 => .array .int
  | 54 => .array .int
  | 55 => .int
  | 56 => .array .int
  | 57 => .array .int
  | 58 => .array .int
  | 59 => .int
  | 60 => .int
  | 61 => .array .int
  | 62 => .array .int
  | 63 => .array .int
  | 64 => .array .boolean
  | 65 => .array .boolean
  | 66 => .array .boolean
  | 67 => .int
  | 68 => .int
  | 69 => .int
  | 70 => .int
  | 71 => .int
  | 72 => .array .int
  | 73 => .int
  | _ => .int
theorem nmX11 : ∀ a, a < 75 → ∀ b, b < 75 → a ≠ b → (TX11 a).2.1 ≠ (TX11 b).2.1 := by decide +kernel
theorem tyX11_ok : ∀ k, k < 75 → parseFieldDescriptor (TX11 k).2.2.1 = some (tyX11 k) := by decide +kernel
abbrev am_cls : List vw_C := [(RX0, TX0, 10), (RX1, TX1, 10), (RX2, TX2, 7), (RX3, TX3, 8), (RX4, TX4, 3), (RX5, TX5, 9), (RX6, TX6, 5), (RX7, TX7, 6), (RX8, TX8, 4), (RX9, TX9, 20), (RX10, TX10, 18), (RX11, TX11, 75)]
theorem inX0 : ∀ w ∈ u_ws RX0 TX0 10, w ∈ lw_tbl := by decide +kernel
theorem inX1 : ∀ w ∈ u_ws RX1 TX1 10, w ∈ lw_tbl := by decide +kernel
theorem inX2 : ∀ w ∈ u_ws RX2 TX2 7, w ∈ lw_tbl := by decide +kernel
theorem inX3 : ∀ w ∈ u_ws RX3 TX3 8, w ∈ lw_tbl := by decide +kernel
theorem inX4 : ∀ w ∈ u_ws RX4 TX4 3, w ∈ lw_tbl := by decide +kernel
theorem inX5 : ∀ w ∈ u_ws RX5 TX5 9, w ∈ lw_tbl := by decide +kernel
theorem inX6 : ∀ w ∈ u_ws RX6 TX6 5, w ∈ lw_tbl := by decide +kernel
theorem inX7 : ∀ w ∈ u_ws RX7 TX7 6, w ∈ lw_tbl := by decide +kernel
theorem inX8 : ∀ w ∈ u_ws RX8 TX8 4, w ∈ lw_tbl := by decide +kernel
theorem inX9 : ∀ w ∈ u_ws RX9 TX9 20, w ∈ lw_tbl := by decide +kernel
theorem inX10 : ∀ w ∈ u_ws RX10 TX10 18, w ∈ lw_tbl := by decide +kernel
theorem inX11 : ∀ w ∈ u_ws RX11 TX11 75, w ∈ lw_tbl := by decide +kernel
/-- the words that a callee may take over -/
def so_G : List Cond := lw_tbl.filter goodWord
theorem igX0 : ∀ w ∈ u_ws RX0 TX0 10, w ∈ so_G := fun w h => List.mem_filter.mpr ⟨inX0 w h, (by decide +kernel : ∀ w ∈ u_ws RX0 TX0 10, goodWord w = true) w h⟩
theorem igX1 : ∀ w ∈ u_ws RX1 TX1 10, w ∈ so_G := fun w h => List.mem_filter.mpr ⟨inX1 w h, (by decide +kernel : ∀ w ∈ u_ws RX1 TX1 10, goodWord w = true) w h⟩
theorem igX2 : ∀ w ∈ u_ws RX2 TX2 7, w ∈ so_G := fun w h => List.mem_filter.mpr ⟨inX2 w h, (by decide +kernel : ∀ w ∈ u_ws RX2 TX2 7, goodWord w = true) w h⟩
theorem igX3 : ∀ w ∈ u_ws RX3 TX3 8, w ∈ so_G := fun w h => List.mem_filter.mpr ⟨inX3 w h, (by decide +kernel : ∀ w ∈ u_ws RX3 TX3 8, goodWord w = true) w h⟩
theorem igX4 : ∀ w ∈ u_ws RX4 TX4 3, w ∈ so_G := fun w h => List.mem_filter.mpr ⟨inX4 w h, (by decide +kernel : ∀ w ∈ u_ws RX4 TX4 3, goodWord w = true) w h⟩
theorem igX5 : ∀ w ∈ u_ws RX5 TX5 9, w ∈ so_G := fun w h => List.mem_filter.mpr ⟨inX5 w h, (by decide +kernel : ∀ w ∈ u_ws RX5 TX5 9, goodWord w = true) w h⟩
theorem igX6 : ∀ w ∈ u_ws RX6 TX6 5, w ∈ so_G := fun w h => List.mem_filter.mpr ⟨inX6 w h, (by decide +kernel : ∀ w ∈ u_ws RX6 TX6 5, goodWord w = true) w h⟩
theorem igX7 : ∀ w ∈ u_ws RX7 TX7 6, w ∈ so_G := fun w h => List.mem_filter.mpr ⟨inX7 w h, (by decide +kernel : ∀ w ∈ u_ws RX7 TX7 6, goodWord w = true) w h⟩
theorem igX8 : ∀ w ∈ u_ws RX8 TX8 4, w ∈ so_G := fun w h => List.mem_filter.mpr ⟨inX8 w h, (by decide +kernel : ∀ w ∈ u_ws RX8 TX8 4, goodWord w = true) w h⟩
theorem igX9 : ∀ w ∈ u_ws RX9 TX9 20, w ∈ so_G := fun w h => List.mem_filter.mpr ⟨inX9 w h, (by decide +kernel : ∀ w ∈ u_ws RX9 TX9 20, goodWord w = true) w h⟩
theorem igX10 : ∀ w ∈ u_ws RX10 TX10 18, w ∈ so_G := fun w h => List.mem_filter.mpr ⟨inX10 w h, (by decide +kernel : ∀ w ∈ u_ws RX10 TX10 18, goodWord w = true) w h⟩
theorem igX11 : ∀ w ∈ u_ws RX11 TX11 75, w ∈ so_G := fun w h => List.mem_filter.mpr ⟨inX11 w h, (by decide +kernel : ∀ w ∈ u_ws RX11 TX11 75, goodWord w = true) w h⟩
def so_cl (q : vw_C) : Prop := (∀ w ∈ u_ws q.1 q.2.1 q.2.2, w ∈ so_G) ∧ ∃ ty : Nat → FieldType, (∀ k, k < q.2.2 → parseFieldDescriptor (q.2.1 k).2.2.1 = some (ty k)) ∧ ∀ a, a < q.2.2 → ∀ b, b < q.2.2 → a ≠ b → (q.2.1 a).2.1 ≠ (q.2.1 b).2.1
theorem so_cls : ∀ (ci : Nat) (q : vw_C), am_cls[ci]? = some q → so_cl q := by
  intro ci q h
  match ci, h with
  | 0, h => cases h; exact ⟨igX0, tyX0, tyX0_ok, nmX0⟩
  | 1, h => cases h; exact ⟨igX1, tyX1, tyX1_ok, nmX1⟩
  | 2, h => cases h; exact ⟨igX2, tyX2, tyX2_ok, nmX2⟩
  | 3, h => cases h; exact ⟨igX3, tyX3, tyX3_ok, nmX3⟩
  | 4, h => cases h; exact ⟨igX4, tyX4, tyX4_ok, nmX4⟩
  | 5, h => cases h; exact ⟨igX5, tyX5, tyX5_ok, nmX5⟩
  | 6, h => cases h; exact ⟨igX6, tyX6, tyX6_ok, nmX6⟩
  | 7, h => cases h; exact ⟨igX7, tyX7, tyX7_ok, nmX7⟩
  | 8, h => cases h; exact ⟨igX8, tyX8, tyX8_ok, nmX8⟩
  | 9, h => cases h; exact ⟨igX9, tyX9, tyX9_ok, nmX9⟩
  | 10, h => cases h; exact ⟨igX10, tyX10, tyX10_ok, nmX10⟩
  | 11, h => cases h; exact ⟨igX11, tyX11, tyX11_ok, nmX11⟩
  | k + 12, h => simp [am_cls] at h
