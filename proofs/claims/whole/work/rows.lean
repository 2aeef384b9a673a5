section
-- ===== PART A: goes FIRST, ahead of the names: the tables' words, and 'selects' of the private methods out of them =====
/-- a private method of a class that the tables say can be made, by its rows of tables_1 -/
def lw_okq (q : MethodName × Nat) : Prop := (q.1.cls ≠ "java/lang/invoke/MethodHandle" ∧ q.1.cls ≠ "java/lang/invoke/VarHandle") ∧ Cond.instantiable q.1.cls q.2 ∈ tables_1 ∧ Cond.privateMethod q.1 ∈ tables_1 ∧ Cond.instanceMethod q.1 ∈ tables_1
theorem lw_p0 : lw_okq (⟨"LandReform$Law", "clear", "()V"⟩, 9) := ⟨⟨by decide +kernel, by decide +kernel⟩, List.mem_of_getElem? (i := 258) (by decide +kernel), List.mem_of_getElem? (i := 264) (by decide +kernel), List.mem_of_getElem? (i := 265) (by decide +kernel)⟩
theorem lw_p1 : lw_okq (⟨"LandReform$Reader", "nextToken", "()V"⟩, 5) := ⟨⟨by decide +kernel, by decide +kernel⟩, List.mem_of_getElem? (i := 125) (by decide +kernel), List.mem_of_getElem? (i := 428) (by decide +kernel), List.mem_of_getElem? (i := 429) (by decide +kernel)⟩
theorem lw_p2 : lw_okq (⟨"LandReform$Reader", "readStatement", "(LLandReform$Law;)Z"⟩, 5) := ⟨⟨by decide +kernel, by decide +kernel⟩, List.mem_of_getElem? (i := 125) (by decide +kernel), List.mem_of_getElem? (i := 441) (by decide +kernel), List.mem_of_getElem? (i := 442) (by decide +kernel)⟩
theorem lw_p3 : lw_okq (⟨"LandReform$Reader", "keyword", "()I"⟩, 5) := ⟨⟨by decide +kernel, by decide +kernel⟩, List.mem_of_getElem? (i := 125) (by decide +kernel), List.mem_of_getElem? (i := 445) (by decide +kernel), List.mem_of_getElem? (i := 446) (by decide +kernel)⟩
theorem lw_p4 : lw_okq (⟨"LandReform$Reader", "spells", "(Ljava/lang/String;)Z"⟩, 5) := ⟨⟨by decide +kernel, by decide +kernel⟩, List.mem_of_getElem? (i := 125) (by decide +kernel), List.mem_of_getElem? (i := 450) (by decide +kernel), List.mem_of_getElem? (i := 451) (by decide +kernel)⟩
theorem lw_p5 : lw_okq (⟨"LandReform$Reader", "number", "(II)I"⟩, 5) := ⟨⟨by decide +kernel, by decide +kernel⟩, List.mem_of_getElem? (i := 125) (by decide +kernel), List.mem_of_getElem? (i := 509) (by decide +kernel), List.mem_of_getElem? (i := 510) (by decide +kernel)⟩
theorem lw_p6 : lw_okq (⟨"LandReform$Law", "rule", "(III)V"⟩, 9) := ⟨⟨by decide +kernel, by decide +kernel⟩, List.mem_of_getElem? (i := 258) (by decide +kernel), List.mem_of_getElem? (i := 515) (by decide +kernel), List.mem_of_getElem? (i := 516) (by decide +kernel)⟩
theorem lw_p7 : lw_okq (⟨"LandReform$Law", "exemptCrop", "(I)V"⟩, 9) := ⟨⟨by decide +kernel, by decide +kernel⟩, List.mem_of_getElem? (i := 258) (by decide +kernel), List.mem_of_getElem? (i := 519) (by decide +kernel), List.mem_of_getElem? (i := 520) (by decide +kernel)⟩
theorem lw_p8 : lw_okq (⟨"LandReform$Law", "setSoil", "(II)V"⟩, 9) := ⟨⟨by decide +kernel, by decide +kernel⟩, List.mem_of_getElem? (i := 258) (by decide +kernel), List.mem_of_getElem? (i := 524) (by decide +kernel), List.mem_of_getElem? (i := 525) (by decide +kernel)⟩
theorem lw_p9 : lw_okq (⟨"LandReform$Holding", "countOwners", "(LLandReform$Land;LLandReform$People;LLandReform$Law;)V"⟩, 10) := ⟨⟨by decide +kernel, by decide +kernel⟩, List.mem_of_getElem? (i := 148) (by decide +kernel), List.mem_of_getElem? (i := 566) (by decide +kernel), List.mem_of_getElem? (i := 567) (by decide +kernel)⟩
theorem lw_p10 : lw_okq (⟨"LandReform$Holding", "prepareSteps", "(LLandReform$Land;LLandReform$Law;)V"⟩, 10) := ⟨⟨by decide +kernel, by decide +kernel⟩, List.mem_of_getElem? (i := 148) (by decide +kernel), List.mem_of_getElem? (i := 643) (by decide +kernel), List.mem_of_getElem? (i := 644) (by decide +kernel)⟩
theorem lw_p11 : lw_okq (⟨"LandReform$Tenancies", "pairOf", "(II)I"⟩, 4) := ⟨⟨by decide +kernel, by decide +kernel⟩, List.mem_of_getElem? (i := 190) (by decide +kernel), List.mem_of_getElem? (i := 673) (by decide +kernel), List.mem_of_getElem? (i := 674) (by decide +kernel)⟩
theorem lw_p12 : lw_okq (⟨"LandReform$Giving", "nearest", "(I)I"⟩, 3) := ⟨⟨by decide +kernel, by decide +kernel⟩, List.mem_of_getElem? (i := 209) (by decide +kernel), List.mem_of_getElem? (i := 707) (by decide +kernel), List.mem_of_getElem? (i := 708) (by decide +kernel)⟩
theorem lw_p13 : lw_okq (⟨"LandReform$Giving", "sumWith", "(II)I"⟩, 3) := ⟨⟨by decide +kernel, by decide +kernel⟩, List.mem_of_getElem? (i := 209) (by decide +kernel), List.mem_of_getElem? (i := 712) (by decide +kernel), List.mem_of_getElem? (i := 713) (by decide +kernel)⟩
theorem lw_p14 : lw_okq (⟨"LandReform", "ringsClose", "(II)Z"⟩, 12) := ⟨⟨by decide +kernel, by decide +kernel⟩, List.mem_of_getElem? (i := 22) (by decide +kernel), List.mem_of_getElem? (i := 730) (by decide +kernel), List.mem_of_getElem? (i := 731) (by decide +kernel)⟩
theorem lw_p15 : lw_okq (⟨"LandReform$Rings", "point", "()V"⟩, 7) := ⟨⟨by decide +kernel, by decide +kernel⟩, List.mem_of_getElem? (i := 227) (by decide +kernel), List.mem_of_getElem? (i := 746) (by decide +kernel), List.mem_of_getElem? (i := 747) (by decide +kernel)⟩
def lw_privs_1 : List (MethodName × Nat) := [(⟨"LandReform$Law", "clear", "()V"⟩, 9), (⟨"LandReform$Reader", "nextToken", "()V"⟩, 5), (⟨"LandReform$Reader", "readStatement", "(LLandReform$Law;)Z"⟩, 5), (⟨"LandReform$Reader", "keyword", "()I"⟩, 5), (⟨"LandReform$Reader", "spells", "(Ljava/lang/String;)Z"⟩, 5), (⟨"LandReform$Reader", "number", "(II)I"⟩, 5), (⟨"LandReform$Law", "rule", "(III)V"⟩, 9), (⟨"LandReform$Law", "exemptCrop", "(I)V"⟩, 9), (⟨"LandReform$Law", "setSoil", "(II)V"⟩, 9), (⟨"LandReform$Holding", "countOwners", "(LLandReform$Land;LLandReform$People;LLandReform$Law;)V"⟩, 10), (⟨"LandReform$Holding", "prepareSteps", "(LLandReform$Land;LLandReform$Law;)V"⟩, 10), (⟨"LandReform$Tenancies", "pairOf", "(II)I"⟩, 4), (⟨"LandReform$Giving", "nearest", "(I)I"⟩, 3), (⟨"LandReform$Giving", "sumWith", "(II)I"⟩, 3), (⟨"LandReform", "ringsClose", "(II)Z"⟩, 12), (⟨"LandReform$Rings", "point", "()V"⟩, 7)]
theorem lw_r1 : ∀ q ∈ lw_privs_1, lw_okq q := List.forall_mem_cons.mpr ⟨lw_p0, List.forall_mem_cons.mpr ⟨lw_p1, List.forall_mem_cons.mpr ⟨lw_p2, List.forall_mem_cons.mpr ⟨lw_p3, List.forall_mem_cons.mpr ⟨lw_p4, List.forall_mem_cons.mpr ⟨lw_p5, List.forall_mem_cons.mpr ⟨lw_p6, List.forall_mem_cons.mpr ⟨lw_p7, List.forall_mem_cons.mpr ⟨lw_p8, List.forall_mem_cons.mpr ⟨lw_p9, List.forall_mem_cons.mpr ⟨lw_p10, List.forall_mem_cons.mpr ⟨lw_p11, List.forall_mem_cons.mpr ⟨lw_p12, List.forall_mem_cons.mpr ⟨lw_p13, List.forall_mem_cons.mpr ⟨lw_p14, List.forall_mem_cons.mpr ⟨lw_p15, fun _ h => absurd h List.not_mem_nil⟩⟩⟩⟩⟩⟩⟩⟩⟩⟩⟩⟩⟩⟩⟩⟩
theorem lw_p16 : lw_okq (⟨"LandReform$Rings", "holderOfNearest", "(I)I"⟩, 7) := ⟨⟨by decide +kernel, by decide +kernel⟩, List.mem_of_getElem? (i := 227) (by decide +kernel), List.mem_of_getElem? (i := 750) (by decide +kernel), List.mem_of_getElem? (i := 751) (by decide +kernel)⟩
theorem lw_p17 : lw_okq (⟨"LandReform$Rings", "leaveInRings", "()V"⟩, 7) := ⟨⟨by decide +kernel, by decide +kernel⟩, List.mem_of_getElem? (i := 227) (by decide +kernel), List.mem_of_getElem? (i := 755) (by decide +kernel), List.mem_of_getElem? (i := 756) (by decide +kernel)⟩
theorem lw_p18 : lw_okq (⟨"LandReform$Rings", "leastInRing", "(I)I"⟩, 7) := ⟨⟨by decide +kernel, by decide +kernel⟩, List.mem_of_getElem? (i := 227) (by decide +kernel), List.mem_of_getElem? (i := 759) (by decide +kernel), List.mem_of_getElem? (i := 760) (by decide +kernel)⟩
theorem lw_p19 : lw_okq (⟨"LandReform", "saleNumbered", "(I)LLandReform$Sale;"⟩, 12) := ⟨⟨by decide +kernel, by decide +kernel⟩, List.mem_of_getElem? (i := 22) (by decide +kernel), List.mem_of_getElem? (i := 828) (by decide +kernel), List.mem_of_getElem? (i := 829) (by decide +kernel)⟩
theorem lw_p20 : lw_okq (⟨"LandReformModel", "begins", "(I)V"⟩, 47) := ⟨⟨by decide +kernel, by decide +kernel⟩, List.mem_of_getElem? (i := 844) (by decide +kernel), List.mem_of_getElem? (i := 850) (by decide +kernel), List.mem_of_getElem? (i := 851) (by decide +kernel)⟩
theorem lw_p21 : lw_okq (⟨"LandReformModel", "isPerson", "(I)Z"⟩, 47) := ⟨⟨by decide +kernel, by decide +kernel⟩, List.mem_of_getElem? (i := 844) (by decide +kernel), List.mem_of_getElem? (i := 1008) (by decide +kernel), List.mem_of_getElem? (i := 1009) (by decide +kernel)⟩
theorem lw_p22 : lw_okq (⟨"LandReformModel", "isField", "(I)Z"⟩, 47) := ⟨⟨by decide +kernel, by decide +kernel⟩, List.mem_of_getElem? (i := 844) (by decide +kernel), List.mem_of_getElem? (i := 1024) (by decide +kernel), List.mem_of_getElem? (i := 1025) (by decide +kernel)⟩
theorem lw_p23 : lw_okq (⟨"LandReformModel", "owner", "(I)I"⟩, 47) := ⟨⟨by decide +kernel, by decide +kernel⟩, List.mem_of_getElem? (i := 844) (by decide +kernel), List.mem_of_getElem? (i := 1028) (by decide +kernel), List.mem_of_getElem? (i := 1029) (by decide +kernel)⟩
theorem lw_p24 : lw_okq (⟨"LandReformModel", "ownerOn", "(II)I"⟩, 47) := ⟨⟨by decide +kernel, by decide +kernel⟩, List.mem_of_getElem? (i := 844) (by decide +kernel), List.mem_of_getElem? (i := 1032) (by decide +kernel), List.mem_of_getElem? (i := 1033) (by decide +kernel)⟩
theorem lw_p25 : lw_okq (⟨"LandReformModel", "goes", "(II)V"⟩, 47) := ⟨⟨by decide +kernel, by decide +kernel⟩, List.mem_of_getElem? (i := 844) (by decide +kernel), List.mem_of_getElem? (i := 1036) (by decide +kernel), List.mem_of_getElem? (i := 1037) (by decide +kernel)⟩
theorem lw_p26 : lw_okq (⟨"LandReformModel", "four", "(I)V"⟩, 47) := ⟨⟨by decide +kernel, by decide +kernel⟩, List.mem_of_getElem? (i := 844) (by decide +kernel), List.mem_of_getElem? (i := 1048) (by decide +kernel), List.mem_of_getElem? (i := 1049) (by decide +kernel)⟩
theorem lw_p27 : lw_okq (⟨"LandReformModel", "blanks", "()V"⟩, 47) := ⟨⟨by decide +kernel, by decide +kernel⟩, List.mem_of_getElem? (i := 844) (by decide +kernel), List.mem_of_getElem? (i := 1056) (by decide +kernel), List.mem_of_getElem? (i := 1057) (by decide +kernel)⟩
theorem lw_p28 : lw_okq (⟨"LandReformModel", "statement", "()Z"⟩, 47) := ⟨⟨by decide +kernel, by decide +kernel⟩, List.mem_of_getElem? (i := 844) (by decide +kernel), List.mem_of_getElem? (i := 1060) (by decide +kernel), List.mem_of_getElem? (i := 1061) (by decide +kernel)⟩
theorem lw_p29 : lw_okq (⟨"LandReformModel", "takes", "(J)Z"⟩, 47) := ⟨⟨by decide +kernel, by decide +kernel⟩, List.mem_of_getElem? (i := 844) (by decide +kernel), List.mem_of_getElem? (i := 1065) (by decide +kernel), List.mem_of_getElem? (i := 1066) (by decide +kernel)⟩
theorem lw_p30 : lw_okq (⟨"LandReformModel", "word", "()J"⟩, 47) := ⟨⟨by decide +kernel, by decide +kernel⟩, List.mem_of_getElem? (i := 844) (by decide +kernel), List.mem_of_getElem? (i := 1069) (by decide +kernel), List.mem_of_getElem? (i := 1070) (by decide +kernel)⟩
theorem lw_p31 : lw_okq (⟨"LandReformModel", "takesNumber", "(II)Z"⟩, 47) := ⟨⟨by decide +kernel, by decide +kernel⟩, List.mem_of_getElem? (i := 844) (by decide +kernel), List.mem_of_getElem? (i := 1073) (by decide +kernel), List.mem_of_getElem? (i := 1074) (by decide +kernel)⟩
def lw_privs_2 : List (MethodName × Nat) := [(⟨"LandReform$Rings", "holderOfNearest", "(I)I"⟩, 7), (⟨"LandReform$Rings", "leaveInRings", "()V"⟩, 7), (⟨"LandReform$Rings", "leastInRing", "(I)I"⟩, 7), (⟨"LandReform", "saleNumbered", "(I)LLandReform$Sale;"⟩, 12), (⟨"LandReformModel", "begins", "(I)V"⟩, 47), (⟨"LandReformModel", "isPerson", "(I)Z"⟩, 47), (⟨"LandReformModel", "isField", "(I)Z"⟩, 47), (⟨"LandReformModel", "owner", "(I)I"⟩, 47), (⟨"LandReformModel", "ownerOn", "(II)I"⟩, 47), (⟨"LandReformModel", "goes", "(II)V"⟩, 47), (⟨"LandReformModel", "four", "(I)V"⟩, 47), (⟨"LandReformModel", "blanks", "()V"⟩, 47), (⟨"LandReformModel", "statement", "()Z"⟩, 47), (⟨"LandReformModel", "takes", "(J)Z"⟩, 47), (⟨"LandReformModel", "word", "()J"⟩, 47), (⟨"LandReformModel", "takesNumber", "(II)Z"⟩, 47)]
theorem lw_r2 : ∀ q ∈ lw_privs_2, lw_okq q := List.forall_mem_cons.mpr ⟨lw_p16, List.forall_mem_cons.mpr ⟨lw_p17, List.forall_mem_cons.mpr ⟨lw_p18, List.forall_mem_cons.mpr ⟨lw_p19, List.forall_mem_cons.mpr ⟨lw_p20, List.forall_mem_cons.mpr ⟨lw_p21, List.forall_mem_cons.mpr ⟨lw_p22, List.forall_mem_cons.mpr ⟨lw_p23, List.forall_mem_cons.mpr ⟨lw_p24, List.forall_mem_cons.mpr ⟨lw_p25, List.forall_mem_cons.mpr ⟨lw_p26, List.forall_mem_cons.mpr ⟨lw_p27, List.forall_mem_cons.mpr ⟨lw_p28, List.forall_mem_cons.mpr ⟨lw_p29, List.forall_mem_cons.mpr ⟨lw_p30, List.forall_mem_cons.mpr ⟨lw_p31, fun _ h => absurd h List.not_mem_nil⟩⟩⟩⟩⟩⟩⟩⟩⟩⟩⟩⟩⟩⟩⟩⟩
theorem lw_p32 : lw_okq (⟨"LandReformModel", "standard", "(I)I"⟩, 47) := ⟨⟨by decide +kernel, by decide +kernel⟩, List.mem_of_getElem? (i := 844) (by decide +kernel), List.mem_of_getElem? (i := 1093) (by decide +kernel), List.mem_of_getElem? (i := 1094) (by decide +kernel)⟩
theorem lw_p33 : lw_okq (⟨"LandReformModel", "counted", "(I)I"⟩, 47) := ⟨⟨by decide +kernel, by decide +kernel⟩, List.mem_of_getElem? (i := 844) (by decide +kernel), List.mem_of_getElem? (i := 1097) (by decide +kernel), List.mem_of_getElem? (i := 1098) (by decide +kernel)⟩
theorem lw_p34 : lw_okq (⟨"LandReformModel", "tenant", "(I)I"⟩, 47) := ⟨⟨by decide +kernel, by decide +kernel⟩, List.mem_of_getElem? (i := 844) (by decide +kernel), List.mem_of_getElem? (i := 1101) (by decide +kernel), List.mem_of_getElem? (i := 1102) (by decide +kernel)⟩
theorem lw_p35 : lw_okq (⟨"LandReformModel", "isExempt", "(I)Z"⟩, 47) := ⟨⟨by decide +kernel, by decide +kernel⟩, List.mem_of_getElem? (i := 844) (by decide +kernel), List.mem_of_getElem? (i := 1108) (by decide +kernel), List.mem_of_getElem? (i := 1109) (by decide +kernel)⟩
theorem lw_p36 : lw_okq (⟨"LandReformModel", "transfersOf", "(I)I"⟩, 47) := ⟨⟨by decide +kernel, by decide +kernel⟩, List.mem_of_getElem? (i := 844) (by decide +kernel), List.mem_of_getElem? (i := 1115) (by decide +kernel), List.mem_of_getElem? (i := 1116) (by decide +kernel)⟩
theorem lw_p37 : lw_okq (⟨"LandReformModel", "peopleOf", "(I)I"⟩, 47) := ⟨⟨by decide +kernel, by decide +kernel⟩, List.mem_of_getElem? (i := 844) (by decide +kernel), List.mem_of_getElem? (i := 1126) (by decide +kernel), List.mem_of_getElem? (i := 1127) (by decide +kernel)⟩
theorem lw_p38 : lw_okq (⟨"LandReformModel", "holding", "(I)I"⟩, 47) := ⟨⟨by decide +kernel, by decide +kernel⟩, List.mem_of_getElem? (i := 844) (by decide +kernel), List.mem_of_getElem? (i := 1130) (by decide +kernel), List.mem_of_getElem? (i := 1131) (by decide +kernel)⟩
theorem lw_p39 : lw_okq (⟨"LandReformModel", "counts", "(I)I"⟩, 47) := ⟨⟨by decide +kernel, by decide +kernel⟩, List.mem_of_getElem? (i := 844) (by decide +kernel), List.mem_of_getElem? (i := 1134) (by decide +kernel), List.mem_of_getElem? (i := 1135) (by decide +kernel)⟩
theorem lw_p40 : lw_okq (⟨"LandReformModel", "mayHave", "(I)I"⟩, 47) := ⟨⟨by decide +kernel, by decide +kernel⟩, List.mem_of_getElem? (i := 844) (by decide +kernel), List.mem_of_getElem? (i := 1138) (by decide +kernel), List.mem_of_getElem? (i := 1139) (by decide +kernel)⟩
theorem lw_p41 : lw_okq (⟨"LandReformModel", "keeps", "(II)V"⟩, 47) := ⟨⟨by decide +kernel, by decide +kernel⟩, List.mem_of_getElem? (i := 844) (by decide +kernel), List.mem_of_getElem? (i := 1147) (by decide +kernel), List.mem_of_getElem? (i := 1148) (by decide +kernel)⟩
theorem lw_p42 : lw_okq (⟨"LandReformModel", "isRow", "(II)Z"⟩, 47) := ⟨⟨by decide +kernel, by decide +kernel⟩, List.mem_of_getElem? (i := 844) (by decide +kernel), List.mem_of_getElem? (i := 1168) (by decide +kernel), List.mem_of_getElem? (i := 1169) (by decide +kernel)⟩
theorem lw_p43 : lw_okq (⟨"LandReformModel", "turns", "(II)I"⟩, 47) := ⟨⟨by decide +kernel, by decide +kernel⟩, List.mem_of_getElem? (i := 844) (by decide +kernel), List.mem_of_getElem? (i := 1172) (by decide +kernel), List.mem_of_getElem? (i := 1173) (by decide +kernel)⟩
theorem lw_p44 : lw_okq (⟨"LandReformModel", "firstOf", "(I)I"⟩, 47) := ⟨⟨by decide +kernel, by decide +kernel⟩, List.mem_of_getElem? (i := 844) (by decide +kernel), List.mem_of_getElem? (i := 1176) (by decide +kernel), List.mem_of_getElem? (i := 1177) (by decide +kernel)⟩
theorem lw_p45 : lw_okq (⟨"LandReformModel", "wanted", "(II)I"⟩, 47) := ⟨⟨by decide +kernel, by decide +kernel⟩, List.mem_of_getElem? (i := 844) (by decide +kernel), List.mem_of_getElem? (i := 1180) (by decide +kernel), List.mem_of_getElem? (i := 1181) (by decide +kernel)⟩
def lw_privs_3 : List (MethodName × Nat) := [(⟨"LandReformModel", "standard", "(I)I"⟩, 47), (⟨"LandReformModel", "counted", "(I)I"⟩, 47), (⟨"LandReformModel", "tenant", "(I)I"⟩, 47), (⟨"LandReformModel", "isExempt", "(I)Z"⟩, 47), (⟨"LandReformModel", "transfersOf", "(I)I"⟩, 47), (⟨"LandReformModel", "peopleOf", "(I)I"⟩, 47), (⟨"LandReformModel", "holding", "(I)I"⟩, 47), (⟨"LandReformModel", "counts", "(I)I"⟩, 47), (⟨"LandReformModel", "mayHave", "(I)I"⟩, 47), (⟨"LandReformModel", "keeps", "(II)V"⟩, 47), (⟨"LandReformModel", "isRow", "(II)Z"⟩, 47), (⟨"LandReformModel", "turns", "(II)I"⟩, 47), (⟨"LandReformModel", "firstOf", "(I)I"⟩, 47), (⟨"LandReformModel", "wanted", "(II)I"⟩, 47)]
theorem lw_r3 : ∀ q ∈ lw_privs_3, lw_okq q := List.forall_mem_cons.mpr ⟨lw_p32, List.forall_mem_cons.mpr ⟨lw_p33, List.forall_mem_cons.mpr ⟨lw_p34, List.forall_mem_cons.mpr ⟨lw_p35, List.forall_mem_cons.mpr ⟨lw_p36, List.forall_mem_cons.mpr ⟨lw_p37, List.forall_mem_cons.mpr ⟨lw_p38, List.forall_mem_cons.mpr ⟨lw_p39, List.forall_mem_cons.mpr ⟨lw_p40, List.forall_mem_cons.mpr ⟨lw_p41, List.forall_mem_cons.mpr ⟨lw_p42, List.forall_mem_cons.mpr ⟨lw_p43, List.forall_mem_cons.mpr ⟨lw_p44, List.forall_mem_cons.mpr ⟨lw_p45, fun _ h => absurd h List.not_mem_nil⟩⟩⟩⟩⟩⟩⟩⟩⟩⟩⟩⟩⟩⟩
def lw_privs : List (MethodName × Nat) := lw_privs_1 ++ (lw_privs_2 ++ (lw_privs_3))
def lw_tbl : List Cond := k2_sels lw_privs ++ tables_1
theorem lw_privs_ok : ∀ q ∈ lw_privs, lw_okq q := by
  show ∀ q ∈ lw_privs_1 ++ (lw_privs_2 ++ (lw_privs_3)), lw_okq q
  exact List.forall_mem_append.mpr ⟨lw_r1, List.forall_mem_append.mpr ⟨lw_r2, lw_r3⟩⟩
def va_AOA (ty : FieldType) (U : State) : Prop := (Cond.arrayOver (.array ty)).before #[] U = true
theorem va_AOA.of {ty : FieldType} {A : Array Value} {U : State} (h : (Cond.arrayOver (.array ty)).before A U = true) : va_AOA ty U := h
theorem va_AOA.use {ty : FieldType} {A : Array Value} {U : State} (h : va_AOA ty U) : (Cond.arrayOver (.array ty)).before A U = true := h
end
section
/-! ===== BEGIN words of one list among another's, by their places ===== -/
theorem goodIn_r {big : List Cond} (ws : List Cond) (ps : List Nat) (hp : ws = ps.filterMap (fun i => big[i]?)) (h : ws.all goodWord = true) : GoodIn big ws := by
  intro w hw
  have h1 := List.all_eq_true.mp h w hw
  rw [hp] at hw
  obtain ⟨i, -, hi⟩ := List.mem_filterMap.mp hw
  have hm : w ∈ big := by first | exact List.mem_of_getElem? hi | exact List.getElem?_mem hi
  exact ⟨hm, good_of_word h1⟩
theorem goodIn_app {big a b : List Cond} (ha : GoodIn big a) (hb : GoodIn big b) : GoodIn big (a ++ b) := fun w h => (List.mem_append.mp h).elim (ha w) (hb w)
theorem goodIn_ca {big a b : List Cond} {c : Cond} (ha : GoodIn big (c :: a)) (hb : GoodIn big b) : GoodIn big (c :: (a ++ b)) := fun w h => (List.mem_cons.mp h).elim (fun e => ha w (List.mem_cons.mpr (Or.inl e))) (fun h => (List.mem_append.mp h).elim (fun h => ha w (List.mem_cons.mpr (Or.inr h))) (hb w))
theorem goodIn_sub {big ws : List Cond} (hm : ∀ w ∈ ws, w ∈ big) (h : ws.all goodWord = true) : GoodIn big ws := fun w hw => ⟨hm w hw, good_of_word (List.all_eq_true.mp h w hw)⟩
/-! ===== END ===== -/

/-! ===== BEGIN new T[n][m]: the outer array a place, the inner ones among the pooled ===== -/
/-- f, but v at every address of l -/
def vr_up {α : Type} (f : Nat → α) (l : List Nat) (v : α) : Nat → α := fun a => if a ∈ l then v else f a
theorem vr_up_in {α : Type} {f : Nat → α} {l : List Nat} {v : α} {a : Nat} (h : a ∈ l) : vr_up f l v a = v := if_pos h
theorem vr_up_ne {α : Type} {f : Nat → α} {l : List Nat} {v : α} {a : Nat} (h : a ∉ l) : vr_up f l v a = f a := if_neg h
theorem vr_rows {L l : List Nat} {f : Nat → va_E} {e : va_E} (h : ∀ a, a ∈ l → a ∉ L) : va_pl L f ++ l.map (fun a => (a, e)) = va_pl (L ++ l) (vr_up f l e) := by
  unfold va_pl
  rw [List.map_append]
  congr 1
  · apply List.map_congr_left
    intro a ha
    rw [vr_up_ne (fun q => h a q ha)]
  · apply List.map_congr_left
    intro a ha
    rw [vr_up_in ha]
theorem vr_lay {X rows : va_W} {x : Nat × va_E} {pl : va_W} {D : va_G} {cl : List vw_C} {H : Heap} (hP : va_P D cl (((X ++ pl) ++ [x]) ++ rows) H) : va_P D cl ((X ++ [x]) ++ (pl ++ rows)) H := by
  rw [List.append_assoc (X ++ pl)] at hP
  have h := va_P.swap hP
  rw [← List.append_assoc X] at h
  have h2 := va_P.swap h
  rw [List.append_assoc (X ++ [x])] at h2
  exact h2
theorem vr_layD {X rows : va_W} {x : Nat × va_E} {pl : va_W} {A : Nat → Prop} (hD : va_D A (((X ++ pl) ++ [x]) ++ rows)) : va_D A ((X ++ [x]) ++ (pl ++ rows)) := by
  rw [List.append_assoc (X ++ pl)] at hD
  have h := va_D.swap hD
  rw [← List.append_assoc X] at h
  have h2 := va_D.swap h
  rw [List.append_assoc (X ++ [x])] at h2
  exact h2
theorem vr_outer (c : ClassId) (N h0 : Nat) : ∀ i : Nat, Jvm.Free.Multi.outerC c N h0 i = arrV c N (fun j => va_rf (if j < i then some (h0 + 1 + j) else none))
  | 0 => by
    show ({ cls := c, slots := Array.replicate N .null, vm := .none } : Cell) = _
    rw [arrV_new]
    refine congrArg (arrV c N) (funext fun j => ?_)
    simp [va_rf]
  | i + 1 => by
    show (Jvm.Free.Multi.outerC c N h0 i).setSlot i (.ref (h0 + 1 + i)) = _
    rw [vr_outer c N h0 i, arrV_store]
    refine congrArg (arrV c N) (funext fun j => ?_)
    by_cases e : j = i
    · subst e
      simp [updV, va_rf]
    · by_cases h : j < i
      · simp [updV, e, h, Nat.lt_succ_of_lt h]
      · simp [updV, e, h, show ¬ j < i + 1 by omega]
section VGM
variable {p : Program} {l : Launch} {e : Env} {R : Room} {s : State} {m : MethodId} {args : Array Value} {below : List Frame} {meth : Method} {c : Code} {H : Heap} {locs : List Loc} {cells slots : Nat} {Q : State → Prop}
variable {cc : ByteArray} {pc : Nat} {ls : Array Slot} {rest : List Value} {D : va_G} {cl : List vw_C} {A : Nat → Prop} {a : Nat} {tys : List (ClassId × FieldType)} {ws : va_W} {H0 : Heap}
theorem va_mna {X : va_W} {L : List Nat} {f : Nat → va_E} {cc : ByteArray} (hexec : p.tables.exec = Jvm.exec) (hb : c.code = cc) {own : String} {index : Nat} {ty : FieldType} {cy : ClassId} (hown : s.vm.findClass own = some m.cls) (hclink : (Cond.classLink own index ("[" ++ (FieldType.array ty).toString)).before args s = true) (hover : va_AOA ty s) (harr : (Cond.arrayClass ty).before args s = true) (hcy : s.vm.findClass (FieldType.array ty).toString = some cy)
    (hK : va_K D cl tys s) (hP : va_P D cl (X ++ va_pl L f) H) (hD : va_D A (X ++ va_pl L f)) (hS : va_S A H0 H locs) (hA : ∀ q, H0.size ≤ q → A q) {n k : Int32} {N' K' : Nat} {z : vp_A} (hn : ¬ n < 0) (hk : ¬ k < 0) (hN : n.toNatClampNeg = N') (hM : k.toNatClampNeg = K')
    (hb1 : N' * 4 ≤ 536870912) (hb2 : K' * componentBytes ty ≤ 536870912) (hb3 : K' ≤ 536870912) (hdf : fits ty (defaultValue ty) = true) (hdd : (defaultValue ty).isDefault = true) (hcells : cells + (1 + N') ≤ R.cells) (hslots : slots + (N' + N' * K') ≤ R.slots) (hz : ∀ c : ClassId, Jvm.Free.Multi.innerC c K' (defaultValue ty) = vp_cell c z) (hdg : decode cc pc = .ok (.multianewarray index 2, 4))
    (kk : ∀ (q : Nat) (r : Nat → Nat) (cA : ClassId) (H1 : Heap), (∀ i j : Nat, i < N' → j < N' → r i = r j → i = j) → (∀ i : Nat, i < N' → r i ∉ L) → va_K D cl (tys ++ [(cA, .array ty)]) s →
      va_P D cl ((X ++ [(q, .inl (cA, N', .inr (.inr (.inr (.inr (fun i => if i < N' then some (r i) else none))))))]) ++ va_pl (L ++ (List.range N').map r) (vr_up f ((List.range N').map r) (.inl (cy, z)))) H1 → va_D A ((X ++ [(q, .inl (cA, N', .inr (.inr (.inr (.inr (fun i => if i < N' then some (r i) else none))))))]) ++ va_pl (L ++ (List.range N').map r) (vr_up f ((List.range N').map r) (.inl (cy, z)))) → va_S A H0 H1 locs →
      W p l e R s m args below meth c H1 locs (cells + 1 + N') (slots + N' + N' * K') Q (F0 m (pc + 4) ls (.ref q :: rest))) : W p l e R s m args below meth c H locs cells slots Q (F0 m pc ls (.int k :: .int n :: rest)) := by
  subst hN
  subst hM
  intro T hT Xs
  obtain ⟨vm₁, cA, comp, -, fA, fC, hO, -, X', step⟩ := Xs.multianewarray2F hexec hown hclink (va_AOA.use hover) harr (g := F0 m pc ls (.int k :: .int n :: rest)) rfl (by rw [hb]; exact hdg) rfl hn hk hb1 hb2 hb3 hdf hdd hcells hslots
  have ec : some cy = some comp := hcy.symm.trans fC
  cases ec
  generalize hF : Jvm.Free.Multi.fill (T.setVm vm₁) cA cy n.toNatClampNeg k.toNatClampNeg (defaultValue ty) n.toNatClampNeg = F at X' step
  have hTh : (T.setVm vm₁).heap = H := hT
  obtain ⟨f1, f2, -, -⟩ := Jvm.Free.Multi.fill_facts (T.setVm vm₁) cA cy n.toNatClampNeg k.toNatClampNeg (defaultValue ty) n.toNatClampNeg
  rw [hF, hTh] at f1 f2
  have hold : ∀ x : Nat, x < H.size → F.heap[x]? = H[x]? := fun x hx => by
    have := Jvm.Free.Multi.fill_old (T.setVm vm₁) cA cy n.toNatClampNeg k.toNatClampNeg (defaultValue ty) (a := x) (by rw [hTh]; exact hx) n.toNatClampNeg
    rw [hF, hTh] at this
    exact this
  have hrow : ∀ j : Nat, j < n.toNatClampNeg → F.heap[H.size + 1 + j]? = some (vp_cell cy z) := fun j hj => by
    have := Jvm.Free.Multi.fill_inner (T.setVm vm₁) cA cy n.toNatClampNeg k.toNatClampNeg (defaultValue ty) n.toNatClampNeg j hj
    rw [hF, hTh, hz] at this
    exact this
  have hout : Jvm.Free.Multi.outerC cA n.toNatClampNeg H.size n.toNatClampNeg = vp_cell cA (n.toNatClampNeg, .inr (.inr (.inr (.inr (fun i => if i < n.toNatClampNeg then some (H.size + 1 + i) else none))))) := by
    rw [vp_cell_q]
    exact vr_outer cA n.toNatClampNeg H.size n.toNatClampNeg
  rw [hout] at f2
  have hlt : ∀ a, a ∈ L → a < H.size := fun a ha => by
    obtain ⟨k9, hk9⟩ := va_pl_get (X := X) (f := f) ha
    exact (hP k9 _ hk9).lt
  have hnl : ∀ i : Nat, i < n.toNatClampNeg → H.size + 1 + i ∉ L := fun i _ h => by
    have := hlt _ h
    omega
  have hnm : ∀ a, a ∈ (List.range n.toNatClampNeg).map (fun i => H.size + 1 + i) → a ∉ L := fun a ha h => by
    obtain ⟨i, -, rfl⟩ := List.mem_map.mp ha
    have := hlt _ h
    omega
  have hP0 : va_P D cl (X ++ va_pl L f) F.heap := hP.kept (fun k9 x hx => hold x.1 ((hP k9 x hx).lt))
  have hP1 : va_P D cl ((X ++ va_pl L f) ++ [(H.size, .inl (cA, n.toNatClampNeg, .inr (.inr (.inr (.inr (fun i => if i < n.toNatClampNeg then some (H.size + 1 + i) else none))))))]) F.heap := hP0.app (fun k9 x hx => by
    have h0 : k9 < 1 := (List.getElem?_eq_some_iff.mp hx).1
    rw [show k9 = 0 by omega] at hx
    cases hx
    exact f2)
  have hP2 : va_P D cl (((X ++ va_pl L f) ++ [(H.size, .inl (cA, n.toNatClampNeg, .inr (.inr (.inr (.inr (fun i => if i < n.toNatClampNeg then some (H.size + 1 + i) else none))))))]) ++ ((List.range n.toNatClampNeg).map (fun i => H.size + 1 + i)).map (fun a => (a, .inl (cy, z)))) F.heap := hP1.app (fun k9 x hx => by
    obtain ⟨a, ha, rfl⟩ := List.mem_map.mp (List.mem_of_getElem? hx)
    obtain ⟨i, hi, rfl⟩ := List.mem_map.mp ha
    exact hrow i (List.mem_range.mp hi))
  have hD2 : va_D A (((X ++ va_pl L f) ++ [(H.size, .inl (cA, n.toNatClampNeg, .inr (.inr (.inr (.inr (fun i => if i < n.toNatClampNeg then some (H.size + 1 + i) else none))))))]) ++ ((List.range n.toNatClampNeg).map (fun i => H.size + 1 + i)).map (fun a => (a, .inl (cy, z)))) := by
    have hD1 := hD.push (e := .inl (cA, n.toNatClampNeg, .inr (.inr (.inr (.inr (fun i => if i < n.toNatClampNeg then some (H.size + 1 + i) else none)))))) hP rfl (hA _ hS.1)
    generalize hW1 : (X ++ va_pl L f) ++ [(H.size, .inl (cA, n.toNatClampNeg, .inr (.inr (.inr (.inr (fun i => if i < n.toNatClampNeg then some (H.size + 1 + i) else none))))))] = W1 at hD1 hP1 ⊢
    have hle : ∀ (k9 : Nat) (x : Nat × va_E), W1[k9]? = some x → x.1 ≤ H.size := fun k9 x hx => by
      rw [← hW1] at hx
      by_cases hl : k9 < (X ++ va_pl L f).length
      · rw [List.getElem?_append_left hl] at hx
        exact Nat.le_of_lt ((hP k9 x hx).lt)
      · rw [List.getElem?_append_right (by omega)] at hx
        have h0 : k9 - (X ++ va_pl L f).length < 1 := (List.getElem?_eq_some_iff.mp hx).1
        rw [show k9 - (X ++ va_pl L f).length = 0 by omega] at hx
        cases hx
        exact Nat.le_refl _
    have hr : ∀ (k9 : Nat) (x : Nat × va_E), (((List.range n.toNatClampNeg).map (fun i => H.size + 1 + i)).map (fun a => ((a, .inl (cy, z)) : Nat × va_E)))[k9]? = some x → x.1 = H.size + 1 + k9 := fun k9 x hx => by
      rw [List.getElem?_map, List.getElem?_map] at hx
      by_cases h9 : k9 < n.toNatClampNeg
      · rw [List.getElem?_range h9] at hx
        cases hx
        rfl
      · have hn0 : (List.range n.toNatClampNeg)[k9]? = none := List.getElem?_eq_none (by rw [List.length_range]; omega)
        rw [hn0] at hx
        cases hx
    refine ⟨fun i j x y hi hj hxy => ?_, fun k9 x hx => ?_⟩
    · by_cases h1 : i < W1.length <;> by_cases h2 : j < W1.length
      · rw [List.getElem?_append_left h1] at hi
        rw [List.getElem?_append_left h2] at hj
        exact hD1.1 i j x y hi hj hxy
      · rw [List.getElem?_append_left h1] at hi
        rw [List.getElem?_append_right (by omega)] at hj
        have := hle _ _ hi
        have := hr _ _ hj
        omega
      · rw [List.getElem?_append_right (by omega)] at hi
        rw [List.getElem?_append_left h2] at hj
        have := hle _ _ hj
        have := hr _ _ hi
        omega
      · rw [List.getElem?_append_right (by omega)] at hi hj
        have := hr _ _ hi
        have := hr _ _ hj
        omega
    · by_cases h1 : k9 < W1.length
      · rw [List.getElem?_append_left h1] at hx
        exact hD1.2 k9 x hx
      · rw [List.getElem?_append_right (by omega)] at hx
        have := hr _ _ hx
        exact hA _ (by have := hS.1; omega)
  have hAr : ArrOfT s cA (.array ty) := fun N9 z9 => by
    obtain ⟨-, k9, hk9, cm9, hkk9⟩ := (hO 0 0 0).1
    exact ⟨(fun q hq => by cases hq), k9, hk9, cm9, hkk9⟩
  have hK2 : va_K D cl (tys ++ [(cA, .array ty)]) s := ⟨hK.1, fun k9 x hx => by
    by_cases hl : k9 < tys.length
    · rw [List.getElem?_append_left hl] at hx
      exact hK.2 k9 x hx
    · rw [List.getElem?_append_right (by omega)] at hx
      have h0 : k9 - tys.length < 1 := (List.getElem?_eq_some_iff.mp hx).1
      rw [show k9 - tys.length = 0 by omega] at hx
      cases hx
      exact ⟨hAr, fA⟩⟩
  obtain ⟨t, a1, b1⟩ := kk H.size (fun i => H.size + 1 + i) cA F.heap (fun i j _ _ h => by have h9 : H.size + 1 + i = H.size + 1 + j := h; omega) hnl hK2 (by rw [← vr_rows hnm]; exact vr_lay hP2) (by rw [← vr_rows hnm]; exact vr_layD hD2) ⟨by rw [f1]; have := hS.1; omega, fun x h1 h2 => (hold x (Nat.lt_of_lt_of_le h1 hS.1)).trans (hS.2.1 x h1 h2), hS.2.2⟩ F rfl X'
  refine ⟨t, step t ?_, b1⟩
  have e : T.heap.size = H.size := by rw [hT]
  rw [e]
  exact a1
end VGM
/-! ===== END ===== -/

/-! ===== BEGIN printed: names, fields, word lists, decode rows ===== -/
def RX0 : String := "LandReform$Giving"
def TX0 : u_T := fun k => match k with
  | 0 => ("LandReform$Giving", "leastSums", "[I", true)
  | 1 => ("LandReform$Giving", "distances", "[[I", true)
  | _ => ("LandReform$Giving", "size", "I", false)
def tyX0 : Nat → FieldType := fun k => match k with
  | 0 => .array .int
  | 1 => .array (.array .int)
  | _ => .int
abbrev wsX00 : List Cond := u_ws RX0 TX0 3
theorem nmX0 : ∀ a, a < 3 → ∀ b, b < 3 → a ≠ b → (TX0 a).2.1 ≠ (TX0 b).2.1 := by decide +kernel
theorem tyX0_ok : ∀ k, k < 3 → parseFieldDescriptor (TX0 k).2.2.1 = some (tyX0 k) := by decide +kernel
abbrev cX0_init : ByteArray := prog_2_method_1_code
def yX0_init : MethodName := ⟨RX0, "<init>", "()V"⟩
abbrev cX0_weigh : ByteArray := prog_2_method_2_code
def yX0_weigh : MethodName := ⟨RX0, "weigh", "(IIILLandReform$Land;LLandReform$People;)V"⟩
abbrev cX0_leastSum : ByteArray := prog_2_method_3_code
def yX0_leastSum : MethodName := ⟨RX0, "leastSum", "()I"⟩
abbrev cX0_choice : ByteArray := prog_2_method_4_code
def yX0_choice : MethodName := ⟨RX0, "choice", "(I)I"⟩
abbrev cX0_nearest : ByteArray := prog_2_method_5_code
def yX0_nearest : MethodName := ⟨RX0, "nearest", "(I)I"⟩
abbrev cX0_sumWith : ByteArray := prog_2_method_6_code
def yX0_sumWith : MethodName := ⟨RX0, "sumWith", "(II)I"⟩
def RX1 : String := "LandReform$Holding"
def TX1 : u_T := fun k => match k with
  | 0 => ("LandReform$Holding", "countedOwners", "[I", true)
  | 1 => ("LandReform$Holding", "counting", "[I", true)
  | 2 => ("LandReform$Holding", "standardSteps", "[I", true)
  | 3 => ("LandReform$Holding", "areaSteps", "[I", true)
  | 4 => ("LandReform$Holding", "size", "I", false)
  | 5 => ("LandReform$Holding", "members", "I", false)
  | 6 => ("LandReform$Holding", "standards", "I", false)
  | 7 => ("LandReform$Holding", "allowed", "I", false)
  | 8 => ("LandReform$Holding", "keptSet", "I", false)
  | _ => ("LandReform$Holding", "keptArea", "I", false)
def tyX1 : Nat → FieldType := fun k => match k with
  | 0 => .array .int
  | 1 => .array .int
  | 2 => .array .int
  | 3 => .array .int
  | 4 => .int
  | 5 => .int
  | 6 => .int
  | 7 => .int
  | 8 => .int
  | _ => .int
abbrev wsX10 : List Cond := u_ws RX1 TX1 10
theorem nmX1 : ∀ a, a < 10 → ∀ b, b < 10 → a ≠ b → (TX1 a).2.1 ≠ (TX1 b).2.1 := by decide +kernel
theorem tyX1_ok : ∀ k, k < 10 → parseFieldDescriptor (TX1 k).2.2.1 = some (tyX1 k) := by decide +kernel
abbrev cX1_init : ByteArray := prog_3_method_1_code
def yX1_init : MethodName := ⟨RX1, "<init>", "()V"⟩
abbrev cX1_countedOwner : ByteArray := prog_3_method_2_code
def yX1_countedOwner : MethodName := ⟨RX1, "countedOwner", "(ILLandReform$Land;LLandReform$People;LLandReform$Law;)I"⟩
abbrev cX1_countOwners : ByteArray := prog_3_method_3_code
def yX1_countOwners : MethodName := ⟨RX1, "countOwners", "(LLandReform$Land;LLandReform$People;LLandReform$Law;)V"⟩
abbrev cX1_gather : ByteArray := prog_3_method_4_code
def yX1_gather : MethodName := ⟨RX1, "gather", "(ILLandReform$Land;LLandReform$People;LLandReform$Law;)V"⟩
abbrev cX1_above : ByteArray := prog_3_method_5_code
def yX1_above : MethodName := ⟨RX1, "above", "()I"⟩
abbrev cX1_choose : ByteArray := prog_3_method_6_code
def yX1_choose : MethodName := ⟨RX1, "choose", "(LLandReform$Land;LLandReform$Law;)Z"⟩
abbrev cX1_prepareSteps : ByteArray := prog_3_method_7_code
def yX1_prepareSteps : MethodName := ⟨RX1, "prepareSteps", "(LLandReform$Land;LLandReform$Law;)V"⟩
abbrev cX1_keeps : ByteArray := prog_3_method_8_code
def yX1_keeps : MethodName := ⟨RX1, "keeps", "(I)Z"⟩
abbrev cX1_takenField : ByteArray := prog_3_method_9_code
def yX1_takenField : MethodName := ⟨RX1, "takenField", "(I)I"⟩
def RX2 : String := "LandReform$Land"
def TX2 : u_T := fun k => match k with
  | 0 => ("LandReform$Land", "places", "[I", true)
  | 1 => ("LandReform$Land", "areas", "[I", true)
  | 2 => ("LandReform$Land", "soils", "[I", true)
  | 3 => ("LandReform$Land", "crops", "[I", true)
  | 4 => ("LandReform$Land", "firstOwners", "[I", true)
  | 5 => ("LandReform$Land", "owners", "[I", true)
  | 6 => ("LandReform$Land", "size", "I", false)
  | 7 => ("LandReform$Land", "movedFields", "[I", true)
  | 8 => ("LandReform$Land", "receivers", "[I", true)
  | 9 => ("LandReform$Land", "days", "[I", true)
  | 10 => ("LandReform$Land", "transfers", "I", false)
  | _ => ("LandReform$Land", "today", "I", false)
def tyX2 : Nat → FieldType := fun k => match k with
  | 0 => .array .int
  | 1 => .array .int
  | 2 => .array .int
  | 3 => .array .int
  | 4 => .array .int
  | 5 => .array .int
  | 6 => .int
  | 7 => .array .int
  | 8 => .array .int
  | 9 => .array .int
  | 10 => .int
  | _ => .int
abbrev wsX20 : List Cond := u_ws RX2 TX2 12
theorem nmX2 : ∀ a, a < 12 → ∀ b, b < 12 → a ≠ b → (TX2 a).2.1 ≠ (TX2 b).2.1 := by decide +kernel
theorem tyX2_ok : ∀ k, k < 12 → parseFieldDescriptor (TX2 k).2.2.1 = some (tyX2 k) := by decide +kernel
abbrev cX2_init : ByteArray := prog_4_method_1_code
def yX2_init : MethodName := ⟨RX2, "<init>", "()V"⟩
abbrev cX2_has : ByteArray := prog_4_method_2_code
def yX2_has : MethodName := ⟨RX2, "has", "(I)Z"⟩
abbrev cX2_hasRow : ByteArray := prog_4_method_3_code
def yX2_hasRow : MethodName := ⟨RX2, "hasRow", "(II)Z"⟩
abbrev cX2_placeOf : ByteArray := prog_4_method_4_code
def yX2_placeOf : MethodName := ⟨RX2, "placeOf", "(I)I"⟩
abbrev cX2_areaOf : ByteArray := prog_4_method_5_code
def yX2_areaOf : MethodName := ⟨RX2, "areaOf", "(I)I"⟩
abbrev cX2_soilOf : ByteArray := prog_4_method_6_code
def yX2_soilOf : MethodName := ⟨RX2, "soilOf", "(I)I"⟩
abbrev cX2_cropOf : ByteArray := prog_4_method_7_code
def yX2_cropOf : MethodName := ⟨RX2, "cropOf", "(I)I"⟩
abbrev cX2_ownerOf : ByteArray := prog_4_method_8_code
def yX2_ownerOf : MethodName := ⟨RX2, "ownerOf", "(I)I"⟩
abbrev cX2_standardOf : ByteArray := prog_4_method_9_code
def yX2_standardOf : MethodName := ⟨RX2, "standardOf", "(ILLandReform$Law;)I"⟩
abbrev cX2_distance : ByteArray := prog_4_method_10_code
def yX2_distance : MethodName := ⟨RX2, "distance", "(II)I"⟩
abbrev cX2_transfersLeft : ByteArray := prog_4_method_11_code
def yX2_transfersLeft : MethodName := ⟨RX2, "transfersLeft", "()I"⟩
abbrev cX2_add : ByteArray := prog_4_method_12_code
def yX2_add : MethodName := ⟨RX2, "add", "(IIIII)I"⟩
abbrev cX2_move : ByteArray := prog_4_method_13_code
def yX2_move : MethodName := ⟨RX2, "move", "(II)V"⟩
abbrev cX2_transfersOf : ByteArray := prog_4_method_14_code
def yX2_transfersOf : MethodName := ⟨RX2, "transfersOf", "(I)I"⟩
abbrev cX2_ownerAsDayEnded : ByteArray := prog_4_method_15_code
def yX2_ownerAsDayEnded : MethodName := ⟨RX2, "ownerAsDayEnded", "(II)I"⟩
abbrev cX2_firstFieldOf : ByteArray := prog_4_method_16_code
def yX2_firstFieldOf : MethodName := ⟨RX2, "firstFieldOf", "(I)I"⟩
def RX3 : String := "LandReform$Law"
def TX3 : u_T := fun k => match k with
  | 0 => ("LandReform$Law", "soilValues", "[I", true)
  | 1 => ("LandReform$Law", "ceiling", "I", false)
  | 2 => ("LandReform$Law", "family", "I", false)
  | 3 => ("LandReform$Law", "lastFreeDay", "I", false)
  | 4 => ("LandReform$Law", "exemptCrops", "I", false)
  | 5 => ("LandReform$Law", "price", "I", false)
  | 6 => ("LandReform$Law", "years", "I", false)
  | 7 => ("LandReform$Law", "shares", "I", false)
  | _ => ("LandReform$Law", "statements", "I", false)
def tyX3 : Nat → FieldType := fun k => match k with
  | 0 => .array .int
  | 1 => .int
  | 2 => .int
  | 3 => .int
  | 4 => .int
  | 5 => .int
  | 6 => .int
  | 7 => .int
  | _ => .int
abbrev wsX30 : List Cond := u_ws RX3 TX3 9
theorem nmX3 : ∀ a, a < 9 → ∀ b, b < 9 → a ≠ b → (TX3 a).2.1 ≠ (TX3 b).2.1 := by decide +kernel
theorem tyX3_ok : ∀ k, k < 9 → parseFieldDescriptor (TX3 k).2.2.1 = some (tyX3 k) := by decide +kernel
abbrev cX3_init : ByteArray := prog_5_method_1_code
def yX3_init : MethodName := ⟨RX3, "<init>", "()V"⟩
abbrev cX3_clear : ByteArray := prog_5_method_2_code
def yX3_clear : MethodName := ⟨RX3, "clear", "()V"⟩
abbrev cX3_rule : ByteArray := prog_5_method_3_code
def yX3_rule : MethodName := ⟨RX3, "rule", "(III)V"⟩
abbrev cX3_exemptCrop : ByteArray := prog_5_method_4_code
def yX3_exemptCrop : MethodName := ⟨RX3, "exemptCrop", "(I)V"⟩
abbrev cX3_setSoil : ByteArray := prog_5_method_5_code
def yX3_setSoil : MethodName := ⟨RX3, "setSoil", "(II)V"⟩
abbrev cX3_soilIs : ByteArray := prog_5_method_6_code
def yX3_soilIs : MethodName := ⟨RX3, "soilIs", "(I)I"⟩
abbrev cX3_exempts : ByteArray := prog_5_method_7_code
def yX3_exempts : MethodName := ⟨RX3, "exempts", "(I)Z"⟩
abbrev cX3_allows : ByteArray := prog_5_method_8_code
def yX3_allows : MethodName := ⟨RX3, "allows", "(I)I"⟩
def RX4 : String := "LandReform$People"
def TX4 : u_T := fun k => match k with
  | 0 => ("LandReform$People", "houses", "[I", true)
  | 1 => ("LandReform$People", "homes", "[I", true)
  | 2 => ("LandReform$People", "kin", "[J", true)
  | 3 => ("LandReform$People", "size", "I", false)
  | _ => ("LandReform$People", "pairs", "I", false)
def tyX4 : Nat → FieldType := fun k => match k with
  | 0 => .array .int
  | 1 => .array .int
  | 2 => .array .long
  | 3 => .int
  | _ => .int
abbrev wsX40 : List Cond := u_ws RX4 TX4 5
theorem nmX4 : ∀ a, a < 5 → ∀ b, b < 5 → a ≠ b → (TX4 a).2.1 ≠ (TX4 b).2.1 := by decide +kernel
theorem tyX4_ok : ∀ k, k < 5 → parseFieldDescriptor (TX4 k).2.2.1 = some (tyX4 k) := by decide +kernel
abbrev cX4_init : ByteArray := prog_6_method_1_code
def yX4_init : MethodName := ⟨RX4, "<init>", "()V"⟩
abbrev cX4_has : ByteArray := prog_6_method_2_code
def yX4_has : MethodName := ⟨RX4, "has", "(I)Z"⟩
abbrev cX4_hasRow : ByteArray := prog_6_method_3_code
def yX4_hasRow : MethodName := ⟨RX4, "hasRow", "(II)Z"⟩
abbrev cX4_houseOf : ByteArray := prog_6_method_4_code
def yX4_houseOf : MethodName := ⟨RX4, "houseOf", "(I)I"⟩
abbrev cX4_homeOf : ByteArray := prog_6_method_5_code
def yX4_homeOf : MethodName := ⟨RX4, "homeOf", "(I)I"⟩
abbrev cX4_add : ByteArray := prog_6_method_6_code
def yX4_add : MethodName := ⟨RX4, "add", "(II)I"⟩
abbrev cX4_bind : ByteArray := prog_6_method_7_code
def yX4_bind : MethodName := ⟨RX4, "bind", "(II)Z"⟩
abbrev cX4_areKin : ByteArray := prog_6_method_8_code
def yX4_areKin : MethodName := ⟨RX4, "areKin", "(II)Z"⟩
abbrev cX4_areOfOneFamily : ByteArray := prog_6_method_9_code
def yX4_areOfOneFamily : MethodName := ⟨RX4, "areOfOneFamily", "(II)Z"⟩
abbrev cX4_membersOf : ByteArray := prog_6_method_10_code
def yX4_membersOf : MethodName := ⟨RX4, "membersOf", "(I)I"⟩
def RX5 : String := "LandReform$Reader"
def TX5 : u_T := fun k => match k with
  | 0 => ("LandReform$Reader", "text", "[B", true)
  | 1 => ("LandReform$Reader", "length", "I", false)
  | 2 => ("LandReform$Reader", "tokenStart", "I", false)
  | 3 => ("LandReform$Reader", "tokenEnd", "I", false)
  | _ => ("LandReform$Reader", "fault", "I", false)
def tyX5 : Nat → FieldType := fun k => match k with
  | 0 => .array .byte
  | 1 => .int
  | 2 => .int
  | 3 => .int
  | _ => .int
abbrev wsX50 : List Cond := u_ws RX5 TX5 5
theorem nmX5 : ∀ a, a < 5 → ∀ b, b < 5 → a ≠ b → (TX5 a).2.1 ≠ (TX5 b).2.1 := by decide +kernel
theorem tyX5_ok : ∀ k, k < 5 → parseFieldDescriptor (TX5 k).2.2.1 = some (tyX5 k) := by decide +kernel
abbrev cX5_init : ByteArray := prog_7_method_1_code
def yX5_init : MethodName := ⟨RX5, "<init>", "([B)V"⟩
abbrev cX5_readAct : ByteArray := prog_7_method_2_code
def yX5_readAct : MethodName := ⟨RX5, "readAct", "(ILLandReform$Law;)Z"⟩
abbrev cX5_readStatement : ByteArray := prog_7_method_3_code
def yX5_readStatement : MethodName := ⟨RX5, "readStatement", "(LLandReform$Law;)Z"⟩
abbrev cX5_nextToken : ByteArray := prog_7_method_4_code
def yX5_nextToken : MethodName := ⟨RX5, "nextToken", "()V"⟩
abbrev cX5_keyword : ByteArray := prog_7_method_5_code
def yX5_keyword : MethodName := ⟨RX5, "keyword", "()I"⟩
abbrev cX5_spells : ByteArray := prog_7_method_6_code
def yX5_spells : MethodName := ⟨RX5, "spells", "(Ljava/lang/String;)Z"⟩
abbrev cX5_number : ByteArray := prog_7_method_7_code
def yX5_number : MethodName := ⟨RX5, "number", "(II)I"⟩
abbrev cX5_isBlank : ByteArray := prog_7_method_8_code
def yX5_isBlank : MethodName := ⟨RX5, "isBlank", "(B)Z"⟩
abbrev cX5_isLetter : ByteArray := prog_7_method_9_code
def yX5_isLetter : MethodName := ⟨RX5, "isLetter", "(B)Z"⟩
abbrev cX5_isDigit : ByteArray := prog_7_method_10_code
def yX5_isDigit : MethodName := ⟨RX5, "isDigit", "(B)Z"⟩
def RX6 : String := "LandReform$Rings"
def TX6 : u_T := fun k => match k with
  | 0 => ("LandReform$Rings", "homes", "[I", true)
  | 1 => ("LandReform$Rings", "fieldsHad", "[I", true)
  | 2 => ("LandReform$Rings", "placesHad", "[I", true)
  | 3 => ("LandReform$Rings", "fieldsGot", "[I", true)
  | 4 => ("LandReform$Rings", "pointedAt", "[I", true)
  | 5 => ("LandReform$Rings", "size", "I", false)
  | _ => ("LandReform$Rings", "closed", "I", false)
def tyX6 : Nat → FieldType := fun k => match k with
  | 0 => .array .int
  | 1 => .array .int
  | 2 => .array .int
  | 3 => .array .int
  | 4 => .array .int
  | 5 => .int
  | _ => .int
abbrev wsX60 : List Cond := u_ws RX6 TX6 7
theorem nmX6 : ∀ a, a < 7 → ∀ b, b < 7 → a ≠ b → (TX6 a).2.1 ≠ (TX6 b).2.1 := by decide +kernel
theorem tyX6_ok : ∀ k, k < 7 → parseFieldDescriptor (TX6 k).2.2.1 = some (tyX6 k) := by decide +kernel
abbrev cX6_init : ByteArray := prog_8_method_1_code
def yX6_init : MethodName := ⟨RX6, "<init>", "()V"⟩
abbrev cX6_close : ByteArray := prog_8_method_2_code
def yX6_close : MethodName := ⟨RX6, "close", "(IILLandReform$Land;LLandReform$People;)Z"⟩
abbrev cX6_point : ByteArray := prog_8_method_3_code
def yX6_point : MethodName := ⟨RX6, "point", "()V"⟩
abbrev cX6_holderOfNearest : ByteArray := prog_8_method_4_code
def yX6_holderOfNearest : MethodName := ⟨RX6, "holderOfNearest", "(I)I"⟩
abbrev cX6_leaveInRings : ByteArray := prog_8_method_5_code
def yX6_leaveInRings : MethodName := ⟨RX6, "leaveInRings", "()V"⟩
abbrev cX6_leastInRing : ByteArray := prog_8_method_6_code
def yX6_leastInRing : MethodName := ⟨RX6, "leastInRing", "(I)I"⟩
abbrev cX6_fieldFor : ByteArray := prog_8_method_7_code
def yX6_fieldFor : MethodName := ⟨RX6, "fieldFor", "(I)I"⟩
abbrev cX6_changes : ByteArray := prog_8_method_8_code
def yX6_changes : MethodName := ⟨RX6, "changes", "()I"⟩
abbrev cX6_winnerOf : ByteArray := prog_8_method_9_code
def yX6_winnerOf : MethodName := ⟨RX6, "winnerOf", "(I)I"⟩
def RX7 : String := "LandReform$Sale"
def TX7 : u_T := fun k => match k with
  | 0 => ("LandReform$Sale", "soldField", "I", true)
  | 1 => ("LandReform$Sale", "buyer", "I", true)
  | 2 => ("LandReform$Sale", "owed", "I", true)
  | 3 => ("LandReform$Sale", "part", "I", true)
  | 4 => ("LandReform$Sale", "rest", "I", true)
  | 5 => ("LandReform$Sale", "paid", "I", false)
  | 6 => ("LandReform$Sale", "partsLeft", "I", false)
  | 7 => ("LandReform$Sale", "partsBeforeRest", "I", false)
  | _ => ("LandReform$Sale", "yearsPutOff", "I", false)
def tyX7 : Nat → FieldType := fun k => match k with
  | 0 => .int
  | 1 => .int
  | 2 => .int
  | 3 => .int
  | 4 => .int
  | 5 => .int
  | 6 => .int
  | 7 => .int
  | _ => .int
abbrev wsX70 : List Cond := u_ws RX7 TX7 9
theorem nmX7 : ∀ a, a < 9 → ∀ b, b < 9 → a ≠ b → (TX7 a).2.1 ≠ (TX7 b).2.1 := by decide +kernel
theorem tyX7_ok : ∀ k, k < 9 → parseFieldDescriptor (TX7 k).2.2.1 = some (tyX7 k) := by decide +kernel
abbrev cX7_init : ByteArray := prog_9_method_1_code
def yX7_init : MethodName := ⟨RX7, "<init>", "(IIII)V"⟩
abbrev cX7_pass : ByteArray := prog_9_method_2_code
def yX7_pass : MethodName := ⟨RX7, "pass", "(Z)I"⟩
def RX8 : String := "LandReform$Tape"
def TX8 : u_T := fun k => match k with
  | 0 => ("LandReform$Tape", "bytes", "[B", true)
  | _ => ("LandReform$Tape", "length", "I", false)
def tyX8 : Nat → FieldType := fun k => match k with
  | 0 => .array .byte
  | _ => .int
abbrev wsX80 : List Cond := u_ws RX8 TX8 2
theorem nmX8 : ∀ a, a < 2 → ∀ b, b < 2 → a ≠ b → (TX8 a).2.1 ≠ (TX8 b).2.1 := by decide +kernel
theorem tyX8_ok : ∀ k, k < 2 → parseFieldDescriptor (TX8 k).2.2.1 = some (tyX8 k) := by decide +kernel
abbrev cX8_init : ByteArray := prog_10_method_1_code
def yX8_init : MethodName := ⟨RX8, "<init>", "()V"⟩
abbrev cX8_room : ByteArray := prog_10_method_2_code
def yX8_room : MethodName := ⟨RX8, "room", "()I"⟩
abbrev cX8_append : ByteArray := prog_10_method_3_code
def yX8_append : MethodName := ⟨RX8, "append", "(I)V"⟩
def RX9 : String := "LandReform$Tenancies"
def TX9 : u_T := fun k => match k with
  | 0 => ("LandReform$Tenancies", "fields", "[I", true)
  | 1 => ("LandReform$Tenancies", "persons", "[I", true)
  | 2 => ("LandReform$Tenancies", "yearSets", "[I", true)
  | _ => ("LandReform$Tenancies", "size", "I", false)
def tyX9 : Nat → FieldType := fun k => match k with
  | 0 => .array .int
  | 1 => .array .int
  | 2 => .array .int
  | _ => .int
abbrev wsX90 : List Cond := u_ws RX9 TX9 4
theorem nmX9 : ∀ a, a < 4 → ∀ b, b < 4 → a ≠ b → (TX9 a).2.1 ≠ (TX9 b).2.1 := by decide +kernel
theorem tyX9_ok : ∀ k, k < 4 → parseFieldDescriptor (TX9 k).2.2.1 = some (tyX9 k) := by decide +kernel
abbrev cX9_init : ByteArray := prog_11_method_1_code
def yX9_init : MethodName := ⟨RX9, "<init>", "()V"⟩
abbrev cX9_tell : ByteArray := prog_11_method_2_code
def yX9_tell : MethodName := ⟨RX9, "tell", "(III)I"⟩
abbrev cX9_pairOf : ByteArray := prog_11_method_3_code
def yX9_pairOf : MethodName := ⟨RX9, "pairOf", "(II)I"⟩
abbrev cX9_tenantOf : ByteArray := prog_11_method_4_code
def yX9_tenantOf : MethodName := ⟨RX9, "tenantOf", "(III)I"⟩
def RX10 : String := "LandReform"
def TX10 : u_T := fun k => match k with
  | 0 => ("LandReform", "people", "LLandReform$People;", true)
  | 1 => ("LandReform", "land", "LLandReform$Land;", true)
  | 2 => ("LandReform", "tape", "LLandReform$Tape;", true)
  | 3 => ("LandReform", "reader", "LLandReform$Reader;", true)
  | 4 => ("LandReform", "holding", "LLandReform$Holding;", true)
  | 5 => ("LandReform", "tenancies", "LLandReform$Tenancies;", true)
  | 6 => ("LandReform", "giving", "LLandReform$Giving;", true)
  | 7 => ("LandReform", "rings", "LLandReform$Rings;", true)
  | 8 => ("LandReform", "sales", "[LLandReform$Sale;", true)
  | 9 => ("LandReform", "saleCount", "I", false)
  | 10 => ("LandReform", "law", "LLandReform$Law;", false)
  | _ => ("LandReform", "draft", "LLandReform$Law;", false)
def tyX10 : Nat → FieldType := fun k => match k with
  | 0 => .object "LandReform$People"
  | 1 => .object "LandReform$Land"
  | 2 => .object "LandReform$Tape"
  | 3 => .object "LandReform$Reader"
  | 4 => .object "LandReform$Holding"
  | 5 => .object "LandReform$Tenancies"
  | 6 => .object "LandReform$Giving"
  | 7 => .object "LandReform$Rings"
  | 8 => .array (.object "LandReform$Sale")
  | 9 => .int
  | 10 => .object "LandReform$Law"
  | _ => .object "LandReform$Law"
abbrev wsX100 : List Cond := u_ws RX10 TX10 12
theorem nmX10 : ∀ a, a < 12 → ∀ b, b < 12 → a ≠ b → (TX10 a).2.1 ≠ (TX10 b).2.1 := by decide +kernel
theorem tyX10_ok : ∀ k, k < 12 → parseFieldDescriptor (TX10 k).2.2.1 = some (tyX10 k) := by decide +kernel
abbrev cX10_init : ByteArray := prog_1_method_1_code
def yX10_init : MethodName := ⟨RX10, "<init>", "()V"⟩
abbrev cX10_person : ByteArray := prog_1_method_2_code
def yX10_person : MethodName := ⟨RX10, "person", "(II)I"⟩
abbrev cX10_akin : ByteArray := prog_1_method_3_code
def yX10_akin : MethodName := ⟨RX10, "akin", "(II)Z"⟩
abbrev cX10_field : ByteArray := prog_1_method_4_code
def yX10_field : MethodName := ⟨RX10, "field", "(IIIII)I"⟩
abbrev cX10_day : ByteArray := prog_1_method_5_code
def yX10_day : MethodName := ⟨RX10, "day", "(I)Z"⟩
abbrev cX10_transfer : ByteArray := prog_1_method_6_code
def yX10_transfer : MethodName := ⟨RX10, "transfer", "(II)Z"⟩
abbrev cX10_feed : ByteArray := prog_1_method_7_code
def yX10_feed : MethodName := ⟨RX10, "feed", "(IIIII)I"⟩
abbrev cX10_act : ByteArray := prog_1_method_8_code
def yX10_act : MethodName := ⟨RX10, "act", "(I)I"⟩
abbrev cX10_fault : ByteArray := prog_1_method_9_code
def yX10_fault : MethodName := ⟨RX10, "fault", "()I"⟩
abbrev cX10_told : ByteArray := prog_1_method_10_code
def yX10_told : MethodName := ⟨RX10, "told", "(II)I"⟩
abbrev cX10_owned : ByteArray := prog_1_method_11_code
def yX10_owned : MethodName := ⟨RX10, "owned", "(II)I"⟩
abbrev cX10_house : ByteArray := prog_1_method_12_code
def yX10_house : MethodName := ⟨RX10, "house", "(II)I"⟩
abbrev cX10_kept : ByteArray := prog_1_method_13_code
def yX10_kept : MethodName := ⟨RX10, "kept", "(II)I"⟩
abbrev cX10_taken : ByteArray := prog_1_method_14_code
def yX10_taken : MethodName := ⟨RX10, "taken", "(II)I"⟩
abbrev cX10_share : ByteArray := prog_1_method_15_code
def yX10_share : MethodName := ⟨RX10, "share", "(III)I"⟩
abbrev cX10_given : ByteArray := prog_1_method_16_code
def yX10_given : MethodName := ⟨RX10, "given", "(IIII)I"⟩
abbrev cX10_rings : ByteArray := prog_1_method_17_code
def yX10_rings : MethodName := ⟨RX10, "rings", "(III)I"⟩
abbrev cX10_swap : ByteArray := prog_1_method_18_code
def yX10_swap : MethodName := ⟨RX10, "swap", "(II)I"⟩
abbrev cX10_sell : ByteArray := prog_1_method_19_code
def yX10_sell : MethodName := ⟨RX10, "sell", "(II)I"⟩
abbrev cX10_year : ByteArray := prog_1_method_20_code
def yX10_year : MethodName := ⟨RX10, "year", "(IZ)I"⟩
abbrev cX10_sale : ByteArray := prog_1_method_21_code
def yX10_sale : MethodName := ⟨RX10, "sale", "(II)I"⟩
abbrev cX10_count : ByteArray := prog_1_method_22_code
def yX10_count : MethodName := ⟨RX10, "count", "(I)I"⟩
abbrev cX10_ringsClose : ByteArray := prog_1_method_23_code
def yX10_ringsClose : MethodName := ⟨RX10, "ringsClose", "(II)Z"⟩
abbrev cX10_saleNumbered : ByteArray := prog_1_method_24_code
def yX10_saleNumbered : MethodName := ⟨RX10, "saleNumbered", "(I)LLandReform$Sale;"⟩
abbrev cX10_isBelow : ByteArray := prog_1_method_25_code
def yX10_isBelow : MethodName := ⟨RX10, "isBelow", "(II)Z"⟩
def RX11 : String := "LandReformModel"
def TX11 : u_T := fun k => match k with
  | 0 => ("LandReformModel", "today", "I", false)
  | 1 => ("LandReformModel", "persons", "I", false)
  | 2 => ("LandReformModel", "fields", "I", false)
  | 3 => ("LandReformModel", "transfers", "I", false)
  | 4 => ("LandReformModel", "kin", "I", false)
  | 5 => ("LandReformModel", "house", "[I", true)
  | 6 => ("LandReformModel", "home", "[I", true)
  | 7 => ("LandReformModel", "isAkin", "[Z", true)
  | 8 => ("LandReformModel", "place", "[I", true)
  | 9 => ("LandReformModel", "area", "[I", true)
  | 10 => ("LandReformModel", "soil", "[I", true)
  | 11 => ("LandReformModel", "crop", "[I", true)
  | 12 => ("LandReformModel", "firstOwner", "[I", true)
  | 13 => ("LandReformModel", "transferred", "[I", true)
  | 14 => ("LandReformModel", "goesTo", "[I", true)
  | 15 => ("LandReformModel", "goesOn", "[I", true)
  | 16 => ("LandReformModel", "told", "[I", true)
  | 17 => ("LandReformModel", "many", "I", false)
  | 18 => ("LandReformModel", "tape", "[B", true)
  | 19 => ("LandReformModel", "text", "[B", true)
  | 20 => ("LandReformModel", "taped", "I", false)
  | 21 => ("LandReformModel", "size", "I", false)
  | 22 => ("LandReformModel", "at", "I", false)
  | 23 => ("LandReformModel", "fault", "I", false)
  | 24 => ("LandReformModel", "wordEnd", "I", false)
  | 25 => ("LandReformModel", "number", "I", false)
  | 26 => ("LandReformModel", "row", "[I", true)
  | 27 => ("LandReformModel", "bestSet", "I", false)
  | 28 => ("LandReformModel", "bestArea", "I", false)
  | 29 => ("LandReformModel", "pairs", "I", false)
  | 30 => ("LandReformModel", "pairField", "[I", true)
  | 31 => ("LandReformModel", "pairPerson", "[I", true)
  | 32 => ("LandReformModel", "pairYears", "[I", true)
  | 33 => ("LandReformModel", "way", "[I", true)
  | 34 => ("LandReformModel", "bestWay", "[I", true)
  | 35 => ("LandReformModel", "has", "[I", true)
  | 36 => ("LandReformModel", "gets", "[I", true)
  | 37 => ("LandReformModel", "points", "[I", true)
  | 38 => ("LandReformModel", "sales", "I", false)
  | 39 => ("LandReformModel", "saleField", "[I", true)
  | 40 => ("LandReformModel", "buyer", "[I", true)
  | 41 => ("LandReformModel", "owed", "[I", true)
  | 42 => ("LandReformModel", "parts", "[I", true)
  | 43 => ("LandReformModel", "paid", "[I", true)
  | 44 => ("LandReformModel", "left", "[I", true)
  | 45 => ("LandReformModel", "putOff", "[I", true)
  | _ => ("LandReformModel", "restAt", "[I", true)
def tyX11 : Nat → FieldType := fun k => match k with
  | 0 => .int
  | 1 => .int
  | 2 => .int
  | 3 => .int
  | 4 => .int
  | 5 => .array .int
  | 6 => .array .int
  | 7 => .array .boolean
  | 8 => .array .int
  | 9 => .array .int
  | 10 => .array .int
  | 11 => .array .int
  | 12 => .array .int
  | 13 => .array .int
  | 14 => .array .int
  | 15 => .array .int
  | 16 => .array .int
  | 17 => .int
  | 18 => .array .byte
  | 19 => .array .byte
  | 20 => .int
  | 21 => .int
  | 22 => .int
  | 23 => .int
  | 24 => .int
  | 25 => .int
  | 26 => .array .int
  | 27 => .int
  | 28 => .int
  | 29 => .int
  | 30 => .array .int
  | 31 => .array .int
  | 32 => .array .int
  | 33 => .array .int
  | 34 => .array .int
  | 35 => .array .int
  | 36 => .array .int
  | 37 => .array .int
  | 38 => .int
  | 39 => .array .int
  | 40 => .array .int
  | 41 => .array .int
  | 42 => .array .int
  | 43 => .array .int
  | 44 => .array .int
  | 45 => .array .int
  | _ => .array .int
abbrev wsX110 : List Cond := u_ws RX11 TX11 47
theorem nmX11 : ∀ a, a < 47 → ∀ b, b < 47 → a ≠ b → (TX11 a).2.1 ≠ (TX11 b).2.1 := by decide +kernel
theorem tyX11_ok : ∀ k, k < 47 → parseFieldDescriptor (TX11 k).2.2.1 = some (tyX11 k) := by decide +kernel
abbrev cX11_init : ByteArray := prog_13_method_1_code
def yX11_init : MethodName := ⟨RX11, "<init>", "()V"⟩
abbrev cX11_isIn : ByteArray := prog_13_method_2_code
def yX11_isIn : MethodName := ⟨RX11, "isIn", "(III)Z"⟩
abbrev cX11_one : ByteArray := prog_13_method_3_code
def yX11_one : MethodName := ⟨RX11, "one", "(Z)I"⟩
abbrev cX11_isPerson : ByteArray := prog_13_method_4_code
def yX11_isPerson : MethodName := ⟨RX11, "isPerson", "(I)Z"⟩
abbrev cX11_isField : ByteArray := prog_13_method_5_code
def yX11_isField : MethodName := ⟨RX11, "isField", "(I)Z"⟩
abbrev cX11_person : ByteArray := prog_13_method_6_code
def yX11_person : MethodName := ⟨RX11, "person", "(II)I"⟩
abbrev cX11_akin : ByteArray := prog_13_method_7_code
def yX11_akin : MethodName := ⟨RX11, "akin", "(II)Z"⟩
abbrev cX11_field : ByteArray := prog_13_method_8_code
def yX11_field : MethodName := ⟨RX11, "field", "(IIIII)I"⟩
abbrev cX11_day : ByteArray := prog_13_method_9_code
def yX11_day : MethodName := ⟨RX11, "day", "(I)Z"⟩
abbrev cX11_ownerOn : ByteArray := prog_13_method_10_code
def yX11_ownerOn : MethodName := ⟨RX11, "ownerOn", "(II)I"⟩
abbrev cX11_owner : ByteArray := prog_13_method_11_code
def yX11_owner : MethodName := ⟨RX11, "owner", "(I)I"⟩
abbrev cX11_goes : ByteArray := prog_13_method_12_code
def yX11_goes : MethodName := ⟨RX11, "goes", "(II)V"⟩
abbrev cX11_transfer : ByteArray := prog_13_method_13_code
def yX11_transfer : MethodName := ⟨RX11, "transfer", "(II)Z"⟩
abbrev cX11_owned : ByteArray := prog_13_method_14_code
def yX11_owned : MethodName := ⟨RX11, "owned", "(II)I"⟩
abbrev cX11_begins : ByteArray := prog_13_method_15_code
def yX11_begins : MethodName := ⟨RX11, "begins", "(I)V"⟩
abbrev cX11_feed : ByteArray := prog_13_method_16_code
def yX11_feed : MethodName := ⟨RX11, "feed", "(IIIII)I"⟩
abbrev cX11_four : ByteArray := prog_13_method_17_code
def yX11_four : MethodName := ⟨RX11, "four", "(I)V"⟩
abbrev cX11_blanks : ByteArray := prog_13_method_18_code
def yX11_blanks : MethodName := ⟨RX11, "blanks", "()V"⟩
abbrev cX11_word : ByteArray := prog_13_method_19_code
def yX11_word : MethodName := ⟨RX11, "word", "()J"⟩
abbrev cX11_takes : ByteArray := prog_13_method_20_code
def yX11_takes : MethodName := ⟨RX11, "takes", "(J)Z"⟩
abbrev cX11_takesNumber : ByteArray := prog_13_method_21_code
def yX11_takesNumber : MethodName := ⟨RX11, "takesNumber", "(II)Z"⟩
abbrev cX11_statement : ByteArray := prog_13_method_22_code
def yX11_statement : MethodName := ⟨RX11, "statement", "()Z"⟩
abbrev cX11_act : ByteArray := prog_13_method_23_code
def yX11_act : MethodName := ⟨RX11, "act", "(I)I"⟩
abbrev cX11_fault : ByteArray := prog_13_method_24_code
def yX11_fault : MethodName := ⟨RX11, "fault", "()I"⟩
abbrev cX11_standard : ByteArray := prog_13_method_25_code
def yX11_standard : MethodName := ⟨RX11, "standard", "(I)I"⟩
abbrev cX11_isExempt : ByteArray := prog_13_method_26_code
def yX11_isExempt : MethodName := ⟨RX11, "isExempt", "(I)Z"⟩
abbrev cX11_counted : ByteArray := prog_13_method_27_code
def yX11_counted : MethodName := ⟨RX11, "counted", "(I)I"⟩
abbrev cX11_transfersOf : ByteArray := prog_13_method_28_code
def yX11_transfersOf : MethodName := ⟨RX11, "transfersOf", "(I)I"⟩
abbrev cX11_told : ByteArray := prog_13_method_29_code
def yX11_told : MethodName := ⟨RX11, "told", "(II)I"⟩
abbrev cX11_counts : ByteArray := prog_13_method_30_code
def yX11_counts : MethodName := ⟨RX11, "counts", "(I)I"⟩
abbrev cX11_peopleOf : ByteArray := prog_13_method_31_code
def yX11_peopleOf : MethodName := ⟨RX11, "peopleOf", "(I)I"⟩
abbrev cX11_holding : ByteArray := prog_13_method_32_code
def yX11_holding : MethodName := ⟨RX11, "holding", "(I)I"⟩
abbrev cX11_mayHave : ByteArray := prog_13_method_33_code
def yX11_mayHave : MethodName := ⟨RX11, "mayHave", "(I)I"⟩
abbrev cX11_isHouse : ByteArray := prog_13_method_34_code
def yX11_isHouse : MethodName := ⟨RX11, "isHouse", "(I)Z"⟩
abbrev cX11_house : ByteArray := prog_13_method_35_code
def yX11_house : MethodName := ⟨RX11, "house", "(II)I"⟩
abbrev cX11_keeps : ByteArray := prog_13_method_36_code
def yX11_keeps : MethodName := ⟨RX11, "keeps", "(II)V"⟩
abbrev cX11_kept : ByteArray := prog_13_method_37_code
def yX11_kept : MethodName := ⟨RX11, "kept", "(II)I"⟩
abbrev cX11_taken : ByteArray := prog_13_method_38_code
def yX11_taken : MethodName := ⟨RX11, "taken", "(II)I"⟩
abbrev cX11_bits : ByteArray := prog_13_method_39_code
def yX11_bits : MethodName := ⟨RX11, "bits", "(I)I"⟩
abbrev cX11_share : ByteArray := prog_13_method_40_code
def yX11_share : MethodName := ⟨RX11, "share", "(III)I"⟩
abbrev cX11_tenant : ByteArray := prog_13_method_41_code
def yX11_tenant : MethodName := ⟨RX11, "tenant", "(I)I"⟩
abbrev cX11_given : ByteArray := prog_13_method_42_code
def yX11_given : MethodName := ⟨RX11, "given", "(IIII)I"⟩
abbrev cX11_firstOf : ByteArray := prog_13_method_43_code
def yX11_firstOf : MethodName := ⟨RX11, "firstOf", "(I)I"⟩
abbrev cX11_turns : ByteArray := prog_13_method_44_code
def yX11_turns : MethodName := ⟨RX11, "turns", "(II)I"⟩
abbrev cX11_wanted : ByteArray := prog_13_method_45_code
def yX11_wanted : MethodName := ⟨RX11, "wanted", "(II)I"⟩
abbrev cX11_isRow : ByteArray := prog_13_method_46_code
def yX11_isRow : MethodName := ⟨RX11, "isRow", "(II)Z"⟩
abbrev cX11_rings : ByteArray := prog_13_method_47_code
def yX11_rings : MethodName := ⟨RX11, "rings", "(III)I"⟩
abbrev cX11_swap : ByteArray := prog_13_method_48_code
def yX11_swap : MethodName := ⟨RX11, "swap", "(II)I"⟩
abbrev cX11_sell : ByteArray := prog_13_method_49_code
def yX11_sell : MethodName := ⟨RX11, "sell", "(II)I"⟩
abbrev cX11_year : ByteArray := prog_13_method_50_code
def yX11_year : MethodName := ⟨RX11, "year", "(IZ)I"⟩
abbrev cX11_sale : ByteArray := prog_13_method_51_code
def yX11_sale : MethodName := ⟨RX11, "sale", "(II)I"⟩
abbrev cX11_count : ByteArray := prog_13_method_52_code
def yX11_count : MethodName := ⟨RX11, "count", "(I)I"⟩
def RJ6 : String := "java/lang/Integer"
def TJ6 : u_T := fun k => match k with
  | _ => ("", "", "", false)
def tyJ6 : Nat → FieldType := fun k => match k with
  | _ => .int
abbrev wsJ60 : List Cond := u_ws RJ6 TJ6 0
theorem nmJ6 : ∀ a, a < 0 → ∀ b, b < 0 → a ≠ b → (TJ6 a).2.1 ≠ (TJ6 b).2.1 := by decide +kernel
theorem tyJ6_ok : ∀ k, k < 0 → parseFieldDescriptor (TJ6 k).2.2.1 = some (tyJ6 k) := by decide +kernel
abbrev cJ6_numberOfTrailingZeros_0f7a4 : ByteArray := prog_14_method_48_code
def yJ6_numberOfTrailingZeros_0f7a4 : MethodName := ⟨RJ6, "numberOfTrailingZeros", "(I)I"⟩
abbrev cJ6_bitCount_0f7a4 : ByteArray := prog_14_method_49_code
def yJ6_bitCount_0f7a4 : MethodName := ⟨RJ6, "bitCount", "(I)I"⟩
def RJ9 : String := "java/lang/Math"
def TJ9 : u_T := fun k => match k with
  | _ => ("", "", "", false)
def tyJ9 : Nat → FieldType := fun k => match k with
  | _ => .int
abbrev wsJ90 : List Cond := u_ws RJ9 TJ9 0
theorem nmJ9 : ∀ a, a < 0 → ∀ b, b < 0 → a ≠ b → (TJ9 a).2.1 ≠ (TJ9 b).2.1 := by decide +kernel
theorem tyJ9_ok : ∀ k, k < 0 → parseFieldDescriptor (TJ9 k).2.2.1 = some (tyJ9 k) := by decide +kernel
abbrev cJ9_abs_0f7a4 : ByteArray := prog_15_method_59_code
def yJ9_abs_0f7a4 : MethodName := ⟨RJ9, "abs", "(I)I"⟩
abbrev cJ9_max_7cf53 : ByteArray := prog_15_method_65_code
def yJ9_max_7cf53 : MethodName := ⟨RJ9, "max", "(II)I"⟩
abbrev cJ9_min_7cf53 : ByteArray := prog_15_method_69_code
def yJ9_min_7cf53 : MethodName := ⟨RJ9, "min", "(II)I"⟩
def RJ0 : String := "java/lang/String"
def TJ0 : u_T := fun k => match k with
  | _ => ("", "", "", false)
def tyJ0 : Nat → FieldType := fun k => match k with
  | _ => .int
abbrev wsJ00 : List Cond := u_ws RJ0 TJ0 0
theorem nmJ0 : ∀ a, a < 0 → ∀ b, b < 0 → a ≠ b → (TJ0 a).2.1 ≠ (TJ0 b).2.1 := by decide +kernel
theorem tyJ0_ok : ∀ k, k < 0 → parseFieldDescriptor (TJ0 k).2.2.1 = some (tyJ0 k) := by decide +kernel
abbrev cJ0_length_8abf5 : ByteArray := prog_16_method_54_code
def yJ0_length_8abf5 : MethodName := ⟨RJ0, "length", "()I"⟩
abbrev cJ0_charAt_5068e : ByteArray := prog_16_method_56_code
def yJ0_charAt_5068e : MethodName := ⟨RJ0, "charAt", "(I)C"⟩
abbrev cJ0_coder_7d493 : ByteArray := prog_16_method_152_code
def yJ0_coder_7d493 : MethodName := ⟨RJ0, "coder", "()B"⟩
abbrev cJ0_isLatin1_aae02 : ByteArray := prog_16_method_154_code
def yJ0_isLatin1_aae02 : MethodName := ⟨RJ0, "isLatin1", "()Z"⟩
abbrev cJ0_checkIndex_df160 : ByteArray := prog_16_method_155_code
def yJ0_checkIndex_df160 : MethodName := ⟨RJ0, "checkIndex", "(II)V"⟩
def RJ1 : String := "java/lang/StringLatin1"
def TJ1 : u_T := fun k => match k with
  | _ => ("", "", "", false)
def tyJ1 : Nat → FieldType := fun k => match k with
  | _ => .int
abbrev wsJ10 : List Cond := u_ws RJ1 TJ1 0
theorem nmJ1 : ∀ a, a < 0 → ∀ b, b < 0 → a ≠ b → (TJ1 a).2.1 ≠ (TJ1 b).2.1 := by decide +kernel
theorem tyJ1_ok : ∀ k, k < 0 → parseFieldDescriptor (TJ1 k).2.2.1 = some (tyJ1 k) := by decide +kernel
abbrev cJ1_charAt_3b067 : ByteArray := prog_17_method_2_code
def yJ1_charAt_3b067 : MethodName := ⟨RJ1, "charAt", "([BI)C"⟩
def RJ2 : String := "java/lang/StringUTF16"
def TJ2 : u_T := fun k => match k with
  | _ => ("", "", "", false)
def tyJ2 : Nat → FieldType := fun k => match k with
  | _ => .int
abbrev wsJ20 : List Cond := u_ws RJ2 TJ2 0
theorem nmJ2 : ∀ a, a < 0 → ∀ b, b < 0 → a ≠ b → (TJ2 a).2.1 ≠ (TJ2 b).2.1 := by decide +kernel
theorem tyJ2_ok : ∀ k, k < 0 → parseFieldDescriptor (TJ2 k).2.2.1 = some (tyJ2 k) := by decide +kernel
abbrev cJ2_getChar_3b067 : ByteArray := prog_18_method_5_code
def yJ2_getChar_3b067 : MethodName := ⟨RJ2, "getChar", "([BI)C"⟩
abbrev cJ2_length_9d52b : ByteArray := prog_18_method_6_code
def yJ2_length_9d52b : MethodName := ⟨RJ2, "length", "([B)I"⟩
abbrev cJ2_charAt_3b067 : ByteArray := prog_18_method_83_code
def yJ2_charAt_3b067 : MethodName := ⟨RJ2, "charAt", "([BI)C"⟩
abbrev cJ2_checkIndex_2214a : ByteArray := prog_18_method_91_code
def yJ2_checkIndex_2214a : MethodName := ⟨RJ2, "checkIndex", "(I[B)V"⟩
def RJ10 : String := "java/lang/System"
def TJ10 : u_T := fun k => match k with
  | _ => ("", "", "", false)
def tyJ10 : Nat → FieldType := fun k => match k with
  | _ => .int
abbrev wsJ100 : List Cond := u_ws RJ10 TJ10 0
theorem nmJ10 : ∀ a, a < 0 → ∀ b, b < 0 → a ≠ b → (TJ10 a).2.1 ≠ (TJ10 b).2.1 := by decide +kernel
theorem tyJ10_ok : ∀ k, k < 0 → parseFieldDescriptor (TJ10 k).2.2.1 = some (tyJ10 k) := by decide +kernel
def RJ7 : String := "java/util/Arrays"
def TJ7 : u_T := fun k => match k with
  | _ => ("", "", "", false)
def tyJ7 : Nat → FieldType := fun k => match k with
  | _ => .int
abbrev wsJ70 : List Cond := u_ws RJ7 TJ7 0
theorem nmJ7 : ∀ a, a < 0 → ∀ b, b < 0 → a ≠ b → (TJ7 a).2.1 ≠ (TJ7 b).2.1 := by decide +kernel
theorem tyJ7_ok : ∀ k, k < 0 → parseFieldDescriptor (TJ7 k).2.2.1 = some (tyJ7 k) := by decide +kernel
abbrev cJ7_fill_53178 : ByteArray := prog_20_method_103_code
def yJ7_fill_53178 : MethodName := ⟨RJ7, "fill", "([II)V"⟩
def RJ3 : String := "jdk/internal/util/Preconditions"
def TJ3 : u_T := fun k => match k with
  | _ => ("", "", "", false)
def tyJ3 : Nat → FieldType := fun k => match k with
  | _ => .int
abbrev wsJ30 : List Cond := u_ws RJ3 TJ3 0
theorem nmJ3 : ∀ a, a < 0 → ∀ b, b < 0 → a ≠ b → (TJ3 a).2.1 ≠ (TJ3 b).2.1 := by decide +kernel
theorem tyJ3_ok : ∀ k, k < 0 → parseFieldDescriptor (TJ3 k).2.2.1 = some (tyJ3 k) := by decide +kernel
abbrev cJ3_checkIndex_8e157 : ByteArray := prog_21_method_11_code
def yJ3_checkIndex_8e157 : MethodName := ⟨RJ3, "checkIndex", "(IILjava/util/function/BiFunction;)I"⟩
def RL : String := "LandReformLaw"
abbrev cL_law : ByteArray := code
def yL_law : MethodName := ⟨RL, "law", "([I)Z"⟩
def wsX0_init : List Cond := .code yX0_init cX0_init 1 none :: ([.methodLink RX0 3 objectInit, .instanceMethod objectInit, .code objectInit ⟨#[0xb1]⟩ 1 none, .arrayClass .int, .fieldLink RX0 9 "LandReform$Giving" "leastSums" "[I", .classLink RX0 15 "[[I", .fieldLink RX0 17 "LandReform$Giving" "distances" "[[I"] ++ wsX00)
def wsX10_isBelow : List Cond := .code yX10_isBelow cX10_isBelow 2 (some .boolean) :: ([])
def wsX4_has : List Cond := .code yX4_has cX4_has 2 (some .boolean) :: ([.fieldLink RX4 22 "LandReform$People" "size" "I", .static yX10_isBelow, .initialized RX10, .code yX10_isBelow cX10_isBelow 2 (some .boolean)] ++ wsX40)
def wsX4_homeOf : List Cond := .code yX4_homeOf cX4_homeOf 2 (some .int) :: ([.fieldLink RX4 15 "LandReform$People" "homes" "[I", .methodLink RX4 30 yX4_has, .instanceMethod yX4_has, .selects RX4 yX4_has yX4_has, .initialized RX4, .code yX4_has cX4_has 2 (some .boolean), .fieldLink RX4 22 "LandReform$People" "size" "I", .static yX10_isBelow, .initialized RX10, .code yX10_isBelow cX10_isBelow 2 (some .boolean)] ++ wsX40)
def wsX2_has : List Cond := .code yX2_has cX2_has 2 (some .boolean) :: ([.fieldLink RX2 39 "LandReform$Land" "size" "I", .static yX10_isBelow, .initialized RX10, .code yX10_isBelow cX10_isBelow 2 (some .boolean)] ++ wsX20)
def wsX2_placeOf : List Cond := .code yX2_placeOf cX2_placeOf 2 (some .int) :: ([.fieldLink RX2 9 "LandReform$Land" "places" "[I", .methodLink RX2 47 yX2_has, .instanceMethod yX2_has, .selects RX2 yX2_has yX2_has, .initialized RX2, .code yX2_has cX2_has 2 (some .boolean), .fieldLink RX2 39 "LandReform$Land" "size" "I", .static yX10_isBelow, .initialized RX10, .code yX10_isBelow cX10_isBelow 2 (some .boolean)] ++ wsX20)
def wsX2_distance : List Cond := .code yX2_distance cX2_distance 3 (some .int) :: ([.methodLink RX2 66 Lib.Math.abs.name, .static Lib.Math.abs.name, .initialized "java/lang/Math", .code Lib.Math.abs.name Lib.Math.abs.code 1 (some .int), .methodLink RX2 63 yX2_placeOf, .instanceMethod yX2_placeOf, .selects RX2 yX2_placeOf yX2_placeOf, .initialized RX2, .code yX2_placeOf cX2_placeOf 2 (some .int), .fieldLink RX2 9 "LandReform$Land" "places" "[I", .methodLink RX2 47 yX2_has, .instanceMethod yX2_has, .selects RX2 yX2_has yX2_has, .code yX2_has cX2_has 2 (some .boolean), .fieldLink RX2 39 "LandReform$Land" "size" "I", .static yX10_isBelow, .initialized RX10, .code yX10_isBelow cX10_isBelow 2 (some .boolean)] ++ wsX20)
def wsJ6_bitCount_0f7a4 : List Cond := .code yJ6_bitCount_0f7a4 cJ6_bitCount_0f7a4 1 (some .int) :: ([.constant RJ6 265 (1431655765), .constant RJ6 266 (858993459), .constant RJ6 267 (252645135)])
def wsX0_sumWith : List Cond := .code yX0_sumWith cX0_sumWith 4 (some .int) :: ([.fieldLink RX0 29 "LandReform$Giving" "size" "I", .fieldLink RX0 17 "LandReform$Giving" "distances" "[[I", .fieldLink RX0 9 "LandReform$Giving" "leastSums" "[I", .methodLink RX0 53 yJ6_bitCount_0f7a4, .static yJ6_bitCount_0f7a4, .initialized RJ6, .code yJ6_bitCount_0f7a4 cJ6_bitCount_0f7a4 1 (some .int), .constant RJ6 265 (1431655765), .constant RJ6 266 (858993459), .constant RJ6 267 (252645135), .static yX10_isBelow, .initialized RX10, .code yX10_isBelow cX10_isBelow 2 (some .boolean)] ++ wsX00)
def wsX0_nearest : List Cond := .code yX0_nearest cX0_nearest 5 (some .int) :: ([.constant RX0 52 (2147483647), .fieldLink RX0 29 "LandReform$Giving" "size" "I", .methodLink RX0 47 yX0_sumWith, .instanceMethod yX0_sumWith, .selects RX0 yX0_sumWith yX0_sumWith, .initialized RX0, .code yX0_sumWith cX0_sumWith 4 (some .int), .fieldLink RX0 17 "LandReform$Giving" "distances" "[[I", .fieldLink RX0 9 "LandReform$Giving" "leastSums" "[I", .methodLink RX0 53 yJ6_bitCount_0f7a4, .static yJ6_bitCount_0f7a4, .initialized RJ6, .code yJ6_bitCount_0f7a4 cJ6_bitCount_0f7a4 1 (some .int), .constant RJ6 265 (1431655765), .constant RJ6 266 (858993459), .constant RJ6 267 (252645135), .static yX10_isBelow, .initialized RX10, .code yX10_isBelow cX10_isBelow 2 (some .boolean)] ++ wsX00)
def wsX0_weigh_r1 : List Cond := [Cond.methodLink RX0 20 Lib.Math.min.name, Cond.static Lib.Math.min.name, Cond.initialized "java/lang/Math", Cond.code Lib.Math.min.name Lib.Math.min.code 2 (some .int), Cond.methodLink RX0 26 Lib.Math.max.name, Cond.static Lib.Math.max.name, Cond.code Lib.Math.max.name Lib.Math.max.code 2 (some .int), Cond.fieldLink RX0 29 "LandReform$Giving" "size" "I", Cond.fieldLink RX0 17 "LandReform$Giving" "distances" "[[I", Cond.fieldLink RX0 9 "LandReform$Giving" "leastSums" "[I", Cond.methodLink RX0 33 yX4_homeOf, Cond.instanceMethod yX4_homeOf, Cond.selects RX4 yX4_homeOf yX4_homeOf, Cond.initialized RX4, Cond.code yX4_homeOf cX4_homeOf 2 (some .int), Cond.fieldLink RX4 15 "LandReform$People" "homes" "[I", Cond.methodLink RX4 30 yX4_has, Cond.instanceMethod yX4_has, Cond.selects RX4 yX4_has yX4_has, Cond.code yX4_has cX4_has 2 (some .boolean), Cond.fieldLink RX4 22 "LandReform$People" "size" "I", Cond.static yX10_isBelow, Cond.initialized RX10, Cond.code yX10_isBelow cX10_isBelow 2 (some .boolean)]
def wsX0_weigh_r2 : List Cond := [Cond.methodLink RX0 39 yX2_distance, Cond.instanceMethod yX2_distance, Cond.selects RX2 yX2_distance yX2_distance, Cond.initialized RX2, Cond.code yX2_distance cX2_distance 3 (some .int), Cond.methodLink RX2 66 Lib.Math.abs.name, Cond.static Lib.Math.abs.name, Cond.code Lib.Math.abs.name Lib.Math.abs.code 1 (some .int), Cond.methodLink RX2 63 yX2_placeOf, Cond.instanceMethod yX2_placeOf, Cond.selects RX2 yX2_placeOf yX2_placeOf, Cond.code yX2_placeOf cX2_placeOf 2 (some .int), Cond.fieldLink RX2 9 "LandReform$Land" "places" "[I", Cond.methodLink RX2 47 yX2_has, Cond.instanceMethod yX2_has, Cond.selects RX2 yX2_has yX2_has, Cond.code yX2_has cX2_has 2 (some .boolean), Cond.fieldLink RX2 39 "LandReform$Land" "size" "I", Cond.methodLink RX0 44 yX0_nearest, Cond.instanceMethod yX0_nearest, Cond.selects RX0 yX0_nearest yX0_nearest, Cond.initialized RX0, Cond.code yX0_nearest cX0_nearest 5 (some .int), Cond.constant RX0 52 (2147483647)]
def wsX0_weigh_r3 : List Cond := [Cond.methodLink RX0 47 yX0_sumWith, Cond.instanceMethod yX0_sumWith, Cond.selects RX0 yX0_sumWith yX0_sumWith, Cond.code yX0_sumWith cX0_sumWith 4 (some .int), Cond.methodLink RX0 53 yJ6_bitCount_0f7a4, Cond.static yJ6_bitCount_0f7a4, Cond.initialized RJ6, Cond.code yJ6_bitCount_0f7a4 cJ6_bitCount_0f7a4 1 (some .int), Cond.constant RJ6 265 (1431655765), Cond.constant RJ6 266 (858993459), Cond.constant RJ6 267 (252645135)]
def wsX0_weigh : List Cond := .code yX0_weigh cX0_weigh 8 none :: ((wsX0_weigh_r1 ++ (wsX0_weigh_r2 ++ wsX0_weigh_r3)) ++ wsX00 ++ wsX40 ++ wsX20)
def wsX0_leastSum : List Cond := .code yX0_leastSum cX0_leastSum 1 (some .int) :: ([.fieldLink RX0 9 "LandReform$Giving" "leastSums" "[I", .fieldLink RX0 29 "LandReform$Giving" "size" "I"] ++ wsX00)
def wsX0_choice : List Cond := .code yX0_choice cX0_choice 4 (some .int) :: ([.fieldLink RX0 29 "LandReform$Giving" "size" "I", .methodLink RX0 44 yX0_nearest, .instanceMethod yX0_nearest, .selects RX0 yX0_nearest yX0_nearest, .initialized RX0, .code yX0_nearest cX0_nearest 5 (some .int), .constant RX0 52 (2147483647), .methodLink RX0 47 yX0_sumWith, .instanceMethod yX0_sumWith, .selects RX0 yX0_sumWith yX0_sumWith, .code yX0_sumWith cX0_sumWith 4 (some .int), .fieldLink RX0 17 "LandReform$Giving" "distances" "[[I", .fieldLink RX0 9 "LandReform$Giving" "leastSums" "[I", .methodLink RX0 53 yJ6_bitCount_0f7a4, .static yJ6_bitCount_0f7a4, .initialized RJ6, .code yJ6_bitCount_0f7a4 cJ6_bitCount_0f7a4 1 (some .int), .constant RJ6 265 (1431655765), .constant RJ6 266 (858993459), .constant RJ6 267 (252645135), .static yX10_isBelow, .initialized RX10, .code yX10_isBelow cX10_isBelow 2 (some .boolean)] ++ wsX00)
def wsX1_init : List Cond := .code yX1_init cX1_init 1 none :: ([.methodLink RX1 3 objectInit, .instanceMethod objectInit, .code objectInit ⟨#[0xb1]⟩ 1 none, .arrayClass .int, .fieldLink RX1 9 "LandReform$Holding" "countedOwners" "[I", .fieldLink RX1 15 "LandReform$Holding" "counting" "[I", .fieldLink RX1 18 "LandReform$Holding" "standardSteps" "[I", .fieldLink RX1 21 "LandReform$Holding" "areaSteps" "[I"] ++ wsX10)
def wsX4_houseOf : List Cond := .code yX4_houseOf cX4_houseOf 2 (some .int) :: ([.fieldLink RX4 9 "LandReform$People" "houses" "[I", .methodLink RX4 30 yX4_has, .instanceMethod yX4_has, .selects RX4 yX4_has yX4_has, .initialized RX4, .code yX4_has cX4_has 2 (some .boolean), .fieldLink RX4 22 "LandReform$People" "size" "I", .static yX10_isBelow, .initialized RX10, .code yX10_isBelow cX10_isBelow 2 (some .boolean)] ++ wsX40)
def wsX4_areKin : List Cond := .code yX4_areKin cX4_areKin 3 (some .boolean) :: ([.fieldLink RX4 18 "LandReform$People" "kin" "[J", .methodLink RX4 30 yX4_has, .instanceMethod yX4_has, .selects RX4 yX4_has yX4_has, .initialized RX4, .code yX4_has cX4_has 2 (some .boolean), .fieldLink RX4 22 "LandReform$People" "size" "I", .static yX10_isBelow, .initialized RX10, .code yX10_isBelow cX10_isBelow 2 (some .boolean)] ++ wsX40)
def wsX4_areOfOneFamily : List Cond := .code yX4_areOfOneFamily cX4_areOfOneFamily 3 (some .boolean) :: ([.methodLink RX4 40 yX4_houseOf, .instanceMethod yX4_houseOf, .selects RX4 yX4_houseOf yX4_houseOf, .initialized RX4, .code yX4_houseOf cX4_houseOf 2 (some .int), .fieldLink RX4 9 "LandReform$People" "houses" "[I", .methodLink RX4 30 yX4_has, .instanceMethod yX4_has, .selects RX4 yX4_has yX4_has, .code yX4_has cX4_has 2 (some .boolean), .fieldLink RX4 22 "LandReform$People" "size" "I", .static yX10_isBelow, .initialized RX10, .code yX10_isBelow cX10_isBelow 2 (some .boolean), .methodLink RX4 34 yX4_areKin, .instanceMethod yX4_areKin, .selects RX4 yX4_areKin yX4_areKin, .code yX4_areKin cX4_areKin 3 (some .boolean), .fieldLink RX4 18 "LandReform$People" "kin" "[J"] ++ wsX40)
def wsX1_countOwners_r1 : List Cond := [Cond.fieldLink RX1 9 "LandReform$Holding" "countedOwners" "[I", Cond.methodLink RX1 41 arraycopyName, Cond.native arraycopyName, Cond.static arraycopyName, Cond.initialized "java/lang/System", Cond.static yX10_isBelow, Cond.initialized RX10, Cond.code yX10_isBelow cX10_isBelow 2 (some .boolean), Cond.methodLink RX1 64 yX4_areOfOneFamily, Cond.instanceMethod yX4_areOfOneFamily, Cond.selects RX4 yX4_areOfOneFamily yX4_areOfOneFamily, Cond.initialized RX4, Cond.code yX4_areOfOneFamily cX4_areOfOneFamily 3 (some .boolean), Cond.methodLink RX4 40 yX4_houseOf, Cond.instanceMethod yX4_houseOf, Cond.selects RX4 yX4_houseOf yX4_houseOf, Cond.code yX4_houseOf cX4_houseOf 2 (some .int), Cond.fieldLink RX4 9 "LandReform$People" "houses" "[I", Cond.methodLink RX4 30 yX4_has, Cond.instanceMethod yX4_has, Cond.selects RX4 yX4_has yX4_has, Cond.code yX4_has cX4_has 2 (some .boolean), Cond.fieldLink RX4 22 "LandReform$People" "size" "I", Cond.methodLink RX4 34 yX4_areKin]
def wsX1_countOwners_r2 : List Cond := [Cond.instanceMethod yX4_areKin, Cond.selects RX4 yX4_areKin yX4_areKin, Cond.code yX4_areKin cX4_areKin 3 (some .boolean), Cond.fieldLink RX4 18 "LandReform$People" "kin" "[J"]
def wsX1_countOwners : List Cond := .code yX1_countOwners cX1_countOwners 8 none :: ((wsX1_countOwners_r1 ++ wsX1_countOwners_r2) ++ wsX20 ++ wsX10 ++ wsX30 ++ wsX40)
def wsX1_countedOwner_r1 : List Cond := [Cond.fieldLink RX1 9 "LandReform$Holding" "countedOwners" "[I", Cond.methodLink RX1 24 yX1_countOwners, Cond.instanceMethod yX1_countOwners, Cond.selects RX1 yX1_countOwners yX1_countOwners, Cond.initialized RX1, Cond.code yX1_countOwners cX1_countOwners 8 none, Cond.methodLink RX1 41 arraycopyName, Cond.native arraycopyName, Cond.static arraycopyName, Cond.initialized "java/lang/System", Cond.static yX10_isBelow, Cond.initialized RX10, Cond.code yX10_isBelow cX10_isBelow 2 (some .boolean), Cond.methodLink RX1 64 yX4_areOfOneFamily, Cond.instanceMethod yX4_areOfOneFamily, Cond.selects RX4 yX4_areOfOneFamily yX4_areOfOneFamily, Cond.initialized RX4, Cond.code yX4_areOfOneFamily cX4_areOfOneFamily 3 (some .boolean), Cond.methodLink RX4 40 yX4_houseOf, Cond.instanceMethod yX4_houseOf, Cond.selects RX4 yX4_houseOf yX4_houseOf, Cond.code yX4_houseOf cX4_houseOf 2 (some .int), Cond.fieldLink RX4 9 "LandReform$People" "houses" "[I", Cond.methodLink RX4 30 yX4_has]
def wsX1_countedOwner_r2 : List Cond := [Cond.instanceMethod yX4_has, Cond.selects RX4 yX4_has yX4_has, Cond.code yX4_has cX4_has 2 (some .boolean), Cond.fieldLink RX4 22 "LandReform$People" "size" "I", Cond.methodLink RX4 34 yX4_areKin, Cond.instanceMethod yX4_areKin, Cond.selects RX4 yX4_areKin yX4_areKin, Cond.code yX4_areKin cX4_areKin 3 (some .boolean), Cond.fieldLink RX4 18 "LandReform$People" "kin" "[J"]
def wsX1_countedOwner : List Cond := .code yX1_countedOwner cX1_countedOwner 5 (some .int) :: ((wsX1_countedOwner_r1 ++ wsX1_countedOwner_r2) ++ wsX20 ++ wsX10 ++ wsX30 ++ wsX40)
def wsX3_exempts : List Cond := .code yX3_exempts cX3_exempts 2 (some .boolean) :: ([.fieldLink RX3 34 "LandReform$Law" "exemptCrops" "I", .static yX10_isBelow, .initialized RX10, .code yX10_isBelow cX10_isBelow 2 (some .boolean)] ++ wsX30)
def wsX2_areaOf : List Cond := .code yX2_areaOf cX2_areaOf 2 (some .int) :: ([.fieldLink RX2 15 "LandReform$Land" "areas" "[I", .methodLink RX2 47 yX2_has, .instanceMethod yX2_has, .selects RX2 yX2_has yX2_has, .initialized RX2, .code yX2_has cX2_has 2 (some .boolean), .fieldLink RX2 39 "LandReform$Land" "size" "I", .static yX10_isBelow, .initialized RX10, .code yX10_isBelow cX10_isBelow 2 (some .boolean)] ++ wsX20)
def wsX2_soilOf : List Cond := .code yX2_soilOf cX2_soilOf 2 (some .int) :: ([.fieldLink RX2 18 "LandReform$Land" "soils" "[I", .methodLink RX2 47 yX2_has, .instanceMethod yX2_has, .selects RX2 yX2_has yX2_has, .initialized RX2, .code yX2_has cX2_has 2 (some .boolean), .fieldLink RX2 39 "LandReform$Land" "size" "I", .static yX10_isBelow, .initialized RX10, .code yX10_isBelow cX10_isBelow 2 (some .boolean)] ++ wsX20)
def wsX3_soilIs : List Cond := .code yX3_soilIs cX3_soilIs 2 (some .int) :: ([.fieldLink RX3 9 "LandReform$Law" "soilValues" "[I", .static yX10_isBelow, .initialized RX10, .code yX10_isBelow cX10_isBelow 2 (some .boolean)] ++ wsX30)
def wsX2_standardOf_r1 : List Cond := [Cond.methodLink RX2 51 yX2_areaOf, Cond.instanceMethod yX2_areaOf, Cond.selects RX2 yX2_areaOf yX2_areaOf, Cond.initialized RX2, Cond.code yX2_areaOf cX2_areaOf 2 (some .int), Cond.fieldLink RX2 15 "LandReform$Land" "areas" "[I", Cond.methodLink RX2 47 yX2_has, Cond.instanceMethod yX2_has, Cond.selects RX2 yX2_has yX2_has, Cond.code yX2_has cX2_has 2 (some .boolean), Cond.fieldLink RX2 39 "LandReform$Land" "size" "I", Cond.static yX10_isBelow, Cond.initialized RX10, Cond.code yX10_isBelow cX10_isBelow 2 (some .boolean), Cond.methodLink RX2 55 yX2_soilOf, Cond.instanceMethod yX2_soilOf, Cond.selects RX2 yX2_soilOf yX2_soilOf, Cond.code yX2_soilOf cX2_soilOf 2 (some .int), Cond.fieldLink RX2 18 "LandReform$Land" "soils" "[I", Cond.methodLink RX2 58 yX3_soilIs, Cond.instanceMethod yX3_soilIs, Cond.selects RX3 yX3_soilIs yX3_soilIs, Cond.initialized RX3, Cond.code yX3_soilIs cX3_soilIs 2 (some .int)]
def wsX2_standardOf_r2 : List Cond := [Cond.fieldLink RX3 9 "LandReform$Law" "soilValues" "[I"]
def wsX2_standardOf : List Cond := .code yX2_standardOf cX2_standardOf 3 (some .int) :: ((wsX2_standardOf_r1 ++ wsX2_standardOf_r2) ++ wsX20 ++ wsX30)
def wsX4_membersOf : List Cond := .code yX4_membersOf cX4_membersOf 4 (some .int) :: ([.fieldLink RX4 22 "LandReform$People" "size" "I", .fieldLink RX4 9 "LandReform$People" "houses" "[I"] ++ wsX40)
def wsX3_allows : List Cond := .code yX3_allows cX3_allows 2 (some .int) :: ([.fieldLink RX3 24 "LandReform$Law" "ceiling" "I", .fieldLink RX3 28 "LandReform$Law" "family" "I", .methodLink RX3 61 Lib.Math.max.name, .static Lib.Math.max.name, .initialized "java/lang/Math", .code Lib.Math.max.name Lib.Math.max.code 2 (some .int)] ++ wsX30)
def wsX1_gather_r1 : List Cond := [Cond.fieldLink RX1 69 "LandReform$Holding" "size" "I", Cond.fieldLink RX1 70 "LandReform$Holding" "standards" "I", Cond.fieldLink RX1 9 "LandReform$Holding" "countedOwners" "[I", Cond.fieldLink RX1 15 "LandReform$Holding" "counting" "[I", Cond.fieldLink RX1 91 "LandReform$Holding" "members" "I", Cond.fieldLink RX1 97 "LandReform$Holding" "allowed" "I", Cond.methodLink RX1 24 yX1_countOwners, Cond.instanceMethod yX1_countOwners, Cond.selects RX1 yX1_countOwners yX1_countOwners, Cond.initialized RX1, Cond.code yX1_countOwners cX1_countOwners 8 none, Cond.methodLink RX1 41 arraycopyName, Cond.native arraycopyName, Cond.static arraycopyName, Cond.initialized "java/lang/System", Cond.static yX10_isBelow, Cond.initialized RX10, Cond.code yX10_isBelow cX10_isBelow 2 (some .boolean), Cond.methodLink RX1 64 yX4_areOfOneFamily, Cond.instanceMethod yX4_areOfOneFamily, Cond.selects RX4 yX4_areOfOneFamily yX4_areOfOneFamily, Cond.initialized RX4, Cond.code yX4_areOfOneFamily cX4_areOfOneFamily 3 (some .boolean), Cond.methodLink RX4 40 yX4_houseOf]
def wsX1_gather_r2 : List Cond := [Cond.instanceMethod yX4_houseOf, Cond.selects RX4 yX4_houseOf yX4_houseOf, Cond.code yX4_houseOf cX4_houseOf 2 (some .int), Cond.fieldLink RX4 9 "LandReform$People" "houses" "[I", Cond.methodLink RX4 30 yX4_has, Cond.instanceMethod yX4_has, Cond.selects RX4 yX4_has yX4_has, Cond.code yX4_has cX4_has 2 (some .boolean), Cond.fieldLink RX4 22 "LandReform$People" "size" "I", Cond.methodLink RX4 34 yX4_areKin, Cond.instanceMethod yX4_areKin, Cond.selects RX4 yX4_areKin yX4_areKin, Cond.code yX4_areKin cX4_areKin 3 (some .boolean), Cond.fieldLink RX4 18 "LandReform$People" "kin" "[J", Cond.methodLink RX1 73 yX4_houseOf, Cond.methodLink RX1 80 yX3_exempts, Cond.instanceMethod yX3_exempts, Cond.selects RX3 yX3_exempts yX3_exempts, Cond.initialized RX3, Cond.code yX3_exempts cX3_exempts 2 (some .boolean), Cond.fieldLink RX3 34 "LandReform$Law" "exemptCrops" "I", Cond.methodLink RX1 84 yX2_standardOf, Cond.instanceMethod yX2_standardOf, Cond.selects RX2 yX2_standardOf yX2_standardOf]
def wsX1_gather_r3 : List Cond := [Cond.initialized RX2, Cond.code yX2_standardOf cX2_standardOf 3 (some .int), Cond.methodLink RX2 51 yX2_areaOf, Cond.instanceMethod yX2_areaOf, Cond.selects RX2 yX2_areaOf yX2_areaOf, Cond.code yX2_areaOf cX2_areaOf 2 (some .int), Cond.fieldLink RX2 15 "LandReform$Land" "areas" "[I", Cond.methodLink RX2 47 yX2_has, Cond.instanceMethod yX2_has, Cond.selects RX2 yX2_has yX2_has, Cond.code yX2_has cX2_has 2 (some .boolean), Cond.fieldLink RX2 39 "LandReform$Land" "size" "I", Cond.methodLink RX2 55 yX2_soilOf, Cond.instanceMethod yX2_soilOf, Cond.selects RX2 yX2_soilOf yX2_soilOf, Cond.code yX2_soilOf cX2_soilOf 2 (some .int), Cond.fieldLink RX2 18 "LandReform$Land" "soils" "[I", Cond.methodLink RX2 58 yX3_soilIs, Cond.instanceMethod yX3_soilIs, Cond.selects RX3 yX3_soilIs yX3_soilIs, Cond.code yX3_soilIs cX3_soilIs 2 (some .int), Cond.fieldLink RX3 9 "LandReform$Law" "soilValues" "[I", Cond.methodLink RX1 88 yX4_membersOf, Cond.instanceMethod yX4_membersOf]
def wsX1_gather_r4 : List Cond := [Cond.selects RX4 yX4_membersOf yX4_membersOf, Cond.code yX4_membersOf cX4_membersOf 4 (some .int), Cond.methodLink RX1 94 yX3_allows, Cond.instanceMethod yX3_allows, Cond.selects RX3 yX3_allows yX3_allows, Cond.code yX3_allows cX3_allows 2 (some .int), Cond.fieldLink RX3 24 "LandReform$Law" "ceiling" "I", Cond.fieldLink RX3 28 "LandReform$Law" "family" "I", Cond.methodLink RX3 61 Lib.Math.max.name, Cond.static Lib.Math.max.name, Cond.initialized "java/lang/Math", Cond.code Lib.Math.max.name Lib.Math.max.code 2 (some .int)]
def wsX1_gather : List Cond := .code yX1_gather cX1_gather 6 none :: ((wsX1_gather_r1 ++ (wsX1_gather_r2 ++ (wsX1_gather_r3 ++ wsX1_gather_r4))) ++ wsX10 ++ wsX20 ++ wsX30 ++ wsX40)
def wsX1_above : List Cond := .code yX1_above cX1_above 1 (some .int) :: ([.fieldLink RX1 70 "LandReform$Holding" "standards" "I", .fieldLink RX1 97 "LandReform$Holding" "allowed" "I", .methodLink RX1 100 Lib.Math.max.name, .static Lib.Math.max.name, .initialized "java/lang/Math", .code Lib.Math.max.name Lib.Math.max.code 2 (some .int)] ++ wsX10)
def wsX1_prepareSteps_r1 : List Cond := [Cond.fieldLink RX1 69 "LandReform$Holding" "size" "I", Cond.fieldLink RX1 15 "LandReform$Holding" "counting" "[I", Cond.fieldLink RX1 18 "LandReform$Holding" "standardSteps" "[I", Cond.fieldLink RX1 21 "LandReform$Holding" "areaSteps" "[I", Cond.methodLink RX1 84 yX2_standardOf, Cond.instanceMethod yX2_standardOf, Cond.selects RX2 yX2_standardOf yX2_standardOf, Cond.initialized RX2, Cond.code yX2_standardOf cX2_standardOf 3 (some .int), Cond.methodLink RX2 51 yX2_areaOf, Cond.instanceMethod yX2_areaOf, Cond.selects RX2 yX2_areaOf yX2_areaOf, Cond.code yX2_areaOf cX2_areaOf 2 (some .int), Cond.fieldLink RX2 15 "LandReform$Land" "areas" "[I", Cond.methodLink RX2 47 yX2_has, Cond.instanceMethod yX2_has, Cond.selects RX2 yX2_has yX2_has, Cond.code yX2_has cX2_has 2 (some .boolean), Cond.fieldLink RX2 39 "LandReform$Land" "size" "I", Cond.static yX10_isBelow, Cond.initialized RX10, Cond.code yX10_isBelow cX10_isBelow 2 (some .boolean), Cond.methodLink RX2 55 yX2_soilOf, Cond.instanceMethod yX2_soilOf]
def wsX1_prepareSteps_r2 : List Cond := [Cond.selects RX2 yX2_soilOf yX2_soilOf, Cond.code yX2_soilOf cX2_soilOf 2 (some .int), Cond.fieldLink RX2 18 "LandReform$Land" "soils" "[I", Cond.methodLink RX2 58 yX3_soilIs, Cond.instanceMethod yX3_soilIs, Cond.selects RX3 yX3_soilIs yX3_soilIs, Cond.initialized RX3, Cond.code yX3_soilIs cX3_soilIs 2 (some .int), Cond.fieldLink RX3 9 "LandReform$Law" "soilValues" "[I", Cond.methodLink RX1 121 yX2_areaOf]
def wsX1_prepareSteps : List Cond := .code yX1_prepareSteps cX1_prepareSteps 8 none :: ((wsX1_prepareSteps_r1 ++ wsX1_prepareSteps_r2) ++ wsX10 ++ wsX20 ++ wsX30)
def wsJ6_numberOfTrailingZeros_0f7a4 : List Cond := .code yJ6_numberOfTrailingZeros_0f7a4 cJ6_numberOfTrailingZeros_0f7a4 2 (some .int) :: ([.constant RJ6 264 (65536)])
def wsX1_choose_r1 : List Cond := [Cond.fieldLink RX1 69 "LandReform$Holding" "size" "I", Cond.fieldLink RX1 110 "LandReform$Holding" "keptSet" "I", Cond.fieldLink RX1 113 "LandReform$Holding" "keptArea" "I", Cond.fieldLink RX1 18 "LandReform$Holding" "standardSteps" "[I", Cond.fieldLink RX1 21 "LandReform$Holding" "areaSteps" "[I", Cond.fieldLink RX1 97 "LandReform$Holding" "allowed" "I", Cond.methodLink RX1 106 yX1_prepareSteps, Cond.instanceMethod yX1_prepareSteps, Cond.selects RX1 yX1_prepareSteps yX1_prepareSteps, Cond.initialized RX1, Cond.code yX1_prepareSteps cX1_prepareSteps 8 none, Cond.fieldLink RX1 15 "LandReform$Holding" "counting" "[I", Cond.methodLink RX1 84 yX2_standardOf, Cond.instanceMethod yX2_standardOf, Cond.selects RX2 yX2_standardOf yX2_standardOf, Cond.initialized RX2, Cond.code yX2_standardOf cX2_standardOf 3 (some .int), Cond.methodLink RX2 51 yX2_areaOf, Cond.instanceMethod yX2_areaOf, Cond.selects RX2 yX2_areaOf yX2_areaOf, Cond.code yX2_areaOf cX2_areaOf 2 (some .int), Cond.fieldLink RX2 15 "LandReform$Land" "areas" "[I", Cond.methodLink RX2 47 yX2_has, Cond.instanceMethod yX2_has]
def wsX1_choose_r2 : List Cond := [Cond.selects RX2 yX2_has yX2_has, Cond.code yX2_has cX2_has 2 (some .boolean), Cond.fieldLink RX2 39 "LandReform$Land" "size" "I", Cond.static yX10_isBelow, Cond.initialized RX10, Cond.code yX10_isBelow cX10_isBelow 2 (some .boolean), Cond.methodLink RX2 55 yX2_soilOf, Cond.instanceMethod yX2_soilOf, Cond.selects RX2 yX2_soilOf yX2_soilOf, Cond.code yX2_soilOf cX2_soilOf 2 (some .int), Cond.fieldLink RX2 18 "LandReform$Land" "soils" "[I", Cond.methodLink RX2 58 yX3_soilIs, Cond.instanceMethod yX3_soilIs, Cond.selects RX3 yX3_soilIs yX3_soilIs, Cond.initialized RX3, Cond.code yX3_soilIs cX3_soilIs 2 (some .int), Cond.fieldLink RX3 9 "LandReform$Law" "soilValues" "[I", Cond.methodLink RX1 121 yX2_areaOf, Cond.methodLink RX1 116 yJ6_numberOfTrailingZeros_0f7a4, Cond.static yJ6_numberOfTrailingZeros_0f7a4, Cond.initialized RJ6, Cond.code yJ6_numberOfTrailingZeros_0f7a4 cJ6_numberOfTrailingZeros_0f7a4 2 (some .int), Cond.constant RJ6 264 (65536)]
def wsX1_choose : List Cond := .code yX1_choose cX1_choose 8 (some .boolean) :: ((wsX1_choose_r1 ++ wsX1_choose_r2) ++ wsX10 ++ wsX20 ++ wsX30)
def wsX1_keeps : List Cond := .code yX1_keeps cX1_keeps 2 (some .boolean) :: ([.fieldLink RX1 69 "LandReform$Holding" "size" "I", .fieldLink RX1 110 "LandReform$Holding" "keptSet" "I", .static yX10_isBelow, .initialized RX10, .code yX10_isBelow cX10_isBelow 2 (some .boolean)] ++ wsX10)
def wsX1_takenField : List Cond := .code yX1_takenField cX1_takenField 4 (some .int) :: ([.fieldLink RX1 69 "LandReform$Holding" "size" "I", .fieldLink RX1 15 "LandReform$Holding" "counting" "[I", .methodLink RX1 124 yX1_keeps, .instanceMethod yX1_keeps, .selects RX1 yX1_keeps yX1_keeps, .initialized RX1, .code yX1_keeps cX1_keeps 2 (some .boolean), .fieldLink RX1 110 "LandReform$Holding" "keptSet" "I", .static yX10_isBelow, .initialized RX10, .code yX10_isBelow cX10_isBelow 2 (some .boolean)] ++ wsX10)
def wsX2_init : List Cond := .code yX2_init cX2_init 1 none :: ([.methodLink RX2 3 objectInit, .instanceMethod objectInit, .code objectInit ⟨#[0xb1]⟩ 1 none, .arrayClass .int, .fieldLink RX2 9 "LandReform$Land" "places" "[I", .fieldLink RX2 15 "LandReform$Land" "areas" "[I", .fieldLink RX2 18 "LandReform$Land" "soils" "[I", .fieldLink RX2 21 "LandReform$Land" "crops" "[I", .fieldLink RX2 24 "LandReform$Land" "firstOwners" "[I", .fieldLink RX2 27 "LandReform$Land" "owners" "[I", .fieldLink RX2 30 "LandReform$Land" "movedFields" "[I", .fieldLink RX2 33 "LandReform$Land" "receivers" "[I", .fieldLink RX2 36 "LandReform$Land" "days" "[I"] ++ wsX20)
def wsX2_hasRow : List Cond := .code yX2_hasRow cX2_hasRow 3 (some .boolean) :: ([.fieldLink RX2 39 "LandReform$Land" "size" "I", .methodLink RX2 47 yX2_has, .instanceMethod yX2_has, .selects RX2 yX2_has yX2_has, .initialized RX2, .code yX2_has cX2_has 2 (some .boolean), .static yX10_isBelow, .initialized RX10, .code yX10_isBelow cX10_isBelow 2 (some .boolean)] ++ wsX20)
def wsX2_cropOf : List Cond := .code yX2_cropOf cX2_cropOf 2 (some .int) :: ([.fieldLink RX2 21 "LandReform$Land" "crops" "[I", .methodLink RX2 47 yX2_has, .instanceMethod yX2_has, .selects RX2 yX2_has yX2_has, .initialized RX2, .code yX2_has cX2_has 2 (some .boolean), .fieldLink RX2 39 "LandReform$Land" "size" "I", .static yX10_isBelow, .initialized RX10, .code yX10_isBelow cX10_isBelow 2 (some .boolean)] ++ wsX20)
def wsX2_ownerOf : List Cond := .code yX2_ownerOf cX2_ownerOf 2 (some .int) :: ([.fieldLink RX2 27 "LandReform$Land" "owners" "[I", .methodLink RX2 47 yX2_has, .instanceMethod yX2_has, .selects RX2 yX2_has yX2_has, .initialized RX2, .code yX2_has cX2_has 2 (some .boolean), .fieldLink RX2 39 "LandReform$Land" "size" "I", .static yX10_isBelow, .initialized RX10, .code yX10_isBelow cX10_isBelow 2 (some .boolean)] ++ wsX20)
def wsX2_transfersLeft : List Cond := .code yX2_transfersLeft cX2_transfersLeft 1 (some .int) :: ([.fieldLink RX2 71 "LandReform$Land" "transfers" "I"] ++ wsX20)
def wsX2_add : List Cond := .code yX2_add cX2_add 6 (some .int) :: ([.fieldLink RX2 39 "LandReform$Land" "size" "I", .fieldLink RX2 9 "LandReform$Land" "places" "[I", .fieldLink RX2 15 "LandReform$Land" "areas" "[I", .fieldLink RX2 18 "LandReform$Land" "soils" "[I", .fieldLink RX2 21 "LandReform$Land" "crops" "[I", .fieldLink RX2 24 "LandReform$Land" "firstOwners" "[I", .fieldLink RX2 27 "LandReform$Land" "owners" "[I"] ++ wsX20)
def wsX2_move : List Cond := .code yX2_move cX2_move 3 none :: ([.fieldLink RX2 71 "LandReform$Land" "transfers" "I", .fieldLink RX2 30 "LandReform$Land" "movedFields" "[I", .fieldLink RX2 33 "LandReform$Land" "receivers" "[I", .fieldLink RX2 36 "LandReform$Land" "days" "[I", .fieldLink RX2 74 "LandReform$Land" "today" "I", .fieldLink RX2 27 "LandReform$Land" "owners" "[I", .methodLink RX2 47 yX2_has, .instanceMethod yX2_has, .selects RX2 yX2_has yX2_has, .initialized RX2, .code yX2_has cX2_has 2 (some .boolean), .fieldLink RX2 39 "LandReform$Land" "size" "I", .static yX10_isBelow, .initialized RX10, .code yX10_isBelow cX10_isBelow 2 (some .boolean)] ++ wsX20)
def wsX2_transfersOf : List Cond := .code yX2_transfersOf cX2_transfersOf 4 (some .int) :: ([.fieldLink RX2 71 "LandReform$Land" "transfers" "I", .fieldLink RX2 30 "LandReform$Land" "movedFields" "[I"] ++ wsX20)
def wsX2_ownerAsDayEnded : List Cond := .code yX2_ownerAsDayEnded cX2_ownerAsDayEnded 5 (some .int) :: ([.fieldLink RX2 24 "LandReform$Land" "firstOwners" "[I", .fieldLink RX2 71 "LandReform$Land" "transfers" "I", .fieldLink RX2 36 "LandReform$Land" "days" "[I", .fieldLink RX2 30 "LandReform$Land" "movedFields" "[I", .fieldLink RX2 33 "LandReform$Land" "receivers" "[I", .methodLink RX2 47 yX2_has, .instanceMethod yX2_has, .selects RX2 yX2_has yX2_has, .initialized RX2, .code yX2_has cX2_has 2 (some .boolean), .fieldLink RX2 39 "LandReform$Land" "size" "I", .static yX10_isBelow, .initialized RX10, .code yX10_isBelow cX10_isBelow 2 (some .boolean)] ++ wsX20)
def wsX2_firstFieldOf : List Cond := .code yX2_firstFieldOf cX2_firstFieldOf 3 (some .int) :: ([.fieldLink RX2 39 "LandReform$Land" "size" "I", .fieldLink RX2 27 "LandReform$Land" "owners" "[I"] ++ wsX20)
def wsJ7_fill_53178 : List Cond := .code yJ7_fill_53178 cJ7_fill_53178 4 none :: ([])
def wsX3_clear : List Cond := .code yX3_clear cX3_clear 1 none :: ([.fieldLink RX3 9 "LandReform$Law" "soilValues" "[I", .fieldLink RX3 24 "LandReform$Law" "ceiling" "I", .fieldLink RX3 28 "LandReform$Law" "family" "I", .fieldLink RX3 31 "LandReform$Law" "lastFreeDay" "I", .fieldLink RX3 34 "LandReform$Law" "exemptCrops" "I", .fieldLink RX3 37 "LandReform$Law" "price" "I", .fieldLink RX3 40 "LandReform$Law" "years" "I", .fieldLink RX3 43 "LandReform$Law" "shares" "I", .fieldLink RX3 46 "LandReform$Law" "statements" "I", .methodLink RX3 18 yJ7_fill_53178, .static yJ7_fill_53178, .initialized RJ7, .code yJ7_fill_53178 cJ7_fill_53178 4 none] ++ wsX30)
def wsX3_init : List Cond := .code yX3_init cX3_init 1 none :: ([.methodLink RX3 3 objectInit, .instanceMethod objectInit, .code objectInit ⟨#[0xb1]⟩ 1 none, .arrayClass .int, .fieldLink RX3 9 "LandReform$Law" "soilValues" "[I", .methodLink RX3 15 yX3_clear, .instanceMethod yX3_clear, .selects RX3 yX3_clear yX3_clear, .initialized RX3, .code yX3_clear cX3_clear 1 none, .fieldLink RX3 24 "LandReform$Law" "ceiling" "I", .fieldLink RX3 28 "LandReform$Law" "family" "I", .fieldLink RX3 31 "LandReform$Law" "lastFreeDay" "I", .fieldLink RX3 34 "LandReform$Law" "exemptCrops" "I", .fieldLink RX3 37 "LandReform$Law" "price" "I", .fieldLink RX3 40 "LandReform$Law" "years" "I", .fieldLink RX3 43 "LandReform$Law" "shares" "I", .fieldLink RX3 46 "LandReform$Law" "statements" "I", .methodLink RX3 18 yJ7_fill_53178, .static yJ7_fill_53178, .initialized RJ7, .code yJ7_fill_53178 cJ7_fill_53178 4 none] ++ wsX30)
def wsX3_exemptCrop : List Cond := .code yX3_exemptCrop cX3_exemptCrop 2 none :: ([.fieldLink RX3 34 "LandReform$Law" "exemptCrops" "I", .static yX10_isBelow, .initialized RX10, .code yX10_isBelow cX10_isBelow 2 (some .boolean)] ++ wsX30)
def wsX3_setSoil : List Cond := .code yX3_setSoil cX3_setSoil 3 none :: ([.fieldLink RX3 9 "LandReform$Law" "soilValues" "[I", .static yX10_isBelow, .initialized RX10, .code yX10_isBelow cX10_isBelow 2 (some .boolean)] ++ wsX30)
def wsX3_rule : List Cond := .code yX3_rule cX3_rule 4 none :: ([.fieldLink RX3 24 "LandReform$Law" "ceiling" "I", .fieldLink RX3 28 "LandReform$Law" "family" "I", .fieldLink RX3 31 "LandReform$Law" "lastFreeDay" "I", .fieldLink RX3 37 "LandReform$Law" "price" "I", .fieldLink RX3 40 "LandReform$Law" "years" "I", .fieldLink RX3 43 "LandReform$Law" "shares" "I", .fieldLink RX3 46 "LandReform$Law" "statements" "I", .methodLink RX3 49 yX3_exemptCrop, .instanceMethod yX3_exemptCrop, .selects RX3 yX3_exemptCrop yX3_exemptCrop, .initialized RX3, .code yX3_exemptCrop cX3_exemptCrop 2 none, .fieldLink RX3 34 "LandReform$Law" "exemptCrops" "I", .static yX10_isBelow, .initialized RX10, .code yX10_isBelow cX10_isBelow 2 (some .boolean), .methodLink RX3 53 yX3_setSoil, .instanceMethod yX3_setSoil, .selects RX3 yX3_setSoil yX3_setSoil, .code yX3_setSoil cX3_setSoil 3 none, .fieldLink RX3 9 "LandReform$Law" "soilValues" "[I"] ++ wsX30)
def wsX4_init : List Cond := .code yX4_init cX4_init 1 none :: ([.methodLink RX4 3 objectInit, .instanceMethod objectInit, .code objectInit ⟨#[0xb1]⟩ 1 none, .arrayClass .int, .fieldLink RX4 9 "LandReform$People" "houses" "[I", .fieldLink RX4 15 "LandReform$People" "homes" "[I", .arrayClass .long, .fieldLink RX4 18 "LandReform$People" "kin" "[J"] ++ wsX40)
def wsX4_hasRow : List Cond := .code yX4_hasRow cX4_hasRow 3 (some .boolean) :: ([.fieldLink RX4 22 "LandReform$People" "size" "I", .methodLink RX4 30 yX4_has, .instanceMethod yX4_has, .selects RX4 yX4_has yX4_has, .initialized RX4, .code yX4_has cX4_has 2 (some .boolean), .static yX10_isBelow, .initialized RX10, .code yX10_isBelow cX10_isBelow 2 (some .boolean)] ++ wsX40)
def wsX4_add : List Cond := .code yX4_add cX4_add 3 (some .int) :: ([.fieldLink RX4 22 "LandReform$People" "size" "I", .fieldLink RX4 9 "LandReform$People" "houses" "[I", .fieldLink RX4 15 "LandReform$People" "homes" "[I"] ++ wsX40)
def wsX4_bind : List Cond := .code yX4_bind cX4_bind 3 (some .boolean) :: ([.fieldLink RX4 18 "LandReform$People" "kin" "[J", .fieldLink RX4 37 "LandReform$People" "pairs" "I", .methodLink RX4 30 yX4_has, .instanceMethod yX4_has, .selects RX4 yX4_has yX4_has, .initialized RX4, .code yX4_has cX4_has 2 (some .boolean), .fieldLink RX4 22 "LandReform$People" "size" "I", .static yX10_isBelow, .initialized RX10, .code yX10_isBelow cX10_isBelow 2 (some .boolean), .methodLink RX4 34 yX4_areKin, .instanceMethod yX4_areKin, .selects RX4 yX4_areKin yX4_areKin, .code yX4_areKin cX4_areKin 3 (some .boolean)] ++ wsX40)
def wsX5_init : List Cond := .code yX5_init cX5_init 2 none :: ([.methodLink RX5 3 objectInit, .instanceMethod objectInit, .code objectInit ⟨#[0xb1]⟩ 1 none, .fieldLink RX5 9 "LandReform$Reader" "fault" "I", .fieldLink RX5 15 "LandReform$Reader" "text" "[B"] ++ wsX50)
def wsX5_isBlank : List Cond := .code yX5_isBlank cX5_isBlank 1 (some .boolean) :: ([])
def wsX5_isLetter : List Cond := .code yX5_isLetter cX5_isLetter 1 (some .boolean) :: ([])
def wsX5_isDigit : List Cond := .code yX5_isDigit cX5_isDigit 1 (some .boolean) :: ([])
def wsX5_nextToken : List Cond := .code yX5_nextToken cX5_nextToken 2 none :: ([.fieldLink RX5 28 "LandReform$Reader" "tokenEnd" "I", .fieldLink RX5 25 "LandReform$Reader" "length" "I", .fieldLink RX5 15 "LandReform$Reader" "text" "[B", .fieldLink RX5 39 "LandReform$Reader" "tokenStart" "I", .methodLink RX5 65 yX5_isBlank, .static yX5_isBlank, .initialized RX5, .code yX5_isBlank cX5_isBlank 1 (some .boolean), .methodLink RX5 69 yX5_isLetter, .static yX5_isLetter, .code yX5_isLetter cX5_isLetter 1 (some .boolean), .methodLink RX5 72 yX5_isDigit, .static yX5_isDigit, .code yX5_isDigit cX5_isDigit 1 (some .boolean)] ++ wsX50)
def wsJ0_coder_7d493 : List Cond := .code yJ0_coder_7d493 cJ0_coder_7d493 1 (some .byte) :: ([.fieldLink RJ0 38 "java/lang/String" "COMPACT_STRINGS" "Z", .fieldLink RJ0 15 "java/lang/String" "coder" "B"])
def wsJ0_length_8abf5 : List Cond := .code yJ0_length_8abf5 cJ0_length_8abf5 1 (some .int) :: ([.fieldLink RJ0 9 "java/lang/String" "value" "[B", .methodLink RJ0 335 yJ0_coder_7d493, .instanceMethod yJ0_coder_7d493, .selects RJ0 yJ0_coder_7d493 yJ0_coder_7d493, .initialized RJ0, .code yJ0_coder_7d493 cJ0_coder_7d493 1 (some .byte), .fieldLink RJ0 38 "java/lang/String" "COMPACT_STRINGS" "Z", .fieldLink RJ0 15 "java/lang/String" "coder" "B"])
def wsJ0_isLatin1_aae02 : List Cond := .code yJ0_isLatin1_aae02 cJ0_isLatin1_aae02 1 (some .boolean) :: ([.fieldLink RJ0 38 "java/lang/String" "COMPACT_STRINGS" "Z", .fieldLink RJ0 15 "java/lang/String" "coder" "B"])
def wsJ3_checkIndex_8e157 : List Cond := .code yJ3_checkIndex_8e157 cJ3_checkIndex_8e157 3 (some .int) :: ([])
def wsJ0_checkIndex_df160 : List Cond := .code yJ0_checkIndex_df160 cJ0_checkIndex_df160 2 none :: ([.fieldLink RJ0 1053 "jdk/internal/util/Preconditions" "SIOOBE_FORMATTER" "Ljava/util/function/BiFunction;", .methodLink RJ0 1059 yJ3_checkIndex_8e157, .static yJ3_checkIndex_8e157, .initialized RJ3, .code yJ3_checkIndex_8e157 cJ3_checkIndex_8e157 3 (some .int)])
def wsJ1_charAt_3b067 : List Cond := .code yJ1_charAt_3b067 cJ1_charAt_3b067 2 (some .char) :: ([.methodLink RJ1 9 yJ0_checkIndex_df160, .static yJ0_checkIndex_df160, .initialized RJ0, .code yJ0_checkIndex_df160 cJ0_checkIndex_df160 2 none, .fieldLink RJ0 1053 "jdk/internal/util/Preconditions" "SIOOBE_FORMATTER" "Ljava/util/function/BiFunction;", .methodLink RJ0 1059 yJ3_checkIndex_8e157, .static yJ3_checkIndex_8e157, .initialized RJ3, .code yJ3_checkIndex_8e157 cJ3_checkIndex_8e157 3 (some .int)])
def wsJ2_length_9d52b : List Cond := .code yJ2_length_9d52b cJ2_length_9d52b 1 (some .int) :: ([])
def wsJ2_checkIndex_2214a : List Cond := .code yJ2_checkIndex_2214a cJ2_checkIndex_2214a 2 none :: ([.methodLink RJ2 48 yJ2_length_9d52b, .static yJ2_length_9d52b, .initialized RJ2, .code yJ2_length_9d52b cJ2_length_9d52b 1 (some .int), .methodLink RJ2 414 yJ0_checkIndex_df160, .static yJ0_checkIndex_df160, .initialized RJ0, .code yJ0_checkIndex_df160 cJ0_checkIndex_df160 2 none, .fieldLink RJ0 1053 "jdk/internal/util/Preconditions" "SIOOBE_FORMATTER" "Ljava/util/function/BiFunction;", .methodLink RJ0 1059 yJ3_checkIndex_8e157, .static yJ3_checkIndex_8e157, .initialized RJ3, .code yJ3_checkIndex_8e157 cJ3_checkIndex_8e157 3 (some .int)])
def wsJ2_getChar_3b067 : List Cond := .code yJ2_getChar_3b067 cJ2_getChar_3b067 2 (some .char) :: ([.fieldLink RJ2 44 "java/lang/StringUTF16" "$assertionsDisabled" "Z", .fieldLink RJ2 59 "java/lang/StringUTF16" "HI_BYTE_SHIFT" "I", .fieldLink RJ2 63 "java/lang/StringUTF16" "LO_BYTE_SHIFT" "I", .methodLink RJ2 48 yJ2_length_9d52b, .static yJ2_length_9d52b, .initialized RJ2, .code yJ2_length_9d52b cJ2_length_9d52b 1 (some .int)])
def wsJ2_charAt_3b067 : List Cond := .code yJ2_charAt_3b067 cJ2_charAt_3b067 2 (some .char) :: ([.methodLink RJ2 67 yJ2_checkIndex_2214a, .static yJ2_checkIndex_2214a, .initialized RJ2, .code yJ2_checkIndex_2214a cJ2_checkIndex_2214a 2 none, .methodLink RJ2 48 yJ2_length_9d52b, .static yJ2_length_9d52b, .code yJ2_length_9d52b cJ2_length_9d52b 1 (some .int), .methodLink RJ2 414 yJ0_checkIndex_df160, .static yJ0_checkIndex_df160, .initialized RJ0, .code yJ0_checkIndex_df160 cJ0_checkIndex_df160 2 none, .fieldLink RJ0 1053 "jdk/internal/util/Preconditions" "SIOOBE_FORMATTER" "Ljava/util/function/BiFunction;", .methodLink RJ0 1059 yJ3_checkIndex_8e157, .static yJ3_checkIndex_8e157, .initialized RJ3, .code yJ3_checkIndex_8e157 cJ3_checkIndex_8e157 3 (some .int), .methodLink RJ2 71 yJ2_getChar_3b067, .static yJ2_getChar_3b067, .code yJ2_getChar_3b067 cJ2_getChar_3b067 2 (some .char), .fieldLink RJ2 44 "java/lang/StringUTF16" "$assertionsDisabled" "Z", .fieldLink RJ2 59 "java/lang/StringUTF16" "HI_BYTE_SHIFT" "I", .fieldLink RJ2 63 "java/lang/StringUTF16" "LO_BYTE_SHIFT" "I"])
def wsJ0_charAt_5068e_r1 : List Cond := [Cond.fieldLink RJ0 9 "java/lang/String" "value" "[B", Cond.methodLink RJ0 492 yJ0_isLatin1_aae02, Cond.instanceMethod yJ0_isLatin1_aae02, Cond.selects RJ0 yJ0_isLatin1_aae02 yJ0_isLatin1_aae02, Cond.initialized RJ0, Cond.code yJ0_isLatin1_aae02 cJ0_isLatin1_aae02 1 (some .boolean), Cond.fieldLink RJ0 38 "java/lang/String" "COMPACT_STRINGS" "Z", Cond.fieldLink RJ0 15 "java/lang/String" "coder" "B", Cond.methodLink RJ0 495 yJ1_charAt_3b067, Cond.static yJ1_charAt_3b067, Cond.initialized RJ1, Cond.code yJ1_charAt_3b067 cJ1_charAt_3b067 2 (some .char), Cond.methodLink RJ1 9 yJ0_checkIndex_df160, Cond.static yJ0_checkIndex_df160, Cond.code yJ0_checkIndex_df160 cJ0_checkIndex_df160 2 none, Cond.fieldLink RJ0 1053 "jdk/internal/util/Preconditions" "SIOOBE_FORMATTER" "Ljava/util/function/BiFunction;", Cond.methodLink RJ0 1059 yJ3_checkIndex_8e157, Cond.static yJ3_checkIndex_8e157, Cond.initialized RJ3, Cond.code yJ3_checkIndex_8e157 cJ3_checkIndex_8e157 3 (some .int), Cond.methodLink RJ0 498 yJ2_charAt_3b067, Cond.static yJ2_charAt_3b067, Cond.initialized RJ2, Cond.code yJ2_charAt_3b067 cJ2_charAt_3b067 2 (some .char)]
def wsJ0_charAt_5068e_r2 : List Cond := [Cond.methodLink RJ2 67 yJ2_checkIndex_2214a, Cond.static yJ2_checkIndex_2214a, Cond.code yJ2_checkIndex_2214a cJ2_checkIndex_2214a 2 none, Cond.methodLink RJ2 48 yJ2_length_9d52b, Cond.static yJ2_length_9d52b, Cond.code yJ2_length_9d52b cJ2_length_9d52b 1 (some .int), Cond.methodLink RJ2 414 yJ0_checkIndex_df160, Cond.methodLink RJ2 71 yJ2_getChar_3b067, Cond.static yJ2_getChar_3b067, Cond.code yJ2_getChar_3b067 cJ2_getChar_3b067 2 (some .char), Cond.fieldLink RJ2 44 "java/lang/StringUTF16" "$assertionsDisabled" "Z", Cond.fieldLink RJ2 59 "java/lang/StringUTF16" "HI_BYTE_SHIFT" "I", Cond.fieldLink RJ2 63 "java/lang/StringUTF16" "LO_BYTE_SHIFT" "I"]
def wsJ0_charAt_5068e : List Cond := .code yJ0_charAt_5068e cJ0_charAt_5068e 2 (some .char) :: ((wsJ0_charAt_5068e_r1 ++ wsJ0_charAt_5068e_r2))
def wsX5_spells_r1 : List Cond := [Cond.fieldLink RX5 28 "LandReform$Reader" "tokenEnd" "I", Cond.fieldLink RX5 39 "LandReform$Reader" "tokenStart" "I", Cond.fieldLink RX5 25 "LandReform$Reader" "length" "I", Cond.fieldLink RX5 15 "LandReform$Reader" "text" "[B", Cond.methodLink RX5 91 yJ0_length_8abf5, Cond.instanceMethod yJ0_length_8abf5, Cond.selects RJ0 yJ0_length_8abf5 yJ0_length_8abf5, Cond.initialized RJ0, Cond.code yJ0_length_8abf5 cJ0_length_8abf5 1 (some .int), Cond.fieldLink RJ0 9 "java/lang/String" "value" "[B", Cond.methodLink RJ0 335 yJ0_coder_7d493, Cond.instanceMethod yJ0_coder_7d493, Cond.selects RJ0 yJ0_coder_7d493 yJ0_coder_7d493, Cond.code yJ0_coder_7d493 cJ0_coder_7d493 1 (some .byte), Cond.fieldLink RJ0 38 "java/lang/String" "COMPACT_STRINGS" "Z", Cond.fieldLink RJ0 15 "java/lang/String" "coder" "B", Cond.methodLink RX5 95 yJ0_charAt_5068e, Cond.instanceMethod yJ0_charAt_5068e, Cond.selects RJ0 yJ0_charAt_5068e yJ0_charAt_5068e, Cond.code yJ0_charAt_5068e cJ0_charAt_5068e 2 (some .char), Cond.methodLink RJ0 492 yJ0_isLatin1_aae02, Cond.instanceMethod yJ0_isLatin1_aae02, Cond.selects RJ0 yJ0_isLatin1_aae02 yJ0_isLatin1_aae02, Cond.code yJ0_isLatin1_aae02 cJ0_isLatin1_aae02 1 (some .boolean)]
def wsX5_spells_r2 : List Cond := [Cond.methodLink RJ0 495 yJ1_charAt_3b067, Cond.static yJ1_charAt_3b067, Cond.initialized RJ1, Cond.code yJ1_charAt_3b067 cJ1_charAt_3b067 2 (some .char), Cond.methodLink RJ1 9 yJ0_checkIndex_df160, Cond.static yJ0_checkIndex_df160, Cond.code yJ0_checkIndex_df160 cJ0_checkIndex_df160 2 none, Cond.fieldLink RJ0 1053 "jdk/internal/util/Preconditions" "SIOOBE_FORMATTER" "Ljava/util/function/BiFunction;", Cond.methodLink RJ0 1059 yJ3_checkIndex_8e157, Cond.static yJ3_checkIndex_8e157, Cond.initialized RJ3, Cond.code yJ3_checkIndex_8e157 cJ3_checkIndex_8e157 3 (some .int), Cond.methodLink RJ0 498 yJ2_charAt_3b067, Cond.static yJ2_charAt_3b067, Cond.initialized RJ2, Cond.code yJ2_charAt_3b067 cJ2_charAt_3b067 2 (some .char), Cond.methodLink RJ2 67 yJ2_checkIndex_2214a, Cond.static yJ2_checkIndex_2214a, Cond.code yJ2_checkIndex_2214a cJ2_checkIndex_2214a 2 none, Cond.methodLink RJ2 48 yJ2_length_9d52b, Cond.static yJ2_length_9d52b, Cond.code yJ2_length_9d52b cJ2_length_9d52b 1 (some .int), Cond.methodLink RJ2 414 yJ0_checkIndex_df160, Cond.methodLink RJ2 71 yJ2_getChar_3b067]
def wsX5_spells_r3 : List Cond := [Cond.static yJ2_getChar_3b067, Cond.code yJ2_getChar_3b067 cJ2_getChar_3b067 2 (some .char), Cond.fieldLink RJ2 44 "java/lang/StringUTF16" "$assertionsDisabled" "Z", Cond.fieldLink RJ2 59 "java/lang/StringUTF16" "HI_BYTE_SHIFT" "I", Cond.fieldLink RJ2 63 "java/lang/StringUTF16" "LO_BYTE_SHIFT" "I"]
def wsX5_spells : List Cond := .code yX5_spells cX5_spells 3 (some .boolean) :: ((wsX5_spells_r1 ++ (wsX5_spells_r2 ++ wsX5_spells_r3)) ++ wsX50)
end
section
def wsX5_keyword_r1 : List Cond := [Cond.methodLink RX5 55 yX5_spells, Cond.instanceMethod yX5_spells, Cond.selects RX5 yX5_spells yX5_spells, Cond.initialized RX5, Cond.code yX5_spells cX5_spells 3 (some .boolean), Cond.fieldLink RX5 28 "LandReform$Reader" "tokenEnd" "I", Cond.fieldLink RX5 39 "LandReform$Reader" "tokenStart" "I", Cond.fieldLink RX5 25 "LandReform$Reader" "length" "I", Cond.fieldLink RX5 15 "LandReform$Reader" "text" "[B", Cond.methodLink RX5 91 yJ0_length_8abf5, Cond.instanceMethod yJ0_length_8abf5, Cond.selects RJ0 yJ0_length_8abf5 yJ0_length_8abf5, Cond.initialized RJ0, Cond.code yJ0_length_8abf5 cJ0_length_8abf5 1 (some .int), Cond.fieldLink RJ0 9 "java/lang/String" "value" "[B", Cond.methodLink RJ0 335 yJ0_coder_7d493, Cond.instanceMethod yJ0_coder_7d493, Cond.selects RJ0 yJ0_coder_7d493 yJ0_coder_7d493, Cond.code yJ0_coder_7d493 cJ0_coder_7d493 1 (some .byte), Cond.fieldLink RJ0 38 "java/lang/String" "COMPACT_STRINGS" "Z", Cond.fieldLink RJ0 15 "java/lang/String" "coder" "B", Cond.methodLink RX5 95 yJ0_charAt_5068e, Cond.instanceMethod yJ0_charAt_5068e, Cond.selects RJ0 yJ0_charAt_5068e yJ0_charAt_5068e]
def wsX5_keyword_r2 : List Cond := [Cond.code yJ0_charAt_5068e cJ0_charAt_5068e 2 (some .char), Cond.methodLink RJ0 492 yJ0_isLatin1_aae02, Cond.instanceMethod yJ0_isLatin1_aae02, Cond.selects RJ0 yJ0_isLatin1_aae02 yJ0_isLatin1_aae02, Cond.code yJ0_isLatin1_aae02 cJ0_isLatin1_aae02 1 (some .boolean), Cond.methodLink RJ0 495 yJ1_charAt_3b067, Cond.static yJ1_charAt_3b067, Cond.initialized RJ1, Cond.code yJ1_charAt_3b067 cJ1_charAt_3b067 2 (some .char), Cond.methodLink RJ1 9 yJ0_checkIndex_df160, Cond.static yJ0_checkIndex_df160, Cond.code yJ0_checkIndex_df160 cJ0_checkIndex_df160 2 none, Cond.fieldLink RJ0 1053 "jdk/internal/util/Preconditions" "SIOOBE_FORMATTER" "Ljava/util/function/BiFunction;", Cond.methodLink RJ0 1059 yJ3_checkIndex_8e157, Cond.static yJ3_checkIndex_8e157, Cond.initialized RJ3, Cond.code yJ3_checkIndex_8e157 cJ3_checkIndex_8e157 3 (some .int), Cond.methodLink RJ0 498 yJ2_charAt_3b067, Cond.static yJ2_charAt_3b067, Cond.initialized RJ2, Cond.code yJ2_charAt_3b067 cJ2_charAt_3b067 2 (some .char), Cond.methodLink RJ2 67 yJ2_checkIndex_2214a, Cond.static yJ2_checkIndex_2214a, Cond.code yJ2_checkIndex_2214a cJ2_checkIndex_2214a 2 none]
def wsX5_keyword_r3 : List Cond := [Cond.methodLink RJ2 48 yJ2_length_9d52b, Cond.static yJ2_length_9d52b, Cond.code yJ2_length_9d52b cJ2_length_9d52b 1 (some .int), Cond.methodLink RJ2 414 yJ0_checkIndex_df160, Cond.methodLink RJ2 71 yJ2_getChar_3b067, Cond.static yJ2_getChar_3b067, Cond.code yJ2_getChar_3b067 cJ2_getChar_3b067 2 (some .char), Cond.fieldLink RJ2 44 "java/lang/StringUTF16" "$assertionsDisabled" "Z", Cond.fieldLink RJ2 59 "java/lang/StringUTF16" "HI_BYTE_SHIFT" "I", Cond.fieldLink RJ2 63 "java/lang/StringUTF16" "LO_BYTE_SHIFT" "I"]
def wsX5_keyword : List Cond := .code yX5_keyword cX5_keyword 1 (some .int) :: ((wsX5_keyword_r1 ++ (wsX5_keyword_r2 ++ wsX5_keyword_r3)) ++ wsX50)
def wsX5_number : List Cond := .code yX5_number cX5_number 6 (some .int) :: ([.fieldLink RX5 28 "LandReform$Reader" "tokenEnd" "I", .fieldLink RX5 39 "LandReform$Reader" "tokenStart" "I", .fieldLink RX5 25 "LandReform$Reader" "length" "I", .fieldLink RX5 15 "LandReform$Reader" "text" "[B", .methodLink RX5 72 yX5_isDigit, .static yX5_isDigit, .initialized RX5, .code yX5_isDigit cX5_isDigit 1 (some .boolean)] ++ wsX50)
def wsX5_readStatement_r1 : List Cond := [Cond.methodLink RX5 46 yX5_keyword, Cond.instanceMethod yX5_keyword, Cond.selects RX5 yX5_keyword yX5_keyword, Cond.initialized RX5, Cond.code yX5_keyword cX5_keyword 1 (some .int), Cond.methodLink RX5 55 yX5_spells, Cond.instanceMethod yX5_spells, Cond.selects RX5 yX5_spells yX5_spells, Cond.code yX5_spells cX5_spells 3 (some .boolean), Cond.fieldLink RX5 28 "LandReform$Reader" "tokenEnd" "I", Cond.fieldLink RX5 39 "LandReform$Reader" "tokenStart" "I", Cond.fieldLink RX5 25 "LandReform$Reader" "length" "I", Cond.fieldLink RX5 15 "LandReform$Reader" "text" "[B", Cond.methodLink RX5 91 yJ0_length_8abf5, Cond.instanceMethod yJ0_length_8abf5, Cond.selects RJ0 yJ0_length_8abf5 yJ0_length_8abf5, Cond.initialized RJ0, Cond.code yJ0_length_8abf5 cJ0_length_8abf5 1 (some .int), Cond.fieldLink RJ0 9 "java/lang/String" "value" "[B", Cond.methodLink RJ0 335 yJ0_coder_7d493, Cond.instanceMethod yJ0_coder_7d493, Cond.selects RJ0 yJ0_coder_7d493 yJ0_coder_7d493, Cond.code yJ0_coder_7d493 cJ0_coder_7d493 1 (some .byte), Cond.fieldLink RJ0 38 "java/lang/String" "COMPACT_STRINGS" "Z"]
def wsX5_readStatement_r2 : List Cond := [Cond.fieldLink RJ0 15 "java/lang/String" "coder" "B", Cond.methodLink RX5 95 yJ0_charAt_5068e, Cond.instanceMethod yJ0_charAt_5068e, Cond.selects RJ0 yJ0_charAt_5068e yJ0_charAt_5068e, Cond.code yJ0_charAt_5068e cJ0_charAt_5068e 2 (some .char), Cond.methodLink RJ0 492 yJ0_isLatin1_aae02, Cond.instanceMethod yJ0_isLatin1_aae02, Cond.selects RJ0 yJ0_isLatin1_aae02 yJ0_isLatin1_aae02, Cond.code yJ0_isLatin1_aae02 cJ0_isLatin1_aae02 1 (some .boolean), Cond.methodLink RJ0 495 yJ1_charAt_3b067, Cond.static yJ1_charAt_3b067, Cond.initialized RJ1, Cond.code yJ1_charAt_3b067 cJ1_charAt_3b067 2 (some .char), Cond.methodLink RJ1 9 yJ0_checkIndex_df160, Cond.static yJ0_checkIndex_df160, Cond.code yJ0_checkIndex_df160 cJ0_checkIndex_df160 2 none, Cond.fieldLink RJ0 1053 "jdk/internal/util/Preconditions" "SIOOBE_FORMATTER" "Ljava/util/function/BiFunction;", Cond.methodLink RJ0 1059 yJ3_checkIndex_8e157, Cond.static yJ3_checkIndex_8e157, Cond.initialized RJ3, Cond.code yJ3_checkIndex_8e157 cJ3_checkIndex_8e157 3 (some .int), Cond.methodLink RJ0 498 yJ2_charAt_3b067, Cond.static yJ2_charAt_3b067, Cond.initialized RJ2]
def wsX5_readStatement_r3 : List Cond := [Cond.code yJ2_charAt_3b067 cJ2_charAt_3b067 2 (some .char), Cond.methodLink RJ2 67 yJ2_checkIndex_2214a, Cond.static yJ2_checkIndex_2214a, Cond.code yJ2_checkIndex_2214a cJ2_checkIndex_2214a 2 none, Cond.methodLink RJ2 48 yJ2_length_9d52b, Cond.static yJ2_length_9d52b, Cond.code yJ2_length_9d52b cJ2_length_9d52b 1 (some .int), Cond.methodLink RJ2 414 yJ0_checkIndex_df160, Cond.methodLink RJ2 71 yJ2_getChar_3b067, Cond.static yJ2_getChar_3b067, Cond.code yJ2_getChar_3b067 cJ2_getChar_3b067 2 (some .char), Cond.fieldLink RJ2 44 "java/lang/StringUTF16" "$assertionsDisabled" "Z", Cond.fieldLink RJ2 59 "java/lang/StringUTF16" "HI_BYTE_SHIFT" "I", Cond.fieldLink RJ2 63 "java/lang/StringUTF16" "LO_BYTE_SHIFT" "I", Cond.methodLink RX5 36 yX5_nextToken, Cond.instanceMethod yX5_nextToken, Cond.selects RX5 yX5_nextToken yX5_nextToken, Cond.code yX5_nextToken cX5_nextToken 2 none, Cond.methodLink RX5 65 yX5_isBlank, Cond.static yX5_isBlank, Cond.code yX5_isBlank cX5_isBlank 1 (some .boolean), Cond.methodLink RX5 69 yX5_isLetter, Cond.static yX5_isLetter, Cond.code yX5_isLetter cX5_isLetter 1 (some .boolean)]
def wsX5_readStatement_r4 : List Cond := [Cond.methodLink RX5 72 yX5_isDigit, Cond.static yX5_isDigit, Cond.code yX5_isDigit cX5_isDigit 1 (some .boolean), Cond.methodLink RX5 50 yX5_number, Cond.instanceMethod yX5_number, Cond.selects RX5 yX5_number yX5_number, Cond.code yX5_number cX5_number 6 (some .int), Cond.instanceMethod yX3_rule, Cond.initialized RX3, Cond.selects RX3 yX3_rule yX3_rule, Cond.code yX3_rule cX3_rule 4 none, Cond.fieldLink RX3 24 "LandReform$Law" "ceiling" "I", Cond.fieldLink RX3 28 "LandReform$Law" "family" "I", Cond.fieldLink RX3 31 "LandReform$Law" "lastFreeDay" "I", Cond.fieldLink RX3 37 "LandReform$Law" "price" "I", Cond.fieldLink RX3 40 "LandReform$Law" "years" "I", Cond.fieldLink RX3 43 "LandReform$Law" "shares" "I", Cond.fieldLink RX3 46 "LandReform$Law" "statements" "I", Cond.methodLink RX3 49 yX3_exemptCrop, Cond.instanceMethod yX3_exemptCrop, Cond.selects RX3 yX3_exemptCrop yX3_exemptCrop, Cond.code yX3_exemptCrop cX3_exemptCrop 2 none, Cond.fieldLink RX3 34 "LandReform$Law" "exemptCrops" "I", Cond.static yX10_isBelow]
def wsX5_readStatement_r5 : List Cond := [Cond.initialized RX10, Cond.code yX10_isBelow cX10_isBelow 2 (some .boolean), Cond.methodLink RX3 53 yX3_setSoil, Cond.instanceMethod yX3_setSoil, Cond.selects RX3 yX3_setSoil yX3_setSoil, Cond.code yX3_setSoil cX3_setSoil 3 none, Cond.fieldLink RX3 9 "LandReform$Law" "soilValues" "[I"]
def wsX5_readStatement : List Cond := .code yX5_readStatement cX5_readStatement 5 (some .boolean) :: ((wsX5_readStatement_r1 ++ (wsX5_readStatement_r2 ++ (wsX5_readStatement_r3 ++ (wsX5_readStatement_r4 ++ wsX5_readStatement_r5)))) ++ wsX50 ++ wsX30)
def wsX5_readAct_r1 : List Cond := [Cond.fieldLink RX5 15 "LandReform$Reader" "text" "[B", Cond.methodLink RX5 19 Lib.Math.min.name, Cond.static Lib.Math.min.name, Cond.initialized "java/lang/Math", Cond.code Lib.Math.min.name Lib.Math.min.code 2 (some .int), Cond.fieldLink RX5 25 "LandReform$Reader" "length" "I", Cond.fieldLink RX5 28 "LandReform$Reader" "tokenEnd" "I", Cond.fieldLink RX5 9 "LandReform$Reader" "fault" "I", Cond.fieldLink RX5 39 "LandReform$Reader" "tokenStart" "I", Cond.instanceMethod yX3_clear, Cond.initialized RX3, Cond.selects RX3 yX3_clear yX3_clear, Cond.code yX3_clear cX3_clear 1 none, Cond.fieldLink RX3 9 "LandReform$Law" "soilValues" "[I", Cond.fieldLink RX3 24 "LandReform$Law" "ceiling" "I", Cond.fieldLink RX3 28 "LandReform$Law" "family" "I", Cond.fieldLink RX3 31 "LandReform$Law" "lastFreeDay" "I", Cond.fieldLink RX3 34 "LandReform$Law" "exemptCrops" "I", Cond.fieldLink RX3 37 "LandReform$Law" "price" "I", Cond.fieldLink RX3 40 "LandReform$Law" "years" "I", Cond.fieldLink RX3 43 "LandReform$Law" "shares" "I", Cond.fieldLink RX3 46 "LandReform$Law" "statements" "I", Cond.methodLink RX3 18 yJ7_fill_53178, Cond.static yJ7_fill_53178]
def wsX5_readAct_r2 : List Cond := [Cond.initialized RJ7, Cond.code yJ7_fill_53178 cJ7_fill_53178 4 none, Cond.methodLink RX5 36 yX5_nextToken, Cond.instanceMethod yX5_nextToken, Cond.selects RX5 yX5_nextToken yX5_nextToken, Cond.initialized RX5, Cond.code yX5_nextToken cX5_nextToken 2 none, Cond.methodLink RX5 65 yX5_isBlank, Cond.static yX5_isBlank, Cond.code yX5_isBlank cX5_isBlank 1 (some .boolean), Cond.methodLink RX5 69 yX5_isLetter, Cond.static yX5_isLetter, Cond.code yX5_isLetter cX5_isLetter 1 (some .boolean), Cond.methodLink RX5 72 yX5_isDigit, Cond.static yX5_isDigit, Cond.code yX5_isDigit cX5_isDigit 1 (some .boolean), Cond.methodLink RX5 42 yX5_readStatement, Cond.instanceMethod yX5_readStatement, Cond.selects RX5 yX5_readStatement yX5_readStatement, Cond.code yX5_readStatement cX5_readStatement 5 (some .boolean), Cond.methodLink RX5 46 yX5_keyword, Cond.instanceMethod yX5_keyword, Cond.selects RX5 yX5_keyword yX5_keyword, Cond.code yX5_keyword cX5_keyword 1 (some .int)]
def wsX5_readAct_r3 : List Cond := [Cond.methodLink RX5 55 yX5_spells, Cond.instanceMethod yX5_spells, Cond.selects RX5 yX5_spells yX5_spells, Cond.code yX5_spells cX5_spells 3 (some .boolean), Cond.methodLink RX5 91 yJ0_length_8abf5, Cond.instanceMethod yJ0_length_8abf5, Cond.selects RJ0 yJ0_length_8abf5 yJ0_length_8abf5, Cond.initialized RJ0, Cond.code yJ0_length_8abf5 cJ0_length_8abf5 1 (some .int), Cond.fieldLink RJ0 9 "java/lang/String" "value" "[B", Cond.methodLink RJ0 335 yJ0_coder_7d493, Cond.instanceMethod yJ0_coder_7d493, Cond.selects RJ0 yJ0_coder_7d493 yJ0_coder_7d493, Cond.code yJ0_coder_7d493 cJ0_coder_7d493 1 (some .byte), Cond.fieldLink RJ0 38 "java/lang/String" "COMPACT_STRINGS" "Z", Cond.fieldLink RJ0 15 "java/lang/String" "coder" "B", Cond.methodLink RX5 95 yJ0_charAt_5068e, Cond.instanceMethod yJ0_charAt_5068e, Cond.selects RJ0 yJ0_charAt_5068e yJ0_charAt_5068e, Cond.code yJ0_charAt_5068e cJ0_charAt_5068e 2 (some .char), Cond.methodLink RJ0 492 yJ0_isLatin1_aae02, Cond.instanceMethod yJ0_isLatin1_aae02, Cond.selects RJ0 yJ0_isLatin1_aae02 yJ0_isLatin1_aae02, Cond.code yJ0_isLatin1_aae02 cJ0_isLatin1_aae02 1 (some .boolean)]
def wsX5_readAct_r4 : List Cond := [Cond.methodLink RJ0 495 yJ1_charAt_3b067, Cond.static yJ1_charAt_3b067, Cond.initialized RJ1, Cond.code yJ1_charAt_3b067 cJ1_charAt_3b067 2 (some .char), Cond.methodLink RJ1 9 yJ0_checkIndex_df160, Cond.static yJ0_checkIndex_df160, Cond.code yJ0_checkIndex_df160 cJ0_checkIndex_df160 2 none, Cond.fieldLink RJ0 1053 "jdk/internal/util/Preconditions" "SIOOBE_FORMATTER" "Ljava/util/function/BiFunction;", Cond.methodLink RJ0 1059 yJ3_checkIndex_8e157, Cond.static yJ3_checkIndex_8e157, Cond.initialized RJ3, Cond.code yJ3_checkIndex_8e157 cJ3_checkIndex_8e157 3 (some .int), Cond.methodLink RJ0 498 yJ2_charAt_3b067, Cond.static yJ2_charAt_3b067, Cond.initialized RJ2, Cond.code yJ2_charAt_3b067 cJ2_charAt_3b067 2 (some .char), Cond.methodLink RJ2 67 yJ2_checkIndex_2214a, Cond.static yJ2_checkIndex_2214a, Cond.code yJ2_checkIndex_2214a cJ2_checkIndex_2214a 2 none, Cond.methodLink RJ2 48 yJ2_length_9d52b, Cond.static yJ2_length_9d52b, Cond.code yJ2_length_9d52b cJ2_length_9d52b 1 (some .int), Cond.methodLink RJ2 414 yJ0_checkIndex_df160, Cond.methodLink RJ2 71 yJ2_getChar_3b067]
def wsX5_readAct_r5 : List Cond := [Cond.static yJ2_getChar_3b067, Cond.code yJ2_getChar_3b067 cJ2_getChar_3b067 2 (some .char), Cond.fieldLink RJ2 44 "java/lang/StringUTF16" "$assertionsDisabled" "Z", Cond.fieldLink RJ2 59 "java/lang/StringUTF16" "HI_BYTE_SHIFT" "I", Cond.fieldLink RJ2 63 "java/lang/StringUTF16" "LO_BYTE_SHIFT" "I", Cond.methodLink RX5 50 yX5_number, Cond.instanceMethod yX5_number, Cond.selects RX5 yX5_number yX5_number, Cond.code yX5_number cX5_number 6 (some .int), Cond.instanceMethod yX3_rule, Cond.selects RX3 yX3_rule yX3_rule, Cond.code yX3_rule cX3_rule 4 none, Cond.methodLink RX3 49 yX3_exemptCrop, Cond.instanceMethod yX3_exemptCrop, Cond.selects RX3 yX3_exemptCrop yX3_exemptCrop, Cond.code yX3_exemptCrop cX3_exemptCrop 2 none, Cond.static yX10_isBelow, Cond.initialized RX10, Cond.code yX10_isBelow cX10_isBelow 2 (some .boolean), Cond.methodLink RX3 53 yX3_setSoil, Cond.instanceMethod yX3_setSoil, Cond.selects RX3 yX3_setSoil yX3_setSoil, Cond.code yX3_setSoil cX3_setSoil 3 none]
def wsX5_readAct : List Cond := .code yX5_readAct cX5_readAct 4 (some .boolean) :: ((wsX5_readAct_r1 ++ (wsX5_readAct_r2 ++ (wsX5_readAct_r3 ++ (wsX5_readAct_r4 ++ wsX5_readAct_r5)))) ++ wsX50 ++ wsX30)
def wsX6_init : List Cond := .code yX6_init cX6_init 1 none :: ([.methodLink RX6 3 objectInit, .instanceMethod objectInit, .code objectInit ⟨#[0xb1]⟩ 1 none, .arrayClass .int, .fieldLink RX6 9 "LandReform$Rings" "homes" "[I", .fieldLink RX6 15 "LandReform$Rings" "fieldsHad" "[I", .fieldLink RX6 18 "LandReform$Rings" "placesHad" "[I", .fieldLink RX6 21 "LandReform$Rings" "fieldsGot" "[I", .fieldLink RX6 24 "LandReform$Rings" "pointedAt" "[I"] ++ wsX60)
def wsX6_holderOfNearest : List Cond := .code yX6_holderOfNearest cX6_holderOfNearest 6 (some .int) :: ([.fieldLink RX6 36 "LandReform$Rings" "size" "I", .fieldLink RX6 18 "LandReform$Rings" "placesHad" "[I", .fieldLink RX6 9 "LandReform$Rings" "homes" "[I", .methodLink RX6 66 Lib.Math.abs.name, .static Lib.Math.abs.name, .initialized "java/lang/Math", .code Lib.Math.abs.name Lib.Math.abs.code 1 (some .int), .fieldLink RX6 15 "LandReform$Rings" "fieldsHad" "[I", .fieldLink RX6 21 "LandReform$Rings" "fieldsGot" "[I"] ++ wsX60)
def wsX6_point : List Cond := .code yX6_point cX6_point 2 none :: ([.fieldLink RX6 36 "LandReform$Rings" "size" "I", .fieldLink RX6 21 "LandReform$Rings" "fieldsGot" "[I", .fieldLink RX6 24 "LandReform$Rings" "pointedAt" "[I", .methodLink RX6 63 yX6_holderOfNearest, .instanceMethod yX6_holderOfNearest, .selects RX6 yX6_holderOfNearest yX6_holderOfNearest, .initialized RX6, .code yX6_holderOfNearest cX6_holderOfNearest 6 (some .int), .fieldLink RX6 18 "LandReform$Rings" "placesHad" "[I", .fieldLink RX6 9 "LandReform$Rings" "homes" "[I", .methodLink RX6 66 Lib.Math.abs.name, .static Lib.Math.abs.name, .initialized "java/lang/Math", .code Lib.Math.abs.name Lib.Math.abs.code 1 (some .int), .fieldLink RX6 15 "LandReform$Rings" "fieldsHad" "[I"] ++ wsX60)
def wsX6_leastInRing : List Cond := .code yX6_leastInRing cX6_leastInRing 5 (some .int) :: ([.fieldLink RX6 24 "LandReform$Rings" "pointedAt" "[I", .fieldLink RX6 36 "LandReform$Rings" "size" "I", .methodLink RX6 27 Lib.Math.min.name, .static Lib.Math.min.name, .initialized "java/lang/Math", .code Lib.Math.min.name Lib.Math.min.code 2 (some .int)] ++ wsX60)
def wsX6_leaveInRings : List Cond := .code yX6_leaveInRings cX6_leaveInRings 3 none :: ([.fieldLink RX6 36 "LandReform$Rings" "size" "I", .fieldLink RX6 21 "LandReform$Rings" "fieldsGot" "[I", .fieldLink RX6 15 "LandReform$Rings" "fieldsHad" "[I", .fieldLink RX6 24 "LandReform$Rings" "pointedAt" "[I", .fieldLink RX6 40 "LandReform$Rings" "closed" "I", .methodLink RX6 69 yX6_leastInRing, .instanceMethod yX6_leastInRing, .selects RX6 yX6_leastInRing yX6_leastInRing, .initialized RX6, .code yX6_leastInRing cX6_leastInRing 5 (some .int), .methodLink RX6 27 Lib.Math.min.name, .static Lib.Math.min.name, .initialized "java/lang/Math", .code Lib.Math.min.name Lib.Math.min.code 2 (some .int)] ++ wsX60)
def wsX6_close_r1 : List Cond := [Cond.methodLink RX6 27 Lib.Math.min.name, Cond.static Lib.Math.min.name, Cond.initialized "java/lang/Math", Cond.code Lib.Math.min.name Lib.Math.min.code 2 (some .int), Cond.methodLink RX6 33 Lib.Math.max.name, Cond.static Lib.Math.max.name, Cond.code Lib.Math.max.name Lib.Math.max.code 2 (some .int), Cond.fieldLink RX6 36 "LandReform$Rings" "size" "I", Cond.fieldLink RX6 40 "LandReform$Rings" "closed" "I", Cond.fieldLink RX6 9 "LandReform$Rings" "homes" "[I", Cond.fieldLink RX6 15 "LandReform$Rings" "fieldsHad" "[I", Cond.fieldLink RX6 18 "LandReform$Rings" "placesHad" "[I", Cond.fieldLink RX6 21 "LandReform$Rings" "fieldsGot" "[I", Cond.fieldLink RX6 24 "LandReform$Rings" "pointedAt" "[I", Cond.methodLink RX6 43 yX4_homeOf, Cond.instanceMethod yX4_homeOf, Cond.selects RX4 yX4_homeOf yX4_homeOf, Cond.initialized RX4, Cond.code yX4_homeOf cX4_homeOf 2 (some .int), Cond.fieldLink RX4 15 "LandReform$People" "homes" "[I", Cond.methodLink RX4 30 yX4_has, Cond.instanceMethod yX4_has, Cond.selects RX4 yX4_has yX4_has, Cond.code yX4_has cX4_has 2 (some .boolean)]
def wsX6_close_r2 : List Cond := [Cond.fieldLink RX4 22 "LandReform$People" "size" "I", Cond.static yX10_isBelow, Cond.initialized RX10, Cond.code yX10_isBelow cX10_isBelow 2 (some .boolean), Cond.methodLink RX6 49 yX2_firstFieldOf, Cond.instanceMethod yX2_firstFieldOf, Cond.selects RX2 yX2_firstFieldOf yX2_firstFieldOf, Cond.initialized RX2, Cond.code yX2_firstFieldOf cX2_firstFieldOf 3 (some .int), Cond.fieldLink RX2 39 "LandReform$Land" "size" "I", Cond.fieldLink RX2 27 "LandReform$Land" "owners" "[I", Cond.methodLink RX6 54 yX2_placeOf, Cond.instanceMethod yX2_placeOf, Cond.selects RX2 yX2_placeOf yX2_placeOf, Cond.code yX2_placeOf cX2_placeOf 2 (some .int), Cond.fieldLink RX2 9 "LandReform$Land" "places" "[I", Cond.methodLink RX2 47 yX2_has, Cond.instanceMethod yX2_has, Cond.selects RX2 yX2_has yX2_has, Cond.code yX2_has cX2_has 2 (some .boolean), Cond.methodLink RX6 57 yX6_point, Cond.instanceMethod yX6_point, Cond.selects RX6 yX6_point yX6_point, Cond.initialized RX6]
def wsX6_close_r3 : List Cond := [Cond.code yX6_point cX6_point 2 none, Cond.methodLink RX6 63 yX6_holderOfNearest, Cond.instanceMethod yX6_holderOfNearest, Cond.selects RX6 yX6_holderOfNearest yX6_holderOfNearest, Cond.code yX6_holderOfNearest cX6_holderOfNearest 6 (some .int), Cond.methodLink RX6 66 Lib.Math.abs.name, Cond.static Lib.Math.abs.name, Cond.code Lib.Math.abs.name Lib.Math.abs.code 1 (some .int), Cond.methodLink RX6 60 yX6_leaveInRings, Cond.instanceMethod yX6_leaveInRings, Cond.selects RX6 yX6_leaveInRings yX6_leaveInRings, Cond.code yX6_leaveInRings cX6_leaveInRings 3 none, Cond.methodLink RX6 69 yX6_leastInRing, Cond.instanceMethod yX6_leastInRing, Cond.selects RX6 yX6_leastInRing yX6_leastInRing, Cond.code yX6_leastInRing cX6_leastInRing 5 (some .int)]
def wsX6_close : List Cond := .code yX6_close cX6_close 6 (some .boolean) :: ((wsX6_close_r1 ++ (wsX6_close_r2 ++ wsX6_close_r3)) ++ wsX60 ++ wsX40 ++ wsX20)
def wsX6_fieldFor : List Cond := .code yX6_fieldFor cX6_fieldFor 2 (some .int) :: ([.fieldLink RX6 36 "LandReform$Rings" "size" "I", .fieldLink RX6 21 "LandReform$Rings" "fieldsGot" "[I", .static yX10_isBelow, .initialized RX10, .code yX10_isBelow cX10_isBelow 2 (some .boolean)] ++ wsX60)
def wsX6_changes : List Cond := .code yX6_changes cX6_changes 3 (some .int) :: ([.fieldLink RX6 36 "LandReform$Rings" "size" "I", .fieldLink RX6 21 "LandReform$Rings" "fieldsGot" "[I", .fieldLink RX6 15 "LandReform$Rings" "fieldsHad" "[I"] ++ wsX60)
def wsX6_winnerOf : List Cond := .code yX6_winnerOf cX6_winnerOf 3 (some .int) :: ([.fieldLink RX6 36 "LandReform$Rings" "size" "I", .fieldLink RX6 21 "LandReform$Rings" "fieldsGot" "[I", .fieldLink RX6 15 "LandReform$Rings" "fieldsHad" "[I"] ++ wsX60)
def wsX7_init : List Cond := .code yX7_init cX7_init 5 none :: ([.methodLink RX7 3 objectInit, .instanceMethod objectInit, .code objectInit ⟨#[0xb1]⟩ 1 none, .fieldLink RX7 9 "LandReform$Sale" "soldField" "I", .fieldLink RX7 15 "LandReform$Sale" "buyer" "I", .fieldLink RX7 18 "LandReform$Sale" "owed" "I", .methodLink RX7 21 Lib.Math.max.name, .static Lib.Math.max.name, .initialized "java/lang/Math", .code Lib.Math.max.name Lib.Math.max.code 2 (some .int), .fieldLink RX7 27 "LandReform$Sale" "partsLeft" "I", .fieldLink RX7 30 "LandReform$Sale" "partsBeforeRest" "I", .fieldLink RX7 33 "LandReform$Sale" "part" "I", .fieldLink RX7 36 "LandReform$Sale" "rest" "I"] ++ wsX70)
def wsX7_pass : List Cond := .code yX7_pass cX7_pass 4 (some .int) :: ([.fieldLink RX7 27 "LandReform$Sale" "partsLeft" "I", .fieldLink RX7 30 "LandReform$Sale" "partsBeforeRest" "I", .fieldLink RX7 39 "LandReform$Sale" "yearsPutOff" "I", .fieldLink RX7 36 "LandReform$Sale" "rest" "I", .fieldLink RX7 33 "LandReform$Sale" "part" "I", .fieldLink RX7 42 "LandReform$Sale" "paid" "I"] ++ wsX70)
def wsX8_init : List Cond := .code yX8_init cX8_init 1 none :: ([.methodLink RX8 3 objectInit, .instanceMethod objectInit, .code objectInit ⟨#[0xb1]⟩ 1 none, .arrayClass .byte, .fieldLink RX8 9 "LandReform$Tape" "bytes" "[B"] ++ wsX80)
def wsX8_room : List Cond := .code yX8_room cX8_room 1 (some .int) :: ([.fieldLink RX8 15 "LandReform$Tape" "length" "I"] ++ wsX80)
def wsX8_append : List Cond := .code yX8_append cX8_append 3 none :: ([.fieldLink RX8 15 "LandReform$Tape" "length" "I", .fieldLink RX8 9 "LandReform$Tape" "bytes" "[B"] ++ wsX80)
def wsX9_init : List Cond := .code yX9_init cX9_init 1 none :: ([.methodLink RX9 3 objectInit, .instanceMethod objectInit, .code objectInit ⟨#[0xb1]⟩ 1 none, .arrayClass .int, .fieldLink RX9 9 "LandReform$Tenancies" "fields" "[I", .fieldLink RX9 15 "LandReform$Tenancies" "persons" "[I", .fieldLink RX9 18 "LandReform$Tenancies" "yearSets" "[I"] ++ wsX90)
def wsX9_pairOf : List Cond := .code yX9_pairOf cX9_pairOf 4 (some .int) :: ([.fieldLink RX9 25 "LandReform$Tenancies" "size" "I", .fieldLink RX9 9 "LandReform$Tenancies" "fields" "[I", .fieldLink RX9 15 "LandReform$Tenancies" "persons" "[I"] ++ wsX90)
def wsX9_tell : List Cond := .code yX9_tell cX9_tell 5 (some .int) :: ([.fieldLink RX9 25 "LandReform$Tenancies" "size" "I", .fieldLink RX9 9 "LandReform$Tenancies" "fields" "[I", .fieldLink RX9 15 "LandReform$Tenancies" "persons" "[I", .fieldLink RX9 18 "LandReform$Tenancies" "yearSets" "[I", .methodLink RX9 21 yX9_pairOf, .instanceMethod yX9_pairOf, .selects RX9 yX9_pairOf yX9_pairOf, .initialized RX9, .code yX9_pairOf cX9_pairOf 4 (some .int), .methodLink RX9 29 yJ6_bitCount_0f7a4, .static yJ6_bitCount_0f7a4, .initialized RJ6, .code yJ6_bitCount_0f7a4 cJ6_bitCount_0f7a4 1 (some .int), .constant RJ6 265 (1431655765), .constant RJ6 266 (858993459), .constant RJ6 267 (252645135)] ++ wsX90)
def wsX9_tenantOf : List Cond := .code yX9_tenantOf cX9_tenantOf 8 (some .int) :: ([.fieldLink RX9 25 "LandReform$Tenancies" "size" "I", .fieldLink RX9 18 "LandReform$Tenancies" "yearSets" "[I", .fieldLink RX9 9 "LandReform$Tenancies" "fields" "[I", .fieldLink RX9 15 "LandReform$Tenancies" "persons" "[I", .methodLink RX9 29 yJ6_bitCount_0f7a4, .static yJ6_bitCount_0f7a4, .initialized RJ6, .code yJ6_bitCount_0f7a4 cJ6_bitCount_0f7a4 1 (some .int), .constant RJ6 265 (1431655765), .constant RJ6 266 (858993459), .constant RJ6 267 (252645135)] ++ wsX90)
def wsX10_init_r1 : List Cond := [Cond.methodLink RX10 1 objectInit, Cond.instanceMethod objectInit, Cond.code objectInit ⟨#[0xb1]⟩ 1 none, Cond.classLink RX10 7 RX4, Cond.instantiable RX4 5, Cond.initialized RX4, Cond.fieldLink RX10 10 "LandReform" "people" "LLandReform$People;", Cond.classLink RX10 16 RX2, Cond.instantiable RX2 12, Cond.initialized RX2, Cond.fieldLink RX10 19 "LandReform" "land" "LLandReform$Land;", Cond.classLink RX10 23 RX8, Cond.instantiable RX8 2, Cond.initialized RX8, Cond.fieldLink RX10 26 "LandReform" "tape" "LLandReform$Tape;", Cond.classLink RX10 30 RX5, Cond.instantiable RX5 5, Cond.initialized RX5, Cond.fieldLink RX10 39 "LandReform" "reader" "LLandReform$Reader;", Cond.classLink RX10 43 RX1, Cond.instantiable RX1 10, Cond.initialized RX1, Cond.fieldLink RX10 46 "LandReform" "holding" "LLandReform$Holding;", Cond.classLink RX10 50 RX9]
def wsX10_init_r2 : List Cond := [Cond.instantiable RX9 4, Cond.initialized RX9, Cond.fieldLink RX10 53 "LandReform" "tenancies" "LLandReform$Tenancies;", Cond.classLink RX10 57 RX0, Cond.instantiable RX0 3, Cond.initialized RX0, Cond.fieldLink RX10 60 "LandReform" "giving" "LLandReform$Giving;", Cond.classLink RX10 64 RX6, Cond.instantiable RX6 7, Cond.initialized RX6, Cond.fieldLink RX10 67 "LandReform" "rings" "LLandReform$Rings;", Cond.classLink RX10 71 RX7, Cond.fieldLink RX10 73 "LandReform" "sales" "[LLandReform$Sale;", Cond.classLink RX10 77 RX3, Cond.instantiable RX3 9, Cond.initialized RX3, Cond.fieldLink RX10 80 "LandReform" "law" "LLandReform$Law;", Cond.fieldLink RX10 84 "LandReform" "draft" "LLandReform$Law;", Cond.instanceMethod yX4_init, Cond.code yX4_init cX4_init 1 none, Cond.methodLink RX4 3 objectInit, Cond.arrayClass .int, Cond.fieldLink RX4 9 "LandReform$People" "houses" "[I", Cond.fieldLink RX4 15 "LandReform$People" "homes" "[I"]
def wsX10_init_r3 : List Cond := [Cond.arrayClass .long, Cond.fieldLink RX4 18 "LandReform$People" "kin" "[J", Cond.instanceMethod yX2_init, Cond.code yX2_init cX2_init 1 none, Cond.methodLink RX2 3 objectInit, Cond.fieldLink RX2 9 "LandReform$Land" "places" "[I", Cond.fieldLink RX2 15 "LandReform$Land" "areas" "[I", Cond.fieldLink RX2 18 "LandReform$Land" "soils" "[I", Cond.fieldLink RX2 21 "LandReform$Land" "crops" "[I", Cond.fieldLink RX2 24 "LandReform$Land" "firstOwners" "[I", Cond.fieldLink RX2 27 "LandReform$Land" "owners" "[I", Cond.fieldLink RX2 30 "LandReform$Land" "movedFields" "[I", Cond.fieldLink RX2 33 "LandReform$Land" "receivers" "[I", Cond.fieldLink RX2 36 "LandReform$Land" "days" "[I", Cond.instanceMethod yX8_init, Cond.code yX8_init cX8_init 1 none, Cond.methodLink RX8 3 objectInit, Cond.arrayClass .byte, Cond.fieldLink RX8 9 "LandReform$Tape" "bytes" "[B", Cond.methodLink RX10 36 yX5_init, Cond.instanceMethod yX5_init, Cond.code yX5_init cX5_init 2 none, Cond.methodLink RX5 3 objectInit, Cond.fieldLink RX5 9 "LandReform$Reader" "fault" "I"]
def wsX10_init_r4 : List Cond := [Cond.fieldLink RX5 15 "LandReform$Reader" "text" "[B", Cond.instanceMethod yX1_init, Cond.code yX1_init cX1_init 1 none, Cond.methodLink RX1 3 objectInit, Cond.fieldLink RX1 9 "LandReform$Holding" "countedOwners" "[I", Cond.fieldLink RX1 15 "LandReform$Holding" "counting" "[I", Cond.fieldLink RX1 18 "LandReform$Holding" "standardSteps" "[I", Cond.fieldLink RX1 21 "LandReform$Holding" "areaSteps" "[I", Cond.instanceMethod yX9_init, Cond.code yX9_init cX9_init 1 none, Cond.methodLink RX9 3 objectInit, Cond.fieldLink RX9 9 "LandReform$Tenancies" "fields" "[I", Cond.fieldLink RX9 15 "LandReform$Tenancies" "persons" "[I", Cond.fieldLink RX9 18 "LandReform$Tenancies" "yearSets" "[I", Cond.instanceMethod yX0_init, Cond.code yX0_init cX0_init 1 none, Cond.methodLink RX0 3 objectInit, Cond.fieldLink RX0 9 "LandReform$Giving" "leastSums" "[I", Cond.classLink RX0 15 "[[I", Cond.fieldLink RX0 17 "LandReform$Giving" "distances" "[[I", Cond.instanceMethod yX6_init, Cond.code yX6_init cX6_init 1 none, Cond.methodLink RX6 3 objectInit, Cond.fieldLink RX6 9 "LandReform$Rings" "homes" "[I"]
def wsX10_init_r5 : List Cond := [Cond.fieldLink RX6 15 "LandReform$Rings" "fieldsHad" "[I", Cond.fieldLink RX6 18 "LandReform$Rings" "placesHad" "[I", Cond.fieldLink RX6 21 "LandReform$Rings" "fieldsGot" "[I", Cond.fieldLink RX6 24 "LandReform$Rings" "pointedAt" "[I", Cond.methodLink RX10 79 yX3_init, Cond.instanceMethod yX3_init, Cond.code yX3_init cX3_init 1 none, Cond.methodLink RX3 3 objectInit, Cond.fieldLink RX3 9 "LandReform$Law" "soilValues" "[I", Cond.methodLink RX3 15 yX3_clear, Cond.instanceMethod yX3_clear, Cond.selects RX3 yX3_clear yX3_clear, Cond.code yX3_clear cX3_clear 1 none, Cond.fieldLink RX3 24 "LandReform$Law" "ceiling" "I", Cond.fieldLink RX3 28 "LandReform$Law" "family" "I", Cond.fieldLink RX3 31 "LandReform$Law" "lastFreeDay" "I", Cond.fieldLink RX3 34 "LandReform$Law" "exemptCrops" "I", Cond.fieldLink RX3 37 "LandReform$Law" "price" "I", Cond.fieldLink RX3 40 "LandReform$Law" "years" "I", Cond.fieldLink RX3 43 "LandReform$Law" "shares" "I", Cond.fieldLink RX3 46 "LandReform$Law" "statements" "I", Cond.methodLink RX3 18 yJ7_fill_53178, Cond.static yJ7_fill_53178, Cond.initialized RJ7]
def wsX10_init_r6 : List Cond := [Cond.code yJ7_fill_53178 cJ7_fill_53178 4 none]
def wsX10_init : List Cond := .code yX10_init cX10_init 1 none :: ((wsX10_init_r1 ++ (wsX10_init_r2 ++ (wsX10_init_r3 ++ (wsX10_init_r4 ++ (wsX10_init_r5 ++ wsX10_init_r6))))) ++ wsX40 ++ wsX100 ++ wsX20 ++ wsX80 ++ wsX50 ++ wsX10 ++ wsX90 ++ wsX00 ++ wsX60 ++ wsX30)
def wsX10_person : List Cond := .code yX10_person cX10_person 3 (some .int) :: ([.fieldLink RX10 10 "LandReform" "people" "LLandReform$People;", .methodLink RX10 87 yX10_isBelow, .static yX10_isBelow, .initialized RX10, .code yX10_isBelow cX10_isBelow 2 (some .boolean), .methodLink RX10 91 yX4_add, .instanceMethod yX4_add, .selects RX4 yX4_add yX4_add, .initialized RX4, .code yX4_add cX4_add 3 (some .int), .fieldLink RX4 22 "LandReform$People" "size" "I", .fieldLink RX4 9 "LandReform$People" "houses" "[I", .fieldLink RX4 15 "LandReform$People" "homes" "[I"] ++ wsX100 ++ wsX40)
def wsX10_akin : List Cond := .code yX10_akin cX10_akin 3 (some .boolean) :: ([.fieldLink RX10 10 "LandReform" "people" "LLandReform$People;", .methodLink RX10 95 yX4_bind, .instanceMethod yX4_bind, .selects RX4 yX4_bind yX4_bind, .initialized RX4, .code yX4_bind cX4_bind 3 (some .boolean), .fieldLink RX4 18 "LandReform$People" "kin" "[J", .fieldLink RX4 37 "LandReform$People" "pairs" "I", .methodLink RX4 30 yX4_has, .instanceMethod yX4_has, .selects RX4 yX4_has yX4_has, .code yX4_has cX4_has 2 (some .boolean), .fieldLink RX4 22 "LandReform$People" "size" "I", .static yX10_isBelow, .initialized RX10, .code yX10_isBelow cX10_isBelow 2 (some .boolean), .methodLink RX4 34 yX4_areKin, .instanceMethod yX4_areKin, .selects RX4 yX4_areKin yX4_areKin, .code yX4_areKin cX4_areKin 3 (some .boolean)] ++ wsX100 ++ wsX40)
def wsX10_field : List Cond := .code yX10_field cX10_field 7 (some .int) :: ([.fieldLink RX10 10 "LandReform" "people" "LLandReform$People;", .fieldLink RX10 19 "LandReform" "land" "LLandReform$Land;", .methodLink RX10 87 yX10_isBelow, .static yX10_isBelow, .initialized RX10, .code yX10_isBelow cX10_isBelow 2 (some .boolean), .methodLink RX10 98 yX4_has, .instanceMethod yX4_has, .selects RX4 yX4_has yX4_has, .initialized RX4, .code yX4_has cX4_has 2 (some .boolean), .fieldLink RX4 22 "LandReform$People" "size" "I", .methodLink RX10 102 yX2_add, .instanceMethod yX2_add, .selects RX2 yX2_add yX2_add, .initialized RX2, .code yX2_add cX2_add 6 (some .int), .fieldLink RX2 39 "LandReform$Land" "size" "I", .fieldLink RX2 9 "LandReform$Land" "places" "[I", .fieldLink RX2 15 "LandReform$Land" "areas" "[I", .fieldLink RX2 18 "LandReform$Land" "soils" "[I", .fieldLink RX2 21 "LandReform$Land" "crops" "[I", .fieldLink RX2 24 "LandReform$Land" "firstOwners" "[I", .fieldLink RX2 27 "LandReform$Land" "owners" "[I"] ++ wsX100 ++ wsX40 ++ wsX20)
def wsX10_day : List Cond := .code yX10_day cX10_day 2 (some .boolean) :: ([.fieldLink RX10 19 "LandReform" "land" "LLandReform$Land;"] ++ wsX100 ++ wsX20)
def wsX10_transfer_r1 : List Cond := [Cond.fieldLink RX10 19 "LandReform" "land" "LLandReform$Land;", Cond.fieldLink RX10 10 "LandReform" "people" "LLandReform$People;", Cond.methodLink RX10 109 yX2_has, Cond.instanceMethod yX2_has, Cond.selects RX2 yX2_has yX2_has, Cond.initialized RX2, Cond.code yX2_has cX2_has 2 (some .boolean), Cond.fieldLink RX2 39 "LandReform$Land" "size" "I", Cond.static yX10_isBelow, Cond.initialized RX10, Cond.code yX10_isBelow cX10_isBelow 2 (some .boolean), Cond.methodLink RX10 98 yX4_has, Cond.instanceMethod yX4_has, Cond.selects RX4 yX4_has yX4_has, Cond.initialized RX4, Cond.code yX4_has cX4_has 2 (some .boolean), Cond.fieldLink RX4 22 "LandReform$People" "size" "I", Cond.methodLink RX10 110 yX2_ownerOf, Cond.instanceMethod yX2_ownerOf, Cond.selects RX2 yX2_ownerOf yX2_ownerOf, Cond.code yX2_ownerOf cX2_ownerOf 2 (some .int), Cond.fieldLink RX2 27 "LandReform$Land" "owners" "[I", Cond.methodLink RX2 47 yX2_has, Cond.methodLink RX10 114 yX2_transfersLeft]
def wsX10_transfer_r2 : List Cond := [Cond.instanceMethod yX2_transfersLeft, Cond.selects RX2 yX2_transfersLeft yX2_transfersLeft, Cond.code yX2_transfersLeft cX2_transfersLeft 1 (some .int), Cond.fieldLink RX2 71 "LandReform$Land" "transfers" "I", Cond.methodLink RX10 118 yX2_move, Cond.instanceMethod yX2_move, Cond.selects RX2 yX2_move yX2_move, Cond.code yX2_move cX2_move 3 none, Cond.fieldLink RX2 30 "LandReform$Land" "movedFields" "[I", Cond.fieldLink RX2 33 "LandReform$Land" "receivers" "[I", Cond.fieldLink RX2 36 "LandReform$Land" "days" "[I", Cond.fieldLink RX2 74 "LandReform$Land" "today" "I"]
def wsX10_transfer : List Cond := .code yX10_transfer cX10_transfer 3 (some .boolean) :: ((wsX10_transfer_r1 ++ wsX10_transfer_r2) ++ wsX100 ++ wsX20 ++ wsX40)
def wsX10_feed : List Cond := .code yX10_feed cX10_feed 6 (some .int) :: ([.fieldLink RX10 26 "LandReform" "tape" "LLandReform$Tape;", .methodLink RX10 122 yX8_room, .instanceMethod yX8_room, .selects RX8 yX8_room yX8_room, .initialized RX8, .code yX8_room cX8_room 1 (some .int), .fieldLink RX8 15 "LandReform$Tape" "length" "I", .methodLink RX10 125 yX8_append, .instanceMethod yX8_append, .selects RX8 yX8_append yX8_append, .code yX8_append cX8_append 3 none, .fieldLink RX8 9 "LandReform$Tape" "bytes" "[B"] ++ wsX100 ++ wsX80)
def wsX10_act_r1 : List Cond := [Cond.fieldLink RX10 26 "LandReform" "tape" "LLandReform$Tape;", Cond.fieldLink RX10 39 "LandReform" "reader" "LLandReform$Reader;", Cond.fieldLink RX10 84 "LandReform" "draft" "LLandReform$Law;", Cond.fieldLink RX10 80 "LandReform" "law" "LLandReform$Law;", Cond.methodLink RX10 132 yX5_readAct, Cond.instanceMethod yX5_readAct, Cond.selects RX5 yX5_readAct yX5_readAct, Cond.initialized RX5, Cond.code yX5_readAct cX5_readAct 4 (some .boolean), Cond.fieldLink RX5 15 "LandReform$Reader" "text" "[B", Cond.methodLink RX5 19 Lib.Math.min.name, Cond.static Lib.Math.min.name, Cond.initialized "java/lang/Math", Cond.code Lib.Math.min.name Lib.Math.min.code 2 (some .int), Cond.fieldLink RX5 25 "LandReform$Reader" "length" "I", Cond.fieldLink RX5 28 "LandReform$Reader" "tokenEnd" "I", Cond.fieldLink RX5 9 "LandReform$Reader" "fault" "I", Cond.fieldLink RX5 39 "LandReform$Reader" "tokenStart" "I", Cond.instanceMethod yX3_clear, Cond.initialized RX3, Cond.selects RX3 yX3_clear yX3_clear, Cond.code yX3_clear cX3_clear 1 none, Cond.fieldLink RX3 9 "LandReform$Law" "soilValues" "[I", Cond.fieldLink RX3 24 "LandReform$Law" "ceiling" "I"]
def wsX10_act_r2 : List Cond := [Cond.fieldLink RX3 28 "LandReform$Law" "family" "I", Cond.fieldLink RX3 31 "LandReform$Law" "lastFreeDay" "I", Cond.fieldLink RX3 34 "LandReform$Law" "exemptCrops" "I", Cond.fieldLink RX3 37 "LandReform$Law" "price" "I", Cond.fieldLink RX3 40 "LandReform$Law" "years" "I", Cond.fieldLink RX3 43 "LandReform$Law" "shares" "I", Cond.fieldLink RX3 46 "LandReform$Law" "statements" "I", Cond.methodLink RX3 18 yJ7_fill_53178, Cond.static yJ7_fill_53178, Cond.initialized RJ7, Cond.code yJ7_fill_53178 cJ7_fill_53178 4 none, Cond.methodLink RX5 36 yX5_nextToken, Cond.instanceMethod yX5_nextToken, Cond.selects RX5 yX5_nextToken yX5_nextToken, Cond.code yX5_nextToken cX5_nextToken 2 none, Cond.methodLink RX5 65 yX5_isBlank, Cond.static yX5_isBlank, Cond.code yX5_isBlank cX5_isBlank 1 (some .boolean), Cond.methodLink RX5 69 yX5_isLetter, Cond.static yX5_isLetter, Cond.code yX5_isLetter cX5_isLetter 1 (some .boolean), Cond.methodLink RX5 72 yX5_isDigit, Cond.static yX5_isDigit, Cond.code yX5_isDigit cX5_isDigit 1 (some .boolean)]
def wsX10_act_r3 : List Cond := [Cond.methodLink RX5 42 yX5_readStatement, Cond.instanceMethod yX5_readStatement, Cond.selects RX5 yX5_readStatement yX5_readStatement, Cond.code yX5_readStatement cX5_readStatement 5 (some .boolean), Cond.methodLink RX5 46 yX5_keyword, Cond.instanceMethod yX5_keyword, Cond.selects RX5 yX5_keyword yX5_keyword, Cond.code yX5_keyword cX5_keyword 1 (some .int), Cond.methodLink RX5 55 yX5_spells, Cond.instanceMethod yX5_spells, Cond.selects RX5 yX5_spells yX5_spells, Cond.code yX5_spells cX5_spells 3 (some .boolean), Cond.methodLink RX5 91 yJ0_length_8abf5, Cond.instanceMethod yJ0_length_8abf5, Cond.selects RJ0 yJ0_length_8abf5 yJ0_length_8abf5, Cond.initialized RJ0, Cond.code yJ0_length_8abf5 cJ0_length_8abf5 1 (some .int), Cond.fieldLink RJ0 9 "java/lang/String" "value" "[B", Cond.methodLink RJ0 335 yJ0_coder_7d493, Cond.instanceMethod yJ0_coder_7d493, Cond.selects RJ0 yJ0_coder_7d493 yJ0_coder_7d493, Cond.code yJ0_coder_7d493 cJ0_coder_7d493 1 (some .byte), Cond.fieldLink RJ0 38 "java/lang/String" "COMPACT_STRINGS" "Z", Cond.fieldLink RJ0 15 "java/lang/String" "coder" "B"]
def wsX10_act_r4 : List Cond := [Cond.methodLink RX5 95 yJ0_charAt_5068e, Cond.instanceMethod yJ0_charAt_5068e, Cond.selects RJ0 yJ0_charAt_5068e yJ0_charAt_5068e, Cond.code yJ0_charAt_5068e cJ0_charAt_5068e 2 (some .char), Cond.methodLink RJ0 492 yJ0_isLatin1_aae02, Cond.instanceMethod yJ0_isLatin1_aae02, Cond.selects RJ0 yJ0_isLatin1_aae02 yJ0_isLatin1_aae02, Cond.code yJ0_isLatin1_aae02 cJ0_isLatin1_aae02 1 (some .boolean), Cond.methodLink RJ0 495 yJ1_charAt_3b067, Cond.static yJ1_charAt_3b067, Cond.initialized RJ1, Cond.code yJ1_charAt_3b067 cJ1_charAt_3b067 2 (some .char), Cond.methodLink RJ1 9 yJ0_checkIndex_df160, Cond.static yJ0_checkIndex_df160, Cond.code yJ0_checkIndex_df160 cJ0_checkIndex_df160 2 none, Cond.fieldLink RJ0 1053 "jdk/internal/util/Preconditions" "SIOOBE_FORMATTER" "Ljava/util/function/BiFunction;", Cond.methodLink RJ0 1059 yJ3_checkIndex_8e157, Cond.static yJ3_checkIndex_8e157, Cond.initialized RJ3, Cond.code yJ3_checkIndex_8e157 cJ3_checkIndex_8e157 3 (some .int), Cond.methodLink RJ0 498 yJ2_charAt_3b067, Cond.static yJ2_charAt_3b067, Cond.initialized RJ2, Cond.code yJ2_charAt_3b067 cJ2_charAt_3b067 2 (some .char)]
def wsX10_act_r5 : List Cond := [Cond.methodLink RJ2 67 yJ2_checkIndex_2214a, Cond.static yJ2_checkIndex_2214a, Cond.code yJ2_checkIndex_2214a cJ2_checkIndex_2214a 2 none, Cond.methodLink RJ2 48 yJ2_length_9d52b, Cond.static yJ2_length_9d52b, Cond.code yJ2_length_9d52b cJ2_length_9d52b 1 (some .int), Cond.methodLink RJ2 414 yJ0_checkIndex_df160, Cond.methodLink RJ2 71 yJ2_getChar_3b067, Cond.static yJ2_getChar_3b067, Cond.code yJ2_getChar_3b067 cJ2_getChar_3b067 2 (some .char), Cond.fieldLink RJ2 44 "java/lang/StringUTF16" "$assertionsDisabled" "Z", Cond.fieldLink RJ2 59 "java/lang/StringUTF16" "HI_BYTE_SHIFT" "I", Cond.fieldLink RJ2 63 "java/lang/StringUTF16" "LO_BYTE_SHIFT" "I", Cond.methodLink RX5 50 yX5_number, Cond.instanceMethod yX5_number, Cond.selects RX5 yX5_number yX5_number, Cond.code yX5_number cX5_number 6 (some .int), Cond.instanceMethod yX3_rule, Cond.selects RX3 yX3_rule yX3_rule, Cond.code yX3_rule cX3_rule 4 none, Cond.methodLink RX3 49 yX3_exemptCrop, Cond.instanceMethod yX3_exemptCrop, Cond.selects RX3 yX3_exemptCrop yX3_exemptCrop, Cond.code yX3_exemptCrop cX3_exemptCrop 2 none]
def wsX10_act_r6 : List Cond := [Cond.static yX10_isBelow, Cond.initialized RX10, Cond.code yX10_isBelow cX10_isBelow 2 (some .boolean), Cond.methodLink RX3 53 yX3_setSoil, Cond.instanceMethod yX3_setSoil, Cond.selects RX3 yX3_setSoil yX3_setSoil, Cond.code yX3_setSoil cX3_setSoil 3 none]
def wsX10_act : List Cond := .code yX10_act cX10_act 4 (some .int) :: ((wsX10_act_r1 ++ (wsX10_act_r2 ++ (wsX10_act_r3 ++ (wsX10_act_r4 ++ (wsX10_act_r5 ++ wsX10_act_r6))))) ++ wsX100 ++ wsX80 ++ wsX30 ++ wsX50)
def wsX10_fault : List Cond := .code yX10_fault cX10_fault 1 (some .int) :: ([.fieldLink RX10 39 "LandReform" "reader" "LLandReform$Reader;"] ++ wsX100 ++ wsX50)
def wsX10_told_r1 : List Cond := [Cond.fieldLink RX10 19 "LandReform" "land" "LLandReform$Land;", Cond.fieldLink RX10 80 "LandReform" "law" "LLandReform$Law;", Cond.fieldLink RX10 46 "LandReform" "holding" "LLandReform$Holding;", Cond.fieldLink RX10 10 "LandReform" "people" "LLandReform$People;", Cond.fieldLink RX10 53 "LandReform" "tenancies" "LLandReform$Tenancies;", Cond.methodLink RX10 109 yX2_has, Cond.instanceMethod yX2_has, Cond.selects RX2 yX2_has yX2_has, Cond.initialized RX2, Cond.code yX2_has cX2_has 2 (some .boolean), Cond.fieldLink RX2 39 "LandReform$Land" "size" "I", Cond.static yX10_isBelow, Cond.initialized RX10, Cond.code yX10_isBelow cX10_isBelow 2 (some .boolean), Cond.methodLink RX10 142 yX2_placeOf, Cond.instanceMethod yX2_placeOf, Cond.selects RX2 yX2_placeOf yX2_placeOf, Cond.code yX2_placeOf cX2_placeOf 2 (some .int), Cond.fieldLink RX2 9 "LandReform$Land" "places" "[I", Cond.methodLink RX2 47 yX2_has, Cond.methodLink RX10 145 yX2_areaOf, Cond.instanceMethod yX2_areaOf, Cond.selects RX2 yX2_areaOf yX2_areaOf, Cond.code yX2_areaOf cX2_areaOf 2 (some .int)]
def wsX10_told_r2 : List Cond := [Cond.fieldLink RX2 15 "LandReform$Land" "areas" "[I", Cond.methodLink RX10 148 yX2_soilOf, Cond.instanceMethod yX2_soilOf, Cond.selects RX2 yX2_soilOf yX2_soilOf, Cond.code yX2_soilOf cX2_soilOf 2 (some .int), Cond.fieldLink RX2 18 "LandReform$Land" "soils" "[I", Cond.methodLink RX10 151 yX2_cropOf, Cond.instanceMethod yX2_cropOf, Cond.selects RX2 yX2_cropOf yX2_cropOf, Cond.code yX2_cropOf cX2_cropOf 2 (some .int), Cond.fieldLink RX2 21 "LandReform$Land" "crops" "[I", Cond.methodLink RX10 110 yX2_ownerOf, Cond.instanceMethod yX2_ownerOf, Cond.selects RX2 yX2_ownerOf yX2_ownerOf, Cond.code yX2_ownerOf cX2_ownerOf 2 (some .int), Cond.fieldLink RX2 27 "LandReform$Land" "owners" "[I", Cond.methodLink RX10 154 yX2_standardOf, Cond.instanceMethod yX2_standardOf, Cond.selects RX2 yX2_standardOf yX2_standardOf, Cond.code yX2_standardOf cX2_standardOf 3 (some .int), Cond.methodLink RX2 51 yX2_areaOf, Cond.methodLink RX2 55 yX2_soilOf, Cond.methodLink RX2 58 yX3_soilIs, Cond.instanceMethod yX3_soilIs]
def wsX10_told_r3 : List Cond := [Cond.selects RX3 yX3_soilIs yX3_soilIs, Cond.initialized RX3, Cond.code yX3_soilIs cX3_soilIs 2 (some .int), Cond.fieldLink RX3 9 "LandReform$Law" "soilValues" "[I", Cond.methodLink RX10 158 yX1_countedOwner, Cond.instanceMethod yX1_countedOwner, Cond.selects RX1 yX1_countedOwner yX1_countedOwner, Cond.initialized RX1, Cond.code yX1_countedOwner cX1_countedOwner 5 (some .int), Cond.fieldLink RX1 9 "LandReform$Holding" "countedOwners" "[I", Cond.methodLink RX1 24 yX1_countOwners, Cond.instanceMethod yX1_countOwners, Cond.selects RX1 yX1_countOwners yX1_countOwners, Cond.code yX1_countOwners cX1_countOwners 8 none, Cond.methodLink RX1 41 arraycopyName, Cond.native arraycopyName, Cond.static arraycopyName, Cond.initialized "java/lang/System", Cond.methodLink RX1 64 yX4_areOfOneFamily, Cond.instanceMethod yX4_areOfOneFamily, Cond.selects RX4 yX4_areOfOneFamily yX4_areOfOneFamily, Cond.initialized RX4, Cond.code yX4_areOfOneFamily cX4_areOfOneFamily 3 (some .boolean), Cond.methodLink RX4 40 yX4_houseOf]
def wsX10_told_r4 : List Cond := [Cond.instanceMethod yX4_houseOf, Cond.selects RX4 yX4_houseOf yX4_houseOf, Cond.code yX4_houseOf cX4_houseOf 2 (some .int), Cond.fieldLink RX4 9 "LandReform$People" "houses" "[I", Cond.methodLink RX4 30 yX4_has, Cond.instanceMethod yX4_has, Cond.selects RX4 yX4_has yX4_has, Cond.code yX4_has cX4_has 2 (some .boolean), Cond.fieldLink RX4 22 "LandReform$People" "size" "I", Cond.methodLink RX4 34 yX4_areKin, Cond.instanceMethod yX4_areKin, Cond.selects RX4 yX4_areKin yX4_areKin, Cond.code yX4_areKin cX4_areKin 3 (some .boolean), Cond.fieldLink RX4 18 "LandReform$People" "kin" "[J", Cond.methodLink RX10 165 yX9_tenantOf, Cond.instanceMethod yX9_tenantOf, Cond.selects RX9 yX9_tenantOf yX9_tenantOf, Cond.initialized RX9, Cond.code yX9_tenantOf cX9_tenantOf 8 (some .int), Cond.fieldLink RX9 25 "LandReform$Tenancies" "size" "I", Cond.fieldLink RX9 18 "LandReform$Tenancies" "yearSets" "[I", Cond.fieldLink RX9 9 "LandReform$Tenancies" "fields" "[I", Cond.fieldLink RX9 15 "LandReform$Tenancies" "persons" "[I", Cond.methodLink RX9 29 yJ6_bitCount_0f7a4]
def wsX10_told_r5 : List Cond := [Cond.static yJ6_bitCount_0f7a4, Cond.initialized RJ6, Cond.code yJ6_bitCount_0f7a4 cJ6_bitCount_0f7a4 1 (some .int), Cond.constant RJ6 265 (1431655765), Cond.constant RJ6 266 (858993459), Cond.constant RJ6 267 (252645135), Cond.methodLink RX10 169 yX3_exempts, Cond.instanceMethod yX3_exempts, Cond.selects RX3 yX3_exempts yX3_exempts, Cond.code yX3_exempts cX3_exempts 2 (some .boolean), Cond.fieldLink RX3 34 "LandReform$Law" "exemptCrops" "I", Cond.methodLink RX10 172 yX2_transfersOf, Cond.instanceMethod yX2_transfersOf, Cond.selects RX2 yX2_transfersOf yX2_transfersOf, Cond.code yX2_transfersOf cX2_transfersOf 4 (some .int), Cond.fieldLink RX2 71 "LandReform$Land" "transfers" "I", Cond.fieldLink RX2 30 "LandReform$Land" "movedFields" "[I"]
def wsX10_told : List Cond := .code yX10_told cX10_told 3 (some .int) :: ((wsX10_told_r1 ++ (wsX10_told_r2 ++ (wsX10_told_r3 ++ (wsX10_told_r4 ++ wsX10_told_r5)))) ++ wsX100 ++ wsX30 ++ wsX20 ++ wsX10 ++ wsX40 ++ wsX90)
def wsX10_owned : List Cond := .code yX10_owned cX10_owned 3 (some .int) :: ([.fieldLink RX10 19 "LandReform" "land" "LLandReform$Land;", .methodLink RX10 109 yX2_has, .instanceMethod yX2_has, .selects RX2 yX2_has yX2_has, .initialized RX2, .code yX2_has cX2_has 2 (some .boolean), .fieldLink RX2 39 "LandReform$Land" "size" "I", .static yX10_isBelow, .initialized RX10, .code yX10_isBelow cX10_isBelow 2 (some .boolean), .methodLink RX10 175 yX2_ownerAsDayEnded, .instanceMethod yX2_ownerAsDayEnded, .selects RX2 yX2_ownerAsDayEnded yX2_ownerAsDayEnded, .code yX2_ownerAsDayEnded cX2_ownerAsDayEnded 5 (some .int), .fieldLink RX2 24 "LandReform$Land" "firstOwners" "[I", .fieldLink RX2 71 "LandReform$Land" "transfers" "I", .fieldLink RX2 36 "LandReform$Land" "days" "[I", .fieldLink RX2 30 "LandReform$Land" "movedFields" "[I", .fieldLink RX2 33 "LandReform$Land" "receivers" "[I", .methodLink RX2 47 yX2_has] ++ wsX100 ++ wsX20)
def wsX10_house_r1 : List Cond := [Cond.fieldLink RX10 46 "LandReform" "holding" "LLandReform$Holding;", Cond.fieldLink RX10 19 "LandReform" "land" "LLandReform$Land;", Cond.fieldLink RX10 10 "LandReform" "people" "LLandReform$People;", Cond.fieldLink RX10 80 "LandReform" "law" "LLandReform$Law;", Cond.methodLink RX10 87 yX10_isBelow, Cond.static yX10_isBelow, Cond.initialized RX10, Cond.code yX10_isBelow cX10_isBelow 2 (some .boolean), Cond.methodLink RX10 178 yX1_gather, Cond.instanceMethod yX1_gather, Cond.selects RX1 yX1_gather yX1_gather, Cond.initialized RX1, Cond.code yX1_gather cX1_gather 6 none, Cond.fieldLink RX1 69 "LandReform$Holding" "size" "I", Cond.fieldLink RX1 70 "LandReform$Holding" "standards" "I", Cond.fieldLink RX1 9 "LandReform$Holding" "countedOwners" "[I", Cond.fieldLink RX1 15 "LandReform$Holding" "counting" "[I", Cond.fieldLink RX1 91 "LandReform$Holding" "members" "I", Cond.fieldLink RX1 97 "LandReform$Holding" "allowed" "I", Cond.methodLink RX1 24 yX1_countOwners, Cond.instanceMethod yX1_countOwners, Cond.selects RX1 yX1_countOwners yX1_countOwners, Cond.code yX1_countOwners cX1_countOwners 8 none, Cond.methodLink RX1 41 arraycopyName]
def wsX10_house_r2 : List Cond := [Cond.native arraycopyName, Cond.static arraycopyName, Cond.initialized "java/lang/System", Cond.methodLink RX1 64 yX4_areOfOneFamily, Cond.instanceMethod yX4_areOfOneFamily, Cond.selects RX4 yX4_areOfOneFamily yX4_areOfOneFamily, Cond.initialized RX4, Cond.code yX4_areOfOneFamily cX4_areOfOneFamily 3 (some .boolean), Cond.methodLink RX4 40 yX4_houseOf, Cond.instanceMethod yX4_houseOf, Cond.selects RX4 yX4_houseOf yX4_houseOf, Cond.code yX4_houseOf cX4_houseOf 2 (some .int), Cond.fieldLink RX4 9 "LandReform$People" "houses" "[I", Cond.methodLink RX4 30 yX4_has, Cond.instanceMethod yX4_has, Cond.selects RX4 yX4_has yX4_has, Cond.code yX4_has cX4_has 2 (some .boolean), Cond.fieldLink RX4 22 "LandReform$People" "size" "I", Cond.methodLink RX4 34 yX4_areKin, Cond.instanceMethod yX4_areKin, Cond.selects RX4 yX4_areKin yX4_areKin, Cond.code yX4_areKin cX4_areKin 3 (some .boolean), Cond.fieldLink RX4 18 "LandReform$People" "kin" "[J", Cond.methodLink RX1 73 yX4_houseOf]
def wsX10_house_r3 : List Cond := [Cond.methodLink RX1 80 yX3_exempts, Cond.instanceMethod yX3_exempts, Cond.selects RX3 yX3_exempts yX3_exempts, Cond.initialized RX3, Cond.code yX3_exempts cX3_exempts 2 (some .boolean), Cond.fieldLink RX3 34 "LandReform$Law" "exemptCrops" "I", Cond.methodLink RX1 84 yX2_standardOf, Cond.instanceMethod yX2_standardOf, Cond.selects RX2 yX2_standardOf yX2_standardOf, Cond.initialized RX2, Cond.code yX2_standardOf cX2_standardOf 3 (some .int), Cond.methodLink RX2 51 yX2_areaOf, Cond.instanceMethod yX2_areaOf, Cond.selects RX2 yX2_areaOf yX2_areaOf, Cond.code yX2_areaOf cX2_areaOf 2 (some .int), Cond.fieldLink RX2 15 "LandReform$Land" "areas" "[I", Cond.methodLink RX2 47 yX2_has, Cond.instanceMethod yX2_has, Cond.selects RX2 yX2_has yX2_has, Cond.code yX2_has cX2_has 2 (some .boolean), Cond.fieldLink RX2 39 "LandReform$Land" "size" "I", Cond.methodLink RX2 55 yX2_soilOf, Cond.instanceMethod yX2_soilOf, Cond.selects RX2 yX2_soilOf yX2_soilOf]
def wsX10_house_r4 : List Cond := [Cond.code yX2_soilOf cX2_soilOf 2 (some .int), Cond.fieldLink RX2 18 "LandReform$Land" "soils" "[I", Cond.methodLink RX2 58 yX3_soilIs, Cond.instanceMethod yX3_soilIs, Cond.selects RX3 yX3_soilIs yX3_soilIs, Cond.code yX3_soilIs cX3_soilIs 2 (some .int), Cond.fieldLink RX3 9 "LandReform$Law" "soilValues" "[I", Cond.methodLink RX1 88 yX4_membersOf, Cond.instanceMethod yX4_membersOf, Cond.selects RX4 yX4_membersOf yX4_membersOf, Cond.code yX4_membersOf cX4_membersOf 4 (some .int), Cond.methodLink RX1 94 yX3_allows, Cond.instanceMethod yX3_allows, Cond.selects RX3 yX3_allows yX3_allows, Cond.code yX3_allows cX3_allows 2 (some .int), Cond.fieldLink RX3 24 "LandReform$Law" "ceiling" "I", Cond.fieldLink RX3 28 "LandReform$Law" "family" "I", Cond.methodLink RX3 61 Lib.Math.max.name, Cond.static Lib.Math.max.name, Cond.initialized "java/lang/Math", Cond.code Lib.Math.max.name Lib.Math.max.code 2 (some .int), Cond.methodLink RX10 191 yX1_above, Cond.instanceMethod yX1_above, Cond.selects RX1 yX1_above yX1_above]
def wsX10_house_r5 : List Cond := [Cond.code yX1_above cX1_above 1 (some .int), Cond.methodLink RX1 100 Lib.Math.max.name]
def wsX10_house : List Cond := .code yX10_house cX10_house 3 (some .int) :: ((wsX10_house_r1 ++ (wsX10_house_r2 ++ (wsX10_house_r3 ++ (wsX10_house_r4 ++ wsX10_house_r5)))) ++ wsX100 ++ wsX10 ++ wsX20 ++ wsX30 ++ wsX40)
def wsX10_kept_r1 : List Cond := [Cond.fieldLink RX10 46 "LandReform" "holding" "LLandReform$Holding;", Cond.fieldLink RX10 19 "LandReform" "land" "LLandReform$Land;", Cond.fieldLink RX10 10 "LandReform" "people" "LLandReform$People;", Cond.fieldLink RX10 80 "LandReform" "law" "LLandReform$Law;", Cond.methodLink RX10 87 yX10_isBelow, Cond.static yX10_isBelow, Cond.initialized RX10, Cond.code yX10_isBelow cX10_isBelow 2 (some .boolean), Cond.methodLink RX10 178 yX1_gather, Cond.instanceMethod yX1_gather, Cond.selects RX1 yX1_gather yX1_gather, Cond.initialized RX1, Cond.code yX1_gather cX1_gather 6 none, Cond.fieldLink RX1 69 "LandReform$Holding" "size" "I", Cond.fieldLink RX1 70 "LandReform$Holding" "standards" "I", Cond.fieldLink RX1 9 "LandReform$Holding" "countedOwners" "[I", Cond.fieldLink RX1 15 "LandReform$Holding" "counting" "[I", Cond.fieldLink RX1 91 "LandReform$Holding" "members" "I", Cond.fieldLink RX1 97 "LandReform$Holding" "allowed" "I", Cond.methodLink RX1 24 yX1_countOwners, Cond.instanceMethod yX1_countOwners, Cond.selects RX1 yX1_countOwners yX1_countOwners, Cond.code yX1_countOwners cX1_countOwners 8 none, Cond.methodLink RX1 41 arraycopyName]
def wsX10_kept_r2 : List Cond := [Cond.native arraycopyName, Cond.static arraycopyName, Cond.initialized "java/lang/System", Cond.methodLink RX1 64 yX4_areOfOneFamily, Cond.instanceMethod yX4_areOfOneFamily, Cond.selects RX4 yX4_areOfOneFamily yX4_areOfOneFamily, Cond.initialized RX4, Cond.code yX4_areOfOneFamily cX4_areOfOneFamily 3 (some .boolean), Cond.methodLink RX4 40 yX4_houseOf, Cond.instanceMethod yX4_houseOf, Cond.selects RX4 yX4_houseOf yX4_houseOf, Cond.code yX4_houseOf cX4_houseOf 2 (some .int), Cond.fieldLink RX4 9 "LandReform$People" "houses" "[I", Cond.methodLink RX4 30 yX4_has, Cond.instanceMethod yX4_has, Cond.selects RX4 yX4_has yX4_has, Cond.code yX4_has cX4_has 2 (some .boolean), Cond.fieldLink RX4 22 "LandReform$People" "size" "I", Cond.methodLink RX4 34 yX4_areKin, Cond.instanceMethod yX4_areKin, Cond.selects RX4 yX4_areKin yX4_areKin, Cond.code yX4_areKin cX4_areKin 3 (some .boolean), Cond.fieldLink RX4 18 "LandReform$People" "kin" "[J", Cond.methodLink RX1 73 yX4_houseOf]
def wsX10_kept_r3 : List Cond := [Cond.methodLink RX1 80 yX3_exempts, Cond.instanceMethod yX3_exempts, Cond.selects RX3 yX3_exempts yX3_exempts, Cond.initialized RX3, Cond.code yX3_exempts cX3_exempts 2 (some .boolean), Cond.fieldLink RX3 34 "LandReform$Law" "exemptCrops" "I", Cond.methodLink RX1 84 yX2_standardOf, Cond.instanceMethod yX2_standardOf, Cond.selects RX2 yX2_standardOf yX2_standardOf, Cond.initialized RX2, Cond.code yX2_standardOf cX2_standardOf 3 (some .int), Cond.methodLink RX2 51 yX2_areaOf, Cond.instanceMethod yX2_areaOf, Cond.selects RX2 yX2_areaOf yX2_areaOf, Cond.code yX2_areaOf cX2_areaOf 2 (some .int), Cond.fieldLink RX2 15 "LandReform$Land" "areas" "[I", Cond.methodLink RX2 47 yX2_has, Cond.instanceMethod yX2_has, Cond.selects RX2 yX2_has yX2_has, Cond.code yX2_has cX2_has 2 (some .boolean), Cond.fieldLink RX2 39 "LandReform$Land" "size" "I", Cond.methodLink RX2 55 yX2_soilOf, Cond.instanceMethod yX2_soilOf, Cond.selects RX2 yX2_soilOf yX2_soilOf]
def wsX10_kept_r4 : List Cond := [Cond.code yX2_soilOf cX2_soilOf 2 (some .int), Cond.fieldLink RX2 18 "LandReform$Land" "soils" "[I", Cond.methodLink RX2 58 yX3_soilIs, Cond.instanceMethod yX3_soilIs, Cond.selects RX3 yX3_soilIs yX3_soilIs, Cond.code yX3_soilIs cX3_soilIs 2 (some .int), Cond.fieldLink RX3 9 "LandReform$Law" "soilValues" "[I", Cond.methodLink RX1 88 yX4_membersOf, Cond.instanceMethod yX4_membersOf, Cond.selects RX4 yX4_membersOf yX4_membersOf, Cond.code yX4_membersOf cX4_membersOf 4 (some .int), Cond.methodLink RX1 94 yX3_allows, Cond.instanceMethod yX3_allows, Cond.selects RX3 yX3_allows yX3_allows, Cond.code yX3_allows cX3_allows 2 (some .int), Cond.fieldLink RX3 24 "LandReform$Law" "ceiling" "I", Cond.fieldLink RX3 28 "LandReform$Law" "family" "I", Cond.methodLink RX3 61 Lib.Math.max.name, Cond.static Lib.Math.max.name, Cond.initialized "java/lang/Math", Cond.code Lib.Math.max.name Lib.Math.max.code 2 (some .int), Cond.methodLink RX10 197 yX1_choose, Cond.instanceMethod yX1_choose, Cond.selects RX1 yX1_choose yX1_choose]
def wsX10_kept_r5 : List Cond := [Cond.code yX1_choose cX1_choose 8 (some .boolean), Cond.fieldLink RX1 110 "LandReform$Holding" "keptSet" "I", Cond.fieldLink RX1 113 "LandReform$Holding" "keptArea" "I", Cond.fieldLink RX1 18 "LandReform$Holding" "standardSteps" "[I", Cond.fieldLink RX1 21 "LandReform$Holding" "areaSteps" "[I", Cond.methodLink RX1 106 yX1_prepareSteps, Cond.instanceMethod yX1_prepareSteps, Cond.selects RX1 yX1_prepareSteps yX1_prepareSteps, Cond.code yX1_prepareSteps cX1_prepareSteps 8 none, Cond.methodLink RX1 121 yX2_areaOf, Cond.methodLink RX1 116 yJ6_numberOfTrailingZeros_0f7a4, Cond.static yJ6_numberOfTrailingZeros_0f7a4, Cond.initialized RJ6, Cond.code yJ6_numberOfTrailingZeros_0f7a4 cJ6_numberOfTrailingZeros_0f7a4 2 (some .int), Cond.constant RJ6 264 (65536), Cond.methodLink RX10 204 yX1_keeps, Cond.instanceMethod yX1_keeps, Cond.selects RX1 yX1_keeps yX1_keeps, Cond.code yX1_keeps cX1_keeps 2 (some .boolean)]
def wsX10_kept : List Cond := .code yX10_kept cX10_kept 3 (some .int) :: ((wsX10_kept_r1 ++ (wsX10_kept_r2 ++ (wsX10_kept_r3 ++ (wsX10_kept_r4 ++ wsX10_kept_r5)))) ++ wsX100 ++ wsX10 ++ wsX20 ++ wsX30 ++ wsX40)
def wsX10_taken_r1 : List Cond := [Cond.fieldLink RX10 46 "LandReform" "holding" "LLandReform$Holding;", Cond.fieldLink RX10 19 "LandReform" "land" "LLandReform$Land;", Cond.fieldLink RX10 10 "LandReform" "people" "LLandReform$People;", Cond.fieldLink RX10 80 "LandReform" "law" "LLandReform$Law;", Cond.methodLink RX10 87 yX10_isBelow, Cond.static yX10_isBelow, Cond.initialized RX10, Cond.code yX10_isBelow cX10_isBelow 2 (some .boolean), Cond.methodLink RX10 178 yX1_gather, Cond.instanceMethod yX1_gather, Cond.selects RX1 yX1_gather yX1_gather, Cond.initialized RX1, Cond.code yX1_gather cX1_gather 6 none, Cond.fieldLink RX1 69 "LandReform$Holding" "size" "I", Cond.fieldLink RX1 70 "LandReform$Holding" "standards" "I", Cond.fieldLink RX1 9 "LandReform$Holding" "countedOwners" "[I", Cond.fieldLink RX1 15 "LandReform$Holding" "counting" "[I", Cond.fieldLink RX1 91 "LandReform$Holding" "members" "I", Cond.fieldLink RX1 97 "LandReform$Holding" "allowed" "I", Cond.methodLink RX1 24 yX1_countOwners, Cond.instanceMethod yX1_countOwners, Cond.selects RX1 yX1_countOwners yX1_countOwners, Cond.code yX1_countOwners cX1_countOwners 8 none, Cond.methodLink RX1 41 arraycopyName]
def wsX10_taken_r2 : List Cond := [Cond.native arraycopyName, Cond.static arraycopyName, Cond.initialized "java/lang/System", Cond.methodLink RX1 64 yX4_areOfOneFamily, Cond.instanceMethod yX4_areOfOneFamily, Cond.selects RX4 yX4_areOfOneFamily yX4_areOfOneFamily, Cond.initialized RX4, Cond.code yX4_areOfOneFamily cX4_areOfOneFamily 3 (some .boolean), Cond.methodLink RX4 40 yX4_houseOf, Cond.instanceMethod yX4_houseOf, Cond.selects RX4 yX4_houseOf yX4_houseOf, Cond.code yX4_houseOf cX4_houseOf 2 (some .int), Cond.fieldLink RX4 9 "LandReform$People" "houses" "[I", Cond.methodLink RX4 30 yX4_has, Cond.instanceMethod yX4_has, Cond.selects RX4 yX4_has yX4_has, Cond.code yX4_has cX4_has 2 (some .boolean), Cond.fieldLink RX4 22 "LandReform$People" "size" "I", Cond.methodLink RX4 34 yX4_areKin, Cond.instanceMethod yX4_areKin, Cond.selects RX4 yX4_areKin yX4_areKin, Cond.code yX4_areKin cX4_areKin 3 (some .boolean), Cond.fieldLink RX4 18 "LandReform$People" "kin" "[J", Cond.methodLink RX1 73 yX4_houseOf]
def wsX10_taken_r3 : List Cond := [Cond.methodLink RX1 80 yX3_exempts, Cond.instanceMethod yX3_exempts, Cond.selects RX3 yX3_exempts yX3_exempts, Cond.initialized RX3, Cond.code yX3_exempts cX3_exempts 2 (some .boolean), Cond.fieldLink RX3 34 "LandReform$Law" "exemptCrops" "I", Cond.methodLink RX1 84 yX2_standardOf, Cond.instanceMethod yX2_standardOf, Cond.selects RX2 yX2_standardOf yX2_standardOf, Cond.initialized RX2, Cond.code yX2_standardOf cX2_standardOf 3 (some .int), Cond.methodLink RX2 51 yX2_areaOf, Cond.instanceMethod yX2_areaOf, Cond.selects RX2 yX2_areaOf yX2_areaOf, Cond.code yX2_areaOf cX2_areaOf 2 (some .int), Cond.fieldLink RX2 15 "LandReform$Land" "areas" "[I", Cond.methodLink RX2 47 yX2_has, Cond.instanceMethod yX2_has, Cond.selects RX2 yX2_has yX2_has, Cond.code yX2_has cX2_has 2 (some .boolean), Cond.fieldLink RX2 39 "LandReform$Land" "size" "I", Cond.methodLink RX2 55 yX2_soilOf, Cond.instanceMethod yX2_soilOf, Cond.selects RX2 yX2_soilOf yX2_soilOf]
def wsX10_taken_r4 : List Cond := [Cond.code yX2_soilOf cX2_soilOf 2 (some .int), Cond.fieldLink RX2 18 "LandReform$Land" "soils" "[I", Cond.methodLink RX2 58 yX3_soilIs, Cond.instanceMethod yX3_soilIs, Cond.selects RX3 yX3_soilIs yX3_soilIs, Cond.code yX3_soilIs cX3_soilIs 2 (some .int), Cond.fieldLink RX3 9 "LandReform$Law" "soilValues" "[I", Cond.methodLink RX1 88 yX4_membersOf, Cond.instanceMethod yX4_membersOf, Cond.selects RX4 yX4_membersOf yX4_membersOf, Cond.code yX4_membersOf cX4_membersOf 4 (some .int), Cond.methodLink RX1 94 yX3_allows, Cond.instanceMethod yX3_allows, Cond.selects RX3 yX3_allows yX3_allows, Cond.code yX3_allows cX3_allows 2 (some .int), Cond.fieldLink RX3 24 "LandReform$Law" "ceiling" "I", Cond.fieldLink RX3 28 "LandReform$Law" "family" "I", Cond.methodLink RX3 61 Lib.Math.max.name, Cond.static Lib.Math.max.name, Cond.initialized "java/lang/Math", Cond.code Lib.Math.max.name Lib.Math.max.code 2 (some .int), Cond.methodLink RX10 197 yX1_choose, Cond.instanceMethod yX1_choose, Cond.selects RX1 yX1_choose yX1_choose]
def wsX10_taken_r5 : List Cond := [Cond.code yX1_choose cX1_choose 8 (some .boolean), Cond.fieldLink RX1 110 "LandReform$Holding" "keptSet" "I", Cond.fieldLink RX1 113 "LandReform$Holding" "keptArea" "I", Cond.fieldLink RX1 18 "LandReform$Holding" "standardSteps" "[I", Cond.fieldLink RX1 21 "LandReform$Holding" "areaSteps" "[I", Cond.methodLink RX1 106 yX1_prepareSteps, Cond.instanceMethod yX1_prepareSteps, Cond.selects RX1 yX1_prepareSteps yX1_prepareSteps, Cond.code yX1_prepareSteps cX1_prepareSteps 8 none, Cond.methodLink RX1 121 yX2_areaOf, Cond.methodLink RX1 116 yJ6_numberOfTrailingZeros_0f7a4, Cond.static yJ6_numberOfTrailingZeros_0f7a4, Cond.initialized RJ6, Cond.code yJ6_numberOfTrailingZeros_0f7a4 cJ6_numberOfTrailingZeros_0f7a4 2 (some .int), Cond.constant RJ6 264 (65536), Cond.methodLink RX10 207 yX1_takenField, Cond.instanceMethod yX1_takenField, Cond.selects RX1 yX1_takenField yX1_takenField, Cond.code yX1_takenField cX1_takenField 4 (some .int), Cond.methodLink RX1 124 yX1_keeps, Cond.instanceMethod yX1_keeps, Cond.selects RX1 yX1_keeps yX1_keeps, Cond.code yX1_keeps cX1_keeps 2 (some .boolean)]
def wsX10_taken : List Cond := .code yX10_taken cX10_taken 3 (some .int) :: ((wsX10_taken_r1 ++ (wsX10_taken_r2 ++ (wsX10_taken_r3 ++ (wsX10_taken_r4 ++ wsX10_taken_r5)))) ++ wsX100 ++ wsX10 ++ wsX20 ++ wsX30 ++ wsX40)
def wsX10_share_r1 : List Cond := [Cond.fieldLink RX10 19 "LandReform" "land" "LLandReform$Land;", Cond.fieldLink RX10 10 "LandReform" "people" "LLandReform$People;", Cond.fieldLink RX10 53 "LandReform" "tenancies" "LLandReform$Tenancies;", Cond.methodLink RX10 109 yX2_has, Cond.instanceMethod yX2_has, Cond.selects RX2 yX2_has yX2_has, Cond.initialized RX2, Cond.code yX2_has cX2_has 2 (some .boolean), Cond.fieldLink RX2 39 "LandReform$Land" "size" "I", Cond.static yX10_isBelow, Cond.initialized RX10, Cond.code yX10_isBelow cX10_isBelow 2 (some .boolean), Cond.methodLink RX10 98 yX4_has, Cond.instanceMethod yX4_has, Cond.selects RX4 yX4_has yX4_has, Cond.initialized RX4, Cond.code yX4_has cX4_has 2 (some .boolean), Cond.fieldLink RX4 22 "LandReform$People" "size" "I", Cond.methodLink RX10 87 yX10_isBelow, Cond.methodLink RX10 210 yX9_tell, Cond.instanceMethod yX9_tell, Cond.selects RX9 yX9_tell yX9_tell, Cond.initialized RX9, Cond.code yX9_tell cX9_tell 5 (some .int)]
def wsX10_share_r2 : List Cond := [Cond.fieldLink RX9 25 "LandReform$Tenancies" "size" "I", Cond.fieldLink RX9 9 "LandReform$Tenancies" "fields" "[I", Cond.fieldLink RX9 15 "LandReform$Tenancies" "persons" "[I", Cond.fieldLink RX9 18 "LandReform$Tenancies" "yearSets" "[I", Cond.methodLink RX9 21 yX9_pairOf, Cond.instanceMethod yX9_pairOf, Cond.selects RX9 yX9_pairOf yX9_pairOf, Cond.code yX9_pairOf cX9_pairOf 4 (some .int), Cond.methodLink RX9 29 yJ6_bitCount_0f7a4, Cond.static yJ6_bitCount_0f7a4, Cond.initialized RJ6, Cond.code yJ6_bitCount_0f7a4 cJ6_bitCount_0f7a4 1 (some .int), Cond.constant RJ6 265 (1431655765), Cond.constant RJ6 266 (858993459), Cond.constant RJ6 267 (252645135)]
def wsX10_share : List Cond := .code yX10_share cX10_share 4 (some .int) :: ((wsX10_share_r1 ++ wsX10_share_r2) ++ wsX100 ++ wsX20 ++ wsX40 ++ wsX90)
def wsX10_given_r1 : List Cond := [Cond.fieldLink RX10 19 "LandReform" "land" "LLandReform$Land;", Cond.fieldLink RX10 10 "LandReform" "people" "LLandReform$People;", Cond.fieldLink RX10 60 "LandReform" "giving" "LLandReform$Giving;", Cond.methodLink RX10 213 yX2_hasRow, Cond.instanceMethod yX2_hasRow, Cond.selects RX2 yX2_hasRow yX2_hasRow, Cond.initialized RX2, Cond.code yX2_hasRow cX2_hasRow 3 (some .boolean), Cond.fieldLink RX2 39 "LandReform$Land" "size" "I", Cond.methodLink RX2 47 yX2_has, Cond.instanceMethod yX2_has, Cond.selects RX2 yX2_has yX2_has, Cond.code yX2_has cX2_has 2 (some .boolean), Cond.static yX10_isBelow, Cond.initialized RX10, Cond.code yX10_isBelow cX10_isBelow 2 (some .boolean), Cond.methodLink RX10 216 yX4_hasRow, Cond.instanceMethod yX4_hasRow, Cond.selects RX4 yX4_hasRow yX4_hasRow, Cond.initialized RX4, Cond.code yX4_hasRow cX4_hasRow 3 (some .boolean), Cond.fieldLink RX4 22 "LandReform$People" "size" "I", Cond.methodLink RX4 30 yX4_has, Cond.instanceMethod yX4_has]
def wsX10_given_r2 : List Cond := [Cond.selects RX4 yX4_has yX4_has, Cond.code yX4_has cX4_has 2 (some .boolean), Cond.methodLink RX10 217 yX0_weigh, Cond.instanceMethod yX0_weigh, Cond.selects RX0 yX0_weigh yX0_weigh, Cond.initialized RX0, Cond.code yX0_weigh cX0_weigh 8 none, Cond.methodLink RX0 20 Lib.Math.min.name, Cond.static Lib.Math.min.name, Cond.initialized "java/lang/Math", Cond.code Lib.Math.min.name Lib.Math.min.code 2 (some .int), Cond.methodLink RX0 26 Lib.Math.max.name, Cond.static Lib.Math.max.name, Cond.code Lib.Math.max.name Lib.Math.max.code 2 (some .int), Cond.fieldLink RX0 29 "LandReform$Giving" "size" "I", Cond.fieldLink RX0 17 "LandReform$Giving" "distances" "[[I", Cond.fieldLink RX0 9 "LandReform$Giving" "leastSums" "[I", Cond.methodLink RX0 33 yX4_homeOf, Cond.instanceMethod yX4_homeOf, Cond.selects RX4 yX4_homeOf yX4_homeOf, Cond.code yX4_homeOf cX4_homeOf 2 (some .int), Cond.fieldLink RX4 15 "LandReform$People" "homes" "[I", Cond.methodLink RX0 39 yX2_distance, Cond.instanceMethod yX2_distance]
def wsX10_given_r3 : List Cond := [Cond.selects RX2 yX2_distance yX2_distance, Cond.code yX2_distance cX2_distance 3 (some .int), Cond.methodLink RX2 66 Lib.Math.abs.name, Cond.static Lib.Math.abs.name, Cond.code Lib.Math.abs.name Lib.Math.abs.code 1 (some .int), Cond.methodLink RX2 63 yX2_placeOf, Cond.instanceMethod yX2_placeOf, Cond.selects RX2 yX2_placeOf yX2_placeOf, Cond.code yX2_placeOf cX2_placeOf 2 (some .int), Cond.fieldLink RX2 9 "LandReform$Land" "places" "[I", Cond.methodLink RX0 44 yX0_nearest, Cond.instanceMethod yX0_nearest, Cond.selects RX0 yX0_nearest yX0_nearest, Cond.code yX0_nearest cX0_nearest 5 (some .int), Cond.constant RX0 52 (2147483647), Cond.methodLink RX0 47 yX0_sumWith, Cond.instanceMethod yX0_sumWith, Cond.selects RX0 yX0_sumWith yX0_sumWith, Cond.code yX0_sumWith cX0_sumWith 4 (some .int), Cond.methodLink RX0 53 yJ6_bitCount_0f7a4, Cond.static yJ6_bitCount_0f7a4, Cond.initialized RJ6, Cond.code yJ6_bitCount_0f7a4 cJ6_bitCount_0f7a4 1 (some .int), Cond.constant RJ6 265 (1431655765)]
def wsX10_given_r4 : List Cond := [Cond.constant RJ6 266 (858993459), Cond.constant RJ6 267 (252645135), Cond.methodLink RX10 221 yX0_leastSum, Cond.instanceMethod yX0_leastSum, Cond.selects RX0 yX0_leastSum yX0_leastSum, Cond.code yX0_leastSum cX0_leastSum 1 (some .int), Cond.methodLink RX10 224 yX0_choice, Cond.instanceMethod yX0_choice, Cond.selects RX0 yX0_choice yX0_choice, Cond.code yX0_choice cX0_choice 4 (some .int)]
def wsX10_given : List Cond := .code yX10_given cX10_given 6 (some .int) :: ((wsX10_given_r1 ++ (wsX10_given_r2 ++ (wsX10_given_r3 ++ wsX10_given_r4))) ++ wsX100 ++ wsX20 ++ wsX40 ++ wsX00)
def wsX10_ringsClose_r1 : List Cond := [Cond.fieldLink RX10 10 "LandReform" "people" "LLandReform$People;", Cond.fieldLink RX10 67 "LandReform" "rings" "LLandReform$Rings;", Cond.fieldLink RX10 19 "LandReform" "land" "LLandReform$Land;", Cond.methodLink RX10 216 yX4_hasRow, Cond.instanceMethod yX4_hasRow, Cond.selects RX4 yX4_hasRow yX4_hasRow, Cond.initialized RX4, Cond.code yX4_hasRow cX4_hasRow 3 (some .boolean), Cond.fieldLink RX4 22 "LandReform$People" "size" "I", Cond.methodLink RX4 30 yX4_has, Cond.instanceMethod yX4_has, Cond.selects RX4 yX4_has yX4_has, Cond.code yX4_has cX4_has 2 (some .boolean), Cond.static yX10_isBelow, Cond.initialized RX10, Cond.code yX10_isBelow cX10_isBelow 2 (some .boolean), Cond.methodLink RX10 288 yX6_close, Cond.instanceMethod yX6_close, Cond.selects RX6 yX6_close yX6_close, Cond.initialized RX6, Cond.code yX6_close cX6_close 6 (some .boolean), Cond.methodLink RX6 27 Lib.Math.min.name, Cond.static Lib.Math.min.name, Cond.initialized "java/lang/Math"]
def wsX10_ringsClose_r2 : List Cond := [Cond.code Lib.Math.min.name Lib.Math.min.code 2 (some .int), Cond.methodLink RX6 33 Lib.Math.max.name, Cond.static Lib.Math.max.name, Cond.code Lib.Math.max.name Lib.Math.max.code 2 (some .int), Cond.fieldLink RX6 36 "LandReform$Rings" "size" "I", Cond.fieldLink RX6 40 "LandReform$Rings" "closed" "I", Cond.fieldLink RX6 9 "LandReform$Rings" "homes" "[I", Cond.fieldLink RX6 15 "LandReform$Rings" "fieldsHad" "[I", Cond.fieldLink RX6 18 "LandReform$Rings" "placesHad" "[I", Cond.fieldLink RX6 21 "LandReform$Rings" "fieldsGot" "[I", Cond.fieldLink RX6 24 "LandReform$Rings" "pointedAt" "[I", Cond.methodLink RX6 43 yX4_homeOf, Cond.instanceMethod yX4_homeOf, Cond.selects RX4 yX4_homeOf yX4_homeOf, Cond.code yX4_homeOf cX4_homeOf 2 (some .int), Cond.fieldLink RX4 15 "LandReform$People" "homes" "[I", Cond.methodLink RX6 49 yX2_firstFieldOf, Cond.instanceMethod yX2_firstFieldOf, Cond.selects RX2 yX2_firstFieldOf yX2_firstFieldOf, Cond.initialized RX2, Cond.code yX2_firstFieldOf cX2_firstFieldOf 3 (some .int), Cond.fieldLink RX2 39 "LandReform$Land" "size" "I", Cond.fieldLink RX2 27 "LandReform$Land" "owners" "[I", Cond.methodLink RX6 54 yX2_placeOf]
def wsX10_ringsClose_r3 : List Cond := [Cond.instanceMethod yX2_placeOf, Cond.selects RX2 yX2_placeOf yX2_placeOf, Cond.code yX2_placeOf cX2_placeOf 2 (some .int), Cond.fieldLink RX2 9 "LandReform$Land" "places" "[I", Cond.methodLink RX2 47 yX2_has, Cond.instanceMethod yX2_has, Cond.selects RX2 yX2_has yX2_has, Cond.code yX2_has cX2_has 2 (some .boolean), Cond.methodLink RX6 57 yX6_point, Cond.instanceMethod yX6_point, Cond.selects RX6 yX6_point yX6_point, Cond.code yX6_point cX6_point 2 none, Cond.methodLink RX6 63 yX6_holderOfNearest, Cond.instanceMethod yX6_holderOfNearest, Cond.selects RX6 yX6_holderOfNearest yX6_holderOfNearest, Cond.code yX6_holderOfNearest cX6_holderOfNearest 6 (some .int), Cond.methodLink RX6 66 Lib.Math.abs.name, Cond.static Lib.Math.abs.name, Cond.code Lib.Math.abs.name Lib.Math.abs.code 1 (some .int), Cond.methodLink RX6 60 yX6_leaveInRings, Cond.instanceMethod yX6_leaveInRings, Cond.selects RX6 yX6_leaveInRings yX6_leaveInRings, Cond.code yX6_leaveInRings cX6_leaveInRings 3 none, Cond.methodLink RX6 69 yX6_leastInRing]
def wsX10_ringsClose_r4 : List Cond := [Cond.instanceMethod yX6_leastInRing, Cond.selects RX6 yX6_leastInRing yX6_leastInRing, Cond.code yX6_leastInRing cX6_leastInRing 5 (some .int)]
def wsX10_ringsClose : List Cond := .code yX10_ringsClose cX10_ringsClose 3 (some .boolean) :: ((wsX10_ringsClose_r1 ++ (wsX10_ringsClose_r2 ++ (wsX10_ringsClose_r3 ++ wsX10_ringsClose_r4))) ++ wsX100 ++ wsX40 ++ wsX60 ++ wsX20)
def wsX10_rings_r1 : List Cond := [Cond.fieldLink RX10 67 "LandReform" "rings" "LLandReform$Rings;", Cond.methodLink RX10 227 yX10_ringsClose, Cond.instanceMethod yX10_ringsClose, Cond.selects RX10 yX10_ringsClose yX10_ringsClose, Cond.initialized RX10, Cond.code yX10_ringsClose cX10_ringsClose 3 (some .boolean), Cond.fieldLink RX10 10 "LandReform" "people" "LLandReform$People;", Cond.fieldLink RX10 19 "LandReform" "land" "LLandReform$Land;", Cond.methodLink RX10 216 yX4_hasRow, Cond.instanceMethod yX4_hasRow, Cond.selects RX4 yX4_hasRow yX4_hasRow, Cond.initialized RX4, Cond.code yX4_hasRow cX4_hasRow 3 (some .boolean), Cond.fieldLink RX4 22 "LandReform$People" "size" "I", Cond.methodLink RX4 30 yX4_has, Cond.instanceMethod yX4_has, Cond.selects RX4 yX4_has yX4_has, Cond.code yX4_has cX4_has 2 (some .boolean), Cond.static yX10_isBelow, Cond.code yX10_isBelow cX10_isBelow 2 (some .boolean), Cond.methodLink RX10 288 yX6_close, Cond.instanceMethod yX6_close, Cond.selects RX6 yX6_close yX6_close, Cond.initialized RX6]
def wsX10_rings_r2 : List Cond := [Cond.code yX6_close cX6_close 6 (some .boolean), Cond.methodLink RX6 27 Lib.Math.min.name, Cond.static Lib.Math.min.name, Cond.initialized "java/lang/Math", Cond.code Lib.Math.min.name Lib.Math.min.code 2 (some .int), Cond.methodLink RX6 33 Lib.Math.max.name, Cond.static Lib.Math.max.name, Cond.code Lib.Math.max.name Lib.Math.max.code 2 (some .int), Cond.fieldLink RX6 36 "LandReform$Rings" "size" "I", Cond.fieldLink RX6 40 "LandReform$Rings" "closed" "I", Cond.fieldLink RX6 9 "LandReform$Rings" "homes" "[I", Cond.fieldLink RX6 15 "LandReform$Rings" "fieldsHad" "[I", Cond.fieldLink RX6 18 "LandReform$Rings" "placesHad" "[I", Cond.fieldLink RX6 21 "LandReform$Rings" "fieldsGot" "[I", Cond.fieldLink RX6 24 "LandReform$Rings" "pointedAt" "[I", Cond.methodLink RX6 43 yX4_homeOf, Cond.instanceMethod yX4_homeOf, Cond.selects RX4 yX4_homeOf yX4_homeOf, Cond.code yX4_homeOf cX4_homeOf 2 (some .int), Cond.fieldLink RX4 15 "LandReform$People" "homes" "[I", Cond.methodLink RX6 49 yX2_firstFieldOf, Cond.instanceMethod yX2_firstFieldOf, Cond.selects RX2 yX2_firstFieldOf yX2_firstFieldOf, Cond.initialized RX2]
def wsX10_rings_r3 : List Cond := [Cond.code yX2_firstFieldOf cX2_firstFieldOf 3 (some .int), Cond.fieldLink RX2 39 "LandReform$Land" "size" "I", Cond.fieldLink RX2 27 "LandReform$Land" "owners" "[I", Cond.methodLink RX6 54 yX2_placeOf, Cond.instanceMethod yX2_placeOf, Cond.selects RX2 yX2_placeOf yX2_placeOf, Cond.code yX2_placeOf cX2_placeOf 2 (some .int), Cond.fieldLink RX2 9 "LandReform$Land" "places" "[I", Cond.methodLink RX2 47 yX2_has, Cond.instanceMethod yX2_has, Cond.selects RX2 yX2_has yX2_has, Cond.code yX2_has cX2_has 2 (some .boolean), Cond.methodLink RX6 57 yX6_point, Cond.instanceMethod yX6_point, Cond.selects RX6 yX6_point yX6_point, Cond.code yX6_point cX6_point 2 none, Cond.methodLink RX6 63 yX6_holderOfNearest, Cond.instanceMethod yX6_holderOfNearest, Cond.selects RX6 yX6_holderOfNearest yX6_holderOfNearest, Cond.code yX6_holderOfNearest cX6_holderOfNearest 6 (some .int), Cond.methodLink RX6 66 Lib.Math.abs.name, Cond.static Lib.Math.abs.name, Cond.code Lib.Math.abs.name Lib.Math.abs.code 1 (some .int), Cond.methodLink RX6 60 yX6_leaveInRings]
def wsX10_rings_r4 : List Cond := [Cond.instanceMethod yX6_leaveInRings, Cond.selects RX6 yX6_leaveInRings yX6_leaveInRings, Cond.code yX6_leaveInRings cX6_leaveInRings 3 none, Cond.methodLink RX6 69 yX6_leastInRing, Cond.instanceMethod yX6_leastInRing, Cond.selects RX6 yX6_leastInRing yX6_leastInRing, Cond.code yX6_leastInRing cX6_leastInRing 5 (some .int), Cond.methodLink RX10 233 yX6_fieldFor, Cond.instanceMethod yX6_fieldFor, Cond.selects RX6 yX6_fieldFor yX6_fieldFor, Cond.code yX6_fieldFor cX6_fieldFor 2 (some .int)]
def wsX10_rings : List Cond := .code yX10_rings cX10_rings 4 (some .int) :: ((wsX10_rings_r1 ++ (wsX10_rings_r2 ++ (wsX10_rings_r3 ++ wsX10_rings_r4))) ++ wsX100 ++ wsX60 ++ wsX40 ++ wsX20)
def wsX10_swap_r1 : List Cond := [Cond.fieldLink RX10 67 "LandReform" "rings" "LLandReform$Rings;", Cond.fieldLink RX10 19 "LandReform" "land" "LLandReform$Land;", Cond.methodLink RX10 227 yX10_ringsClose, Cond.instanceMethod yX10_ringsClose, Cond.selects RX10 yX10_ringsClose yX10_ringsClose, Cond.initialized RX10, Cond.code yX10_ringsClose cX10_ringsClose 3 (some .boolean), Cond.fieldLink RX10 10 "LandReform" "people" "LLandReform$People;", Cond.methodLink RX10 216 yX4_hasRow, Cond.instanceMethod yX4_hasRow, Cond.selects RX4 yX4_hasRow yX4_hasRow, Cond.initialized RX4, Cond.code yX4_hasRow cX4_hasRow 3 (some .boolean), Cond.fieldLink RX4 22 "LandReform$People" "size" "I", Cond.methodLink RX4 30 yX4_has, Cond.instanceMethod yX4_has, Cond.selects RX4 yX4_has yX4_has, Cond.code yX4_has cX4_has 2 (some .boolean), Cond.static yX10_isBelow, Cond.code yX10_isBelow cX10_isBelow 2 (some .boolean), Cond.methodLink RX10 288 yX6_close, Cond.instanceMethod yX6_close, Cond.selects RX6 yX6_close yX6_close, Cond.initialized RX6]
def wsX10_swap_r2 : List Cond := [Cond.code yX6_close cX6_close 6 (some .boolean), Cond.methodLink RX6 27 Lib.Math.min.name, Cond.static Lib.Math.min.name, Cond.initialized "java/lang/Math", Cond.code Lib.Math.min.name Lib.Math.min.code 2 (some .int), Cond.methodLink RX6 33 Lib.Math.max.name, Cond.static Lib.Math.max.name, Cond.code Lib.Math.max.name Lib.Math.max.code 2 (some .int), Cond.fieldLink RX6 36 "LandReform$Rings" "size" "I", Cond.fieldLink RX6 40 "LandReform$Rings" "closed" "I", Cond.fieldLink RX6 9 "LandReform$Rings" "homes" "[I", Cond.fieldLink RX6 15 "LandReform$Rings" "fieldsHad" "[I", Cond.fieldLink RX6 18 "LandReform$Rings" "placesHad" "[I", Cond.fieldLink RX6 21 "LandReform$Rings" "fieldsGot" "[I", Cond.fieldLink RX6 24 "LandReform$Rings" "pointedAt" "[I", Cond.methodLink RX6 43 yX4_homeOf, Cond.instanceMethod yX4_homeOf, Cond.selects RX4 yX4_homeOf yX4_homeOf, Cond.code yX4_homeOf cX4_homeOf 2 (some .int), Cond.fieldLink RX4 15 "LandReform$People" "homes" "[I", Cond.methodLink RX6 49 yX2_firstFieldOf, Cond.instanceMethod yX2_firstFieldOf, Cond.selects RX2 yX2_firstFieldOf yX2_firstFieldOf, Cond.initialized RX2]
def wsX10_swap_r3 : List Cond := [Cond.code yX2_firstFieldOf cX2_firstFieldOf 3 (some .int), Cond.fieldLink RX2 39 "LandReform$Land" "size" "I", Cond.fieldLink RX2 27 "LandReform$Land" "owners" "[I", Cond.methodLink RX6 54 yX2_placeOf, Cond.instanceMethod yX2_placeOf, Cond.selects RX2 yX2_placeOf yX2_placeOf, Cond.code yX2_placeOf cX2_placeOf 2 (some .int), Cond.fieldLink RX2 9 "LandReform$Land" "places" "[I", Cond.methodLink RX2 47 yX2_has, Cond.instanceMethod yX2_has, Cond.selects RX2 yX2_has yX2_has, Cond.code yX2_has cX2_has 2 (some .boolean), Cond.methodLink RX6 57 yX6_point, Cond.instanceMethod yX6_point, Cond.selects RX6 yX6_point yX6_point, Cond.code yX6_point cX6_point 2 none, Cond.methodLink RX6 63 yX6_holderOfNearest, Cond.instanceMethod yX6_holderOfNearest, Cond.selects RX6 yX6_holderOfNearest yX6_holderOfNearest, Cond.code yX6_holderOfNearest cX6_holderOfNearest 6 (some .int), Cond.methodLink RX6 66 Lib.Math.abs.name, Cond.static Lib.Math.abs.name, Cond.code Lib.Math.abs.name Lib.Math.abs.code 1 (some .int), Cond.methodLink RX6 60 yX6_leaveInRings]
def wsX10_swap_r4 : List Cond := [Cond.instanceMethod yX6_leaveInRings, Cond.selects RX6 yX6_leaveInRings yX6_leaveInRings, Cond.code yX6_leaveInRings cX6_leaveInRings 3 none, Cond.methodLink RX6 69 yX6_leastInRing, Cond.instanceMethod yX6_leastInRing, Cond.selects RX6 yX6_leastInRing yX6_leastInRing, Cond.code yX6_leastInRing cX6_leastInRing 5 (some .int), Cond.methodLink RX10 236 yX6_changes, Cond.instanceMethod yX6_changes, Cond.selects RX6 yX6_changes yX6_changes, Cond.code yX6_changes cX6_changes 3 (some .int), Cond.methodLink RX10 114 yX2_transfersLeft, Cond.instanceMethod yX2_transfersLeft, Cond.selects RX2 yX2_transfersLeft yX2_transfersLeft, Cond.code yX2_transfersLeft cX2_transfersLeft 1 (some .int), Cond.fieldLink RX2 71 "LandReform$Land" "transfers" "I", Cond.methodLink RX10 240 yX6_winnerOf, Cond.instanceMethod yX6_winnerOf, Cond.selects RX6 yX6_winnerOf yX6_winnerOf, Cond.code yX6_winnerOf cX6_winnerOf 3 (some .int), Cond.methodLink RX10 118 yX2_move, Cond.instanceMethod yX2_move, Cond.selects RX2 yX2_move yX2_move, Cond.code yX2_move cX2_move 3 none]
def wsX10_swap_r5 : List Cond := [Cond.fieldLink RX2 30 "LandReform$Land" "movedFields" "[I", Cond.fieldLink RX2 33 "LandReform$Land" "receivers" "[I", Cond.fieldLink RX2 36 "LandReform$Land" "days" "[I", Cond.fieldLink RX2 74 "LandReform$Land" "today" "I"]
def wsX10_swap : List Cond := .code yX10_swap cX10_swap 6 (some .int) :: ((wsX10_swap_r1 ++ (wsX10_swap_r2 ++ (wsX10_swap_r3 ++ (wsX10_swap_r4 ++ wsX10_swap_r5)))) ++ wsX100 ++ wsX20 ++ wsX40 ++ wsX60)
def wsX10_sell_r1 : List Cond := [Cond.fieldLink RX10 19 "LandReform" "land" "LLandReform$Land;", Cond.fieldLink RX10 10 "LandReform" "people" "LLandReform$People;", Cond.fieldLink RX10 243 "LandReform" "saleCount" "I", Cond.fieldLink RX10 80 "LandReform" "law" "LLandReform$Law;", Cond.fieldLink RX10 73 "LandReform" "sales" "[LLandReform$Sale;", Cond.classLink RX10 71 RX7, Cond.instantiable RX7 9, Cond.initialized RX7, Cond.methodLink RX10 109 yX2_has, Cond.instanceMethod yX2_has, Cond.selects RX2 yX2_has yX2_has, Cond.initialized RX2, Cond.code yX2_has cX2_has 2 (some .boolean), Cond.fieldLink RX2 39 "LandReform$Land" "size" "I", Cond.static yX10_isBelow, Cond.initialized RX10, Cond.code yX10_isBelow cX10_isBelow 2 (some .boolean), Cond.methodLink RX10 98 yX4_has, Cond.instanceMethod yX4_has, Cond.selects RX4 yX4_has yX4_has, Cond.initialized RX4, Cond.code yX4_has cX4_has 2 (some .boolean), Cond.fieldLink RX4 22 "LandReform$People" "size" "I", Cond.methodLink RX10 154 yX2_standardOf]
def wsX10_sell_r2 : List Cond := [Cond.instanceMethod yX2_standardOf, Cond.selects RX2 yX2_standardOf yX2_standardOf, Cond.code yX2_standardOf cX2_standardOf 3 (some .int), Cond.methodLink RX2 51 yX2_areaOf, Cond.instanceMethod yX2_areaOf, Cond.selects RX2 yX2_areaOf yX2_areaOf, Cond.code yX2_areaOf cX2_areaOf 2 (some .int), Cond.fieldLink RX2 15 "LandReform$Land" "areas" "[I", Cond.methodLink RX2 47 yX2_has, Cond.methodLink RX2 55 yX2_soilOf, Cond.instanceMethod yX2_soilOf, Cond.selects RX2 yX2_soilOf yX2_soilOf, Cond.code yX2_soilOf cX2_soilOf 2 (some .int), Cond.fieldLink RX2 18 "LandReform$Land" "soils" "[I", Cond.methodLink RX2 58 yX3_soilIs, Cond.instanceMethod yX3_soilIs, Cond.selects RX3 yX3_soilIs yX3_soilIs, Cond.initialized RX3, Cond.code yX3_soilIs cX3_soilIs 2 (some .int), Cond.fieldLink RX3 9 "LandReform$Law" "soilValues" "[I", Cond.methodLink RX10 252 yX7_init, Cond.instanceMethod yX7_init, Cond.code yX7_init cX7_init 5 none, Cond.methodLink RX7 3 objectInit]
def wsX10_sell_r3 : List Cond := [Cond.instanceMethod objectInit, Cond.code objectInit ⟨#[0xb1]⟩ 1 none, Cond.fieldLink RX7 9 "LandReform$Sale" "soldField" "I", Cond.fieldLink RX7 15 "LandReform$Sale" "buyer" "I", Cond.fieldLink RX7 18 "LandReform$Sale" "owed" "I", Cond.methodLink RX7 21 Lib.Math.max.name, Cond.static Lib.Math.max.name, Cond.initialized "java/lang/Math", Cond.code Lib.Math.max.name Lib.Math.max.code 2 (some .int), Cond.fieldLink RX7 27 "LandReform$Sale" "partsLeft" "I", Cond.fieldLink RX7 30 "LandReform$Sale" "partsBeforeRest" "I", Cond.fieldLink RX7 33 "LandReform$Sale" "part" "I", Cond.fieldLink RX7 36 "LandReform$Sale" "rest" "I"]
def wsX10_sell : List Cond := .code yX10_sell cX10_sell 4 (some .int) :: ((wsX10_sell_r1 ++ (wsX10_sell_r2 ++ wsX10_sell_r3)) ++ wsX100 ++ wsX30 ++ wsX70 ++ wsX20 ++ wsX40)
def wsX10_saleNumbered : List Cond := .code yX10_saleNumbered cX10_saleNumbered 2 (some (.object "LandReform$Sale")) :: ([.fieldLink RX10 243 "LandReform" "saleCount" "I", .fieldLink RX10 73 "LandReform" "sales" "[LLandReform$Sale;", .methodLink RX10 87 yX10_isBelow, .static yX10_isBelow, .initialized RX10, .code yX10_isBelow cX10_isBelow 2 (some .boolean)] ++ wsX100)
def wsX10_year : List Cond := .code yX10_year cX10_year 4 (some .int) :: ([.methodLink RX10 255 yX10_saleNumbered, .instanceMethod yX10_saleNumbered, .selects RX10 yX10_saleNumbered yX10_saleNumbered, .initialized RX10, .code yX10_saleNumbered cX10_saleNumbered 2 (some (.object "LandReform$Sale")), .fieldLink RX10 243 "LandReform" "saleCount" "I", .fieldLink RX10 73 "LandReform" "sales" "[LLandReform$Sale;", .methodLink RX10 87 yX10_isBelow, .static yX10_isBelow, .code yX10_isBelow cX10_isBelow 2 (some .boolean), .methodLink RX10 259 yX7_pass, .instanceMethod yX7_pass, .selects RX7 yX7_pass yX7_pass, .initialized RX7, .code yX7_pass cX7_pass 4 (some .int), .fieldLink RX7 27 "LandReform$Sale" "partsLeft" "I", .fieldLink RX7 30 "LandReform$Sale" "partsBeforeRest" "I", .fieldLink RX7 39 "LandReform$Sale" "yearsPutOff" "I", .fieldLink RX7 36 "LandReform$Sale" "rest" "I", .fieldLink RX7 33 "LandReform$Sale" "part" "I", .fieldLink RX7 42 "LandReform$Sale" "paid" "I"] ++ wsX100 ++ wsX70)
def wsX10_sale : List Cond := .code yX10_sale cX10_sale 4 (some .int) :: ([.methodLink RX10 255 yX10_saleNumbered, .instanceMethod yX10_saleNumbered, .selects RX10 yX10_saleNumbered yX10_saleNumbered, .initialized RX10, .code yX10_saleNumbered cX10_saleNumbered 2 (some (.object "LandReform$Sale")), .fieldLink RX10 243 "LandReform" "saleCount" "I", .fieldLink RX10 73 "LandReform" "sales" "[LLandReform$Sale;", .methodLink RX10 87 yX10_isBelow, .static yX10_isBelow, .code yX10_isBelow cX10_isBelow 2 (some .boolean)] ++ wsX70 ++ wsX100)
def wsX10_count : List Cond := .code yX10_count cX10_count 2 (some .int) :: ([.fieldLink RX10 19 "LandReform" "land" "LLandReform$Land;", .fieldLink RX10 10 "LandReform" "people" "LLandReform$People;", .fieldLink RX10 80 "LandReform" "law" "LLandReform$Law;", .fieldLink RX10 243 "LandReform" "saleCount" "I", .fieldLink RX10 26 "LandReform" "tape" "LLandReform$Tape;"] ++ wsX100 ++ wsX20 ++ wsX40 ++ wsX30 ++ wsX80)
def wsX11_isIn : List Cond := .code yX11_isIn cX11_isIn 3 (some .boolean) :: ([])
def wsX11_begins : List Cond := .code yX11_begins cX11_begins 3 none :: ([.fieldLink RX11 44 "LandReformModel" "told" "[I", .methodLink RX11 116 yX11_isIn, .static yX11_isIn, .initialized RX11, .code yX11_isIn cX11_isIn 3 (some .boolean)] ++ wsX110)
def wsX11_init_r1 : List Cond := [Cond.methodLink RX11 1 objectInit, Cond.instanceMethod objectInit, Cond.code objectInit ⟨#[0xb1]⟩ 1 none, Cond.arrayClass .int, Cond.fieldLink RX11 7 "LandReformModel" "house" "[I", Cond.fieldLink RX11 13 "LandReformModel" "home" "[I", Cond.arrayClass .boolean, Cond.fieldLink RX11 16 "LandReformModel" "isAkin" "[Z", Cond.fieldLink RX11 20 "LandReformModel" "place" "[I", Cond.fieldLink RX11 23 "LandReformModel" "area" "[I", Cond.fieldLink RX11 26 "LandReformModel" "soil" "[I", Cond.fieldLink RX11 29 "LandReformModel" "crop" "[I", Cond.fieldLink RX11 32 "LandReformModel" "firstOwner" "[I", Cond.fieldLink RX11 35 "LandReformModel" "transferred" "[I", Cond.fieldLink RX11 38 "LandReformModel" "goesTo" "[I", Cond.fieldLink RX11 41 "LandReformModel" "goesOn" "[I", Cond.fieldLink RX11 44 "LandReformModel" "told" "[I", Cond.arrayClass .byte, Cond.fieldLink RX11 47 "LandReformModel" "tape" "[B", Cond.fieldLink RX11 51 "LandReformModel" "text" "[B", Cond.fieldLink RX11 54 "LandReformModel" "fault" "I", Cond.fieldLink RX11 58 "LandReformModel" "row" "[I", Cond.fieldLink RX11 61 "LandReformModel" "pairField" "[I", Cond.fieldLink RX11 64 "LandReformModel" "pairPerson" "[I"]
def wsX11_init_r2 : List Cond := [Cond.fieldLink RX11 67 "LandReformModel" "pairYears" "[I", Cond.fieldLink RX11 70 "LandReformModel" "way" "[I", Cond.fieldLink RX11 73 "LandReformModel" "bestWay" "[I", Cond.fieldLink RX11 76 "LandReformModel" "has" "[I", Cond.fieldLink RX11 79 "LandReformModel" "gets" "[I", Cond.fieldLink RX11 82 "LandReformModel" "points" "[I", Cond.fieldLink RX11 85 "LandReformModel" "saleField" "[I", Cond.fieldLink RX11 88 "LandReformModel" "buyer" "[I", Cond.fieldLink RX11 91 "LandReformModel" "owed" "[I", Cond.fieldLink RX11 94 "LandReformModel" "parts" "[I", Cond.fieldLink RX11 97 "LandReformModel" "paid" "[I", Cond.fieldLink RX11 100 "LandReformModel" "left" "[I", Cond.fieldLink RX11 103 "LandReformModel" "putOff" "[I", Cond.fieldLink RX11 106 "LandReformModel" "restAt" "[I", Cond.methodLink RX11 109 yX11_begins, Cond.instanceMethod yX11_begins, Cond.selects RX11 yX11_begins yX11_begins, Cond.initialized RX11, Cond.code yX11_begins cX11_begins 3 none, Cond.methodLink RX11 116 yX11_isIn, Cond.static yX11_isIn, Cond.code yX11_isIn cX11_isIn 3 (some .boolean)]
def wsX11_init : List Cond := .code yX11_init cX11_init 1 none :: ((wsX11_init_r1 ++ wsX11_init_r2) ++ wsX110)
def wsX11_one : List Cond := .code yX11_one cX11_one 1 (some .int) :: ([])
def wsX11_isPerson : List Cond := .code yX11_isPerson cX11_isPerson 2 (some .boolean) :: ([.fieldLink RX11 113 "LandReformModel" "persons" "I", .methodLink RX11 116 yX11_isIn, .static yX11_isIn, .initialized RX11, .code yX11_isIn cX11_isIn 3 (some .boolean)] ++ wsX110)
def wsX11_isField : List Cond := .code yX11_isField cX11_isField 2 (some .boolean) :: ([.fieldLink RX11 120 "LandReformModel" "fields" "I", .methodLink RX11 116 yX11_isIn, .static yX11_isIn, .initialized RX11, .code yX11_isIn cX11_isIn 3 (some .boolean)] ++ wsX110)
def wsX11_person : List Cond := .code yX11_person cX11_person 3 (some .int) :: ([.fieldLink RX11 113 "LandReformModel" "persons" "I", .fieldLink RX11 7 "LandReformModel" "house" "[I", .fieldLink RX11 13 "LandReformModel" "home" "[I", .methodLink RX11 116 yX11_isIn, .static yX11_isIn, .initialized RX11, .code yX11_isIn cX11_isIn 3 (some .boolean)] ++ wsX110)
def wsX11_akin : List Cond := .code yX11_akin cX11_akin 3 (some .boolean) :: ([.fieldLink RX11 16 "LandReformModel" "isAkin" "[Z", .fieldLink RX11 127 "LandReformModel" "kin" "I", .methodLink RX11 123 yX11_isPerson, .instanceMethod yX11_isPerson, .selects RX11 yX11_isPerson yX11_isPerson, .initialized RX11, .code yX11_isPerson cX11_isPerson 2 (some .boolean), .fieldLink RX11 113 "LandReformModel" "persons" "I", .methodLink RX11 116 yX11_isIn, .static yX11_isIn, .code yX11_isIn cX11_isIn 3 (some .boolean)] ++ wsX110)
def wsX11_field : List Cond := .code yX11_field cX11_field 6 (some .int) :: ([.fieldLink RX11 120 "LandReformModel" "fields" "I", .fieldLink RX11 20 "LandReformModel" "place" "[I", .fieldLink RX11 23 "LandReformModel" "area" "[I", .fieldLink RX11 26 "LandReformModel" "soil" "[I", .fieldLink RX11 29 "LandReformModel" "crop" "[I", .fieldLink RX11 32 "LandReformModel" "firstOwner" "[I", .methodLink RX11 116 yX11_isIn, .static yX11_isIn, .initialized RX11, .code yX11_isIn cX11_isIn 3 (some .boolean), .methodLink RX11 123 yX11_isPerson, .instanceMethod yX11_isPerson, .selects RX11 yX11_isPerson yX11_isPerson, .code yX11_isPerson cX11_isPerson 2 (some .boolean), .fieldLink RX11 113 "LandReformModel" "persons" "I"] ++ wsX110)
def wsX11_day : List Cond := .code yX11_day cX11_day 2 (some .boolean) :: ([.fieldLink RX11 130 "LandReformModel" "today" "I"] ++ wsX110)
def wsX11_ownerOn : List Cond := .code yX11_ownerOn cX11_ownerOn 5 (some .int) :: ([.fieldLink RX11 32 "LandReformModel" "firstOwner" "[I", .fieldLink RX11 133 "LandReformModel" "transfers" "I", .fieldLink RX11 35 "LandReformModel" "transferred" "[I", .fieldLink RX11 41 "LandReformModel" "goesOn" "[I", .fieldLink RX11 38 "LandReformModel" "goesTo" "[I"] ++ wsX110)
def wsX11_owner : List Cond := .code yX11_owner cX11_owner 2 (some .int) :: ([.fieldLink RX11 130 "LandReformModel" "today" "I", .methodLink RX11 136 yX11_ownerOn, .instanceMethod yX11_ownerOn, .selects RX11 yX11_ownerOn yX11_ownerOn, .initialized RX11, .code yX11_ownerOn cX11_ownerOn 5 (some .int), .fieldLink RX11 32 "LandReformModel" "firstOwner" "[I", .fieldLink RX11 133 "LandReformModel" "transfers" "I", .fieldLink RX11 35 "LandReformModel" "transferred" "[I", .fieldLink RX11 41 "LandReformModel" "goesOn" "[I", .fieldLink RX11 38 "LandReformModel" "goesTo" "[I"] ++ wsX110)
def wsX11_goes : List Cond := .code yX11_goes cX11_goes 3 none :: ([.fieldLink RX11 35 "LandReformModel" "transferred" "[I", .fieldLink RX11 133 "LandReformModel" "transfers" "I", .fieldLink RX11 38 "LandReformModel" "goesTo" "[I", .fieldLink RX11 41 "LandReformModel" "goesOn" "[I", .fieldLink RX11 130 "LandReformModel" "today" "I"] ++ wsX110)
def wsX11_transfer_r1 : List Cond := [Cond.fieldLink RX11 133 "LandReformModel" "transfers" "I", Cond.methodLink RX11 140 yX11_isField, Cond.instanceMethod yX11_isField, Cond.selects RX11 yX11_isField yX11_isField, Cond.initialized RX11, Cond.code yX11_isField cX11_isField 2 (some .boolean), Cond.fieldLink RX11 120 "LandReformModel" "fields" "I", Cond.methodLink RX11 116 yX11_isIn, Cond.static yX11_isIn, Cond.code yX11_isIn cX11_isIn 3 (some .boolean), Cond.methodLink RX11 123 yX11_isPerson, Cond.instanceMethod yX11_isPerson, Cond.selects RX11 yX11_isPerson yX11_isPerson, Cond.code yX11_isPerson cX11_isPerson 2 (some .boolean), Cond.fieldLink RX11 113 "LandReformModel" "persons" "I", Cond.methodLink RX11 143 yX11_owner, Cond.instanceMethod yX11_owner, Cond.selects RX11 yX11_owner yX11_owner, Cond.code yX11_owner cX11_owner 2 (some .int), Cond.fieldLink RX11 130 "LandReformModel" "today" "I", Cond.methodLink RX11 136 yX11_ownerOn, Cond.instanceMethod yX11_ownerOn, Cond.selects RX11 yX11_ownerOn yX11_ownerOn, Cond.code yX11_ownerOn cX11_ownerOn 5 (some .int)]
def wsX11_transfer_r2 : List Cond := [Cond.fieldLink RX11 32 "LandReformModel" "firstOwner" "[I", Cond.fieldLink RX11 35 "LandReformModel" "transferred" "[I", Cond.fieldLink RX11 41 "LandReformModel" "goesOn" "[I", Cond.fieldLink RX11 38 "LandReformModel" "goesTo" "[I", Cond.methodLink RX11 147 yX11_goes, Cond.instanceMethod yX11_goes, Cond.selects RX11 yX11_goes yX11_goes, Cond.code yX11_goes cX11_goes 3 none]
def wsX11_transfer : List Cond := .code yX11_transfer cX11_transfer 3 (some .boolean) :: ((wsX11_transfer_r1 ++ wsX11_transfer_r2) ++ wsX110)
def wsX11_owned : List Cond := .code yX11_owned cX11_owned 3 (some .int) :: ([.methodLink RX11 140 yX11_isField, .instanceMethod yX11_isField, .selects RX11 yX11_isField yX11_isField, .initialized RX11, .code yX11_isField cX11_isField 2 (some .boolean), .fieldLink RX11 120 "LandReformModel" "fields" "I", .methodLink RX11 116 yX11_isIn, .static yX11_isIn, .code yX11_isIn cX11_isIn 3 (some .boolean), .methodLink RX11 136 yX11_ownerOn, .instanceMethod yX11_ownerOn, .selects RX11 yX11_ownerOn yX11_ownerOn, .code yX11_ownerOn cX11_ownerOn 5 (some .int), .fieldLink RX11 32 "LandReformModel" "firstOwner" "[I", .fieldLink RX11 133 "LandReformModel" "transfers" "I", .fieldLink RX11 35 "LandReformModel" "transferred" "[I", .fieldLink RX11 41 "LandReformModel" "goesOn" "[I", .fieldLink RX11 38 "LandReformModel" "goesTo" "[I"] ++ wsX110)
def wsX11_four : List Cond := .code yX11_four cX11_four 3 none :: ([.fieldLink RX11 47 "LandReformModel" "tape" "[B", .fieldLink RX11 151 "LandReformModel" "taped" "I"] ++ wsX110)
def wsX11_feed : List Cond := .code yX11_feed cX11_feed 6 (some .int) :: ([.fieldLink RX11 151 "LandReformModel" "taped" "I", .methodLink RX11 154 yX11_four, .instanceMethod yX11_four, .selects RX11 yX11_four yX11_four, .initialized RX11, .code yX11_four cX11_four 3 none, .fieldLink RX11 47 "LandReformModel" "tape" "[B"] ++ wsX110)
def wsX11_blanks : List Cond := .code yX11_blanks cX11_blanks 1 none :: ([.fieldLink RX11 157 "LandReformModel" "at" "I", .fieldLink RX11 160 "LandReformModel" "size" "I", .fieldLink RX11 51 "LandReformModel" "text" "[B"] ++ wsX110)
def wsX11_word : List Cond := .code yX11_word cX11_word 3 (some .long) :: ([.fieldLink RX11 157 "LandReformModel" "at" "I", .fieldLink RX11 166 "LandReformModel" "wordEnd" "I", .fieldLink RX11 160 "LandReformModel" "size" "I", .fieldLink RX11 51 "LandReformModel" "text" "[B", .methodLink RX11 163 yX11_blanks, .instanceMethod yX11_blanks, .selects RX11 yX11_blanks yX11_blanks, .initialized RX11, .code yX11_blanks cX11_blanks 1 none] ++ wsX110)
def wsX11_takes : List Cond := .code yX11_takes cX11_takes 3 (some .boolean) :: ([.fieldLink RX11 166 "LandReformModel" "wordEnd" "I", .fieldLink RX11 157 "LandReformModel" "at" "I", .methodLink RX11 169 yX11_word, .instanceMethod yX11_word, .selects RX11 yX11_word yX11_word, .initialized RX11, .code yX11_word cX11_word 3 (some .long), .fieldLink RX11 160 "LandReformModel" "size" "I", .fieldLink RX11 51 "LandReformModel" "text" "[B", .methodLink RX11 163 yX11_blanks, .instanceMethod yX11_blanks, .selects RX11 yX11_blanks yX11_blanks, .code yX11_blanks cX11_blanks 1 none] ++ wsX110)
def wsX11_takesNumber : List Cond := .code yX11_takesNumber cX11_takesNumber 4 (some .boolean) :: ([.fieldLink RX11 157 "LandReformModel" "at" "I", .fieldLink RX11 173 "LandReformModel" "number" "I", .fieldLink RX11 160 "LandReformModel" "size" "I", .fieldLink RX11 51 "LandReformModel" "text" "[B", .methodLink RX11 163 yX11_blanks, .instanceMethod yX11_blanks, .selects RX11 yX11_blanks yX11_blanks, .initialized RX11, .code yX11_blanks cX11_blanks 1 none, .methodLink RX11 116 yX11_isIn, .static yX11_isIn, .code yX11_isIn cX11_isIn 3 (some .boolean)] ++ wsX110)
def wsX11_statement_r1 : List Cond := [Cond.constantLong RX11 176 (1936681324), Cond.fieldLink RX11 173 "LandReformModel" "number" "I", Cond.constantLong RX11 186 (26995), Cond.fieldLink RX11 44 "LandReformModel" "told" "[I", Cond.constantLong RX11 188 (111567772151924), Cond.constantLong RX11 190 (27977526159175271), Cond.constantLong RX11 192 (112568633486457), Cond.constantLong RX11 194 (6578553), Cond.constantLong RX11 196 (482955846501), Cond.constantLong RX11 198 (521391927923), Cond.constantLong RX11 200 (126892148680051), Cond.fieldLink RX11 157 "LandReformModel" "at" "I", Cond.fieldLink RX11 160 "LandReformModel" "size" "I", Cond.fieldLink RX11 51 "LandReformModel" "text" "[B", Cond.methodLink RX11 178 yX11_takes, Cond.instanceMethod yX11_takes, Cond.selects RX11 yX11_takes yX11_takes, Cond.initialized RX11, Cond.code yX11_takes cX11_takes 3 (some .boolean), Cond.fieldLink RX11 166 "LandReformModel" "wordEnd" "I", Cond.methodLink RX11 169 yX11_word, Cond.instanceMethod yX11_word, Cond.selects RX11 yX11_word yX11_word, Cond.code yX11_word cX11_word 3 (some .long)]
def wsX11_statement_r2 : List Cond := [Cond.methodLink RX11 163 yX11_blanks, Cond.instanceMethod yX11_blanks, Cond.selects RX11 yX11_blanks yX11_blanks, Cond.code yX11_blanks cX11_blanks 1 none, Cond.methodLink RX11 182 yX11_takesNumber, Cond.instanceMethod yX11_takesNumber, Cond.selects RX11 yX11_takesNumber yX11_takesNumber, Cond.code yX11_takesNumber cX11_takesNumber 4 (some .boolean), Cond.methodLink RX11 116 yX11_isIn, Cond.static yX11_isIn, Cond.code yX11_isIn cX11_isIn 3 (some .boolean)]
def wsX11_statement : List Cond := .code yX11_statement cX11_statement 2 (some .boolean) :: ((wsX11_statement_r1 ++ wsX11_statement_r2) ++ wsX110)
def wsX11_act_r1 : List Cond := [Cond.fieldLink RX11 151 "LandReformModel" "taped" "I", Cond.fieldLink RX11 51 "LandReformModel" "text" "[B", Cond.fieldLink RX11 47 "LandReformModel" "tape" "[B", Cond.fieldLink RX11 160 "LandReformModel" "size" "I", Cond.fieldLink RX11 157 "LandReformModel" "at" "I", Cond.fieldLink RX11 54 "LandReformModel" "fault" "I", Cond.fieldLink RX11 44 "LandReformModel" "told" "[I", Cond.fieldLink RX11 206 "LandReformModel" "many" "I", Cond.methodLink RX11 116 yX11_isIn, Cond.static yX11_isIn, Cond.initialized RX11, Cond.code yX11_isIn cX11_isIn 3 (some .boolean), Cond.methodLink RX11 109 yX11_begins, Cond.instanceMethod yX11_begins, Cond.selects RX11 yX11_begins yX11_begins, Cond.code yX11_begins cX11_begins 3 none, Cond.methodLink RX11 163 yX11_blanks, Cond.instanceMethod yX11_blanks, Cond.selects RX11 yX11_blanks yX11_blanks, Cond.code yX11_blanks cX11_blanks 1 none, Cond.methodLink RX11 202 yX11_statement, Cond.instanceMethod yX11_statement, Cond.selects RX11 yX11_statement yX11_statement, Cond.code yX11_statement cX11_statement 2 (some .boolean)]
def wsX11_act_r2 : List Cond := [Cond.constantLong RX11 176 (1936681324), Cond.fieldLink RX11 173 "LandReformModel" "number" "I", Cond.constantLong RX11 186 (26995), Cond.constantLong RX11 188 (111567772151924), Cond.constantLong RX11 190 (27977526159175271), Cond.constantLong RX11 192 (112568633486457), Cond.constantLong RX11 194 (6578553), Cond.constantLong RX11 196 (482955846501), Cond.constantLong RX11 198 (521391927923), Cond.constantLong RX11 200 (126892148680051), Cond.methodLink RX11 178 yX11_takes, Cond.instanceMethod yX11_takes, Cond.selects RX11 yX11_takes yX11_takes, Cond.code yX11_takes cX11_takes 3 (some .boolean), Cond.fieldLink RX11 166 "LandReformModel" "wordEnd" "I", Cond.methodLink RX11 169 yX11_word, Cond.instanceMethod yX11_word, Cond.selects RX11 yX11_word yX11_word, Cond.code yX11_word cX11_word 3 (some .long), Cond.methodLink RX11 182 yX11_takesNumber, Cond.instanceMethod yX11_takesNumber, Cond.selects RX11 yX11_takesNumber yX11_takesNumber, Cond.code yX11_takesNumber cX11_takesNumber 4 (some .boolean)]
def wsX11_act : List Cond := .code yX11_act cX11_act 5 (some .int) :: ((wsX11_act_r1 ++ wsX11_act_r2) ++ wsX110)
def wsX11_fault : List Cond := .code yX11_fault cX11_fault 1 (some .int) :: ([.fieldLink RX11 54 "LandReformModel" "fault" "I"] ++ wsX110)
def wsX11_standard : List Cond := .code yX11_standard cX11_standard 2 (some .int) :: ([.fieldLink RX11 23 "LandReformModel" "area" "[I", .fieldLink RX11 44 "LandReformModel" "told" "[I", .fieldLink RX11 26 "LandReformModel" "soil" "[I"] ++ wsX110)
def wsX11_isExempt : List Cond := .code yX11_isExempt cX11_isExempt 2 (some .boolean) :: ([.fieldLink RX11 44 "LandReformModel" "told" "[I", .fieldLink RX11 29 "LandReformModel" "crop" "[I"] ++ wsX110)
def wsX11_counted : List Cond := .code yX11_counted cX11_counted 5 (some .int) :: ([.fieldLink RX11 44 "LandReformModel" "told" "[I", .fieldLink RX11 133 "LandReformModel" "transfers" "I", .fieldLink RX11 35 "LandReformModel" "transferred" "[I", .fieldLink RX11 41 "LandReformModel" "goesOn" "[I", .fieldLink RX11 38 "LandReformModel" "goesTo" "[I", .fieldLink RX11 7 "LandReformModel" "house" "[I", .fieldLink RX11 16 "LandReformModel" "isAkin" "[Z", .methodLink RX11 136 yX11_ownerOn, .instanceMethod yX11_ownerOn, .selects RX11 yX11_ownerOn yX11_ownerOn, .initialized RX11, .code yX11_ownerOn cX11_ownerOn 5 (some .int), .fieldLink RX11 32 "LandReformModel" "firstOwner" "[I"] ++ wsX110)
def wsX11_transfersOf : List Cond := .code yX11_transfersOf cX11_transfersOf 4 (some .int) :: ([.fieldLink RX11 133 "LandReformModel" "transfers" "I", .fieldLink RX11 35 "LandReformModel" "transferred" "[I", .methodLink RX11 209 yX11_one, .static yX11_one, .initialized RX11, .code yX11_one cX11_one 1 (some .int)] ++ wsX110)
def wsX11_bits : List Cond := .code yX11_bits cX11_bits 3 (some .int) :: ([])
def wsX11_tenant : List Cond := .code yX11_tenant cX11_tenant 7 (some .int) :: ([.fieldLink RX11 257 "LandReformModel" "pairs" "I", .fieldLink RX11 67 "LandReformModel" "pairYears" "[I", .fieldLink RX11 61 "LandReformModel" "pairField" "[I", .fieldLink RX11 64 "LandReformModel" "pairPerson" "[I", .fieldLink RX11 44 "LandReformModel" "told" "[I", .methodLink RX11 260 yX11_bits, .static yX11_bits, .initialized RX11, .code yX11_bits cX11_bits 3 (some .int), .methodLink RX11 143 yX11_owner, .instanceMethod yX11_owner, .selects RX11 yX11_owner yX11_owner, .code yX11_owner cX11_owner 2 (some .int), .fieldLink RX11 130 "LandReformModel" "today" "I", .methodLink RX11 136 yX11_ownerOn, .instanceMethod yX11_ownerOn, .selects RX11 yX11_ownerOn yX11_ownerOn, .code yX11_ownerOn cX11_ownerOn 5 (some .int), .fieldLink RX11 32 "LandReformModel" "firstOwner" "[I", .fieldLink RX11 133 "LandReformModel" "transfers" "I", .fieldLink RX11 35 "LandReformModel" "transferred" "[I", .fieldLink RX11 41 "LandReformModel" "goesOn" "[I", .fieldLink RX11 38 "LandReformModel" "goesTo" "[I"] ++ wsX110)
def wsX11_told_r1 : List Cond := [Cond.fieldLink RX11 20 "LandReformModel" "place" "[I", Cond.fieldLink RX11 23 "LandReformModel" "area" "[I", Cond.fieldLink RX11 26 "LandReformModel" "soil" "[I", Cond.fieldLink RX11 29 "LandReformModel" "crop" "[I", Cond.methodLink RX11 140 yX11_isField, Cond.instanceMethod yX11_isField, Cond.selects RX11 yX11_isField yX11_isField, Cond.initialized RX11, Cond.code yX11_isField cX11_isField 2 (some .boolean), Cond.fieldLink RX11 120 "LandReformModel" "fields" "I", Cond.methodLink RX11 116 yX11_isIn, Cond.static yX11_isIn, Cond.code yX11_isIn cX11_isIn 3 (some .boolean), Cond.methodLink RX11 143 yX11_owner, Cond.instanceMethod yX11_owner, Cond.selects RX11 yX11_owner yX11_owner, Cond.code yX11_owner cX11_owner 2 (some .int), Cond.fieldLink RX11 130 "LandReformModel" "today" "I", Cond.methodLink RX11 136 yX11_ownerOn, Cond.instanceMethod yX11_ownerOn, Cond.selects RX11 yX11_ownerOn yX11_ownerOn, Cond.code yX11_ownerOn cX11_ownerOn 5 (some .int), Cond.fieldLink RX11 32 "LandReformModel" "firstOwner" "[I", Cond.fieldLink RX11 133 "LandReformModel" "transfers" "I"]
def wsX11_told_r2 : List Cond := [Cond.fieldLink RX11 35 "LandReformModel" "transferred" "[I", Cond.fieldLink RX11 41 "LandReformModel" "goesOn" "[I", Cond.fieldLink RX11 38 "LandReformModel" "goesTo" "[I", Cond.methodLink RX11 213 yX11_standard, Cond.instanceMethod yX11_standard, Cond.selects RX11 yX11_standard yX11_standard, Cond.code yX11_standard cX11_standard 2 (some .int), Cond.fieldLink RX11 44 "LandReformModel" "told" "[I", Cond.methodLink RX11 216 yX11_counted, Cond.instanceMethod yX11_counted, Cond.selects RX11 yX11_counted yX11_counted, Cond.code yX11_counted cX11_counted 5 (some .int), Cond.fieldLink RX11 7 "LandReformModel" "house" "[I", Cond.fieldLink RX11 16 "LandReformModel" "isAkin" "[Z", Cond.methodLink RX11 219 yX11_tenant, Cond.instanceMethod yX11_tenant, Cond.selects RX11 yX11_tenant yX11_tenant, Cond.code yX11_tenant cX11_tenant 7 (some .int), Cond.fieldLink RX11 257 "LandReformModel" "pairs" "I", Cond.fieldLink RX11 67 "LandReformModel" "pairYears" "[I", Cond.fieldLink RX11 61 "LandReformModel" "pairField" "[I", Cond.fieldLink RX11 64 "LandReformModel" "pairPerson" "[I", Cond.methodLink RX11 260 yX11_bits, Cond.static yX11_bits]
def wsX11_told_r3 : List Cond := [Cond.code yX11_bits cX11_bits 3 (some .int), Cond.methodLink RX11 222 yX11_isExempt, Cond.instanceMethod yX11_isExempt, Cond.selects RX11 yX11_isExempt yX11_isExempt, Cond.code yX11_isExempt cX11_isExempt 2 (some .boolean), Cond.methodLink RX11 209 yX11_one, Cond.static yX11_one, Cond.code yX11_one cX11_one 1 (some .int), Cond.methodLink RX11 225 yX11_transfersOf, Cond.instanceMethod yX11_transfersOf, Cond.selects RX11 yX11_transfersOf yX11_transfersOf, Cond.code yX11_transfersOf cX11_transfersOf 4 (some .int)]
def wsX11_told : List Cond := .code yX11_told cX11_told 3 (some .int) :: ((wsX11_told_r1 ++ (wsX11_told_r2 ++ wsX11_told_r3)) ++ wsX110)
def wsX11_counts : List Cond := .code yX11_counts cX11_counts 4 (some .int) :: ([.fieldLink RX11 120 "LandReformModel" "fields" "I", .fieldLink RX11 7 "LandReformModel" "house" "[I", .fieldLink RX11 58 "LandReformModel" "row" "[I", .methodLink RX11 222 yX11_isExempt, .instanceMethod yX11_isExempt, .selects RX11 yX11_isExempt yX11_isExempt, .initialized RX11, .code yX11_isExempt cX11_isExempt 2 (some .boolean), .fieldLink RX11 44 "LandReformModel" "told" "[I", .fieldLink RX11 29 "LandReformModel" "crop" "[I", .methodLink RX11 216 yX11_counted, .instanceMethod yX11_counted, .selects RX11 yX11_counted yX11_counted, .code yX11_counted cX11_counted 5 (some .int), .fieldLink RX11 133 "LandReformModel" "transfers" "I", .fieldLink RX11 35 "LandReformModel" "transferred" "[I", .fieldLink RX11 41 "LandReformModel" "goesOn" "[I", .fieldLink RX11 38 "LandReformModel" "goesTo" "[I", .fieldLink RX11 16 "LandReformModel" "isAkin" "[Z", .methodLink RX11 136 yX11_ownerOn, .instanceMethod yX11_ownerOn, .selects RX11 yX11_ownerOn yX11_ownerOn, .code yX11_ownerOn cX11_ownerOn 5 (some .int), .fieldLink RX11 32 "LandReformModel" "firstOwner" "[I"] ++ wsX110)
def wsX11_peopleOf : List Cond := .code yX11_peopleOf cX11_peopleOf 4 (some .int) :: ([.fieldLink RX11 113 "LandReformModel" "persons" "I", .fieldLink RX11 7 "LandReformModel" "house" "[I", .methodLink RX11 209 yX11_one, .static yX11_one, .initialized RX11, .code yX11_one cX11_one 1 (some .int)] ++ wsX110)
def wsX11_holding_r1 : List Cond := [Cond.fieldLink RX11 58 "LandReformModel" "row" "[I", Cond.methodLink RX11 228 yX11_counts, Cond.instanceMethod yX11_counts, Cond.selects RX11 yX11_counts yX11_counts, Cond.initialized RX11, Cond.code yX11_counts cX11_counts 4 (some .int), Cond.fieldLink RX11 120 "LandReformModel" "fields" "I", Cond.fieldLink RX11 7 "LandReformModel" "house" "[I", Cond.methodLink RX11 222 yX11_isExempt, Cond.instanceMethod yX11_isExempt, Cond.selects RX11 yX11_isExempt yX11_isExempt, Cond.code yX11_isExempt cX11_isExempt 2 (some .boolean), Cond.fieldLink RX11 44 "LandReformModel" "told" "[I", Cond.fieldLink RX11 29 "LandReformModel" "crop" "[I", Cond.methodLink RX11 216 yX11_counted, Cond.instanceMethod yX11_counted, Cond.selects RX11 yX11_counted yX11_counted, Cond.code yX11_counted cX11_counted 5 (some .int), Cond.fieldLink RX11 133 "LandReformModel" "transfers" "I", Cond.fieldLink RX11 35 "LandReformModel" "transferred" "[I", Cond.fieldLink RX11 41 "LandReformModel" "goesOn" "[I", Cond.fieldLink RX11 38 "LandReformModel" "goesTo" "[I", Cond.fieldLink RX11 16 "LandReformModel" "isAkin" "[Z", Cond.methodLink RX11 136 yX11_ownerOn]
def wsX11_holding_r2 : List Cond := [Cond.instanceMethod yX11_ownerOn, Cond.selects RX11 yX11_ownerOn yX11_ownerOn, Cond.code yX11_ownerOn cX11_ownerOn 5 (some .int), Cond.fieldLink RX11 32 "LandReformModel" "firstOwner" "[I", Cond.methodLink RX11 213 yX11_standard, Cond.instanceMethod yX11_standard, Cond.selects RX11 yX11_standard yX11_standard, Cond.code yX11_standard cX11_standard 2 (some .int), Cond.fieldLink RX11 23 "LandReformModel" "area" "[I", Cond.fieldLink RX11 26 "LandReformModel" "soil" "[I"]
def wsX11_holding : List Cond := .code yX11_holding cX11_holding 5 (some .int) :: ((wsX11_holding_r1 ++ wsX11_holding_r2) ++ wsX110)
def wsX11_mayHave : List Cond := .code yX11_mayHave cX11_mayHave 2 (some .int) :: ([.fieldLink RX11 44 "LandReformModel" "told" "[I", .methodLink RX11 234 Lib.Math.max.name, .static Lib.Math.max.name, .initialized "java/lang/Math", .code Lib.Math.max.name Lib.Math.max.code 2 (some .int), .methodLink RX11 231 yX11_peopleOf, .instanceMethod yX11_peopleOf, .selects RX11 yX11_peopleOf yX11_peopleOf, .initialized RX11, .code yX11_peopleOf cX11_peopleOf 4 (some .int), .fieldLink RX11 113 "LandReformModel" "persons" "I", .fieldLink RX11 7 "LandReformModel" "house" "[I", .methodLink RX11 209 yX11_one, .static yX11_one, .code yX11_one cX11_one 1 (some .int)] ++ wsX110)
def wsX11_isHouse : List Cond := .code yX11_isHouse cX11_isHouse 1 (some .boolean) :: ([.methodLink RX11 116 yX11_isIn, .static yX11_isIn, .initialized RX11, .code yX11_isIn cX11_isIn 3 (some .boolean)])
def wsX11_house_r1 : List Cond := [Cond.methodLink RX11 234 Lib.Math.max.name, Cond.static Lib.Math.max.name, Cond.initialized "java/lang/Math", Cond.code Lib.Math.max.name Lib.Math.max.code 2 (some .int), Cond.methodLink RX11 239 yX11_isHouse, Cond.static yX11_isHouse, Cond.initialized RX11, Cond.code yX11_isHouse cX11_isHouse 1 (some .boolean), Cond.methodLink RX11 116 yX11_isIn, Cond.static yX11_isIn, Cond.code yX11_isIn cX11_isIn 3 (some .boolean), Cond.methodLink RX11 231 yX11_peopleOf, Cond.instanceMethod yX11_peopleOf, Cond.selects RX11 yX11_peopleOf yX11_peopleOf, Cond.code yX11_peopleOf cX11_peopleOf 4 (some .int), Cond.fieldLink RX11 113 "LandReformModel" "persons" "I", Cond.fieldLink RX11 7 "LandReformModel" "house" "[I", Cond.methodLink RX11 209 yX11_one, Cond.static yX11_one, Cond.code yX11_one cX11_one 1 (some .int), Cond.methodLink RX11 242 yX11_holding, Cond.instanceMethod yX11_holding, Cond.selects RX11 yX11_holding yX11_holding, Cond.code yX11_holding cX11_holding 5 (some .int)]
def wsX11_house_r2 : List Cond := [Cond.fieldLink RX11 58 "LandReformModel" "row" "[I", Cond.methodLink RX11 228 yX11_counts, Cond.instanceMethod yX11_counts, Cond.selects RX11 yX11_counts yX11_counts, Cond.code yX11_counts cX11_counts 4 (some .int), Cond.fieldLink RX11 120 "LandReformModel" "fields" "I", Cond.methodLink RX11 222 yX11_isExempt, Cond.instanceMethod yX11_isExempt, Cond.selects RX11 yX11_isExempt yX11_isExempt, Cond.code yX11_isExempt cX11_isExempt 2 (some .boolean), Cond.fieldLink RX11 44 "LandReformModel" "told" "[I", Cond.fieldLink RX11 29 "LandReformModel" "crop" "[I", Cond.methodLink RX11 216 yX11_counted, Cond.instanceMethod yX11_counted, Cond.selects RX11 yX11_counted yX11_counted, Cond.code yX11_counted cX11_counted 5 (some .int), Cond.fieldLink RX11 133 "LandReformModel" "transfers" "I", Cond.fieldLink RX11 35 "LandReformModel" "transferred" "[I", Cond.fieldLink RX11 41 "LandReformModel" "goesOn" "[I", Cond.fieldLink RX11 38 "LandReformModel" "goesTo" "[I", Cond.fieldLink RX11 16 "LandReformModel" "isAkin" "[Z", Cond.methodLink RX11 136 yX11_ownerOn, Cond.instanceMethod yX11_ownerOn, Cond.selects RX11 yX11_ownerOn yX11_ownerOn]
def wsX11_house_r3 : List Cond := [Cond.code yX11_ownerOn cX11_ownerOn 5 (some .int), Cond.fieldLink RX11 32 "LandReformModel" "firstOwner" "[I", Cond.methodLink RX11 213 yX11_standard, Cond.instanceMethod yX11_standard, Cond.selects RX11 yX11_standard yX11_standard, Cond.code yX11_standard cX11_standard 2 (some .int), Cond.fieldLink RX11 23 "LandReformModel" "area" "[I", Cond.fieldLink RX11 26 "LandReformModel" "soil" "[I", Cond.methodLink RX11 245 yX11_mayHave, Cond.instanceMethod yX11_mayHave, Cond.selects RX11 yX11_mayHave yX11_mayHave, Cond.code yX11_mayHave cX11_mayHave 2 (some .int)]
def wsX11_house : List Cond := .code yX11_house cX11_house 3 (some .int) :: ((wsX11_house_r1 ++ (wsX11_house_r2 ++ wsX11_house_r3)) ++ wsX110)
def wsX11_keeps : List Cond := .code yX11_keeps cX11_keeps 7 none :: ([.fieldLink RX11 248 "LandReformModel" "bestSet" "I", .fieldLink RX11 251 "LandReformModel" "bestArea" "I", .fieldLink RX11 58 "LandReformModel" "row" "[I", .fieldLink RX11 23 "LandReformModel" "area" "[I", .methodLink RX11 213 yX11_standard, .instanceMethod yX11_standard, .selects RX11 yX11_standard yX11_standard, .initialized RX11, .code yX11_standard cX11_standard 2 (some .int), .fieldLink RX11 44 "LandReformModel" "told" "[I", .fieldLink RX11 26 "LandReformModel" "soil" "[I"] ++ wsX110)
def wsX11_kept_r1 : List Cond := [Cond.fieldLink RX11 251 "LandReformModel" "bestArea" "I", Cond.fieldLink RX11 248 "LandReformModel" "bestSet" "I", Cond.methodLink RX11 239 yX11_isHouse, Cond.static yX11_isHouse, Cond.initialized RX11, Cond.code yX11_isHouse cX11_isHouse 1 (some .boolean), Cond.methodLink RX11 116 yX11_isIn, Cond.static yX11_isIn, Cond.code yX11_isIn cX11_isIn 3 (some .boolean), Cond.methodLink RX11 228 yX11_counts, Cond.instanceMethod yX11_counts, Cond.selects RX11 yX11_counts yX11_counts, Cond.code yX11_counts cX11_counts 4 (some .int), Cond.fieldLink RX11 120 "LandReformModel" "fields" "I", Cond.fieldLink RX11 7 "LandReformModel" "house" "[I", Cond.fieldLink RX11 58 "LandReformModel" "row" "[I", Cond.methodLink RX11 222 yX11_isExempt, Cond.instanceMethod yX11_isExempt, Cond.selects RX11 yX11_isExempt yX11_isExempt, Cond.code yX11_isExempt cX11_isExempt 2 (some .boolean), Cond.fieldLink RX11 44 "LandReformModel" "told" "[I", Cond.fieldLink RX11 29 "LandReformModel" "crop" "[I", Cond.methodLink RX11 216 yX11_counted, Cond.instanceMethod yX11_counted]
def wsX11_kept_r2 : List Cond := [Cond.selects RX11 yX11_counted yX11_counted, Cond.code yX11_counted cX11_counted 5 (some .int), Cond.fieldLink RX11 133 "LandReformModel" "transfers" "I", Cond.fieldLink RX11 35 "LandReformModel" "transferred" "[I", Cond.fieldLink RX11 41 "LandReformModel" "goesOn" "[I", Cond.fieldLink RX11 38 "LandReformModel" "goesTo" "[I", Cond.fieldLink RX11 16 "LandReformModel" "isAkin" "[Z", Cond.methodLink RX11 136 yX11_ownerOn, Cond.instanceMethod yX11_ownerOn, Cond.selects RX11 yX11_ownerOn yX11_ownerOn, Cond.code yX11_ownerOn cX11_ownerOn 5 (some .int), Cond.fieldLink RX11 32 "LandReformModel" "firstOwner" "[I", Cond.methodLink RX11 245 yX11_mayHave, Cond.instanceMethod yX11_mayHave, Cond.selects RX11 yX11_mayHave yX11_mayHave, Cond.code yX11_mayHave cX11_mayHave 2 (some .int), Cond.methodLink RX11 234 Lib.Math.max.name, Cond.static Lib.Math.max.name, Cond.initialized "java/lang/Math", Cond.code Lib.Math.max.name Lib.Math.max.code 2 (some .int), Cond.methodLink RX11 231 yX11_peopleOf, Cond.instanceMethod yX11_peopleOf, Cond.selects RX11 yX11_peopleOf yX11_peopleOf, Cond.code yX11_peopleOf cX11_peopleOf 4 (some .int)]
def wsX11_kept_r3 : List Cond := [Cond.fieldLink RX11 113 "LandReformModel" "persons" "I", Cond.methodLink RX11 209 yX11_one, Cond.static yX11_one, Cond.code yX11_one cX11_one 1 (some .int), Cond.methodLink RX11 254 yX11_keeps, Cond.instanceMethod yX11_keeps, Cond.selects RX11 yX11_keeps yX11_keeps, Cond.code yX11_keeps cX11_keeps 7 none, Cond.fieldLink RX11 23 "LandReformModel" "area" "[I", Cond.methodLink RX11 213 yX11_standard, Cond.instanceMethod yX11_standard, Cond.selects RX11 yX11_standard yX11_standard, Cond.code yX11_standard cX11_standard 2 (some .int), Cond.fieldLink RX11 26 "LandReformModel" "soil" "[I"]
def wsX11_kept : List Cond := .code yX11_kept cX11_kept 4 (some .int) :: ((wsX11_kept_r1 ++ (wsX11_kept_r2 ++ wsX11_kept_r3)) ++ wsX110)
def wsX11_taken_r1 : List Cond := [Cond.fieldLink RX11 248 "LandReformModel" "bestSet" "I", Cond.fieldLink RX11 58 "LandReformModel" "row" "[I", Cond.methodLink RX11 239 yX11_isHouse, Cond.static yX11_isHouse, Cond.initialized RX11, Cond.code yX11_isHouse cX11_isHouse 1 (some .boolean), Cond.methodLink RX11 116 yX11_isIn, Cond.static yX11_isIn, Cond.code yX11_isIn cX11_isIn 3 (some .boolean), Cond.methodLink RX11 242 yX11_holding, Cond.instanceMethod yX11_holding, Cond.selects RX11 yX11_holding yX11_holding, Cond.code yX11_holding cX11_holding 5 (some .int), Cond.methodLink RX11 228 yX11_counts, Cond.instanceMethod yX11_counts, Cond.selects RX11 yX11_counts yX11_counts, Cond.code yX11_counts cX11_counts 4 (some .int), Cond.fieldLink RX11 120 "LandReformModel" "fields" "I", Cond.fieldLink RX11 7 "LandReformModel" "house" "[I", Cond.methodLink RX11 222 yX11_isExempt, Cond.instanceMethod yX11_isExempt, Cond.selects RX11 yX11_isExempt yX11_isExempt, Cond.code yX11_isExempt cX11_isExempt 2 (some .boolean), Cond.fieldLink RX11 44 "LandReformModel" "told" "[I"]
def wsX11_taken_r2 : List Cond := [Cond.fieldLink RX11 29 "LandReformModel" "crop" "[I", Cond.methodLink RX11 216 yX11_counted, Cond.instanceMethod yX11_counted, Cond.selects RX11 yX11_counted yX11_counted, Cond.code yX11_counted cX11_counted 5 (some .int), Cond.fieldLink RX11 133 "LandReformModel" "transfers" "I", Cond.fieldLink RX11 35 "LandReformModel" "transferred" "[I", Cond.fieldLink RX11 41 "LandReformModel" "goesOn" "[I", Cond.fieldLink RX11 38 "LandReformModel" "goesTo" "[I", Cond.fieldLink RX11 16 "LandReformModel" "isAkin" "[Z", Cond.methodLink RX11 136 yX11_ownerOn, Cond.instanceMethod yX11_ownerOn, Cond.selects RX11 yX11_ownerOn yX11_ownerOn, Cond.code yX11_ownerOn cX11_ownerOn 5 (some .int), Cond.fieldLink RX11 32 "LandReformModel" "firstOwner" "[I", Cond.methodLink RX11 213 yX11_standard, Cond.instanceMethod yX11_standard, Cond.selects RX11 yX11_standard yX11_standard, Cond.code yX11_standard cX11_standard 2 (some .int), Cond.fieldLink RX11 23 "LandReformModel" "area" "[I", Cond.fieldLink RX11 26 "LandReformModel" "soil" "[I", Cond.methodLink RX11 245 yX11_mayHave, Cond.instanceMethod yX11_mayHave, Cond.selects RX11 yX11_mayHave yX11_mayHave]
def wsX11_taken_r3 : List Cond := [Cond.code yX11_mayHave cX11_mayHave 2 (some .int), Cond.methodLink RX11 234 Lib.Math.max.name, Cond.static Lib.Math.max.name, Cond.initialized "java/lang/Math", Cond.code Lib.Math.max.name Lib.Math.max.code 2 (some .int), Cond.methodLink RX11 231 yX11_peopleOf, Cond.instanceMethod yX11_peopleOf, Cond.selects RX11 yX11_peopleOf yX11_peopleOf, Cond.code yX11_peopleOf cX11_peopleOf 4 (some .int), Cond.fieldLink RX11 113 "LandReformModel" "persons" "I", Cond.methodLink RX11 209 yX11_one, Cond.static yX11_one, Cond.code yX11_one cX11_one 1 (some .int), Cond.methodLink RX11 254 yX11_keeps, Cond.instanceMethod yX11_keeps, Cond.selects RX11 yX11_keeps yX11_keeps, Cond.code yX11_keeps cX11_keeps 7 none, Cond.fieldLink RX11 251 "LandReformModel" "bestArea" "I"]
def wsX11_taken : List Cond := .code yX11_taken cX11_taken 6 (some .int) :: ((wsX11_taken_r1 ++ (wsX11_taken_r2 ++ wsX11_taken_r3)) ++ wsX110)
def wsX11_share : List Cond := .code yX11_share cX11_share 5 (some .int) :: ([.fieldLink RX11 257 "LandReformModel" "pairs" "I", .fieldLink RX11 61 "LandReformModel" "pairField" "[I", .fieldLink RX11 64 "LandReformModel" "pairPerson" "[I", .fieldLink RX11 67 "LandReformModel" "pairYears" "[I", .methodLink RX11 140 yX11_isField, .instanceMethod yX11_isField, .selects RX11 yX11_isField yX11_isField, .initialized RX11, .code yX11_isField cX11_isField 2 (some .boolean), .fieldLink RX11 120 "LandReformModel" "fields" "I", .methodLink RX11 116 yX11_isIn, .static yX11_isIn, .code yX11_isIn cX11_isIn 3 (some .boolean), .methodLink RX11 123 yX11_isPerson, .instanceMethod yX11_isPerson, .selects RX11 yX11_isPerson yX11_isPerson, .code yX11_isPerson cX11_isPerson 2 (some .boolean), .fieldLink RX11 113 "LandReformModel" "persons" "I", .methodLink RX11 260 yX11_bits, .static yX11_bits, .code yX11_bits cX11_bits 3 (some .int)] ++ wsX110)
def wsX11_given : List Cond := .code yX11_given cX11_given 12 (some .int) :: ([.fieldLink RX11 120 "LandReformModel" "fields" "I", .fieldLink RX11 113 "LandReformModel" "persons" "I", .fieldLink RX11 70 "LandReformModel" "way" "[I", .fieldLink RX11 13 "LandReformModel" "home" "[I", .fieldLink RX11 20 "LandReformModel" "place" "[I", .methodLink RX11 263 Lib.Math.abs.name, .static Lib.Math.abs.name, .initialized "java/lang/Math", .code Lib.Math.abs.name Lib.Math.abs.code 1 (some .int), .fieldLink RX11 73 "LandReformModel" "bestWay" "[I", .methodLink RX11 116 yX11_isIn, .static yX11_isIn, .initialized RX11, .code yX11_isIn cX11_isIn 3 (some .boolean)] ++ wsX110)
def wsX11_firstOf : List Cond := .code yX11_firstOf cX11_firstOf 3 (some .int) :: ([.fieldLink RX11 120 "LandReformModel" "fields" "I", .methodLink RX11 143 yX11_owner, .instanceMethod yX11_owner, .selects RX11 yX11_owner yX11_owner, .initialized RX11, .code yX11_owner cX11_owner 2 (some .int), .fieldLink RX11 130 "LandReformModel" "today" "I", .methodLink RX11 136 yX11_ownerOn, .instanceMethod yX11_ownerOn, .selects RX11 yX11_ownerOn yX11_ownerOn, .code yX11_ownerOn cX11_ownerOn 5 (some .int), .fieldLink RX11 32 "LandReformModel" "firstOwner" "[I", .fieldLink RX11 133 "LandReformModel" "transfers" "I", .fieldLink RX11 35 "LandReformModel" "transferred" "[I", .fieldLink RX11 41 "LandReformModel" "goesOn" "[I", .fieldLink RX11 38 "LandReformModel" "goesTo" "[I"] ++ wsX110)
def wsX11_wanted : List Cond := .code yX11_wanted cX11_wanted 6 (some .int) :: ([.fieldLink RX11 79 "LandReformModel" "gets" "[I", .fieldLink RX11 20 "LandReformModel" "place" "[I", .fieldLink RX11 76 "LandReformModel" "has" "[I", .methodLink RX11 263 Lib.Math.abs.name, .static Lib.Math.abs.name, .initialized "java/lang/Math", .code Lib.Math.abs.name Lib.Math.abs.code 1 (some .int)] ++ wsX110)
def wsX11_turns_r1 : List Cond := [Cond.fieldLink RX11 76 "LandReformModel" "has" "[I", Cond.fieldLink RX11 79 "LandReformModel" "gets" "[I", Cond.fieldLink RX11 82 "LandReformModel" "points" "[I", Cond.fieldLink RX11 13 "LandReformModel" "home" "[I", Cond.methodLink RX11 266 yX11_firstOf, Cond.instanceMethod yX11_firstOf, Cond.selects RX11 yX11_firstOf yX11_firstOf, Cond.initialized RX11, Cond.code yX11_firstOf cX11_firstOf 3 (some .int), Cond.fieldLink RX11 120 "LandReformModel" "fields" "I", Cond.methodLink RX11 143 yX11_owner, Cond.instanceMethod yX11_owner, Cond.selects RX11 yX11_owner yX11_owner, Cond.code yX11_owner cX11_owner 2 (some .int), Cond.fieldLink RX11 130 "LandReformModel" "today" "I", Cond.methodLink RX11 136 yX11_ownerOn, Cond.instanceMethod yX11_ownerOn, Cond.selects RX11 yX11_ownerOn yX11_ownerOn, Cond.code yX11_ownerOn cX11_ownerOn 5 (some .int), Cond.fieldLink RX11 32 "LandReformModel" "firstOwner" "[I", Cond.fieldLink RX11 133 "LandReformModel" "transfers" "I", Cond.fieldLink RX11 35 "LandReformModel" "transferred" "[I", Cond.fieldLink RX11 41 "LandReformModel" "goesOn" "[I", Cond.fieldLink RX11 38 "LandReformModel" "goesTo" "[I"]
def wsX11_turns_r2 : List Cond := [Cond.methodLink RX11 269 yX11_wanted, Cond.instanceMethod yX11_wanted, Cond.selects RX11 yX11_wanted yX11_wanted, Cond.code yX11_wanted cX11_wanted 6 (some .int), Cond.fieldLink RX11 20 "LandReformModel" "place" "[I", Cond.methodLink RX11 263 Lib.Math.abs.name, Cond.static Lib.Math.abs.name, Cond.initialized "java/lang/Math", Cond.code Lib.Math.abs.name Lib.Math.abs.code 1 (some .int)]
def wsX11_turns : List Cond := .code yX11_turns cX11_turns 7 (some .int) :: ((wsX11_turns_r1 ++ wsX11_turns_r2) ++ wsX110)
def wsX11_isRow : List Cond := .code yX11_isRow cX11_isRow 3 (some .boolean) :: ([.fieldLink RX11 113 "LandReformModel" "persons" "I", .methodLink RX11 116 yX11_isIn, .static yX11_isIn, .initialized RX11, .code yX11_isIn cX11_isIn 3 (some .boolean)] ++ wsX110)
def wsX11_rings_r1 : List Cond := [Cond.fieldLink RX11 79 "LandReformModel" "gets" "[I", Cond.methodLink RX11 272 yX11_isRow, Cond.instanceMethod yX11_isRow, Cond.selects RX11 yX11_isRow yX11_isRow, Cond.initialized RX11, Cond.code yX11_isRow cX11_isRow 3 (some .boolean), Cond.fieldLink RX11 113 "LandReformModel" "persons" "I", Cond.methodLink RX11 116 yX11_isIn, Cond.static yX11_isIn, Cond.code yX11_isIn cX11_isIn 3 (some .boolean), Cond.methodLink RX11 275 yX11_turns, Cond.instanceMethod yX11_turns, Cond.selects RX11 yX11_turns yX11_turns, Cond.code yX11_turns cX11_turns 7 (some .int), Cond.fieldLink RX11 76 "LandReformModel" "has" "[I", Cond.fieldLink RX11 82 "LandReformModel" "points" "[I", Cond.fieldLink RX11 13 "LandReformModel" "home" "[I", Cond.methodLink RX11 266 yX11_firstOf, Cond.instanceMethod yX11_firstOf, Cond.selects RX11 yX11_firstOf yX11_firstOf, Cond.code yX11_firstOf cX11_firstOf 3 (some .int), Cond.fieldLink RX11 120 "LandReformModel" "fields" "I", Cond.methodLink RX11 143 yX11_owner, Cond.instanceMethod yX11_owner]
def wsX11_rings_r2 : List Cond := [Cond.selects RX11 yX11_owner yX11_owner, Cond.code yX11_owner cX11_owner 2 (some .int), Cond.fieldLink RX11 130 "LandReformModel" "today" "I", Cond.methodLink RX11 136 yX11_ownerOn, Cond.instanceMethod yX11_ownerOn, Cond.selects RX11 yX11_ownerOn yX11_ownerOn, Cond.code yX11_ownerOn cX11_ownerOn 5 (some .int), Cond.fieldLink RX11 32 "LandReformModel" "firstOwner" "[I", Cond.fieldLink RX11 133 "LandReformModel" "transfers" "I", Cond.fieldLink RX11 35 "LandReformModel" "transferred" "[I", Cond.fieldLink RX11 41 "LandReformModel" "goesOn" "[I", Cond.fieldLink RX11 38 "LandReformModel" "goesTo" "[I", Cond.methodLink RX11 269 yX11_wanted, Cond.instanceMethod yX11_wanted, Cond.selects RX11 yX11_wanted yX11_wanted, Cond.code yX11_wanted cX11_wanted 6 (some .int), Cond.fieldLink RX11 20 "LandReformModel" "place" "[I", Cond.methodLink RX11 263 Lib.Math.abs.name, Cond.static Lib.Math.abs.name, Cond.initialized "java/lang/Math", Cond.code Lib.Math.abs.name Lib.Math.abs.code 1 (some .int)]
def wsX11_rings : List Cond := .code yX11_rings cX11_rings 5 (some .int) :: ((wsX11_rings_r1 ++ wsX11_rings_r2) ++ wsX110)
def wsX11_swap_r1 : List Cond := [Cond.fieldLink RX11 79 "LandReformModel" "gets" "[I", Cond.fieldLink RX11 76 "LandReformModel" "has" "[I", Cond.fieldLink RX11 133 "LandReformModel" "transfers" "I", Cond.fieldLink RX11 120 "LandReformModel" "fields" "I", Cond.methodLink RX11 272 yX11_isRow, Cond.instanceMethod yX11_isRow, Cond.selects RX11 yX11_isRow yX11_isRow, Cond.initialized RX11, Cond.code yX11_isRow cX11_isRow 3 (some .boolean), Cond.fieldLink RX11 113 "LandReformModel" "persons" "I", Cond.methodLink RX11 116 yX11_isIn, Cond.static yX11_isIn, Cond.code yX11_isIn cX11_isIn 3 (some .boolean), Cond.methodLink RX11 275 yX11_turns, Cond.instanceMethod yX11_turns, Cond.selects RX11 yX11_turns yX11_turns, Cond.code yX11_turns cX11_turns 7 (some .int), Cond.fieldLink RX11 82 "LandReformModel" "points" "[I", Cond.fieldLink RX11 13 "LandReformModel" "home" "[I", Cond.methodLink RX11 266 yX11_firstOf, Cond.instanceMethod yX11_firstOf, Cond.selects RX11 yX11_firstOf yX11_firstOf, Cond.code yX11_firstOf cX11_firstOf 3 (some .int), Cond.methodLink RX11 143 yX11_owner]
def wsX11_swap_r2 : List Cond := [Cond.instanceMethod yX11_owner, Cond.selects RX11 yX11_owner yX11_owner, Cond.code yX11_owner cX11_owner 2 (some .int), Cond.fieldLink RX11 130 "LandReformModel" "today" "I", Cond.methodLink RX11 136 yX11_ownerOn, Cond.instanceMethod yX11_ownerOn, Cond.selects RX11 yX11_ownerOn yX11_ownerOn, Cond.code yX11_ownerOn cX11_ownerOn 5 (some .int), Cond.fieldLink RX11 32 "LandReformModel" "firstOwner" "[I", Cond.fieldLink RX11 35 "LandReformModel" "transferred" "[I", Cond.fieldLink RX11 41 "LandReformModel" "goesOn" "[I", Cond.fieldLink RX11 38 "LandReformModel" "goesTo" "[I", Cond.methodLink RX11 269 yX11_wanted, Cond.instanceMethod yX11_wanted, Cond.selects RX11 yX11_wanted yX11_wanted, Cond.code yX11_wanted cX11_wanted 6 (some .int), Cond.fieldLink RX11 20 "LandReformModel" "place" "[I", Cond.methodLink RX11 263 Lib.Math.abs.name, Cond.static Lib.Math.abs.name, Cond.initialized "java/lang/Math", Cond.code Lib.Math.abs.name Lib.Math.abs.code 1 (some .int), Cond.methodLink RX11 209 yX11_one, Cond.static yX11_one, Cond.code yX11_one cX11_one 1 (some .int)]
def wsX11_swap_r3 : List Cond := [Cond.methodLink RX11 147 yX11_goes, Cond.instanceMethod yX11_goes, Cond.selects RX11 yX11_goes yX11_goes, Cond.code yX11_goes cX11_goes 3 none]
def wsX11_swap : List Cond := .code yX11_swap cX11_swap 6 (some .int) :: ((wsX11_swap_r1 ++ (wsX11_swap_r2 ++ wsX11_swap_r3)) ++ wsX110)
def wsX11_sell_r1 : List Cond := [Cond.fieldLink RX11 278 "LandReformModel" "sales" "I", Cond.fieldLink RX11 85 "LandReformModel" "saleField" "[I", Cond.fieldLink RX11 88 "LandReformModel" "buyer" "[I", Cond.fieldLink RX11 91 "LandReformModel" "owed" "[I", Cond.fieldLink RX11 44 "LandReformModel" "told" "[I", Cond.fieldLink RX11 94 "LandReformModel" "parts" "[I", Cond.fieldLink RX11 100 "LandReformModel" "left" "[I", Cond.fieldLink RX11 106 "LandReformModel" "restAt" "[I", Cond.methodLink RX11 140 yX11_isField, Cond.instanceMethod yX11_isField, Cond.selects RX11 yX11_isField yX11_isField, Cond.initialized RX11, Cond.code yX11_isField cX11_isField 2 (some .boolean), Cond.fieldLink RX11 120 "LandReformModel" "fields" "I", Cond.methodLink RX11 116 yX11_isIn, Cond.static yX11_isIn, Cond.code yX11_isIn cX11_isIn 3 (some .boolean), Cond.methodLink RX11 123 yX11_isPerson, Cond.instanceMethod yX11_isPerson, Cond.selects RX11 yX11_isPerson yX11_isPerson, Cond.code yX11_isPerson cX11_isPerson 2 (some .boolean), Cond.fieldLink RX11 113 "LandReformModel" "persons" "I", Cond.methodLink RX11 213 yX11_standard, Cond.instanceMethod yX11_standard]
def wsX11_sell_r2 : List Cond := [Cond.selects RX11 yX11_standard yX11_standard, Cond.code yX11_standard cX11_standard 2 (some .int), Cond.fieldLink RX11 23 "LandReformModel" "area" "[I", Cond.fieldLink RX11 26 "LandReformModel" "soil" "[I"]
def wsX11_sell : List Cond := .code yX11_sell cX11_sell 3 (some .int) :: ((wsX11_sell_r1 ++ wsX11_sell_r2) ++ wsX110)
def wsX11_year : List Cond := .code yX11_year cX11_year 6 (some .int) :: ([.fieldLink RX11 278 "LandReformModel" "sales" "I", .fieldLink RX11 100 "LandReformModel" "left" "[I", .fieldLink RX11 106 "LandReformModel" "restAt" "[I", .fieldLink RX11 103 "LandReformModel" "putOff" "[I", .fieldLink RX11 91 "LandReformModel" "owed" "[I", .fieldLink RX11 94 "LandReformModel" "parts" "[I", .fieldLink RX11 97 "LandReformModel" "paid" "[I", .methodLink RX11 116 yX11_isIn, .static yX11_isIn, .initialized RX11, .code yX11_isIn cX11_isIn 3 (some .boolean)] ++ wsX110)
def wsX11_sale : List Cond := .code yX11_sale cX11_sale 3 (some .int) :: ([.fieldLink RX11 278 "LandReformModel" "sales" "I", .fieldLink RX11 85 "LandReformModel" "saleField" "[I", .fieldLink RX11 88 "LandReformModel" "buyer" "[I", .fieldLink RX11 91 "LandReformModel" "owed" "[I", .fieldLink RX11 97 "LandReformModel" "paid" "[I", .fieldLink RX11 100 "LandReformModel" "left" "[I", .fieldLink RX11 103 "LandReformModel" "putOff" "[I", .methodLink RX11 116 yX11_isIn, .static yX11_isIn, .initialized RX11, .code yX11_isIn cX11_isIn 3 (some .boolean)] ++ wsX110)
def wsX11_count : List Cond := .code yX11_count cX11_count 2 (some .int) :: ([.fieldLink RX11 130 "LandReformModel" "today" "I", .fieldLink RX11 113 "LandReformModel" "persons" "I", .fieldLink RX11 120 "LandReformModel" "fields" "I", .fieldLink RX11 133 "LandReformModel" "transfers" "I", .fieldLink RX11 206 "LandReformModel" "many" "I", .fieldLink RX11 278 "LandReformModel" "sales" "I", .fieldLink RX11 151 "LandReformModel" "taped" "I", .fieldLink RX11 127 "LandReformModel" "kin" "I"] ++ wsX110)
def wsJ9_abs_0f7a4 : List Cond := .code yJ9_abs_0f7a4 cJ9_abs_0f7a4 1 (some .int) :: ([])
def wsJ9_max_7cf53 : List Cond := .code yJ9_max_7cf53 cJ9_max_7cf53 2 (some .int) :: ([])
def wsJ9_min_7cf53 : List Cond := .code yJ9_min_7cf53 cJ9_min_7cf53 2 (some .int) :: ([])
def wsL_law_r1 : List Cond := [Cond.classLink RL 7 RX10, Cond.instantiable RX10 12, Cond.initialized RX10, Cond.classLink RL 10 RX11, Cond.instantiable RX11 47, Cond.initialized RX11, Cond.methodLink RL 9 yX10_init, Cond.instanceMethod yX10_init, Cond.code yX10_init cX10_init 1 none, Cond.methodLink RX10 1 objectInit, Cond.instanceMethod objectInit, Cond.code objectInit ⟨#[0xb1]⟩ 1 none, Cond.classLink RX10 7 RX4, Cond.instantiable RX4 5, Cond.initialized RX4, Cond.fieldLink RX10 10 "LandReform" "people" "LLandReform$People;", Cond.classLink RX10 16 RX2, Cond.instantiable RX2 12, Cond.initialized RX2, Cond.fieldLink RX10 19 "LandReform" "land" "LLandReform$Land;", Cond.classLink RX10 23 RX8, Cond.instantiable RX8 2, Cond.initialized RX8, Cond.fieldLink RX10 26 "LandReform" "tape" "LLandReform$Tape;"]
def wsL_law_r2 : List Cond := [Cond.classLink RX10 30 RX5, Cond.instantiable RX5 5, Cond.initialized RX5, Cond.fieldLink RX10 39 "LandReform" "reader" "LLandReform$Reader;", Cond.classLink RX10 43 RX1, Cond.instantiable RX1 10, Cond.initialized RX1, Cond.fieldLink RX10 46 "LandReform" "holding" "LLandReform$Holding;", Cond.classLink RX10 50 RX9, Cond.instantiable RX9 4, Cond.initialized RX9, Cond.fieldLink RX10 53 "LandReform" "tenancies" "LLandReform$Tenancies;", Cond.classLink RX10 57 RX0, Cond.instantiable RX0 3, Cond.initialized RX0, Cond.fieldLink RX10 60 "LandReform" "giving" "LLandReform$Giving;", Cond.classLink RX10 64 RX6, Cond.instantiable RX6 7, Cond.initialized RX6, Cond.fieldLink RX10 67 "LandReform" "rings" "LLandReform$Rings;", Cond.classLink RX10 71 RX7, Cond.fieldLink RX10 73 "LandReform" "sales" "[LLandReform$Sale;", Cond.classLink RX10 77 RX3, Cond.instantiable RX3 9]
def wsL_law_r3 : List Cond := [Cond.initialized RX3, Cond.fieldLink RX10 80 "LandReform" "law" "LLandReform$Law;", Cond.fieldLink RX10 84 "LandReform" "draft" "LLandReform$Law;", Cond.instanceMethod yX4_init, Cond.code yX4_init cX4_init 1 none, Cond.methodLink RX4 3 objectInit, Cond.arrayClass .int, Cond.fieldLink RX4 9 "LandReform$People" "houses" "[I", Cond.fieldLink RX4 15 "LandReform$People" "homes" "[I", Cond.arrayClass .long, Cond.fieldLink RX4 18 "LandReform$People" "kin" "[J", Cond.instanceMethod yX2_init, Cond.code yX2_init cX2_init 1 none, Cond.methodLink RX2 3 objectInit, Cond.fieldLink RX2 9 "LandReform$Land" "places" "[I", Cond.fieldLink RX2 15 "LandReform$Land" "areas" "[I", Cond.fieldLink RX2 18 "LandReform$Land" "soils" "[I", Cond.fieldLink RX2 21 "LandReform$Land" "crops" "[I", Cond.fieldLink RX2 24 "LandReform$Land" "firstOwners" "[I", Cond.fieldLink RX2 27 "LandReform$Land" "owners" "[I", Cond.fieldLink RX2 30 "LandReform$Land" "movedFields" "[I", Cond.fieldLink RX2 33 "LandReform$Land" "receivers" "[I", Cond.fieldLink RX2 36 "LandReform$Land" "days" "[I", Cond.instanceMethod yX8_init]
def wsL_law_r4 : List Cond := [Cond.code yX8_init cX8_init 1 none, Cond.methodLink RX8 3 objectInit, Cond.arrayClass .byte, Cond.fieldLink RX8 9 "LandReform$Tape" "bytes" "[B", Cond.methodLink RX10 36 yX5_init, Cond.instanceMethod yX5_init, Cond.code yX5_init cX5_init 2 none, Cond.methodLink RX5 3 objectInit, Cond.fieldLink RX5 9 "LandReform$Reader" "fault" "I", Cond.fieldLink RX5 15 "LandReform$Reader" "text" "[B", Cond.instanceMethod yX1_init, Cond.code yX1_init cX1_init 1 none, Cond.methodLink RX1 3 objectInit, Cond.fieldLink RX1 9 "LandReform$Holding" "countedOwners" "[I", Cond.fieldLink RX1 15 "LandReform$Holding" "counting" "[I", Cond.fieldLink RX1 18 "LandReform$Holding" "standardSteps" "[I", Cond.fieldLink RX1 21 "LandReform$Holding" "areaSteps" "[I", Cond.instanceMethod yX9_init, Cond.code yX9_init cX9_init 1 none, Cond.methodLink RX9 3 objectInit, Cond.fieldLink RX9 9 "LandReform$Tenancies" "fields" "[I", Cond.fieldLink RX9 15 "LandReform$Tenancies" "persons" "[I", Cond.fieldLink RX9 18 "LandReform$Tenancies" "yearSets" "[I", Cond.instanceMethod yX0_init]
def wsL_law_r5 : List Cond := [Cond.code yX0_init cX0_init 1 none, Cond.methodLink RX0 3 objectInit, Cond.fieldLink RX0 9 "LandReform$Giving" "leastSums" "[I", Cond.classLink RX0 15 "[[I", Cond.fieldLink RX0 17 "LandReform$Giving" "distances" "[[I", Cond.instanceMethod yX6_init, Cond.code yX6_init cX6_init 1 none, Cond.methodLink RX6 3 objectInit, Cond.fieldLink RX6 9 "LandReform$Rings" "homes" "[I", Cond.fieldLink RX6 15 "LandReform$Rings" "fieldsHad" "[I", Cond.fieldLink RX6 18 "LandReform$Rings" "placesHad" "[I", Cond.fieldLink RX6 21 "LandReform$Rings" "fieldsGot" "[I", Cond.fieldLink RX6 24 "LandReform$Rings" "pointedAt" "[I", Cond.methodLink RX10 79 yX3_init, Cond.instanceMethod yX3_init, Cond.code yX3_init cX3_init 1 none, Cond.methodLink RX3 3 objectInit, Cond.fieldLink RX3 9 "LandReform$Law" "soilValues" "[I", Cond.methodLink RX3 15 yX3_clear, Cond.instanceMethod yX3_clear, Cond.selects RX3 yX3_clear yX3_clear, Cond.code yX3_clear cX3_clear 1 none, Cond.fieldLink RX3 24 "LandReform$Law" "ceiling" "I", Cond.fieldLink RX3 28 "LandReform$Law" "family" "I"]
def wsL_law_r6 : List Cond := [Cond.fieldLink RX3 31 "LandReform$Law" "lastFreeDay" "I", Cond.fieldLink RX3 34 "LandReform$Law" "exemptCrops" "I", Cond.fieldLink RX3 37 "LandReform$Law" "price" "I", Cond.fieldLink RX3 40 "LandReform$Law" "years" "I", Cond.fieldLink RX3 43 "LandReform$Law" "shares" "I", Cond.fieldLink RX3 46 "LandReform$Law" "statements" "I", Cond.methodLink RX3 18 yJ7_fill_53178, Cond.static yJ7_fill_53178, Cond.initialized RJ7, Cond.code yJ7_fill_53178 cJ7_fill_53178 4 none, Cond.methodLink RL 12 yX11_init, Cond.instanceMethod yX11_init, Cond.code yX11_init cX11_init 1 none, Cond.methodLink RX11 1 objectInit, Cond.fieldLink RX11 7 "LandReformModel" "house" "[I", Cond.fieldLink RX11 13 "LandReformModel" "home" "[I", Cond.arrayClass .boolean, Cond.fieldLink RX11 16 "LandReformModel" "isAkin" "[Z", Cond.fieldLink RX11 20 "LandReformModel" "place" "[I", Cond.fieldLink RX11 23 "LandReformModel" "area" "[I", Cond.fieldLink RX11 26 "LandReformModel" "soil" "[I", Cond.fieldLink RX11 29 "LandReformModel" "crop" "[I", Cond.fieldLink RX11 32 "LandReformModel" "firstOwner" "[I", Cond.fieldLink RX11 35 "LandReformModel" "transferred" "[I"]
def wsL_law_r7 : List Cond := [Cond.fieldLink RX11 38 "LandReformModel" "goesTo" "[I", Cond.fieldLink RX11 41 "LandReformModel" "goesOn" "[I", Cond.fieldLink RX11 44 "LandReformModel" "told" "[I", Cond.fieldLink RX11 47 "LandReformModel" "tape" "[B", Cond.fieldLink RX11 51 "LandReformModel" "text" "[B", Cond.fieldLink RX11 54 "LandReformModel" "fault" "I", Cond.fieldLink RX11 58 "LandReformModel" "row" "[I", Cond.fieldLink RX11 61 "LandReformModel" "pairField" "[I", Cond.fieldLink RX11 64 "LandReformModel" "pairPerson" "[I", Cond.fieldLink RX11 67 "LandReformModel" "pairYears" "[I", Cond.fieldLink RX11 70 "LandReformModel" "way" "[I", Cond.fieldLink RX11 73 "LandReformModel" "bestWay" "[I", Cond.fieldLink RX11 76 "LandReformModel" "has" "[I", Cond.fieldLink RX11 79 "LandReformModel" "gets" "[I", Cond.fieldLink RX11 82 "LandReformModel" "points" "[I", Cond.fieldLink RX11 85 "LandReformModel" "saleField" "[I", Cond.fieldLink RX11 88 "LandReformModel" "buyer" "[I", Cond.fieldLink RX11 91 "LandReformModel" "owed" "[I", Cond.fieldLink RX11 94 "LandReformModel" "parts" "[I", Cond.fieldLink RX11 97 "LandReformModel" "paid" "[I", Cond.fieldLink RX11 100 "LandReformModel" "left" "[I", Cond.fieldLink RX11 103 "LandReformModel" "putOff" "[I", Cond.fieldLink RX11 106 "LandReformModel" "restAt" "[I", Cond.methodLink RX11 109 yX11_begins]
def wsL_law_r8 : List Cond := [Cond.instanceMethod yX11_begins, Cond.selects RX11 yX11_begins yX11_begins, Cond.code yX11_begins cX11_begins 3 none, Cond.methodLink RX11 116 yX11_isIn, Cond.static yX11_isIn, Cond.code yX11_isIn cX11_isIn 3 (some .boolean), Cond.methodLink RL 13 yX10_person, Cond.instanceMethod yX10_person, Cond.selects RX10 yX10_person yX10_person, Cond.code yX10_person cX10_person 3 (some .int), Cond.methodLink RX10 87 yX10_isBelow, Cond.static yX10_isBelow, Cond.code yX10_isBelow cX10_isBelow 2 (some .boolean), Cond.methodLink RX10 91 yX4_add, Cond.instanceMethod yX4_add, Cond.selects RX4 yX4_add yX4_add, Cond.code yX4_add cX4_add 3 (some .int), Cond.fieldLink RX4 22 "LandReform$People" "size" "I", Cond.methodLink RL 17 yX11_person, Cond.instanceMethod yX11_person, Cond.selects RX11 yX11_person yX11_person, Cond.code yX11_person cX11_person 3 (some .int), Cond.fieldLink RX11 113 "LandReformModel" "persons" "I", Cond.methodLink RL 18 yX10_akin]
def wsL_law_r9 : List Cond := [Cond.instanceMethod yX10_akin, Cond.selects RX10 yX10_akin yX10_akin, Cond.code yX10_akin cX10_akin 3 (some .boolean), Cond.methodLink RX10 95 yX4_bind, Cond.instanceMethod yX4_bind, Cond.selects RX4 yX4_bind yX4_bind, Cond.code yX4_bind cX4_bind 3 (some .boolean), Cond.fieldLink RX4 37 "LandReform$People" "pairs" "I", Cond.methodLink RX4 30 yX4_has, Cond.instanceMethod yX4_has, Cond.selects RX4 yX4_has yX4_has, Cond.code yX4_has cX4_has 2 (some .boolean), Cond.methodLink RX4 34 yX4_areKin, Cond.instanceMethod yX4_areKin, Cond.selects RX4 yX4_areKin yX4_areKin, Cond.code yX4_areKin cX4_areKin 3 (some .boolean), Cond.methodLink RL 22 yX11_akin, Cond.instanceMethod yX11_akin, Cond.selects RX11 yX11_akin yX11_akin, Cond.code yX11_akin cX11_akin 3 (some .boolean), Cond.fieldLink RX11 127 "LandReformModel" "kin" "I", Cond.methodLink RX11 123 yX11_isPerson, Cond.instanceMethod yX11_isPerson, Cond.selects RX11 yX11_isPerson yX11_isPerson]
def wsL_law_r10 : List Cond := [Cond.code yX11_isPerson cX11_isPerson 2 (some .boolean), Cond.methodLink RL 23 yX10_field, Cond.instanceMethod yX10_field, Cond.selects RX10 yX10_field yX10_field, Cond.code yX10_field cX10_field 7 (some .int), Cond.methodLink RX10 98 yX4_has, Cond.methodLink RX10 102 yX2_add, Cond.instanceMethod yX2_add, Cond.selects RX2 yX2_add yX2_add, Cond.code yX2_add cX2_add 6 (some .int), Cond.fieldLink RX2 39 "LandReform$Land" "size" "I", Cond.methodLink RL 27 yX11_field, Cond.instanceMethod yX11_field, Cond.selects RX11 yX11_field yX11_field, Cond.code yX11_field cX11_field 6 (some .int), Cond.fieldLink RX11 120 "LandReformModel" "fields" "I", Cond.methodLink RL 28 yX10_day, Cond.instanceMethod yX10_day, Cond.selects RX10 yX10_day yX10_day, Cond.code yX10_day cX10_day 2 (some .boolean), Cond.methodLink RL 32 yX11_day, Cond.instanceMethod yX11_day, Cond.selects RX11 yX11_day yX11_day, Cond.code yX11_day cX11_day 2 (some .boolean)]
def wsL_law_r11 : List Cond := [Cond.fieldLink RX11 130 "LandReformModel" "today" "I", Cond.methodLink RL 33 yX10_transfer, Cond.instanceMethod yX10_transfer, Cond.selects RX10 yX10_transfer yX10_transfer, Cond.code yX10_transfer cX10_transfer 3 (some .boolean), Cond.methodLink RX10 109 yX2_has, Cond.instanceMethod yX2_has, Cond.selects RX2 yX2_has yX2_has, Cond.code yX2_has cX2_has 2 (some .boolean), Cond.methodLink RX10 110 yX2_ownerOf, Cond.instanceMethod yX2_ownerOf, Cond.selects RX2 yX2_ownerOf yX2_ownerOf, Cond.code yX2_ownerOf cX2_ownerOf 2 (some .int), Cond.methodLink RX2 47 yX2_has, Cond.methodLink RX10 114 yX2_transfersLeft, Cond.instanceMethod yX2_transfersLeft, Cond.selects RX2 yX2_transfersLeft yX2_transfersLeft, Cond.code yX2_transfersLeft cX2_transfersLeft 1 (some .int), Cond.fieldLink RX2 71 "LandReform$Land" "transfers" "I", Cond.methodLink RX10 118 yX2_move, Cond.instanceMethod yX2_move, Cond.selects RX2 yX2_move yX2_move, Cond.code yX2_move cX2_move 3 none, Cond.fieldLink RX2 74 "LandReform$Land" "today" "I"]
def wsL_law_r12 : List Cond := [Cond.methodLink RL 36 yX11_transfer, Cond.instanceMethod yX11_transfer, Cond.selects RX11 yX11_transfer yX11_transfer, Cond.code yX11_transfer cX11_transfer 3 (some .boolean), Cond.fieldLink RX11 133 "LandReformModel" "transfers" "I", Cond.methodLink RX11 140 yX11_isField, Cond.instanceMethod yX11_isField, Cond.selects RX11 yX11_isField yX11_isField, Cond.code yX11_isField cX11_isField 2 (some .boolean), Cond.methodLink RX11 143 yX11_owner, Cond.instanceMethod yX11_owner, Cond.selects RX11 yX11_owner yX11_owner, Cond.code yX11_owner cX11_owner 2 (some .int), Cond.methodLink RX11 136 yX11_ownerOn, Cond.instanceMethod yX11_ownerOn, Cond.selects RX11 yX11_ownerOn yX11_ownerOn, Cond.code yX11_ownerOn cX11_ownerOn 5 (some .int), Cond.methodLink RX11 147 yX11_goes, Cond.instanceMethod yX11_goes, Cond.selects RX11 yX11_goes yX11_goes, Cond.code yX11_goes cX11_goes 3 none, Cond.methodLink RL 37 yX10_feed, Cond.instanceMethod yX10_feed, Cond.selects RX10 yX10_feed yX10_feed]
def wsL_law_r13 : List Cond := [Cond.code yX10_feed cX10_feed 6 (some .int), Cond.methodLink RX10 122 yX8_room, Cond.instanceMethod yX8_room, Cond.selects RX8 yX8_room yX8_room, Cond.code yX8_room cX8_room 1 (some .int), Cond.fieldLink RX8 15 "LandReform$Tape" "length" "I", Cond.methodLink RX10 125 yX8_append, Cond.instanceMethod yX8_append, Cond.selects RX8 yX8_append yX8_append, Cond.code yX8_append cX8_append 3 none, Cond.methodLink RL 40 yX11_feed, Cond.instanceMethod yX11_feed, Cond.selects RX11 yX11_feed yX11_feed, Cond.code yX11_feed cX11_feed 6 (some .int), Cond.fieldLink RX11 151 "LandReformModel" "taped" "I", Cond.methodLink RX11 154 yX11_four, Cond.instanceMethod yX11_four, Cond.selects RX11 yX11_four yX11_four, Cond.code yX11_four cX11_four 3 none, Cond.methodLink RL 41 yX10_act, Cond.instanceMethod yX10_act, Cond.selects RX10 yX10_act yX10_act, Cond.code yX10_act cX10_act 4 (some .int), Cond.methodLink RX10 132 yX5_readAct]
def wsL_law_r14 : List Cond := [Cond.instanceMethod yX5_readAct, Cond.selects RX5 yX5_readAct yX5_readAct, Cond.code yX5_readAct cX5_readAct 4 (some .boolean), Cond.methodLink RX5 19 Lib.Math.min.name, Cond.static Lib.Math.min.name, Cond.initialized "java/lang/Math", Cond.code Lib.Math.min.name Lib.Math.min.code 2 (some .int), Cond.fieldLink RX5 25 "LandReform$Reader" "length" "I", Cond.fieldLink RX5 28 "LandReform$Reader" "tokenEnd" "I", Cond.fieldLink RX5 39 "LandReform$Reader" "tokenStart" "I", Cond.methodLink RX5 36 yX5_nextToken, Cond.instanceMethod yX5_nextToken, Cond.selects RX5 yX5_nextToken yX5_nextToken, Cond.code yX5_nextToken cX5_nextToken 2 none, Cond.methodLink RX5 65 yX5_isBlank, Cond.static yX5_isBlank, Cond.code yX5_isBlank cX5_isBlank 1 (some .boolean), Cond.methodLink RX5 69 yX5_isLetter, Cond.static yX5_isLetter, Cond.code yX5_isLetter cX5_isLetter 1 (some .boolean), Cond.methodLink RX5 72 yX5_isDigit, Cond.static yX5_isDigit, Cond.code yX5_isDigit cX5_isDigit 1 (some .boolean), Cond.methodLink RX5 42 yX5_readStatement]
def wsL_law_r15 : List Cond := [Cond.instanceMethod yX5_readStatement, Cond.selects RX5 yX5_readStatement yX5_readStatement, Cond.code yX5_readStatement cX5_readStatement 5 (some .boolean), Cond.methodLink RX5 46 yX5_keyword, Cond.instanceMethod yX5_keyword, Cond.selects RX5 yX5_keyword yX5_keyword, Cond.code yX5_keyword cX5_keyword 1 (some .int), Cond.methodLink RX5 55 yX5_spells, Cond.instanceMethod yX5_spells, Cond.selects RX5 yX5_spells yX5_spells, Cond.code yX5_spells cX5_spells 3 (some .boolean), Cond.methodLink RX5 91 yJ0_length_8abf5, Cond.instanceMethod yJ0_length_8abf5, Cond.selects RJ0 yJ0_length_8abf5 yJ0_length_8abf5, Cond.initialized RJ0, Cond.code yJ0_length_8abf5 cJ0_length_8abf5 1 (some .int), Cond.fieldLink RJ0 9 "java/lang/String" "value" "[B", Cond.methodLink RJ0 335 yJ0_coder_7d493, Cond.instanceMethod yJ0_coder_7d493, Cond.selects RJ0 yJ0_coder_7d493 yJ0_coder_7d493, Cond.code yJ0_coder_7d493 cJ0_coder_7d493 1 (some .byte), Cond.fieldLink RJ0 38 "java/lang/String" "COMPACT_STRINGS" "Z", Cond.fieldLink RJ0 15 "java/lang/String" "coder" "B", Cond.methodLink RX5 95 yJ0_charAt_5068e]
def wsL_law_r16 : List Cond := [Cond.instanceMethod yJ0_charAt_5068e, Cond.selects RJ0 yJ0_charAt_5068e yJ0_charAt_5068e, Cond.code yJ0_charAt_5068e cJ0_charAt_5068e 2 (some .char), Cond.methodLink RJ0 492 yJ0_isLatin1_aae02, Cond.instanceMethod yJ0_isLatin1_aae02, Cond.selects RJ0 yJ0_isLatin1_aae02 yJ0_isLatin1_aae02, Cond.code yJ0_isLatin1_aae02 cJ0_isLatin1_aae02 1 (some .boolean), Cond.methodLink RJ0 495 yJ1_charAt_3b067, Cond.static yJ1_charAt_3b067, Cond.initialized RJ1, Cond.code yJ1_charAt_3b067 cJ1_charAt_3b067 2 (some .char), Cond.methodLink RJ1 9 yJ0_checkIndex_df160, Cond.static yJ0_checkIndex_df160, Cond.code yJ0_checkIndex_df160 cJ0_checkIndex_df160 2 none, Cond.fieldLink RJ0 1053 "jdk/internal/util/Preconditions" "SIOOBE_FORMATTER" "Ljava/util/function/BiFunction;", Cond.methodLink RJ0 1059 yJ3_checkIndex_8e157, Cond.static yJ3_checkIndex_8e157, Cond.initialized RJ3, Cond.code yJ3_checkIndex_8e157 cJ3_checkIndex_8e157 3 (some .int), Cond.methodLink RJ0 498 yJ2_charAt_3b067, Cond.static yJ2_charAt_3b067, Cond.initialized RJ2, Cond.code yJ2_charAt_3b067 cJ2_charAt_3b067 2 (some .char), Cond.methodLink RJ2 67 yJ2_checkIndex_2214a]
def wsL_law_r17 : List Cond := [Cond.static yJ2_checkIndex_2214a, Cond.code yJ2_checkIndex_2214a cJ2_checkIndex_2214a 2 none, Cond.methodLink RJ2 48 yJ2_length_9d52b, Cond.static yJ2_length_9d52b, Cond.code yJ2_length_9d52b cJ2_length_9d52b 1 (some .int), Cond.methodLink RJ2 414 yJ0_checkIndex_df160, Cond.methodLink RJ2 71 yJ2_getChar_3b067, Cond.static yJ2_getChar_3b067, Cond.code yJ2_getChar_3b067 cJ2_getChar_3b067 2 (some .char), Cond.fieldLink RJ2 44 "java/lang/StringUTF16" "$assertionsDisabled" "Z", Cond.fieldLink RJ2 59 "java/lang/StringUTF16" "HI_BYTE_SHIFT" "I", Cond.fieldLink RJ2 63 "java/lang/StringUTF16" "LO_BYTE_SHIFT" "I", Cond.methodLink RX5 50 yX5_number, Cond.instanceMethod yX5_number, Cond.selects RX5 yX5_number yX5_number, Cond.code yX5_number cX5_number 6 (some .int), Cond.instanceMethod yX3_rule, Cond.selects RX3 yX3_rule yX3_rule, Cond.code yX3_rule cX3_rule 4 none, Cond.methodLink RX3 49 yX3_exemptCrop, Cond.instanceMethod yX3_exemptCrop, Cond.selects RX3 yX3_exemptCrop yX3_exemptCrop, Cond.code yX3_exemptCrop cX3_exemptCrop 2 none, Cond.methodLink RX3 53 yX3_setSoil]
def wsL_law_r18 : List Cond := [Cond.instanceMethod yX3_setSoil, Cond.selects RX3 yX3_setSoil yX3_setSoil, Cond.code yX3_setSoil cX3_setSoil 3 none, Cond.methodLink RL 45 yX11_act, Cond.instanceMethod yX11_act, Cond.selects RX11 yX11_act yX11_act, Cond.code yX11_act cX11_act 5 (some .int), Cond.fieldLink RX11 160 "LandReformModel" "size" "I", Cond.fieldLink RX11 157 "LandReformModel" "at" "I", Cond.fieldLink RX11 206 "LandReformModel" "many" "I", Cond.methodLink RX11 163 yX11_blanks, Cond.instanceMethod yX11_blanks, Cond.selects RX11 yX11_blanks yX11_blanks, Cond.code yX11_blanks cX11_blanks 1 none, Cond.methodLink RX11 202 yX11_statement, Cond.instanceMethod yX11_statement, Cond.selects RX11 yX11_statement yX11_statement, Cond.code yX11_statement cX11_statement 2 (some .boolean), Cond.constantLong RX11 176 (1936681324), Cond.fieldLink RX11 173 "LandReformModel" "number" "I", Cond.constantLong RX11 186 (26995), Cond.constantLong RX11 188 (111567772151924), Cond.constantLong RX11 190 (27977526159175271), Cond.constantLong RX11 192 (112568633486457)]
def wsL_law_r19 : List Cond := [Cond.constantLong RX11 194 (6578553), Cond.constantLong RX11 196 (482955846501), Cond.constantLong RX11 198 (521391927923), Cond.constantLong RX11 200 (126892148680051), Cond.methodLink RX11 178 yX11_takes, Cond.instanceMethod yX11_takes, Cond.selects RX11 yX11_takes yX11_takes, Cond.code yX11_takes cX11_takes 3 (some .boolean), Cond.fieldLink RX11 166 "LandReformModel" "wordEnd" "I", Cond.methodLink RX11 169 yX11_word, Cond.instanceMethod yX11_word, Cond.selects RX11 yX11_word yX11_word, Cond.code yX11_word cX11_word 3 (some .long), Cond.methodLink RX11 182 yX11_takesNumber, Cond.instanceMethod yX11_takesNumber, Cond.selects RX11 yX11_takesNumber yX11_takesNumber, Cond.code yX11_takesNumber cX11_takesNumber 4 (some .boolean), Cond.methodLink RL 46 yX10_fault, Cond.instanceMethod yX10_fault, Cond.selects RX10 yX10_fault yX10_fault, Cond.code yX10_fault cX10_fault 1 (some .int), Cond.methodLink RL 50 yX11_fault, Cond.instanceMethod yX11_fault, Cond.selects RX11 yX11_fault yX11_fault]
def wsL_law_r20 : List Cond := [Cond.code yX11_fault cX11_fault 1 (some .int), Cond.methodLink RL 51 yX10_told, Cond.instanceMethod yX10_told, Cond.selects RX10 yX10_told yX10_told, Cond.code yX10_told cX10_told 3 (some .int), Cond.methodLink RX10 142 yX2_placeOf, Cond.instanceMethod yX2_placeOf, Cond.selects RX2 yX2_placeOf yX2_placeOf, Cond.code yX2_placeOf cX2_placeOf 2 (some .int), Cond.methodLink RX10 145 yX2_areaOf, Cond.instanceMethod yX2_areaOf, Cond.selects RX2 yX2_areaOf yX2_areaOf, Cond.code yX2_areaOf cX2_areaOf 2 (some .int), Cond.methodLink RX10 148 yX2_soilOf, Cond.instanceMethod yX2_soilOf, Cond.selects RX2 yX2_soilOf yX2_soilOf, Cond.code yX2_soilOf cX2_soilOf 2 (some .int), Cond.methodLink RX10 151 yX2_cropOf, Cond.instanceMethod yX2_cropOf, Cond.selects RX2 yX2_cropOf yX2_cropOf, Cond.code yX2_cropOf cX2_cropOf 2 (some .int), Cond.methodLink RX10 154 yX2_standardOf, Cond.instanceMethod yX2_standardOf, Cond.selects RX2 yX2_standardOf yX2_standardOf]
def wsL_law_r21 : List Cond := [Cond.code yX2_standardOf cX2_standardOf 3 (some .int), Cond.methodLink RX2 51 yX2_areaOf, Cond.methodLink RX2 55 yX2_soilOf, Cond.methodLink RX2 58 yX3_soilIs, Cond.instanceMethod yX3_soilIs, Cond.selects RX3 yX3_soilIs yX3_soilIs, Cond.code yX3_soilIs cX3_soilIs 2 (some .int), Cond.methodLink RX10 158 yX1_countedOwner, Cond.instanceMethod yX1_countedOwner, Cond.selects RX1 yX1_countedOwner yX1_countedOwner, Cond.code yX1_countedOwner cX1_countedOwner 5 (some .int), Cond.methodLink RX1 24 yX1_countOwners, Cond.instanceMethod yX1_countOwners, Cond.selects RX1 yX1_countOwners yX1_countOwners, Cond.code yX1_countOwners cX1_countOwners 8 none, Cond.methodLink RX1 41 arraycopyName, Cond.native arraycopyName, Cond.static arraycopyName, Cond.initialized "java/lang/System", Cond.methodLink RX1 64 yX4_areOfOneFamily, Cond.instanceMethod yX4_areOfOneFamily, Cond.selects RX4 yX4_areOfOneFamily yX4_areOfOneFamily, Cond.code yX4_areOfOneFamily cX4_areOfOneFamily 3 (some .boolean), Cond.methodLink RX4 40 yX4_houseOf]
def wsL_law_r22 : List Cond := [Cond.instanceMethod yX4_houseOf, Cond.selects RX4 yX4_houseOf yX4_houseOf, Cond.code yX4_houseOf cX4_houseOf 2 (some .int), Cond.methodLink RX10 165 yX9_tenantOf, Cond.instanceMethod yX9_tenantOf, Cond.selects RX9 yX9_tenantOf yX9_tenantOf, Cond.code yX9_tenantOf cX9_tenantOf 8 (some .int), Cond.fieldLink RX9 25 "LandReform$Tenancies" "size" "I", Cond.methodLink RX9 29 yJ6_bitCount_0f7a4, Cond.static yJ6_bitCount_0f7a4, Cond.initialized RJ6, Cond.code yJ6_bitCount_0f7a4 cJ6_bitCount_0f7a4 1 (some .int), Cond.constant RJ6 265 (1431655765), Cond.constant RJ6 266 (858993459), Cond.constant RJ6 267 (252645135), Cond.methodLink RX10 169 yX3_exempts, Cond.instanceMethod yX3_exempts, Cond.selects RX3 yX3_exempts yX3_exempts, Cond.code yX3_exempts cX3_exempts 2 (some .boolean), Cond.methodLink RX10 172 yX2_transfersOf, Cond.instanceMethod yX2_transfersOf, Cond.selects RX2 yX2_transfersOf yX2_transfersOf, Cond.code yX2_transfersOf cX2_transfersOf 4 (some .int), Cond.methodLink RL 54 yX11_told]
def wsL_law_r23 : List Cond := [Cond.instanceMethod yX11_told, Cond.selects RX11 yX11_told yX11_told, Cond.code yX11_told cX11_told 3 (some .int), Cond.methodLink RX11 213 yX11_standard, Cond.instanceMethod yX11_standard, Cond.selects RX11 yX11_standard yX11_standard, Cond.code yX11_standard cX11_standard 2 (some .int), Cond.methodLink RX11 216 yX11_counted, Cond.instanceMethod yX11_counted, Cond.selects RX11 yX11_counted yX11_counted, Cond.code yX11_counted cX11_counted 5 (some .int), Cond.methodLink RX11 219 yX11_tenant, Cond.instanceMethod yX11_tenant, Cond.selects RX11 yX11_tenant yX11_tenant, Cond.code yX11_tenant cX11_tenant 7 (some .int), Cond.fieldLink RX11 257 "LandReformModel" "pairs" "I", Cond.methodLink RX11 260 yX11_bits, Cond.static yX11_bits, Cond.code yX11_bits cX11_bits 3 (some .int), Cond.methodLink RX11 222 yX11_isExempt, Cond.instanceMethod yX11_isExempt, Cond.selects RX11 yX11_isExempt yX11_isExempt, Cond.code yX11_isExempt cX11_isExempt 2 (some .boolean), Cond.methodLink RX11 209 yX11_one]
def wsL_law_r24 : List Cond := [Cond.static yX11_one, Cond.code yX11_one cX11_one 1 (some .int), Cond.methodLink RX11 225 yX11_transfersOf, Cond.instanceMethod yX11_transfersOf, Cond.selects RX11 yX11_transfersOf yX11_transfersOf, Cond.code yX11_transfersOf cX11_transfersOf 4 (some .int), Cond.methodLink RL 55 yX10_owned, Cond.instanceMethod yX10_owned, Cond.selects RX10 yX10_owned yX10_owned, Cond.code yX10_owned cX10_owned 3 (some .int), Cond.methodLink RX10 175 yX2_ownerAsDayEnded, Cond.instanceMethod yX2_ownerAsDayEnded, Cond.selects RX2 yX2_ownerAsDayEnded yX2_ownerAsDayEnded, Cond.code yX2_ownerAsDayEnded cX2_ownerAsDayEnded 5 (some .int), Cond.methodLink RL 58 yX11_owned, Cond.instanceMethod yX11_owned, Cond.selects RX11 yX11_owned yX11_owned, Cond.code yX11_owned cX11_owned 3 (some .int), Cond.methodLink RL 59 yX10_house, Cond.instanceMethod yX10_house, Cond.selects RX10 yX10_house yX10_house, Cond.code yX10_house cX10_house 3 (some .int), Cond.methodLink RX10 178 yX1_gather, Cond.instanceMethod yX1_gather]
def wsL_law_r25 : List Cond := [Cond.selects RX1 yX1_gather yX1_gather, Cond.code yX1_gather cX1_gather 6 none, Cond.fieldLink RX1 69 "LandReform$Holding" "size" "I", Cond.fieldLink RX1 70 "LandReform$Holding" "standards" "I", Cond.fieldLink RX1 91 "LandReform$Holding" "members" "I", Cond.fieldLink RX1 97 "LandReform$Holding" "allowed" "I", Cond.methodLink RX1 73 yX4_houseOf, Cond.methodLink RX1 80 yX3_exempts, Cond.methodLink RX1 84 yX2_standardOf, Cond.methodLink RX1 88 yX4_membersOf, Cond.instanceMethod yX4_membersOf, Cond.selects RX4 yX4_membersOf yX4_membersOf, Cond.code yX4_membersOf cX4_membersOf 4 (some .int), Cond.methodLink RX1 94 yX3_allows, Cond.instanceMethod yX3_allows, Cond.selects RX3 yX3_allows yX3_allows, Cond.code yX3_allows cX3_allows 2 (some .int), Cond.methodLink RX3 61 Lib.Math.max.name, Cond.static Lib.Math.max.name, Cond.code Lib.Math.max.name Lib.Math.max.code 2 (some .int), Cond.methodLink RX10 191 yX1_above, Cond.instanceMethod yX1_above, Cond.selects RX1 yX1_above yX1_above, Cond.code yX1_above cX1_above 1 (some .int)]
def wsL_law_r26 : List Cond := [Cond.methodLink RX1 100 Lib.Math.max.name, Cond.methodLink RL 62 yX11_house, Cond.instanceMethod yX11_house, Cond.selects RX11 yX11_house yX11_house, Cond.code yX11_house cX11_house 3 (some .int), Cond.methodLink RX11 234 Lib.Math.max.name, Cond.methodLink RX11 239 yX11_isHouse, Cond.static yX11_isHouse, Cond.code yX11_isHouse cX11_isHouse 1 (some .boolean), Cond.methodLink RX11 231 yX11_peopleOf, Cond.instanceMethod yX11_peopleOf, Cond.selects RX11 yX11_peopleOf yX11_peopleOf, Cond.code yX11_peopleOf cX11_peopleOf 4 (some .int), Cond.methodLink RX11 242 yX11_holding, Cond.instanceMethod yX11_holding, Cond.selects RX11 yX11_holding yX11_holding, Cond.code yX11_holding cX11_holding 5 (some .int), Cond.methodLink RX11 228 yX11_counts, Cond.instanceMethod yX11_counts, Cond.selects RX11 yX11_counts yX11_counts, Cond.code yX11_counts cX11_counts 4 (some .int), Cond.methodLink RX11 245 yX11_mayHave, Cond.instanceMethod yX11_mayHave, Cond.selects RX11 yX11_mayHave yX11_mayHave]
def wsL_law_r27 : List Cond := [Cond.code yX11_mayHave cX11_mayHave 2 (some .int), Cond.methodLink RL 63 yX10_kept, Cond.instanceMethod yX10_kept, Cond.selects RX10 yX10_kept yX10_kept, Cond.code yX10_kept cX10_kept 3 (some .int), Cond.methodLink RX10 197 yX1_choose, Cond.instanceMethod yX1_choose, Cond.selects RX1 yX1_choose yX1_choose, Cond.code yX1_choose cX1_choose 8 (some .boolean), Cond.fieldLink RX1 110 "LandReform$Holding" "keptSet" "I", Cond.fieldLink RX1 113 "LandReform$Holding" "keptArea" "I", Cond.methodLink RX1 106 yX1_prepareSteps, Cond.instanceMethod yX1_prepareSteps, Cond.selects RX1 yX1_prepareSteps yX1_prepareSteps, Cond.code yX1_prepareSteps cX1_prepareSteps 8 none, Cond.methodLink RX1 121 yX2_areaOf, Cond.methodLink RX1 116 yJ6_numberOfTrailingZeros_0f7a4, Cond.static yJ6_numberOfTrailingZeros_0f7a4, Cond.code yJ6_numberOfTrailingZeros_0f7a4 cJ6_numberOfTrailingZeros_0f7a4 2 (some .int), Cond.constant RJ6 264 (65536), Cond.methodLink RX10 204 yX1_keeps, Cond.instanceMethod yX1_keeps, Cond.selects RX1 yX1_keeps yX1_keeps, Cond.code yX1_keeps cX1_keeps 2 (some .boolean)]
def wsL_law_r28 : List Cond := [Cond.methodLink RL 66 yX11_kept, Cond.instanceMethod yX11_kept, Cond.selects RX11 yX11_kept yX11_kept, Cond.code yX11_kept cX11_kept 4 (some .int), Cond.fieldLink RX11 251 "LandReformModel" "bestArea" "I", Cond.fieldLink RX11 248 "LandReformModel" "bestSet" "I", Cond.methodLink RX11 254 yX11_keeps, Cond.instanceMethod yX11_keeps, Cond.selects RX11 yX11_keeps yX11_keeps, Cond.code yX11_keeps cX11_keeps 7 none, Cond.methodLink RL 67 yX10_taken, Cond.instanceMethod yX10_taken, Cond.selects RX10 yX10_taken yX10_taken, Cond.code yX10_taken cX10_taken 3 (some .int), Cond.methodLink RX10 207 yX1_takenField, Cond.instanceMethod yX1_takenField, Cond.selects RX1 yX1_takenField yX1_takenField, Cond.code yX1_takenField cX1_takenField 4 (some .int), Cond.methodLink RX1 124 yX1_keeps, Cond.methodLink RL 70 yX11_taken, Cond.instanceMethod yX11_taken, Cond.selects RX11 yX11_taken yX11_taken, Cond.code yX11_taken cX11_taken 6 (some .int), Cond.methodLink RL 71 yX10_share]
def wsL_law_r29 : List Cond := [Cond.instanceMethod yX10_share, Cond.selects RX10 yX10_share yX10_share, Cond.code yX10_share cX10_share 4 (some .int), Cond.methodLink RX10 210 yX9_tell, Cond.instanceMethod yX9_tell, Cond.selects RX9 yX9_tell yX9_tell, Cond.code yX9_tell cX9_tell 5 (some .int), Cond.methodLink RX9 21 yX9_pairOf, Cond.instanceMethod yX9_pairOf, Cond.selects RX9 yX9_pairOf yX9_pairOf, Cond.code yX9_pairOf cX9_pairOf 4 (some .int), Cond.methodLink RL 75 yX11_share, Cond.instanceMethod yX11_share, Cond.selects RX11 yX11_share yX11_share, Cond.code yX11_share cX11_share 5 (some .int), Cond.methodLink RL 76 yX10_given, Cond.instanceMethod yX10_given, Cond.selects RX10 yX10_given yX10_given, Cond.code yX10_given cX10_given 6 (some .int), Cond.methodLink RX10 213 yX2_hasRow, Cond.instanceMethod yX2_hasRow, Cond.selects RX2 yX2_hasRow yX2_hasRow, Cond.code yX2_hasRow cX2_hasRow 3 (some .boolean), Cond.methodLink RX10 216 yX4_hasRow]
def wsL_law_r30 : List Cond := [Cond.instanceMethod yX4_hasRow, Cond.selects RX4 yX4_hasRow yX4_hasRow, Cond.code yX4_hasRow cX4_hasRow 3 (some .boolean), Cond.methodLink RX10 217 yX0_weigh, Cond.instanceMethod yX0_weigh, Cond.selects RX0 yX0_weigh yX0_weigh, Cond.code yX0_weigh cX0_weigh 8 none, Cond.methodLink RX0 20 Lib.Math.min.name, Cond.methodLink RX0 26 Lib.Math.max.name, Cond.fieldLink RX0 29 "LandReform$Giving" "size" "I", Cond.methodLink RX0 33 yX4_homeOf, Cond.instanceMethod yX4_homeOf, Cond.selects RX4 yX4_homeOf yX4_homeOf, Cond.code yX4_homeOf cX4_homeOf 2 (some .int), Cond.methodLink RX0 39 yX2_distance, Cond.instanceMethod yX2_distance, Cond.selects RX2 yX2_distance yX2_distance, Cond.code yX2_distance cX2_distance 3 (some .int), Cond.methodLink RX2 66 Lib.Math.abs.name, Cond.static Lib.Math.abs.name, Cond.code Lib.Math.abs.name Lib.Math.abs.code 1 (some .int), Cond.methodLink RX2 63 yX2_placeOf, Cond.methodLink RX0 44 yX0_nearest, Cond.instanceMethod yX0_nearest]
def wsL_law_r31 : List Cond := [Cond.selects RX0 yX0_nearest yX0_nearest, Cond.code yX0_nearest cX0_nearest 5 (some .int), Cond.constant RX0 52 (2147483647), Cond.methodLink RX0 47 yX0_sumWith, Cond.instanceMethod yX0_sumWith, Cond.selects RX0 yX0_sumWith yX0_sumWith, Cond.code yX0_sumWith cX0_sumWith 4 (some .int), Cond.methodLink RX0 53 yJ6_bitCount_0f7a4, Cond.methodLink RX10 221 yX0_leastSum, Cond.instanceMethod yX0_leastSum, Cond.selects RX0 yX0_leastSum yX0_leastSum, Cond.code yX0_leastSum cX0_leastSum 1 (some .int), Cond.methodLink RX10 224 yX0_choice, Cond.instanceMethod yX0_choice, Cond.selects RX0 yX0_choice yX0_choice, Cond.code yX0_choice cX0_choice 4 (some .int), Cond.methodLink RL 80 yX11_given, Cond.instanceMethod yX11_given, Cond.selects RX11 yX11_given yX11_given, Cond.code yX11_given cX11_given 12 (some .int), Cond.methodLink RX11 263 Lib.Math.abs.name, Cond.methodLink RL 81 yX10_rings, Cond.instanceMethod yX10_rings, Cond.selects RX10 yX10_rings yX10_rings]
def wsL_law_r32 : List Cond := [Cond.code yX10_rings cX10_rings 4 (some .int), Cond.methodLink RX10 227 yX10_ringsClose, Cond.instanceMethod yX10_ringsClose, Cond.selects RX10 yX10_ringsClose yX10_ringsClose, Cond.code yX10_ringsClose cX10_ringsClose 3 (some .boolean), Cond.methodLink RX10 288 yX6_close, Cond.instanceMethod yX6_close, Cond.selects RX6 yX6_close yX6_close, Cond.code yX6_close cX6_close 6 (some .boolean), Cond.methodLink RX6 27 Lib.Math.min.name, Cond.methodLink RX6 33 Lib.Math.max.name, Cond.fieldLink RX6 36 "LandReform$Rings" "size" "I", Cond.fieldLink RX6 40 "LandReform$Rings" "closed" "I", Cond.methodLink RX6 43 yX4_homeOf, Cond.methodLink RX6 49 yX2_firstFieldOf, Cond.instanceMethod yX2_firstFieldOf, Cond.selects RX2 yX2_firstFieldOf yX2_firstFieldOf, Cond.code yX2_firstFieldOf cX2_firstFieldOf 3 (some .int), Cond.methodLink RX6 54 yX2_placeOf, Cond.methodLink RX6 57 yX6_point, Cond.instanceMethod yX6_point, Cond.selects RX6 yX6_point yX6_point, Cond.code yX6_point cX6_point 2 none, Cond.methodLink RX6 63 yX6_holderOfNearest]
def wsL_law_r33 : List Cond := [Cond.instanceMethod yX6_holderOfNearest, Cond.selects RX6 yX6_holderOfNearest yX6_holderOfNearest, Cond.code yX6_holderOfNearest cX6_holderOfNearest 6 (some .int), Cond.methodLink RX6 66 Lib.Math.abs.name, Cond.methodLink RX6 60 yX6_leaveInRings, Cond.instanceMethod yX6_leaveInRings, Cond.selects RX6 yX6_leaveInRings yX6_leaveInRings, Cond.code yX6_leaveInRings cX6_leaveInRings 3 none, Cond.methodLink RX6 69 yX6_leastInRing, Cond.instanceMethod yX6_leastInRing, Cond.selects RX6 yX6_leastInRing yX6_leastInRing, Cond.code yX6_leastInRing cX6_leastInRing 5 (some .int), Cond.methodLink RX10 233 yX6_fieldFor, Cond.instanceMethod yX6_fieldFor, Cond.selects RX6 yX6_fieldFor yX6_fieldFor, Cond.code yX6_fieldFor cX6_fieldFor 2 (some .int), Cond.methodLink RL 84 yX11_rings, Cond.instanceMethod yX11_rings, Cond.selects RX11 yX11_rings yX11_rings, Cond.code yX11_rings cX11_rings 5 (some .int), Cond.methodLink RX11 272 yX11_isRow, Cond.instanceMethod yX11_isRow, Cond.selects RX11 yX11_isRow yX11_isRow, Cond.code yX11_isRow cX11_isRow 3 (some .boolean)]
def wsL_law_r34 : List Cond := [Cond.methodLink RX11 275 yX11_turns, Cond.instanceMethod yX11_turns, Cond.selects RX11 yX11_turns yX11_turns, Cond.code yX11_turns cX11_turns 7 (some .int), Cond.methodLink RX11 266 yX11_firstOf, Cond.instanceMethod yX11_firstOf, Cond.selects RX11 yX11_firstOf yX11_firstOf, Cond.code yX11_firstOf cX11_firstOf 3 (some .int), Cond.methodLink RX11 269 yX11_wanted, Cond.instanceMethod yX11_wanted, Cond.selects RX11 yX11_wanted yX11_wanted, Cond.code yX11_wanted cX11_wanted 6 (some .int), Cond.methodLink RL 85 yX10_swap, Cond.instanceMethod yX10_swap, Cond.selects RX10 yX10_swap yX10_swap, Cond.code yX10_swap cX10_swap 6 (some .int), Cond.methodLink RX10 236 yX6_changes, Cond.instanceMethod yX6_changes, Cond.selects RX6 yX6_changes yX6_changes, Cond.code yX6_changes cX6_changes 3 (some .int), Cond.methodLink RX10 240 yX6_winnerOf, Cond.instanceMethod yX6_winnerOf, Cond.selects RX6 yX6_winnerOf yX6_winnerOf, Cond.code yX6_winnerOf cX6_winnerOf 3 (some .int)]
def wsL_law_r35 : List Cond := [Cond.methodLink RL 88 yX11_swap, Cond.instanceMethod yX11_swap, Cond.selects RX11 yX11_swap yX11_swap, Cond.code yX11_swap cX11_swap 6 (some .int), Cond.methodLink RL 89 yX10_sell, Cond.instanceMethod yX10_sell, Cond.selects RX10 yX10_sell yX10_sell, Cond.code yX10_sell cX10_sell 4 (some .int), Cond.fieldLink RX10 243 "LandReform" "saleCount" "I", Cond.instantiable RX7 9, Cond.initialized RX7, Cond.methodLink RX10 252 yX7_init, Cond.instanceMethod yX7_init, Cond.code yX7_init cX7_init 5 none, Cond.methodLink RX7 3 objectInit, Cond.fieldLink RX7 9 "LandReform$Sale" "soldField" "I", Cond.fieldLink RX7 15 "LandReform$Sale" "buyer" "I", Cond.fieldLink RX7 18 "LandReform$Sale" "owed" "I", Cond.methodLink RX7 21 Lib.Math.max.name, Cond.fieldLink RX7 27 "LandReform$Sale" "partsLeft" "I", Cond.fieldLink RX7 30 "LandReform$Sale" "partsBeforeRest" "I", Cond.fieldLink RX7 33 "LandReform$Sale" "part" "I", Cond.fieldLink RX7 36 "LandReform$Sale" "rest" "I", Cond.methodLink RL 92 yX11_sell]
def wsL_law_r36 : List Cond := [Cond.instanceMethod yX11_sell, Cond.selects RX11 yX11_sell yX11_sell, Cond.code yX11_sell cX11_sell 3 (some .int), Cond.fieldLink RX11 278 "LandReformModel" "sales" "I", Cond.methodLink RL 93 yX10_year, Cond.instanceMethod yX10_year, Cond.selects RX10 yX10_year yX10_year, Cond.code yX10_year cX10_year 4 (some .int), Cond.methodLink RX10 255 yX10_saleNumbered, Cond.instanceMethod yX10_saleNumbered, Cond.selects RX10 yX10_saleNumbered yX10_saleNumbered, Cond.code yX10_saleNumbered cX10_saleNumbered 2 (some (.object "LandReform$Sale")), Cond.methodLink RX10 259 yX7_pass, Cond.instanceMethod yX7_pass, Cond.selects RX7 yX7_pass yX7_pass, Cond.code yX7_pass cX7_pass 4 (some .int), Cond.fieldLink RX7 39 "LandReform$Sale" "yearsPutOff" "I", Cond.fieldLink RX7 42 "LandReform$Sale" "paid" "I", Cond.methodLink RL 97 yX11_year, Cond.instanceMethod yX11_year, Cond.selects RX11 yX11_year yX11_year, Cond.code yX11_year cX11_year 6 (some .int), Cond.methodLink RL 98 yX10_sale, Cond.instanceMethod yX10_sale]
def wsL_law_r37 : List Cond := [Cond.selects RX10 yX10_sale yX10_sale, Cond.code yX10_sale cX10_sale 4 (some .int), Cond.methodLink RL 101 yX11_sale, Cond.instanceMethod yX11_sale, Cond.selects RX11 yX11_sale yX11_sale, Cond.code yX11_sale cX11_sale 3 (some .int), Cond.methodLink RL 102 yX10_count, Cond.instanceMethod yX10_count, Cond.selects RX10 yX10_count yX10_count, Cond.code yX10_count cX10_count 2 (some .int), Cond.methodLink RL 105 yX11_count, Cond.instanceMethod yX11_count, Cond.selects RX11 yX11_count yX11_count, Cond.code yX11_count cX11_count 2 (some .int)]
def wsL_law : List Cond := (wsL_law_r1 ++ (wsL_law_r2 ++ (wsL_law_r3 ++ (wsL_law_r4 ++ (wsL_law_r5 ++ (wsL_law_r6 ++ (wsL_law_r7 ++ (wsL_law_r8 ++ (wsL_law_r9 ++ (wsL_law_r10 ++ (wsL_law_r11 ++ (wsL_law_r12 ++ (wsL_law_r13 ++ (wsL_law_r14 ++ (wsL_law_r15 ++ (wsL_law_r16 ++ (wsL_law_r17 ++ (wsL_law_r18 ++ (wsL_law_r19 ++ (wsL_law_r20 ++ (wsL_law_r21 ++ (wsL_law_r22 ++ (wsL_law_r23 ++ (wsL_law_r24 ++ (wsL_law_r25 ++ (wsL_law_r26 ++ (wsL_law_r27 ++ (wsL_law_r28 ++ (wsL_law_r29 ++ (wsL_law_r30 ++ (wsL_law_r31 ++ (wsL_law_r32 ++ (wsL_law_r33 ++ (wsL_law_r34 ++ (wsL_law_r35 ++ (wsL_law_r36 ++ wsL_law_r37)))))))))))))))))))))))))))))))))))) ++ wsX100 ++ wsX110 ++ wsX40 ++ wsX20 ++ wsX80 ++ wsX50 ++ wsX10 ++ wsX90 ++ wsX00 ++ wsX60 ++ wsX30 ++ wsX70 ++ ([] : List Cond)
theorem inlX0 : ∀ w ∈ wsX00, w ∈ wsL_law := fun _ h => List.mem_append_left _ (List.mem_append_left _ (List.mem_append_left _ (List.mem_append_left _ (List.mem_append_right _ h))))
theorem inlX1 : ∀ w ∈ wsX10, w ∈ wsL_law := fun _ h => List.mem_append_left _ (List.mem_append_left _ (List.mem_append_left _ (List.mem_append_left _ (List.mem_append_left _ (List.mem_append_left _ (List.mem_append_right _ h))))))
theorem inlX2 : ∀ w ∈ wsX20, w ∈ wsL_law := fun _ h => List.mem_append_left _ (List.mem_append_left _ (List.mem_append_left _ (List.mem_append_left _ (List.mem_append_left _ (List.mem_append_left _ (List.mem_append_left _ (List.mem_append_left _ (List.mem_append_left _ (List.mem_append_right _ h)))))))))
theorem inlX3 : ∀ w ∈ wsX30, w ∈ wsL_law := fun _ h => List.mem_append_left _ (List.mem_append_left _ (List.mem_append_right _ h))
theorem inlX4 : ∀ w ∈ wsX40, w ∈ wsL_law := fun _ h => List.mem_append_left _ (List.mem_append_left _ (List.mem_append_left _ (List.mem_append_left _ (List.mem_append_left _ (List.mem_append_left _ (List.mem_append_left _ (List.mem_append_left _ (List.mem_append_left _ (List.mem_append_left _ (List.mem_append_right _ h))))))))))
theorem inlX5 : ∀ w ∈ wsX50, w ∈ wsL_law := fun _ h => List.mem_append_left _ (List.mem_append_left _ (List.mem_append_left _ (List.mem_append_left _ (List.mem_append_left _ (List.mem_append_left _ (List.mem_append_left _ (List.mem_append_right _ h)))))))
theorem inlX6 : ∀ w ∈ wsX60, w ∈ wsL_law := fun _ h => List.mem_append_left _ (List.mem_append_left _ (List.mem_append_left _ (List.mem_append_right _ h)))
theorem inlX7 : ∀ w ∈ wsX70, w ∈ wsL_law := fun _ h => List.mem_append_left _ (List.mem_append_right _ h)
theorem inlX8 : ∀ w ∈ wsX80, w ∈ wsL_law := fun _ h => List.mem_append_left _ (List.mem_append_left _ (List.mem_append_left _ (List.mem_append_left _ (List.mem_append_left _ (List.mem_append_left _ (List.mem_append_left _ (List.mem_append_left _ (List.mem_append_right _ h))))))))
theorem inlX9 : ∀ w ∈ wsX90, w ∈ wsL_law := fun _ h => List.mem_append_left _ (List.mem_append_left _ (List.mem_append_left _ (List.mem_append_left _ (List.mem_append_left _ (List.mem_append_right _ h)))))
theorem inlX10 : ∀ w ∈ wsX100, w ∈ wsL_law := fun _ h => List.mem_append_left _ (List.mem_append_left _ (List.mem_append_left _ (List.mem_append_left _ (List.mem_append_left _ (List.mem_append_left _ (List.mem_append_left _ (List.mem_append_left _ (List.mem_append_left _ (List.mem_append_left _ (List.mem_append_left _ (List.mem_append_left _ (List.mem_append_right _ h))))))))))))
theorem inlX11 : ∀ w ∈ wsX110, w ∈ wsL_law := fun _ h => List.mem_append_left _ (List.mem_append_left _ (List.mem_append_left _ (List.mem_append_left _ (List.mem_append_left _ (List.mem_append_left _ (List.mem_append_left _ (List.mem_append_left _ (List.mem_append_left _ (List.mem_append_left _ (List.mem_append_left _ (List.mem_append_right _ h)))))))))))
theorem inJ6 : ∀ w ∈ wsJ60, w ∈ lw_tbl := by decide +kernel
theorem inJ9 : ∀ w ∈ wsJ90, w ∈ lw_tbl := by decide +kernel
theorem inJ0 : ∀ w ∈ wsJ00, w ∈ lw_tbl := by decide +kernel
theorem inJ1 : ∀ w ∈ wsJ10, w ∈ lw_tbl := by decide +kernel
theorem inJ2 : ∀ w ∈ wsJ20, w ∈ lw_tbl := by decide +kernel
theorem inJ10 : ∀ w ∈ wsJ100, w ∈ lw_tbl := by decide +kernel
theorem inJ7 : ∀ w ∈ wsJ70, w ∈ lw_tbl := by decide +kernel
theorem inJ3 : ∀ w ∈ wsJ30, w ∈ lw_tbl := by decide +kernel
theorem dX0_init_0 : decode cX0_init 0 = .ok (.aload_n 0, 1) := by decide +kernel
theorem dX0_init_1 : decode cX0_init 1 = .ok (.invokespecial 3, 3) := by decide +kernel
theorem dX0_init_4 : decode cX0_init 4 = .ok (.aload_n 0, 1) := by decide +kernel
theorem dX0_init_5 : decode cX0_init 5 = .ok (.bipush 32, 2) := by decide +kernel
theorem dX0_init_7 : decode cX0_init 7 = .ok (.newarray .int, 2) := by decide +kernel
theorem dX0_init_9 : decode cX0_init 9 = .ok (.putfield 9, 3) := by decide +kernel
theorem dX0_init_12 : decode cX0_init 12 = .ok (.aload_n 0, 1) := by decide +kernel
theorem dX0_init_13 : decode cX0_init 13 = .ok (.iconst 5, 1) := by decide +kernel
theorem dX0_init_14 : decode cX0_init 14 = .ok (.iconst 5, 1) := by decide +kernel
theorem dX0_init_15 : decode cX0_init 15 = .ok (.multianewarray 15 2, 4) := by decide +kernel
theorem dX0_init_19 : decode cX0_init 19 = .ok (.putfield 17, 3) := by decide +kernel
theorem dX0_init_22 : decode cX0_init 22 = .ok (.return_, 1) := by decide +kernel
set_option maxRecDepth 20000 in
theorem ggX0_weigh_X4_homeOf : GoodIn wsX0_weigh wsX4_homeOf := goodIn_r _ [15, 16, 17, 18, 19, 14, 20, 21, 22, 23, 24, 63, 64, 65, 66, 67] (by decide +kernel) (by decide +kernel)
set_option maxRecDepth 20000 in
theorem gX0_weigh_X4_homeOf : GoodIn wsX0_weigh (wsV RX0 33 RX4 yX4_homeOf wsX4_homeOf) := goodIn_app (goodIn_of _ (by decide +kernel)) ggX0_weigh_X4_homeOf
set_option maxRecDepth 20000 in
theorem ggX0_weigh_X2_distance : GoodIn wsX0_weigh wsX2_distance := goodIn_r _ [29, 30, 31, 3, 32, 33, 34, 35, 28, 36, 37, 38, 39, 40, 41, 42, 22, 23, 24, 68, 69, 70, 71, 72, 73, 74, 75, 76, 77, 78, 79] (by decide +kernel) (by decide +kernel)
set_option maxRecDepth 20000 in
theorem gX0_weigh_X2_distance : GoodIn wsX0_weigh (wsV RX0 39 RX2 yX2_distance wsX2_distance) := goodIn_app (goodIn_of _ (by decide +kernel)) ggX0_weigh_X2_distance
set_option maxRecDepth 20000 in
theorem ggX0_weigh_X0_nearest : GoodIn wsX0_weigh wsX0_nearest := goodIn_r _ [47, 48, 8, 49, 50, 51, 46, 52, 9, 10, 53, 54, 55, 56, 57, 58, 59, 22, 23, 24, 60, 61, 62] (by decide +kernel) (by decide +kernel)
set_option maxRecDepth 20000 in
theorem gX0_weigh_X0_nearest : GoodIn wsX0_weigh (wsV RX0 44 RX0 yX0_nearest wsX0_nearest) := goodIn_app (goodIn_of _ (by decide +kernel)) ggX0_weigh_X0_nearest
set_option maxRecDepth 20000 in
theorem ggX0_weigh_X0_sumWith : GoodIn wsX0_weigh wsX0_sumWith := goodIn_r _ [52, 8, 9, 10, 53, 54, 55, 56, 57, 58, 59, 22, 23, 24, 60, 61, 62] (by decide +kernel) (by decide +kernel)
set_option maxRecDepth 20000 in
theorem gX0_weigh_X0_sumWith : GoodIn wsX0_weigh (wsV RX0 47 RX0 yX0_sumWith wsX0_sumWith) := goodIn_app (goodIn_of _ (by decide +kernel)) ggX0_weigh_X0_sumWith
theorem dX0_weigh_0 : decode cX0_weigh 0 = .ok (.aload_n 0, 1) := by decide +kernel
theorem dX0_weigh_1 : decode cX0_weigh 1 = .ok (.iconst 0, 1) := by decide +kernel
theorem dX0_weigh_2 : decode cX0_weigh 2 = .ok (.iload_n 3, 1) := by decide +kernel
theorem dX0_weigh_3 : decode cX0_weigh 3 = .ok (.iconst 5, 1) := by decide +kernel
theorem dX0_weigh_4 : decode cX0_weigh 4 = .ok (.invokestatic 20, 3) := by decide +kernel
theorem dX0_weigh_7 : decode cX0_weigh 7 = .ok (.invokestatic 26, 3) := by decide +kernel
theorem dX0_weigh_10 : decode cX0_weigh 10 = .ok (.putfield 29, 3) := by decide +kernel
theorem dX0_weigh_13 : decode cX0_weigh 13 = .ok (.iconst 0, 1) := by decide +kernel
theorem dX0_weigh_14 : decode cX0_weigh 14 = .ok (.istore 6, 2) := by decide +kernel
theorem dX0_weigh_16 : decode cX0_weigh 16 = .ok (.iload 6, 2) := by decide +kernel
theorem dX0_weigh_18 : decode cX0_weigh 18 = .ok (.aload_n 0, 1) := by decide +kernel
theorem dX0_weigh_19 : decode cX0_weigh 19 = .ok (.getfield 29, 3) := by decide +kernel
theorem dX0_weigh_22 : decode cX0_weigh 22 = .ok (.if_icmp .ge 55, 3) := by decide +kernel
theorem dX0_weigh_25 : decode cX0_weigh 25 = .ok (.iconst 0, 1) := by decide +kernel
theorem dX0_weigh_26 : decode cX0_weigh 26 = .ok (.istore 7, 2) := by decide +kernel
theorem dX0_weigh_28 : decode cX0_weigh 28 = .ok (.iload 7, 2) := by decide +kernel
theorem dX0_weigh_30 : decode cX0_weigh 30 = .ok (.aload_n 0, 1) := by decide +kernel
theorem dX0_weigh_31 : decode cX0_weigh 31 = .ok (.getfield 29, 3) := by decide +kernel
theorem dX0_weigh_34 : decode cX0_weigh 34 = .ok (.if_icmp .ge 37, 3) := by decide +kernel
theorem dX0_weigh_37 : decode cX0_weigh 37 = .ok (.aload_n 0, 1) := by decide +kernel
theorem dX0_weigh_38 : decode cX0_weigh 38 = .ok (.getfield 17, 3) := by decide +kernel
theorem dX0_weigh_41 : decode cX0_weigh 41 = .ok (.iload 6, 2) := by decide +kernel
theorem dX0_weigh_43 : decode cX0_weigh 43 = .ok (.aaload, 1) := by decide +kernel
theorem dX0_weigh_44 : decode cX0_weigh 44 = .ok (.iload 7, 2) := by decide +kernel
theorem dX0_weigh_46 : decode cX0_weigh 46 = .ok (.aload 4, 2) := by decide +kernel
theorem dX0_weigh_48 : decode cX0_weigh 48 = .ok (.iload_n 1, 1) := by decide +kernel
theorem dX0_weigh_49 : decode cX0_weigh 49 = .ok (.iload 6, 2) := by decide +kernel
theorem dX0_weigh_51 : decode cX0_weigh 51 = .ok (.iadd, 1) := by decide +kernel
theorem dX0_weigh_52 : decode cX0_weigh 52 = .ok (.aload 5, 2) := by decide +kernel
theorem dX0_weigh_54 : decode cX0_weigh 54 = .ok (.iload_n 2, 1) := by decide +kernel
theorem dX0_weigh_55 : decode cX0_weigh 55 = .ok (.iload 7, 2) := by decide +kernel
theorem dX0_weigh_57 : decode cX0_weigh 57 = .ok (.iadd, 1) := by decide +kernel
theorem dX0_weigh_58 : decode cX0_weigh 58 = .ok (.invokevirtual 33, 3) := by decide +kernel
theorem dX0_weigh_61 : decode cX0_weigh 61 = .ok (.invokevirtual 39, 3) := by decide +kernel
theorem dX0_weigh_64 : decode cX0_weigh 64 = .ok (.iastore, 1) := by decide +kernel
theorem dX0_weigh_65 : decode cX0_weigh 65 = .ok (.iinc 7 1, 3) := by decide +kernel
theorem dX0_weigh_68 : decode cX0_weigh 68 = .ok (.goto (-40), 3) := by decide +kernel
theorem dX0_weigh_71 : decode cX0_weigh 71 = .ok (.iinc 6 1, 3) := by decide +kernel
theorem dX0_weigh_74 : decode cX0_weigh 74 = .ok (.goto (-58), 3) := by decide +kernel
theorem dX0_weigh_77 : decode cX0_weigh 77 = .ok (.aload_n 0, 1) := by decide +kernel
theorem dX0_weigh_78 : decode cX0_weigh 78 = .ok (.getfield 9, 3) := by decide +kernel
theorem dX0_weigh_81 : decode cX0_weigh 81 = .ok (.iconst 0, 1) := by decide +kernel
theorem dX0_weigh_82 : decode cX0_weigh 82 = .ok (.iconst 0, 1) := by decide +kernel
theorem dX0_weigh_83 : decode cX0_weigh 83 = .ok (.iastore, 1) := by decide +kernel
theorem dX0_weigh_84 : decode cX0_weigh 84 = .ok (.iconst 1, 1) := by decide +kernel
theorem dX0_weigh_85 : decode cX0_weigh 85 = .ok (.istore 6, 2) := by decide +kernel
theorem dX0_weigh_87 : decode cX0_weigh 87 = .ok (.iload 6, 2) := by decide +kernel
theorem dX0_weigh_89 : decode cX0_weigh 89 = .ok (.iconst 1, 1) := by decide +kernel
theorem dX0_weigh_90 : decode cX0_weigh 90 = .ok (.aload_n 0, 1) := by decide +kernel
theorem dX0_weigh_91 : decode cX0_weigh 91 = .ok (.getfield 29, 3) := by decide +kernel
theorem dX0_weigh_94 : decode cX0_weigh 94 = .ok (.ishl, 1) := by decide +kernel
theorem dX0_weigh_95 : decode cX0_weigh 95 = .ok (.if_icmp .ge 28, 3) := by decide +kernel
theorem dX0_weigh_98 : decode cX0_weigh 98 = .ok (.aload_n 0, 1) := by decide +kernel
theorem dX0_weigh_99 : decode cX0_weigh 99 = .ok (.getfield 9, 3) := by decide +kernel
theorem dX0_weigh_102 : decode cX0_weigh 102 = .ok (.iload 6, 2) := by decide +kernel
theorem dX0_weigh_104 : decode cX0_weigh 104 = .ok (.aload_n 0, 1) := by decide +kernel
theorem dX0_weigh_105 : decode cX0_weigh 105 = .ok (.iload 6, 2) := by decide +kernel
theorem dX0_weigh_107 : decode cX0_weigh 107 = .ok (.aload_n 0, 1) := by decide +kernel
theorem dX0_weigh_108 : decode cX0_weigh 108 = .ok (.iload 6, 2) := by decide +kernel
theorem dX0_weigh_110 : decode cX0_weigh 110 = .ok (.invokevirtual 44, 3) := by decide +kernel
theorem dX0_weigh_113 : decode cX0_weigh 113 = .ok (.invokevirtual 47, 3) := by decide +kernel
theorem dX0_weigh_116 : decode cX0_weigh 116 = .ok (.iastore, 1) := by decide +kernel
theorem dX0_weigh_117 : decode cX0_weigh 117 = .ok (.iinc 6 1, 3) := by decide +kernel
theorem dX0_weigh_120 : decode cX0_weigh 120 = .ok (.goto (-33), 3) := by decide +kernel
theorem dX0_weigh_123 : decode cX0_weigh 123 = .ok (.return_, 1) := by decide +kernel
theorem dX0_leastSum_0 : decode cX0_leastSum 0 = .ok (.aload_n 0, 1) := by decide +kernel
theorem dX0_leastSum_1 : decode cX0_leastSum 1 = .ok (.getfield 9, 3) := by decide +kernel
theorem dX0_leastSum_4 : decode cX0_leastSum 4 = .ok (.iconst 1, 1) := by decide +kernel
theorem dX0_leastSum_5 : decode cX0_leastSum 5 = .ok (.aload_n 0, 1) := by decide +kernel
theorem dX0_leastSum_6 : decode cX0_leastSum 6 = .ok (.getfield 29, 3) := by decide +kernel
theorem dX0_leastSum_9 : decode cX0_leastSum 9 = .ok (.ishl, 1) := by decide +kernel
theorem dX0_leastSum_10 : decode cX0_leastSum 10 = .ok (.iconst 1, 1) := by decide +kernel
theorem dX0_leastSum_11 : decode cX0_leastSum 11 = .ok (.isub, 1) := by decide +kernel
theorem dX0_leastSum_12 : decode cX0_leastSum 12 = .ok (.iaload, 1) := by decide +kernel
theorem dX0_leastSum_13 : decode cX0_leastSum 13 = .ok (.ireturn, 1) := by decide +kernel
set_option maxRecDepth 20000 in
theorem ggX0_choice_X0_nearest : GoodIn wsX0_choice wsX0_nearest := goodIn_r _ [6, 7, 1, 8, 9, 10, 5, 11, 12, 13, 14, 15, 16, 17, 18, 19, 20, 21, 22, 23, 24, 25, 26] (by decide +kernel) (by decide +kernel)
set_option maxRecDepth 20000 in
theorem gX0_choice_X0_nearest : GoodIn wsX0_choice (wsV RX0 44 RX0 yX0_nearest wsX0_nearest) := goodIn_app (goodIn_of _ (by decide +kernel)) ggX0_choice_X0_nearest
theorem dX0_choice_0 : decode cX0_choice 0 = .ok (.iconst 1, 1) := by decide +kernel
theorem dX0_choice_1 : decode cX0_choice 1 = .ok (.aload_n 0, 1) := by decide +kernel
theorem dX0_choice_2 : decode cX0_choice 2 = .ok (.getfield 29, 3) := by decide +kernel
theorem dX0_choice_5 : decode cX0_choice 5 = .ok (.ishl, 1) := by decide +kernel
theorem dX0_choice_6 : decode cX0_choice 6 = .ok (.iconst 1, 1) := by decide +kernel
theorem dX0_choice_7 : decode cX0_choice 7 = .ok (.isub, 1) := by decide +kernel
theorem dX0_choice_8 : decode cX0_choice 8 = .ok (.istore_n 2, 1) := by decide +kernel
theorem dX0_choice_9 : decode cX0_choice 9 = .ok (.iconst 0, 1) := by decide +kernel
theorem dX0_choice_10 : decode cX0_choice 10 = .ok (.istore_n 3, 1) := by decide +kernel
theorem dX0_choice_11 : decode cX0_choice 11 = .ok (.iload_n 3, 1) := by decide +kernel
theorem dX0_choice_12 : decode cX0_choice 12 = .ok (.iload_n 1, 1) := by decide +kernel
theorem dX0_choice_13 : decode cX0_choice 13 = .ok (.if_icmp .ge 29, 3) := by decide +kernel
theorem dX0_choice_16 : decode cX0_choice 16 = .ok (.iload_n 3, 1) := by decide +kernel
theorem dX0_choice_17 : decode cX0_choice 17 = .ok (.aload_n 0, 1) := by decide +kernel
theorem dX0_choice_18 : decode cX0_choice 18 = .ok (.getfield 29, 3) := by decide +kernel
theorem dX0_choice_21 : decode cX0_choice 21 = .ok (.if_icmp .ge 21, 3) := by decide +kernel
theorem dX0_choice_24 : decode cX0_choice 24 = .ok (.iload_n 2, 1) := by decide +kernel
theorem dX0_choice_25 : decode cX0_choice 25 = .ok (.iconst 1, 1) := by decide +kernel
theorem dX0_choice_26 : decode cX0_choice 26 = .ok (.aload_n 0, 1) := by decide +kernel
theorem dX0_choice_27 : decode cX0_choice 27 = .ok (.iload_n 2, 1) := by decide +kernel
theorem dX0_choice_28 : decode cX0_choice 28 = .ok (.invokevirtual 44, 3) := by decide +kernel
theorem dX0_choice_31 : decode cX0_choice 31 = .ok (.ishl, 1) := by decide +kernel
theorem dX0_choice_32 : decode cX0_choice 32 = .ok (.iconst (-1), 1) := by decide +kernel
theorem dX0_choice_33 : decode cX0_choice 33 = .ok (.ixor, 1) := by decide +kernel
theorem dX0_choice_34 : decode cX0_choice 34 = .ok (.iand, 1) := by decide +kernel
theorem dX0_choice_35 : decode cX0_choice 35 = .ok (.istore_n 2, 1) := by decide +kernel
theorem dX0_choice_36 : decode cX0_choice 36 = .ok (.iinc 3 1, 3) := by decide +kernel
theorem dX0_choice_39 : decode cX0_choice 39 = .ok (.goto (-28), 3) := by decide +kernel
theorem dX0_choice_42 : decode cX0_choice 42 = .ok (.aload_n 0, 1) := by decide +kernel
theorem dX0_choice_43 : decode cX0_choice 43 = .ok (.iload_n 2, 1) := by decide +kernel
theorem dX0_choice_44 : decode cX0_choice 44 = .ok (.invokevirtual 44, 3) := by decide +kernel
theorem dX0_choice_47 : decode cX0_choice 47 = .ok (.ireturn, 1) := by decide +kernel
set_option maxRecDepth 20000 in
theorem ggX0_nearest_X0_sumWith : GoodIn wsX0_nearest wsX0_sumWith := goodIn_r _ [7, 2, 8, 9, 10, 11, 12, 13, 14, 15, 16, 17, 18, 19, 20, 21, 22] (by decide +kernel) (by decide +kernel)
set_option maxRecDepth 20000 in
theorem gX0_nearest_X0_sumWith : GoodIn wsX0_nearest (wsV RX0 47 RX0 yX0_sumWith wsX0_sumWith) := goodIn_app (goodIn_of _ (by decide +kernel)) ggX0_nearest_X0_sumWith
theorem dX0_nearest_0 : decode cX0_nearest 0 = .ok (.iconst 0, 1) := by decide +kernel
theorem dX0_nearest_1 : decode cX0_nearest 1 = .ok (.istore_n 2, 1) := by decide +kernel
theorem dX0_nearest_2 : decode cX0_nearest 2 = .ok (.ldc 52, 2) := by decide +kernel
theorem dX0_nearest_4 : decode cX0_nearest 4 = .ok (.istore_n 3, 1) := by decide +kernel
theorem dX0_nearest_5 : decode cX0_nearest 5 = .ok (.iconst 0, 1) := by decide +kernel
theorem dX0_nearest_6 : decode cX0_nearest 6 = .ok (.istore 4, 2) := by decide +kernel
theorem dX0_nearest_8 : decode cX0_nearest 8 = .ok (.iload 4, 2) := by decide +kernel
theorem dX0_nearest_10 : decode cX0_nearest 10 = .ok (.aload_n 0, 1) := by decide +kernel
theorem dX0_nearest_11 : decode cX0_nearest 11 = .ok (.getfield 29, 3) := by decide +kernel
theorem dX0_nearest_14 : decode cX0_nearest 14 = .ok (.if_icmp .ge 41, 3) := by decide +kernel
theorem dX0_nearest_17 : decode cX0_nearest 17 = .ok (.iload_n 1, 1) := by decide +kernel
theorem dX0_nearest_18 : decode cX0_nearest 18 = .ok (.iload 4, 2) := by decide +kernel
theorem dX0_nearest_20 : decode cX0_nearest 20 = .ok (.ishr, 1) := by decide +kernel
theorem dX0_nearest_21 : decode cX0_nearest 21 = .ok (.iconst 1, 1) := by decide +kernel
theorem dX0_nearest_22 : decode cX0_nearest 22 = .ok (.iand, 1) := by decide +kernel
theorem dX0_nearest_23 : decode cX0_nearest 23 = .ok (.iconst 1, 1) := by decide +kernel
theorem dX0_nearest_24 : decode cX0_nearest 24 = .ok (.if_icmp .ne 25, 3) := by decide +kernel
theorem dX0_nearest_27 : decode cX0_nearest 27 = .ok (.aload_n 0, 1) := by decide +kernel
theorem dX0_nearest_28 : decode cX0_nearest 28 = .ok (.iload_n 1, 1) := by decide +kernel
theorem dX0_nearest_29 : decode cX0_nearest 29 = .ok (.iload 4, 2) := by decide +kernel
theorem dX0_nearest_31 : decode cX0_nearest 31 = .ok (.invokevirtual 47, 3) := by decide +kernel
theorem dX0_nearest_34 : decode cX0_nearest 34 = .ok (.iload_n 3, 1) := by decide +kernel
theorem dX0_nearest_35 : decode cX0_nearest 35 = .ok (.if_icmp .ge 14, 3) := by decide +kernel
theorem dX0_nearest_38 : decode cX0_nearest 38 = .ok (.iload 4, 2) := by decide +kernel
theorem dX0_nearest_40 : decode cX0_nearest 40 = .ok (.istore_n 2, 1) := by decide +kernel
theorem dX0_nearest_41 : decode cX0_nearest 41 = .ok (.aload_n 0, 1) := by decide +kernel
theorem dX0_nearest_42 : decode cX0_nearest 42 = .ok (.iload_n 1, 1) := by decide +kernel
theorem dX0_nearest_43 : decode cX0_nearest 43 = .ok (.iload 4, 2) := by decide +kernel
theorem dX0_nearest_45 : decode cX0_nearest 45 = .ok (.invokevirtual 47, 3) := by decide +kernel
theorem dX0_nearest_48 : decode cX0_nearest 48 = .ok (.istore_n 3, 1) := by decide +kernel
theorem dX0_nearest_49 : decode cX0_nearest 49 = .ok (.iinc 4 1, 3) := by decide +kernel
theorem dX0_nearest_52 : decode cX0_nearest 52 = .ok (.goto (-44), 3) := by decide +kernel
theorem dX0_nearest_55 : decode cX0_nearest 55 = .ok (.iload_n 2, 1) := by decide +kernel
theorem dX0_nearest_56 : decode cX0_nearest 56 = .ok (.ireturn, 1) := by decide +kernel
set_option maxRecDepth 20000 in
theorem ggX0_sumWith_J6_bitCount_0f7a4 : GoodIn wsX0_sumWith wsJ6_bitCount_0f7a4 := goodIn_r _ [7, 8, 9, 10] (by decide +kernel) (by decide +kernel)
set_option maxRecDepth 20000 in
theorem gX0_sumWith_J6_bitCount_0f7a4 : GoodIn wsX0_sumWith (va_wsS RX0 53 yJ6_bitCount_0f7a4 wsJ6_bitCount_0f7a4) := goodIn_app (goodIn_of _ (by decide +kernel)) ggX0_sumWith_J6_bitCount_0f7a4
set_option maxRecDepth 20000 in
theorem ggX0_sumWith_X10_isBelow : GoodIn wsX0_sumWith wsX10_isBelow := goodIn_r _ [13] (by decide +kernel) (by decide +kernel)
set_option maxRecDepth 20000 in
theorem gX0_sumWith_X10_isBelow_n56 : GoodIn wsX0_sumWith (wsX10_isBelow) := ggX0_sumWith_X10_isBelow
theorem dX0_sumWith_0 : decode cX0_sumWith 0 = .ok (.aload_n 0, 1) := by decide +kernel
theorem dX0_sumWith_1 : decode cX0_sumWith 1 = .ok (.getfield 29, 3) := by decide +kernel
theorem dX0_sumWith_4 : decode cX0_sumWith 4 = .ok (.iload_n 1, 1) := by decide +kernel
theorem dX0_sumWith_5 : decode cX0_sumWith 5 = .ok (.invokestatic 53, 3) := by decide +kernel
theorem dX0_sumWith_8 : decode cX0_sumWith 8 = .ok (.isub, 1) := by decide +kernel
theorem dX0_sumWith_9 : decode cX0_sumWith 9 = .ok (.istore_n 3, 1) := by decide +kernel
theorem dX0_sumWith_10 : decode cX0_sumWith 10 = .ok (.iload_n 3, 1) := by decide +kernel
theorem dX0_sumWith_11 : decode cX0_sumWith 11 = .ok (.iconst 5, 1) := by decide +kernel
theorem dX0_sumWith_12 : decode cX0_sumWith 12 = .ok (.invokestatic 56, 3) := by decide +kernel
theorem dX0_sumWith_15 : decode cX0_sumWith 15 = .ok (.ifCond .eq 11, 3) := by decide +kernel
theorem dX0_sumWith_18 : decode cX0_sumWith 18 = .ok (.iload_n 2, 1) := by decide +kernel
theorem dX0_sumWith_19 : decode cX0_sumWith 19 = .ok (.iconst 5, 1) := by decide +kernel
theorem dX0_sumWith_20 : decode cX0_sumWith 20 = .ok (.invokestatic 56, 3) := by decide +kernel
theorem dX0_sumWith_23 : decode cX0_sumWith 23 = .ok (.ifCond .ne 5, 3) := by decide +kernel
theorem dX0_sumWith_26 : decode cX0_sumWith 26 = .ok (.iconst 0, 1) := by decide +kernel
theorem dX0_sumWith_27 : decode cX0_sumWith 27 = .ok (.ireturn, 1) := by decide +kernel
theorem dX0_sumWith_28 : decode cX0_sumWith 28 = .ok (.aload_n 0, 1) := by decide +kernel
theorem dX0_sumWith_29 : decode cX0_sumWith 29 = .ok (.getfield 17, 3) := by decide +kernel
theorem dX0_sumWith_32 : decode cX0_sumWith 32 = .ok (.iload_n 3, 1) := by decide +kernel
theorem dX0_sumWith_33 : decode cX0_sumWith 33 = .ok (.aaload, 1) := by decide +kernel
theorem dX0_sumWith_34 : decode cX0_sumWith 34 = .ok (.iload_n 2, 1) := by decide +kernel
theorem dX0_sumWith_35 : decode cX0_sumWith 35 = .ok (.iaload, 1) := by decide +kernel
theorem dX0_sumWith_36 : decode cX0_sumWith 36 = .ok (.aload_n 0, 1) := by decide +kernel
theorem dX0_sumWith_37 : decode cX0_sumWith 37 = .ok (.getfield 9, 3) := by decide +kernel
theorem dX0_sumWith_40 : decode cX0_sumWith 40 = .ok (.iload_n 1, 1) := by decide +kernel
theorem dX0_sumWith_41 : decode cX0_sumWith 41 = .ok (.iconst 1, 1) := by decide +kernel
theorem dX0_sumWith_42 : decode cX0_sumWith 42 = .ok (.iload_n 2, 1) := by decide +kernel
theorem dX0_sumWith_43 : decode cX0_sumWith 43 = .ok (.ishl, 1) := by decide +kernel
theorem dX0_sumWith_44 : decode cX0_sumWith 44 = .ok (.iconst (-1), 1) := by decide +kernel
theorem dX0_sumWith_45 : decode cX0_sumWith 45 = .ok (.ixor, 1) := by decide +kernel
theorem dX0_sumWith_46 : decode cX0_sumWith 46 = .ok (.iand, 1) := by decide +kernel
theorem dX0_sumWith_47 : decode cX0_sumWith 47 = .ok (.iaload, 1) := by decide +kernel
theorem dX0_sumWith_48 : decode cX0_sumWith 48 = .ok (.iadd, 1) := by decide +kernel
theorem dX0_sumWith_49 : decode cX0_sumWith 49 = .ok (.ireturn, 1) := by decide +kernel
theorem dX1_init_0 : decode cX1_init 0 = .ok (.aload_n 0, 1) := by decide +kernel
theorem dX1_init_1 : decode cX1_init 1 = .ok (.invokespecial 3, 3) := by decide +kernel
theorem dX1_init_4 : decode cX1_init 4 = .ok (.aload_n 0, 1) := by decide +kernel
theorem dX1_init_5 : decode cX1_init 5 = .ok (.bipush 60, 2) := by decide +kernel
theorem dX1_init_7 : decode cX1_init 7 = .ok (.newarray .int, 2) := by decide +kernel
theorem dX1_init_9 : decode cX1_init 9 = .ok (.putfield 9, 3) := by decide +kernel
theorem dX1_init_12 : decode cX1_init 12 = .ok (.aload_n 0, 1) := by decide +kernel
theorem dX1_init_13 : decode cX1_init 13 = .ok (.bipush 60, 2) := by decide +kernel
theorem dX1_init_15 : decode cX1_init 15 = .ok (.newarray .int, 2) := by decide +kernel
theorem dX1_init_17 : decode cX1_init 17 = .ok (.putfield 15, 3) := by decide +kernel
theorem dX1_init_20 : decode cX1_init 20 = .ok (.aload_n 0, 1) := by decide +kernel
theorem dX1_init_21 : decode cX1_init 21 = .ok (.bipush 12, 2) := by decide +kernel
theorem dX1_init_23 : decode cX1_init 23 = .ok (.newarray .int, 2) := by decide +kernel
theorem dX1_init_25 : decode cX1_init 25 = .ok (.putfield 18, 3) := by decide +kernel
theorem dX1_init_28 : decode cX1_init 28 = .ok (.aload_n 0, 1) := by decide +kernel
theorem dX1_init_29 : decode cX1_init 29 = .ok (.bipush 12, 2) := by decide +kernel
theorem dX1_init_31 : decode cX1_init 31 = .ok (.newarray .int, 2) := by decide +kernel
theorem dX1_init_33 : decode cX1_init 33 = .ok (.putfield 21, 3) := by decide +kernel
theorem dX1_init_36 : decode cX1_init 36 = .ok (.return_, 1) := by decide +kernel
set_option maxRecDepth 20000 in
theorem ggX1_countedOwner_X1_countOwners : GoodIn wsX1_countedOwner wsX1_countOwners := goodIn_r _ [6, 1, 7, 8, 9, 10, 11, 12, 13, 14, 15, 16, 17, 18, 19, 20, 21, 22, 23, 24, 25, 26, 27, 28, 29, 30, 31, 32, 33, 34, 35, 36, 37, 38, 39, 40, 41, 42, 43, 44, 45, 46, 47, 48, 49, 50, 51, 52, 53, 54, 55, 56, 57, 58, 59, 60, 61, 62, 63, 64, 65, 66, 67, 68, 69] (by decide +kernel) (by decide +kernel)
set_option maxRecDepth 20000 in
theorem gX1_countedOwner_X1_countOwners : GoodIn wsX1_countedOwner (wsV RX1 24 RX1 yX1_countOwners wsX1_countOwners) := goodIn_app (goodIn_of _ (by decide +kernel)) ggX1_countedOwner_X1_countOwners
set_option maxRecDepth 20000 in
theorem ggX1_countedOwner_X10_isBelow : GoodIn wsX1_countedOwner wsX10_isBelow := goodIn_r _ [13] (by decide +kernel) (by decide +kernel)
set_option maxRecDepth 20000 in
theorem gX1_countedOwner_X10_isBelow_n34 : GoodIn wsX1_countedOwner (wsX10_isBelow) := ggX1_countedOwner_X10_isBelow
theorem dX1_countedOwner_0 : decode cX1_countedOwner 0 = .ok (.aload_n 0, 1) := by decide +kernel
theorem dX1_countedOwner_1 : decode cX1_countedOwner 1 = .ok (.aload_n 2, 1) := by decide +kernel
theorem dX1_countedOwner_2 : decode cX1_countedOwner 2 = .ok (.aload_n 3, 1) := by decide +kernel
theorem dX1_countedOwner_3 : decode cX1_countedOwner 3 = .ok (.aload 4, 2) := by decide +kernel
theorem dX1_countedOwner_5 : decode cX1_countedOwner 5 = .ok (.invokevirtual 24, 3) := by decide +kernel
theorem dX1_countedOwner_8 : decode cX1_countedOwner 8 = .ok (.iload_n 1, 1) := by decide +kernel
theorem dX1_countedOwner_9 : decode cX1_countedOwner 9 = .ok (.aload_n 2, 1) := by decide +kernel
theorem dX1_countedOwner_10 : decode cX1_countedOwner 10 = .ok (.getfield 28, 3) := by decide +kernel
theorem dX1_countedOwner_13 : decode cX1_countedOwner 13 = .ok (.invokestatic 34, 3) := by decide +kernel
theorem dX1_countedOwner_16 : decode cX1_countedOwner 16 = .ok (.ifCond .eq 12, 3) := by decide +kernel
theorem dX1_countedOwner_19 : decode cX1_countedOwner 19 = .ok (.aload_n 0, 1) := by decide +kernel
theorem dX1_countedOwner_20 : decode cX1_countedOwner 20 = .ok (.getfield 9, 3) := by decide +kernel
theorem dX1_countedOwner_23 : decode cX1_countedOwner 23 = .ok (.iload_n 1, 1) := by decide +kernel
theorem dX1_countedOwner_24 : decode cX1_countedOwner 24 = .ok (.iaload, 1) := by decide +kernel
theorem dX1_countedOwner_25 : decode cX1_countedOwner 25 = .ok (.goto 4, 3) := by decide +kernel
theorem dX1_countedOwner_28 : decode cX1_countedOwner 28 = .ok (.iconst (-1), 1) := by decide +kernel
theorem dX1_countedOwner_29 : decode cX1_countedOwner 29 = .ok (.ireturn, 1) := by decide +kernel
set_option maxRecDepth 20000 in
theorem ggX1_countOwners_X10_isBelow : GoodIn wsX1_countOwners wsX10_isBelow := goodIn_r _ [8] (by decide +kernel) (by decide +kernel)
set_option maxRecDepth 20000 in
theorem gX1_countOwners_X10_isBelow_n34 : GoodIn wsX1_countOwners (wsX10_isBelow) := ggX1_countOwners_X10_isBelow
set_option maxRecDepth 20000 in
theorem ggX1_countOwners_X4_areOfOneFamily : GoodIn wsX1_countOwners wsX4_areOfOneFamily := goodIn_r _ [13, 14, 15, 16, 12, 17, 18, 19, 20, 21, 22, 23, 6, 7, 8, 24, 25, 26, 27, 28, 60, 61, 62, 63, 64] (by decide +kernel) (by decide +kernel)
set_option maxRecDepth 20000 in
theorem gX1_countOwners_X4_areOfOneFamily : GoodIn wsX1_countOwners (wsV RX1 64 RX4 yX4_areOfOneFamily wsX4_areOfOneFamily) := goodIn_app (goodIn_of _ (by decide +kernel)) ggX1_countOwners_X4_areOfOneFamily
theorem dX1_countOwners_0 : decode cX1_countOwners 0 = .ok (.aload_n 1, 1) := by decide +kernel
theorem dX1_countOwners_1 : decode cX1_countOwners 1 = .ok (.getfield 38, 3) := by decide +kernel
theorem dX1_countOwners_4 : decode cX1_countOwners 4 = .ok (.iconst 0, 1) := by decide +kernel
theorem dX1_countOwners_5 : decode cX1_countOwners 5 = .ok (.aload_n 0, 1) := by decide +kernel
theorem dX1_countOwners_6 : decode cX1_countOwners 6 = .ok (.getfield 9, 3) := by decide +kernel
theorem dX1_countOwners_9 : decode cX1_countOwners 9 = .ok (.iconst 0, 1) := by decide +kernel
theorem dX1_countOwners_10 : decode cX1_countOwners 10 = .ok (.aload_n 1, 1) := by decide +kernel
theorem dX1_countOwners_11 : decode cX1_countOwners 11 = .ok (.getfield 28, 3) := by decide +kernel
theorem dX1_countOwners_14 : decode cX1_countOwners 14 = .ok (.invokestatic 41, 3) := by decide +kernel
theorem dX1_countOwners_17 : decode cX1_countOwners 17 = .ok (.iconst 0, 1) := by decide +kernel
theorem dX1_countOwners_18 : decode cX1_countOwners 18 = .ok (.istore 4, 2) := by decide +kernel
theorem dX1_countOwners_20 : decode cX1_countOwners 20 = .ok (.iload 4, 2) := by decide +kernel
theorem dX1_countOwners_22 : decode cX1_countOwners 22 = .ok (.aload_n 1, 1) := by decide +kernel
theorem dX1_countOwners_23 : decode cX1_countOwners 23 = .ok (.getfield 47, 3) := by decide +kernel
theorem dX1_countOwners_26 : decode cX1_countOwners 26 = .ok (.if_icmp .ge 93, 3) := by decide +kernel
theorem dX1_countOwners_29 : decode cX1_countOwners 29 = .ok (.aload_n 1, 1) := by decide +kernel
theorem dX1_countOwners_30 : decode cX1_countOwners 30 = .ok (.getfield 50, 3) := by decide +kernel
theorem dX1_countOwners_33 : decode cX1_countOwners 33 = .ok (.iload 4, 2) := by decide +kernel
theorem dX1_countOwners_35 : decode cX1_countOwners 35 = .ok (.iaload, 1) := by decide +kernel
theorem dX1_countOwners_36 : decode cX1_countOwners 36 = .ok (.istore 5, 2) := by decide +kernel
theorem dX1_countOwners_38 : decode cX1_countOwners 38 = .ok (.aload_n 1, 1) := by decide +kernel
theorem dX1_countOwners_39 : decode cX1_countOwners 39 = .ok (.getfield 53, 3) := by decide +kernel
theorem dX1_countOwners_42 : decode cX1_countOwners 42 = .ok (.iload 4, 2) := by decide +kernel
theorem dX1_countOwners_44 : decode cX1_countOwners 44 = .ok (.iaload, 1) := by decide +kernel
theorem dX1_countOwners_45 : decode cX1_countOwners 45 = .ok (.istore 6, 2) := by decide +kernel
theorem dX1_countOwners_47 : decode cX1_countOwners 47 = .ok (.iload 5, 2) := by decide +kernel
theorem dX1_countOwners_49 : decode cX1_countOwners 49 = .ok (.aload_n 1, 1) := by decide +kernel
theorem dX1_countOwners_50 : decode cX1_countOwners 50 = .ok (.getfield 28, 3) := by decide +kernel
theorem dX1_countOwners_53 : decode cX1_countOwners 53 = .ok (.invokestatic 34, 3) := by decide +kernel
theorem dX1_countOwners_56 : decode cX1_countOwners 56 = .ok (.ifCond .ne 6, 3) := by decide +kernel
theorem dX1_countOwners_59 : decode cX1_countOwners 59 = .ok (.goto 54, 3) := by decide +kernel
theorem dX1_countOwners_62 : decode cX1_countOwners 62 = .ok (.aload_n 1, 1) := by decide +kernel
theorem dX1_countOwners_63 : decode cX1_countOwners 63 = .ok (.getfield 56, 3) := by decide +kernel
theorem dX1_countOwners_66 : decode cX1_countOwners 66 = .ok (.iload 4, 2) := by decide +kernel
theorem dX1_countOwners_68 : decode cX1_countOwners 68 = .ok (.iaload, 1) := by decide +kernel
theorem dX1_countOwners_69 : decode cX1_countOwners 69 = .ok (.aload_n 3, 1) := by decide +kernel
theorem dX1_countOwners_70 : decode cX1_countOwners 70 = .ok (.getfield 59, 3) := by decide +kernel
theorem dX1_countOwners_73 : decode cX1_countOwners 73 = .ok (.if_icmp .gt 7, 3) := by decide +kernel
theorem dX1_countOwners_76 : decode cX1_countOwners 76 = .ok (.iconst 1, 1) := by decide +kernel
theorem dX1_countOwners_77 : decode cX1_countOwners 77 = .ok (.goto 4, 3) := by decide +kernel
theorem dX1_countOwners_80 : decode cX1_countOwners 80 = .ok (.iconst 0, 1) := by decide +kernel
theorem dX1_countOwners_81 : decode cX1_countOwners 81 = .ok (.istore 7, 2) := by decide +kernel
theorem dX1_countOwners_83 : decode cX1_countOwners 83 = .ok (.iload 7, 2) := by decide +kernel
theorem dX1_countOwners_85 : decode cX1_countOwners 85 = .ok (.ifCond .ne 19, 3) := by decide +kernel
theorem dX1_countOwners_88 : decode cX1_countOwners 88 = .ok (.aload_n 2, 1) := by decide +kernel
theorem dX1_countOwners_89 : decode cX1_countOwners 89 = .ok (.iload 6, 2) := by decide +kernel
theorem dX1_countOwners_91 : decode cX1_countOwners 91 = .ok (.aload_n 0, 1) := by decide +kernel
theorem dX1_countOwners_92 : decode cX1_countOwners 92 = .ok (.getfield 9, 3) := by decide +kernel
theorem dX1_countOwners_95 : decode cX1_countOwners 95 = .ok (.iload 5, 2) := by decide +kernel
theorem dX1_countOwners_97 : decode cX1_countOwners 97 = .ok (.iaload, 1) := by decide +kernel
theorem dX1_countOwners_98 : decode cX1_countOwners 98 = .ok (.invokevirtual 64, 3) := by decide +kernel
theorem dX1_countOwners_101 : decode cX1_countOwners 101 = .ok (.ifCond .ne 12, 3) := by decide +kernel
theorem dX1_countOwners_104 : decode cX1_countOwners 104 = .ok (.aload_n 0, 1) := by decide +kernel
theorem dX1_countOwners_105 : decode cX1_countOwners 105 = .ok (.getfield 9, 3) := by decide +kernel
theorem dX1_countOwners_108 : decode cX1_countOwners 108 = .ok (.iload 5, 2) := by decide +kernel
theorem dX1_countOwners_110 : decode cX1_countOwners 110 = .ok (.iload 6, 2) := by decide +kernel
theorem dX1_countOwners_112 : decode cX1_countOwners 112 = .ok (.iastore, 1) := by decide +kernel
theorem dX1_countOwners_113 : decode cX1_countOwners 113 = .ok (.iinc 4 1, 3) := by decide +kernel
theorem dX1_countOwners_116 : decode cX1_countOwners 116 = .ok (.goto (-96), 3) := by decide +kernel
theorem dX1_countOwners_119 : decode cX1_countOwners 119 = .ok (.return_, 1) := by decide +kernel
set_option maxRecDepth 20000 in
theorem ggX1_gather_X1_countOwners : GoodIn wsX1_gather wsX1_countOwners := goodIn_r _ [11, 3, 12, 13, 14, 15, 16, 17, 18, 19, 20, 21, 22, 23, 24, 25, 26, 27, 28, 29, 30, 31, 32, 33, 34, 35, 36, 37, 38, 95, 96, 97, 98, 99, 100, 101, 102, 103, 104, 105, 106, 85, 86, 87, 88, 89, 90, 91, 92, 93, 94, 107, 108, 109, 110, 111, 112, 113, 114, 115, 116, 117, 118, 119, 120] (by decide +kernel) (by decide +kernel)
set_option maxRecDepth 20000 in
theorem gX1_gather_X1_countOwners : GoodIn wsX1_gather (wsV RX1 24 RX1 yX1_countOwners wsX1_countOwners) := goodIn_app (goodIn_of _ (by decide +kernel)) ggX1_gather_X1_countOwners
set_option maxRecDepth 20000 in
theorem ggX1_gather_X4_houseOf : GoodIn wsX1_gather wsX4_houseOf := goodIn_r _ [27, 28, 29, 30, 31, 22, 32, 33, 16, 17, 18, 116, 117, 118, 119, 120] (by decide +kernel) (by decide +kernel)
set_option maxRecDepth 20000 in
theorem gX1_gather_X4_houseOf : GoodIn wsX1_gather (wsV RX1 73 RX4 yX4_houseOf wsX4_houseOf) := goodIn_app (goodIn_of _ (by decide +kernel)) ggX1_gather_X4_houseOf
set_option maxRecDepth 20000 in
theorem ggX1_gather_X3_exempts : GoodIn wsX1_gather wsX3_exempts := goodIn_r _ [44, 45, 16, 17, 18, 107, 108, 109, 110, 111, 112, 113, 114, 115] (by decide +kernel) (by decide +kernel)
set_option maxRecDepth 20000 in
theorem gX1_gather_X3_exempts : GoodIn wsX1_gather (wsV RX1 80 RX3 yX3_exempts wsX3_exempts) := goodIn_app (goodIn_of _ (by decide +kernel)) ggX1_gather_X3_exempts
set_option maxRecDepth 20000 in
theorem ggX1_gather_X2_standardOf : GoodIn wsX1_gather wsX2_standardOf := goodIn_r _ [50, 51, 52, 53, 49, 54, 55, 56, 57, 58, 59, 60, 16, 17, 18, 61, 62, 63, 64, 65, 66, 67, 68, 43, 69, 70, 95, 96, 97, 98, 99, 100, 101, 102, 103, 104, 105, 106, 107, 108, 109, 110, 111, 112, 113, 114, 115] (by decide +kernel) (by decide +kernel)
set_option maxRecDepth 20000 in
theorem gX1_gather_X2_standardOf : GoodIn wsX1_gather (wsV RX1 84 RX2 yX2_standardOf wsX2_standardOf) := goodIn_app (goodIn_of _ (by decide +kernel)) ggX1_gather_X2_standardOf
set_option maxRecDepth 20000 in
theorem ggX1_gather_X4_membersOf : GoodIn wsX1_gather wsX4_membersOf := goodIn_r _ [74, 33, 28, 116, 117, 118, 119, 120] (by decide +kernel) (by decide +kernel)
set_option maxRecDepth 20000 in
theorem gX1_gather_X4_membersOf : GoodIn wsX1_gather (wsV RX1 88 RX4 yX4_membersOf wsX4_membersOf) := goodIn_app (goodIn_of _ (by decide +kernel)) ggX1_gather_X4_membersOf
set_option maxRecDepth 20000 in
theorem ggX1_gather_X3_allows : GoodIn wsX1_gather wsX3_allows := goodIn_r _ [78, 79, 80, 81, 82, 83, 84, 107, 108, 109, 110, 111, 112, 113, 114, 115] (by decide +kernel) (by decide +kernel)
set_option maxRecDepth 20000 in
theorem gX1_gather_X3_allows : GoodIn wsX1_gather (wsV RX1 94 RX3 yX3_allows wsX3_allows) := goodIn_app (goodIn_of _ (by decide +kernel)) ggX1_gather_X3_allows
theorem dX1_gather_0 : decode cX1_gather 0 = .ok (.aload_n 0, 1) := by decide +kernel
theorem dX1_gather_1 : decode cX1_gather 1 = .ok (.aload_n 2, 1) := by decide +kernel
theorem dX1_gather_2 : decode cX1_gather 2 = .ok (.aload_n 3, 1) := by decide +kernel
theorem dX1_gather_3 : decode cX1_gather 3 = .ok (.aload 4, 2) := by decide +kernel
theorem dX1_gather_5 : decode cX1_gather 5 = .ok (.invokevirtual 24, 3) := by decide +kernel
theorem dX1_gather_8 : decode cX1_gather 8 = .ok (.aload_n 0, 1) := by decide +kernel
theorem dX1_gather_9 : decode cX1_gather 9 = .ok (.iconst 0, 1) := by decide +kernel
theorem dX1_gather_10 : decode cX1_gather 10 = .ok (.putfield 69, 3) := by decide +kernel
theorem dX1_gather_13 : decode cX1_gather 13 = .ok (.aload_n 0, 1) := by decide +kernel
theorem dX1_gather_14 : decode cX1_gather 14 = .ok (.iconst 0, 1) := by decide +kernel
theorem dX1_gather_15 : decode cX1_gather 15 = .ok (.putfield 70, 3) := by decide +kernel
theorem dX1_gather_18 : decode cX1_gather 18 = .ok (.iconst 0, 1) := by decide +kernel
theorem dX1_gather_19 : decode cX1_gather 19 = .ok (.istore 5, 2) := by decide +kernel
theorem dX1_gather_21 : decode cX1_gather 21 = .ok (.iload 5, 2) := by decide +kernel
theorem dX1_gather_23 : decode cX1_gather 23 = .ok (.aload_n 2, 1) := by decide +kernel
theorem dX1_gather_24 : decode cX1_gather 24 = .ok (.getfield 28, 3) := by decide +kernel
theorem dX1_gather_27 : decode cX1_gather 27 = .ok (.if_icmp .ge 77, 3) := by decide +kernel
theorem dX1_gather_30 : decode cX1_gather 30 = .ok (.aload_n 3, 1) := by decide +kernel
theorem dX1_gather_31 : decode cX1_gather 31 = .ok (.aload_n 0, 1) := by decide +kernel
theorem dX1_gather_32 : decode cX1_gather 32 = .ok (.getfield 9, 3) := by decide +kernel
theorem dX1_gather_35 : decode cX1_gather 35 = .ok (.iload 5, 2) := by decide +kernel
theorem dX1_gather_37 : decode cX1_gather 37 = .ok (.iaload, 1) := by decide +kernel
theorem dX1_gather_38 : decode cX1_gather 38 = .ok (.invokevirtual 73, 3) := by decide +kernel
theorem dX1_gather_41 : decode cX1_gather 41 = .ok (.iload_n 1, 1) := by decide +kernel
theorem dX1_gather_42 : decode cX1_gather 42 = .ok (.if_icmp .ne 56, 3) := by decide +kernel
theorem dX1_gather_45 : decode cX1_gather 45 = .ok (.aload 4, 2) := by decide +kernel
theorem dX1_gather_47 : decode cX1_gather 47 = .ok (.aload_n 2, 1) := by decide +kernel
theorem dX1_gather_48 : decode cX1_gather 48 = .ok (.getfield 77, 3) := by decide +kernel
theorem dX1_gather_51 : decode cX1_gather 51 = .ok (.iload 5, 2) := by decide +kernel
theorem dX1_gather_53 : decode cX1_gather 53 = .ok (.iaload, 1) := by decide +kernel
theorem dX1_gather_54 : decode cX1_gather 54 = .ok (.invokevirtual 80, 3) := by decide +kernel
theorem dX1_gather_57 : decode cX1_gather 57 = .ok (.ifCond .ne 41, 3) := by decide +kernel
theorem dX1_gather_60 : decode cX1_gather 60 = .ok (.aload_n 0, 1) := by decide +kernel
theorem dX1_gather_61 : decode cX1_gather 61 = .ok (.getfield 15, 3) := by decide +kernel
theorem dX1_gather_64 : decode cX1_gather 64 = .ok (.aload_n 0, 1) := by decide +kernel
theorem dX1_gather_65 : decode cX1_gather 65 = .ok (.getfield 69, 3) := by decide +kernel
theorem dX1_gather_68 : decode cX1_gather 68 = .ok (.iload 5, 2) := by decide +kernel
theorem dX1_gather_70 : decode cX1_gather 70 = .ok (.iastore, 1) := by decide +kernel
theorem dX1_gather_71 : decode cX1_gather 71 = .ok (.aload_n 0, 1) := by decide +kernel
theorem dX1_gather_72 : decode cX1_gather 72 = .ok (.dup, 1) := by decide +kernel
theorem dX1_gather_73 : decode cX1_gather 73 = .ok (.getfield 69, 3) := by decide +kernel
theorem dX1_gather_76 : decode cX1_gather 76 = .ok (.iconst 1, 1) := by decide +kernel
theorem dX1_gather_77 : decode cX1_gather 77 = .ok (.iadd, 1) := by decide +kernel
theorem dX1_gather_78 : decode cX1_gather 78 = .ok (.putfield 69, 3) := by decide +kernel
theorem dX1_gather_81 : decode cX1_gather 81 = .ok (.aload_n 0, 1) := by decide +kernel
theorem dX1_gather_82 : decode cX1_gather 82 = .ok (.dup, 1) := by decide +kernel
theorem dX1_gather_83 : decode cX1_gather 83 = .ok (.getfield 70, 3) := by decide +kernel
theorem dX1_gather_86 : decode cX1_gather 86 = .ok (.aload_n 2, 1) := by decide +kernel
theorem dX1_gather_87 : decode cX1_gather 87 = .ok (.iload 5, 2) := by decide +kernel
theorem dX1_gather_89 : decode cX1_gather 89 = .ok (.aload 4, 2) := by decide +kernel
theorem dX1_gather_91 : decode cX1_gather 91 = .ok (.invokevirtual 84, 3) := by decide +kernel
theorem dX1_gather_94 : decode cX1_gather 94 = .ok (.iadd, 1) := by decide +kernel
theorem dX1_gather_95 : decode cX1_gather 95 = .ok (.putfield 70, 3) := by decide +kernel
theorem dX1_gather_98 : decode cX1_gather 98 = .ok (.iinc 5 1, 3) := by decide +kernel
theorem dX1_gather_101 : decode cX1_gather 101 = .ok (.goto (-80), 3) := by decide +kernel
theorem dX1_gather_104 : decode cX1_gather 104 = .ok (.aload_n 0, 1) := by decide +kernel
theorem dX1_gather_105 : decode cX1_gather 105 = .ok (.aload_n 3, 1) := by decide +kernel
theorem dX1_gather_106 : decode cX1_gather 106 = .ok (.iload_n 1, 1) := by decide +kernel
theorem dX1_gather_107 : decode cX1_gather 107 = .ok (.invokevirtual 88, 3) := by decide +kernel
theorem dX1_gather_110 : decode cX1_gather 110 = .ok (.putfield 91, 3) := by decide +kernel
theorem dX1_gather_113 : decode cX1_gather 113 = .ok (.aload_n 0, 1) := by decide +kernel
theorem dX1_gather_114 : decode cX1_gather 114 = .ok (.aload 4, 2) := by decide +kernel
theorem dX1_gather_116 : decode cX1_gather 116 = .ok (.aload_n 0, 1) := by decide +kernel
theorem dX1_gather_117 : decode cX1_gather 117 = .ok (.getfield 91, 3) := by decide +kernel
theorem dX1_gather_120 : decode cX1_gather 120 = .ok (.invokevirtual 94, 3) := by decide +kernel
theorem dX1_gather_123 : decode cX1_gather 123 = .ok (.putfield 97, 3) := by decide +kernel
theorem dX1_gather_126 : decode cX1_gather 126 = .ok (.return_, 1) := by decide +kernel
theorem dX1_above_0 : decode cX1_above 0 = .ok (.iconst 0, 1) := by decide +kernel
theorem dX1_above_1 : decode cX1_above 1 = .ok (.aload_n 0, 1) := by decide +kernel
theorem dX1_above_2 : decode cX1_above 2 = .ok (.getfield 70, 3) := by decide +kernel
theorem dX1_above_5 : decode cX1_above 5 = .ok (.aload_n 0, 1) := by decide +kernel
theorem dX1_above_6 : decode cX1_above 6 = .ok (.getfield 97, 3) := by decide +kernel
theorem dX1_above_9 : decode cX1_above 9 = .ok (.isub, 1) := by decide +kernel
theorem dX1_above_10 : decode cX1_above 10 = .ok (.invokestatic 100, 3) := by decide +kernel
theorem dX1_above_13 : decode cX1_above 13 = .ok (.ireturn, 1) := by decide +kernel
set_option maxRecDepth 20000 in
theorem ggX1_choose_X1_prepareSteps : GoodIn wsX1_choose wsX1_prepareSteps := goodIn_r _ [11, 1, 12, 4, 5, 13, 14, 15, 16, 17, 18, 19, 20, 21, 22, 23, 24, 25, 26, 27, 28, 29, 30, 31, 32, 33, 34, 35, 36, 37, 38, 39, 40, 41, 42, 48, 49, 50, 51, 52, 53, 54, 55, 56, 57, 58, 59, 60, 61, 62, 63, 64, 65, 66, 67, 68, 69, 70, 71, 72, 73, 74, 75, 76, 77, 78] (by decide +kernel) (by decide +kernel)
set_option maxRecDepth 20000 in
theorem gX1_choose_X1_prepareSteps : GoodIn wsX1_choose (wsV RX1 106 RX1 yX1_prepareSteps wsX1_prepareSteps) := goodIn_app (goodIn_of _ (by decide +kernel)) ggX1_choose_X1_prepareSteps
set_option maxRecDepth 20000 in
theorem ggX1_choose_J6_numberOfTrailingZeros_0f7a4 : GoodIn wsX1_choose wsJ6_numberOfTrailingZeros_0f7a4 := goodIn_r _ [46, 47] (by decide +kernel) (by decide +kernel)
set_option maxRecDepth 20000 in
theorem gX1_choose_J6_numberOfTrailingZeros_0f7a4 : GoodIn wsX1_choose (va_wsS RX1 116 yJ6_numberOfTrailingZeros_0f7a4 wsJ6_numberOfTrailingZeros_0f7a4) := goodIn_app (goodIn_of _ (by decide +kernel)) ggX1_choose_J6_numberOfTrailingZeros_0f7a4
theorem dX1_choose_0 : decode cX1_choose 0 = .ok (.aload_n 0, 1) := by decide +kernel
theorem dX1_choose_1 : decode cX1_choose 1 = .ok (.getfield 69, 3) := by decide +kernel
theorem dX1_choose_4 : decode cX1_choose 4 = .ok (.bipush 12, 2) := by decide +kernel
theorem dX1_choose_6 : decode cX1_choose 6 = .ok (.if_icmp .le 5, 3) := by decide +kernel
theorem dX1_choose_9 : decode cX1_choose 9 = .ok (.iconst 0, 1) := by decide +kernel
theorem dX1_choose_10 : decode cX1_choose 10 = .ok (.ireturn, 1) := by decide +kernel
theorem dX1_choose_11 : decode cX1_choose 11 = .ok (.aload_n 0, 1) := by decide +kernel
theorem dX1_choose_12 : decode cX1_choose 12 = .ok (.aload_n 1, 1) := by decide +kernel
theorem dX1_choose_13 : decode cX1_choose 13 = .ok (.aload_n 2, 1) := by decide +kernel
theorem dX1_choose_14 : decode cX1_choose 14 = .ok (.invokevirtual 106, 3) := by decide +kernel
theorem dX1_choose_17 : decode cX1_choose 17 = .ok (.aload_n 0, 1) := by decide +kernel
theorem dX1_choose_18 : decode cX1_choose 18 = .ok (.iconst 0, 1) := by decide +kernel
theorem dX1_choose_19 : decode cX1_choose 19 = .ok (.putfield 110, 3) := by decide +kernel
theorem dX1_choose_22 : decode cX1_choose 22 = .ok (.aload_n 0, 1) := by decide +kernel
theorem dX1_choose_23 : decode cX1_choose 23 = .ok (.iconst 0, 1) := by decide +kernel
theorem dX1_choose_24 : decode cX1_choose 24 = .ok (.putfield 113, 3) := by decide +kernel
theorem dX1_choose_27 : decode cX1_choose 27 = .ok (.iconst 0, 1) := by decide +kernel
theorem dX1_choose_28 : decode cX1_choose 28 = .ok (.istore_n 3, 1) := by decide +kernel
theorem dX1_choose_29 : decode cX1_choose 29 = .ok (.iconst 0, 1) := by decide +kernel
theorem dX1_choose_30 : decode cX1_choose 30 = .ok (.istore 4, 2) := by decide +kernel
theorem dX1_choose_32 : decode cX1_choose 32 = .ok (.iconst 1, 1) := by decide +kernel
theorem dX1_choose_33 : decode cX1_choose 33 = .ok (.aload_n 0, 1) := by decide +kernel
theorem dX1_choose_34 : decode cX1_choose 34 = .ok (.getfield 69, 3) := by decide +kernel
theorem dX1_choose_37 : decode cX1_choose 37 = .ok (.ishl, 1) := by decide +kernel
theorem dX1_choose_38 : decode cX1_choose 38 = .ok (.istore 5, 2) := by decide +kernel
theorem dX1_choose_40 : decode cX1_choose 40 = .ok (.iconst 1, 1) := by decide +kernel
theorem dX1_choose_41 : decode cX1_choose 41 = .ok (.istore 6, 2) := by decide +kernel
theorem dX1_choose_43 : decode cX1_choose 43 = .ok (.iload 6, 2) := by decide +kernel
theorem dX1_choose_45 : decode cX1_choose 45 = .ok (.iload 5, 2) := by decide +kernel
theorem dX1_choose_47 : decode cX1_choose 47 = .ok (.if_icmp .ge 76, 3) := by decide +kernel
theorem dX1_choose_50 : decode cX1_choose 50 = .ok (.iload 6, 2) := by decide +kernel
theorem dX1_choose_52 : decode cX1_choose 52 = .ok (.invokestatic 116, 3) := by decide +kernel
theorem dX1_choose_55 : decode cX1_choose 55 = .ok (.istore 7, 2) := by decide +kernel
theorem dX1_choose_57 : decode cX1_choose 57 = .ok (.iload 7, 2) := by decide +kernel
theorem dX1_choose_59 : decode cX1_choose 59 = .ok (.bipush 12, 2) := by decide +kernel
theorem dX1_choose_61 : decode cX1_choose 61 = .ok (.if_icmp .lt 5, 3) := by decide +kernel
theorem dX1_choose_64 : decode cX1_choose 64 = .ok (.iconst 0, 1) := by decide +kernel
theorem dX1_choose_65 : decode cX1_choose 65 = .ok (.ireturn, 1) := by decide +kernel
theorem dX1_choose_66 : decode cX1_choose 66 = .ok (.iload_n 3, 1) := by decide +kernel
theorem dX1_choose_67 : decode cX1_choose 67 = .ok (.aload_n 0, 1) := by decide +kernel
theorem dX1_choose_68 : decode cX1_choose 68 = .ok (.getfield 18, 3) := by decide +kernel
theorem dX1_choose_71 : decode cX1_choose 71 = .ok (.iload 7, 2) := by decide +kernel
theorem dX1_choose_73 : decode cX1_choose 73 = .ok (.iaload, 1) := by decide +kernel
theorem dX1_choose_74 : decode cX1_choose 74 = .ok (.iadd, 1) := by decide +kernel
theorem dX1_choose_75 : decode cX1_choose 75 = .ok (.istore_n 3, 1) := by decide +kernel
theorem dX1_choose_76 : decode cX1_choose 76 = .ok (.iload 4, 2) := by decide +kernel
theorem dX1_choose_78 : decode cX1_choose 78 = .ok (.aload_n 0, 1) := by decide +kernel
theorem dX1_choose_79 : decode cX1_choose 79 = .ok (.getfield 21, 3) := by decide +kernel
theorem dX1_choose_82 : decode cX1_choose 82 = .ok (.iload 7, 2) := by decide +kernel
theorem dX1_choose_84 : decode cX1_choose 84 = .ok (.iaload, 1) := by decide +kernel
theorem dX1_choose_85 : decode cX1_choose 85 = .ok (.iadd, 1) := by decide +kernel
theorem dX1_choose_86 : decode cX1_choose 86 = .ok (.istore 4, 2) := by decide +kernel
theorem dX1_choose_88 : decode cX1_choose 88 = .ok (.iload_n 3, 1) := by decide +kernel
theorem dX1_choose_89 : decode cX1_choose 89 = .ok (.aload_n 0, 1) := by decide +kernel
theorem dX1_choose_90 : decode cX1_choose 90 = .ok (.getfield 97, 3) := by decide +kernel
theorem dX1_choose_93 : decode cX1_choose 93 = .ok (.if_icmp .gt 24, 3) := by decide +kernel
theorem dX1_choose_96 : decode cX1_choose 96 = .ok (.iload 4, 2) := by decide +kernel
theorem dX1_choose_98 : decode cX1_choose 98 = .ok (.aload_n 0, 1) := by decide +kernel
theorem dX1_choose_99 : decode cX1_choose 99 = .ok (.getfield 113, 3) := by decide +kernel
theorem dX1_choose_102 : decode cX1_choose 102 = .ok (.if_icmp .le 15, 3) := by decide +kernel
theorem dX1_choose_105 : decode cX1_choose 105 = .ok (.aload_n 0, 1) := by decide +kernel
theorem dX1_choose_106 : decode cX1_choose 106 = .ok (.iload 6, 2) := by decide +kernel
theorem dX1_choose_108 : decode cX1_choose 108 = .ok (.putfield 110, 3) := by decide +kernel
theorem dX1_choose_111 : decode cX1_choose 111 = .ok (.aload_n 0, 1) := by decide +kernel
theorem dX1_choose_112 : decode cX1_choose 112 = .ok (.iload 4, 2) := by decide +kernel
theorem dX1_choose_114 : decode cX1_choose 114 = .ok (.putfield 113, 3) := by decide +kernel
theorem dX1_choose_117 : decode cX1_choose 117 = .ok (.iinc 6 1, 3) := by decide +kernel
theorem dX1_choose_120 : decode cX1_choose 120 = .ok (.goto (-77), 3) := by decide +kernel
theorem dX1_choose_123 : decode cX1_choose 123 = .ok (.iconst 1, 1) := by decide +kernel
theorem dX1_choose_124 : decode cX1_choose 124 = .ok (.ireturn, 1) := by decide +kernel
set_option maxRecDepth 20000 in
theorem ggX1_prepareSteps_X2_standardOf : GoodIn wsX1_prepareSteps wsX2_standardOf := goodIn_r _ [9, 10, 11, 12, 8, 13, 14, 15, 16, 17, 18, 19, 20, 21, 22, 23, 24, 25, 26, 27, 28, 29, 30, 31, 32, 33, 45, 46, 47, 48, 49, 50, 51, 52, 53, 54, 55, 56, 57, 58, 59, 60, 61, 62, 63, 64, 65] (by decide +kernel) (by decide +kernel)
set_option maxRecDepth 20000 in
theorem gX1_prepareSteps_X2_standardOf : GoodIn wsX1_prepareSteps (wsV RX1 84 RX2 yX2_standardOf wsX2_standardOf) := goodIn_app (goodIn_of _ (by decide +kernel)) ggX1_prepareSteps_X2_standardOf
set_option maxRecDepth 20000 in
theorem ggX1_prepareSteps_X2_areaOf : GoodIn wsX1_prepareSteps wsX2_areaOf := goodIn_r _ [13, 14, 15, 16, 17, 8, 18, 19, 20, 21, 22, 45, 46, 47, 48, 49, 50, 51, 52, 53, 54, 55, 56] (by decide +kernel) (by decide +kernel)
set_option maxRecDepth 20000 in
theorem gX1_prepareSteps_X2_areaOf : GoodIn wsX1_prepareSteps (wsV RX1 121 RX2 yX2_areaOf wsX2_areaOf) := goodIn_app (goodIn_of _ (by decide +kernel)) ggX1_prepareSteps_X2_areaOf
theorem dX1_prepareSteps_0 : decode cX1_prepareSteps 0 = .ok (.iconst 0, 1) := by decide +kernel
theorem dX1_prepareSteps_1 : decode cX1_prepareSteps 1 = .ok (.istore_n 3, 1) := by decide +kernel
theorem dX1_prepareSteps_2 : decode cX1_prepareSteps 2 = .ok (.iconst 0, 1) := by decide +kernel
theorem dX1_prepareSteps_3 : decode cX1_prepareSteps 3 = .ok (.istore 4, 2) := by decide +kernel
theorem dX1_prepareSteps_5 : decode cX1_prepareSteps 5 = .ok (.iconst 0, 1) := by decide +kernel
theorem dX1_prepareSteps_6 : decode cX1_prepareSteps 6 = .ok (.istore 5, 2) := by decide +kernel
theorem dX1_prepareSteps_8 : decode cX1_prepareSteps 8 = .ok (.iload 5, 2) := by decide +kernel
theorem dX1_prepareSteps_10 : decode cX1_prepareSteps 10 = .ok (.aload_n 0, 1) := by decide +kernel
theorem dX1_prepareSteps_11 : decode cX1_prepareSteps 11 = .ok (.getfield 69, 3) := by decide +kernel
theorem dX1_prepareSteps_14 : decode cX1_prepareSteps 14 = .ok (.if_icmp .ge 78, 3) := by decide +kernel
theorem dX1_prepareSteps_17 : decode cX1_prepareSteps 17 = .ok (.iload 5, 2) := by decide +kernel
theorem dX1_prepareSteps_19 : decode cX1_prepareSteps 19 = .ok (.bipush 12, 2) := by decide +kernel
theorem dX1_prepareSteps_21 : decode cX1_prepareSteps 21 = .ok (.if_icmp .ge 71, 3) := by decide +kernel
theorem dX1_prepareSteps_24 : decode cX1_prepareSteps 24 = .ok (.aload_n 1, 1) := by decide +kernel
theorem dX1_prepareSteps_25 : decode cX1_prepareSteps 25 = .ok (.aload_n 0, 1) := by decide +kernel
theorem dX1_prepareSteps_26 : decode cX1_prepareSteps 26 = .ok (.getfield 15, 3) := by decide +kernel
theorem dX1_prepareSteps_29 : decode cX1_prepareSteps 29 = .ok (.iload 5, 2) := by decide +kernel
theorem dX1_prepareSteps_31 : decode cX1_prepareSteps 31 = .ok (.iaload, 1) := by decide +kernel
theorem dX1_prepareSteps_32 : decode cX1_prepareSteps 32 = .ok (.aload_n 2, 1) := by decide +kernel
theorem dX1_prepareSteps_33 : decode cX1_prepareSteps 33 = .ok (.invokevirtual 84, 3) := by decide +kernel
theorem dX1_prepareSteps_36 : decode cX1_prepareSteps 36 = .ok (.istore 6, 2) := by decide +kernel
theorem dX1_prepareSteps_38 : decode cX1_prepareSteps 38 = .ok (.aload_n 1, 1) := by decide +kernel
theorem dX1_prepareSteps_39 : decode cX1_prepareSteps 39 = .ok (.aload_n 0, 1) := by decide +kernel
theorem dX1_prepareSteps_40 : decode cX1_prepareSteps 40 = .ok (.getfield 15, 3) := by decide +kernel
theorem dX1_prepareSteps_43 : decode cX1_prepareSteps 43 = .ok (.iload 5, 2) := by decide +kernel
theorem dX1_prepareSteps_45 : decode cX1_prepareSteps 45 = .ok (.iaload, 1) := by decide +kernel
theorem dX1_prepareSteps_46 : decode cX1_prepareSteps 46 = .ok (.invokevirtual 121, 3) := by decide +kernel
theorem dX1_prepareSteps_49 : decode cX1_prepareSteps 49 = .ok (.istore 7, 2) := by decide +kernel
theorem dX1_prepareSteps_51 : decode cX1_prepareSteps 51 = .ok (.aload_n 0, 1) := by decide +kernel
theorem dX1_prepareSteps_52 : decode cX1_prepareSteps 52 = .ok (.getfield 18, 3) := by decide +kernel
theorem dX1_prepareSteps_55 : decode cX1_prepareSteps 55 = .ok (.iload 5, 2) := by decide +kernel
theorem dX1_prepareSteps_57 : decode cX1_prepareSteps 57 = .ok (.iload 6, 2) := by decide +kernel
theorem dX1_prepareSteps_59 : decode cX1_prepareSteps 59 = .ok (.iload_n 3, 1) := by decide +kernel
theorem dX1_prepareSteps_60 : decode cX1_prepareSteps 60 = .ok (.isub, 1) := by decide +kernel
theorem dX1_prepareSteps_61 : decode cX1_prepareSteps 61 = .ok (.iastore, 1) := by decide +kernel
theorem dX1_prepareSteps_62 : decode cX1_prepareSteps 62 = .ok (.aload_n 0, 1) := by decide +kernel
theorem dX1_prepareSteps_63 : decode cX1_prepareSteps 63 = .ok (.getfield 21, 3) := by decide +kernel
theorem dX1_prepareSteps_66 : decode cX1_prepareSteps 66 = .ok (.iload 5, 2) := by decide +kernel
theorem dX1_prepareSteps_68 : decode cX1_prepareSteps 68 = .ok (.iload 7, 2) := by decide +kernel
theorem dX1_prepareSteps_70 : decode cX1_prepareSteps 70 = .ok (.iload 4, 2) := by decide +kernel
theorem dX1_prepareSteps_72 : decode cX1_prepareSteps 72 = .ok (.isub, 1) := by decide +kernel
theorem dX1_prepareSteps_73 : decode cX1_prepareSteps 73 = .ok (.iastore, 1) := by decide +kernel
theorem dX1_prepareSteps_74 : decode cX1_prepareSteps 74 = .ok (.iload_n 3, 1) := by decide +kernel
theorem dX1_prepareSteps_75 : decode cX1_prepareSteps 75 = .ok (.iload 6, 2) := by decide +kernel
theorem dX1_prepareSteps_77 : decode cX1_prepareSteps 77 = .ok (.iadd, 1) := by decide +kernel
theorem dX1_prepareSteps_78 : decode cX1_prepareSteps 78 = .ok (.istore_n 3, 1) := by decide +kernel
theorem dX1_prepareSteps_79 : decode cX1_prepareSteps 79 = .ok (.iload 4, 2) := by decide +kernel
theorem dX1_prepareSteps_81 : decode cX1_prepareSteps 81 = .ok (.iload 7, 2) := by decide +kernel
theorem dX1_prepareSteps_83 : decode cX1_prepareSteps 83 = .ok (.iadd, 1) := by decide +kernel
theorem dX1_prepareSteps_84 : decode cX1_prepareSteps 84 = .ok (.istore 4, 2) := by decide +kernel
theorem dX1_prepareSteps_86 : decode cX1_prepareSteps 86 = .ok (.iinc 5 1, 3) := by decide +kernel
theorem dX1_prepareSteps_89 : decode cX1_prepareSteps 89 = .ok (.goto (-81), 3) := by decide +kernel
theorem dX1_prepareSteps_92 : decode cX1_prepareSteps 92 = .ok (.return_, 1) := by decide +kernel
set_option maxRecDepth 20000 in
theorem ggX1_keeps_X10_isBelow : GoodIn wsX1_keeps wsX10_isBelow := goodIn_r _ [5] (by decide +kernel) (by decide +kernel)
set_option maxRecDepth 20000 in
theorem gX1_keeps_X10_isBelow_n34 : GoodIn wsX1_keeps (wsX10_isBelow) := ggX1_keeps_X10_isBelow
theorem dX1_keeps_0 : decode cX1_keeps 0 = .ok (.iload_n 1, 1) := by decide +kernel
theorem dX1_keeps_1 : decode cX1_keeps 1 = .ok (.aload_n 0, 1) := by decide +kernel
theorem dX1_keeps_2 : decode cX1_keeps 2 = .ok (.getfield 69, 3) := by decide +kernel
theorem dX1_keeps_5 : decode cX1_keeps 5 = .ok (.invokestatic 34, 3) := by decide +kernel
theorem dX1_keeps_8 : decode cX1_keeps 8 = .ok (.ifCond .eq 19, 3) := by decide +kernel
theorem dX1_keeps_11 : decode cX1_keeps 11 = .ok (.aload_n 0, 1) := by decide +kernel
theorem dX1_keeps_12 : decode cX1_keeps 12 = .ok (.getfield 110, 3) := by decide +kernel
theorem dX1_keeps_15 : decode cX1_keeps 15 = .ok (.iload_n 1, 1) := by decide +kernel
theorem dX1_keeps_16 : decode cX1_keeps 16 = .ok (.ishr, 1) := by decide +kernel
theorem dX1_keeps_17 : decode cX1_keeps 17 = .ok (.iconst 1, 1) := by decide +kernel
theorem dX1_keeps_18 : decode cX1_keeps 18 = .ok (.iand, 1) := by decide +kernel
theorem dX1_keeps_19 : decode cX1_keeps 19 = .ok (.iconst 1, 1) := by decide +kernel
theorem dX1_keeps_20 : decode cX1_keeps 20 = .ok (.if_icmp .ne 7, 3) := by decide +kernel
theorem dX1_keeps_23 : decode cX1_keeps 23 = .ok (.iconst 1, 1) := by decide +kernel
theorem dX1_keeps_24 : decode cX1_keeps 24 = .ok (.goto 4, 3) := by decide +kernel
theorem dX1_keeps_27 : decode cX1_keeps 27 = .ok (.iconst 0, 1) := by decide +kernel
theorem dX1_keeps_28 : decode cX1_keeps 28 = .ok (.ireturn, 1) := by decide +kernel
set_option maxRecDepth 20000 in
theorem ggX1_takenField_X1_keeps : GoodIn wsX1_takenField wsX1_keeps := goodIn_r _ [7, 1, 8, 9, 10, 11, 12, 13, 14, 15, 16, 17, 18, 19, 20, 21] (by decide +kernel) (by decide +kernel)
set_option maxRecDepth 20000 in
theorem gX1_takenField_X1_keeps : GoodIn wsX1_takenField (wsV RX1 124 RX1 yX1_keeps wsX1_keeps) := goodIn_app (goodIn_of _ (by decide +kernel)) ggX1_takenField_X1_keeps
theorem dX1_takenField_0 : decode cX1_takenField 0 = .ok (.iconst 0, 1) := by decide +kernel
theorem dX1_takenField_1 : decode cX1_takenField 1 = .ok (.istore_n 2, 1) := by decide +kernel
theorem dX1_takenField_2 : decode cX1_takenField 2 = .ok (.iconst 0, 1) := by decide +kernel
theorem dX1_takenField_3 : decode cX1_takenField 3 = .ok (.istore_n 3, 1) := by decide +kernel
theorem dX1_takenField_4 : decode cX1_takenField 4 = .ok (.iload_n 3, 1) := by decide +kernel
theorem dX1_takenField_5 : decode cX1_takenField 5 = .ok (.aload_n 0, 1) := by decide +kernel
theorem dX1_takenField_6 : decode cX1_takenField 6 = .ok (.getfield 69, 3) := by decide +kernel
theorem dX1_takenField_9 : decode cX1_takenField 9 = .ok (.if_icmp .ge 35, 3) := by decide +kernel
theorem dX1_takenField_12 : decode cX1_takenField 12 = .ok (.aload_n 0, 1) := by decide +kernel
theorem dX1_takenField_13 : decode cX1_takenField 13 = .ok (.iload_n 3, 1) := by decide +kernel
theorem dX1_takenField_14 : decode cX1_takenField 14 = .ok (.invokevirtual 124, 3) := by decide +kernel
theorem dX1_takenField_17 : decode cX1_takenField 17 = .ok (.ifCond .eq 6, 3) := by decide +kernel
theorem dX1_takenField_20 : decode cX1_takenField 20 = .ok (.goto 18, 3) := by decide +kernel
theorem dX1_takenField_23 : decode cX1_takenField 23 = .ok (.iload_n 2, 1) := by decide +kernel
theorem dX1_takenField_24 : decode cX1_takenField 24 = .ok (.iload_n 1, 1) := by decide +kernel
theorem dX1_takenField_25 : decode cX1_takenField 25 = .ok (.if_icmp .ne 10, 3) := by decide +kernel
theorem dX1_takenField_28 : decode cX1_takenField 28 = .ok (.aload_n 0, 1) := by decide +kernel
theorem dX1_takenField_29 : decode cX1_takenField 29 = .ok (.getfield 15, 3) := by decide +kernel
theorem dX1_takenField_32 : decode cX1_takenField 32 = .ok (.iload_n 3, 1) := by decide +kernel
theorem dX1_takenField_33 : decode cX1_takenField 33 = .ok (.iaload, 1) := by decide +kernel
theorem dX1_takenField_34 : decode cX1_takenField 34 = .ok (.ireturn, 1) := by decide +kernel
theorem dX1_takenField_35 : decode cX1_takenField 35 = .ok (.iinc 2 1, 3) := by decide +kernel
theorem dX1_takenField_38 : decode cX1_takenField 38 = .ok (.iinc 3 1, 3) := by decide +kernel
theorem dX1_takenField_41 : decode cX1_takenField 41 = .ok (.goto (-37), 3) := by decide +kernel
theorem dX1_takenField_44 : decode cX1_takenField 44 = .ok (.iconst (-1), 1) := by decide +kernel
theorem dX1_takenField_45 : decode cX1_takenField 45 = .ok (.ireturn, 1) := by decide +kernel
theorem dX2_init_0 : decode cX2_init 0 = .ok (.aload_n 0, 1) := by decide +kernel
theorem dX2_init_1 : decode cX2_init 1 = .ok (.invokespecial 3, 3) := by decide +kernel
theorem dX2_init_4 : decode cX2_init 4 = .ok (.aload_n 0, 1) := by decide +kernel
theorem dX2_init_5 : decode cX2_init 5 = .ok (.bipush 60, 2) := by decide +kernel
theorem dX2_init_7 : decode cX2_init 7 = .ok (.newarray .int, 2) := by decide +kernel
theorem dX2_init_9 : decode cX2_init 9 = .ok (.putfield 9, 3) := by decide +kernel
theorem dX2_init_12 : decode cX2_init 12 = .ok (.aload_n 0, 1) := by decide +kernel
theorem dX2_init_13 : decode cX2_init 13 = .ok (.bipush 60, 2) := by decide +kernel
theorem dX2_init_15 : decode cX2_init 15 = .ok (.newarray .int, 2) := by decide +kernel
theorem dX2_init_17 : decode cX2_init 17 = .ok (.putfield 15, 3) := by decide +kernel
theorem dX2_init_20 : decode cX2_init 20 = .ok (.aload_n 0, 1) := by decide +kernel
theorem dX2_init_21 : decode cX2_init 21 = .ok (.bipush 60, 2) := by decide +kernel
theorem dX2_init_23 : decode cX2_init 23 = .ok (.newarray .int, 2) := by decide +kernel
theorem dX2_init_25 : decode cX2_init 25 = .ok (.putfield 18, 3) := by decide +kernel
theorem dX2_init_28 : decode cX2_init 28 = .ok (.aload_n 0, 1) := by decide +kernel
theorem dX2_init_29 : decode cX2_init 29 = .ok (.bipush 60, 2) := by decide +kernel
theorem dX2_init_31 : decode cX2_init 31 = .ok (.newarray .int, 2) := by decide +kernel
theorem dX2_init_33 : decode cX2_init 33 = .ok (.putfield 21, 3) := by decide +kernel
end
section
theorem dX2_init_36 : decode cX2_init 36 = .ok (.aload_n 0, 1) := by decide +kernel
theorem dX2_init_37 : decode cX2_init 37 = .ok (.bipush 60, 2) := by decide +kernel
theorem dX2_init_39 : decode cX2_init 39 = .ok (.newarray .int, 2) := by decide +kernel
theorem dX2_init_41 : decode cX2_init 41 = .ok (.putfield 24, 3) := by decide +kernel
theorem dX2_init_44 : decode cX2_init 44 = .ok (.aload_n 0, 1) := by decide +kernel
theorem dX2_init_45 : decode cX2_init 45 = .ok (.bipush 60, 2) := by decide +kernel
theorem dX2_init_47 : decode cX2_init 47 = .ok (.newarray .int, 2) := by decide +kernel
theorem dX2_init_49 : decode cX2_init 49 = .ok (.putfield 27, 3) := by decide +kernel
theorem dX2_init_52 : decode cX2_init 52 = .ok (.aload_n 0, 1) := by decide +kernel
theorem dX2_init_53 : decode cX2_init 53 = .ok (.sipush 200, 3) := by decide +kernel
theorem dX2_init_56 : decode cX2_init 56 = .ok (.newarray .int, 2) := by decide +kernel
theorem dX2_init_58 : decode cX2_init 58 = .ok (.putfield 30, 3) := by decide +kernel
theorem dX2_init_61 : decode cX2_init 61 = .ok (.aload_n 0, 1) := by decide +kernel
theorem dX2_init_62 : decode cX2_init 62 = .ok (.sipush 200, 3) := by decide +kernel
theorem dX2_init_65 : decode cX2_init 65 = .ok (.newarray .int, 2) := by decide +kernel
theorem dX2_init_67 : decode cX2_init 67 = .ok (.putfield 33, 3) := by decide +kernel
theorem dX2_init_70 : decode cX2_init 70 = .ok (.aload_n 0, 1) := by decide +kernel
theorem dX2_init_71 : decode cX2_init 71 = .ok (.sipush 200, 3) := by decide +kernel
theorem dX2_init_74 : decode cX2_init 74 = .ok (.newarray .int, 2) := by decide +kernel
theorem dX2_init_76 : decode cX2_init 76 = .ok (.putfield 36, 3) := by decide +kernel
theorem dX2_init_79 : decode cX2_init 79 = .ok (.return_, 1) := by decide +kernel
set_option maxRecDepth 20000 in
theorem ggX2_has_X10_isBelow : GoodIn wsX2_has wsX10_isBelow := goodIn_r _ [4] (by decide +kernel) (by decide +kernel)
set_option maxRecDepth 20000 in
theorem gX2_has_X10_isBelow_n43 : GoodIn wsX2_has (wsX10_isBelow) := ggX2_has_X10_isBelow
theorem dX2_has_0 : decode cX2_has 0 = .ok (.iload_n 1, 1) := by decide +kernel
theorem dX2_has_1 : decode cX2_has 1 = .ok (.aload_n 0, 1) := by decide +kernel
theorem dX2_has_2 : decode cX2_has 2 = .ok (.getfield 39, 3) := by decide +kernel
theorem dX2_has_5 : decode cX2_has 5 = .ok (.invokestatic 43, 3) := by decide +kernel
theorem dX2_has_8 : decode cX2_has 8 = .ok (.ireturn, 1) := by decide +kernel
set_option maxRecDepth 20000 in
theorem ggX2_hasRow_X2_has : GoodIn wsX2_hasRow wsX2_has := goodIn_r _ [6, 1, 7, 8, 9, 10, 11, 12, 13, 14, 15, 16, 17, 18, 19, 20, 21] (by decide +kernel) (by decide +kernel)
set_option maxRecDepth 20000 in
theorem gX2_hasRow_X2_has : GoodIn wsX2_hasRow (wsV RX2 47 RX2 yX2_has wsX2_has) := goodIn_app (goodIn_of _ (by decide +kernel)) ggX2_hasRow_X2_has
theorem dX2_hasRow_0 : decode cX2_hasRow 0 = .ok (.aload_n 0, 1) := by decide +kernel
theorem dX2_hasRow_1 : decode cX2_hasRow 1 = .ok (.iload_n 1, 1) := by decide +kernel
theorem dX2_hasRow_2 : decode cX2_hasRow 2 = .ok (.invokevirtual 47, 3) := by decide +kernel
theorem dX2_hasRow_5 : decode cX2_hasRow 5 = .ok (.ifCond .eq 17, 3) := by decide +kernel
theorem dX2_hasRow_8 : decode cX2_hasRow 8 = .ok (.iload_n 2, 1) := by decide +kernel
theorem dX2_hasRow_9 : decode cX2_hasRow 9 = .ok (.aload_n 0, 1) := by decide +kernel
theorem dX2_hasRow_10 : decode cX2_hasRow 10 = .ok (.getfield 39, 3) := by decide +kernel
theorem dX2_hasRow_13 : decode cX2_hasRow 13 = .ok (.iload_n 1, 1) := by decide +kernel
theorem dX2_hasRow_14 : decode cX2_hasRow 14 = .ok (.isub, 1) := by decide +kernel
theorem dX2_hasRow_15 : decode cX2_hasRow 15 = .ok (.if_icmp .gt 7, 3) := by decide +kernel
theorem dX2_hasRow_18 : decode cX2_hasRow 18 = .ok (.iconst 1, 1) := by decide +kernel
theorem dX2_hasRow_19 : decode cX2_hasRow 19 = .ok (.goto 4, 3) := by decide +kernel
theorem dX2_hasRow_22 : decode cX2_hasRow 22 = .ok (.iconst 0, 1) := by decide +kernel
theorem dX2_hasRow_23 : decode cX2_hasRow 23 = .ok (.ireturn, 1) := by decide +kernel
set_option maxRecDepth 20000 in
theorem ggX2_placeOf_X2_has : GoodIn wsX2_placeOf wsX2_has := goodIn_r _ [6, 7, 8, 9, 10, 11, 12, 13, 14, 15, 16, 17, 18, 19, 20, 21, 22] (by decide +kernel) (by decide +kernel)
set_option maxRecDepth 20000 in
theorem gX2_placeOf_X2_has : GoodIn wsX2_placeOf (wsV RX2 47 RX2 yX2_has wsX2_has) := goodIn_app (goodIn_of _ (by decide +kernel)) ggX2_placeOf_X2_has
theorem dX2_placeOf_0 : decode cX2_placeOf 0 = .ok (.aload_n 0, 1) := by decide +kernel
theorem dX2_placeOf_1 : decode cX2_placeOf 1 = .ok (.iload_n 1, 1) := by decide +kernel
theorem dX2_placeOf_2 : decode cX2_placeOf 2 = .ok (.invokevirtual 47, 3) := by decide +kernel
theorem dX2_placeOf_5 : decode cX2_placeOf 5 = .ok (.ifCond .eq 12, 3) := by decide +kernel
theorem dX2_placeOf_8 : decode cX2_placeOf 8 = .ok (.aload_n 0, 1) := by decide +kernel
theorem dX2_placeOf_9 : decode cX2_placeOf 9 = .ok (.getfield 9, 3) := by decide +kernel
theorem dX2_placeOf_12 : decode cX2_placeOf 12 = .ok (.iload_n 1, 1) := by decide +kernel
theorem dX2_placeOf_13 : decode cX2_placeOf 13 = .ok (.iaload, 1) := by decide +kernel
theorem dX2_placeOf_14 : decode cX2_placeOf 14 = .ok (.goto 4, 3) := by decide +kernel
theorem dX2_placeOf_17 : decode cX2_placeOf 17 = .ok (.iconst 0, 1) := by decide +kernel
theorem dX2_placeOf_18 : decode cX2_placeOf 18 = .ok (.ireturn, 1) := by decide +kernel
set_option maxRecDepth 20000 in
theorem ggX2_areaOf_X2_has : GoodIn wsX2_areaOf wsX2_has := goodIn_r _ [6, 7, 8, 9, 10, 11, 12, 13, 14, 15, 16, 17, 18, 19, 20, 21, 22] (by decide +kernel) (by decide +kernel)
set_option maxRecDepth 20000 in
theorem gX2_areaOf_X2_has : GoodIn wsX2_areaOf (wsV RX2 47 RX2 yX2_has wsX2_has) := goodIn_app (goodIn_of _ (by decide +kernel)) ggX2_areaOf_X2_has
theorem dX2_areaOf_0 : decode cX2_areaOf 0 = .ok (.aload_n 0, 1) := by decide +kernel
theorem dX2_areaOf_1 : decode cX2_areaOf 1 = .ok (.iload_n 1, 1) := by decide +kernel
theorem dX2_areaOf_2 : decode cX2_areaOf 2 = .ok (.invokevirtual 47, 3) := by decide +kernel
theorem dX2_areaOf_5 : decode cX2_areaOf 5 = .ok (.ifCond .eq 12, 3) := by decide +kernel
theorem dX2_areaOf_8 : decode cX2_areaOf 8 = .ok (.aload_n 0, 1) := by decide +kernel
theorem dX2_areaOf_9 : decode cX2_areaOf 9 = .ok (.getfield 15, 3) := by decide +kernel
theorem dX2_areaOf_12 : decode cX2_areaOf 12 = .ok (.iload_n 1, 1) := by decide +kernel
theorem dX2_areaOf_13 : decode cX2_areaOf 13 = .ok (.iaload, 1) := by decide +kernel
theorem dX2_areaOf_14 : decode cX2_areaOf 14 = .ok (.goto 4, 3) := by decide +kernel
theorem dX2_areaOf_17 : decode cX2_areaOf 17 = .ok (.iconst 0, 1) := by decide +kernel
theorem dX2_areaOf_18 : decode cX2_areaOf 18 = .ok (.ireturn, 1) := by decide +kernel
set_option maxRecDepth 20000 in
theorem ggX2_soilOf_X2_has : GoodIn wsX2_soilOf wsX2_has := goodIn_r _ [6, 7, 8, 9, 10, 11, 12, 13, 14, 15, 16, 17, 18, 19, 20, 21, 22] (by decide +kernel) (by decide +kernel)
set_option maxRecDepth 20000 in
theorem gX2_soilOf_X2_has : GoodIn wsX2_soilOf (wsV RX2 47 RX2 yX2_has wsX2_has) := goodIn_app (goodIn_of _ (by decide +kernel)) ggX2_soilOf_X2_has
theorem dX2_soilOf_0 : decode cX2_soilOf 0 = .ok (.aload_n 0, 1) := by decide +kernel
theorem dX2_soilOf_1 : decode cX2_soilOf 1 = .ok (.iload_n 1, 1) := by decide +kernel
theorem dX2_soilOf_2 : decode cX2_soilOf 2 = .ok (.invokevirtual 47, 3) := by decide +kernel
theorem dX2_soilOf_5 : decode cX2_soilOf 5 = .ok (.ifCond .eq 12, 3) := by decide +kernel
theorem dX2_soilOf_8 : decode cX2_soilOf 8 = .ok (.aload_n 0, 1) := by decide +kernel
theorem dX2_soilOf_9 : decode cX2_soilOf 9 = .ok (.getfield 18, 3) := by decide +kernel
theorem dX2_soilOf_12 : decode cX2_soilOf 12 = .ok (.iload_n 1, 1) := by decide +kernel
theorem dX2_soilOf_13 : decode cX2_soilOf 13 = .ok (.iaload, 1) := by decide +kernel
theorem dX2_soilOf_14 : decode cX2_soilOf 14 = .ok (.goto 4, 3) := by decide +kernel
theorem dX2_soilOf_17 : decode cX2_soilOf 17 = .ok (.iconst 0, 1) := by decide +kernel
theorem dX2_soilOf_18 : decode cX2_soilOf 18 = .ok (.ireturn, 1) := by decide +kernel
set_option maxRecDepth 20000 in
theorem ggX2_cropOf_X2_has : GoodIn wsX2_cropOf wsX2_has := goodIn_r _ [6, 7, 8, 9, 10, 11, 12, 13, 14, 15, 16, 17, 18, 19, 20, 21, 22] (by decide +kernel) (by decide +kernel)
set_option maxRecDepth 20000 in
theorem gX2_cropOf_X2_has : GoodIn wsX2_cropOf (wsV RX2 47 RX2 yX2_has wsX2_has) := goodIn_app (goodIn_of _ (by decide +kernel)) ggX2_cropOf_X2_has
theorem dX2_cropOf_0 : decode cX2_cropOf 0 = .ok (.aload_n 0, 1) := by decide +kernel
theorem dX2_cropOf_1 : decode cX2_cropOf 1 = .ok (.iload_n 1, 1) := by decide +kernel
theorem dX2_cropOf_2 : decode cX2_cropOf 2 = .ok (.invokevirtual 47, 3) := by decide +kernel
theorem dX2_cropOf_5 : decode cX2_cropOf 5 = .ok (.ifCond .eq 12, 3) := by decide +kernel
theorem dX2_cropOf_8 : decode cX2_cropOf 8 = .ok (.aload_n 0, 1) := by decide +kernel
theorem dX2_cropOf_9 : decode cX2_cropOf 9 = .ok (.getfield 21, 3) := by decide +kernel
theorem dX2_cropOf_12 : decode cX2_cropOf 12 = .ok (.iload_n 1, 1) := by decide +kernel
theorem dX2_cropOf_13 : decode cX2_cropOf 13 = .ok (.iaload, 1) := by decide +kernel
theorem dX2_cropOf_14 : decode cX2_cropOf 14 = .ok (.goto 4, 3) := by decide +kernel
theorem dX2_cropOf_17 : decode cX2_cropOf 17 = .ok (.iconst 0, 1) := by decide +kernel
theorem dX2_cropOf_18 : decode cX2_cropOf 18 = .ok (.ireturn, 1) := by decide +kernel
set_option maxRecDepth 20000 in
theorem ggX2_ownerOf_X2_has : GoodIn wsX2_ownerOf wsX2_has := goodIn_r _ [6, 7, 8, 9, 10, 11, 12, 13, 14, 15, 16, 17, 18, 19, 20, 21, 22] (by decide +kernel) (by decide +kernel)
set_option maxRecDepth 20000 in
theorem gX2_ownerOf_X2_has : GoodIn wsX2_ownerOf (wsV RX2 47 RX2 yX2_has wsX2_has) := goodIn_app (goodIn_of _ (by decide +kernel)) ggX2_ownerOf_X2_has
theorem dX2_ownerOf_0 : decode cX2_ownerOf 0 = .ok (.aload_n 0, 1) := by decide +kernel
theorem dX2_ownerOf_1 : decode cX2_ownerOf 1 = .ok (.iload_n 1, 1) := by decide +kernel
theorem dX2_ownerOf_2 : decode cX2_ownerOf 2 = .ok (.invokevirtual 47, 3) := by decide +kernel
theorem dX2_ownerOf_5 : decode cX2_ownerOf 5 = .ok (.ifCond .eq 12, 3) := by decide +kernel
theorem dX2_ownerOf_8 : decode cX2_ownerOf 8 = .ok (.aload_n 0, 1) := by decide +kernel
theorem dX2_ownerOf_9 : decode cX2_ownerOf 9 = .ok (.getfield 27, 3) := by decide +kernel
theorem dX2_ownerOf_12 : decode cX2_ownerOf 12 = .ok (.iload_n 1, 1) := by decide +kernel
theorem dX2_ownerOf_13 : decode cX2_ownerOf 13 = .ok (.iaload, 1) := by decide +kernel
theorem dX2_ownerOf_14 : decode cX2_ownerOf 14 = .ok (.goto 4, 3) := by decide +kernel
theorem dX2_ownerOf_17 : decode cX2_ownerOf 17 = .ok (.iconst (-1), 1) := by decide +kernel
theorem dX2_ownerOf_18 : decode cX2_ownerOf 18 = .ok (.ireturn, 1) := by decide +kernel
set_option maxRecDepth 20000 in
theorem ggX2_standardOf_X2_areaOf : GoodIn wsX2_standardOf wsX2_areaOf := goodIn_r _ [5, 6, 7, 8, 9, 4, 10, 11, 12, 13, 14, 26, 27, 28, 29, 30, 31, 32, 33, 34, 35, 36, 37] (by decide +kernel) (by decide +kernel)
set_option maxRecDepth 20000 in
theorem gX2_standardOf_X2_areaOf : GoodIn wsX2_standardOf (wsV RX2 51 RX2 yX2_areaOf wsX2_areaOf) := goodIn_app (goodIn_of _ (by decide +kernel)) ggX2_standardOf_X2_areaOf
set_option maxRecDepth 20000 in
theorem ggX2_standardOf_X2_soilOf : GoodIn wsX2_standardOf wsX2_soilOf := goodIn_r _ [18, 19, 7, 8, 9, 4, 10, 11, 12, 13, 14, 26, 27, 28, 29, 30, 31, 32, 33, 34, 35, 36, 37] (by decide +kernel) (by decide +kernel)
set_option maxRecDepth 20000 in
theorem gX2_standardOf_X2_soilOf : GoodIn wsX2_standardOf (wsV RX2 55 RX2 yX2_soilOf wsX2_soilOf) := goodIn_app (goodIn_of _ (by decide +kernel)) ggX2_standardOf_X2_soilOf
set_option maxRecDepth 20000 in
theorem ggX2_standardOf_X3_soilIs : GoodIn wsX2_standardOf wsX3_soilIs := goodIn_r _ [24, 25, 12, 13, 14, 38, 39, 40, 41, 42, 43, 44, 45, 46] (by decide +kernel) (by decide +kernel)
set_option maxRecDepth 20000 in
theorem gX2_standardOf_X3_soilIs : GoodIn wsX2_standardOf (wsV RX2 58 RX3 yX3_soilIs wsX3_soilIs) := goodIn_app (goodIn_of _ (by decide +kernel)) ggX2_standardOf_X3_soilIs
theorem dX2_standardOf_0 : decode cX2_standardOf 0 = .ok (.aload_n 0, 1) := by decide +kernel
theorem dX2_standardOf_1 : decode cX2_standardOf 1 = .ok (.iload_n 1, 1) := by decide +kernel
theorem dX2_standardOf_2 : decode cX2_standardOf 2 = .ok (.invokevirtual 51, 3) := by decide +kernel
theorem dX2_standardOf_5 : decode cX2_standardOf 5 = .ok (.aload_n 2, 1) := by decide +kernel
theorem dX2_standardOf_6 : decode cX2_standardOf 6 = .ok (.aload_n 0, 1) := by decide +kernel
theorem dX2_standardOf_7 : decode cX2_standardOf 7 = .ok (.iload_n 1, 1) := by decide +kernel
theorem dX2_standardOf_8 : decode cX2_standardOf 8 = .ok (.invokevirtual 55, 3) := by decide +kernel
theorem dX2_standardOf_11 : decode cX2_standardOf 11 = .ok (.invokevirtual 58, 3) := by decide +kernel
theorem dX2_standardOf_14 : decode cX2_standardOf 14 = .ok (.imul, 1) := by decide +kernel
theorem dX2_standardOf_15 : decode cX2_standardOf 15 = .ok (.bipush 10, 2) := by decide +kernel
theorem dX2_standardOf_17 : decode cX2_standardOf 17 = .ok (.idiv, 1) := by decide +kernel
theorem dX2_standardOf_18 : decode cX2_standardOf 18 = .ok (.ireturn, 1) := by decide +kernel
set_option maxRecDepth 20000 in
theorem ggX2_distance_X2_placeOf : GoodIn wsX2_distance wsX2_placeOf := goodIn_r _ [9, 10, 11, 12, 13, 8, 14, 15, 16, 17, 18, 19, 20, 21, 22, 23, 24, 25, 26, 27, 28, 29, 30] (by decide +kernel) (by decide +kernel)
set_option maxRecDepth 20000 in
theorem gX2_distance_X2_placeOf : GoodIn wsX2_distance (wsV RX2 63 RX2 yX2_placeOf wsX2_placeOf) := goodIn_app (goodIn_of _ (by decide +kernel)) ggX2_distance_X2_placeOf
theorem dX2_distance_0 : decode cX2_distance 0 = .ok (.aload_n 0, 1) := by decide +kernel
theorem dX2_distance_1 : decode cX2_distance 1 = .ok (.iload_n 1, 1) := by decide +kernel
theorem dX2_distance_2 : decode cX2_distance 2 = .ok (.invokevirtual 63, 3) := by decide +kernel
theorem dX2_distance_5 : decode cX2_distance 5 = .ok (.iload_n 2, 1) := by decide +kernel
theorem dX2_distance_6 : decode cX2_distance 6 = .ok (.isub, 1) := by decide +kernel
theorem dX2_distance_7 : decode cX2_distance 7 = .ok (.invokestatic 66, 3) := by decide +kernel
theorem dX2_distance_10 : decode cX2_distance 10 = .ok (.ireturn, 1) := by decide +kernel
theorem dX2_transfersLeft_0 : decode cX2_transfersLeft 0 = .ok (.sipush 200, 3) := by decide +kernel
theorem dX2_transfersLeft_3 : decode cX2_transfersLeft 3 = .ok (.aload_n 0, 1) := by decide +kernel
theorem dX2_transfersLeft_4 : decode cX2_transfersLeft 4 = .ok (.getfield 71, 3) := by decide +kernel
theorem dX2_transfersLeft_7 : decode cX2_transfersLeft 7 = .ok (.isub, 1) := by decide +kernel
theorem dX2_transfersLeft_8 : decode cX2_transfersLeft 8 = .ok (.ireturn, 1) := by decide +kernel
theorem dX2_add_0 : decode cX2_add 0 = .ok (.aload_n 0, 1) := by decide +kernel
theorem dX2_add_1 : decode cX2_add 1 = .ok (.getfield 39, 3) := by decide +kernel
theorem dX2_add_4 : decode cX2_add 4 = .ok (.bipush 60, 2) := by decide +kernel
theorem dX2_add_6 : decode cX2_add 6 = .ok (.if_icmp .lt 5, 3) := by decide +kernel
theorem dX2_add_9 : decode cX2_add 9 = .ok (.iconst (-1), 1) := by decide +kernel
theorem dX2_add_10 : decode cX2_add 10 = .ok (.ireturn, 1) := by decide +kernel
theorem dX2_add_11 : decode cX2_add 11 = .ok (.aload_n 0, 1) := by decide +kernel
theorem dX2_add_12 : decode cX2_add 12 = .ok (.getfield 9, 3) := by decide +kernel
theorem dX2_add_15 : decode cX2_add 15 = .ok (.aload_n 0, 1) := by decide +kernel
theorem dX2_add_16 : decode cX2_add 16 = .ok (.getfield 39, 3) := by decide +kernel
theorem dX2_add_19 : decode cX2_add 19 = .ok (.iload_n 1, 1) := by decide +kernel
theorem dX2_add_20 : decode cX2_add 20 = .ok (.iastore, 1) := by decide +kernel
theorem dX2_add_21 : decode cX2_add 21 = .ok (.aload_n 0, 1) := by decide +kernel
theorem dX2_add_22 : decode cX2_add 22 = .ok (.getfield 15, 3) := by decide +kernel
theorem dX2_add_25 : decode cX2_add 25 = .ok (.aload_n 0, 1) := by decide +kernel
theorem dX2_add_26 : decode cX2_add 26 = .ok (.getfield 39, 3) := by decide +kernel
theorem dX2_add_29 : decode cX2_add 29 = .ok (.iload_n 2, 1) := by decide +kernel
theorem dX2_add_30 : decode cX2_add 30 = .ok (.iastore, 1) := by decide +kernel
theorem dX2_add_31 : decode cX2_add 31 = .ok (.aload_n 0, 1) := by decide +kernel
theorem dX2_add_32 : decode cX2_add 32 = .ok (.getfield 18, 3) := by decide +kernel
theorem dX2_add_35 : decode cX2_add 35 = .ok (.aload_n 0, 1) := by decide +kernel
theorem dX2_add_36 : decode cX2_add 36 = .ok (.getfield 39, 3) := by decide +kernel
theorem dX2_add_39 : decode cX2_add 39 = .ok (.iload_n 3, 1) := by decide +kernel
theorem dX2_add_40 : decode cX2_add 40 = .ok (.iastore, 1) := by decide +kernel
theorem dX2_add_41 : decode cX2_add 41 = .ok (.aload_n 0, 1) := by decide +kernel
theorem dX2_add_42 : decode cX2_add 42 = .ok (.getfield 21, 3) := by decide +kernel
theorem dX2_add_45 : decode cX2_add 45 = .ok (.aload_n 0, 1) := by decide +kernel
theorem dX2_add_46 : decode cX2_add 46 = .ok (.getfield 39, 3) := by decide +kernel
theorem dX2_add_49 : decode cX2_add 49 = .ok (.iload 4, 2) := by decide +kernel
theorem dX2_add_51 : decode cX2_add 51 = .ok (.iastore, 1) := by decide +kernel
theorem dX2_add_52 : decode cX2_add 52 = .ok (.aload_n 0, 1) := by decide +kernel
theorem dX2_add_53 : decode cX2_add 53 = .ok (.getfield 24, 3) := by decide +kernel
theorem dX2_add_56 : decode cX2_add 56 = .ok (.aload_n 0, 1) := by decide +kernel
theorem dX2_add_57 : decode cX2_add 57 = .ok (.getfield 39, 3) := by decide +kernel
theorem dX2_add_60 : decode cX2_add 60 = .ok (.iload 5, 2) := by decide +kernel
theorem dX2_add_62 : decode cX2_add 62 = .ok (.iastore, 1) := by decide +kernel
theorem dX2_add_63 : decode cX2_add 63 = .ok (.aload_n 0, 1) := by decide +kernel
theorem dX2_add_64 : decode cX2_add 64 = .ok (.getfield 27, 3) := by decide +kernel
theorem dX2_add_67 : decode cX2_add 67 = .ok (.aload_n 0, 1) := by decide +kernel
theorem dX2_add_68 : decode cX2_add 68 = .ok (.getfield 39, 3) := by decide +kernel
theorem dX2_add_71 : decode cX2_add 71 = .ok (.iload 5, 2) := by decide +kernel
theorem dX2_add_73 : decode cX2_add 73 = .ok (.iastore, 1) := by decide +kernel
theorem dX2_add_74 : decode cX2_add 74 = .ok (.aload_n 0, 1) := by decide +kernel
theorem dX2_add_75 : decode cX2_add 75 = .ok (.dup, 1) := by decide +kernel
theorem dX2_add_76 : decode cX2_add 76 = .ok (.getfield 39, 3) := by decide +kernel
theorem dX2_add_79 : decode cX2_add 79 = .ok (.iconst 1, 1) := by decide +kernel
theorem dX2_add_80 : decode cX2_add 80 = .ok (.iadd, 1) := by decide +kernel
theorem dX2_add_81 : decode cX2_add 81 = .ok (.putfield 39, 3) := by decide +kernel
theorem dX2_add_84 : decode cX2_add 84 = .ok (.aload_n 0, 1) := by decide +kernel
theorem dX2_add_85 : decode cX2_add 85 = .ok (.getfield 39, 3) := by decide +kernel
theorem dX2_add_88 : decode cX2_add 88 = .ok (.iconst 1, 1) := by decide +kernel
theorem dX2_add_89 : decode cX2_add 89 = .ok (.isub, 1) := by decide +kernel
theorem dX2_add_90 : decode cX2_add 90 = .ok (.ireturn, 1) := by decide +kernel
set_option maxRecDepth 20000 in
theorem ggX2_move_X2_has : GoodIn wsX2_move wsX2_has := goodIn_r _ [11, 12, 13, 14, 15, 16, 17, 18, 19, 20, 21, 22, 23, 24, 25, 26, 27] (by decide +kernel) (by decide +kernel)
set_option maxRecDepth 20000 in
theorem gX2_move_X2_has : GoodIn wsX2_move (wsV RX2 47 RX2 yX2_has wsX2_has) := goodIn_app (goodIn_of _ (by decide +kernel)) ggX2_move_X2_has
theorem dX2_move_0 : decode cX2_move 0 = .ok (.aload_n 0, 1) := by decide +kernel
theorem dX2_move_1 : decode cX2_move 1 = .ok (.iload_n 1, 1) := by decide +kernel
theorem dX2_move_2 : decode cX2_move 2 = .ok (.invokevirtual 47, 3) := by decide +kernel
theorem dX2_move_5 : decode cX2_move 5 = .ok (.ifCond .eq 13, 3) := by decide +kernel
theorem dX2_move_8 : decode cX2_move 8 = .ok (.aload_n 0, 1) := by decide +kernel
theorem dX2_move_9 : decode cX2_move 9 = .ok (.getfield 71, 3) := by decide +kernel
theorem dX2_move_12 : decode cX2_move 12 = .ok (.sipush 200, 3) := by decide +kernel
theorem dX2_move_15 : decode cX2_move 15 = .ok (.if_icmp .lt 4, 3) := by decide +kernel
theorem dX2_move_18 : decode cX2_move 18 = .ok (.return_, 1) := by decide +kernel
theorem dX2_move_19 : decode cX2_move 19 = .ok (.aload_n 0, 1) := by decide +kernel
theorem dX2_move_20 : decode cX2_move 20 = .ok (.getfield 30, 3) := by decide +kernel
theorem dX2_move_23 : decode cX2_move 23 = .ok (.aload_n 0, 1) := by decide +kernel
theorem dX2_move_24 : decode cX2_move 24 = .ok (.getfield 71, 3) := by decide +kernel
theorem dX2_move_27 : decode cX2_move 27 = .ok (.iload_n 1, 1) := by decide +kernel
theorem dX2_move_28 : decode cX2_move 28 = .ok (.iastore, 1) := by decide +kernel
theorem dX2_move_29 : decode cX2_move 29 = .ok (.aload_n 0, 1) := by decide +kernel
theorem dX2_move_30 : decode cX2_move 30 = .ok (.getfield 33, 3) := by decide +kernel
theorem dX2_move_33 : decode cX2_move 33 = .ok (.aload_n 0, 1) := by decide +kernel
theorem dX2_move_34 : decode cX2_move 34 = .ok (.getfield 71, 3) := by decide +kernel
theorem dX2_move_37 : decode cX2_move 37 = .ok (.iload_n 2, 1) := by decide +kernel
theorem dX2_move_38 : decode cX2_move 38 = .ok (.iastore, 1) := by decide +kernel
theorem dX2_move_39 : decode cX2_move 39 = .ok (.aload_n 0, 1) := by decide +kernel
theorem dX2_move_40 : decode cX2_move 40 = .ok (.getfield 36, 3) := by decide +kernel
theorem dX2_move_43 : decode cX2_move 43 = .ok (.aload_n 0, 1) := by decide +kernel
theorem dX2_move_44 : decode cX2_move 44 = .ok (.getfield 71, 3) := by decide +kernel
theorem dX2_move_47 : decode cX2_move 47 = .ok (.aload_n 0, 1) := by decide +kernel
theorem dX2_move_48 : decode cX2_move 48 = .ok (.getfield 74, 3) := by decide +kernel
theorem dX2_move_51 : decode cX2_move 51 = .ok (.iastore, 1) := by decide +kernel
theorem dX2_move_52 : decode cX2_move 52 = .ok (.aload_n 0, 1) := by decide +kernel
theorem dX2_move_53 : decode cX2_move 53 = .ok (.dup, 1) := by decide +kernel
theorem dX2_move_54 : decode cX2_move 54 = .ok (.getfield 71, 3) := by decide +kernel
theorem dX2_move_57 : decode cX2_move 57 = .ok (.iconst 1, 1) := by decide +kernel
theorem dX2_move_58 : decode cX2_move 58 = .ok (.iadd, 1) := by decide +kernel
theorem dX2_move_59 : decode cX2_move 59 = .ok (.putfield 71, 3) := by decide +kernel
theorem dX2_move_62 : decode cX2_move 62 = .ok (.aload_n 0, 1) := by decide +kernel
theorem dX2_move_63 : decode cX2_move 63 = .ok (.getfield 27, 3) := by decide +kernel
theorem dX2_move_66 : decode cX2_move 66 = .ok (.iload_n 1, 1) := by decide +kernel
theorem dX2_move_67 : decode cX2_move 67 = .ok (.iload_n 2, 1) := by decide +kernel
theorem dX2_move_68 : decode cX2_move 68 = .ok (.iastore, 1) := by decide +kernel
theorem dX2_move_69 : decode cX2_move 69 = .ok (.return_, 1) := by decide +kernel
theorem dX2_transfersOf_0 : decode cX2_transfersOf 0 = .ok (.iconst 0, 1) := by decide +kernel
theorem dX2_transfersOf_1 : decode cX2_transfersOf 1 = .ok (.istore_n 2, 1) := by decide +kernel
theorem dX2_transfersOf_2 : decode cX2_transfersOf 2 = .ok (.iconst 0, 1) := by decide +kernel
theorem dX2_transfersOf_3 : decode cX2_transfersOf 3 = .ok (.istore_n 3, 1) := by decide +kernel
theorem dX2_transfersOf_4 : decode cX2_transfersOf 4 = .ok (.iload_n 3, 1) := by decide +kernel
theorem dX2_transfersOf_5 : decode cX2_transfersOf 5 = .ok (.aload_n 0, 1) := by decide +kernel
theorem dX2_transfersOf_6 : decode cX2_transfersOf 6 = .ok (.getfield 71, 3) := by decide +kernel
theorem dX2_transfersOf_9 : decode cX2_transfersOf 9 = .ok (.if_icmp .ge 22, 3) := by decide +kernel
theorem dX2_transfersOf_12 : decode cX2_transfersOf 12 = .ok (.aload_n 0, 1) := by decide +kernel
theorem dX2_transfersOf_13 : decode cX2_transfersOf 13 = .ok (.getfield 30, 3) := by decide +kernel
theorem dX2_transfersOf_16 : decode cX2_transfersOf 16 = .ok (.iload_n 3, 1) := by decide +kernel
theorem dX2_transfersOf_17 : decode cX2_transfersOf 17 = .ok (.iaload, 1) := by decide +kernel
theorem dX2_transfersOf_18 : decode cX2_transfersOf 18 = .ok (.iload_n 1, 1) := by decide +kernel
theorem dX2_transfersOf_19 : decode cX2_transfersOf 19 = .ok (.if_icmp .ne 6, 3) := by decide +kernel
theorem dX2_transfersOf_22 : decode cX2_transfersOf 22 = .ok (.iinc 2 1, 3) := by decide +kernel
theorem dX2_transfersOf_25 : decode cX2_transfersOf 25 = .ok (.iinc 3 1, 3) := by decide +kernel
theorem dX2_transfersOf_28 : decode cX2_transfersOf 28 = .ok (.goto (-24), 3) := by decide +kernel
theorem dX2_transfersOf_31 : decode cX2_transfersOf 31 = .ok (.iload_n 2, 1) := by decide +kernel
theorem dX2_transfersOf_32 : decode cX2_transfersOf 32 = .ok (.ireturn, 1) := by decide +kernel
set_option maxRecDepth 20000 in
theorem ggX2_ownerAsDayEnded_X2_has : GoodIn wsX2_ownerAsDayEnded wsX2_has := goodIn_r _ [10, 11, 12, 13, 14, 15, 16, 17, 18, 19, 20, 21, 22, 23, 24, 25, 26] (by decide +kernel) (by decide +kernel)
set_option maxRecDepth 20000 in
theorem gX2_ownerAsDayEnded_X2_has : GoodIn wsX2_ownerAsDayEnded (wsV RX2 47 RX2 yX2_has wsX2_has) := goodIn_app (goodIn_of _ (by decide +kernel)) ggX2_ownerAsDayEnded_X2_has
theorem dX2_ownerAsDayEnded_0 : decode cX2_ownerAsDayEnded 0 = .ok (.aload_n 0, 1) := by decide +kernel
theorem dX2_ownerAsDayEnded_1 : decode cX2_ownerAsDayEnded 1 = .ok (.iload_n 1, 1) := by decide +kernel
theorem dX2_ownerAsDayEnded_2 : decode cX2_ownerAsDayEnded 2 = .ok (.invokevirtual 47, 3) := by decide +kernel
theorem dX2_ownerAsDayEnded_5 : decode cX2_ownerAsDayEnded 5 = .ok (.ifCond .eq 12, 3) := by decide +kernel
theorem dX2_ownerAsDayEnded_8 : decode cX2_ownerAsDayEnded 8 = .ok (.aload_n 0, 1) := by decide +kernel
theorem dX2_ownerAsDayEnded_9 : decode cX2_ownerAsDayEnded 9 = .ok (.getfield 24, 3) := by decide +kernel
theorem dX2_ownerAsDayEnded_12 : decode cX2_ownerAsDayEnded 12 = .ok (.iload_n 1, 1) := by decide +kernel
theorem dX2_ownerAsDayEnded_13 : decode cX2_ownerAsDayEnded 13 = .ok (.iaload, 1) := by decide +kernel
theorem dX2_ownerAsDayEnded_14 : decode cX2_ownerAsDayEnded 14 = .ok (.goto 4, 3) := by decide +kernel
theorem dX2_ownerAsDayEnded_17 : decode cX2_ownerAsDayEnded 17 = .ok (.iconst (-1), 1) := by decide +kernel
theorem dX2_ownerAsDayEnded_18 : decode cX2_ownerAsDayEnded 18 = .ok (.istore_n 3, 1) := by decide +kernel
theorem dX2_ownerAsDayEnded_19 : decode cX2_ownerAsDayEnded 19 = .ok (.iconst 0, 1) := by decide +kernel
theorem dX2_ownerAsDayEnded_20 : decode cX2_ownerAsDayEnded 20 = .ok (.istore 4, 2) := by decide +kernel
theorem dX2_ownerAsDayEnded_22 : decode cX2_ownerAsDayEnded 22 = .ok (.iload 4, 2) := by decide +kernel
theorem dX2_ownerAsDayEnded_24 : decode cX2_ownerAsDayEnded 24 = .ok (.aload_n 0, 1) := by decide +kernel
theorem dX2_ownerAsDayEnded_25 : decode cX2_ownerAsDayEnded 25 = .ok (.getfield 71, 3) := by decide +kernel
theorem dX2_ownerAsDayEnded_28 : decode cX2_ownerAsDayEnded 28 = .ok (.if_icmp .ge 39, 3) := by decide +kernel
theorem dX2_ownerAsDayEnded_31 : decode cX2_ownerAsDayEnded 31 = .ok (.aload_n 0, 1) := by decide +kernel
theorem dX2_ownerAsDayEnded_32 : decode cX2_ownerAsDayEnded 32 = .ok (.getfield 36, 3) := by decide +kernel
theorem dX2_ownerAsDayEnded_35 : decode cX2_ownerAsDayEnded 35 = .ok (.iload 4, 2) := by decide +kernel
theorem dX2_ownerAsDayEnded_37 : decode cX2_ownerAsDayEnded 37 = .ok (.iaload, 1) := by decide +kernel
theorem dX2_ownerAsDayEnded_38 : decode cX2_ownerAsDayEnded 38 = .ok (.iload_n 2, 1) := by decide +kernel
theorem dX2_ownerAsDayEnded_39 : decode cX2_ownerAsDayEnded 39 = .ok (.if_icmp .gt 28, 3) := by decide +kernel
theorem dX2_ownerAsDayEnded_42 : decode cX2_ownerAsDayEnded 42 = .ok (.aload_n 0, 1) := by decide +kernel
theorem dX2_ownerAsDayEnded_43 : decode cX2_ownerAsDayEnded 43 = .ok (.getfield 30, 3) := by decide +kernel
theorem dX2_ownerAsDayEnded_46 : decode cX2_ownerAsDayEnded 46 = .ok (.iload 4, 2) := by decide +kernel
theorem dX2_ownerAsDayEnded_48 : decode cX2_ownerAsDayEnded 48 = .ok (.iaload, 1) := by decide +kernel
theorem dX2_ownerAsDayEnded_49 : decode cX2_ownerAsDayEnded 49 = .ok (.iload_n 1, 1) := by decide +kernel
theorem dX2_ownerAsDayEnded_50 : decode cX2_ownerAsDayEnded 50 = .ok (.if_icmp .ne 11, 3) := by decide +kernel
theorem dX2_ownerAsDayEnded_53 : decode cX2_ownerAsDayEnded 53 = .ok (.aload_n 0, 1) := by decide +kernel
theorem dX2_ownerAsDayEnded_54 : decode cX2_ownerAsDayEnded 54 = .ok (.getfield 33, 3) := by decide +kernel
theorem dX2_ownerAsDayEnded_57 : decode cX2_ownerAsDayEnded 57 = .ok (.iload 4, 2) := by decide +kernel
theorem dX2_ownerAsDayEnded_59 : decode cX2_ownerAsDayEnded 59 = .ok (.iaload, 1) := by decide +kernel
theorem dX2_ownerAsDayEnded_60 : decode cX2_ownerAsDayEnded 60 = .ok (.istore_n 3, 1) := by decide +kernel
theorem dX2_ownerAsDayEnded_61 : decode cX2_ownerAsDayEnded 61 = .ok (.iinc 4 1, 3) := by decide +kernel
theorem dX2_ownerAsDayEnded_64 : decode cX2_ownerAsDayEnded 64 = .ok (.goto (-42), 3) := by decide +kernel
theorem dX2_ownerAsDayEnded_67 : decode cX2_ownerAsDayEnded 67 = .ok (.iload_n 3, 1) := by decide +kernel
theorem dX2_ownerAsDayEnded_68 : decode cX2_ownerAsDayEnded 68 = .ok (.ireturn, 1) := by decide +kernel
theorem dX2_firstFieldOf_0 : decode cX2_firstFieldOf 0 = .ok (.iconst 0, 1) := by decide +kernel
theorem dX2_firstFieldOf_1 : decode cX2_firstFieldOf 1 = .ok (.istore_n 2, 1) := by decide +kernel
theorem dX2_firstFieldOf_2 : decode cX2_firstFieldOf 2 = .ok (.iload_n 2, 1) := by decide +kernel
theorem dX2_firstFieldOf_3 : decode cX2_firstFieldOf 3 = .ok (.aload_n 0, 1) := by decide +kernel
theorem dX2_firstFieldOf_4 : decode cX2_firstFieldOf 4 = .ok (.getfield 39, 3) := by decide +kernel
theorem dX2_firstFieldOf_7 : decode cX2_firstFieldOf 7 = .ok (.if_icmp .ge 21, 3) := by decide +kernel
theorem dX2_firstFieldOf_10 : decode cX2_firstFieldOf 10 = .ok (.aload_n 0, 1) := by decide +kernel
theorem dX2_firstFieldOf_11 : decode cX2_firstFieldOf 11 = .ok (.getfield 27, 3) := by decide +kernel
theorem dX2_firstFieldOf_14 : decode cX2_firstFieldOf 14 = .ok (.iload_n 2, 1) := by decide +kernel
theorem dX2_firstFieldOf_15 : decode cX2_firstFieldOf 15 = .ok (.iaload, 1) := by decide +kernel
theorem dX2_firstFieldOf_16 : decode cX2_firstFieldOf 16 = .ok (.iload_n 1, 1) := by decide +kernel
theorem dX2_firstFieldOf_17 : decode cX2_firstFieldOf 17 = .ok (.if_icmp .ne 5, 3) := by decide +kernel
theorem dX2_firstFieldOf_20 : decode cX2_firstFieldOf 20 = .ok (.iload_n 2, 1) := by decide +kernel
theorem dX2_firstFieldOf_21 : decode cX2_firstFieldOf 21 = .ok (.ireturn, 1) := by decide +kernel
theorem dX2_firstFieldOf_22 : decode cX2_firstFieldOf 22 = .ok (.iinc 2 1, 3) := by decide +kernel
theorem dX2_firstFieldOf_25 : decode cX2_firstFieldOf 25 = .ok (.goto (-23), 3) := by decide +kernel
theorem dX2_firstFieldOf_28 : decode cX2_firstFieldOf 28 = .ok (.iconst (-1), 1) := by decide +kernel
theorem dX2_firstFieldOf_29 : decode cX2_firstFieldOf 29 = .ok (.ireturn, 1) := by decide +kernel
set_option maxRecDepth 20000 in
theorem ggX3_init_X3_clear : GoodIn wsX3_init wsX3_clear := goodIn_r _ [10, 5, 11, 12, 13, 14, 15, 16, 17, 18, 19, 20, 21, 22, 23, 24, 25, 26, 27, 28, 29, 30, 31] (by decide +kernel) (by decide +kernel)
set_option maxRecDepth 20000 in
theorem gX3_init_X3_clear : GoodIn wsX3_init (wsV RX3 15 RX3 yX3_clear wsX3_clear) := goodIn_app (goodIn_of _ (by decide +kernel)) ggX3_init_X3_clear
theorem dX3_init_0 : decode cX3_init 0 = .ok (.aload_n 0, 1) := by decide +kernel
theorem dX3_init_1 : decode cX3_init 1 = .ok (.invokespecial 3, 3) := by decide +kernel
theorem dX3_init_4 : decode cX3_init 4 = .ok (.aload_n 0, 1) := by decide +kernel
theorem dX3_init_5 : decode cX3_init 5 = .ok (.iconst 4, 1) := by decide +kernel
theorem dX3_init_6 : decode cX3_init 6 = .ok (.newarray .int, 2) := by decide +kernel
theorem dX3_init_8 : decode cX3_init 8 = .ok (.putfield 9, 3) := by decide +kernel
theorem dX3_init_11 : decode cX3_init 11 = .ok (.aload_n 0, 1) := by decide +kernel
theorem dX3_init_12 : decode cX3_init 12 = .ok (.invokevirtual 15, 3) := by decide +kernel
theorem dX3_init_15 : decode cX3_init 15 = .ok (.return_, 1) := by decide +kernel
set_option maxRecDepth 20000 in
theorem ggX3_clear_J7_fill_53178 : GoodIn wsX3_clear wsJ7_fill_53178 := goodIn_r _ [13] (by decide +kernel) (by decide +kernel)
set_option maxRecDepth 20000 in
theorem gX3_clear_J7_fill_53178 : GoodIn wsX3_clear (va_wsS RX3 18 yJ7_fill_53178 wsJ7_fill_53178) := goodIn_app (goodIn_of _ (by decide +kernel)) ggX3_clear_J7_fill_53178
theorem dX3_clear_0 : decode cX3_clear 0 = .ok (.aload_n 0, 1) := by decide +kernel
theorem dX3_clear_1 : decode cX3_clear 1 = .ok (.getfield 9, 3) := by decide +kernel
theorem dX3_clear_4 : decode cX3_clear 4 = .ok (.bipush 10, 2) := by decide +kernel
theorem dX3_clear_6 : decode cX3_clear 6 = .ok (.invokestatic 18, 3) := by decide +kernel
theorem dX3_clear_9 : decode cX3_clear 9 = .ok (.aload_n 0, 1) := by decide +kernel
theorem dX3_clear_10 : decode cX3_clear 10 = .ok (.bipush 100, 2) := by decide +kernel
theorem dX3_clear_12 : decode cX3_clear 12 = .ok (.putfield 24, 3) := by decide +kernel
theorem dX3_clear_15 : decode cX3_clear 15 = .ok (.aload_n 0, 1) := by decide +kernel
theorem dX3_clear_16 : decode cX3_clear 16 = .ok (.iconst 0, 1) := by decide +kernel
theorem dX3_clear_17 : decode cX3_clear 17 = .ok (.putfield 28, 3) := by decide +kernel
theorem dX3_clear_20 : decode cX3_clear 20 = .ok (.aload_n 0, 1) := by decide +kernel
theorem dX3_clear_21 : decode cX3_clear 21 = .ok (.sipush 1000, 3) := by decide +kernel
theorem dX3_clear_24 : decode cX3_clear 24 = .ok (.putfield 31, 3) := by decide +kernel
theorem dX3_clear_27 : decode cX3_clear 27 = .ok (.aload_n 0, 1) := by decide +kernel
theorem dX3_clear_28 : decode cX3_clear 28 = .ok (.iconst 0, 1) := by decide +kernel
theorem dX3_clear_29 : decode cX3_clear 29 = .ok (.putfield 34, 3) := by decide +kernel
theorem dX3_clear_32 : decode cX3_clear 32 = .ok (.aload_n 0, 1) := by decide +kernel
theorem dX3_clear_33 : decode cX3_clear 33 = .ok (.iconst 1, 1) := by decide +kernel
theorem dX3_clear_34 : decode cX3_clear 34 = .ok (.putfield 37, 3) := by decide +kernel
theorem dX3_clear_37 : decode cX3_clear 37 = .ok (.aload_n 0, 1) := by decide +kernel
theorem dX3_clear_38 : decode cX3_clear 38 = .ok (.bipush 10, 2) := by decide +kernel
theorem dX3_clear_40 : decode cX3_clear 40 = .ok (.putfield 40, 3) := by decide +kernel
theorem dX3_clear_43 : decode cX3_clear 43 = .ok (.aload_n 0, 1) := by decide +kernel
theorem dX3_clear_44 : decode cX3_clear 44 = .ok (.iconst 2, 1) := by decide +kernel
theorem dX3_clear_45 : decode cX3_clear 45 = .ok (.putfield 43, 3) := by decide +kernel
theorem dX3_clear_48 : decode cX3_clear 48 = .ok (.aload_n 0, 1) := by decide +kernel
theorem dX3_clear_49 : decode cX3_clear 49 = .ok (.iconst 0, 1) := by decide +kernel
theorem dX3_clear_50 : decode cX3_clear 50 = .ok (.putfield 46, 3) := by decide +kernel
theorem dX3_clear_53 : decode cX3_clear 53 = .ok (.return_, 1) := by decide +kernel
set_option maxRecDepth 20000 in
theorem ggX3_rule_X3_exemptCrop : GoodIn wsX3_rule wsX3_exemptCrop := goodIn_r _ [12, 13, 14, 15, 16, 22, 23, 24, 25, 26, 27, 28, 29, 30] (by decide +kernel) (by decide +kernel)
set_option maxRecDepth 20000 in
theorem gX3_rule_X3_exemptCrop : GoodIn wsX3_rule (wsV RX3 49 RX3 yX3_exemptCrop wsX3_exemptCrop) := goodIn_app (goodIn_of _ (by decide +kernel)) ggX3_rule_X3_exemptCrop
set_option maxRecDepth 20000 in
theorem ggX3_rule_X3_setSoil : GoodIn wsX3_rule wsX3_setSoil := goodIn_r _ [20, 21, 14, 15, 16, 22, 23, 24, 25, 26, 27, 28, 29, 30] (by decide +kernel) (by decide +kernel)
set_option maxRecDepth 20000 in
theorem gX3_rule_X3_setSoil : GoodIn wsX3_rule (wsV RX3 53 RX3 yX3_setSoil wsX3_setSoil) := goodIn_app (goodIn_of _ (by decide +kernel)) ggX3_rule_X3_setSoil
theorem dX3_rule_0 : decode cX3_rule 0 = .ok (.iload_n 1, 1) := by decide +kernel
theorem dX3_rule_1 : decode cX3_rule 1 = .ok (.tableswitch 112 0 7 #[47, 55, 63, 71, 79, 88, 96, 104], 47) := by decide +kernel
theorem dX3_rule_48 : decode cX3_rule 48 = .ok (.aload_n 0, 1) := by decide +kernel
theorem dX3_rule_49 : decode cX3_rule 49 = .ok (.iload_n 3, 1) := by decide +kernel
theorem dX3_rule_50 : decode cX3_rule 50 = .ok (.putfield 24, 3) := by decide +kernel
theorem dX3_rule_53 : decode cX3_rule 53 = .ok (.goto 60, 3) := by decide +kernel
theorem dX3_rule_56 : decode cX3_rule 56 = .ok (.aload_n 0, 1) := by decide +kernel
theorem dX3_rule_57 : decode cX3_rule 57 = .ok (.iload_n 3, 1) := by decide +kernel
theorem dX3_rule_58 : decode cX3_rule 58 = .ok (.putfield 28, 3) := by decide +kernel
theorem dX3_rule_61 : decode cX3_rule 61 = .ok (.goto 52, 3) := by decide +kernel
theorem dX3_rule_64 : decode cX3_rule 64 = .ok (.aload_n 0, 1) := by decide +kernel
theorem dX3_rule_65 : decode cX3_rule 65 = .ok (.iload_n 3, 1) := by decide +kernel
theorem dX3_rule_66 : decode cX3_rule 66 = .ok (.putfield 31, 3) := by decide +kernel
theorem dX3_rule_69 : decode cX3_rule 69 = .ok (.goto 44, 3) := by decide +kernel
theorem dX3_rule_72 : decode cX3_rule 72 = .ok (.aload_n 0, 1) := by decide +kernel
theorem dX3_rule_73 : decode cX3_rule 73 = .ok (.iload_n 3, 1) := by decide +kernel
theorem dX3_rule_74 : decode cX3_rule 74 = .ok (.invokevirtual 49, 3) := by decide +kernel
theorem dX3_rule_77 : decode cX3_rule 77 = .ok (.goto 36, 3) := by decide +kernel
theorem dX3_rule_80 : decode cX3_rule 80 = .ok (.aload_n 0, 1) := by decide +kernel
theorem dX3_rule_81 : decode cX3_rule 81 = .ok (.iload_n 2, 1) := by decide +kernel
theorem dX3_rule_82 : decode cX3_rule 82 = .ok (.iload_n 3, 1) := by decide +kernel
theorem dX3_rule_83 : decode cX3_rule 83 = .ok (.invokevirtual 53, 3) := by decide +kernel
theorem dX3_rule_86 : decode cX3_rule 86 = .ok (.goto 27, 3) := by decide +kernel
theorem dX3_rule_89 : decode cX3_rule 89 = .ok (.aload_n 0, 1) := by decide +kernel
theorem dX3_rule_90 : decode cX3_rule 90 = .ok (.iload_n 3, 1) := by decide +kernel
theorem dX3_rule_91 : decode cX3_rule 91 = .ok (.putfield 37, 3) := by decide +kernel
theorem dX3_rule_94 : decode cX3_rule 94 = .ok (.goto 19, 3) := by decide +kernel
theorem dX3_rule_97 : decode cX3_rule 97 = .ok (.aload_n 0, 1) := by decide +kernel
theorem dX3_rule_98 : decode cX3_rule 98 = .ok (.iload_n 3, 1) := by decide +kernel
theorem dX3_rule_99 : decode cX3_rule 99 = .ok (.putfield 40, 3) := by decide +kernel
theorem dX3_rule_102 : decode cX3_rule 102 = .ok (.goto 11, 3) := by decide +kernel
theorem dX3_rule_105 : decode cX3_rule 105 = .ok (.aload_n 0, 1) := by decide +kernel
theorem dX3_rule_106 : decode cX3_rule 106 = .ok (.iload_n 3, 1) := by decide +kernel
theorem dX3_rule_107 : decode cX3_rule 107 = .ok (.putfield 43, 3) := by decide +kernel
theorem dX3_rule_110 : decode cX3_rule 110 = .ok (.goto 3, 3) := by decide +kernel
theorem dX3_rule_113 : decode cX3_rule 113 = .ok (.aload_n 0, 1) := by decide +kernel
theorem dX3_rule_114 : decode cX3_rule 114 = .ok (.dup, 1) := by decide +kernel
theorem dX3_rule_115 : decode cX3_rule 115 = .ok (.getfield 46, 3) := by decide +kernel
theorem dX3_rule_118 : decode cX3_rule 118 = .ok (.iconst 1, 1) := by decide +kernel
theorem dX3_rule_119 : decode cX3_rule 119 = .ok (.iadd, 1) := by decide +kernel
theorem dX3_rule_120 : decode cX3_rule 120 = .ok (.putfield 46, 3) := by decide +kernel
theorem dX3_rule_123 : decode cX3_rule 123 = .ok (.return_, 1) := by decide +kernel
set_option maxRecDepth 20000 in
theorem ggX3_exemptCrop_X10_isBelow : GoodIn wsX3_exemptCrop wsX10_isBelow := goodIn_r _ [4] (by decide +kernel) (by decide +kernel)
set_option maxRecDepth 20000 in
theorem gX3_exemptCrop_X10_isBelow_n57 : GoodIn wsX3_exemptCrop (wsX10_isBelow) := ggX3_exemptCrop_X10_isBelow
theorem dX3_exemptCrop_0 : decode cX3_exemptCrop 0 = .ok (.iload_n 1, 1) := by decide +kernel
theorem dX3_exemptCrop_1 : decode cX3_exemptCrop 1 = .ok (.bipush 10, 2) := by decide +kernel
theorem dX3_exemptCrop_3 : decode cX3_exemptCrop 3 = .ok (.invokestatic 57, 3) := by decide +kernel
theorem dX3_exemptCrop_6 : decode cX3_exemptCrop 6 = .ok (.ifCond .eq 15, 3) := by decide +kernel
theorem dX3_exemptCrop_9 : decode cX3_exemptCrop 9 = .ok (.aload_n 0, 1) := by decide +kernel
theorem dX3_exemptCrop_10 : decode cX3_exemptCrop 10 = .ok (.dup, 1) := by decide +kernel
theorem dX3_exemptCrop_11 : decode cX3_exemptCrop 11 = .ok (.getfield 34, 3) := by decide +kernel
theorem dX3_exemptCrop_14 : decode cX3_exemptCrop 14 = .ok (.iconst 1, 1) := by decide +kernel
theorem dX3_exemptCrop_15 : decode cX3_exemptCrop 15 = .ok (.iload_n 1, 1) := by decide +kernel
theorem dX3_exemptCrop_16 : decode cX3_exemptCrop 16 = .ok (.ishl, 1) := by decide +kernel
theorem dX3_exemptCrop_17 : decode cX3_exemptCrop 17 = .ok (.ior, 1) := by decide +kernel
theorem dX3_exemptCrop_18 : decode cX3_exemptCrop 18 = .ok (.putfield 34, 3) := by decide +kernel
theorem dX3_exemptCrop_21 : decode cX3_exemptCrop 21 = .ok (.return_, 1) := by decide +kernel
set_option maxRecDepth 20000 in
theorem ggX3_setSoil_X10_isBelow : GoodIn wsX3_setSoil wsX10_isBelow := goodIn_r _ [4] (by decide +kernel) (by decide +kernel)
set_option maxRecDepth 20000 in
theorem gX3_setSoil_X10_isBelow_n57 : GoodIn wsX3_setSoil (wsX10_isBelow) := ggX3_setSoil_X10_isBelow
theorem dX3_setSoil_0 : decode cX3_setSoil 0 = .ok (.iload_n 1, 1) := by decide +kernel
theorem dX3_setSoil_1 : decode cX3_setSoil 1 = .ok (.iconst 4, 1) := by decide +kernel
theorem dX3_setSoil_2 : decode cX3_setSoil 2 = .ok (.invokestatic 57, 3) := by decide +kernel
theorem dX3_setSoil_5 : decode cX3_setSoil 5 = .ok (.ifCond .eq 10, 3) := by decide +kernel
theorem dX3_setSoil_8 : decode cX3_setSoil 8 = .ok (.aload_n 0, 1) := by decide +kernel
theorem dX3_setSoil_9 : decode cX3_setSoil 9 = .ok (.getfield 9, 3) := by decide +kernel
theorem dX3_setSoil_12 : decode cX3_setSoil 12 = .ok (.iload_n 1, 1) := by decide +kernel
theorem dX3_setSoil_13 : decode cX3_setSoil 13 = .ok (.iload_n 2, 1) := by decide +kernel
theorem dX3_setSoil_14 : decode cX3_setSoil 14 = .ok (.iastore, 1) := by decide +kernel
theorem dX3_setSoil_15 : decode cX3_setSoil 15 = .ok (.return_, 1) := by decide +kernel
set_option maxRecDepth 20000 in
theorem ggX3_soilIs_X10_isBelow : GoodIn wsX3_soilIs wsX10_isBelow := goodIn_r _ [4] (by decide +kernel) (by decide +kernel)
set_option maxRecDepth 20000 in
theorem gX3_soilIs_X10_isBelow_n57 : GoodIn wsX3_soilIs (wsX10_isBelow) := ggX3_soilIs_X10_isBelow
theorem dX3_soilIs_0 : decode cX3_soilIs 0 = .ok (.iload_n 1, 1) := by decide +kernel
theorem dX3_soilIs_1 : decode cX3_soilIs 1 = .ok (.iconst 4, 1) := by decide +kernel
theorem dX3_soilIs_2 : decode cX3_soilIs 2 = .ok (.invokestatic 57, 3) := by decide +kernel
theorem dX3_soilIs_5 : decode cX3_soilIs 5 = .ok (.ifCond .eq 12, 3) := by decide +kernel
theorem dX3_soilIs_8 : decode cX3_soilIs 8 = .ok (.aload_n 0, 1) := by decide +kernel
theorem dX3_soilIs_9 : decode cX3_soilIs 9 = .ok (.getfield 9, 3) := by decide +kernel
theorem dX3_soilIs_12 : decode cX3_soilIs 12 = .ok (.iload_n 1, 1) := by decide +kernel
theorem dX3_soilIs_13 : decode cX3_soilIs 13 = .ok (.iaload, 1) := by decide +kernel
theorem dX3_soilIs_14 : decode cX3_soilIs 14 = .ok (.goto 4, 3) := by decide +kernel
theorem dX3_soilIs_17 : decode cX3_soilIs 17 = .ok (.iconst 0, 1) := by decide +kernel
theorem dX3_soilIs_18 : decode cX3_soilIs 18 = .ok (.ireturn, 1) := by decide +kernel
set_option maxRecDepth 20000 in
theorem ggX3_exempts_X10_isBelow : GoodIn wsX3_exempts wsX10_isBelow := goodIn_r _ [4] (by decide +kernel) (by decide +kernel)
set_option maxRecDepth 20000 in
theorem gX3_exempts_X10_isBelow_n57 : GoodIn wsX3_exempts (wsX10_isBelow) := ggX3_exempts_X10_isBelow
theorem dX3_exempts_0 : decode cX3_exempts 0 = .ok (.iload_n 1, 1) := by decide +kernel
theorem dX3_exempts_1 : decode cX3_exempts 1 = .ok (.bipush 10, 2) := by decide +kernel
theorem dX3_exempts_3 : decode cX3_exempts 3 = .ok (.invokestatic 57, 3) := by decide +kernel
theorem dX3_exempts_6 : decode cX3_exempts 6 = .ok (.ifCond .eq 19, 3) := by decide +kernel
theorem dX3_exempts_9 : decode cX3_exempts 9 = .ok (.aload_n 0, 1) := by decide +kernel
theorem dX3_exempts_10 : decode cX3_exempts 10 = .ok (.getfield 34, 3) := by decide +kernel
theorem dX3_exempts_13 : decode cX3_exempts 13 = .ok (.iload_n 1, 1) := by decide +kernel
theorem dX3_exempts_14 : decode cX3_exempts 14 = .ok (.ishr, 1) := by decide +kernel
theorem dX3_exempts_15 : decode cX3_exempts 15 = .ok (.iconst 1, 1) := by decide +kernel
theorem dX3_exempts_16 : decode cX3_exempts 16 = .ok (.iand, 1) := by decide +kernel
theorem dX3_exempts_17 : decode cX3_exempts 17 = .ok (.iconst 1, 1) := by decide +kernel
theorem dX3_exempts_18 : decode cX3_exempts 18 = .ok (.if_icmp .ne 7, 3) := by decide +kernel
theorem dX3_exempts_21 : decode cX3_exempts 21 = .ok (.iconst 1, 1) := by decide +kernel
theorem dX3_exempts_22 : decode cX3_exempts 22 = .ok (.goto 4, 3) := by decide +kernel
theorem dX3_exempts_25 : decode cX3_exempts 25 = .ok (.iconst 0, 1) := by decide +kernel
theorem dX3_exempts_26 : decode cX3_exempts 26 = .ok (.ireturn, 1) := by decide +kernel
theorem dX3_allows_0 : decode cX3_allows 0 = .ok (.aload_n 0, 1) := by decide +kernel
theorem dX3_allows_1 : decode cX3_allows 1 = .ok (.getfield 24, 3) := by decide +kernel
theorem dX3_allows_4 : decode cX3_allows 4 = .ok (.aload_n 0, 1) := by decide +kernel
theorem dX3_allows_5 : decode cX3_allows 5 = .ok (.getfield 28, 3) := by decide +kernel
theorem dX3_allows_8 : decode cX3_allows 8 = .ok (.iconst 0, 1) := by decide +kernel
theorem dX3_allows_9 : decode cX3_allows 9 = .ok (.iload_n 1, 1) := by decide +kernel
theorem dX3_allows_10 : decode cX3_allows 10 = .ok (.iconst 5, 1) := by decide +kernel
theorem dX3_allows_11 : decode cX3_allows 11 = .ok (.isub, 1) := by decide +kernel
theorem dX3_allows_12 : decode cX3_allows 12 = .ok (.invokestatic 61, 3) := by decide +kernel
theorem dX3_allows_15 : decode cX3_allows 15 = .ok (.imul, 1) := by decide +kernel
theorem dX3_allows_16 : decode cX3_allows 16 = .ok (.iadd, 1) := by decide +kernel
theorem dX3_allows_17 : decode cX3_allows 17 = .ok (.ireturn, 1) := by decide +kernel
theorem dX4_init_0 : decode cX4_init 0 = .ok (.aload_n 0, 1) := by decide +kernel
theorem dX4_init_1 : decode cX4_init 1 = .ok (.invokespecial 3, 3) := by decide +kernel
theorem dX4_init_4 : decode cX4_init 4 = .ok (.aload_n 0, 1) := by decide +kernel
theorem dX4_init_5 : decode cX4_init 5 = .ok (.bipush 40, 2) := by decide +kernel
theorem dX4_init_7 : decode cX4_init 7 = .ok (.newarray .int, 2) := by decide +kernel
theorem dX4_init_9 : decode cX4_init 9 = .ok (.putfield 9, 3) := by decide +kernel
theorem dX4_init_12 : decode cX4_init 12 = .ok (.aload_n 0, 1) := by decide +kernel
theorem dX4_init_13 : decode cX4_init 13 = .ok (.bipush 40, 2) := by decide +kernel
theorem dX4_init_15 : decode cX4_init 15 = .ok (.newarray .int, 2) := by decide +kernel
theorem dX4_init_17 : decode cX4_init 17 = .ok (.putfield 15, 3) := by decide +kernel
theorem dX4_init_20 : decode cX4_init 20 = .ok (.aload_n 0, 1) := by decide +kernel
theorem dX4_init_21 : decode cX4_init 21 = .ok (.bipush 40, 2) := by decide +kernel
theorem dX4_init_23 : decode cX4_init 23 = .ok (.newarray .long, 2) := by decide +kernel
theorem dX4_init_25 : decode cX4_init 25 = .ok (.putfield 18, 3) := by decide +kernel
theorem dX4_init_28 : decode cX4_init 28 = .ok (.return_, 1) := by decide +kernel
set_option maxRecDepth 20000 in
theorem ggX4_has_X10_isBelow : GoodIn wsX4_has wsX10_isBelow := goodIn_r _ [4] (by decide +kernel) (by decide +kernel)
set_option maxRecDepth 20000 in
theorem gX4_has_X10_isBelow_n26 : GoodIn wsX4_has (wsX10_isBelow) := ggX4_has_X10_isBelow
theorem dX4_has_0 : decode cX4_has 0 = .ok (.iload_n 1, 1) := by decide +kernel
theorem dX4_has_1 : decode cX4_has 1 = .ok (.aload_n 0, 1) := by decide +kernel
theorem dX4_has_2 : decode cX4_has 2 = .ok (.getfield 22, 3) := by decide +kernel
theorem dX4_has_5 : decode cX4_has 5 = .ok (.invokestatic 26, 3) := by decide +kernel
theorem dX4_has_8 : decode cX4_has 8 = .ok (.ireturn, 1) := by decide +kernel
set_option maxRecDepth 20000 in
theorem ggX4_hasRow_X4_has : GoodIn wsX4_hasRow wsX4_has := goodIn_r _ [6, 1, 7, 8, 9, 10, 11, 12, 13, 14] (by decide +kernel) (by decide +kernel)
set_option maxRecDepth 20000 in
theorem gX4_hasRow_X4_has : GoodIn wsX4_hasRow (wsV RX4 30 RX4 yX4_has wsX4_has) := goodIn_app (goodIn_of _ (by decide +kernel)) ggX4_hasRow_X4_has
theorem dX4_hasRow_0 : decode cX4_hasRow 0 = .ok (.aload_n 0, 1) := by decide +kernel
theorem dX4_hasRow_1 : decode cX4_hasRow 1 = .ok (.iload_n 1, 1) := by decide +kernel
theorem dX4_hasRow_2 : decode cX4_hasRow 2 = .ok (.invokevirtual 30, 3) := by decide +kernel
theorem dX4_hasRow_5 : decode cX4_hasRow 5 = .ok (.ifCond .eq 17, 3) := by decide +kernel
theorem dX4_hasRow_8 : decode cX4_hasRow 8 = .ok (.iload_n 2, 1) := by decide +kernel
theorem dX4_hasRow_9 : decode cX4_hasRow 9 = .ok (.aload_n 0, 1) := by decide +kernel
theorem dX4_hasRow_10 : decode cX4_hasRow 10 = .ok (.getfield 22, 3) := by decide +kernel
theorem dX4_hasRow_13 : decode cX4_hasRow 13 = .ok (.iload_n 1, 1) := by decide +kernel
theorem dX4_hasRow_14 : decode cX4_hasRow 14 = .ok (.isub, 1) := by decide +kernel
theorem dX4_hasRow_15 : decode cX4_hasRow 15 = .ok (.if_icmp .gt 7, 3) := by decide +kernel
theorem dX4_hasRow_18 : decode cX4_hasRow 18 = .ok (.iconst 1, 1) := by decide +kernel
theorem dX4_hasRow_19 : decode cX4_hasRow 19 = .ok (.goto 4, 3) := by decide +kernel
theorem dX4_hasRow_22 : decode cX4_hasRow 22 = .ok (.iconst 0, 1) := by decide +kernel
theorem dX4_hasRow_23 : decode cX4_hasRow 23 = .ok (.ireturn, 1) := by decide +kernel
set_option maxRecDepth 20000 in
theorem ggX4_houseOf_X4_has : GoodIn wsX4_houseOf wsX4_has := goodIn_r _ [6, 7, 8, 9, 10, 11, 12, 13, 14, 15] (by decide +kernel) (by decide +kernel)
set_option maxRecDepth 20000 in
theorem gX4_houseOf_X4_has : GoodIn wsX4_houseOf (wsV RX4 30 RX4 yX4_has wsX4_has) := goodIn_app (goodIn_of _ (by decide +kernel)) ggX4_houseOf_X4_has
theorem dX4_houseOf_0 : decode cX4_houseOf 0 = .ok (.aload_n 0, 1) := by decide +kernel
theorem dX4_houseOf_1 : decode cX4_houseOf 1 = .ok (.iload_n 1, 1) := by decide +kernel
theorem dX4_houseOf_2 : decode cX4_houseOf 2 = .ok (.invokevirtual 30, 3) := by decide +kernel
theorem dX4_houseOf_5 : decode cX4_houseOf 5 = .ok (.ifCond .eq 12, 3) := by decide +kernel
theorem dX4_houseOf_8 : decode cX4_houseOf 8 = .ok (.aload_n 0, 1) := by decide +kernel
theorem dX4_houseOf_9 : decode cX4_houseOf 9 = .ok (.getfield 9, 3) := by decide +kernel
theorem dX4_houseOf_12 : decode cX4_houseOf 12 = .ok (.iload_n 1, 1) := by decide +kernel
theorem dX4_houseOf_13 : decode cX4_houseOf 13 = .ok (.iaload, 1) := by decide +kernel
theorem dX4_houseOf_14 : decode cX4_houseOf 14 = .ok (.goto 4, 3) := by decide +kernel
theorem dX4_houseOf_17 : decode cX4_houseOf 17 = .ok (.iconst (-1), 1) := by decide +kernel
theorem dX4_houseOf_18 : decode cX4_houseOf 18 = .ok (.ireturn, 1) := by decide +kernel
set_option maxRecDepth 20000 in
theorem ggX4_homeOf_X4_has : GoodIn wsX4_homeOf wsX4_has := goodIn_r _ [6, 7, 8, 9, 10, 11, 12, 13, 14, 15] (by decide +kernel) (by decide +kernel)
set_option maxRecDepth 20000 in
theorem gX4_homeOf_X4_has : GoodIn wsX4_homeOf (wsV RX4 30 RX4 yX4_has wsX4_has) := goodIn_app (goodIn_of _ (by decide +kernel)) ggX4_homeOf_X4_has
theorem dX4_homeOf_0 : decode cX4_homeOf 0 = .ok (.aload_n 0, 1) := by decide +kernel
theorem dX4_homeOf_1 : decode cX4_homeOf 1 = .ok (.iload_n 1, 1) := by decide +kernel
theorem dX4_homeOf_2 : decode cX4_homeOf 2 = .ok (.invokevirtual 30, 3) := by decide +kernel
theorem dX4_homeOf_5 : decode cX4_homeOf 5 = .ok (.ifCond .eq 12, 3) := by decide +kernel
theorem dX4_homeOf_8 : decode cX4_homeOf 8 = .ok (.aload_n 0, 1) := by decide +kernel
theorem dX4_homeOf_9 : decode cX4_homeOf 9 = .ok (.getfield 15, 3) := by decide +kernel
theorem dX4_homeOf_12 : decode cX4_homeOf 12 = .ok (.iload_n 1, 1) := by decide +kernel
theorem dX4_homeOf_13 : decode cX4_homeOf 13 = .ok (.iaload, 1) := by decide +kernel
theorem dX4_homeOf_14 : decode cX4_homeOf 14 = .ok (.goto 4, 3) := by decide +kernel
theorem dX4_homeOf_17 : decode cX4_homeOf 17 = .ok (.iconst 0, 1) := by decide +kernel
theorem dX4_homeOf_18 : decode cX4_homeOf 18 = .ok (.ireturn, 1) := by decide +kernel
theorem dX4_add_0 : decode cX4_add 0 = .ok (.aload_n 0, 1) := by decide +kernel
theorem dX4_add_1 : decode cX4_add 1 = .ok (.getfield 22, 3) := by decide +kernel
theorem dX4_add_4 : decode cX4_add 4 = .ok (.bipush 40, 2) := by decide +kernel
theorem dX4_add_6 : decode cX4_add 6 = .ok (.if_icmp .lt 5, 3) := by decide +kernel
theorem dX4_add_9 : decode cX4_add 9 = .ok (.iconst (-1), 1) := by decide +kernel
theorem dX4_add_10 : decode cX4_add 10 = .ok (.ireturn, 1) := by decide +kernel
theorem dX4_add_11 : decode cX4_add 11 = .ok (.aload_n 0, 1) := by decide +kernel
theorem dX4_add_12 : decode cX4_add 12 = .ok (.getfield 9, 3) := by decide +kernel
theorem dX4_add_15 : decode cX4_add 15 = .ok (.aload_n 0, 1) := by decide +kernel
theorem dX4_add_16 : decode cX4_add 16 = .ok (.getfield 22, 3) := by decide +kernel
theorem dX4_add_19 : decode cX4_add 19 = .ok (.iload_n 1, 1) := by decide +kernel
theorem dX4_add_20 : decode cX4_add 20 = .ok (.iastore, 1) := by decide +kernel
theorem dX4_add_21 : decode cX4_add 21 = .ok (.aload_n 0, 1) := by decide +kernel
theorem dX4_add_22 : decode cX4_add 22 = .ok (.getfield 15, 3) := by decide +kernel
theorem dX4_add_25 : decode cX4_add 25 = .ok (.aload_n 0, 1) := by decide +kernel
theorem dX4_add_26 : decode cX4_add 26 = .ok (.getfield 22, 3) := by decide +kernel
theorem dX4_add_29 : decode cX4_add 29 = .ok (.iload_n 2, 1) := by decide +kernel
theorem dX4_add_30 : decode cX4_add 30 = .ok (.iastore, 1) := by decide +kernel
theorem dX4_add_31 : decode cX4_add 31 = .ok (.aload_n 0, 1) := by decide +kernel
theorem dX4_add_32 : decode cX4_add 32 = .ok (.dup, 1) := by decide +kernel
theorem dX4_add_33 : decode cX4_add 33 = .ok (.getfield 22, 3) := by decide +kernel
theorem dX4_add_36 : decode cX4_add 36 = .ok (.iconst 1, 1) := by decide +kernel
theorem dX4_add_37 : decode cX4_add 37 = .ok (.iadd, 1) := by decide +kernel
theorem dX4_add_38 : decode cX4_add 38 = .ok (.putfield 22, 3) := by decide +kernel
theorem dX4_add_41 : decode cX4_add 41 = .ok (.aload_n 0, 1) := by decide +kernel
theorem dX4_add_42 : decode cX4_add 42 = .ok (.getfield 22, 3) := by decide +kernel
theorem dX4_add_45 : decode cX4_add 45 = .ok (.iconst 1, 1) := by decide +kernel
theorem dX4_add_46 : decode cX4_add 46 = .ok (.isub, 1) := by decide +kernel
theorem dX4_add_47 : decode cX4_add 47 = .ok (.ireturn, 1) := by decide +kernel
set_option maxRecDepth 20000 in
theorem ggX4_bind_X4_has : GoodIn wsX4_bind wsX4_has := goodIn_r _ [7, 8, 9, 10, 11, 16, 17, 18, 19, 20] (by decide +kernel) (by decide +kernel)
set_option maxRecDepth 20000 in
theorem gX4_bind_X4_has : GoodIn wsX4_bind (wsV RX4 30 RX4 yX4_has wsX4_has) := goodIn_app (goodIn_of _ (by decide +kernel)) ggX4_bind_X4_has
set_option maxRecDepth 20000 in
theorem ggX4_bind_X4_areKin : GoodIn wsX4_bind wsX4_areKin := goodIn_r _ [15, 1, 3, 4, 5, 6, 7, 8, 9, 10, 11, 16, 17, 18, 19, 20] (by decide +kernel) (by decide +kernel)
set_option maxRecDepth 20000 in
theorem gX4_bind_X4_areKin : GoodIn wsX4_bind (wsV RX4 34 RX4 yX4_areKin wsX4_areKin) := goodIn_app (goodIn_of _ (by decide +kernel)) ggX4_bind_X4_areKin
theorem dX4_bind_0 : decode cX4_bind 0 = .ok (.aload_n 0, 1) := by decide +kernel
theorem dX4_bind_1 : decode cX4_bind 1 = .ok (.iload_n 1, 1) := by decide +kernel
theorem dX4_bind_2 : decode cX4_bind 2 = .ok (.invokevirtual 30, 3) := by decide +kernel
theorem dX4_bind_5 : decode cX4_bind 5 = .ok (.ifCond .eq 25, 3) := by decide +kernel
theorem dX4_bind_8 : decode cX4_bind 8 = .ok (.aload_n 0, 1) := by decide +kernel
theorem dX4_bind_9 : decode cX4_bind 9 = .ok (.iload_n 2, 1) := by decide +kernel
theorem dX4_bind_10 : decode cX4_bind 10 = .ok (.invokevirtual 30, 3) := by decide +kernel
theorem dX4_bind_13 : decode cX4_bind 13 = .ok (.ifCond .eq 17, 3) := by decide +kernel
theorem dX4_bind_16 : decode cX4_bind 16 = .ok (.iload_n 1, 1) := by decide +kernel
theorem dX4_bind_17 : decode cX4_bind 17 = .ok (.iload_n 2, 1) := by decide +kernel
theorem dX4_bind_18 : decode cX4_bind 18 = .ok (.if_icmp .eq 12, 3) := by decide +kernel
theorem dX4_bind_21 : decode cX4_bind 21 = .ok (.aload_n 0, 1) := by decide +kernel
theorem dX4_bind_22 : decode cX4_bind 22 = .ok (.iload_n 1, 1) := by decide +kernel
theorem dX4_bind_23 : decode cX4_bind 23 = .ok (.iload_n 2, 1) := by decide +kernel
theorem dX4_bind_24 : decode cX4_bind 24 = .ok (.invokevirtual 34, 3) := by decide +kernel
theorem dX4_bind_27 : decode cX4_bind 27 = .ok (.ifCond .eq 5, 3) := by decide +kernel
theorem dX4_bind_30 : decode cX4_bind 30 = .ok (.iconst 0, 1) := by decide +kernel
theorem dX4_bind_31 : decode cX4_bind 31 = .ok (.ireturn, 1) := by decide +kernel
theorem dX4_bind_32 : decode cX4_bind 32 = .ok (.aload_n 0, 1) := by decide +kernel
theorem dX4_bind_33 : decode cX4_bind 33 = .ok (.getfield 18, 3) := by decide +kernel
theorem dX4_bind_36 : decode cX4_bind 36 = .ok (.iload_n 1, 1) := by decide +kernel
theorem dX4_bind_37 : decode cX4_bind 37 = .ok (.dup2, 1) := by decide +kernel
theorem dX4_bind_38 : decode cX4_bind 38 = .ok (.laload, 1) := by decide +kernel
theorem dX4_bind_39 : decode cX4_bind 39 = .ok (.lconst 1, 1) := by decide +kernel
theorem dX4_bind_40 : decode cX4_bind 40 = .ok (.iload_n 2, 1) := by decide +kernel
theorem dX4_bind_41 : decode cX4_bind 41 = .ok (.lshl, 1) := by decide +kernel
theorem dX4_bind_42 : decode cX4_bind 42 = .ok (.lor, 1) := by decide +kernel
theorem dX4_bind_43 : decode cX4_bind 43 = .ok (.lastore, 1) := by decide +kernel
theorem dX4_bind_44 : decode cX4_bind 44 = .ok (.aload_n 0, 1) := by decide +kernel
theorem dX4_bind_45 : decode cX4_bind 45 = .ok (.getfield 18, 3) := by decide +kernel
theorem dX4_bind_48 : decode cX4_bind 48 = .ok (.iload_n 2, 1) := by decide +kernel
theorem dX4_bind_49 : decode cX4_bind 49 = .ok (.dup2, 1) := by decide +kernel
theorem dX4_bind_50 : decode cX4_bind 50 = .ok (.laload, 1) := by decide +kernel
theorem dX4_bind_51 : decode cX4_bind 51 = .ok (.lconst 1, 1) := by decide +kernel
theorem dX4_bind_52 : decode cX4_bind 52 = .ok (.iload_n 1, 1) := by decide +kernel
theorem dX4_bind_53 : decode cX4_bind 53 = .ok (.lshl, 1) := by decide +kernel
theorem dX4_bind_54 : decode cX4_bind 54 = .ok (.lor, 1) := by decide +kernel
theorem dX4_bind_55 : decode cX4_bind 55 = .ok (.lastore, 1) := by decide +kernel
theorem dX4_bind_56 : decode cX4_bind 56 = .ok (.aload_n 0, 1) := by decide +kernel
theorem dX4_bind_57 : decode cX4_bind 57 = .ok (.dup, 1) := by decide +kernel
theorem dX4_bind_58 : decode cX4_bind 58 = .ok (.getfield 37, 3) := by decide +kernel
theorem dX4_bind_61 : decode cX4_bind 61 = .ok (.iconst 1, 1) := by decide +kernel
theorem dX4_bind_62 : decode cX4_bind 62 = .ok (.iadd, 1) := by decide +kernel
theorem dX4_bind_63 : decode cX4_bind 63 = .ok (.putfield 37, 3) := by decide +kernel
theorem dX4_bind_66 : decode cX4_bind 66 = .ok (.iconst 1, 1) := by decide +kernel
theorem dX4_bind_67 : decode cX4_bind 67 = .ok (.ireturn, 1) := by decide +kernel
set_option maxRecDepth 20000 in
theorem ggX4_areKin_X4_has : GoodIn wsX4_areKin wsX4_has := goodIn_r _ [6, 7, 8, 9, 10, 11, 12, 13, 14, 15] (by decide +kernel) (by decide +kernel)
set_option maxRecDepth 20000 in
theorem gX4_areKin_X4_has : GoodIn wsX4_areKin (wsV RX4 30 RX4 yX4_has wsX4_has) := goodIn_app (goodIn_of _ (by decide +kernel)) ggX4_areKin_X4_has
theorem dX4_areKin_0 : decode cX4_areKin 0 = .ok (.aload_n 0, 1) := by decide +kernel
theorem dX4_areKin_1 : decode cX4_areKin 1 = .ok (.iload_n 1, 1) := by decide +kernel
theorem dX4_areKin_2 : decode cX4_areKin 2 = .ok (.invokevirtual 30, 3) := by decide +kernel
theorem dX4_areKin_5 : decode cX4_areKin 5 = .ok (.ifCond .eq 30, 3) := by decide +kernel
theorem dX4_areKin_8 : decode cX4_areKin 8 = .ok (.aload_n 0, 1) := by decide +kernel
theorem dX4_areKin_9 : decode cX4_areKin 9 = .ok (.iload_n 2, 1) := by decide +kernel
theorem dX4_areKin_10 : decode cX4_areKin 10 = .ok (.invokevirtual 30, 3) := by decide +kernel
theorem dX4_areKin_13 : decode cX4_areKin 13 = .ok (.ifCond .eq 22, 3) := by decide +kernel
theorem dX4_areKin_16 : decode cX4_areKin 16 = .ok (.aload_n 0, 1) := by decide +kernel
theorem dX4_areKin_17 : decode cX4_areKin 17 = .ok (.getfield 18, 3) := by decide +kernel
theorem dX4_areKin_20 : decode cX4_areKin 20 = .ok (.iload_n 1, 1) := by decide +kernel
theorem dX4_areKin_21 : decode cX4_areKin 21 = .ok (.laload, 1) := by decide +kernel
theorem dX4_areKin_22 : decode cX4_areKin 22 = .ok (.iload_n 2, 1) := by decide +kernel
theorem dX4_areKin_23 : decode cX4_areKin 23 = .ok (.lshr, 1) := by decide +kernel
theorem dX4_areKin_24 : decode cX4_areKin 24 = .ok (.lconst 1, 1) := by decide +kernel
theorem dX4_areKin_25 : decode cX4_areKin 25 = .ok (.land, 1) := by decide +kernel
theorem dX4_areKin_26 : decode cX4_areKin 26 = .ok (.lconst 1, 1) := by decide +kernel
theorem dX4_areKin_27 : decode cX4_areKin 27 = .ok (.lcmp, 1) := by decide +kernel
theorem dX4_areKin_28 : decode cX4_areKin 28 = .ok (.ifCond .ne 7, 3) := by decide +kernel
theorem dX4_areKin_31 : decode cX4_areKin 31 = .ok (.iconst 1, 1) := by decide +kernel
theorem dX4_areKin_32 : decode cX4_areKin 32 = .ok (.goto 4, 3) := by decide +kernel
theorem dX4_areKin_35 : decode cX4_areKin 35 = .ok (.iconst 0, 1) := by decide +kernel
theorem dX4_areKin_36 : decode cX4_areKin 36 = .ok (.ireturn, 1) := by decide +kernel
set_option maxRecDepth 20000 in
theorem ggX4_areOfOneFamily_X4_houseOf : GoodIn wsX4_areOfOneFamily wsX4_houseOf := goodIn_r _ [5, 6, 7, 8, 9, 4, 10, 11, 12, 13, 14, 20, 21, 22, 23, 24] (by decide +kernel) (by decide +kernel)
set_option maxRecDepth 20000 in
theorem gX4_areOfOneFamily_X4_houseOf : GoodIn wsX4_areOfOneFamily (wsV RX4 40 RX4 yX4_houseOf wsX4_houseOf) := goodIn_app (goodIn_of _ (by decide +kernel)) ggX4_areOfOneFamily_X4_houseOf
set_option maxRecDepth 20000 in
theorem ggX4_areOfOneFamily_X4_areKin : GoodIn wsX4_areOfOneFamily wsX4_areKin := goodIn_r _ [18, 19, 7, 8, 9, 4, 10, 11, 12, 13, 14, 20, 21, 22, 23, 24] (by decide +kernel) (by decide +kernel)
set_option maxRecDepth 20000 in
theorem gX4_areOfOneFamily_X4_areKin : GoodIn wsX4_areOfOneFamily (wsV RX4 34 RX4 yX4_areKin wsX4_areKin) := goodIn_app (goodIn_of _ (by decide +kernel)) ggX4_areOfOneFamily_X4_areKin
theorem dX4_areOfOneFamily_0 : decode cX4_areOfOneFamily 0 = .ok (.aload_n 0, 1) := by decide +kernel
theorem dX4_areOfOneFamily_1 : decode cX4_areOfOneFamily 1 = .ok (.iload_n 1, 1) := by decide +kernel
theorem dX4_areOfOneFamily_2 : decode cX4_areOfOneFamily 2 = .ok (.invokevirtual 40, 3) := by decide +kernel
theorem dX4_areOfOneFamily_5 : decode cX4_areOfOneFamily 5 = .ok (.aload_n 0, 1) := by decide +kernel
theorem dX4_areOfOneFamily_6 : decode cX4_areOfOneFamily 6 = .ok (.iload_n 2, 1) := by decide +kernel
theorem dX4_areOfOneFamily_7 : decode cX4_areOfOneFamily 7 = .ok (.invokevirtual 40, 3) := by decide +kernel
theorem dX4_areOfOneFamily_10 : decode cX4_areOfOneFamily 10 = .ok (.if_icmp .eq 12, 3) := by decide +kernel
theorem dX4_areOfOneFamily_13 : decode cX4_areOfOneFamily 13 = .ok (.aload_n 0, 1) := by decide +kernel
theorem dX4_areOfOneFamily_14 : decode cX4_areOfOneFamily 14 = .ok (.iload_n 1, 1) := by decide +kernel
theorem dX4_areOfOneFamily_15 : decode cX4_areOfOneFamily 15 = .ok (.iload_n 2, 1) := by decide +kernel
theorem dX4_areOfOneFamily_16 : decode cX4_areOfOneFamily 16 = .ok (.invokevirtual 34, 3) := by decide +kernel
theorem dX4_areOfOneFamily_19 : decode cX4_areOfOneFamily 19 = .ok (.ifCond .eq 7, 3) := by decide +kernel
theorem dX4_areOfOneFamily_22 : decode cX4_areOfOneFamily 22 = .ok (.iconst 1, 1) := by decide +kernel
theorem dX4_areOfOneFamily_23 : decode cX4_areOfOneFamily 23 = .ok (.goto 4, 3) := by decide +kernel
theorem dX4_areOfOneFamily_26 : decode cX4_areOfOneFamily 26 = .ok (.iconst 0, 1) := by decide +kernel
theorem dX4_areOfOneFamily_27 : decode cX4_areOfOneFamily 27 = .ok (.ireturn, 1) := by decide +kernel
theorem dX4_membersOf_0 : decode cX4_membersOf 0 = .ok (.iconst 0, 1) := by decide +kernel
theorem dX4_membersOf_1 : decode cX4_membersOf 1 = .ok (.istore_n 2, 1) := by decide +kernel
theorem dX4_membersOf_2 : decode cX4_membersOf 2 = .ok (.iconst 0, 1) := by decide +kernel
theorem dX4_membersOf_3 : decode cX4_membersOf 3 = .ok (.istore_n 3, 1) := by decide +kernel
theorem dX4_membersOf_4 : decode cX4_membersOf 4 = .ok (.iload_n 3, 1) := by decide +kernel
theorem dX4_membersOf_5 : decode cX4_membersOf 5 = .ok (.aload_n 0, 1) := by decide +kernel
theorem dX4_membersOf_6 : decode cX4_membersOf 6 = .ok (.getfield 22, 3) := by decide +kernel
theorem dX4_membersOf_9 : decode cX4_membersOf 9 = .ok (.if_icmp .ge 22, 3) := by decide +kernel
theorem dX4_membersOf_12 : decode cX4_membersOf 12 = .ok (.aload_n 0, 1) := by decide +kernel
theorem dX4_membersOf_13 : decode cX4_membersOf 13 = .ok (.getfield 9, 3) := by decide +kernel
theorem dX4_membersOf_16 : decode cX4_membersOf 16 = .ok (.iload_n 3, 1) := by decide +kernel
theorem dX4_membersOf_17 : decode cX4_membersOf 17 = .ok (.iaload, 1) := by decide +kernel
theorem dX4_membersOf_18 : decode cX4_membersOf 18 = .ok (.iload_n 1, 1) := by decide +kernel
theorem dX4_membersOf_19 : decode cX4_membersOf 19 = .ok (.if_icmp .ne 6, 3) := by decide +kernel
theorem dX4_membersOf_22 : decode cX4_membersOf 22 = .ok (.iinc 2 1, 3) := by decide +kernel
theorem dX4_membersOf_25 : decode cX4_membersOf 25 = .ok (.iinc 3 1, 3) := by decide +kernel
theorem dX4_membersOf_28 : decode cX4_membersOf 28 = .ok (.goto (-24), 3) := by decide +kernel
theorem dX4_membersOf_31 : decode cX4_membersOf 31 = .ok (.iload_n 2, 1) := by decide +kernel
theorem dX4_membersOf_32 : decode cX4_membersOf 32 = .ok (.ireturn, 1) := by decide +kernel
theorem dX5_init_0 : decode cX5_init 0 = .ok (.aload_n 0, 1) := by decide +kernel
theorem dX5_init_1 : decode cX5_init 1 = .ok (.invokespecial 3, 3) := by decide +kernel
theorem dX5_init_4 : decode cX5_init 4 = .ok (.aload_n 0, 1) := by decide +kernel
theorem dX5_init_5 : decode cX5_init 5 = .ok (.iconst (-1), 1) := by decide +kernel
theorem dX5_init_6 : decode cX5_init 6 = .ok (.putfield 9, 3) := by decide +kernel
theorem dX5_init_9 : decode cX5_init 9 = .ok (.aload_n 0, 1) := by decide +kernel
theorem dX5_init_10 : decode cX5_init 10 = .ok (.aload_n 1, 1) := by decide +kernel
theorem dX5_init_11 : decode cX5_init 11 = .ok (.putfield 15, 3) := by decide +kernel
theorem dX5_init_14 : decode cX5_init 14 = .ok (.return_, 1) := by decide +kernel
set_option maxRecDepth 20000 in
theorem ggX5_readAct_X3_clear : GoodIn wsX5_readAct wsX3_clear := goodIn_r _ [13, 14, 15, 16, 17, 18, 19, 20, 21, 22, 23, 24, 25, 26, 125, 126, 127, 128, 129, 130, 131, 132, 133] (by decide +kernel) (by decide +kernel)
set_option maxRecDepth 20000 in
theorem gX5_readAct_X3_clear_n31 : GoodIn wsX5_readAct (wsX3_clear) := ggX5_readAct_X3_clear
set_option maxRecDepth 20000 in
theorem ggX5_readAct_X5_nextToken : GoodIn wsX5_readAct wsX5_nextToken := goodIn_r _ [31, 7, 6, 1, 9, 32, 33, 30, 34, 35, 36, 37, 38, 39, 40, 120, 121, 122, 123, 124] (by decide +kernel) (by decide +kernel)
set_option maxRecDepth 20000 in
theorem gX5_readAct_X5_nextToken : GoodIn wsX5_readAct (wsV RX5 36 RX5 yX5_nextToken wsX5_nextToken) := goodIn_app (goodIn_of _ (by decide +kernel)) ggX5_readAct_X5_nextToken
set_option maxRecDepth 20000 in
theorem ggX5_readAct_X5_readStatement : GoodIn wsX5_readAct wsX5_readStatement := goodIn_r _ [44, 45, 46, 47, 30, 48, 49, 50, 51, 52, 7, 9, 6, 1, 53, 54, 55, 56, 57, 58, 59, 60, 61, 62, 63, 64, 65, 66, 67, 68, 69, 70, 71, 72, 73, 74, 75, 76, 77, 78, 79, 80, 81, 82, 83, 84, 85, 86, 87, 88, 89, 90, 91, 92, 93, 94, 95, 96, 97, 98, 99, 100, 101, 27, 28, 29, 31, 32, 33, 34, 35, 36, 37, 38, 39, 40, 102, 103, 104, 105, 106, 11, 107, 108, 15, 16, 17, 19, 20, 21, 22, 109, 110, 111, 112, 18, 113, 114, 115, 116, 117, 118, 119, 14, 120, 121, 122, 123, 124, 125, 126, 127, 128, 129, 130, 131, 132, 133] (by decide +kernel) (by decide +kernel)
set_option maxRecDepth 20000 in
theorem gX5_readAct_X5_readStatement : GoodIn wsX5_readAct (wsV RX5 42 RX5 yX5_readStatement wsX5_readStatement) := goodIn_app (goodIn_of _ (by decide +kernel)) ggX5_readAct_X5_readStatement
theorem dX5_readAct_0 : decode cX5_readAct 0 = .ok (.aload_n 0, 1) := by decide +kernel
theorem dX5_readAct_1 : decode cX5_readAct 1 = .ok (.iload_n 1, 1) := by decide +kernel
theorem dX5_readAct_2 : decode cX5_readAct 2 = .ok (.aload_n 0, 1) := by decide +kernel
theorem dX5_readAct_3 : decode cX5_readAct 3 = .ok (.getfield 15, 3) := by decide +kernel
theorem dX5_readAct_6 : decode cX5_readAct 6 = .ok (.arraylength, 1) := by decide +kernel
theorem dX5_readAct_7 : decode cX5_readAct 7 = .ok (.invokestatic 19, 3) := by decide +kernel
theorem dX5_readAct_10 : decode cX5_readAct 10 = .ok (.putfield 25, 3) := by decide +kernel
theorem dX5_readAct_13 : decode cX5_readAct 13 = .ok (.aload_n 0, 1) := by decide +kernel
theorem dX5_readAct_14 : decode cX5_readAct 14 = .ok (.iconst 0, 1) := by decide +kernel
theorem dX5_readAct_15 : decode cX5_readAct 15 = .ok (.putfield 28, 3) := by decide +kernel
theorem dX5_readAct_18 : decode cX5_readAct 18 = .ok (.aload_n 0, 1) := by decide +kernel
theorem dX5_readAct_19 : decode cX5_readAct 19 = .ok (.iconst (-1), 1) := by decide +kernel
theorem dX5_readAct_20 : decode cX5_readAct 20 = .ok (.putfield 9, 3) := by decide +kernel
theorem dX5_readAct_23 : decode cX5_readAct 23 = .ok (.aload_n 2, 1) := by decide +kernel
theorem dX5_readAct_24 : decode cX5_readAct 24 = .ok (.invokevirtual 31, 3) := by decide +kernel
theorem dX5_readAct_27 : decode cX5_readAct 27 = .ok (.iconst 0, 1) := by decide +kernel
theorem dX5_readAct_28 : decode cX5_readAct 28 = .ok (.istore_n 3, 1) := by decide +kernel
theorem dX5_readAct_29 : decode cX5_readAct 29 = .ok (.iload_n 3, 1) := by decide +kernel
theorem dX5_readAct_30 : decode cX5_readAct 30 = .ok (.bipush 16, 2) := by decide +kernel
theorem dX5_readAct_32 : decode cX5_readAct 32 = .ok (.if_icmp .gt 50, 3) := by decide +kernel
theorem dX5_readAct_35 : decode cX5_readAct 35 = .ok (.aload_n 0, 1) := by decide +kernel
theorem dX5_readAct_36 : decode cX5_readAct 36 = .ok (.invokevirtual 36, 3) := by decide +kernel
theorem dX5_readAct_39 : decode cX5_readAct 39 = .ok (.aload_n 0, 1) := by decide +kernel
theorem dX5_readAct_40 : decode cX5_readAct 40 = .ok (.getfield 39, 3) := by decide +kernel
theorem dX5_readAct_43 : decode cX5_readAct 43 = .ok (.aload_n 0, 1) := by decide +kernel
theorem dX5_readAct_44 : decode cX5_readAct 44 = .ok (.getfield 25, 3) := by decide +kernel
theorem dX5_readAct_47 : decode cX5_readAct 47 = .ok (.if_icmp .lt 5, 3) := by decide +kernel
theorem dX5_readAct_50 : decode cX5_readAct 50 = .ok (.iconst 1, 1) := by decide +kernel
theorem dX5_readAct_51 : decode cX5_readAct 51 = .ok (.ireturn, 1) := by decide +kernel
theorem dX5_readAct_52 : decode cX5_readAct 52 = .ok (.iload_n 3, 1) := by decide +kernel
theorem dX5_readAct_53 : decode cX5_readAct 53 = .ok (.bipush 16, 2) := by decide +kernel
theorem dX5_readAct_55 : decode cX5_readAct 55 = .ok (.if_icmp .eq 11, 3) := by decide +kernel
theorem dX5_readAct_58 : decode cX5_readAct 58 = .ok (.aload_n 0, 1) := by decide +kernel
theorem dX5_readAct_59 : decode cX5_readAct 59 = .ok (.aload_n 2, 1) := by decide +kernel
theorem dX5_readAct_60 : decode cX5_readAct 60 = .ok (.invokevirtual 42, 3) := by decide +kernel
theorem dX5_readAct_63 : decode cX5_readAct 63 = .ok (.ifCond .ne 13, 3) := by decide +kernel
theorem dX5_readAct_66 : decode cX5_readAct 66 = .ok (.aload_n 0, 1) := by decide +kernel
theorem dX5_readAct_67 : decode cX5_readAct 67 = .ok (.aload_n 0, 1) := by decide +kernel
theorem dX5_readAct_68 : decode cX5_readAct 68 = .ok (.getfield 39, 3) := by decide +kernel
theorem dX5_readAct_71 : decode cX5_readAct 71 = .ok (.putfield 9, 3) := by decide +kernel
theorem dX5_readAct_74 : decode cX5_readAct 74 = .ok (.iconst 0, 1) := by decide +kernel
theorem dX5_readAct_75 : decode cX5_readAct 75 = .ok (.ireturn, 1) := by decide +kernel
theorem dX5_readAct_76 : decode cX5_readAct 76 = .ok (.iinc 3 1, 3) := by decide +kernel
theorem dX5_readAct_79 : decode cX5_readAct 79 = .ok (.goto (-50), 3) := by decide +kernel
theorem dX5_readAct_82 : decode cX5_readAct 82 = .ok (.iconst 0, 1) := by decide +kernel
theorem dX5_readAct_83 : decode cX5_readAct 83 = .ok (.ireturn, 1) := by decide +kernel
set_option maxRecDepth 20000 in
theorem ggX5_readStatement_X5_keyword : GoodIn wsX5_readStatement wsX5_keyword := goodIn_r _ [5, 6, 7, 8, 4, 9, 10, 11, 12, 13, 14, 15, 16, 17, 18, 19, 20, 21, 22, 23, 24, 25, 26, 27, 28, 29, 30, 31, 32, 33, 34, 35, 36, 37, 38, 39, 40, 41, 42, 43, 44, 45, 46, 47, 48, 49, 50, 51, 52, 53, 54, 55, 56, 57, 58, 59, 60, 61, 62, 104, 105, 106, 107, 108] (by decide +kernel) (by decide +kernel)
set_option maxRecDepth 20000 in
theorem gX5_readStatement_X5_keyword : GoodIn wsX5_readStatement (wsV RX5 46 RX5 yX5_keyword wsX5_keyword) := goodIn_app (goodIn_of _ (by decide +kernel)) ggX5_readStatement_X5_keyword
set_option maxRecDepth 20000 in
theorem ggX5_readStatement_X5_nextToken : GoodIn wsX5_readStatement wsX5_nextToken := goodIn_r _ [66, 10, 12, 13, 11, 67, 68, 4, 69, 70, 71, 72, 73, 74, 75, 104, 105, 106, 107, 108] (by decide +kernel) (by decide +kernel)
set_option maxRecDepth 20000 in
theorem gX5_readStatement_X5_nextToken : GoodIn wsX5_readStatement (wsV RX5 36 RX5 yX5_nextToken wsX5_nextToken) := goodIn_app (goodIn_of _ (by decide +kernel)) ggX5_readStatement_X5_nextToken
set_option maxRecDepth 20000 in
theorem ggX5_readStatement_X5_number : GoodIn wsX5_readStatement wsX5_number := goodIn_r _ [79, 10, 11, 12, 13, 73, 74, 4, 75, 104, 105, 106, 107, 108] (by decide +kernel) (by decide +kernel)
set_option maxRecDepth 20000 in
theorem gX5_readStatement_X5_number : GoodIn wsX5_readStatement (wsV RX5 50 RX5 yX5_number wsX5_number) := goodIn_app (goodIn_of _ (by decide +kernel)) ggX5_readStatement_X5_number
set_option maxRecDepth 20000 in
theorem ggX5_readStatement_X5_spells : GoodIn wsX5_readStatement wsX5_spells := goodIn_r _ [9, 10, 11, 12, 13, 14, 15, 16, 17, 18, 19, 20, 21, 22, 23, 24, 25, 26, 27, 28, 29, 30, 31, 32, 33, 34, 35, 36, 37, 38, 39, 40, 41, 42, 43, 44, 45, 46, 47, 48, 49, 50, 51, 52, 53, 54, 55, 56, 57, 58, 59, 60, 61, 62, 104, 105, 106, 107, 108] (by decide +kernel) (by decide +kernel)
set_option maxRecDepth 20000 in
theorem gX5_readStatement_X5_spells : GoodIn wsX5_readStatement (wsV RX5 55 RX5 yX5_spells wsX5_spells) := goodIn_app (goodIn_of _ (by decide +kernel)) ggX5_readStatement_X5_spells
set_option maxRecDepth 20000 in
theorem ggX5_readStatement_X3_rule : GoodIn wsX5_readStatement wsX3_rule := goodIn_r _ [83, 84, 85, 86, 87, 88, 89, 90, 91, 92, 93, 81, 94, 95, 96, 97, 98, 99, 100, 101, 102, 103, 109, 110, 111, 112, 113, 114, 115, 116, 117] (by decide +kernel) (by decide +kernel)
set_option maxRecDepth 20000 in
theorem gX5_readStatement_X3_rule_n61 : GoodIn wsX5_readStatement (wsX3_rule) := ggX5_readStatement_X3_rule
theorem dX5_readStatement_0 : decode cX5_readStatement 0 = .ok (.aload_n 0, 1) := by decide +kernel
theorem dX5_readStatement_1 : decode cX5_readStatement 1 = .ok (.invokevirtual 46, 3) := by decide +kernel
theorem dX5_readStatement_4 : decode cX5_readStatement 4 = .ok (.istore_n 2, 1) := by decide +kernel
theorem dX5_readStatement_5 : decode cX5_readStatement 5 = .ok (.iload_n 2, 1) := by decide +kernel
theorem dX5_readStatement_6 : decode cX5_readStatement 6 = .ok (.iconst (-1), 1) := by decide +kernel
theorem dX5_readStatement_7 : decode cX5_readStatement 7 = .ok (.if_icmp .ne 5, 3) := by decide +kernel
theorem dX5_readStatement_10 : decode cX5_readStatement 10 = .ok (.iconst 0, 1) := by decide +kernel
theorem dX5_readStatement_11 : decode cX5_readStatement 11 = .ok (.ireturn, 1) := by decide +kernel
theorem dX5_readStatement_12 : decode cX5_readStatement 12 = .ok (.iconst 0, 1) := by decide +kernel
theorem dX5_readStatement_13 : decode cX5_readStatement 13 = .ok (.istore_n 3, 1) := by decide +kernel
theorem dX5_readStatement_14 : decode cX5_readStatement 14 = .ok (.iload_n 2, 1) := by decide +kernel
theorem dX5_readStatement_15 : decode cX5_readStatement 15 = .ok (.iconst 4, 1) := by decide +kernel
theorem dX5_readStatement_16 : decode cX5_readStatement 16 = .ok (.if_icmp .ne 36, 3) := by decide +kernel
theorem dX5_readStatement_19 : decode cX5_readStatement 19 = .ok (.aload_n 0, 1) := by decide +kernel
theorem dX5_readStatement_20 : decode cX5_readStatement 20 = .ok (.invokevirtual 36, 3) := by decide +kernel
theorem dX5_readStatement_23 : decode cX5_readStatement 23 = .ok (.aload_n 0, 1) := by decide +kernel
theorem dX5_readStatement_24 : decode cX5_readStatement 24 = .ok (.iconst 0, 1) := by decide +kernel
theorem dX5_readStatement_25 : decode cX5_readStatement 25 = .ok (.iconst 3, 1) := by decide +kernel
theorem dX5_readStatement_26 : decode cX5_readStatement 26 = .ok (.invokevirtual 50, 3) := by decide +kernel
theorem dX5_readStatement_29 : decode cX5_readStatement 29 = .ok (.istore_n 3, 1) := by decide +kernel
theorem dX5_readStatement_30 : decode cX5_readStatement 30 = .ok (.iload_n 3, 1) := by decide +kernel
theorem dX5_readStatement_31 : decode cX5_readStatement 31 = .ok (.iconst (-1), 1) := by decide +kernel
theorem dX5_readStatement_32 : decode cX5_readStatement 32 = .ok (.if_icmp .ne 5, 3) := by decide +kernel
theorem dX5_readStatement_35 : decode cX5_readStatement 35 = .ok (.iconst 0, 1) := by decide +kernel
theorem dX5_readStatement_36 : decode cX5_readStatement 36 = .ok (.ireturn, 1) := by decide +kernel
theorem dX5_readStatement_37 : decode cX5_readStatement 37 = .ok (.aload_n 0, 1) := by decide +kernel
theorem dX5_readStatement_38 : decode cX5_readStatement 38 = .ok (.invokevirtual 36, 3) := by decide +kernel
theorem dX5_readStatement_41 : decode cX5_readStatement 41 = .ok (.aload_n 0, 1) := by decide +kernel
theorem dX5_readStatement_42 : decode cX5_readStatement 42 = .ok (.ldc 53, 2) := by decide +kernel
theorem dX5_readStatement_44 : decode cX5_readStatement 44 = .ok (.invokevirtual 55, 3) := by decide +kernel
theorem dX5_readStatement_47 : decode cX5_readStatement 47 = .ok (.ifCond .ne 5, 3) := by decide +kernel
theorem dX5_readStatement_50 : decode cX5_readStatement 50 = .ok (.iconst 0, 1) := by decide +kernel
theorem dX5_readStatement_51 : decode cX5_readStatement 51 = .ok (.ireturn, 1) := by decide +kernel
theorem dX5_readStatement_52 : decode cX5_readStatement 52 = .ok (.aload_n 0, 1) := by decide +kernel
theorem dX5_readStatement_53 : decode cX5_readStatement 53 = .ok (.invokevirtual 36, 3) := by decide +kernel
theorem dX5_readStatement_56 : decode cX5_readStatement 56 = .ok (.iload_n 2, 1) := by decide +kernel
theorem dX5_readStatement_57 : decode cX5_readStatement 57 = .ok (.bipush 6, 2) := by decide +kernel
theorem dX5_readStatement_59 : decode cX5_readStatement 59 = .ok (.if_icmp .ne 13, 3) := by decide +kernel
theorem dX5_readStatement_62 : decode cX5_readStatement 62 = .ok (.aload_n 0, 1) := by decide +kernel
theorem dX5_readStatement_63 : decode cX5_readStatement 63 = .ok (.iconst 1, 1) := by decide +kernel
theorem dX5_readStatement_64 : decode cX5_readStatement 64 = .ok (.bipush 40, 2) := by decide +kernel
theorem dX5_readStatement_66 : decode cX5_readStatement 66 = .ok (.invokevirtual 50, 3) := by decide +kernel
theorem dX5_readStatement_69 : decode cX5_readStatement 69 = .ok (.goto 11, 3) := by decide +kernel
theorem dX5_readStatement_72 : decode cX5_readStatement 72 = .ok (.aload_n 0, 1) := by decide +kernel
theorem dX5_readStatement_73 : decode cX5_readStatement 73 = .ok (.iconst 0, 1) := by decide +kernel
theorem dX5_readStatement_74 : decode cX5_readStatement 74 = .ok (.sipush 9999, 3) := by decide +kernel
theorem dX5_readStatement_77 : decode cX5_readStatement 77 = .ok (.invokevirtual 50, 3) := by decide +kernel
theorem dX5_readStatement_80 : decode cX5_readStatement 80 = .ok (.istore 4, 2) := by decide +kernel
theorem dX5_readStatement_82 : decode cX5_readStatement 82 = .ok (.iload 4, 2) := by decide +kernel
theorem dX5_readStatement_84 : decode cX5_readStatement 84 = .ok (.iconst (-1), 1) := by decide +kernel
theorem dX5_readStatement_85 : decode cX5_readStatement 85 = .ok (.if_icmp .ne 5, 3) := by decide +kernel
theorem dX5_readStatement_88 : decode cX5_readStatement 88 = .ok (.iconst 0, 1) := by decide +kernel
theorem dX5_readStatement_89 : decode cX5_readStatement 89 = .ok (.ireturn, 1) := by decide +kernel
theorem dX5_readStatement_90 : decode cX5_readStatement 90 = .ok (.aload_n 0, 1) := by decide +kernel
theorem dX5_readStatement_91 : decode cX5_readStatement 91 = .ok (.invokevirtual 36, 3) := by decide +kernel
theorem dX5_readStatement_94 : decode cX5_readStatement 94 = .ok (.aload_n 0, 1) := by decide +kernel
theorem dX5_readStatement_95 : decode cX5_readStatement 95 = .ok (.ldc 59, 2) := by decide +kernel
theorem dX5_readStatement_97 : decode cX5_readStatement 97 = .ok (.invokevirtual 55, 3) := by decide +kernel
theorem dX5_readStatement_100 : decode cX5_readStatement 100 = .ok (.ifCond .ne 5, 3) := by decide +kernel
theorem dX5_readStatement_103 : decode cX5_readStatement 103 = .ok (.iconst 0, 1) := by decide +kernel
theorem dX5_readStatement_104 : decode cX5_readStatement 104 = .ok (.ireturn, 1) := by decide +kernel
theorem dX5_readStatement_105 : decode cX5_readStatement 105 = .ok (.aload_n 1, 1) := by decide +kernel
theorem dX5_readStatement_106 : decode cX5_readStatement 106 = .ok (.iload_n 2, 1) := by decide +kernel
theorem dX5_readStatement_107 : decode cX5_readStatement 107 = .ok (.iload_n 3, 1) := by decide +kernel
theorem dX5_readStatement_108 : decode cX5_readStatement 108 = .ok (.iload 4, 2) := by decide +kernel
theorem dX5_readStatement_110 : decode cX5_readStatement 110 = .ok (.invokevirtual 61, 3) := by decide +kernel
theorem dX5_readStatement_113 : decode cX5_readStatement 113 = .ok (.iconst 1, 1) := by decide +kernel
theorem dX5_readStatement_114 : decode cX5_readStatement 114 = .ok (.ireturn, 1) := by decide +kernel
set_option maxRecDepth 20000 in
theorem ggX5_nextToken_X5_isBlank : GoodIn wsX5_nextToken wsX5_isBlank := goodIn_r _ [8] (by decide +kernel) (by decide +kernel)
set_option maxRecDepth 20000 in
theorem gX5_nextToken_X5_isBlank : GoodIn wsX5_nextToken (va_wsS RX5 65 yX5_isBlank wsX5_isBlank) := goodIn_app (goodIn_of _ (by decide +kernel)) ggX5_nextToken_X5_isBlank
set_option maxRecDepth 20000 in
theorem ggX5_nextToken_X5_isLetter : GoodIn wsX5_nextToken wsX5_isLetter := goodIn_r _ [11] (by decide +kernel) (by decide +kernel)
set_option maxRecDepth 20000 in
theorem gX5_nextToken_X5_isLetter : GoodIn wsX5_nextToken (va_wsS RX5 69 yX5_isLetter wsX5_isLetter) := goodIn_app (goodIn_of _ (by decide +kernel)) ggX5_nextToken_X5_isLetter
end
section
set_option maxRecDepth 20000 in
theorem ggX5_nextToken_X5_isDigit : GoodIn wsX5_nextToken wsX5_isDigit := goodIn_r _ [14] (by decide +kernel) (by decide +kernel)
set_option maxRecDepth 20000 in
theorem gX5_nextToken_X5_isDigit : GoodIn wsX5_nextToken (va_wsS RX5 72 yX5_isDigit wsX5_isDigit) := goodIn_app (goodIn_of _ (by decide +kernel)) ggX5_nextToken_X5_isDigit
theorem dX5_nextToken_0 : decode cX5_nextToken 0 = .ok (.aload_n 0, 1) := by decide +kernel
theorem dX5_nextToken_1 : decode cX5_nextToken 1 = .ok (.getfield 28, 3) := by decide +kernel
theorem dX5_nextToken_4 : decode cX5_nextToken 4 = .ok (.istore_n 1, 1) := by decide +kernel
theorem dX5_nextToken_5 : decode cX5_nextToken 5 = .ok (.iload_n 1, 1) := by decide +kernel
theorem dX5_nextToken_6 : decode cX5_nextToken 6 = .ok (.aload_n 0, 1) := by decide +kernel
theorem dX5_nextToken_7 : decode cX5_nextToken 7 = .ok (.getfield 25, 3) := by decide +kernel
theorem dX5_nextToken_10 : decode cX5_nextToken 10 = .ok (.if_icmp .ge 21, 3) := by decide +kernel
theorem dX5_nextToken_13 : decode cX5_nextToken 13 = .ok (.aload_n 0, 1) := by decide +kernel
theorem dX5_nextToken_14 : decode cX5_nextToken 14 = .ok (.getfield 15, 3) := by decide +kernel
theorem dX5_nextToken_17 : decode cX5_nextToken 17 = .ok (.iload_n 1, 1) := by decide +kernel
theorem dX5_nextToken_18 : decode cX5_nextToken 18 = .ok (.baload, 1) := by decide +kernel
theorem dX5_nextToken_19 : decode cX5_nextToken 19 = .ok (.invokestatic 65, 3) := by decide +kernel
theorem dX5_nextToken_22 : decode cX5_nextToken 22 = .ok (.ifCond .eq 9, 3) := by decide +kernel
theorem dX5_nextToken_25 : decode cX5_nextToken 25 = .ok (.iinc 1 1, 3) := by decide +kernel
theorem dX5_nextToken_28 : decode cX5_nextToken 28 = .ok (.goto (-23), 3) := by decide +kernel
theorem dX5_nextToken_31 : decode cX5_nextToken 31 = .ok (.aload_n 0, 1) := by decide +kernel
theorem dX5_nextToken_32 : decode cX5_nextToken 32 = .ok (.iload_n 1, 1) := by decide +kernel
theorem dX5_nextToken_33 : decode cX5_nextToken 33 = .ok (.putfield 39, 3) := by decide +kernel
theorem dX5_nextToken_36 : decode cX5_nextToken 36 = .ok (.iload_n 1, 1) := by decide +kernel
theorem dX5_nextToken_37 : decode cX5_nextToken 37 = .ok (.aload_n 0, 1) := by decide +kernel
theorem dX5_nextToken_38 : decode cX5_nextToken 38 = .ok (.getfield 25, 3) := by decide +kernel
theorem dX5_nextToken_41 : decode cX5_nextToken 41 = .ok (.if_icmp .ge 20, 3) := by decide +kernel
theorem dX5_nextToken_44 : decode cX5_nextToken 44 = .ok (.aload_n 0, 1) := by decide +kernel
theorem dX5_nextToken_45 : decode cX5_nextToken 45 = .ok (.getfield 15, 3) := by decide +kernel
theorem dX5_nextToken_48 : decode cX5_nextToken 48 = .ok (.iload_n 1, 1) := by decide +kernel
theorem dX5_nextToken_49 : decode cX5_nextToken 49 = .ok (.baload, 1) := by decide +kernel
theorem dX5_nextToken_50 : decode cX5_nextToken 50 = .ok (.bipush 59, 2) := by decide +kernel
theorem dX5_nextToken_52 : decode cX5_nextToken 52 = .ok (.if_icmp .ne 9, 3) := by decide +kernel
theorem dX5_nextToken_55 : decode cX5_nextToken 55 = .ok (.iinc 1 1, 3) := by decide +kernel
theorem dX5_nextToken_58 : decode cX5_nextToken 58 = .ok (.goto 75, 3) := by decide +kernel
theorem dX5_nextToken_61 : decode cX5_nextToken 61 = .ok (.iload_n 1, 1) := by decide +kernel
theorem dX5_nextToken_62 : decode cX5_nextToken 62 = .ok (.aload_n 0, 1) := by decide +kernel
theorem dX5_nextToken_63 : decode cX5_nextToken 63 = .ok (.getfield 25, 3) := by decide +kernel
theorem dX5_nextToken_66 : decode cX5_nextToken 66 = .ok (.if_icmp .ge 41, 3) := by decide +kernel
theorem dX5_nextToken_69 : decode cX5_nextToken 69 = .ok (.aload_n 0, 1) := by decide +kernel
theorem dX5_nextToken_70 : decode cX5_nextToken 70 = .ok (.getfield 15, 3) := by decide +kernel
theorem dX5_nextToken_73 : decode cX5_nextToken 73 = .ok (.iload_n 1, 1) := by decide +kernel
theorem dX5_nextToken_74 : decode cX5_nextToken 74 = .ok (.baload, 1) := by decide +kernel
theorem dX5_nextToken_75 : decode cX5_nextToken 75 = .ok (.invokestatic 69, 3) := by decide +kernel
theorem dX5_nextToken_78 : decode cX5_nextToken 78 = .ok (.ifCond .eq 29, 3) := by decide +kernel
theorem dX5_nextToken_81 : decode cX5_nextToken 81 = .ok (.iload_n 1, 1) := by decide +kernel
theorem dX5_nextToken_82 : decode cX5_nextToken 82 = .ok (.aload_n 0, 1) := by decide +kernel
theorem dX5_nextToken_83 : decode cX5_nextToken 83 = .ok (.getfield 25, 3) := by decide +kernel
theorem dX5_nextToken_86 : decode cX5_nextToken 86 = .ok (.if_icmp .ge 47, 3) := by decide +kernel
theorem dX5_nextToken_89 : decode cX5_nextToken 89 = .ok (.aload_n 0, 1) := by decide +kernel
theorem dX5_nextToken_90 : decode cX5_nextToken 90 = .ok (.getfield 15, 3) := by decide +kernel
theorem dX5_nextToken_93 : decode cX5_nextToken 93 = .ok (.iload_n 1, 1) := by decide +kernel
theorem dX5_nextToken_94 : decode cX5_nextToken 94 = .ok (.baload, 1) := by decide +kernel
theorem dX5_nextToken_95 : decode cX5_nextToken 95 = .ok (.invokestatic 69, 3) := by decide +kernel
theorem dX5_nextToken_98 : decode cX5_nextToken 98 = .ok (.ifCond .eq 35, 3) := by decide +kernel
theorem dX5_nextToken_101 : decode cX5_nextToken 101 = .ok (.iinc 1 1, 3) := by decide +kernel
theorem dX5_nextToken_104 : decode cX5_nextToken 104 = .ok (.goto (-23), 3) := by decide +kernel
theorem dX5_nextToken_107 : decode cX5_nextToken 107 = .ok (.iload_n 1, 1) := by decide +kernel
theorem dX5_nextToken_108 : decode cX5_nextToken 108 = .ok (.aload_n 0, 1) := by decide +kernel
theorem dX5_nextToken_109 : decode cX5_nextToken 109 = .ok (.getfield 25, 3) := by decide +kernel
theorem dX5_nextToken_112 : decode cX5_nextToken 112 = .ok (.if_icmp .ge 21, 3) := by decide +kernel
theorem dX5_nextToken_115 : decode cX5_nextToken 115 = .ok (.aload_n 0, 1) := by decide +kernel
theorem dX5_nextToken_116 : decode cX5_nextToken 116 = .ok (.getfield 15, 3) := by decide +kernel
theorem dX5_nextToken_119 : decode cX5_nextToken 119 = .ok (.iload_n 1, 1) := by decide +kernel
theorem dX5_nextToken_120 : decode cX5_nextToken 120 = .ok (.baload, 1) := by decide +kernel
theorem dX5_nextToken_121 : decode cX5_nextToken 121 = .ok (.invokestatic 72, 3) := by decide +kernel
theorem dX5_nextToken_124 : decode cX5_nextToken 124 = .ok (.ifCond .eq 9, 3) := by decide +kernel
theorem dX5_nextToken_127 : decode cX5_nextToken 127 = .ok (.iinc 1 1, 3) := by decide +kernel
theorem dX5_nextToken_130 : decode cX5_nextToken 130 = .ok (.goto (-23), 3) := by decide +kernel
theorem dX5_nextToken_133 : decode cX5_nextToken 133 = .ok (.aload_n 0, 1) := by decide +kernel
theorem dX5_nextToken_134 : decode cX5_nextToken 134 = .ok (.iload_n 1, 1) := by decide +kernel
theorem dX5_nextToken_135 : decode cX5_nextToken 135 = .ok (.putfield 28, 3) := by decide +kernel
theorem dX5_nextToken_138 : decode cX5_nextToken 138 = .ok (.return_, 1) := by decide +kernel
set_option maxRecDepth 20000 in
theorem ggX5_keyword_X5_spells : GoodIn wsX5_keyword wsX5_spells := goodIn_r _ [5, 6, 7, 8, 9, 10, 11, 12, 13, 14, 15, 16, 17, 18, 19, 20, 21, 22, 23, 24, 25, 26, 27, 28, 29, 30, 31, 32, 33, 34, 35, 36, 37, 38, 39, 40, 41, 42, 43, 44, 45, 46, 47, 48, 49, 50, 51, 52, 53, 54, 55, 56, 57, 58, 59, 60, 61, 62, 63] (by decide +kernel) (by decide +kernel)
set_option maxRecDepth 20000 in
theorem gX5_keyword_X5_spells : GoodIn wsX5_keyword (wsV RX5 55 RX5 yX5_spells wsX5_spells) := goodIn_app (goodIn_of _ (by decide +kernel)) ggX5_keyword_X5_spells
theorem dX5_keyword_0 : decode cX5_keyword 0 = .ok (.aload_n 0, 1) := by decide +kernel
theorem dX5_keyword_1 : decode cX5_keyword 1 = .ok (.ldc 75, 2) := by decide +kernel
theorem dX5_keyword_3 : decode cX5_keyword 3 = .ok (.invokevirtual 55, 3) := by decide +kernel
theorem dX5_keyword_6 : decode cX5_keyword 6 = .ok (.ifCond .eq 5, 3) := by decide +kernel
theorem dX5_keyword_9 : decode cX5_keyword 9 = .ok (.iconst 0, 1) := by decide +kernel
theorem dX5_keyword_10 : decode cX5_keyword 10 = .ok (.ireturn, 1) := by decide +kernel
theorem dX5_keyword_11 : decode cX5_keyword 11 = .ok (.aload_n 0, 1) := by decide +kernel
theorem dX5_keyword_12 : decode cX5_keyword 12 = .ok (.ldc 77, 2) := by decide +kernel
theorem dX5_keyword_14 : decode cX5_keyword 14 = .ok (.invokevirtual 55, 3) := by decide +kernel
theorem dX5_keyword_17 : decode cX5_keyword 17 = .ok (.ifCond .eq 5, 3) := by decide +kernel
theorem dX5_keyword_20 : decode cX5_keyword 20 = .ok (.iconst 1, 1) := by decide +kernel
theorem dX5_keyword_21 : decode cX5_keyword 21 = .ok (.ireturn, 1) := by decide +kernel
theorem dX5_keyword_22 : decode cX5_keyword 22 = .ok (.aload_n 0, 1) := by decide +kernel
theorem dX5_keyword_23 : decode cX5_keyword 23 = .ok (.ldc 79, 2) := by decide +kernel
theorem dX5_keyword_25 : decode cX5_keyword 25 = .ok (.invokevirtual 55, 3) := by decide +kernel
theorem dX5_keyword_28 : decode cX5_keyword 28 = .ok (.ifCond .eq 5, 3) := by decide +kernel
theorem dX5_keyword_31 : decode cX5_keyword 31 = .ok (.iconst 2, 1) := by decide +kernel
theorem dX5_keyword_32 : decode cX5_keyword 32 = .ok (.ireturn, 1) := by decide +kernel
theorem dX5_keyword_33 : decode cX5_keyword 33 = .ok (.aload_n 0, 1) := by decide +kernel
theorem dX5_keyword_34 : decode cX5_keyword 34 = .ok (.ldc 81, 2) := by decide +kernel
theorem dX5_keyword_36 : decode cX5_keyword 36 = .ok (.invokevirtual 55, 3) := by decide +kernel
theorem dX5_keyword_39 : decode cX5_keyword 39 = .ok (.ifCond .eq 5, 3) := by decide +kernel
theorem dX5_keyword_42 : decode cX5_keyword 42 = .ok (.iconst 3, 1) := by decide +kernel
theorem dX5_keyword_43 : decode cX5_keyword 43 = .ok (.ireturn, 1) := by decide +kernel
theorem dX5_keyword_44 : decode cX5_keyword 44 = .ok (.aload_n 0, 1) := by decide +kernel
theorem dX5_keyword_45 : decode cX5_keyword 45 = .ok (.ldc 83, 2) := by decide +kernel
theorem dX5_keyword_47 : decode cX5_keyword 47 = .ok (.invokevirtual 55, 3) := by decide +kernel
theorem dX5_keyword_50 : decode cX5_keyword 50 = .ok (.ifCond .eq 5, 3) := by decide +kernel
theorem dX5_keyword_53 : decode cX5_keyword 53 = .ok (.iconst 4, 1) := by decide +kernel
theorem dX5_keyword_54 : decode cX5_keyword 54 = .ok (.ireturn, 1) := by decide +kernel
theorem dX5_keyword_55 : decode cX5_keyword 55 = .ok (.aload_n 0, 1) := by decide +kernel
theorem dX5_keyword_56 : decode cX5_keyword 56 = .ok (.ldc 85, 2) := by decide +kernel
theorem dX5_keyword_58 : decode cX5_keyword 58 = .ok (.invokevirtual 55, 3) := by decide +kernel
theorem dX5_keyword_61 : decode cX5_keyword 61 = .ok (.ifCond .eq 5, 3) := by decide +kernel
theorem dX5_keyword_64 : decode cX5_keyword 64 = .ok (.iconst 5, 1) := by decide +kernel
theorem dX5_keyword_65 : decode cX5_keyword 65 = .ok (.ireturn, 1) := by decide +kernel
theorem dX5_keyword_66 : decode cX5_keyword 66 = .ok (.aload_n 0, 1) := by decide +kernel
theorem dX5_keyword_67 : decode cX5_keyword 67 = .ok (.ldc 87, 2) := by decide +kernel
theorem dX5_keyword_69 : decode cX5_keyword 69 = .ok (.invokevirtual 55, 3) := by decide +kernel
theorem dX5_keyword_72 : decode cX5_keyword 72 = .ok (.ifCond .eq 6, 3) := by decide +kernel
theorem dX5_keyword_75 : decode cX5_keyword 75 = .ok (.bipush 6, 2) := by decide +kernel
theorem dX5_keyword_77 : decode cX5_keyword 77 = .ok (.ireturn, 1) := by decide +kernel
theorem dX5_keyword_78 : decode cX5_keyword 78 = .ok (.aload_n 0, 1) := by decide +kernel
theorem dX5_keyword_79 : decode cX5_keyword 79 = .ok (.ldc 89, 2) := by decide +kernel
theorem dX5_keyword_81 : decode cX5_keyword 81 = .ok (.invokevirtual 55, 3) := by decide +kernel
theorem dX5_keyword_84 : decode cX5_keyword 84 = .ok (.ifCond .eq 8, 3) := by decide +kernel
theorem dX5_keyword_87 : decode cX5_keyword 87 = .ok (.bipush 7, 2) := by decide +kernel
theorem dX5_keyword_89 : decode cX5_keyword 89 = .ok (.goto 4, 3) := by decide +kernel
theorem dX5_keyword_92 : decode cX5_keyword 92 = .ok (.iconst (-1), 1) := by decide +kernel
theorem dX5_keyword_93 : decode cX5_keyword 93 = .ok (.ireturn, 1) := by decide +kernel
set_option maxRecDepth 20000 in
theorem ggX5_spells_J0_length_8abf5 : GoodIn wsX5_spells wsJ0_length_8abf5 := goodIn_r _ [9, 10, 11, 12, 13, 8, 14, 15, 16] (by decide +kernel) (by decide +kernel)
set_option maxRecDepth 20000 in
theorem gX5_spells_J0_length_8abf5 : GoodIn wsX5_spells (wsV RX5 91 RJ0 yJ0_length_8abf5 wsJ0_length_8abf5) := goodIn_app (goodIn_of _ (by decide +kernel)) ggX5_spells_J0_length_8abf5
set_option maxRecDepth 20000 in
theorem ggX5_spells_J0_charAt_5068e : GoodIn wsX5_spells wsJ0_charAt_5068e := goodIn_r _ [20, 10, 21, 22, 23, 8, 24, 15, 16, 25, 26, 27, 28, 29, 30, 31, 32, 33, 34, 35, 36, 37, 38, 39, 40, 41, 42, 43, 44, 45, 46, 47, 48, 49, 50, 51, 52, 53] (by decide +kernel) (by decide +kernel)
set_option maxRecDepth 20000 in
theorem gX5_spells_J0_charAt_5068e : GoodIn wsX5_spells (wsV RX5 95 RJ0 yJ0_charAt_5068e wsJ0_charAt_5068e) := goodIn_app (goodIn_of _ (by decide +kernel)) ggX5_spells_J0_charAt_5068e
theorem dX5_spells_0 : decode cX5_spells 0 = .ok (.aload_n 0, 1) := by decide +kernel
theorem dX5_spells_1 : decode cX5_spells 1 = .ok (.getfield 28, 3) := by decide +kernel
theorem dX5_spells_4 : decode cX5_spells 4 = .ok (.aload_n 0, 1) := by decide +kernel
theorem dX5_spells_5 : decode cX5_spells 5 = .ok (.getfield 39, 3) := by decide +kernel
theorem dX5_spells_8 : decode cX5_spells 8 = .ok (.isub, 1) := by decide +kernel
theorem dX5_spells_9 : decode cX5_spells 9 = .ok (.aload_n 1, 1) := by decide +kernel
theorem dX5_spells_10 : decode cX5_spells 10 = .ok (.invokevirtual 91, 3) := by decide +kernel
theorem dX5_spells_13 : decode cX5_spells 13 = .ok (.if_icmp .ne 14, 3) := by decide +kernel
theorem dX5_spells_16 : decode cX5_spells 16 = .ok (.aload_n 0, 1) := by decide +kernel
theorem dX5_spells_17 : decode cX5_spells 17 = .ok (.getfield 28, 3) := by decide +kernel
theorem dX5_spells_20 : decode cX5_spells 20 = .ok (.aload_n 0, 1) := by decide +kernel
theorem dX5_spells_21 : decode cX5_spells 21 = .ok (.getfield 25, 3) := by decide +kernel
theorem dX5_spells_24 : decode cX5_spells 24 = .ok (.if_icmp .le 5, 3) := by decide +kernel
theorem dX5_spells_27 : decode cX5_spells 27 = .ok (.iconst 0, 1) := by decide +kernel
theorem dX5_spells_28 : decode cX5_spells 28 = .ok (.ireturn, 1) := by decide +kernel
theorem dX5_spells_29 : decode cX5_spells 29 = .ok (.iconst 0, 1) := by decide +kernel
theorem dX5_spells_30 : decode cX5_spells 30 = .ok (.istore_n 2, 1) := by decide +kernel
theorem dX5_spells_31 : decode cX5_spells 31 = .ok (.iload_n 2, 1) := by decide +kernel
theorem dX5_spells_32 : decode cX5_spells 32 = .ok (.aload_n 1, 1) := by decide +kernel
theorem dX5_spells_33 : decode cX5_spells 33 = .ok (.invokevirtual 91, 3) := by decide +kernel
theorem dX5_spells_36 : decode cX5_spells 36 = .ok (.if_icmp .ge 30, 3) := by decide +kernel
theorem dX5_spells_39 : decode cX5_spells 39 = .ok (.aload_n 0, 1) := by decide +kernel
theorem dX5_spells_40 : decode cX5_spells 40 = .ok (.getfield 15, 3) := by decide +kernel
theorem dX5_spells_43 : decode cX5_spells 43 = .ok (.aload_n 0, 1) := by decide +kernel
theorem dX5_spells_44 : decode cX5_spells 44 = .ok (.getfield 39, 3) := by decide +kernel
theorem dX5_spells_47 : decode cX5_spells 47 = .ok (.iload_n 2, 1) := by decide +kernel
theorem dX5_spells_48 : decode cX5_spells 48 = .ok (.iadd, 1) := by decide +kernel
theorem dX5_spells_49 : decode cX5_spells 49 = .ok (.baload, 1) := by decide +kernel
theorem dX5_spells_50 : decode cX5_spells 50 = .ok (.aload_n 1, 1) := by decide +kernel
theorem dX5_spells_51 : decode cX5_spells 51 = .ok (.iload_n 2, 1) := by decide +kernel
theorem dX5_spells_52 : decode cX5_spells 52 = .ok (.invokevirtual 95, 3) := by decide +kernel
theorem dX5_spells_55 : decode cX5_spells 55 = .ok (.if_icmp .eq 5, 3) := by decide +kernel
theorem dX5_spells_58 : decode cX5_spells 58 = .ok (.iconst 0, 1) := by decide +kernel
theorem dX5_spells_59 : decode cX5_spells 59 = .ok (.ireturn, 1) := by decide +kernel
theorem dX5_spells_60 : decode cX5_spells 60 = .ok (.iinc 2 1, 3) := by decide +kernel
theorem dX5_spells_63 : decode cX5_spells 63 = .ok (.goto (-32), 3) := by decide +kernel
theorem dX5_spells_66 : decode cX5_spells 66 = .ok (.iconst 1, 1) := by decide +kernel
theorem dX5_spells_67 : decode cX5_spells 67 = .ok (.ireturn, 1) := by decide +kernel
set_option maxRecDepth 20000 in
theorem ggX5_number_X5_isDigit : GoodIn wsX5_number wsX5_isDigit := goodIn_r _ [8] (by decide +kernel) (by decide +kernel)
set_option maxRecDepth 20000 in
theorem gX5_number_X5_isDigit : GoodIn wsX5_number (va_wsS RX5 72 yX5_isDigit wsX5_isDigit) := goodIn_app (goodIn_of _ (by decide +kernel)) ggX5_number_X5_isDigit
theorem dX5_number_0 : decode cX5_number 0 = .ok (.aload_n 0, 1) := by decide +kernel
theorem dX5_number_1 : decode cX5_number 1 = .ok (.getfield 28, 3) := by decide +kernel
theorem dX5_number_4 : decode cX5_number 4 = .ok (.aload_n 0, 1) := by decide +kernel
theorem dX5_number_5 : decode cX5_number 5 = .ok (.getfield 39, 3) := by decide +kernel
theorem dX5_number_8 : decode cX5_number 8 = .ok (.isub, 1) := by decide +kernel
theorem dX5_number_9 : decode cX5_number 9 = .ok (.istore_n 3, 1) := by decide +kernel
theorem dX5_number_10 : decode cX5_number 10 = .ok (.iload_n 3, 1) := by decide +kernel
theorem dX5_number_11 : decode cX5_number 11 = .ok (.iconst 1, 1) := by decide +kernel
theorem dX5_number_12 : decode cX5_number 12 = .ok (.if_icmp .lt 19, 3) := by decide +kernel
theorem dX5_number_15 : decode cX5_number 15 = .ok (.iload_n 3, 1) := by decide +kernel
theorem dX5_number_16 : decode cX5_number 16 = .ok (.iconst 4, 1) := by decide +kernel
theorem dX5_number_17 : decode cX5_number 17 = .ok (.if_icmp .gt 14, 3) := by decide +kernel
theorem dX5_number_20 : decode cX5_number 20 = .ok (.aload_n 0, 1) := by decide +kernel
theorem dX5_number_21 : decode cX5_number 21 = .ok (.getfield 28, 3) := by decide +kernel
theorem dX5_number_24 : decode cX5_number 24 = .ok (.aload_n 0, 1) := by decide +kernel
theorem dX5_number_25 : decode cX5_number 25 = .ok (.getfield 25, 3) := by decide +kernel
theorem dX5_number_28 : decode cX5_number 28 = .ok (.if_icmp .le 5, 3) := by decide +kernel
theorem dX5_number_31 : decode cX5_number 31 = .ok (.iconst (-1), 1) := by decide +kernel
theorem dX5_number_32 : decode cX5_number 32 = .ok (.ireturn, 1) := by decide +kernel
theorem dX5_number_33 : decode cX5_number 33 = .ok (.iconst 0, 1) := by decide +kernel
theorem dX5_number_34 : decode cX5_number 34 = .ok (.istore 4, 2) := by decide +kernel
theorem dX5_number_36 : decode cX5_number 36 = .ok (.aload_n 0, 1) := by decide +kernel
theorem dX5_number_37 : decode cX5_number 37 = .ok (.getfield 39, 3) := by decide +kernel
theorem dX5_number_40 : decode cX5_number 40 = .ok (.istore 5, 2) := by decide +kernel
theorem dX5_number_42 : decode cX5_number 42 = .ok (.iload 5, 2) := by decide +kernel
theorem dX5_number_44 : decode cX5_number 44 = .ok (.aload_n 0, 1) := by decide +kernel
theorem dX5_number_45 : decode cX5_number 45 = .ok (.getfield 28, 3) := by decide +kernel
theorem dX5_number_48 : decode cX5_number 48 = .ok (.if_icmp .ge 42, 3) := by decide +kernel
theorem dX5_number_51 : decode cX5_number 51 = .ok (.aload_n 0, 1) := by decide +kernel
theorem dX5_number_52 : decode cX5_number 52 = .ok (.getfield 15, 3) := by decide +kernel
theorem dX5_number_55 : decode cX5_number 55 = .ok (.iload 5, 2) := by decide +kernel
theorem dX5_number_57 : decode cX5_number 57 = .ok (.baload, 1) := by decide +kernel
theorem dX5_number_58 : decode cX5_number 58 = .ok (.invokestatic 72, 3) := by decide +kernel
theorem dX5_number_61 : decode cX5_number 61 = .ok (.ifCond .ne 5, 3) := by decide +kernel
theorem dX5_number_64 : decode cX5_number 64 = .ok (.iconst (-1), 1) := by decide +kernel
theorem dX5_number_65 : decode cX5_number 65 = .ok (.ireturn, 1) := by decide +kernel
theorem dX5_number_66 : decode cX5_number 66 = .ok (.iload 4, 2) := by decide +kernel
theorem dX5_number_68 : decode cX5_number 68 = .ok (.bipush 10, 2) := by decide +kernel
theorem dX5_number_70 : decode cX5_number 70 = .ok (.imul, 1) := by decide +kernel
theorem dX5_number_71 : decode cX5_number 71 = .ok (.aload_n 0, 1) := by decide +kernel
theorem dX5_number_72 : decode cX5_number 72 = .ok (.getfield 15, 3) := by decide +kernel
theorem dX5_number_75 : decode cX5_number 75 = .ok (.iload 5, 2) := by decide +kernel
theorem dX5_number_77 : decode cX5_number 77 = .ok (.baload, 1) := by decide +kernel
theorem dX5_number_78 : decode cX5_number 78 = .ok (.bipush 48, 2) := by decide +kernel
theorem dX5_number_80 : decode cX5_number 80 = .ok (.isub, 1) := by decide +kernel
theorem dX5_number_81 : decode cX5_number 81 = .ok (.iadd, 1) := by decide +kernel
theorem dX5_number_82 : decode cX5_number 82 = .ok (.istore 4, 2) := by decide +kernel
theorem dX5_number_84 : decode cX5_number 84 = .ok (.iinc 5 1, 3) := by decide +kernel
theorem dX5_number_87 : decode cX5_number 87 = .ok (.goto (-45), 3) := by decide +kernel
theorem dX5_number_90 : decode cX5_number 90 = .ok (.iload 4, 2) := by decide +kernel
theorem dX5_number_92 : decode cX5_number 92 = .ok (.iload_n 1, 1) := by decide +kernel
theorem dX5_number_93 : decode cX5_number 93 = .ok (.if_icmp .lt 14, 3) := by decide +kernel
theorem dX5_number_96 : decode cX5_number 96 = .ok (.iload 4, 2) := by decide +kernel
theorem dX5_number_98 : decode cX5_number 98 = .ok (.iload_n 2, 1) := by decide +kernel
theorem dX5_number_99 : decode cX5_number 99 = .ok (.if_icmp .gt 8, 3) := by decide +kernel
theorem dX5_number_102 : decode cX5_number 102 = .ok (.iload 4, 2) := by decide +kernel
theorem dX5_number_104 : decode cX5_number 104 = .ok (.goto 4, 3) := by decide +kernel
theorem dX5_number_107 : decode cX5_number 107 = .ok (.iconst (-1), 1) := by decide +kernel
theorem dX5_number_108 : decode cX5_number 108 = .ok (.ireturn, 1) := by decide +kernel
theorem dX5_isBlank_0 : decode cX5_isBlank 0 = .ok (.iload_n 0, 1) := by decide +kernel
theorem dX5_isBlank_1 : decode cX5_isBlank 1 = .ok (.bipush 32, 2) := by decide +kernel
theorem dX5_isBlank_3 : decode cX5_isBlank 3 = .ok (.if_icmp .eq 9, 3) := by decide +kernel
theorem dX5_isBlank_6 : decode cX5_isBlank 6 = .ok (.iload_n 0, 1) := by decide +kernel
theorem dX5_isBlank_7 : decode cX5_isBlank 7 = .ok (.bipush 10, 2) := by decide +kernel
theorem dX5_isBlank_9 : decode cX5_isBlank 9 = .ok (.if_icmp .ne 7, 3) := by decide +kernel
theorem dX5_isBlank_12 : decode cX5_isBlank 12 = .ok (.iconst 1, 1) := by decide +kernel
theorem dX5_isBlank_13 : decode cX5_isBlank 13 = .ok (.goto 4, 3) := by decide +kernel
theorem dX5_isBlank_16 : decode cX5_isBlank 16 = .ok (.iconst 0, 1) := by decide +kernel
theorem dX5_isBlank_17 : decode cX5_isBlank 17 = .ok (.ireturn, 1) := by decide +kernel
theorem dX5_isLetter_0 : decode cX5_isLetter 0 = .ok (.iload_n 0, 1) := by decide +kernel
theorem dX5_isLetter_1 : decode cX5_isLetter 1 = .ok (.bipush 97, 2) := by decide +kernel
theorem dX5_isLetter_3 : decode cX5_isLetter 3 = .ok (.if_icmp .lt 13, 3) := by decide +kernel
theorem dX5_isLetter_6 : decode cX5_isLetter 6 = .ok (.iload_n 0, 1) := by decide +kernel
theorem dX5_isLetter_7 : decode cX5_isLetter 7 = .ok (.bipush 122, 2) := by decide +kernel
theorem dX5_isLetter_9 : decode cX5_isLetter 9 = .ok (.if_icmp .gt 7, 3) := by decide +kernel
theorem dX5_isLetter_12 : decode cX5_isLetter 12 = .ok (.iconst 1, 1) := by decide +kernel
theorem dX5_isLetter_13 : decode cX5_isLetter 13 = .ok (.goto 4, 3) := by decide +kernel
theorem dX5_isLetter_16 : decode cX5_isLetter 16 = .ok (.iconst 0, 1) := by decide +kernel
theorem dX5_isLetter_17 : decode cX5_isLetter 17 = .ok (.ireturn, 1) := by decide +kernel
theorem dX5_isDigit_0 : decode cX5_isDigit 0 = .ok (.iload_n 0, 1) := by decide +kernel
theorem dX5_isDigit_1 : decode cX5_isDigit 1 = .ok (.bipush 48, 2) := by decide +kernel
theorem dX5_isDigit_3 : decode cX5_isDigit 3 = .ok (.if_icmp .lt 13, 3) := by decide +kernel
theorem dX5_isDigit_6 : decode cX5_isDigit 6 = .ok (.iload_n 0, 1) := by decide +kernel
theorem dX5_isDigit_7 : decode cX5_isDigit 7 = .ok (.bipush 57, 2) := by decide +kernel
theorem dX5_isDigit_9 : decode cX5_isDigit 9 = .ok (.if_icmp .gt 7, 3) := by decide +kernel
theorem dX5_isDigit_12 : decode cX5_isDigit 12 = .ok (.iconst 1, 1) := by decide +kernel
theorem dX5_isDigit_13 : decode cX5_isDigit 13 = .ok (.goto 4, 3) := by decide +kernel
theorem dX5_isDigit_16 : decode cX5_isDigit 16 = .ok (.iconst 0, 1) := by decide +kernel
theorem dX5_isDigit_17 : decode cX5_isDigit 17 = .ok (.ireturn, 1) := by decide +kernel
theorem dX6_init_0 : decode cX6_init 0 = .ok (.aload_n 0, 1) := by decide +kernel
theorem dX6_init_1 : decode cX6_init 1 = .ok (.invokespecial 3, 3) := by decide +kernel
theorem dX6_init_4 : decode cX6_init 4 = .ok (.aload_n 0, 1) := by decide +kernel
theorem dX6_init_5 : decode cX6_init 5 = .ok (.bipush 8, 2) := by decide +kernel
theorem dX6_init_7 : decode cX6_init 7 = .ok (.newarray .int, 2) := by decide +kernel
theorem dX6_init_9 : decode cX6_init 9 = .ok (.putfield 9, 3) := by decide +kernel
theorem dX6_init_12 : decode cX6_init 12 = .ok (.aload_n 0, 1) := by decide +kernel
theorem dX6_init_13 : decode cX6_init 13 = .ok (.bipush 8, 2) := by decide +kernel
theorem dX6_init_15 : decode cX6_init 15 = .ok (.newarray .int, 2) := by decide +kernel
theorem dX6_init_17 : decode cX6_init 17 = .ok (.putfield 15, 3) := by decide +kernel
theorem dX6_init_20 : decode cX6_init 20 = .ok (.aload_n 0, 1) := by decide +kernel
theorem dX6_init_21 : decode cX6_init 21 = .ok (.bipush 8, 2) := by decide +kernel
theorem dX6_init_23 : decode cX6_init 23 = .ok (.newarray .int, 2) := by decide +kernel
theorem dX6_init_25 : decode cX6_init 25 = .ok (.putfield 18, 3) := by decide +kernel
theorem dX6_init_28 : decode cX6_init 28 = .ok (.aload_n 0, 1) := by decide +kernel
theorem dX6_init_29 : decode cX6_init 29 = .ok (.bipush 8, 2) := by decide +kernel
theorem dX6_init_31 : decode cX6_init 31 = .ok (.newarray .int, 2) := by decide +kernel
theorem dX6_init_33 : decode cX6_init 33 = .ok (.putfield 21, 3) := by decide +kernel
theorem dX6_init_36 : decode cX6_init 36 = .ok (.aload_n 0, 1) := by decide +kernel
theorem dX6_init_37 : decode cX6_init 37 = .ok (.bipush 8, 2) := by decide +kernel
theorem dX6_init_39 : decode cX6_init 39 = .ok (.newarray .int, 2) := by decide +kernel
theorem dX6_init_41 : decode cX6_init 41 = .ok (.putfield 24, 3) := by decide +kernel
theorem dX6_init_44 : decode cX6_init 44 = .ok (.return_, 1) := by decide +kernel
set_option maxRecDepth 20000 in
theorem ggX6_close_X4_homeOf : GoodIn wsX6_close wsX4_homeOf := goodIn_r _ [19, 20, 21, 22, 23, 18, 24, 25, 26, 27, 28, 72, 73, 74, 75, 76] (by decide +kernel) (by decide +kernel)
set_option maxRecDepth 20000 in
theorem gX6_close_X4_homeOf : GoodIn wsX6_close (wsV RX6 43 RX4 yX4_homeOf wsX4_homeOf) := goodIn_app (goodIn_of _ (by decide +kernel)) ggX6_close_X4_homeOf
set_option maxRecDepth 20000 in
theorem ggX6_close_X2_firstFieldOf : GoodIn wsX6_close wsX2_firstFieldOf := goodIn_r _ [33, 34, 35, 77, 78, 79, 80, 81, 82, 83, 84, 85, 86, 87, 88] (by decide +kernel) (by decide +kernel)
set_option maxRecDepth 20000 in
theorem gX6_close_X2_firstFieldOf : GoodIn wsX6_close (wsV RX6 49 RX2 yX2_firstFieldOf wsX2_firstFieldOf) := goodIn_app (goodIn_of _ (by decide +kernel)) ggX6_close_X2_firstFieldOf
set_option maxRecDepth 20000 in
theorem ggX6_close_X2_placeOf : GoodIn wsX6_close wsX2_placeOf := goodIn_r _ [39, 40, 41, 42, 43, 32, 44, 34, 26, 27, 28, 77, 78, 79, 80, 81, 82, 83, 84, 85, 86, 87, 88] (by decide +kernel) (by decide +kernel)
set_option maxRecDepth 20000 in
theorem gX6_close_X2_placeOf : GoodIn wsX6_close (wsV RX6 54 RX2 yX2_placeOf wsX2_placeOf) := goodIn_app (goodIn_of _ (by decide +kernel)) ggX6_close_X2_placeOf
set_option maxRecDepth 20000 in
theorem ggX6_close_X6_point : GoodIn wsX6_close wsX6_point := goodIn_r _ [49, 8, 13, 14, 50, 51, 52, 48, 53, 12, 10, 54, 55, 3, 56, 11, 65, 66, 67, 68, 69, 70, 71] (by decide +kernel) (by decide +kernel)
set_option maxRecDepth 20000 in
theorem gX6_close_X6_point : GoodIn wsX6_close (wsV RX6 57 RX6 yX6_point wsX6_point) := goodIn_app (goodIn_of _ (by decide +kernel)) ggX6_close_X6_point
set_option maxRecDepth 20000 in
theorem ggX6_close_X6_leaveInRings : GoodIn wsX6_close wsX6_leaveInRings := goodIn_r _ [60, 8, 13, 11, 14, 9, 61, 62, 63, 48, 64, 1, 2, 3, 4, 65, 66, 67, 68, 69, 70, 71] (by decide +kernel) (by decide +kernel)
set_option maxRecDepth 20000 in
theorem gX6_close_X6_leaveInRings : GoodIn wsX6_close (wsV RX6 60 RX6 yX6_leaveInRings wsX6_leaveInRings) := goodIn_app (goodIn_of _ (by decide +kernel)) ggX6_close_X6_leaveInRings
theorem dX6_close_0 : decode cX6_close 0 = .ok (.aload_n 0, 1) := by decide +kernel
theorem dX6_close_1 : decode cX6_close 1 = .ok (.iconst 0, 1) := by decide +kernel
theorem dX6_close_2 : decode cX6_close 2 = .ok (.iload_n 2, 1) := by decide +kernel
theorem dX6_close_3 : decode cX6_close 3 = .ok (.bipush 8, 2) := by decide +kernel
theorem dX6_close_5 : decode cX6_close 5 = .ok (.invokestatic 27, 3) := by decide +kernel
theorem dX6_close_8 : decode cX6_close 8 = .ok (.invokestatic 33, 3) := by decide +kernel
theorem dX6_close_11 : decode cX6_close 11 = .ok (.putfield 36, 3) := by decide +kernel
theorem dX6_close_14 : decode cX6_close 14 = .ok (.aload_n 0, 1) := by decide +kernel
theorem dX6_close_15 : decode cX6_close 15 = .ok (.iconst 0, 1) := by decide +kernel
theorem dX6_close_16 : decode cX6_close 16 = .ok (.putfield 40, 3) := by decide +kernel
theorem dX6_close_19 : decode cX6_close 19 = .ok (.iconst 0, 1) := by decide +kernel
theorem dX6_close_20 : decode cX6_close 20 = .ok (.istore 5, 2) := by decide +kernel
theorem dX6_close_22 : decode cX6_close 22 = .ok (.iload 5, 2) := by decide +kernel
theorem dX6_close_24 : decode cX6_close 24 = .ok (.aload_n 0, 1) := by decide +kernel
theorem dX6_close_25 : decode cX6_close 25 = .ok (.getfield 36, 3) := by decide +kernel
theorem dX6_close_28 : decode cX6_close 28 = .ok (.if_icmp .ge 88, 3) := by decide +kernel
theorem dX6_close_31 : decode cX6_close 31 = .ok (.aload_n 0, 1) := by decide +kernel
theorem dX6_close_32 : decode cX6_close 32 = .ok (.getfield 9, 3) := by decide +kernel
theorem dX6_close_35 : decode cX6_close 35 = .ok (.iload 5, 2) := by decide +kernel
theorem dX6_close_37 : decode cX6_close 37 = .ok (.aload 4, 2) := by decide +kernel
theorem dX6_close_39 : decode cX6_close 39 = .ok (.iload_n 1, 1) := by decide +kernel
theorem dX6_close_40 : decode cX6_close 40 = .ok (.iload 5, 2) := by decide +kernel
theorem dX6_close_42 : decode cX6_close 42 = .ok (.iadd, 1) := by decide +kernel
theorem dX6_close_43 : decode cX6_close 43 = .ok (.invokevirtual 43, 3) := by decide +kernel
theorem dX6_close_46 : decode cX6_close 46 = .ok (.iastore, 1) := by decide +kernel
theorem dX6_close_47 : decode cX6_close 47 = .ok (.aload_n 0, 1) := by decide +kernel
theorem dX6_close_48 : decode cX6_close 48 = .ok (.getfield 15, 3) := by decide +kernel
theorem dX6_close_51 : decode cX6_close 51 = .ok (.iload 5, 2) := by decide +kernel
theorem dX6_close_53 : decode cX6_close 53 = .ok (.aload_n 3, 1) := by decide +kernel
theorem dX6_close_54 : decode cX6_close 54 = .ok (.iload_n 1, 1) := by decide +kernel
theorem dX6_close_55 : decode cX6_close 55 = .ok (.iload 5, 2) := by decide +kernel
theorem dX6_close_57 : decode cX6_close 57 = .ok (.iadd, 1) := by decide +kernel
theorem dX6_close_58 : decode cX6_close 58 = .ok (.invokevirtual 49, 3) := by decide +kernel
theorem dX6_close_61 : decode cX6_close 61 = .ok (.iastore, 1) := by decide +kernel
theorem dX6_close_62 : decode cX6_close 62 = .ok (.aload_n 0, 1) := by decide +kernel
theorem dX6_close_63 : decode cX6_close 63 = .ok (.getfield 15, 3) := by decide +kernel
theorem dX6_close_66 : decode cX6_close 66 = .ok (.iload 5, 2) := by decide +kernel
theorem dX6_close_68 : decode cX6_close 68 = .ok (.iaload, 1) := by decide +kernel
theorem dX6_close_69 : decode cX6_close 69 = .ok (.iconst (-1), 1) := by decide +kernel
theorem dX6_close_70 : decode cX6_close 70 = .ok (.if_icmp .ne 5, 3) := by decide +kernel
theorem dX6_close_73 : decode cX6_close 73 = .ok (.iconst 0, 1) := by decide +kernel
theorem dX6_close_74 : decode cX6_close 74 = .ok (.ireturn, 1) := by decide +kernel
theorem dX6_close_75 : decode cX6_close 75 = .ok (.aload_n 0, 1) := by decide +kernel
theorem dX6_close_76 : decode cX6_close 76 = .ok (.getfield 18, 3) := by decide +kernel
theorem dX6_close_79 : decode cX6_close 79 = .ok (.iload 5, 2) := by decide +kernel
theorem dX6_close_81 : decode cX6_close 81 = .ok (.aload_n 3, 1) := by decide +kernel
theorem dX6_close_82 : decode cX6_close 82 = .ok (.aload_n 0, 1) := by decide +kernel
theorem dX6_close_83 : decode cX6_close 83 = .ok (.getfield 15, 3) := by decide +kernel
theorem dX6_close_86 : decode cX6_close 86 = .ok (.iload 5, 2) := by decide +kernel
theorem dX6_close_88 : decode cX6_close 88 = .ok (.iaload, 1) := by decide +kernel
theorem dX6_close_89 : decode cX6_close 89 = .ok (.invokevirtual 54, 3) := by decide +kernel
theorem dX6_close_92 : decode cX6_close 92 = .ok (.iastore, 1) := by decide +kernel
theorem dX6_close_93 : decode cX6_close 93 = .ok (.aload_n 0, 1) := by decide +kernel
theorem dX6_close_94 : decode cX6_close 94 = .ok (.getfield 21, 3) := by decide +kernel
theorem dX6_close_97 : decode cX6_close 97 = .ok (.iload 5, 2) := by decide +kernel
theorem dX6_close_99 : decode cX6_close 99 = .ok (.iconst (-1), 1) := by decide +kernel
theorem dX6_close_100 : decode cX6_close 100 = .ok (.iastore, 1) := by decide +kernel
theorem dX6_close_101 : decode cX6_close 101 = .ok (.aload_n 0, 1) := by decide +kernel
theorem dX6_close_102 : decode cX6_close 102 = .ok (.getfield 24, 3) := by decide +kernel
theorem dX6_close_105 : decode cX6_close 105 = .ok (.iload 5, 2) := by decide +kernel
theorem dX6_close_107 : decode cX6_close 107 = .ok (.iload 5, 2) := by decide +kernel
theorem dX6_close_109 : decode cX6_close 109 = .ok (.iastore, 1) := by decide +kernel
theorem dX6_close_110 : decode cX6_close 110 = .ok (.iinc 5 1, 3) := by decide +kernel
theorem dX6_close_113 : decode cX6_close 113 = .ok (.goto (-91), 3) := by decide +kernel
theorem dX6_close_116 : decode cX6_close 116 = .ok (.iconst 0, 1) := by decide +kernel
theorem dX6_close_117 : decode cX6_close 117 = .ok (.istore 5, 2) := by decide +kernel
theorem dX6_close_119 : decode cX6_close 119 = .ok (.iload 5, 2) := by decide +kernel
theorem dX6_close_121 : decode cX6_close 121 = .ok (.aload_n 0, 1) := by decide +kernel
theorem dX6_close_122 : decode cX6_close 122 = .ok (.getfield 36, 3) := by decide +kernel
theorem dX6_close_125 : decode cX6_close 125 = .ok (.if_icmp .ge 17, 3) := by decide +kernel
theorem dX6_close_128 : decode cX6_close 128 = .ok (.aload_n 0, 1) := by decide +kernel
theorem dX6_close_129 : decode cX6_close 129 = .ok (.invokevirtual 57, 3) := by decide +kernel
theorem dX6_close_132 : decode cX6_close 132 = .ok (.aload_n 0, 1) := by decide +kernel
theorem dX6_close_133 : decode cX6_close 133 = .ok (.invokevirtual 60, 3) := by decide +kernel
theorem dX6_close_136 : decode cX6_close 136 = .ok (.iinc 5 1, 3) := by decide +kernel
theorem dX6_close_139 : decode cX6_close 139 = .ok (.goto (-20), 3) := by decide +kernel
theorem dX6_close_142 : decode cX6_close 142 = .ok (.iconst 1, 1) := by decide +kernel
theorem dX6_close_143 : decode cX6_close 143 = .ok (.ireturn, 1) := by decide +kernel
set_option maxRecDepth 20000 in
theorem ggX6_point_X6_holderOfNearest : GoodIn wsX6_point wsX6_holderOfNearest := goodIn_r _ [8, 1, 9, 10, 11, 12, 13, 14, 15, 2, 16, 17, 18, 19, 20, 21, 22] (by decide +kernel) (by decide +kernel)
set_option maxRecDepth 20000 in
theorem gX6_point_X6_holderOfNearest : GoodIn wsX6_point (wsV RX6 63 RX6 yX6_holderOfNearest wsX6_holderOfNearest) := goodIn_app (goodIn_of _ (by decide +kernel)) ggX6_point_X6_holderOfNearest
theorem dX6_point_0 : decode cX6_point 0 = .ok (.iconst 0, 1) := by decide +kernel
theorem dX6_point_1 : decode cX6_point 1 = .ok (.istore_n 1, 1) := by decide +kernel
theorem dX6_point_2 : decode cX6_point 2 = .ok (.iload_n 1, 1) := by decide +kernel
theorem dX6_point_3 : decode cX6_point 3 = .ok (.aload_n 0, 1) := by decide +kernel
theorem dX6_point_4 : decode cX6_point 4 = .ok (.getfield 36, 3) := by decide +kernel
theorem dX6_point_7 : decode cX6_point 7 = .ok (.if_icmp .ge 30, 3) := by decide +kernel
theorem dX6_point_10 : decode cX6_point 10 = .ok (.aload_n 0, 1) := by decide +kernel
theorem dX6_point_11 : decode cX6_point 11 = .ok (.getfield 21, 3) := by decide +kernel
theorem dX6_point_14 : decode cX6_point 14 = .ok (.iload_n 1, 1) := by decide +kernel
theorem dX6_point_15 : decode cX6_point 15 = .ok (.iaload, 1) := by decide +kernel
theorem dX6_point_16 : decode cX6_point 16 = .ok (.iconst (-1), 1) := by decide +kernel
theorem dX6_point_17 : decode cX6_point 17 = .ok (.if_icmp .ne 14, 3) := by decide +kernel
theorem dX6_point_20 : decode cX6_point 20 = .ok (.aload_n 0, 1) := by decide +kernel
theorem dX6_point_21 : decode cX6_point 21 = .ok (.getfield 24, 3) := by decide +kernel
theorem dX6_point_24 : decode cX6_point 24 = .ok (.iload_n 1, 1) := by decide +kernel
theorem dX6_point_25 : decode cX6_point 25 = .ok (.aload_n 0, 1) := by decide +kernel
theorem dX6_point_26 : decode cX6_point 26 = .ok (.iload_n 1, 1) := by decide +kernel
theorem dX6_point_27 : decode cX6_point 27 = .ok (.invokevirtual 63, 3) := by decide +kernel
theorem dX6_point_30 : decode cX6_point 30 = .ok (.iastore, 1) := by decide +kernel
theorem dX6_point_31 : decode cX6_point 31 = .ok (.iinc 1 1, 3) := by decide +kernel
theorem dX6_point_34 : decode cX6_point 34 = .ok (.goto (-32), 3) := by decide +kernel
theorem dX6_point_37 : decode cX6_point 37 = .ok (.return_, 1) := by decide +kernel
theorem dX6_holderOfNearest_0 : decode cX6_holderOfNearest 0 = .ok (.iload_n 1, 1) := by decide +kernel
theorem dX6_holderOfNearest_1 : decode cX6_holderOfNearest 1 = .ok (.istore_n 2, 1) := by decide +kernel
theorem dX6_holderOfNearest_2 : decode cX6_holderOfNearest 2 = .ok (.iconst 0, 1) := by decide +kernel
theorem dX6_holderOfNearest_3 : decode cX6_holderOfNearest 3 = .ok (.istore_n 3, 1) := by decide +kernel
theorem dX6_holderOfNearest_4 : decode cX6_holderOfNearest 4 = .ok (.iload_n 3, 1) := by decide +kernel
theorem dX6_holderOfNearest_5 : decode cX6_holderOfNearest 5 = .ok (.aload_n 0, 1) := by decide +kernel
theorem dX6_holderOfNearest_6 : decode cX6_holderOfNearest 6 = .ok (.getfield 36, 3) := by decide +kernel
theorem dX6_holderOfNearest_9 : decode cX6_holderOfNearest 9 = .ok (.if_icmp .ge 93, 3) := by decide +kernel
theorem dX6_holderOfNearest_12 : decode cX6_holderOfNearest 12 = .ok (.aload_n 0, 1) := by decide +kernel
theorem dX6_holderOfNearest_13 : decode cX6_holderOfNearest 13 = .ok (.getfield 18, 3) := by decide +kernel
theorem dX6_holderOfNearest_16 : decode cX6_holderOfNearest 16 = .ok (.iload_n 2, 1) := by decide +kernel
theorem dX6_holderOfNearest_17 : decode cX6_holderOfNearest 17 = .ok (.iaload, 1) := by decide +kernel
theorem dX6_holderOfNearest_18 : decode cX6_holderOfNearest 18 = .ok (.aload_n 0, 1) := by decide +kernel
theorem dX6_holderOfNearest_19 : decode cX6_holderOfNearest 19 = .ok (.getfield 9, 3) := by decide +kernel
theorem dX6_holderOfNearest_22 : decode cX6_holderOfNearest 22 = .ok (.iload_n 1, 1) := by decide +kernel
theorem dX6_holderOfNearest_23 : decode cX6_holderOfNearest 23 = .ok (.iaload, 1) := by decide +kernel
theorem dX6_holderOfNearest_24 : decode cX6_holderOfNearest 24 = .ok (.isub, 1) := by decide +kernel
theorem dX6_holderOfNearest_25 : decode cX6_holderOfNearest 25 = .ok (.invokestatic 66, 3) := by decide +kernel
theorem dX6_holderOfNearest_28 : decode cX6_holderOfNearest 28 = .ok (.aload_n 0, 1) := by decide +kernel
theorem dX6_holderOfNearest_29 : decode cX6_holderOfNearest 29 = .ok (.getfield 18, 3) := by decide +kernel
theorem dX6_holderOfNearest_32 : decode cX6_holderOfNearest 32 = .ok (.iload_n 3, 1) := by decide +kernel
theorem dX6_holderOfNearest_33 : decode cX6_holderOfNearest 33 = .ok (.iaload, 1) := by decide +kernel
theorem dX6_holderOfNearest_34 : decode cX6_holderOfNearest 34 = .ok (.aload_n 0, 1) := by decide +kernel
theorem dX6_holderOfNearest_35 : decode cX6_holderOfNearest 35 = .ok (.getfield 9, 3) := by decide +kernel
theorem dX6_holderOfNearest_38 : decode cX6_holderOfNearest 38 = .ok (.iload_n 1, 1) := by decide +kernel
theorem dX6_holderOfNearest_39 : decode cX6_holderOfNearest 39 = .ok (.iaload, 1) := by decide +kernel
theorem dX6_holderOfNearest_40 : decode cX6_holderOfNearest 40 = .ok (.isub, 1) := by decide +kernel
theorem dX6_holderOfNearest_41 : decode cX6_holderOfNearest 41 = .ok (.invokestatic 66, 3) := by decide +kernel
theorem dX6_holderOfNearest_44 : decode cX6_holderOfNearest 44 = .ok (.isub, 1) := by decide +kernel
theorem dX6_holderOfNearest_45 : decode cX6_holderOfNearest 45 = .ok (.istore 4, 2) := by decide +kernel
theorem dX6_holderOfNearest_47 : decode cX6_holderOfNearest 47 = .ok (.iload 4, 2) := by decide +kernel
theorem dX6_holderOfNearest_49 : decode cX6_holderOfNearest 49 = .ok (.ifCond .gt 23, 3) := by decide +kernel
theorem dX6_holderOfNearest_52 : decode cX6_holderOfNearest 52 = .ok (.iload 4, 2) := by decide +kernel
theorem dX6_holderOfNearest_54 : decode cX6_holderOfNearest 54 = .ok (.ifCond .ne 22, 3) := by decide +kernel
theorem dX6_holderOfNearest_57 : decode cX6_holderOfNearest 57 = .ok (.aload_n 0, 1) := by decide +kernel
theorem dX6_holderOfNearest_58 : decode cX6_holderOfNearest 58 = .ok (.getfield 15, 3) := by decide +kernel
theorem dX6_holderOfNearest_61 : decode cX6_holderOfNearest 61 = .ok (.iload_n 3, 1) := by decide +kernel
theorem dX6_holderOfNearest_62 : decode cX6_holderOfNearest 62 = .ok (.iaload, 1) := by decide +kernel
theorem dX6_holderOfNearest_63 : decode cX6_holderOfNearest 63 = .ok (.aload_n 0, 1) := by decide +kernel
theorem dX6_holderOfNearest_64 : decode cX6_holderOfNearest 64 = .ok (.getfield 15, 3) := by decide +kernel
theorem dX6_holderOfNearest_67 : decode cX6_holderOfNearest 67 = .ok (.iload_n 2, 1) := by decide +kernel
theorem dX6_holderOfNearest_68 : decode cX6_holderOfNearest 68 = .ok (.iaload, 1) := by decide +kernel
theorem dX6_holderOfNearest_69 : decode cX6_holderOfNearest 69 = .ok (.if_icmp .ge 7, 3) := by decide +kernel
theorem dX6_holderOfNearest_72 : decode cX6_holderOfNearest 72 = .ok (.iconst 1, 1) := by decide +kernel
theorem dX6_holderOfNearest_73 : decode cX6_holderOfNearest 73 = .ok (.goto 4, 3) := by decide +kernel
theorem dX6_holderOfNearest_76 : decode cX6_holderOfNearest 76 = .ok (.iconst 0, 1) := by decide +kernel
theorem dX6_holderOfNearest_77 : decode cX6_holderOfNearest 77 = .ok (.istore 5, 2) := by decide +kernel
theorem dX6_holderOfNearest_79 : decode cX6_holderOfNearest 79 = .ok (.aload_n 0, 1) := by decide +kernel
theorem dX6_holderOfNearest_80 : decode cX6_holderOfNearest 80 = .ok (.getfield 21, 3) := by decide +kernel
theorem dX6_holderOfNearest_83 : decode cX6_holderOfNearest 83 = .ok (.iload_n 3, 1) := by decide +kernel
theorem dX6_holderOfNearest_84 : decode cX6_holderOfNearest 84 = .ok (.iaload, 1) := by decide +kernel
theorem dX6_holderOfNearest_85 : decode cX6_holderOfNearest 85 = .ok (.iconst (-1), 1) := by decide +kernel
theorem dX6_holderOfNearest_86 : decode cX6_holderOfNearest 86 = .ok (.if_icmp .ne 10, 3) := by decide +kernel
theorem dX6_holderOfNearest_89 : decode cX6_holderOfNearest 89 = .ok (.iload 5, 2) := by decide +kernel
theorem dX6_holderOfNearest_91 : decode cX6_holderOfNearest 91 = .ok (.ifCond .eq 5, 3) := by decide +kernel
theorem dX6_holderOfNearest_94 : decode cX6_holderOfNearest 94 = .ok (.iload_n 3, 1) := by decide +kernel
theorem dX6_holderOfNearest_95 : decode cX6_holderOfNearest 95 = .ok (.istore_n 2, 1) := by decide +kernel
theorem dX6_holderOfNearest_96 : decode cX6_holderOfNearest 96 = .ok (.iinc 3 1, 3) := by decide +kernel
theorem dX6_holderOfNearest_99 : decode cX6_holderOfNearest 99 = .ok (.goto (-95), 3) := by decide +kernel
theorem dX6_holderOfNearest_102 : decode cX6_holderOfNearest 102 = .ok (.iload_n 2, 1) := by decide +kernel
theorem dX6_holderOfNearest_103 : decode cX6_holderOfNearest 103 = .ok (.ireturn, 1) := by decide +kernel
set_option maxRecDepth 20000 in
theorem ggX6_leaveInRings_X6_leastInRing : GoodIn wsX6_leaveInRings wsX6_leastInRing := goodIn_r _ [10, 4, 1, 11, 12, 13, 14, 15, 16, 17, 18, 19, 20, 21] (by decide +kernel) (by decide +kernel)
set_option maxRecDepth 20000 in
theorem gX6_leaveInRings_X6_leastInRing : GoodIn wsX6_leaveInRings (wsV RX6 69 RX6 yX6_leastInRing wsX6_leastInRing) := goodIn_app (goodIn_of _ (by decide +kernel)) ggX6_leaveInRings_X6_leastInRing
theorem dX6_leaveInRings_0 : decode cX6_leaveInRings 0 = .ok (.iconst 0, 1) := by decide +kernel
theorem dX6_leaveInRings_1 : decode cX6_leaveInRings 1 = .ok (.istore_n 1, 1) := by decide +kernel
theorem dX6_leaveInRings_2 : decode cX6_leaveInRings 2 = .ok (.iload_n 1, 1) := by decide +kernel
theorem dX6_leaveInRings_3 : decode cX6_leaveInRings 3 = .ok (.aload_n 0, 1) := by decide +kernel
theorem dX6_leaveInRings_4 : decode cX6_leaveInRings 4 = .ok (.getfield 36, 3) := by decide +kernel
theorem dX6_leaveInRings_7 : decode cX6_leaveInRings 7 = .ok (.if_icmp .ge 69, 3) := by decide +kernel
theorem dX6_leaveInRings_10 : decode cX6_leaveInRings 10 = .ok (.aload_n 0, 1) := by decide +kernel
theorem dX6_leaveInRings_11 : decode cX6_leaveInRings 11 = .ok (.getfield 21, 3) := by decide +kernel
theorem dX6_leaveInRings_14 : decode cX6_leaveInRings 14 = .ok (.iload_n 1, 1) := by decide +kernel
theorem dX6_leaveInRings_15 : decode cX6_leaveInRings 15 = .ok (.iaload, 1) := by decide +kernel
theorem dX6_leaveInRings_16 : decode cX6_leaveInRings 16 = .ok (.iconst (-1), 1) := by decide +kernel
theorem dX6_leaveInRings_17 : decode cX6_leaveInRings 17 = .ok (.if_icmp .ne 11, 3) := by decide +kernel
theorem dX6_leaveInRings_20 : decode cX6_leaveInRings 20 = .ok (.aload_n 0, 1) := by decide +kernel
theorem dX6_leaveInRings_21 : decode cX6_leaveInRings 21 = .ok (.iload_n 1, 1) := by decide +kernel
theorem dX6_leaveInRings_22 : decode cX6_leaveInRings 22 = .ok (.invokevirtual 69, 3) := by decide +kernel
theorem dX6_leaveInRings_25 : decode cX6_leaveInRings 25 = .ok (.goto 4, 3) := by decide +kernel
theorem dX6_leaveInRings_28 : decode cX6_leaveInRings 28 = .ok (.iconst (-1), 1) := by decide +kernel
theorem dX6_leaveInRings_29 : decode cX6_leaveInRings 29 = .ok (.istore_n 2, 1) := by decide +kernel
theorem dX6_leaveInRings_30 : decode cX6_leaveInRings 30 = .ok (.iload_n 2, 1) := by decide +kernel
theorem dX6_leaveInRings_31 : decode cX6_leaveInRings 31 = .ok (.iconst (-1), 1) := by decide +kernel
theorem dX6_leaveInRings_32 : decode cX6_leaveInRings 32 = .ok (.if_icmp .ne 6, 3) := by decide +kernel
theorem dX6_leaveInRings_35 : decode cX6_leaveInRings 35 = .ok (.goto 35, 3) := by decide +kernel
theorem dX6_leaveInRings_38 : decode cX6_leaveInRings 38 = .ok (.aload_n 0, 1) := by decide +kernel
theorem dX6_leaveInRings_39 : decode cX6_leaveInRings 39 = .ok (.getfield 21, 3) := by decide +kernel
theorem dX6_leaveInRings_42 : decode cX6_leaveInRings 42 = .ok (.iload_n 1, 1) := by decide +kernel
theorem dX6_leaveInRings_43 : decode cX6_leaveInRings 43 = .ok (.aload_n 0, 1) := by decide +kernel
theorem dX6_leaveInRings_44 : decode cX6_leaveInRings 44 = .ok (.getfield 15, 3) := by decide +kernel
theorem dX6_leaveInRings_47 : decode cX6_leaveInRings 47 = .ok (.aload_n 0, 1) := by decide +kernel
theorem dX6_leaveInRings_48 : decode cX6_leaveInRings 48 = .ok (.getfield 24, 3) := by decide +kernel
theorem dX6_leaveInRings_51 : decode cX6_leaveInRings 51 = .ok (.iload_n 1, 1) := by decide +kernel
theorem dX6_leaveInRings_52 : decode cX6_leaveInRings 52 = .ok (.iaload, 1) := by decide +kernel
theorem dX6_leaveInRings_53 : decode cX6_leaveInRings 53 = .ok (.iaload, 1) := by decide +kernel
theorem dX6_leaveInRings_54 : decode cX6_leaveInRings 54 = .ok (.iastore, 1) := by decide +kernel
theorem dX6_leaveInRings_55 : decode cX6_leaveInRings 55 = .ok (.iload_n 2, 1) := by decide +kernel
theorem dX6_leaveInRings_56 : decode cX6_leaveInRings 56 = .ok (.iload_n 1, 1) := by decide +kernel
theorem dX6_leaveInRings_57 : decode cX6_leaveInRings 57 = .ok (.if_icmp .ne 13, 3) := by decide +kernel
theorem dX6_leaveInRings_60 : decode cX6_leaveInRings 60 = .ok (.aload_n 0, 1) := by decide +kernel
theorem dX6_leaveInRings_61 : decode cX6_leaveInRings 61 = .ok (.dup, 1) := by decide +kernel
theorem dX6_leaveInRings_62 : decode cX6_leaveInRings 62 = .ok (.getfield 40, 3) := by decide +kernel
theorem dX6_leaveInRings_65 : decode cX6_leaveInRings 65 = .ok (.iconst 1, 1) := by decide +kernel
theorem dX6_leaveInRings_66 : decode cX6_leaveInRings 66 = .ok (.iadd, 1) := by decide +kernel
theorem dX6_leaveInRings_67 : decode cX6_leaveInRings 67 = .ok (.putfield 40, 3) := by decide +kernel
theorem dX6_leaveInRings_70 : decode cX6_leaveInRings 70 = .ok (.iinc 1 1, 3) := by decide +kernel
theorem dX6_leaveInRings_73 : decode cX6_leaveInRings 73 = .ok (.goto (-71), 3) := by decide +kernel
theorem dX6_leaveInRings_76 : decode cX6_leaveInRings 76 = .ok (.return_, 1) := by decide +kernel
theorem dX6_leastInRing_0 : decode cX6_leastInRing 0 = .ok (.iload_n 1, 1) := by decide +kernel
theorem dX6_leastInRing_1 : decode cX6_leastInRing 1 = .ok (.istore_n 2, 1) := by decide +kernel
theorem dX6_leastInRing_2 : decode cX6_leastInRing 2 = .ok (.aload_n 0, 1) := by decide +kernel
theorem dX6_leastInRing_3 : decode cX6_leastInRing 3 = .ok (.getfield 24, 3) := by decide +kernel
theorem dX6_leastInRing_6 : decode cX6_leastInRing 6 = .ok (.iload_n 1, 1) := by decide +kernel
theorem dX6_leastInRing_7 : decode cX6_leastInRing 7 = .ok (.iaload, 1) := by decide +kernel
theorem dX6_leastInRing_8 : decode cX6_leastInRing 8 = .ok (.istore_n 3, 1) := by decide +kernel
theorem dX6_leastInRing_9 : decode cX6_leastInRing 9 = .ok (.iconst 0, 1) := by decide +kernel
theorem dX6_leastInRing_10 : decode cX6_leastInRing 10 = .ok (.istore 4, 2) := by decide +kernel
theorem dX6_leastInRing_12 : decode cX6_leastInRing 12 = .ok (.iload 4, 2) := by decide +kernel
theorem dX6_leastInRing_14 : decode cX6_leastInRing 14 = .ok (.aload_n 0, 1) := by decide +kernel
theorem dX6_leastInRing_15 : decode cX6_leastInRing 15 = .ok (.getfield 36, 3) := by decide +kernel
theorem dX6_leastInRing_18 : decode cX6_leastInRing 18 = .ok (.if_icmp .ge 27, 3) := by decide +kernel
theorem dX6_leastInRing_21 : decode cX6_leastInRing 21 = .ok (.iload_n 3, 1) := by decide +kernel
theorem dX6_leastInRing_22 : decode cX6_leastInRing 22 = .ok (.iload_n 1, 1) := by decide +kernel
theorem dX6_leastInRing_23 : decode cX6_leastInRing 23 = .ok (.if_icmp .eq 22, 3) := by decide +kernel
theorem dX6_leastInRing_26 : decode cX6_leastInRing 26 = .ok (.iload_n 2, 1) := by decide +kernel
theorem dX6_leastInRing_27 : decode cX6_leastInRing 27 = .ok (.iload_n 3, 1) := by decide +kernel
theorem dX6_leastInRing_28 : decode cX6_leastInRing 28 = .ok (.invokestatic 27, 3) := by decide +kernel
theorem dX6_leastInRing_31 : decode cX6_leastInRing 31 = .ok (.istore_n 2, 1) := by decide +kernel
theorem dX6_leastInRing_32 : decode cX6_leastInRing 32 = .ok (.aload_n 0, 1) := by decide +kernel
theorem dX6_leastInRing_33 : decode cX6_leastInRing 33 = .ok (.getfield 24, 3) := by decide +kernel
theorem dX6_leastInRing_36 : decode cX6_leastInRing 36 = .ok (.iload_n 3, 1) := by decide +kernel
theorem dX6_leastInRing_37 : decode cX6_leastInRing 37 = .ok (.iaload, 1) := by decide +kernel
theorem dX6_leastInRing_38 : decode cX6_leastInRing 38 = .ok (.istore_n 3, 1) := by decide +kernel
theorem dX6_leastInRing_39 : decode cX6_leastInRing 39 = .ok (.iinc 4 1, 3) := by decide +kernel
theorem dX6_leastInRing_42 : decode cX6_leastInRing 42 = .ok (.goto (-30), 3) := by decide +kernel
theorem dX6_leastInRing_45 : decode cX6_leastInRing 45 = .ok (.iload_n 3, 1) := by decide +kernel
theorem dX6_leastInRing_46 : decode cX6_leastInRing 46 = .ok (.iload_n 1, 1) := by decide +kernel
theorem dX6_leastInRing_47 : decode cX6_leastInRing 47 = .ok (.if_icmp .ne 7, 3) := by decide +kernel
theorem dX6_leastInRing_50 : decode cX6_leastInRing 50 = .ok (.iload_n 2, 1) := by decide +kernel
theorem dX6_leastInRing_51 : decode cX6_leastInRing 51 = .ok (.goto 4, 3) := by decide +kernel
theorem dX6_leastInRing_54 : decode cX6_leastInRing 54 = .ok (.iconst (-1), 1) := by decide +kernel
theorem dX6_leastInRing_55 : decode cX6_leastInRing 55 = .ok (.ireturn, 1) := by decide +kernel
set_option maxRecDepth 20000 in
theorem ggX6_fieldFor_X10_isBelow : GoodIn wsX6_fieldFor wsX10_isBelow := goodIn_r _ [5] (by decide +kernel) (by decide +kernel)
set_option maxRecDepth 20000 in
theorem gX6_fieldFor_X10_isBelow_n72 : GoodIn wsX6_fieldFor (wsX10_isBelow) := ggX6_fieldFor_X10_isBelow
theorem dX6_fieldFor_0 : decode cX6_fieldFor 0 = .ok (.iload_n 1, 1) := by decide +kernel
theorem dX6_fieldFor_1 : decode cX6_fieldFor 1 = .ok (.aload_n 0, 1) := by decide +kernel
theorem dX6_fieldFor_2 : decode cX6_fieldFor 2 = .ok (.getfield 36, 3) := by decide +kernel
theorem dX6_fieldFor_5 : decode cX6_fieldFor 5 = .ok (.invokestatic 72, 3) := by decide +kernel
theorem dX6_fieldFor_8 : decode cX6_fieldFor 8 = .ok (.ifCond .eq 12, 3) := by decide +kernel
theorem dX6_fieldFor_11 : decode cX6_fieldFor 11 = .ok (.aload_n 0, 1) := by decide +kernel
theorem dX6_fieldFor_12 : decode cX6_fieldFor 12 = .ok (.getfield 21, 3) := by decide +kernel
theorem dX6_fieldFor_15 : decode cX6_fieldFor 15 = .ok (.iload_n 1, 1) := by decide +kernel
theorem dX6_fieldFor_16 : decode cX6_fieldFor 16 = .ok (.iaload, 1) := by decide +kernel
theorem dX6_fieldFor_17 : decode cX6_fieldFor 17 = .ok (.goto 4, 3) := by decide +kernel
theorem dX6_fieldFor_20 : decode cX6_fieldFor 20 = .ok (.iconst (-1), 1) := by decide +kernel
theorem dX6_fieldFor_21 : decode cX6_fieldFor 21 = .ok (.ireturn, 1) := by decide +kernel
theorem dX6_changes_0 : decode cX6_changes 0 = .ok (.iconst 0, 1) := by decide +kernel
theorem dX6_changes_1 : decode cX6_changes 1 = .ok (.istore_n 1, 1) := by decide +kernel
theorem dX6_changes_2 : decode cX6_changes 2 = .ok (.iconst 0, 1) := by decide +kernel
theorem dX6_changes_3 : decode cX6_changes 3 = .ok (.istore_n 2, 1) := by decide +kernel
theorem dX6_changes_4 : decode cX6_changes 4 = .ok (.iload_n 2, 1) := by decide +kernel
theorem dX6_changes_5 : decode cX6_changes 5 = .ok (.aload_n 0, 1) := by decide +kernel
theorem dX6_changes_6 : decode cX6_changes 6 = .ok (.getfield 36, 3) := by decide +kernel
theorem dX6_changes_9 : decode cX6_changes 9 = .ok (.if_icmp .ge 27, 3) := by decide +kernel
theorem dX6_changes_12 : decode cX6_changes 12 = .ok (.aload_n 0, 1) := by decide +kernel
theorem dX6_changes_13 : decode cX6_changes 13 = .ok (.getfield 21, 3) := by decide +kernel
theorem dX6_changes_16 : decode cX6_changes 16 = .ok (.iload_n 2, 1) := by decide +kernel
theorem dX6_changes_17 : decode cX6_changes 17 = .ok (.iaload, 1) := by decide +kernel
theorem dX6_changes_18 : decode cX6_changes 18 = .ok (.aload_n 0, 1) := by decide +kernel
theorem dX6_changes_19 : decode cX6_changes 19 = .ok (.getfield 15, 3) := by decide +kernel
theorem dX6_changes_22 : decode cX6_changes 22 = .ok (.iload_n 2, 1) := by decide +kernel
theorem dX6_changes_23 : decode cX6_changes 23 = .ok (.iaload, 1) := by decide +kernel
theorem dX6_changes_24 : decode cX6_changes 24 = .ok (.if_icmp .eq 6, 3) := by decide +kernel
theorem dX6_changes_27 : decode cX6_changes 27 = .ok (.iinc 1 1, 3) := by decide +kernel
theorem dX6_changes_30 : decode cX6_changes 30 = .ok (.iinc 2 1, 3) := by decide +kernel
theorem dX6_changes_33 : decode cX6_changes 33 = .ok (.goto (-29), 3) := by decide +kernel
theorem dX6_changes_36 : decode cX6_changes 36 = .ok (.iload_n 1, 1) := by decide +kernel
theorem dX6_changes_37 : decode cX6_changes 37 = .ok (.ireturn, 1) := by decide +kernel
theorem dX6_winnerOf_0 : decode cX6_winnerOf 0 = .ok (.iconst 0, 1) := by decide +kernel
theorem dX6_winnerOf_1 : decode cX6_winnerOf 1 = .ok (.istore_n 2, 1) := by decide +kernel
theorem dX6_winnerOf_2 : decode cX6_winnerOf 2 = .ok (.iload_n 2, 1) := by decide +kernel
theorem dX6_winnerOf_3 : decode cX6_winnerOf 3 = .ok (.aload_n 0, 1) := by decide +kernel
theorem dX6_winnerOf_4 : decode cX6_winnerOf 4 = .ok (.getfield 36, 3) := by decide +kernel
theorem dX6_winnerOf_7 : decode cX6_winnerOf 7 = .ok (.if_icmp .ge 31, 3) := by decide +kernel
theorem dX6_winnerOf_10 : decode cX6_winnerOf 10 = .ok (.aload_n 0, 1) := by decide +kernel
theorem dX6_winnerOf_11 : decode cX6_winnerOf 11 = .ok (.getfield 21, 3) := by decide +kernel
theorem dX6_winnerOf_14 : decode cX6_winnerOf 14 = .ok (.iload_n 2, 1) := by decide +kernel
theorem dX6_winnerOf_15 : decode cX6_winnerOf 15 = .ok (.iaload, 1) := by decide +kernel
theorem dX6_winnerOf_16 : decode cX6_winnerOf 16 = .ok (.iload_n 1, 1) := by decide +kernel
theorem dX6_winnerOf_17 : decode cX6_winnerOf 17 = .ok (.if_icmp .ne 15, 3) := by decide +kernel
theorem dX6_winnerOf_20 : decode cX6_winnerOf 20 = .ok (.aload_n 0, 1) := by decide +kernel
theorem dX6_winnerOf_21 : decode cX6_winnerOf 21 = .ok (.getfield 15, 3) := by decide +kernel
theorem dX6_winnerOf_24 : decode cX6_winnerOf 24 = .ok (.iload_n 2, 1) := by decide +kernel
theorem dX6_winnerOf_25 : decode cX6_winnerOf 25 = .ok (.iaload, 1) := by decide +kernel
theorem dX6_winnerOf_26 : decode cX6_winnerOf 26 = .ok (.iload_n 1, 1) := by decide +kernel
theorem dX6_winnerOf_27 : decode cX6_winnerOf 27 = .ok (.if_icmp .eq 5, 3) := by decide +kernel
theorem dX6_winnerOf_30 : decode cX6_winnerOf 30 = .ok (.iload_n 2, 1) := by decide +kernel
theorem dX6_winnerOf_31 : decode cX6_winnerOf 31 = .ok (.ireturn, 1) := by decide +kernel
theorem dX6_winnerOf_32 : decode cX6_winnerOf 32 = .ok (.iinc 2 1, 3) := by decide +kernel
theorem dX6_winnerOf_35 : decode cX6_winnerOf 35 = .ok (.goto (-33), 3) := by decide +kernel
theorem dX6_winnerOf_38 : decode cX6_winnerOf 38 = .ok (.iconst (-1), 1) := by decide +kernel
theorem dX6_winnerOf_39 : decode cX6_winnerOf 39 = .ok (.ireturn, 1) := by decide +kernel
theorem dX7_init_0 : decode cX7_init 0 = .ok (.aload_n 0, 1) := by decide +kernel
theorem dX7_init_1 : decode cX7_init 1 = .ok (.invokespecial 3, 3) := by decide +kernel
theorem dX7_init_4 : decode cX7_init 4 = .ok (.aload_n 0, 1) := by decide +kernel
theorem dX7_init_5 : decode cX7_init 5 = .ok (.iload_n 1, 1) := by decide +kernel
theorem dX7_init_6 : decode cX7_init 6 = .ok (.putfield 9, 3) := by decide +kernel
theorem dX7_init_9 : decode cX7_init 9 = .ok (.aload_n 0, 1) := by decide +kernel
theorem dX7_init_10 : decode cX7_init 10 = .ok (.iload_n 2, 1) := by decide +kernel
theorem dX7_init_11 : decode cX7_init 11 = .ok (.putfield 15, 3) := by decide +kernel
theorem dX7_init_14 : decode cX7_init 14 = .ok (.aload_n 0, 1) := by decide +kernel
theorem dX7_init_15 : decode cX7_init 15 = .ok (.iload_n 3, 1) := by decide +kernel
theorem dX7_init_16 : decode cX7_init 16 = .ok (.putfield 18, 3) := by decide +kernel
theorem dX7_init_19 : decode cX7_init 19 = .ok (.aload_n 0, 1) := by decide +kernel
theorem dX7_init_20 : decode cX7_init 20 = .ok (.iconst 1, 1) := by decide +kernel
theorem dX7_init_21 : decode cX7_init 21 = .ok (.iload 4, 2) := by decide +kernel
theorem dX7_init_23 : decode cX7_init 23 = .ok (.invokestatic 21, 3) := by decide +kernel
theorem dX7_init_26 : decode cX7_init 26 = .ok (.putfield 27, 3) := by decide +kernel
theorem dX7_init_29 : decode cX7_init 29 = .ok (.aload_n 0, 1) := by decide +kernel
theorem dX7_init_30 : decode cX7_init 30 = .ok (.aload_n 0, 1) := by decide +kernel
theorem dX7_init_31 : decode cX7_init 31 = .ok (.getfield 27, 3) := by decide +kernel
theorem dX7_init_34 : decode cX7_init 34 = .ok (.iconst 1, 1) := by decide +kernel
theorem dX7_init_35 : decode cX7_init 35 = .ok (.isub, 1) := by decide +kernel
theorem dX7_init_36 : decode cX7_init 36 = .ok (.putfield 30, 3) := by decide +kernel
theorem dX7_init_39 : decode cX7_init 39 = .ok (.aload_n 0, 1) := by decide +kernel
theorem dX7_init_40 : decode cX7_init 40 = .ok (.iload_n 3, 1) := by decide +kernel
theorem dX7_init_41 : decode cX7_init 41 = .ok (.aload_n 0, 1) := by decide +kernel
theorem dX7_init_42 : decode cX7_init 42 = .ok (.getfield 27, 3) := by decide +kernel
theorem dX7_init_45 : decode cX7_init 45 = .ok (.idiv, 1) := by decide +kernel
theorem dX7_init_46 : decode cX7_init 46 = .ok (.putfield 33, 3) := by decide +kernel
theorem dX7_init_49 : decode cX7_init 49 = .ok (.aload_n 0, 1) := by decide +kernel
theorem dX7_init_50 : decode cX7_init 50 = .ok (.iload_n 3, 1) := by decide +kernel
theorem dX7_init_51 : decode cX7_init 51 = .ok (.aload_n 0, 1) := by decide +kernel
theorem dX7_init_52 : decode cX7_init 52 = .ok (.getfield 33, 3) := by decide +kernel
theorem dX7_init_55 : decode cX7_init 55 = .ok (.aload_n 0, 1) := by decide +kernel
theorem dX7_init_56 : decode cX7_init 56 = .ok (.getfield 30, 3) := by decide +kernel
theorem dX7_init_59 : decode cX7_init 59 = .ok (.imul, 1) := by decide +kernel
theorem dX7_init_60 : decode cX7_init 60 = .ok (.isub, 1) := by decide +kernel
theorem dX7_init_61 : decode cX7_init 61 = .ok (.putfield 36, 3) := by decide +kernel
theorem dX7_init_64 : decode cX7_init 64 = .ok (.return_, 1) := by decide +kernel
theorem dX7_pass_0 : decode cX7_pass 0 = .ok (.aload_n 0, 1) := by decide +kernel
theorem dX7_pass_1 : decode cX7_pass 1 = .ok (.getfield 27, 3) := by decide +kernel
theorem dX7_pass_4 : decode cX7_pass 4 = .ok (.ifCond .ne 5, 3) := by decide +kernel
theorem dX7_pass_7 : decode cX7_pass 7 = .ok (.iconst (-1), 1) := by decide +kernel
theorem dX7_pass_8 : decode cX7_pass 8 = .ok (.ireturn, 1) := by decide +kernel
theorem dX7_pass_9 : decode cX7_pass 9 = .ok (.aload_n 0, 1) := by decide +kernel
theorem dX7_pass_10 : decode cX7_pass 10 = .ok (.getfield 30, 3) := by decide +kernel
theorem dX7_pass_13 : decode cX7_pass 13 = .ok (.ifCond .ne 7, 3) := by decide +kernel
theorem dX7_pass_16 : decode cX7_pass 16 = .ok (.iconst 1, 1) := by decide +kernel
theorem dX7_pass_17 : decode cX7_pass 17 = .ok (.goto 4, 3) := by decide +kernel
theorem dX7_pass_20 : decode cX7_pass 20 = .ok (.iconst 0, 1) := by decide +kernel
theorem dX7_pass_21 : decode cX7_pass 21 = .ok (.istore_n 2, 1) := by decide +kernel
theorem dX7_pass_22 : decode cX7_pass 22 = .ok (.aload_n 0, 1) := by decide +kernel
theorem dX7_pass_23 : decode cX7_pass 23 = .ok (.dup, 1) := by decide +kernel
theorem dX7_pass_24 : decode cX7_pass 24 = .ok (.getfield 30, 3) := by decide +kernel
theorem dX7_pass_27 : decode cX7_pass 27 = .ok (.iconst 1, 1) := by decide +kernel
theorem dX7_pass_28 : decode cX7_pass 28 = .ok (.isub, 1) := by decide +kernel
theorem dX7_pass_29 : decode cX7_pass 29 = .ok (.putfield 30, 3) := by decide +kernel
theorem dX7_pass_32 : decode cX7_pass 32 = .ok (.iload_n 1, 1) := by decide +kernel
theorem dX7_pass_33 : decode cX7_pass 33 = .ok (.ifCond .ne 29, 3) := by decide +kernel
theorem dX7_pass_36 : decode cX7_pass 36 = .ok (.aload_n 0, 1) := by decide +kernel
theorem dX7_pass_37 : decode cX7_pass 37 = .ok (.dup, 1) := by decide +kernel
theorem dX7_pass_38 : decode cX7_pass 38 = .ok (.getfield 39, 3) := by decide +kernel
theorem dX7_pass_41 : decode cX7_pass 41 = .ok (.iconst 1, 1) := by decide +kernel
theorem dX7_pass_42 : decode cX7_pass 42 = .ok (.iadd, 1) := by decide +kernel
theorem dX7_pass_43 : decode cX7_pass 43 = .ok (.putfield 39, 3) := by decide +kernel
theorem dX7_pass_46 : decode cX7_pass 46 = .ok (.iload_n 2, 1) := by decide +kernel
theorem dX7_pass_47 : decode cX7_pass 47 = .ok (.ifCond .eq 13, 3) := by decide +kernel
theorem dX7_pass_50 : decode cX7_pass 50 = .ok (.aload_n 0, 1) := by decide +kernel
theorem dX7_pass_51 : decode cX7_pass 51 = .ok (.aload_n 0, 1) := by decide +kernel
theorem dX7_pass_52 : decode cX7_pass 52 = .ok (.getfield 27, 3) := by decide +kernel
theorem dX7_pass_55 : decode cX7_pass 55 = .ok (.iconst 1, 1) := by decide +kernel
theorem dX7_pass_56 : decode cX7_pass 56 = .ok (.isub, 1) := by decide +kernel
theorem dX7_pass_57 : decode cX7_pass 57 = .ok (.putfield 30, 3) := by decide +kernel
theorem dX7_pass_60 : decode cX7_pass 60 = .ok (.iconst 0, 1) := by decide +kernel
theorem dX7_pass_61 : decode cX7_pass 61 = .ok (.ireturn, 1) := by decide +kernel
theorem dX7_pass_62 : decode cX7_pass 62 = .ok (.iload_n 2, 1) := by decide +kernel
theorem dX7_pass_63 : decode cX7_pass 63 = .ok (.ifCond .eq 10, 3) := by decide +kernel
theorem dX7_pass_66 : decode cX7_pass 66 = .ok (.aload_n 0, 1) := by decide +kernel
theorem dX7_pass_67 : decode cX7_pass 67 = .ok (.getfield 36, 3) := by decide +kernel
theorem dX7_pass_70 : decode cX7_pass 70 = .ok (.goto 7, 3) := by decide +kernel
theorem dX7_pass_73 : decode cX7_pass 73 = .ok (.aload_n 0, 1) := by decide +kernel
theorem dX7_pass_74 : decode cX7_pass 74 = .ok (.getfield 33, 3) := by decide +kernel
theorem dX7_pass_77 : decode cX7_pass 77 = .ok (.istore_n 3, 1) := by decide +kernel
theorem dX7_pass_78 : decode cX7_pass 78 = .ok (.aload_n 0, 1) := by decide +kernel
theorem dX7_pass_79 : decode cX7_pass 79 = .ok (.dup, 1) := by decide +kernel
theorem dX7_pass_80 : decode cX7_pass 80 = .ok (.getfield 27, 3) := by decide +kernel
theorem dX7_pass_83 : decode cX7_pass 83 = .ok (.iconst 1, 1) := by decide +kernel
theorem dX7_pass_84 : decode cX7_pass 84 = .ok (.isub, 1) := by decide +kernel
theorem dX7_pass_85 : decode cX7_pass 85 = .ok (.putfield 27, 3) := by decide +kernel
theorem dX7_pass_88 : decode cX7_pass 88 = .ok (.aload_n 0, 1) := by decide +kernel
theorem dX7_pass_89 : decode cX7_pass 89 = .ok (.dup, 1) := by decide +kernel
theorem dX7_pass_90 : decode cX7_pass 90 = .ok (.getfield 42, 3) := by decide +kernel
theorem dX7_pass_93 : decode cX7_pass 93 = .ok (.iload_n 3, 1) := by decide +kernel
theorem dX7_pass_94 : decode cX7_pass 94 = .ok (.iadd, 1) := by decide +kernel
theorem dX7_pass_95 : decode cX7_pass 95 = .ok (.putfield 42, 3) := by decide +kernel
theorem dX7_pass_98 : decode cX7_pass 98 = .ok (.iload_n 3, 1) := by decide +kernel
theorem dX7_pass_99 : decode cX7_pass 99 = .ok (.ireturn, 1) := by decide +kernel
theorem dX8_init_0 : decode cX8_init 0 = .ok (.aload_n 0, 1) := by decide +kernel
theorem dX8_init_1 : decode cX8_init 1 = .ok (.invokespecial 3, 3) := by decide +kernel
theorem dX8_init_4 : decode cX8_init 4 = .ok (.aload_n 0, 1) := by decide +kernel
theorem dX8_init_5 : decode cX8_init 5 = .ok (.sipush 400, 3) := by decide +kernel
theorem dX8_init_8 : decode cX8_init 8 = .ok (.newarray .byte, 2) := by decide +kernel
theorem dX8_init_10 : decode cX8_init 10 = .ok (.putfield 9, 3) := by decide +kernel
theorem dX8_init_13 : decode cX8_init 13 = .ok (.return_, 1) := by decide +kernel
theorem dX8_room_0 : decode cX8_room 0 = .ok (.sipush 400, 3) := by decide +kernel
theorem dX8_room_3 : decode cX8_room 3 = .ok (.aload_n 0, 1) := by decide +kernel
theorem dX8_room_4 : decode cX8_room 4 = .ok (.getfield 15, 3) := by decide +kernel
theorem dX8_room_7 : decode cX8_room 7 = .ok (.isub, 1) := by decide +kernel
theorem dX8_room_8 : decode cX8_room 8 = .ok (.ireturn, 1) := by decide +kernel
theorem dX8_append_0 : decode cX8_append 0 = .ok (.bipush 24, 2) := by decide +kernel
theorem dX8_append_2 : decode cX8_append 2 = .ok (.istore_n 2, 1) := by decide +kernel
theorem dX8_append_3 : decode cX8_append 3 = .ok (.iload_n 2, 1) := by decide +kernel
theorem dX8_append_4 : decode cX8_append 4 = .ok (.ifCond .lt 42, 3) := by decide +kernel
theorem dX8_append_7 : decode cX8_append 7 = .ok (.aload_n 0, 1) := by decide +kernel
theorem dX8_append_8 : decode cX8_append 8 = .ok (.getfield 15, 3) := by decide +kernel
theorem dX8_append_11 : decode cX8_append 11 = .ok (.sipush 400, 3) := by decide +kernel
theorem dX8_append_14 : decode cX8_append 14 = .ok (.if_icmp .ge 32, 3) := by decide +kernel
theorem dX8_append_17 : decode cX8_append 17 = .ok (.aload_n 0, 1) := by decide +kernel
theorem dX8_append_18 : decode cX8_append 18 = .ok (.getfield 9, 3) := by decide +kernel
theorem dX8_append_21 : decode cX8_append 21 = .ok (.aload_n 0, 1) := by decide +kernel
theorem dX8_append_22 : decode cX8_append 22 = .ok (.getfield 15, 3) := by decide +kernel
theorem dX8_append_25 : decode cX8_append 25 = .ok (.iload_n 1, 1) := by decide +kernel
theorem dX8_append_26 : decode cX8_append 26 = .ok (.iload_n 2, 1) := by decide +kernel
theorem dX8_append_27 : decode cX8_append 27 = .ok (.ishr, 1) := by decide +kernel
theorem dX8_append_28 : decode cX8_append 28 = .ok (.i2b, 1) := by decide +kernel
theorem dX8_append_29 : decode cX8_append 29 = .ok (.bastore, 1) := by decide +kernel
theorem dX8_append_30 : decode cX8_append 30 = .ok (.aload_n 0, 1) := by decide +kernel
theorem dX8_append_31 : decode cX8_append 31 = .ok (.dup, 1) := by decide +kernel
theorem dX8_append_32 : decode cX8_append 32 = .ok (.getfield 15, 3) := by decide +kernel
theorem dX8_append_35 : decode cX8_append 35 = .ok (.iconst 1, 1) := by decide +kernel
theorem dX8_append_36 : decode cX8_append 36 = .ok (.iadd, 1) := by decide +kernel
theorem dX8_append_37 : decode cX8_append 37 = .ok (.putfield 15, 3) := by decide +kernel
theorem dX8_append_40 : decode cX8_append 40 = .ok (.iinc 2 (-8), 3) := by decide +kernel
theorem dX8_append_43 : decode cX8_append 43 = .ok (.goto (-40), 3) := by decide +kernel
theorem dX8_append_46 : decode cX8_append 46 = .ok (.return_, 1) := by decide +kernel
theorem dX9_init_0 : decode cX9_init 0 = .ok (.aload_n 0, 1) := by decide +kernel
theorem dX9_init_1 : decode cX9_init 1 = .ok (.invokespecial 3, 3) := by decide +kernel
theorem dX9_init_4 : decode cX9_init 4 = .ok (.aload_n 0, 1) := by decide +kernel
theorem dX9_init_5 : decode cX9_init 5 = .ok (.bipush 60, 2) := by decide +kernel
theorem dX9_init_7 : decode cX9_init 7 = .ok (.newarray .int, 2) := by decide +kernel
theorem dX9_init_9 : decode cX9_init 9 = .ok (.putfield 9, 3) := by decide +kernel
theorem dX9_init_12 : decode cX9_init 12 = .ok (.aload_n 0, 1) := by decide +kernel
theorem dX9_init_13 : decode cX9_init 13 = .ok (.bipush 60, 2) := by decide +kernel
theorem dX9_init_15 : decode cX9_init 15 = .ok (.newarray .int, 2) := by decide +kernel
theorem dX9_init_17 : decode cX9_init 17 = .ok (.putfield 15, 3) := by decide +kernel
theorem dX9_init_20 : decode cX9_init 20 = .ok (.aload_n 0, 1) := by decide +kernel
theorem dX9_init_21 : decode cX9_init 21 = .ok (.bipush 60, 2) := by decide +kernel
theorem dX9_init_23 : decode cX9_init 23 = .ok (.newarray .int, 2) := by decide +kernel
theorem dX9_init_25 : decode cX9_init 25 = .ok (.putfield 18, 3) := by decide +kernel
theorem dX9_init_28 : decode cX9_init 28 = .ok (.return_, 1) := by decide +kernel
set_option maxRecDepth 20000 in
theorem ggX9_tell_X9_pairOf : GoodIn wsX9_tell wsX9_pairOf := goodIn_r _ [9, 1, 2, 3, 17, 18, 19, 20] (by decide +kernel) (by decide +kernel)
set_option maxRecDepth 20000 in
theorem gX9_tell_X9_pairOf : GoodIn wsX9_tell (wsV RX9 21 RX9 yX9_pairOf wsX9_pairOf) := goodIn_app (goodIn_of _ (by decide +kernel)) ggX9_tell_X9_pairOf
set_option maxRecDepth 20000 in
theorem ggX9_tell_J6_bitCount_0f7a4 : GoodIn wsX9_tell wsJ6_bitCount_0f7a4 := goodIn_r _ [13, 14, 15, 16] (by decide +kernel) (by decide +kernel)
set_option maxRecDepth 20000 in
theorem gX9_tell_J6_bitCount_0f7a4 : GoodIn wsX9_tell (va_wsS RX9 29 yJ6_bitCount_0f7a4 wsJ6_bitCount_0f7a4) := goodIn_app (goodIn_of _ (by decide +kernel)) ggX9_tell_J6_bitCount_0f7a4
theorem dX9_tell_0 : decode cX9_tell 0 = .ok (.aload_n 0, 1) := by decide +kernel
theorem dX9_tell_1 : decode cX9_tell 1 = .ok (.iload_n 1, 1) := by decide +kernel
theorem dX9_tell_2 : decode cX9_tell 2 = .ok (.iload_n 2, 1) := by decide +kernel
theorem dX9_tell_3 : decode cX9_tell 3 = .ok (.invokevirtual 21, 3) := by decide +kernel
theorem dX9_tell_6 : decode cX9_tell 6 = .ok (.istore 4, 2) := by decide +kernel
theorem dX9_tell_8 : decode cX9_tell 8 = .ok (.iload 4, 2) := by decide +kernel
theorem dX9_tell_10 : decode cX9_tell 10 = .ok (.bipush 60, 2) := by decide +kernel
theorem dX9_tell_12 : decode cX9_tell 12 = .ok (.if_icmp .lt 5, 3) := by decide +kernel
theorem dX9_tell_15 : decode cX9_tell 15 = .ok (.iconst (-1), 1) := by decide +kernel
theorem dX9_tell_16 : decode cX9_tell 16 = .ok (.ireturn, 1) := by decide +kernel
theorem dX9_tell_17 : decode cX9_tell 17 = .ok (.iload 4, 2) := by decide +kernel
theorem dX9_tell_19 : decode cX9_tell 19 = .ok (.aload_n 0, 1) := by decide +kernel
theorem dX9_tell_20 : decode cX9_tell 20 = .ok (.getfield 25, 3) := by decide +kernel
theorem dX9_tell_23 : decode cX9_tell 23 = .ok (.if_icmp .ne 37, 3) := by decide +kernel
theorem dX9_tell_26 : decode cX9_tell 26 = .ok (.aload_n 0, 1) := by decide +kernel
theorem dX9_tell_27 : decode cX9_tell 27 = .ok (.getfield 9, 3) := by decide +kernel
theorem dX9_tell_30 : decode cX9_tell 30 = .ok (.iload 4, 2) := by decide +kernel
theorem dX9_tell_32 : decode cX9_tell 32 = .ok (.iload_n 1, 1) := by decide +kernel
theorem dX9_tell_33 : decode cX9_tell 33 = .ok (.iastore, 1) := by decide +kernel
theorem dX9_tell_34 : decode cX9_tell 34 = .ok (.aload_n 0, 1) := by decide +kernel
theorem dX9_tell_35 : decode cX9_tell 35 = .ok (.getfield 15, 3) := by decide +kernel
theorem dX9_tell_38 : decode cX9_tell 38 = .ok (.iload 4, 2) := by decide +kernel
theorem dX9_tell_40 : decode cX9_tell 40 = .ok (.iload_n 2, 1) := by decide +kernel
theorem dX9_tell_41 : decode cX9_tell 41 = .ok (.iastore, 1) := by decide +kernel
theorem dX9_tell_42 : decode cX9_tell 42 = .ok (.aload_n 0, 1) := by decide +kernel
theorem dX9_tell_43 : decode cX9_tell 43 = .ok (.getfield 18, 3) := by decide +kernel
theorem dX9_tell_46 : decode cX9_tell 46 = .ok (.iload 4, 2) := by decide +kernel
theorem dX9_tell_48 : decode cX9_tell 48 = .ok (.iconst 0, 1) := by decide +kernel
theorem dX9_tell_49 : decode cX9_tell 49 = .ok (.iastore, 1) := by decide +kernel
theorem dX9_tell_50 : decode cX9_tell 50 = .ok (.aload_n 0, 1) := by decide +kernel
theorem dX9_tell_51 : decode cX9_tell 51 = .ok (.dup, 1) := by decide +kernel
theorem dX9_tell_52 : decode cX9_tell 52 = .ok (.getfield 25, 3) := by decide +kernel
theorem dX9_tell_55 : decode cX9_tell 55 = .ok (.iconst 1, 1) := by decide +kernel
theorem dX9_tell_56 : decode cX9_tell 56 = .ok (.iadd, 1) := by decide +kernel
theorem dX9_tell_57 : decode cX9_tell 57 = .ok (.putfield 25, 3) := by decide +kernel
theorem dX9_tell_60 : decode cX9_tell 60 = .ok (.aload_n 0, 1) := by decide +kernel
theorem dX9_tell_61 : decode cX9_tell 61 = .ok (.getfield 18, 3) := by decide +kernel
theorem dX9_tell_64 : decode cX9_tell 64 = .ok (.iload 4, 2) := by decide +kernel
theorem dX9_tell_66 : decode cX9_tell 66 = .ok (.dup2, 1) := by decide +kernel
theorem dX9_tell_67 : decode cX9_tell 67 = .ok (.iaload, 1) := by decide +kernel
theorem dX9_tell_68 : decode cX9_tell 68 = .ok (.iconst 1, 1) := by decide +kernel
theorem dX9_tell_69 : decode cX9_tell 69 = .ok (.iload_n 3, 1) := by decide +kernel
theorem dX9_tell_70 : decode cX9_tell 70 = .ok (.ishl, 1) := by decide +kernel
theorem dX9_tell_71 : decode cX9_tell 71 = .ok (.ior, 1) := by decide +kernel
theorem dX9_tell_72 : decode cX9_tell 72 = .ok (.iastore, 1) := by decide +kernel
theorem dX9_tell_73 : decode cX9_tell 73 = .ok (.aload_n 0, 1) := by decide +kernel
theorem dX9_tell_74 : decode cX9_tell 74 = .ok (.getfield 18, 3) := by decide +kernel
theorem dX9_tell_77 : decode cX9_tell 77 = .ok (.iload 4, 2) := by decide +kernel
theorem dX9_tell_79 : decode cX9_tell 79 = .ok (.iaload, 1) := by decide +kernel
theorem dX9_tell_80 : decode cX9_tell 80 = .ok (.invokestatic 29, 3) := by decide +kernel
theorem dX9_tell_83 : decode cX9_tell 83 = .ok (.ireturn, 1) := by decide +kernel
theorem dX9_pairOf_0 : decode cX9_pairOf 0 = .ok (.iconst 0, 1) := by decide +kernel
theorem dX9_pairOf_1 : decode cX9_pairOf 1 = .ok (.istore_n 3, 1) := by decide +kernel
theorem dX9_pairOf_2 : decode cX9_pairOf 2 = .ok (.iload_n 3, 1) := by decide +kernel
theorem dX9_pairOf_3 : decode cX9_pairOf 3 = .ok (.aload_n 0, 1) := by decide +kernel
theorem dX9_pairOf_4 : decode cX9_pairOf 4 = .ok (.getfield 25, 3) := by decide +kernel
theorem dX9_pairOf_7 : decode cX9_pairOf 7 = .ok (.if_icmp .ge 31, 3) := by decide +kernel
theorem dX9_pairOf_10 : decode cX9_pairOf 10 = .ok (.aload_n 0, 1) := by decide +kernel
theorem dX9_pairOf_11 : decode cX9_pairOf 11 = .ok (.getfield 9, 3) := by decide +kernel
theorem dX9_pairOf_14 : decode cX9_pairOf 14 = .ok (.iload_n 3, 1) := by decide +kernel
theorem dX9_pairOf_15 : decode cX9_pairOf 15 = .ok (.iaload, 1) := by decide +kernel
theorem dX9_pairOf_16 : decode cX9_pairOf 16 = .ok (.iload_n 1, 1) := by decide +kernel
theorem dX9_pairOf_17 : decode cX9_pairOf 17 = .ok (.if_icmp .ne 15, 3) := by decide +kernel
theorem dX9_pairOf_20 : decode cX9_pairOf 20 = .ok (.aload_n 0, 1) := by decide +kernel
theorem dX9_pairOf_21 : decode cX9_pairOf 21 = .ok (.getfield 15, 3) := by decide +kernel
theorem dX9_pairOf_24 : decode cX9_pairOf 24 = .ok (.iload_n 3, 1) := by decide +kernel
theorem dX9_pairOf_25 : decode cX9_pairOf 25 = .ok (.iaload, 1) := by decide +kernel
theorem dX9_pairOf_26 : decode cX9_pairOf 26 = .ok (.iload_n 2, 1) := by decide +kernel
theorem dX9_pairOf_27 : decode cX9_pairOf 27 = .ok (.if_icmp .ne 5, 3) := by decide +kernel
theorem dX9_pairOf_30 : decode cX9_pairOf 30 = .ok (.iload_n 3, 1) := by decide +kernel
theorem dX9_pairOf_31 : decode cX9_pairOf 31 = .ok (.ireturn, 1) := by decide +kernel
theorem dX9_pairOf_32 : decode cX9_pairOf 32 = .ok (.iinc 3 1, 3) := by decide +kernel
theorem dX9_pairOf_35 : decode cX9_pairOf 35 = .ok (.goto (-33), 3) := by decide +kernel
theorem dX9_pairOf_38 : decode cX9_pairOf 38 = .ok (.aload_n 0, 1) := by decide +kernel
theorem dX9_pairOf_39 : decode cX9_pairOf 39 = .ok (.getfield 25, 3) := by decide +kernel
theorem dX9_pairOf_42 : decode cX9_pairOf 42 = .ok (.ireturn, 1) := by decide +kernel
set_option maxRecDepth 20000 in
theorem ggX9_tenantOf_J6_bitCount_0f7a4 : GoodIn wsX9_tenantOf wsJ6_bitCount_0f7a4 := goodIn_r _ [8, 9, 10, 11] (by decide +kernel) (by decide +kernel)
set_option maxRecDepth 20000 in
theorem gX9_tenantOf_J6_bitCount_0f7a4 : GoodIn wsX9_tenantOf (va_wsS RX9 29 yJ6_bitCount_0f7a4 wsJ6_bitCount_0f7a4) := goodIn_app (goodIn_of _ (by decide +kernel)) ggX9_tenantOf_J6_bitCount_0f7a4
theorem dX9_tenantOf_0 : decode cX9_tenantOf 0 = .ok (.iconst (-1), 1) := by decide +kernel
theorem dX9_tenantOf_1 : decode cX9_tenantOf 1 = .ok (.istore 4, 2) := by decide +kernel
theorem dX9_tenantOf_3 : decode cX9_tenantOf 3 = .ok (.iconst 0, 1) := by decide +kernel
theorem dX9_tenantOf_4 : decode cX9_tenantOf 4 = .ok (.istore 5, 2) := by decide +kernel
theorem dX9_tenantOf_6 : decode cX9_tenantOf 6 = .ok (.iconst 0, 1) := by decide +kernel
theorem dX9_tenantOf_7 : decode cX9_tenantOf 7 = .ok (.istore 6, 2) := by decide +kernel
theorem dX9_tenantOf_9 : decode cX9_tenantOf 9 = .ok (.iload 6, 2) := by decide +kernel
theorem dX9_tenantOf_11 : decode cX9_tenantOf 11 = .ok (.aload_n 0, 1) := by decide +kernel
theorem dX9_tenantOf_12 : decode cX9_tenantOf 12 = .ok (.getfield 25, 3) := by decide +kernel
theorem dX9_tenantOf_15 : decode cX9_tenantOf 15 = .ok (.if_icmp .ge 83, 3) := by decide +kernel
theorem dX9_tenantOf_18 : decode cX9_tenantOf 18 = .ok (.aload_n 0, 1) := by decide +kernel
theorem dX9_tenantOf_19 : decode cX9_tenantOf 19 = .ok (.getfield 18, 3) := by decide +kernel
theorem dX9_tenantOf_22 : decode cX9_tenantOf 22 = .ok (.iload 6, 2) := by decide +kernel
theorem dX9_tenantOf_24 : decode cX9_tenantOf 24 = .ok (.iaload, 1) := by decide +kernel
theorem dX9_tenantOf_25 : decode cX9_tenantOf 25 = .ok (.invokestatic 29, 3) := by decide +kernel
theorem dX9_tenantOf_28 : decode cX9_tenantOf 28 = .ok (.istore 7, 2) := by decide +kernel
theorem dX9_tenantOf_30 : decode cX9_tenantOf 30 = .ok (.aload_n 0, 1) := by decide +kernel
theorem dX9_tenantOf_31 : decode cX9_tenantOf 31 = .ok (.getfield 9, 3) := by decide +kernel
theorem dX9_tenantOf_34 : decode cX9_tenantOf 34 = .ok (.iload 6, 2) := by decide +kernel
theorem dX9_tenantOf_36 : decode cX9_tenantOf 36 = .ok (.iaload, 1) := by decide +kernel
theorem dX9_tenantOf_37 : decode cX9_tenantOf 37 = .ok (.iload_n 1, 1) := by decide +kernel
theorem dX9_tenantOf_38 : decode cX9_tenantOf 38 = .ok (.if_icmp .ne 54, 3) := by decide +kernel
theorem dX9_tenantOf_41 : decode cX9_tenantOf 41 = .ok (.aload_n 0, 1) := by decide +kernel
theorem dX9_tenantOf_42 : decode cX9_tenantOf 42 = .ok (.getfield 15, 3) := by decide +kernel
theorem dX9_tenantOf_45 : decode cX9_tenantOf 45 = .ok (.iload 6, 2) := by decide +kernel
theorem dX9_tenantOf_47 : decode cX9_tenantOf 47 = .ok (.iaload, 1) := by decide +kernel
theorem dX9_tenantOf_48 : decode cX9_tenantOf 48 = .ok (.iload_n 2, 1) := by decide +kernel
theorem dX9_tenantOf_49 : decode cX9_tenantOf 49 = .ok (.if_icmp .eq 43, 3) := by decide +kernel
theorem dX9_tenantOf_52 : decode cX9_tenantOf 52 = .ok (.iload 7, 2) := by decide +kernel
theorem dX9_tenantOf_54 : decode cX9_tenantOf 54 = .ok (.iload_n 3, 1) := by decide +kernel
theorem dX9_tenantOf_55 : decode cX9_tenantOf 55 = .ok (.if_icmp .lt 37, 3) := by decide +kernel
theorem dX9_tenantOf_58 : decode cX9_tenantOf 58 = .ok (.iload 7, 2) := by decide +kernel
theorem dX9_tenantOf_60 : decode cX9_tenantOf 60 = .ok (.iload 5, 2) := by decide +kernel
theorem dX9_tenantOf_62 : decode cX9_tenantOf 62 = .ok (.if_icmp .ge 6, 3) := by decide +kernel
theorem dX9_tenantOf_65 : decode cX9_tenantOf 65 = .ok (.goto 27, 3) := by decide +kernel
theorem dX9_tenantOf_68 : decode cX9_tenantOf 68 = .ok (.iload 7, 2) := by decide +kernel
theorem dX9_tenantOf_70 : decode cX9_tenantOf 70 = .ok (.iload 5, 2) := by decide +kernel
theorem dX9_tenantOf_72 : decode cX9_tenantOf 72 = .ok (.if_icmp .ne 7, 3) := by decide +kernel
theorem dX9_tenantOf_75 : decode cX9_tenantOf 75 = .ok (.iconst (-1), 1) := by decide +kernel
theorem dX9_tenantOf_76 : decode cX9_tenantOf 76 = .ok (.goto 10, 3) := by decide +kernel
theorem dX9_tenantOf_79 : decode cX9_tenantOf 79 = .ok (.aload_n 0, 1) := by decide +kernel
theorem dX9_tenantOf_80 : decode cX9_tenantOf 80 = .ok (.getfield 15, 3) := by decide +kernel
theorem dX9_tenantOf_83 : decode cX9_tenantOf 83 = .ok (.iload 6, 2) := by decide +kernel
theorem dX9_tenantOf_85 : decode cX9_tenantOf 85 = .ok (.iaload, 1) := by decide +kernel
theorem dX9_tenantOf_86 : decode cX9_tenantOf 86 = .ok (.istore 4, 2) := by decide +kernel
end
section
theorem dX9_tenantOf_88 : decode cX9_tenantOf 88 = .ok (.iload 7, 2) := by decide +kernel
theorem dX9_tenantOf_90 : decode cX9_tenantOf 90 = .ok (.istore 5, 2) := by decide +kernel
theorem dX9_tenantOf_92 : decode cX9_tenantOf 92 = .ok (.iinc 6 1, 3) := by decide +kernel
theorem dX9_tenantOf_95 : decode cX9_tenantOf 95 = .ok (.goto (-86), 3) := by decide +kernel
theorem dX9_tenantOf_98 : decode cX9_tenantOf 98 = .ok (.iload 4, 2) := by decide +kernel
theorem dX9_tenantOf_100 : decode cX9_tenantOf 100 = .ok (.ireturn, 1) := by decide +kernel
set_option maxRecDepth 20000 in
theorem ggX10_init_X4_init : GoodIn wsX10_init wsX4_init := goodIn_r _ [44, 45, 2, 3, 46, 47, 48, 49, 50, 122, 123, 124, 125, 126] (by decide +kernel) (by decide +kernel)
set_option maxRecDepth 20000 in
theorem gX10_init_X4_init_n9 : GoodIn wsX10_init (wsX4_init) := ggX10_init_X4_init
set_option maxRecDepth 20000 in
theorem ggX10_init_X2_init : GoodIn wsX10_init wsX2_init := goodIn_r _ [52, 53, 2, 3, 46, 54, 55, 56, 57, 58, 59, 60, 61, 62, 139, 140, 141, 142, 143, 144, 145, 146, 147, 148, 149, 150] (by decide +kernel) (by decide +kernel)
set_option maxRecDepth 20000 in
theorem gX10_init_X2_init_n18 : GoodIn wsX10_init (wsX2_init) := ggX10_init_X2_init
set_option maxRecDepth 20000 in
theorem ggX10_init_X8_init : GoodIn wsX10_init wsX8_init := goodIn_r _ [64, 65, 2, 3, 66, 67, 151, 152] (by decide +kernel) (by decide +kernel)
set_option maxRecDepth 20000 in
theorem gX10_init_X8_init_n25 : GoodIn wsX10_init (wsX8_init) := ggX10_init_X8_init
set_option maxRecDepth 20000 in
theorem ggX10_init_X5_init : GoodIn wsX10_init wsX5_init := goodIn_r _ [70, 71, 2, 3, 72, 73, 153, 154, 155, 156, 157] (by decide +kernel) (by decide +kernel)
set_option maxRecDepth 20000 in
theorem gX10_init_X5_init : GoodIn wsX10_init (wsX5_init) := ggX10_init_X5_init
set_option maxRecDepth 20000 in
theorem ggX10_init_X1_init : GoodIn wsX10_init wsX1_init := goodIn_r _ [75, 76, 2, 3, 46, 77, 78, 79, 80, 158, 159, 160, 161, 162, 163, 164, 165, 166, 167] (by decide +kernel) (by decide +kernel)
set_option maxRecDepth 20000 in
theorem gX10_init_X1_init_n45 : GoodIn wsX10_init (wsX1_init) := ggX10_init_X1_init
set_option maxRecDepth 20000 in
theorem ggX10_init_X9_init : GoodIn wsX10_init wsX9_init := goodIn_r _ [82, 83, 2, 3, 46, 84, 85, 86, 168, 169, 170, 171] (by decide +kernel) (by decide +kernel)
set_option maxRecDepth 20000 in
theorem gX10_init_X9_init_n52 : GoodIn wsX10_init (wsX9_init) := ggX10_init_X9_init
set_option maxRecDepth 20000 in
theorem ggX10_init_X0_init : GoodIn wsX10_init wsX0_init := goodIn_r _ [88, 89, 2, 3, 46, 90, 91, 92, 172, 173, 174] (by decide +kernel) (by decide +kernel)
set_option maxRecDepth 20000 in
theorem gX10_init_X0_init_n59 : GoodIn wsX10_init (wsX0_init) := ggX10_init_X0_init
set_option maxRecDepth 20000 in
theorem ggX10_init_X6_init : GoodIn wsX10_init wsX6_init := goodIn_r _ [94, 95, 2, 3, 46, 96, 97, 98, 99, 100, 175, 176, 177, 178, 179, 180, 181] (by decide +kernel) (by decide +kernel)
set_option maxRecDepth 20000 in
theorem gX10_init_X6_init_n66 : GoodIn wsX10_init (wsX6_init) := ggX10_init_X6_init
set_option maxRecDepth 20000 in
theorem ggX10_init_X3_init : GoodIn wsX10_init wsX3_init := goodIn_r _ [103, 104, 2, 3, 46, 105, 106, 107, 108, 40, 109, 110, 111, 112, 113, 114, 115, 116, 117, 118, 119, 120, 121, 182, 183, 184, 185, 186, 187, 188, 189, 190] (by decide +kernel) (by decide +kernel)
set_option maxRecDepth 20000 in
theorem gX10_init_X3_init : GoodIn wsX10_init (wsX3_init) := ggX10_init_X3_init
theorem dX10_init_0 : decode cX10_init 0 = .ok (.aload_n 0, 1) := by decide +kernel
theorem dX10_init_1 : decode cX10_init 1 = .ok (.invokespecial 1, 3) := by decide +kernel
theorem dX10_init_4 : decode cX10_init 4 = .ok (.aload_n 0, 1) := by decide +kernel
theorem dX10_init_5 : decode cX10_init 5 = .ok (.new 7, 3) := by decide +kernel
theorem dX10_init_8 : decode cX10_init 8 = .ok (.dup, 1) := by decide +kernel
theorem dX10_init_9 : decode cX10_init 9 = .ok (.invokespecial 9, 3) := by decide +kernel
theorem dX10_init_12 : decode cX10_init 12 = .ok (.putfield 10, 3) := by decide +kernel
theorem dX10_init_15 : decode cX10_init 15 = .ok (.aload_n 0, 1) := by decide +kernel
theorem dX10_init_16 : decode cX10_init 16 = .ok (.new 16, 3) := by decide +kernel
theorem dX10_init_19 : decode cX10_init 19 = .ok (.dup, 1) := by decide +kernel
theorem dX10_init_20 : decode cX10_init 20 = .ok (.invokespecial 18, 3) := by decide +kernel
theorem dX10_init_23 : decode cX10_init 23 = .ok (.putfield 19, 3) := by decide +kernel
theorem dX10_init_26 : decode cX10_init 26 = .ok (.aload_n 0, 1) := by decide +kernel
theorem dX10_init_27 : decode cX10_init 27 = .ok (.new 23, 3) := by decide +kernel
theorem dX10_init_30 : decode cX10_init 30 = .ok (.dup, 1) := by decide +kernel
theorem dX10_init_31 : decode cX10_init 31 = .ok (.invokespecial 25, 3) := by decide +kernel
theorem dX10_init_34 : decode cX10_init 34 = .ok (.putfield 26, 3) := by decide +kernel
theorem dX10_init_37 : decode cX10_init 37 = .ok (.aload_n 0, 1) := by decide +kernel
theorem dX10_init_38 : decode cX10_init 38 = .ok (.new 30, 3) := by decide +kernel
theorem dX10_init_41 : decode cX10_init 41 = .ok (.dup, 1) := by decide +kernel
theorem dX10_init_42 : decode cX10_init 42 = .ok (.aload_n 0, 1) := by decide +kernel
theorem dX10_init_43 : decode cX10_init 43 = .ok (.getfield 26, 3) := by decide +kernel
theorem dX10_init_46 : decode cX10_init 46 = .ok (.getfield 32, 3) := by decide +kernel
theorem dX10_init_49 : decode cX10_init 49 = .ok (.invokespecial 36, 3) := by decide +kernel
theorem dX10_init_52 : decode cX10_init 52 = .ok (.putfield 39, 3) := by decide +kernel
theorem dX10_init_55 : decode cX10_init 55 = .ok (.aload_n 0, 1) := by decide +kernel
theorem dX10_init_56 : decode cX10_init 56 = .ok (.new 43, 3) := by decide +kernel
theorem dX10_init_59 : decode cX10_init 59 = .ok (.dup, 1) := by decide +kernel
theorem dX10_init_60 : decode cX10_init 60 = .ok (.invokespecial 45, 3) := by decide +kernel
theorem dX10_init_63 : decode cX10_init 63 = .ok (.putfield 46, 3) := by decide +kernel
theorem dX10_init_66 : decode cX10_init 66 = .ok (.aload_n 0, 1) := by decide +kernel
theorem dX10_init_67 : decode cX10_init 67 = .ok (.new 50, 3) := by decide +kernel
theorem dX10_init_70 : decode cX10_init 70 = .ok (.dup, 1) := by decide +kernel
theorem dX10_init_71 : decode cX10_init 71 = .ok (.invokespecial 52, 3) := by decide +kernel
theorem dX10_init_74 : decode cX10_init 74 = .ok (.putfield 53, 3) := by decide +kernel
theorem dX10_init_77 : decode cX10_init 77 = .ok (.aload_n 0, 1) := by decide +kernel
theorem dX10_init_78 : decode cX10_init 78 = .ok (.new 57, 3) := by decide +kernel
theorem dX10_init_81 : decode cX10_init 81 = .ok (.dup, 1) := by decide +kernel
theorem dX10_init_82 : decode cX10_init 82 = .ok (.invokespecial 59, 3) := by decide +kernel
theorem dX10_init_85 : decode cX10_init 85 = .ok (.putfield 60, 3) := by decide +kernel
theorem dX10_init_88 : decode cX10_init 88 = .ok (.aload_n 0, 1) := by decide +kernel
theorem dX10_init_89 : decode cX10_init 89 = .ok (.new 64, 3) := by decide +kernel
theorem dX10_init_92 : decode cX10_init 92 = .ok (.dup, 1) := by decide +kernel
theorem dX10_init_93 : decode cX10_init 93 = .ok (.invokespecial 66, 3) := by decide +kernel
theorem dX10_init_96 : decode cX10_init 96 = .ok (.putfield 67, 3) := by decide +kernel
theorem dX10_init_99 : decode cX10_init 99 = .ok (.aload_n 0, 1) := by decide +kernel
theorem dX10_init_100 : decode cX10_init 100 = .ok (.bipush 20, 2) := by decide +kernel
theorem dX10_init_102 : decode cX10_init 102 = .ok (.anewarray 71, 3) := by decide +kernel
theorem dX10_init_105 : decode cX10_init 105 = .ok (.putfield 73, 3) := by decide +kernel
theorem dX10_init_108 : decode cX10_init 108 = .ok (.aload_n 0, 1) := by decide +kernel
theorem dX10_init_109 : decode cX10_init 109 = .ok (.new 77, 3) := by decide +kernel
theorem dX10_init_112 : decode cX10_init 112 = .ok (.dup, 1) := by decide +kernel
theorem dX10_init_113 : decode cX10_init 113 = .ok (.invokespecial 79, 3) := by decide +kernel
theorem dX10_init_116 : decode cX10_init 116 = .ok (.putfield 80, 3) := by decide +kernel
theorem dX10_init_119 : decode cX10_init 119 = .ok (.aload_n 0, 1) := by decide +kernel
theorem dX10_init_120 : decode cX10_init 120 = .ok (.new 77, 3) := by decide +kernel
theorem dX10_init_123 : decode cX10_init 123 = .ok (.dup, 1) := by decide +kernel
theorem dX10_init_124 : decode cX10_init 124 = .ok (.invokespecial 79, 3) := by decide +kernel
theorem dX10_init_127 : decode cX10_init 127 = .ok (.putfield 84, 3) := by decide +kernel
theorem dX10_init_130 : decode cX10_init 130 = .ok (.return_, 1) := by decide +kernel
set_option maxRecDepth 20000 in
theorem ggX10_person_X10_isBelow : GoodIn wsX10_person wsX10_isBelow := goodIn_r _ [5] (by decide +kernel) (by decide +kernel)
set_option maxRecDepth 20000 in
theorem gX10_person_X10_isBelow : GoodIn wsX10_person (va_wsS RX10 87 yX10_isBelow wsX10_isBelow) := goodIn_app (goodIn_of _ (by decide +kernel)) ggX10_person_X10_isBelow
set_option maxRecDepth 20000 in
theorem ggX10_person_X4_add : GoodIn wsX10_person wsX4_add := goodIn_r _ [10, 11, 12, 13, 26, 27, 28, 29, 30] (by decide +kernel) (by decide +kernel)
set_option maxRecDepth 20000 in
theorem gX10_person_X4_add : GoodIn wsX10_person (wsV RX10 91 RX4 yX4_add wsX4_add) := goodIn_app (goodIn_of _ (by decide +kernel)) ggX10_person_X4_add
theorem dX10_person_0 : decode cX10_person 0 = .ok (.iload_n 1, 1) := by decide +kernel
theorem dX10_person_1 : decode cX10_person 1 = .ok (.bipush 20, 2) := by decide +kernel
theorem dX10_person_3 : decode cX10_person 3 = .ok (.invokestatic 87, 3) := by decide +kernel
theorem dX10_person_6 : decode cX10_person 6 = .ok (.ifCond .eq 12, 3) := by decide +kernel
theorem dX10_person_9 : decode cX10_person 9 = .ok (.iload_n 2, 1) := by decide +kernel
theorem dX10_person_10 : decode cX10_person 10 = .ok (.bipush 100, 2) := by decide +kernel
theorem dX10_person_12 : decode cX10_person 12 = .ok (.invokestatic 87, 3) := by decide +kernel
theorem dX10_person_15 : decode cX10_person 15 = .ok (.ifCond .ne 5, 3) := by decide +kernel
theorem dX10_person_18 : decode cX10_person 18 = .ok (.iconst (-1), 1) := by decide +kernel
theorem dX10_person_19 : decode cX10_person 19 = .ok (.ireturn, 1) := by decide +kernel
theorem dX10_person_20 : decode cX10_person 20 = .ok (.aload_n 0, 1) := by decide +kernel
theorem dX10_person_21 : decode cX10_person 21 = .ok (.getfield 10, 3) := by decide +kernel
theorem dX10_person_24 : decode cX10_person 24 = .ok (.iload_n 1, 1) := by decide +kernel
theorem dX10_person_25 : decode cX10_person 25 = .ok (.iload_n 2, 1) := by decide +kernel
theorem dX10_person_26 : decode cX10_person 26 = .ok (.invokevirtual 91, 3) := by decide +kernel
theorem dX10_person_29 : decode cX10_person 29 = .ok (.ireturn, 1) := by decide +kernel
set_option maxRecDepth 20000 in
theorem ggX10_akin_X4_bind : GoodIn wsX10_akin wsX4_bind := goodIn_r _ [6, 7, 8, 9, 10, 11, 5, 12, 13, 14, 15, 16, 17, 18, 19, 20, 33, 34, 35, 36, 37] (by decide +kernel) (by decide +kernel)
set_option maxRecDepth 20000 in
theorem gX10_akin_X4_bind : GoodIn wsX10_akin (wsV RX10 95 RX4 yX4_bind wsX4_bind) := goodIn_app (goodIn_of _ (by decide +kernel)) ggX10_akin_X4_bind
theorem dX10_akin_0 : decode cX10_akin 0 = .ok (.aload_n 0, 1) := by decide +kernel
theorem dX10_akin_1 : decode cX10_akin 1 = .ok (.getfield 10, 3) := by decide +kernel
theorem dX10_akin_4 : decode cX10_akin 4 = .ok (.iload_n 1, 1) := by decide +kernel
theorem dX10_akin_5 : decode cX10_akin 5 = .ok (.iload_n 2, 1) := by decide +kernel
theorem dX10_akin_6 : decode cX10_akin 6 = .ok (.invokevirtual 95, 3) := by decide +kernel
theorem dX10_akin_9 : decode cX10_akin 9 = .ok (.ireturn, 1) := by decide +kernel
set_option maxRecDepth 20000 in
theorem ggX10_field_X10_isBelow : GoodIn wsX10_field wsX10_isBelow := goodIn_r _ [6] (by decide +kernel) (by decide +kernel)
set_option maxRecDepth 20000 in
theorem gX10_field_X10_isBelow : GoodIn wsX10_field (va_wsS RX10 87 yX10_isBelow wsX10_isBelow) := goodIn_app (goodIn_of _ (by decide +kernel)) ggX10_field_X10_isBelow
set_option maxRecDepth 20000 in
theorem ggX10_field_X4_has : GoodIn wsX10_field wsX4_has := goodIn_r _ [11, 12, 4, 5, 6, 37, 38, 39, 40, 41] (by decide +kernel) (by decide +kernel)
set_option maxRecDepth 20000 in
theorem gX10_field_X4_has : GoodIn wsX10_field (wsV RX10 98 RX4 yX4_has wsX4_has) := goodIn_app (goodIn_of _ (by decide +kernel)) ggX10_field_X4_has
set_option maxRecDepth 20000 in
theorem ggX10_field_X2_add : GoodIn wsX10_field wsX2_add := goodIn_r _ [17, 18, 19, 20, 21, 22, 23, 24, 42, 43, 44, 45, 46, 47, 48, 49, 50, 51, 52, 53] (by decide +kernel) (by decide +kernel)
set_option maxRecDepth 20000 in
theorem gX10_field_X2_add : GoodIn wsX10_field (wsV RX10 102 RX2 yX2_add wsX2_add) := goodIn_app (goodIn_of _ (by decide +kernel)) ggX10_field_X2_add
theorem dX10_field_0 : decode cX10_field 0 = .ok (.iload_n 1, 1) := by decide +kernel
theorem dX10_field_1 : decode cX10_field 1 = .ok (.bipush 100, 2) := by decide +kernel
theorem dX10_field_3 : decode cX10_field 3 = .ok (.invokestatic 87, 3) := by decide +kernel
theorem dX10_field_6 : decode cX10_field 6 = .ok (.ifCond .eq 48, 3) := by decide +kernel
theorem dX10_field_9 : decode cX10_field 9 = .ok (.iload_n 2, 1) := by decide +kernel
theorem dX10_field_10 : decode cX10_field 10 = .ok (.iconst 1, 1) := by decide +kernel
theorem dX10_field_11 : decode cX10_field 11 = .ok (.if_icmp .lt 43, 3) := by decide +kernel
theorem dX10_field_14 : decode cX10_field 14 = .ok (.iload_n 2, 1) := by decide +kernel
theorem dX10_field_15 : decode cX10_field 15 = .ok (.bipush 100, 2) := by decide +kernel
theorem dX10_field_17 : decode cX10_field 17 = .ok (.if_icmp .gt 37, 3) := by decide +kernel
theorem dX10_field_20 : decode cX10_field 20 = .ok (.iload_n 3, 1) := by decide +kernel
theorem dX10_field_21 : decode cX10_field 21 = .ok (.iconst 4, 1) := by decide +kernel
theorem dX10_field_22 : decode cX10_field 22 = .ok (.invokestatic 87, 3) := by decide +kernel
theorem dX10_field_25 : decode cX10_field 25 = .ok (.ifCond .eq 29, 3) := by decide +kernel
theorem dX10_field_28 : decode cX10_field 28 = .ok (.iload 4, 2) := by decide +kernel
theorem dX10_field_30 : decode cX10_field 30 = .ok (.bipush 10, 2) := by decide +kernel
theorem dX10_field_32 : decode cX10_field 32 = .ok (.invokestatic 87, 3) := by decide +kernel
theorem dX10_field_35 : decode cX10_field 35 = .ok (.ifCond .eq 19, 3) := by decide +kernel
theorem dX10_field_38 : decode cX10_field 38 = .ok (.aload_n 0, 1) := by decide +kernel
theorem dX10_field_39 : decode cX10_field 39 = .ok (.getfield 10, 3) := by decide +kernel
theorem dX10_field_42 : decode cX10_field 42 = .ok (.iload 5, 2) := by decide +kernel
theorem dX10_field_44 : decode cX10_field 44 = .ok (.invokevirtual 98, 3) := by decide +kernel
theorem dX10_field_47 : decode cX10_field 47 = .ok (.ifCond .eq 7, 3) := by decide +kernel
theorem dX10_field_50 : decode cX10_field 50 = .ok (.iconst 1, 1) := by decide +kernel
theorem dX10_field_51 : decode cX10_field 51 = .ok (.goto 4, 3) := by decide +kernel
theorem dX10_field_54 : decode cX10_field 54 = .ok (.iconst 0, 1) := by decide +kernel
theorem dX10_field_55 : decode cX10_field 55 = .ok (.istore 6, 2) := by decide +kernel
theorem dX10_field_57 : decode cX10_field 57 = .ok (.iload 6, 2) := by decide +kernel
theorem dX10_field_59 : decode cX10_field 59 = .ok (.ifCond .eq 20, 3) := by decide +kernel
theorem dX10_field_62 : decode cX10_field 62 = .ok (.aload_n 0, 1) := by decide +kernel
theorem dX10_field_63 : decode cX10_field 63 = .ok (.getfield 19, 3) := by decide +kernel
theorem dX10_field_66 : decode cX10_field 66 = .ok (.iload_n 1, 1) := by decide +kernel
theorem dX10_field_67 : decode cX10_field 67 = .ok (.iload_n 2, 1) := by decide +kernel
theorem dX10_field_68 : decode cX10_field 68 = .ok (.iload_n 3, 1) := by decide +kernel
theorem dX10_field_69 : decode cX10_field 69 = .ok (.iload 4, 2) := by decide +kernel
theorem dX10_field_71 : decode cX10_field 71 = .ok (.iload 5, 2) := by decide +kernel
theorem dX10_field_73 : decode cX10_field 73 = .ok (.invokevirtual 102, 3) := by decide +kernel
theorem dX10_field_76 : decode cX10_field 76 = .ok (.goto 4, 3) := by decide +kernel
theorem dX10_field_79 : decode cX10_field 79 = .ok (.iconst (-1), 1) := by decide +kernel
theorem dX10_field_80 : decode cX10_field 80 = .ok (.ireturn, 1) := by decide +kernel
theorem dX10_day_0 : decode cX10_day 0 = .ok (.iload_n 1, 1) := by decide +kernel
theorem dX10_day_1 : decode cX10_day 1 = .ok (.aload_n 0, 1) := by decide +kernel
theorem dX10_day_2 : decode cX10_day 2 = .ok (.getfield 19, 3) := by decide +kernel
theorem dX10_day_5 : decode cX10_day 5 = .ok (.getfield 105, 3) := by decide +kernel
theorem dX10_day_8 : decode cX10_day 8 = .ok (.if_icmp .le 10, 3) := by decide +kernel
theorem dX10_day_11 : decode cX10_day 11 = .ok (.iload_n 1, 1) := by decide +kernel
theorem dX10_day_12 : decode cX10_day 12 = .ok (.sipush 1000, 3) := by decide +kernel
theorem dX10_day_15 : decode cX10_day 15 = .ok (.if_icmp .le 5, 3) := by decide +kernel
theorem dX10_day_18 : decode cX10_day 18 = .ok (.iconst 0, 1) := by decide +kernel
theorem dX10_day_19 : decode cX10_day 19 = .ok (.ireturn, 1) := by decide +kernel
theorem dX10_day_20 : decode cX10_day 20 = .ok (.aload_n 0, 1) := by decide +kernel
theorem dX10_day_21 : decode cX10_day 21 = .ok (.getfield 19, 3) := by decide +kernel
theorem dX10_day_24 : decode cX10_day 24 = .ok (.iload_n 1, 1) := by decide +kernel
theorem dX10_day_25 : decode cX10_day 25 = .ok (.putfield 105, 3) := by decide +kernel
theorem dX10_day_28 : decode cX10_day 28 = .ok (.iconst 1, 1) := by decide +kernel
theorem dX10_day_29 : decode cX10_day 29 = .ok (.ireturn, 1) := by decide +kernel
set_option maxRecDepth 20000 in
theorem ggX10_transfer_X2_has : GoodIn wsX10_transfer wsX2_has := goodIn_r _ [7, 8, 9, 10, 11, 49, 50, 51, 52, 53, 54, 55, 56, 57, 58, 59, 60] (by decide +kernel) (by decide +kernel)
set_option maxRecDepth 20000 in
theorem gX10_transfer_X2_has : GoodIn wsX10_transfer (wsV RX10 109 RX2 yX2_has wsX2_has) := goodIn_app (goodIn_of _ (by decide +kernel)) ggX10_transfer_X2_has
set_option maxRecDepth 20000 in
theorem ggX10_transfer_X4_has : GoodIn wsX10_transfer wsX4_has := goodIn_r _ [16, 17, 9, 10, 11, 61, 62, 63, 64, 65] (by decide +kernel) (by decide +kernel)
set_option maxRecDepth 20000 in
theorem gX10_transfer_X4_has : GoodIn wsX10_transfer (wsV RX10 98 RX4 yX4_has wsX4_has) := goodIn_app (goodIn_of _ (by decide +kernel)) ggX10_transfer_X4_has
set_option maxRecDepth 20000 in
theorem ggX10_transfer_X2_ownerOf : GoodIn wsX10_transfer wsX2_ownerOf := goodIn_r _ [21, 22, 23, 4, 5, 6, 7, 8, 9, 10, 11, 49, 50, 51, 52, 53, 54, 55, 56, 57, 58, 59, 60] (by decide +kernel) (by decide +kernel)
set_option maxRecDepth 20000 in
theorem gX10_transfer_X2_ownerOf : GoodIn wsX10_transfer (wsV RX10 110 RX2 yX2_ownerOf wsX2_ownerOf) := goodIn_app (goodIn_of _ (by decide +kernel)) ggX10_transfer_X2_ownerOf
set_option maxRecDepth 20000 in
theorem ggX10_transfer_X2_transfersLeft : GoodIn wsX10_transfer wsX2_transfersLeft := goodIn_r _ [27, 28, 49, 50, 51, 52, 53, 54, 55, 56, 57, 58, 59, 60] (by decide +kernel) (by decide +kernel)
set_option maxRecDepth 20000 in
theorem gX10_transfer_X2_transfersLeft : GoodIn wsX10_transfer (wsV RX10 114 RX2 yX2_transfersLeft wsX2_transfersLeft) := goodIn_app (goodIn_of _ (by decide +kernel)) ggX10_transfer_X2_transfersLeft
set_option maxRecDepth 20000 in
theorem ggX10_transfer_X2_move : GoodIn wsX10_transfer wsX2_move := goodIn_r _ [32, 28, 33, 34, 35, 36, 22, 23, 4, 5, 6, 7, 8, 9, 10, 11, 49, 50, 51, 52, 53, 54, 55, 56, 57, 58, 59, 60] (by decide +kernel) (by decide +kernel)
set_option maxRecDepth 20000 in
theorem gX10_transfer_X2_move : GoodIn wsX10_transfer (wsV RX10 118 RX2 yX2_move wsX2_move) := goodIn_app (goodIn_of _ (by decide +kernel)) ggX10_transfer_X2_move
theorem dX10_transfer_0 : decode cX10_transfer 0 = .ok (.aload_n 0, 1) := by decide +kernel
theorem dX10_transfer_1 : decode cX10_transfer 1 = .ok (.getfield 19, 3) := by decide +kernel
theorem dX10_transfer_4 : decode cX10_transfer 4 = .ok (.iload_n 1, 1) := by decide +kernel
theorem dX10_transfer_5 : decode cX10_transfer 5 = .ok (.invokevirtual 109, 3) := by decide +kernel
theorem dX10_transfer_8 : decode cX10_transfer 8 = .ok (.ifCond .eq 37, 3) := by decide +kernel
theorem dX10_transfer_11 : decode cX10_transfer 11 = .ok (.aload_n 0, 1) := by decide +kernel
theorem dX10_transfer_12 : decode cX10_transfer 12 = .ok (.getfield 10, 3) := by decide +kernel
theorem dX10_transfer_15 : decode cX10_transfer 15 = .ok (.iload_n 2, 1) := by decide +kernel
theorem dX10_transfer_16 : decode cX10_transfer 16 = .ok (.invokevirtual 98, 3) := by decide +kernel
theorem dX10_transfer_19 : decode cX10_transfer 19 = .ok (.ifCond .eq 26, 3) := by decide +kernel
theorem dX10_transfer_22 : decode cX10_transfer 22 = .ok (.aload_n 0, 1) := by decide +kernel
theorem dX10_transfer_23 : decode cX10_transfer 23 = .ok (.getfield 19, 3) := by decide +kernel
theorem dX10_transfer_26 : decode cX10_transfer 26 = .ok (.iload_n 1, 1) := by decide +kernel
theorem dX10_transfer_27 : decode cX10_transfer 27 = .ok (.invokevirtual 110, 3) := by decide +kernel
theorem dX10_transfer_30 : decode cX10_transfer 30 = .ok (.iload_n 2, 1) := by decide +kernel
theorem dX10_transfer_31 : decode cX10_transfer 31 = .ok (.if_icmp .eq 14, 3) := by decide +kernel
theorem dX10_transfer_34 : decode cX10_transfer 34 = .ok (.aload_n 0, 1) := by decide +kernel
theorem dX10_transfer_35 : decode cX10_transfer 35 = .ok (.getfield 19, 3) := by decide +kernel
theorem dX10_transfer_38 : decode cX10_transfer 38 = .ok (.invokevirtual 114, 3) := by decide +kernel
theorem dX10_transfer_41 : decode cX10_transfer 41 = .ok (.iconst 1, 1) := by decide +kernel
theorem dX10_transfer_42 : decode cX10_transfer 42 = .ok (.if_icmp .ge 5, 3) := by decide +kernel
theorem dX10_transfer_45 : decode cX10_transfer 45 = .ok (.iconst 0, 1) := by decide +kernel
theorem dX10_transfer_46 : decode cX10_transfer 46 = .ok (.ireturn, 1) := by decide +kernel
theorem dX10_transfer_47 : decode cX10_transfer 47 = .ok (.aload_n 0, 1) := by decide +kernel
theorem dX10_transfer_48 : decode cX10_transfer 48 = .ok (.getfield 19, 3) := by decide +kernel
theorem dX10_transfer_51 : decode cX10_transfer 51 = .ok (.iload_n 1, 1) := by decide +kernel
theorem dX10_transfer_52 : decode cX10_transfer 52 = .ok (.iload_n 2, 1) := by decide +kernel
theorem dX10_transfer_53 : decode cX10_transfer 53 = .ok (.invokevirtual 118, 3) := by decide +kernel
theorem dX10_transfer_56 : decode cX10_transfer 56 = .ok (.iconst 1, 1) := by decide +kernel
theorem dX10_transfer_57 : decode cX10_transfer 57 = .ok (.ireturn, 1) := by decide +kernel
set_option maxRecDepth 20000 in
theorem ggX10_feed_X8_room : GoodIn wsX10_feed wsX8_room := goodIn_r _ [6, 7, 25, 26] (by decide +kernel) (by decide +kernel)
set_option maxRecDepth 20000 in
theorem gX10_feed_X8_room : GoodIn wsX10_feed (wsV RX10 122 RX8 yX8_room wsX8_room) := goodIn_app (goodIn_of _ (by decide +kernel)) ggX10_feed_X8_room
set_option maxRecDepth 20000 in
theorem ggX10_feed_X8_append : GoodIn wsX10_feed wsX8_append := goodIn_r _ [11, 7, 12, 25, 26] (by decide +kernel) (by decide +kernel)
set_option maxRecDepth 20000 in
theorem gX10_feed_X8_append : GoodIn wsX10_feed (wsV RX10 125 RX8 yX8_append wsX8_append) := goodIn_app (goodIn_of _ (by decide +kernel)) ggX10_feed_X8_append
theorem dX10_feed_0 : decode cX10_feed 0 = .ok (.aload_n 0, 1) := by decide +kernel
theorem dX10_feed_1 : decode cX10_feed 1 = .ok (.getfield 26, 3) := by decide +kernel
theorem dX10_feed_4 : decode cX10_feed 4 = .ok (.invokevirtual 122, 3) := by decide +kernel
theorem dX10_feed_7 : decode cX10_feed 7 = .ok (.bipush 20, 2) := by decide +kernel
theorem dX10_feed_9 : decode cX10_feed 9 = .ok (.if_icmp .ge 5, 3) := by decide +kernel
theorem dX10_feed_12 : decode cX10_feed 12 = .ok (.iconst (-1), 1) := by decide +kernel
theorem dX10_feed_13 : decode cX10_feed 13 = .ok (.ireturn, 1) := by decide +kernel
theorem dX10_feed_14 : decode cX10_feed 14 = .ok (.aload_n 0, 1) := by decide +kernel
theorem dX10_feed_15 : decode cX10_feed 15 = .ok (.getfield 26, 3) := by decide +kernel
theorem dX10_feed_18 : decode cX10_feed 18 = .ok (.iload_n 1, 1) := by decide +kernel
theorem dX10_feed_19 : decode cX10_feed 19 = .ok (.invokevirtual 125, 3) := by decide +kernel
theorem dX10_feed_22 : decode cX10_feed 22 = .ok (.aload_n 0, 1) := by decide +kernel
theorem dX10_feed_23 : decode cX10_feed 23 = .ok (.getfield 26, 3) := by decide +kernel
theorem dX10_feed_26 : decode cX10_feed 26 = .ok (.iload_n 2, 1) := by decide +kernel
theorem dX10_feed_27 : decode cX10_feed 27 = .ok (.invokevirtual 125, 3) := by decide +kernel
theorem dX10_feed_30 : decode cX10_feed 30 = .ok (.aload_n 0, 1) := by decide +kernel
theorem dX10_feed_31 : decode cX10_feed 31 = .ok (.getfield 26, 3) := by decide +kernel
theorem dX10_feed_34 : decode cX10_feed 34 = .ok (.iload_n 3, 1) := by decide +kernel
theorem dX10_feed_35 : decode cX10_feed 35 = .ok (.invokevirtual 125, 3) := by decide +kernel
theorem dX10_feed_38 : decode cX10_feed 38 = .ok (.aload_n 0, 1) := by decide +kernel
theorem dX10_feed_39 : decode cX10_feed 39 = .ok (.getfield 26, 3) := by decide +kernel
theorem dX10_feed_42 : decode cX10_feed 42 = .ok (.iload 4, 2) := by decide +kernel
theorem dX10_feed_44 : decode cX10_feed 44 = .ok (.invokevirtual 125, 3) := by decide +kernel
theorem dX10_feed_47 : decode cX10_feed 47 = .ok (.aload_n 0, 1) := by decide +kernel
theorem dX10_feed_48 : decode cX10_feed 48 = .ok (.getfield 26, 3) := by decide +kernel
theorem dX10_feed_51 : decode cX10_feed 51 = .ok (.iload 5, 2) := by decide +kernel
theorem dX10_feed_53 : decode cX10_feed 53 = .ok (.invokevirtual 125, 3) := by decide +kernel
theorem dX10_feed_56 : decode cX10_feed 56 = .ok (.aload_n 0, 1) := by decide +kernel
theorem dX10_feed_57 : decode cX10_feed 57 = .ok (.getfield 26, 3) := by decide +kernel
theorem dX10_feed_60 : decode cX10_feed 60 = .ok (.getfield 129, 3) := by decide +kernel
theorem dX10_feed_63 : decode cX10_feed 63 = .ok (.ireturn, 1) := by decide +kernel
set_option maxRecDepth 20000 in
theorem ggX10_act_X5_readAct : GoodIn wsX10_act wsX5_readAct := goodIn_r _ [9, 10, 11, 12, 13, 14, 15, 16, 17, 18, 19, 20, 21, 22, 23, 24, 25, 26, 27, 28, 29, 30, 31, 32, 33, 34, 35, 36, 37, 38, 8, 39, 40, 41, 42, 43, 44, 45, 46, 47, 48, 49, 50, 51, 52, 53, 54, 55, 56, 57, 58, 59, 60, 61, 62, 63, 64, 65, 66, 67, 68, 69, 70, 71, 72, 73, 74, 75, 76, 77, 78, 79, 80, 81, 82, 83, 84, 85, 86, 87, 88, 89, 90, 91, 92, 93, 94, 95, 96, 97, 98, 99, 100, 101, 102, 103, 104, 105, 106, 107, 108, 109, 110, 111, 112, 113, 114, 115, 116, 117, 118, 119, 120, 121, 122, 123, 124, 125, 126, 127, 151, 152, 153, 154, 155, 142, 143, 144, 145, 146, 147, 148, 149, 150] (by decide +kernel) (by decide +kernel)
set_option maxRecDepth 20000 in
theorem gX10_act_X5_readAct : GoodIn wsX10_act (wsV RX10 132 RX5 yX5_readAct wsX5_readAct) := goodIn_app (goodIn_of _ (by decide +kernel)) ggX10_act_X5_readAct
theorem dX10_act_0 : decode cX10_act 0 = .ok (.iload_n 1, 1) := by decide +kernel
theorem dX10_act_1 : decode cX10_act 1 = .ok (.ifCond .lt 14, 3) := by decide +kernel
theorem dX10_act_4 : decode cX10_act 4 = .ok (.iload_n 1, 1) := by decide +kernel
theorem dX10_act_5 : decode cX10_act 5 = .ok (.aload_n 0, 1) := by decide +kernel
theorem dX10_act_6 : decode cX10_act 6 = .ok (.getfield 26, 3) := by decide +kernel
theorem dX10_act_9 : decode cX10_act 9 = .ok (.getfield 129, 3) := by decide +kernel
theorem dX10_act_12 : decode cX10_act 12 = .ok (.if_icmp .le 6, 3) := by decide +kernel
theorem dX10_act_15 : decode cX10_act 15 = .ok (.bipush (-2), 2) := by decide +kernel
theorem dX10_act_17 : decode cX10_act 17 = .ok (.ireturn, 1) := by decide +kernel
theorem dX10_act_18 : decode cX10_act 18 = .ok (.aload_n 0, 1) := by decide +kernel
theorem dX10_act_19 : decode cX10_act 19 = .ok (.getfield 39, 3) := by decide +kernel
theorem dX10_act_22 : decode cX10_act 22 = .ok (.iload_n 1, 1) := by decide +kernel
theorem dX10_act_23 : decode cX10_act 23 = .ok (.aload_n 0, 1) := by decide +kernel
theorem dX10_act_24 : decode cX10_act 24 = .ok (.getfield 84, 3) := by decide +kernel
theorem dX10_act_27 : decode cX10_act 27 = .ok (.invokevirtual 132, 3) := by decide +kernel
theorem dX10_act_30 : decode cX10_act 30 = .ok (.istore_n 2, 1) := by decide +kernel
theorem dX10_act_31 : decode cX10_act 31 = .ok (.aload_n 0, 1) := by decide +kernel
theorem dX10_act_32 : decode cX10_act 32 = .ok (.getfield 26, 3) := by decide +kernel
theorem dX10_act_35 : decode cX10_act 35 = .ok (.iconst 0, 1) := by decide +kernel
theorem dX10_act_36 : decode cX10_act 36 = .ok (.putfield 129, 3) := by decide +kernel
theorem dX10_act_39 : decode cX10_act 39 = .ok (.iload_n 2, 1) := by decide +kernel
theorem dX10_act_40 : decode cX10_act 40 = .ok (.ifCond .ne 5, 3) := by decide +kernel
theorem dX10_act_43 : decode cX10_act 43 = .ok (.iconst (-1), 1) := by decide +kernel
theorem dX10_act_44 : decode cX10_act 44 = .ok (.ireturn, 1) := by decide +kernel
theorem dX10_act_45 : decode cX10_act 45 = .ok (.aload_n 0, 1) := by decide +kernel
theorem dX10_act_46 : decode cX10_act 46 = .ok (.getfield 80, 3) := by decide +kernel
theorem dX10_act_49 : decode cX10_act 49 = .ok (.astore_n 3, 1) := by decide +kernel
theorem dX10_act_50 : decode cX10_act 50 = .ok (.aload_n 0, 1) := by decide +kernel
theorem dX10_act_51 : decode cX10_act 51 = .ok (.aload_n 0, 1) := by decide +kernel
theorem dX10_act_52 : decode cX10_act 52 = .ok (.getfield 84, 3) := by decide +kernel
theorem dX10_act_55 : decode cX10_act 55 = .ok (.putfield 80, 3) := by decide +kernel
theorem dX10_act_58 : decode cX10_act 58 = .ok (.aload_n 0, 1) := by decide +kernel
theorem dX10_act_59 : decode cX10_act 59 = .ok (.aload_n 3, 1) := by decide +kernel
theorem dX10_act_60 : decode cX10_act 60 = .ok (.putfield 84, 3) := by decide +kernel
theorem dX10_act_63 : decode cX10_act 63 = .ok (.aload_n 0, 1) := by decide +kernel
theorem dX10_act_64 : decode cX10_act 64 = .ok (.getfield 80, 3) := by decide +kernel
theorem dX10_act_67 : decode cX10_act 67 = .ok (.getfield 136, 3) := by decide +kernel
theorem dX10_act_70 : decode cX10_act 70 = .ok (.ireturn, 1) := by decide +kernel
theorem dX10_fault_0 : decode cX10_fault 0 = .ok (.aload_n 0, 1) := by decide +kernel
theorem dX10_fault_1 : decode cX10_fault 1 = .ok (.getfield 39, 3) := by decide +kernel
theorem dX10_fault_4 : decode cX10_fault 4 = .ok (.getfield 139, 3) := by decide +kernel
theorem dX10_fault_7 : decode cX10_fault 7 = .ok (.ireturn, 1) := by decide +kernel
set_option maxRecDepth 20000 in
theorem ggX10_told_X2_has : GoodIn wsX10_told wsX2_has := goodIn_r _ [10, 11, 12, 13, 14, 135, 136, 137, 138, 139, 140, 141, 142, 143, 144, 145, 146] (by decide +kernel) (by decide +kernel)
set_option maxRecDepth 20000 in
theorem gX10_told_X2_has : GoodIn wsX10_told (wsV RX10 109 RX2 yX2_has wsX2_has) := goodIn_app (goodIn_of _ (by decide +kernel)) ggX10_told_X2_has
set_option maxRecDepth 20000 in
theorem ggX10_told_X2_placeOf : GoodIn wsX10_told wsX2_placeOf := goodIn_r _ [18, 19, 20, 7, 8, 9, 10, 11, 12, 13, 14, 135, 136, 137, 138, 139, 140, 141, 142, 143, 144, 145, 146] (by decide +kernel) (by decide +kernel)
set_option maxRecDepth 20000 in
theorem gX10_told_X2_placeOf : GoodIn wsX10_told (wsV RX10 142 RX2 yX2_placeOf wsX2_placeOf) := goodIn_app (goodIn_of _ (by decide +kernel)) ggX10_told_X2_placeOf
set_option maxRecDepth 20000 in
theorem ggX10_told_X2_areaOf : GoodIn wsX10_told wsX2_areaOf := goodIn_r _ [24, 25, 20, 7, 8, 9, 10, 11, 12, 13, 14, 135, 136, 137, 138, 139, 140, 141, 142, 143, 144, 145, 146] (by decide +kernel) (by decide +kernel)
set_option maxRecDepth 20000 in
theorem gX10_told_X2_areaOf : GoodIn wsX10_told (wsV RX10 145 RX2 yX2_areaOf wsX2_areaOf) := goodIn_app (goodIn_of _ (by decide +kernel)) ggX10_told_X2_areaOf
set_option maxRecDepth 20000 in
theorem ggX10_told_X2_soilOf : GoodIn wsX10_told wsX2_soilOf := goodIn_r _ [29, 30, 20, 7, 8, 9, 10, 11, 12, 13, 14, 135, 136, 137, 138, 139, 140, 141, 142, 143, 144, 145, 146] (by decide +kernel) (by decide +kernel)
set_option maxRecDepth 20000 in
theorem gX10_told_X2_soilOf : GoodIn wsX10_told (wsV RX10 148 RX2 yX2_soilOf wsX2_soilOf) := goodIn_app (goodIn_of _ (by decide +kernel)) ggX10_told_X2_soilOf
set_option maxRecDepth 20000 in
theorem ggX10_told_X2_cropOf : GoodIn wsX10_told wsX2_cropOf := goodIn_r _ [34, 35, 20, 7, 8, 9, 10, 11, 12, 13, 14, 135, 136, 137, 138, 139, 140, 141, 142, 143, 144, 145, 146] (by decide +kernel) (by decide +kernel)
set_option maxRecDepth 20000 in
theorem gX10_told_X2_cropOf : GoodIn wsX10_told (wsV RX10 151 RX2 yX2_cropOf wsX2_cropOf) := goodIn_app (goodIn_of _ (by decide +kernel)) ggX10_told_X2_cropOf
set_option maxRecDepth 20000 in
theorem ggX10_told_X2_ownerOf : GoodIn wsX10_told wsX2_ownerOf := goodIn_r _ [39, 40, 20, 7, 8, 9, 10, 11, 12, 13, 14, 135, 136, 137, 138, 139, 140, 141, 142, 143, 144, 145, 146] (by decide +kernel) (by decide +kernel)
set_option maxRecDepth 20000 in
theorem gX10_told_X2_ownerOf : GoodIn wsX10_told (wsV RX10 110 RX2 yX2_ownerOf wsX2_ownerOf) := goodIn_app (goodIn_of _ (by decide +kernel)) ggX10_told_X2_ownerOf
set_option maxRecDepth 20000 in
theorem ggX10_told_X2_standardOf : GoodIn wsX10_told wsX2_standardOf := goodIn_r _ [44, 45, 22, 23, 9, 24, 25, 20, 7, 8, 10, 11, 12, 13, 14, 46, 27, 28, 29, 30, 47, 48, 49, 50, 51, 52, 135, 136, 137, 138, 139, 140, 141, 142, 143, 144, 145, 146, 126, 127, 128, 129, 130, 131, 132, 133, 134] (by decide +kernel) (by decide +kernel)
set_option maxRecDepth 20000 in
theorem gX10_told_X2_standardOf : GoodIn wsX10_told (wsV RX10 154 RX2 yX2_standardOf wsX2_standardOf) := goodIn_app (goodIn_of _ (by decide +kernel)) ggX10_told_X2_standardOf
set_option maxRecDepth 20000 in
theorem ggX10_told_X1_countedOwner : GoodIn wsX10_told wsX1_countedOwner := goodIn_r _ [57, 58, 59, 60, 61, 56, 62, 63, 64, 65, 66, 12, 13, 14, 67, 68, 69, 70, 71, 72, 73, 74, 75, 76, 77, 78, 79, 80, 81, 82, 83, 84, 85, 86, 135, 136, 137, 138, 139, 140, 141, 142, 143, 144, 145, 146, 147, 148, 149, 150, 151, 152, 153, 154, 155, 156, 126, 127, 128, 129, 130, 131, 132, 133, 134, 157, 158, 159, 160, 161] (by decide +kernel) (by decide +kernel)
set_option maxRecDepth 20000 in
theorem gX10_told_X1_countedOwner : GoodIn wsX10_told (wsV RX10 158 RX1 yX1_countedOwner wsX1_countedOwner) := goodIn_app (goodIn_of _ (by decide +kernel)) ggX10_told_X1_countedOwner
set_option maxRecDepth 20000 in
theorem ggX10_told_X9_tenantOf : GoodIn wsX10_told wsX9_tenantOf := goodIn_r _ [91, 92, 93, 94, 95, 96, 97, 98, 99, 100, 101, 102, 162, 163, 164, 165] (by decide +kernel) (by decide +kernel)
set_option maxRecDepth 20000 in
theorem gX10_told_X9_tenantOf : GoodIn wsX10_told (wsV RX10 165 RX9 yX9_tenantOf wsX9_tenantOf) := goodIn_app (goodIn_of _ (by decide +kernel)) ggX10_told_X9_tenantOf
set_option maxRecDepth 20000 in
theorem ggX10_told_X3_exempts : GoodIn wsX10_told wsX3_exempts := goodIn_r _ [106, 107, 12, 13, 14, 126, 127, 128, 129, 130, 131, 132, 133, 134] (by decide +kernel) (by decide +kernel)
set_option maxRecDepth 20000 in
theorem gX10_told_X3_exempts : GoodIn wsX10_told (wsV RX10 169 RX3 yX3_exempts wsX3_exempts) := goodIn_app (goodIn_of _ (by decide +kernel)) ggX10_told_X3_exempts
set_option maxRecDepth 20000 in
theorem ggX10_told_X2_transfersOf : GoodIn wsX10_told wsX2_transfersOf := goodIn_r _ [111, 112, 113, 135, 136, 137, 138, 139, 140, 141, 142, 143, 144, 145, 146] (by decide +kernel) (by decide +kernel)
set_option maxRecDepth 20000 in
theorem gX10_told_X2_transfersOf : GoodIn wsX10_told (wsV RX10 172 RX2 yX2_transfersOf wsX2_transfersOf) := goodIn_app (goodIn_of _ (by decide +kernel)) ggX10_told_X2_transfersOf
theorem dX10_told_0 : decode cX10_told 0 = .ok (.aload_n 0, 1) := by decide +kernel
theorem dX10_told_1 : decode cX10_told 1 = .ok (.getfield 19, 3) := by decide +kernel
theorem dX10_told_4 : decode cX10_told 4 = .ok (.iload_n 1, 1) := by decide +kernel
theorem dX10_told_5 : decode cX10_told 5 = .ok (.invokevirtual 109, 3) := by decide +kernel
theorem dX10_told_8 : decode cX10_told 8 = .ok (.ifCond .ne 5, 3) := by decide +kernel
theorem dX10_told_11 : decode cX10_told 11 = .ok (.iconst (-1), 1) := by decide +kernel
theorem dX10_told_12 : decode cX10_told 12 = .ok (.ireturn, 1) := by decide +kernel
theorem dX10_told_13 : decode cX10_told 13 = .ok (.iload_n 2, 1) := by decide +kernel
theorem dX10_told_14 : decode cX10_told 14 = .ok (.tableswitch 190 0 9 #[54, 63, 72, 81, 90, 99, 112, 133, 157, 181], 54) := by decide +kernel
theorem dX10_told_68 : decode cX10_told 68 = .ok (.aload_n 0, 1) := by decide +kernel
theorem dX10_told_69 : decode cX10_told 69 = .ok (.getfield 19, 3) := by decide +kernel
theorem dX10_told_72 : decode cX10_told 72 = .ok (.iload_n 1, 1) := by decide +kernel
theorem dX10_told_73 : decode cX10_told 73 = .ok (.invokevirtual 142, 3) := by decide +kernel
theorem dX10_told_76 : decode cX10_told 76 = .ok (.ireturn, 1) := by decide +kernel
theorem dX10_told_77 : decode cX10_told 77 = .ok (.aload_n 0, 1) := by decide +kernel
theorem dX10_told_78 : decode cX10_told 78 = .ok (.getfield 19, 3) := by decide +kernel
theorem dX10_told_81 : decode cX10_told 81 = .ok (.iload_n 1, 1) := by decide +kernel
theorem dX10_told_82 : decode cX10_told 82 = .ok (.invokevirtual 145, 3) := by decide +kernel
theorem dX10_told_85 : decode cX10_told 85 = .ok (.ireturn, 1) := by decide +kernel
theorem dX10_told_86 : decode cX10_told 86 = .ok (.aload_n 0, 1) := by decide +kernel
theorem dX10_told_87 : decode cX10_told 87 = .ok (.getfield 19, 3) := by decide +kernel
theorem dX10_told_90 : decode cX10_told 90 = .ok (.iload_n 1, 1) := by decide +kernel
theorem dX10_told_91 : decode cX10_told 91 = .ok (.invokevirtual 148, 3) := by decide +kernel
theorem dX10_told_94 : decode cX10_told 94 = .ok (.ireturn, 1) := by decide +kernel
theorem dX10_told_95 : decode cX10_told 95 = .ok (.aload_n 0, 1) := by decide +kernel
theorem dX10_told_96 : decode cX10_told 96 = .ok (.getfield 19, 3) := by decide +kernel
theorem dX10_told_99 : decode cX10_told 99 = .ok (.iload_n 1, 1) := by decide +kernel
theorem dX10_told_100 : decode cX10_told 100 = .ok (.invokevirtual 151, 3) := by decide +kernel
theorem dX10_told_103 : decode cX10_told 103 = .ok (.ireturn, 1) := by decide +kernel
theorem dX10_told_104 : decode cX10_told 104 = .ok (.aload_n 0, 1) := by decide +kernel
theorem dX10_told_105 : decode cX10_told 105 = .ok (.getfield 19, 3) := by decide +kernel
theorem dX10_told_108 : decode cX10_told 108 = .ok (.iload_n 1, 1) := by decide +kernel
theorem dX10_told_109 : decode cX10_told 109 = .ok (.invokevirtual 110, 3) := by decide +kernel
theorem dX10_told_112 : decode cX10_told 112 = .ok (.ireturn, 1) := by decide +kernel
theorem dX10_told_113 : decode cX10_told 113 = .ok (.aload_n 0, 1) := by decide +kernel
theorem dX10_told_114 : decode cX10_told 114 = .ok (.getfield 19, 3) := by decide +kernel
theorem dX10_told_117 : decode cX10_told 117 = .ok (.iload_n 1, 1) := by decide +kernel
theorem dX10_told_118 : decode cX10_told 118 = .ok (.aload_n 0, 1) := by decide +kernel
theorem dX10_told_119 : decode cX10_told 119 = .ok (.getfield 80, 3) := by decide +kernel
theorem dX10_told_122 : decode cX10_told 122 = .ok (.invokevirtual 154, 3) := by decide +kernel
theorem dX10_told_125 : decode cX10_told 125 = .ok (.ireturn, 1) := by decide +kernel
theorem dX10_told_126 : decode cX10_told 126 = .ok (.aload_n 0, 1) := by decide +kernel
theorem dX10_told_127 : decode cX10_told 127 = .ok (.getfield 46, 3) := by decide +kernel
theorem dX10_told_130 : decode cX10_told 130 = .ok (.iload_n 1, 1) := by decide +kernel
theorem dX10_told_131 : decode cX10_told 131 = .ok (.aload_n 0, 1) := by decide +kernel
theorem dX10_told_132 : decode cX10_told 132 = .ok (.getfield 19, 3) := by decide +kernel
theorem dX10_told_135 : decode cX10_told 135 = .ok (.aload_n 0, 1) := by decide +kernel
theorem dX10_told_136 : decode cX10_told 136 = .ok (.getfield 10, 3) := by decide +kernel
theorem dX10_told_139 : decode cX10_told 139 = .ok (.aload_n 0, 1) := by decide +kernel
theorem dX10_told_140 : decode cX10_told 140 = .ok (.getfield 80, 3) := by decide +kernel
theorem dX10_told_143 : decode cX10_told 143 = .ok (.invokevirtual 158, 3) := by decide +kernel
theorem dX10_told_146 : decode cX10_told 146 = .ok (.ireturn, 1) := by decide +kernel
theorem dX10_told_147 : decode cX10_told 147 = .ok (.aload_n 0, 1) := by decide +kernel
theorem dX10_told_148 : decode cX10_told 148 = .ok (.getfield 53, 3) := by decide +kernel
theorem dX10_told_151 : decode cX10_told 151 = .ok (.iload_n 1, 1) := by decide +kernel
theorem dX10_told_152 : decode cX10_told 152 = .ok (.aload_n 0, 1) := by decide +kernel
theorem dX10_told_153 : decode cX10_told 153 = .ok (.getfield 19, 3) := by decide +kernel
theorem dX10_told_156 : decode cX10_told 156 = .ok (.iload_n 1, 1) := by decide +kernel
theorem dX10_told_157 : decode cX10_told 157 = .ok (.invokevirtual 110, 3) := by decide +kernel
theorem dX10_told_160 : decode cX10_told 160 = .ok (.aload_n 0, 1) := by decide +kernel
theorem dX10_told_161 : decode cX10_told 161 = .ok (.getfield 80, 3) := by decide +kernel
theorem dX10_told_164 : decode cX10_told 164 = .ok (.getfield 162, 3) := by decide +kernel
theorem dX10_told_167 : decode cX10_told 167 = .ok (.invokevirtual 165, 3) := by decide +kernel
theorem dX10_told_170 : decode cX10_told 170 = .ok (.ireturn, 1) := by decide +kernel
theorem dX10_told_171 : decode cX10_told 171 = .ok (.aload_n 0, 1) := by decide +kernel
theorem dX10_told_172 : decode cX10_told 172 = .ok (.getfield 80, 3) := by decide +kernel
theorem dX10_told_175 : decode cX10_told 175 = .ok (.aload_n 0, 1) := by decide +kernel
theorem dX10_told_176 : decode cX10_told 176 = .ok (.getfield 19, 3) := by decide +kernel
theorem dX10_told_179 : decode cX10_told 179 = .ok (.iload_n 1, 1) := by decide +kernel
theorem dX10_told_180 : decode cX10_told 180 = .ok (.invokevirtual 151, 3) := by decide +kernel
theorem dX10_told_183 : decode cX10_told 183 = .ok (.invokevirtual 169, 3) := by decide +kernel
theorem dX10_told_186 : decode cX10_told 186 = .ok (.ifCond .eq 7, 3) := by decide +kernel
theorem dX10_told_189 : decode cX10_told 189 = .ok (.iconst 1, 1) := by decide +kernel
theorem dX10_told_190 : decode cX10_told 190 = .ok (.goto 4, 3) := by decide +kernel
theorem dX10_told_193 : decode cX10_told 193 = .ok (.iconst 0, 1) := by decide +kernel
theorem dX10_told_194 : decode cX10_told 194 = .ok (.ireturn, 1) := by decide +kernel
theorem dX10_told_195 : decode cX10_told 195 = .ok (.aload_n 0, 1) := by decide +kernel
theorem dX10_told_196 : decode cX10_told 196 = .ok (.getfield 19, 3) := by decide +kernel
theorem dX10_told_199 : decode cX10_told 199 = .ok (.iload_n 1, 1) := by decide +kernel
theorem dX10_told_200 : decode cX10_told 200 = .ok (.invokevirtual 172, 3) := by decide +kernel
theorem dX10_told_203 : decode cX10_told 203 = .ok (.ireturn, 1) := by decide +kernel
theorem dX10_told_204 : decode cX10_told 204 = .ok (.iconst (-1), 1) := by decide +kernel
theorem dX10_told_205 : decode cX10_told 205 = .ok (.ireturn, 1) := by decide +kernel
set_option maxRecDepth 20000 in
theorem ggX10_owned_X2_has : GoodIn wsX10_owned wsX2_has := goodIn_r _ [6, 7, 8, 9, 10, 33, 34, 35, 36, 37, 38, 39, 40, 41, 42, 43, 44] (by decide +kernel) (by decide +kernel)
set_option maxRecDepth 20000 in
theorem gX10_owned_X2_has : GoodIn wsX10_owned (wsV RX10 109 RX2 yX2_has wsX2_has) := goodIn_app (goodIn_of _ (by decide +kernel)) ggX10_owned_X2_has
set_option maxRecDepth 20000 in
theorem ggX10_owned_X2_ownerAsDayEnded : GoodIn wsX10_owned wsX2_ownerAsDayEnded := goodIn_r _ [14, 15, 16, 17, 18, 19, 20, 3, 4, 5, 6, 7, 8, 9, 10, 33, 34, 35, 36, 37, 38, 39, 40, 41, 42, 43, 44] (by decide +kernel) (by decide +kernel)
set_option maxRecDepth 20000 in
theorem gX10_owned_X2_ownerAsDayEnded : GoodIn wsX10_owned (wsV RX10 175 RX2 yX2_ownerAsDayEnded wsX2_ownerAsDayEnded) := goodIn_app (goodIn_of _ (by decide +kernel)) ggX10_owned_X2_ownerAsDayEnded
theorem dX10_owned_0 : decode cX10_owned 0 = .ok (.aload_n 0, 1) := by decide +kernel
theorem dX10_owned_1 : decode cX10_owned 1 = .ok (.getfield 19, 3) := by decide +kernel
theorem dX10_owned_4 : decode cX10_owned 4 = .ok (.iload_n 1, 1) := by decide +kernel
theorem dX10_owned_5 : decode cX10_owned 5 = .ok (.invokevirtual 109, 3) := by decide +kernel
theorem dX10_owned_8 : decode cX10_owned 8 = .ok (.ifCond .eq 14, 3) := by decide +kernel
theorem dX10_owned_11 : decode cX10_owned 11 = .ok (.iload_n 2, 1) := by decide +kernel
theorem dX10_owned_12 : decode cX10_owned 12 = .ok (.ifCond .lt 10, 3) := by decide +kernel
theorem dX10_owned_15 : decode cX10_owned 15 = .ok (.iload_n 2, 1) := by decide +kernel
theorem dX10_owned_16 : decode cX10_owned 16 = .ok (.sipush 1000, 3) := by decide +kernel
theorem dX10_owned_19 : decode cX10_owned 19 = .ok (.if_icmp .le 5, 3) := by decide +kernel
theorem dX10_owned_22 : decode cX10_owned 22 = .ok (.iconst (-1), 1) := by decide +kernel
theorem dX10_owned_23 : decode cX10_owned 23 = .ok (.ireturn, 1) := by decide +kernel
theorem dX10_owned_24 : decode cX10_owned 24 = .ok (.aload_n 0, 1) := by decide +kernel
theorem dX10_owned_25 : decode cX10_owned 25 = .ok (.getfield 19, 3) := by decide +kernel
theorem dX10_owned_28 : decode cX10_owned 28 = .ok (.iload_n 1, 1) := by decide +kernel
theorem dX10_owned_29 : decode cX10_owned 29 = .ok (.iload_n 2, 1) := by decide +kernel
theorem dX10_owned_30 : decode cX10_owned 30 = .ok (.invokevirtual 175, 3) := by decide +kernel
theorem dX10_owned_33 : decode cX10_owned 33 = .ok (.ireturn, 1) := by decide +kernel
set_option maxRecDepth 20000 in
theorem ggX10_house_X10_isBelow : GoodIn wsX10_house wsX10_isBelow := goodIn_r _ [8] (by decide +kernel) (by decide +kernel)
set_option maxRecDepth 20000 in
theorem gX10_house_X10_isBelow : GoodIn wsX10_house (va_wsS RX10 87 yX10_isBelow wsX10_isBelow) := goodIn_app (goodIn_of _ (by decide +kernel)) ggX10_house_X10_isBelow
set_option maxRecDepth 20000 in
theorem ggX10_house_X1_gather : GoodIn wsX10_house wsX1_gather := goodIn_r _ [13, 14, 15, 16, 17, 18, 19, 20, 21, 22, 12, 23, 24, 25, 26, 27, 6, 7, 8, 28, 29, 30, 31, 32, 33, 34, 35, 36, 37, 38, 39, 40, 41, 42, 43, 44, 45, 46, 47, 48, 49, 50, 51, 52, 53, 54, 55, 56, 57, 58, 59, 60, 61, 62, 63, 64, 65, 66, 67, 68, 69, 70, 71, 72, 73, 74, 75, 76, 77, 78, 79, 80, 81, 82, 83, 84, 85, 86, 87, 88, 89, 90, 91, 92, 93, 111, 112, 113, 114, 115, 116, 117, 118, 119, 120, 121, 122, 123, 124, 125, 126, 127, 128, 129, 130, 131, 132, 133, 134, 135, 136, 137, 138, 139, 140, 141, 142, 143, 144, 145, 146] (by decide +kernel) (by decide +kernel)
set_option maxRecDepth 20000 in
theorem gX10_house_X1_gather : GoodIn wsX10_house (wsV RX10 178 RX1 yX1_gather wsX1_gather) := goodIn_app (goodIn_of _ (by decide +kernel)) ggX10_house_X1_gather
set_option maxRecDepth 20000 in
theorem ggX10_house_X1_above : GoodIn wsX10_house wsX1_above := goodIn_r _ [97, 15, 19, 98, 91, 92, 93, 111, 112, 113, 114, 115, 116, 117, 118, 119, 120] (by decide +kernel) (by decide +kernel)
set_option maxRecDepth 20000 in
theorem gX10_house_X1_above : GoodIn wsX10_house (wsV RX10 191 RX1 yX1_above wsX1_above) := goodIn_app (goodIn_of _ (by decide +kernel)) ggX10_house_X1_above
theorem dX10_house_0 : decode cX10_house 0 = .ok (.iload_n 1, 1) := by decide +kernel
theorem dX10_house_1 : decode cX10_house 1 = .ok (.bipush 20, 2) := by decide +kernel
theorem dX10_house_3 : decode cX10_house 3 = .ok (.invokestatic 87, 3) := by decide +kernel
theorem dX10_house_6 : decode cX10_house 6 = .ok (.ifCond .ne 5, 3) := by decide +kernel
theorem dX10_house_9 : decode cX10_house 9 = .ok (.iconst (-1), 1) := by decide +kernel
theorem dX10_house_10 : decode cX10_house 10 = .ok (.ireturn, 1) := by decide +kernel
theorem dX10_house_11 : decode cX10_house 11 = .ok (.aload_n 0, 1) := by decide +kernel
theorem dX10_house_12 : decode cX10_house 12 = .ok (.getfield 46, 3) := by decide +kernel
theorem dX10_house_15 : decode cX10_house 15 = .ok (.iload_n 1, 1) := by decide +kernel
theorem dX10_house_16 : decode cX10_house 16 = .ok (.aload_n 0, 1) := by decide +kernel
theorem dX10_house_17 : decode cX10_house 17 = .ok (.getfield 19, 3) := by decide +kernel
theorem dX10_house_20 : decode cX10_house 20 = .ok (.aload_n 0, 1) := by decide +kernel
theorem dX10_house_21 : decode cX10_house 21 = .ok (.getfield 10, 3) := by decide +kernel
theorem dX10_house_24 : decode cX10_house 24 = .ok (.aload_n 0, 1) := by decide +kernel
theorem dX10_house_25 : decode cX10_house 25 = .ok (.getfield 80, 3) := by decide +kernel
theorem dX10_house_28 : decode cX10_house 28 = .ok (.invokevirtual 178, 3) := by decide +kernel
theorem dX10_house_31 : decode cX10_house 31 = .ok (.iload_n 2, 1) := by decide +kernel
theorem dX10_house_32 : decode cX10_house 32 = .ok (.tableswitch 76 0 4 #[36, 44, 52, 60, 68], 36) := by decide +kernel
theorem dX10_house_68 : decode cX10_house 68 = .ok (.aload_n 0, 1) := by decide +kernel
theorem dX10_house_69 : decode cX10_house 69 = .ok (.getfield 46, 3) := by decide +kernel
theorem dX10_house_72 : decode cX10_house 72 = .ok (.getfield 182, 3) := by decide +kernel
theorem dX10_house_75 : decode cX10_house 75 = .ok (.ireturn, 1) := by decide +kernel
theorem dX10_house_76 : decode cX10_house 76 = .ok (.aload_n 0, 1) := by decide +kernel
theorem dX10_house_77 : decode cX10_house 77 = .ok (.getfield 46, 3) := by decide +kernel
theorem dX10_house_80 : decode cX10_house 80 = .ok (.getfield 185, 3) := by decide +kernel
theorem dX10_house_83 : decode cX10_house 83 = .ok (.ireturn, 1) := by decide +kernel
theorem dX10_house_84 : decode cX10_house 84 = .ok (.aload_n 0, 1) := by decide +kernel
theorem dX10_house_85 : decode cX10_house 85 = .ok (.getfield 46, 3) := by decide +kernel
theorem dX10_house_88 : decode cX10_house 88 = .ok (.getfield 188, 3) := by decide +kernel
theorem dX10_house_91 : decode cX10_house 91 = .ok (.ireturn, 1) := by decide +kernel
theorem dX10_house_92 : decode cX10_house 92 = .ok (.aload_n 0, 1) := by decide +kernel
theorem dX10_house_93 : decode cX10_house 93 = .ok (.getfield 46, 3) := by decide +kernel
theorem dX10_house_96 : decode cX10_house 96 = .ok (.invokevirtual 191, 3) := by decide +kernel
theorem dX10_house_99 : decode cX10_house 99 = .ok (.ireturn, 1) := by decide +kernel
theorem dX10_house_100 : decode cX10_house 100 = .ok (.aload_n 0, 1) := by decide +kernel
theorem dX10_house_101 : decode cX10_house 101 = .ok (.getfield 46, 3) := by decide +kernel
theorem dX10_house_104 : decode cX10_house 104 = .ok (.getfield 194, 3) := by decide +kernel
theorem dX10_house_107 : decode cX10_house 107 = .ok (.ireturn, 1) := by decide +kernel
theorem dX10_house_108 : decode cX10_house 108 = .ok (.iconst (-1), 1) := by decide +kernel
theorem dX10_house_109 : decode cX10_house 109 = .ok (.ireturn, 1) := by decide +kernel
set_option maxRecDepth 20000 in
theorem ggX10_kept_X10_isBelow : GoodIn wsX10_kept wsX10_isBelow := goodIn_r _ [8] (by decide +kernel) (by decide +kernel)
set_option maxRecDepth 20000 in
theorem gX10_kept_X10_isBelow : GoodIn wsX10_kept (va_wsS RX10 87 yX10_isBelow wsX10_isBelow) := goodIn_app (goodIn_of _ (by decide +kernel)) ggX10_kept_X10_isBelow
set_option maxRecDepth 20000 in
theorem ggX10_kept_X1_gather : GoodIn wsX10_kept wsX1_gather := goodIn_r _ [13, 14, 15, 16, 17, 18, 19, 20, 21, 22, 12, 23, 24, 25, 26, 27, 6, 7, 8, 28, 29, 30, 31, 32, 33, 34, 35, 36, 37, 38, 39, 40, 41, 42, 43, 44, 45, 46, 47, 48, 49, 50, 51, 52, 53, 54, 55, 56, 57, 58, 59, 60, 61, 62, 63, 64, 65, 66, 67, 68, 69, 70, 71, 72, 73, 74, 75, 76, 77, 78, 79, 80, 81, 82, 83, 84, 85, 86, 87, 88, 89, 90, 91, 92, 93, 128, 129, 130, 131, 132, 133, 134, 135, 136, 137, 138, 139, 140, 141, 142, 143, 144, 145, 146, 147, 148, 149, 150, 151, 152, 153, 154, 155, 156, 157, 158, 159, 160, 161, 162, 163] (by decide +kernel) (by decide +kernel)
set_option maxRecDepth 20000 in
theorem gX10_kept_X1_gather : GoodIn wsX10_kept (wsV RX10 178 RX1 yX1_gather wsX1_gather) := goodIn_app (goodIn_of _ (by decide +kernel)) ggX10_kept_X1_gather
set_option maxRecDepth 20000 in
theorem ggX10_kept_X1_choose : GoodIn wsX10_kept wsX1_choose := goodIn_r _ [97, 14, 98, 99, 100, 101, 19, 102, 103, 104, 12, 105, 17, 55, 56, 57, 58, 59, 60, 61, 62, 63, 64, 65, 66, 67, 68, 69, 6, 7, 8, 70, 71, 72, 73, 74, 75, 76, 77, 52, 78, 79, 106, 107, 108, 109, 110, 111, 128, 129, 130, 131, 132, 133, 134, 135, 136, 137, 138, 139, 140, 141, 142, 143, 144, 145, 146, 147, 148, 149, 150, 151, 152, 153, 154, 155, 156, 157, 158] (by decide +kernel) (by decide +kernel)
set_option maxRecDepth 20000 in
theorem gX10_kept_X1_choose : GoodIn wsX10_kept (wsV RX10 197 RX1 yX1_choose wsX1_choose) := goodIn_app (goodIn_of _ (by decide +kernel)) ggX10_kept_X1_choose
set_option maxRecDepth 20000 in
theorem ggX10_kept_X1_keeps : GoodIn wsX10_kept wsX1_keeps := goodIn_r _ [115, 14, 98, 6, 7, 8, 128, 129, 130, 131, 132, 133, 134, 135, 136, 137] (by decide +kernel) (by decide +kernel)
set_option maxRecDepth 20000 in
theorem gX10_kept_X1_keeps : GoodIn wsX10_kept (wsV RX10 204 RX1 yX1_keeps wsX1_keeps) := goodIn_app (goodIn_of _ (by decide +kernel)) ggX10_kept_X1_keeps
theorem dX10_kept_0 : decode cX10_kept 0 = .ok (.iload_n 1, 1) := by decide +kernel
theorem dX10_kept_1 : decode cX10_kept 1 = .ok (.bipush 20, 2) := by decide +kernel
theorem dX10_kept_3 : decode cX10_kept 3 = .ok (.invokestatic 87, 3) := by decide +kernel
theorem dX10_kept_6 : decode cX10_kept 6 = .ok (.ifCond .eq 8, 3) := by decide +kernel
theorem dX10_kept_9 : decode cX10_kept 9 = .ok (.iload_n 2, 1) := by decide +kernel
theorem dX10_kept_10 : decode cX10_kept 10 = .ok (.iconst (-1), 1) := by decide +kernel
theorem dX10_kept_11 : decode cX10_kept 11 = .ok (.if_icmp .ge 5, 3) := by decide +kernel
theorem dX10_kept_14 : decode cX10_kept 14 = .ok (.iconst (-1), 1) := by decide +kernel
theorem dX10_kept_15 : decode cX10_kept 15 = .ok (.ireturn, 1) := by decide +kernel
theorem dX10_kept_16 : decode cX10_kept 16 = .ok (.aload_n 0, 1) := by decide +kernel
theorem dX10_kept_17 : decode cX10_kept 17 = .ok (.getfield 46, 3) := by decide +kernel
theorem dX10_kept_20 : decode cX10_kept 20 = .ok (.iload_n 1, 1) := by decide +kernel
theorem dX10_kept_21 : decode cX10_kept 21 = .ok (.aload_n 0, 1) := by decide +kernel
theorem dX10_kept_22 : decode cX10_kept 22 = .ok (.getfield 19, 3) := by decide +kernel
theorem dX10_kept_25 : decode cX10_kept 25 = .ok (.aload_n 0, 1) := by decide +kernel
theorem dX10_kept_26 : decode cX10_kept 26 = .ok (.getfield 10, 3) := by decide +kernel
theorem dX10_kept_29 : decode cX10_kept 29 = .ok (.aload_n 0, 1) := by decide +kernel
theorem dX10_kept_30 : decode cX10_kept 30 = .ok (.getfield 80, 3) := by decide +kernel
theorem dX10_kept_33 : decode cX10_kept 33 = .ok (.invokevirtual 178, 3) := by decide +kernel
theorem dX10_kept_36 : decode cX10_kept 36 = .ok (.iload_n 2, 1) := by decide +kernel
theorem dX10_kept_37 : decode cX10_kept 37 = .ok (.aload_n 0, 1) := by decide +kernel
theorem dX10_kept_38 : decode cX10_kept 38 = .ok (.getfield 46, 3) := by decide +kernel
theorem dX10_kept_41 : decode cX10_kept 41 = .ok (.getfield 194, 3) := by decide +kernel
theorem dX10_kept_44 : decode cX10_kept 44 = .ok (.if_icmp .ge 21, 3) := by decide +kernel
theorem dX10_kept_47 : decode cX10_kept 47 = .ok (.aload_n 0, 1) := by decide +kernel
theorem dX10_kept_48 : decode cX10_kept 48 = .ok (.getfield 46, 3) := by decide +kernel
theorem dX10_kept_51 : decode cX10_kept 51 = .ok (.aload_n 0, 1) := by decide +kernel
theorem dX10_kept_52 : decode cX10_kept 52 = .ok (.getfield 19, 3) := by decide +kernel
theorem dX10_kept_55 : decode cX10_kept 55 = .ok (.aload_n 0, 1) := by decide +kernel
theorem dX10_kept_56 : decode cX10_kept 56 = .ok (.getfield 80, 3) := by decide +kernel
theorem dX10_kept_59 : decode cX10_kept 59 = .ok (.invokevirtual 197, 3) := by decide +kernel
theorem dX10_kept_62 : decode cX10_kept 62 = .ok (.ifCond .ne 5, 3) := by decide +kernel
theorem dX10_kept_65 : decode cX10_kept 65 = .ok (.iconst (-1), 1) := by decide +kernel
theorem dX10_kept_66 : decode cX10_kept 66 = .ok (.ireturn, 1) := by decide +kernel
theorem dX10_kept_67 : decode cX10_kept 67 = .ok (.iload_n 2, 1) := by decide +kernel
theorem dX10_kept_68 : decode cX10_kept 68 = .ok (.iconst (-1), 1) := by decide +kernel
theorem dX10_kept_69 : decode cX10_kept 69 = .ok (.if_icmp .ne 11, 3) := by decide +kernel
theorem dX10_kept_72 : decode cX10_kept 72 = .ok (.aload_n 0, 1) := by decide +kernel
theorem dX10_kept_73 : decode cX10_kept 73 = .ok (.getfield 46, 3) := by decide +kernel
theorem dX10_kept_76 : decode cX10_kept 76 = .ok (.getfield 201, 3) := by decide +kernel
theorem dX10_kept_79 : decode cX10_kept 79 = .ok (.ireturn, 1) := by decide +kernel
theorem dX10_kept_80 : decode cX10_kept 80 = .ok (.aload_n 0, 1) := by decide +kernel
theorem dX10_kept_81 : decode cX10_kept 81 = .ok (.getfield 46, 3) := by decide +kernel
theorem dX10_kept_84 : decode cX10_kept 84 = .ok (.iload_n 2, 1) := by decide +kernel
theorem dX10_kept_85 : decode cX10_kept 85 = .ok (.invokevirtual 204, 3) := by decide +kernel
theorem dX10_kept_88 : decode cX10_kept 88 = .ok (.ifCond .eq 7, 3) := by decide +kernel
theorem dX10_kept_91 : decode cX10_kept 91 = .ok (.iconst 1, 1) := by decide +kernel
theorem dX10_kept_92 : decode cX10_kept 92 = .ok (.goto 4, 3) := by decide +kernel
theorem dX10_kept_95 : decode cX10_kept 95 = .ok (.iconst 0, 1) := by decide +kernel
theorem dX10_kept_96 : decode cX10_kept 96 = .ok (.ireturn, 1) := by decide +kernel
set_option maxRecDepth 20000 in
theorem ggX10_taken_X10_isBelow : GoodIn wsX10_taken wsX10_isBelow := goodIn_r _ [8] (by decide +kernel) (by decide +kernel)
set_option maxRecDepth 20000 in
theorem gX10_taken_X10_isBelow : GoodIn wsX10_taken (va_wsS RX10 87 yX10_isBelow wsX10_isBelow) := goodIn_app (goodIn_of _ (by decide +kernel)) ggX10_taken_X10_isBelow
set_option maxRecDepth 20000 in
theorem ggX10_taken_X1_gather : GoodIn wsX10_taken wsX1_gather := goodIn_r _ [13, 14, 15, 16, 17, 18, 19, 20, 21, 22, 12, 23, 24, 25, 26, 27, 6, 7, 8, 28, 29, 30, 31, 32, 33, 34, 35, 36, 37, 38, 39, 40, 41, 42, 43, 44, 45, 46, 47, 48, 49, 50, 51, 52, 53, 54, 55, 56, 57, 58, 59, 60, 61, 62, 63, 64, 65, 66, 67, 68, 69, 70, 71, 72, 73, 74, 75, 76, 77, 78, 79, 80, 81, 82, 83, 84, 85, 86, 87, 88, 89, 90, 91, 92, 93, 132, 133, 134, 135, 136, 137, 138, 139, 140, 141, 142, 143, 144, 145, 146, 147, 148, 149, 150, 151, 152, 153, 154, 155, 156, 157, 158, 159, 160, 161, 162, 163, 164, 165, 166, 167] (by decide +kernel) (by decide +kernel)
set_option maxRecDepth 20000 in
theorem gX10_taken_X1_gather : GoodIn wsX10_taken (wsV RX10 178 RX1 yX1_gather wsX1_gather) := goodIn_app (goodIn_of _ (by decide +kernel)) ggX10_taken_X1_gather
set_option maxRecDepth 20000 in
theorem ggX10_taken_X1_choose : GoodIn wsX10_taken wsX1_choose := goodIn_r _ [97, 14, 98, 99, 100, 101, 19, 102, 103, 104, 12, 105, 17, 55, 56, 57, 58, 59, 60, 61, 62, 63, 64, 65, 66, 67, 68, 69, 6, 7, 8, 70, 71, 72, 73, 74, 75, 76, 77, 52, 78, 79, 106, 107, 108, 109, 110, 111, 132, 133, 134, 135, 136, 137, 138, 139, 140, 141, 142, 143, 144, 145, 146, 147, 148, 149, 150, 151, 152, 153, 154, 155, 156, 157, 158, 159, 160, 161, 162] (by decide +kernel) (by decide +kernel)
set_option maxRecDepth 20000 in
theorem gX10_taken_X1_choose : GoodIn wsX10_taken (wsV RX10 197 RX1 yX1_choose wsX1_choose) := goodIn_app (goodIn_of _ (by decide +kernel)) ggX10_taken_X1_choose
set_option maxRecDepth 20000 in
theorem ggX10_taken_X1_takenField : GoodIn wsX10_taken wsX1_takenField := goodIn_r _ [115, 14, 17, 116, 117, 118, 12, 119, 98, 6, 7, 8, 132, 133, 134, 135, 136, 137, 138, 139, 140, 141] (by decide +kernel) (by decide +kernel)
set_option maxRecDepth 20000 in
theorem gX10_taken_X1_takenField : GoodIn wsX10_taken (wsV RX10 207 RX1 yX1_takenField wsX1_takenField) := goodIn_app (goodIn_of _ (by decide +kernel)) ggX10_taken_X1_takenField
theorem dX10_taken_0 : decode cX10_taken 0 = .ok (.iload_n 1, 1) := by decide +kernel
theorem dX10_taken_1 : decode cX10_taken 1 = .ok (.bipush 20, 2) := by decide +kernel
theorem dX10_taken_3 : decode cX10_taken 3 = .ok (.invokestatic 87, 3) := by decide +kernel
theorem dX10_taken_6 : decode cX10_taken 6 = .ok (.ifCond .eq 7, 3) := by decide +kernel
theorem dX10_taken_9 : decode cX10_taken 9 = .ok (.iload_n 2, 1) := by decide +kernel
theorem dX10_taken_10 : decode cX10_taken 10 = .ok (.ifCond .ge 5, 3) := by decide +kernel
theorem dX10_taken_13 : decode cX10_taken 13 = .ok (.iconst (-1), 1) := by decide +kernel
theorem dX10_taken_14 : decode cX10_taken 14 = .ok (.ireturn, 1) := by decide +kernel
theorem dX10_taken_15 : decode cX10_taken 15 = .ok (.aload_n 0, 1) := by decide +kernel
theorem dX10_taken_16 : decode cX10_taken 16 = .ok (.getfield 46, 3) := by decide +kernel
theorem dX10_taken_19 : decode cX10_taken 19 = .ok (.iload_n 1, 1) := by decide +kernel
theorem dX10_taken_20 : decode cX10_taken 20 = .ok (.aload_n 0, 1) := by decide +kernel
theorem dX10_taken_21 : decode cX10_taken 21 = .ok (.getfield 19, 3) := by decide +kernel
theorem dX10_taken_24 : decode cX10_taken 24 = .ok (.aload_n 0, 1) := by decide +kernel
theorem dX10_taken_25 : decode cX10_taken 25 = .ok (.getfield 10, 3) := by decide +kernel
theorem dX10_taken_28 : decode cX10_taken 28 = .ok (.aload_n 0, 1) := by decide +kernel
theorem dX10_taken_29 : decode cX10_taken 29 = .ok (.getfield 80, 3) := by decide +kernel
theorem dX10_taken_32 : decode cX10_taken 32 = .ok (.invokevirtual 178, 3) := by decide +kernel
theorem dX10_taken_35 : decode cX10_taken 35 = .ok (.aload_n 0, 1) := by decide +kernel
theorem dX10_taken_36 : decode cX10_taken 36 = .ok (.getfield 46, 3) := by decide +kernel
theorem dX10_taken_39 : decode cX10_taken 39 = .ok (.aload_n 0, 1) := by decide +kernel
theorem dX10_taken_40 : decode cX10_taken 40 = .ok (.getfield 19, 3) := by decide +kernel
theorem dX10_taken_43 : decode cX10_taken 43 = .ok (.aload_n 0, 1) := by decide +kernel
theorem dX10_taken_44 : decode cX10_taken 44 = .ok (.getfield 80, 3) := by decide +kernel
theorem dX10_taken_47 : decode cX10_taken 47 = .ok (.invokevirtual 197, 3) := by decide +kernel
theorem dX10_taken_50 : decode cX10_taken 50 = .ok (.ifCond .eq 14, 3) := by decide +kernel
theorem dX10_taken_53 : decode cX10_taken 53 = .ok (.aload_n 0, 1) := by decide +kernel
theorem dX10_taken_54 : decode cX10_taken 54 = .ok (.getfield 46, 3) := by decide +kernel
theorem dX10_taken_57 : decode cX10_taken 57 = .ok (.iload_n 2, 1) := by decide +kernel
theorem dX10_taken_58 : decode cX10_taken 58 = .ok (.invokevirtual 207, 3) := by decide +kernel
theorem dX10_taken_61 : decode cX10_taken 61 = .ok (.goto 4, 3) := by decide +kernel
theorem dX10_taken_64 : decode cX10_taken 64 = .ok (.iconst (-1), 1) := by decide +kernel
theorem dX10_taken_65 : decode cX10_taken 65 = .ok (.ireturn, 1) := by decide +kernel
set_option maxRecDepth 20000 in
theorem ggX10_share_X2_has : GoodIn wsX10_share wsX2_has := goodIn_r _ [8, 9, 10, 11, 12, 52, 53, 54, 55, 56, 57, 58, 59, 60, 61, 62, 63] (by decide +kernel) (by decide +kernel)
set_option maxRecDepth 20000 in
theorem gX10_share_X2_has : GoodIn wsX10_share (wsV RX10 109 RX2 yX2_has wsX2_has) := goodIn_app (goodIn_of _ (by decide +kernel)) ggX10_share_X2_has
set_option maxRecDepth 20000 in
theorem ggX10_share_X4_has : GoodIn wsX10_share wsX4_has := goodIn_r _ [17, 18, 10, 11, 12, 64, 65, 66, 67, 68] (by decide +kernel) (by decide +kernel)
set_option maxRecDepth 20000 in
theorem gX10_share_X4_has : GoodIn wsX10_share (wsV RX10 98 RX4 yX4_has wsX4_has) := goodIn_app (goodIn_of _ (by decide +kernel)) ggX10_share_X4_has
set_option maxRecDepth 20000 in
theorem ggX10_share_X10_isBelow : GoodIn wsX10_share wsX10_isBelow := goodIn_r _ [12] (by decide +kernel) (by decide +kernel)
set_option maxRecDepth 20000 in
theorem gX10_share_X10_isBelow : GoodIn wsX10_share (va_wsS RX10 87 yX10_isBelow wsX10_isBelow) := goodIn_app (goodIn_of _ (by decide +kernel)) ggX10_share_X10_isBelow
set_option maxRecDepth 20000 in
theorem ggX10_share_X9_tell : GoodIn wsX10_share wsX9_tell := goodIn_r _ [24, 25, 26, 27, 28, 29, 30, 31, 23, 32, 33, 34, 35, 36, 37, 38, 39, 69, 70, 71, 72] (by decide +kernel) (by decide +kernel)
set_option maxRecDepth 20000 in
theorem gX10_share_X9_tell : GoodIn wsX10_share (wsV RX10 210 RX9 yX9_tell wsX9_tell) := goodIn_app (goodIn_of _ (by decide +kernel)) ggX10_share_X9_tell
theorem dX10_share_0 : decode cX10_share 0 = .ok (.aload_n 0, 1) := by decide +kernel
theorem dX10_share_1 : decode cX10_share 1 = .ok (.getfield 19, 3) := by decide +kernel
theorem dX10_share_4 : decode cX10_share 4 = .ok (.iload_n 1, 1) := by decide +kernel
theorem dX10_share_5 : decode cX10_share 5 = .ok (.invokevirtual 109, 3) := by decide +kernel
theorem dX10_share_8 : decode cX10_share 8 = .ok (.ifCond .eq 23, 3) := by decide +kernel
theorem dX10_share_11 : decode cX10_share 11 = .ok (.aload_n 0, 1) := by decide +kernel
theorem dX10_share_12 : decode cX10_share 12 = .ok (.getfield 10, 3) := by decide +kernel
theorem dX10_share_15 : decode cX10_share 15 = .ok (.iload_n 2, 1) := by decide +kernel
theorem dX10_share_16 : decode cX10_share 16 = .ok (.invokevirtual 98, 3) := by decide +kernel
theorem dX10_share_19 : decode cX10_share 19 = .ok (.ifCond .eq 12, 3) := by decide +kernel
theorem dX10_share_22 : decode cX10_share 22 = .ok (.iload_n 3, 1) := by decide +kernel
theorem dX10_share_23 : decode cX10_share 23 = .ok (.bipush 30, 2) := by decide +kernel
theorem dX10_share_25 : decode cX10_share 25 = .ok (.invokestatic 87, 3) := by decide +kernel
theorem dX10_share_28 : decode cX10_share 28 = .ok (.ifCond .ne 5, 3) := by decide +kernel
theorem dX10_share_31 : decode cX10_share 31 = .ok (.iconst (-1), 1) := by decide +kernel
theorem dX10_share_32 : decode cX10_share 32 = .ok (.ireturn, 1) := by decide +kernel
theorem dX10_share_33 : decode cX10_share 33 = .ok (.aload_n 0, 1) := by decide +kernel
theorem dX10_share_34 : decode cX10_share 34 = .ok (.getfield 53, 3) := by decide +kernel
theorem dX10_share_37 : decode cX10_share 37 = .ok (.iload_n 1, 1) := by decide +kernel
theorem dX10_share_38 : decode cX10_share 38 = .ok (.iload_n 2, 1) := by decide +kernel
theorem dX10_share_39 : decode cX10_share 39 = .ok (.iload_n 3, 1) := by decide +kernel
theorem dX10_share_40 : decode cX10_share 40 = .ok (.invokevirtual 210, 3) := by decide +kernel
theorem dX10_share_43 : decode cX10_share 43 = .ok (.ireturn, 1) := by decide +kernel
set_option maxRecDepth 20000 in
theorem ggX10_given_X2_hasRow : GoodIn wsX10_given wsX2_hasRow := goodIn_r _ [8, 9, 10, 11, 12, 7, 13, 14, 15, 16, 95, 96, 97, 98, 99, 100, 101, 102, 103, 104, 105, 106] (by decide +kernel) (by decide +kernel)
set_option maxRecDepth 20000 in
theorem gX10_given_X2_hasRow : GoodIn wsX10_given (wsV RX10 213 RX2 yX2_hasRow wsX2_hasRow) := goodIn_app (goodIn_of _ (by decide +kernel)) ggX10_given_X2_hasRow
set_option maxRecDepth 20000 in
theorem ggX10_given_X4_hasRow : GoodIn wsX10_given wsX4_hasRow := goodIn_r _ [21, 22, 23, 24, 25, 20, 26, 14, 15, 16, 107, 108, 109, 110, 111] (by decide +kernel) (by decide +kernel)
set_option maxRecDepth 20000 in
theorem gX10_given_X4_hasRow : GoodIn wsX10_given (wsV RX10 216 RX4 yX4_hasRow wsX4_hasRow) := goodIn_app (goodIn_of _ (by decide +kernel)) ggX10_given_X4_hasRow
set_option maxRecDepth 20000 in
theorem ggX10_given_X0_weigh : GoodIn wsX10_given wsX0_weigh := goodIn_r _ [31, 32, 33, 34, 35, 36, 37, 38, 39, 40, 41, 42, 43, 44, 20, 45, 46, 23, 24, 25, 26, 22, 14, 15, 16, 47, 48, 49, 7, 50, 51, 52, 53, 54, 55, 56, 57, 58, 10, 11, 12, 13, 9, 59, 60, 61, 30, 62, 63, 64, 65, 66, 67, 68, 69, 70, 71, 72, 73, 74, 112, 113, 114, 107, 108, 109, 110, 111, 95, 96, 97, 98, 99, 100, 101, 102, 103, 104, 105, 106] (by decide +kernel) (by decide +kernel)
set_option maxRecDepth 20000 in
theorem gX10_given_X0_weigh : GoodIn wsX10_given (wsV RX10 217 RX0 yX0_weigh wsX0_weigh) := goodIn_app (goodIn_of _ (by decide +kernel)) ggX10_given_X0_weigh
set_option maxRecDepth 20000 in
theorem ggX10_given_X0_leastSum : GoodIn wsX10_given wsX0_leastSum := goodIn_r _ [78, 41, 39, 112, 113, 114] (by decide +kernel) (by decide +kernel)
set_option maxRecDepth 20000 in
theorem gX10_given_X0_leastSum : GoodIn wsX10_given (wsV RX10 221 RX0 yX0_leastSum wsX0_leastSum) := goodIn_app (goodIn_of _ (by decide +kernel)) ggX10_given_X0_leastSum
set_option maxRecDepth 20000 in
theorem ggX10_given_X0_choice : GoodIn wsX10_given wsX0_choice := goodIn_r _ [82, 39, 59, 60, 61, 30, 62, 63, 64, 65, 66, 67, 40, 41, 68, 69, 70, 71, 72, 73, 74, 14, 15, 16, 112, 113, 114] (by decide +kernel) (by decide +kernel)
set_option maxRecDepth 20000 in
theorem gX10_given_X0_choice : GoodIn wsX10_given (wsV RX10 224 RX0 yX0_choice wsX0_choice) := goodIn_app (goodIn_of _ (by decide +kernel)) ggX10_given_X0_choice
theorem dX10_given_0 : decode cX10_given 0 = .ok (.iload_n 3, 1) := by decide +kernel
theorem dX10_given_1 : decode cX10_given 1 = .ok (.iconst 1, 1) := by decide +kernel
theorem dX10_given_2 : decode cX10_given 2 = .ok (.if_icmp .lt 48, 3) := by decide +kernel
theorem dX10_given_5 : decode cX10_given 5 = .ok (.iload_n 3, 1) := by decide +kernel
theorem dX10_given_6 : decode cX10_given 6 = .ok (.iconst 5, 1) := by decide +kernel
theorem dX10_given_7 : decode cX10_given 7 = .ok (.if_icmp .gt 43, 3) := by decide +kernel
theorem dX10_given_10 : decode cX10_given 10 = .ok (.iload 4, 2) := by decide +kernel
theorem dX10_given_12 : decode cX10_given 12 = .ok (.iconst (-1), 1) := by decide +kernel
theorem dX10_given_13 : decode cX10_given 13 = .ok (.if_icmp .lt 37, 3) := by decide +kernel
theorem dX10_given_16 : decode cX10_given 16 = .ok (.iload 4, 2) := by decide +kernel
theorem dX10_given_18 : decode cX10_given 18 = .ok (.iload_n 3, 1) := by decide +kernel
theorem dX10_given_19 : decode cX10_given 19 = .ok (.if_icmp .ge 31, 3) := by decide +kernel
theorem dX10_given_22 : decode cX10_given 22 = .ok (.aload_n 0, 1) := by decide +kernel
theorem dX10_given_23 : decode cX10_given 23 = .ok (.getfield 19, 3) := by decide +kernel
theorem dX10_given_26 : decode cX10_given 26 = .ok (.iload_n 1, 1) := by decide +kernel
theorem dX10_given_27 : decode cX10_given 27 = .ok (.iload_n 3, 1) := by decide +kernel
theorem dX10_given_28 : decode cX10_given 28 = .ok (.invokevirtual 213, 3) := by decide +kernel
theorem dX10_given_31 : decode cX10_given 31 = .ok (.ifCond .eq 19, 3) := by decide +kernel
theorem dX10_given_34 : decode cX10_given 34 = .ok (.aload_n 0, 1) := by decide +kernel
theorem dX10_given_35 : decode cX10_given 35 = .ok (.getfield 10, 3) := by decide +kernel
theorem dX10_given_38 : decode cX10_given 38 = .ok (.iload_n 2, 1) := by decide +kernel
theorem dX10_given_39 : decode cX10_given 39 = .ok (.iload_n 3, 1) := by decide +kernel
theorem dX10_given_40 : decode cX10_given 40 = .ok (.invokevirtual 216, 3) := by decide +kernel
theorem dX10_given_43 : decode cX10_given 43 = .ok (.ifCond .eq 7, 3) := by decide +kernel
theorem dX10_given_46 : decode cX10_given 46 = .ok (.iconst 1, 1) := by decide +kernel
theorem dX10_given_47 : decode cX10_given 47 = .ok (.goto 4, 3) := by decide +kernel
theorem dX10_given_50 : decode cX10_given 50 = .ok (.iconst 0, 1) := by decide +kernel
theorem dX10_given_51 : decode cX10_given 51 = .ok (.istore 5, 2) := by decide +kernel
theorem dX10_given_53 : decode cX10_given 53 = .ok (.iload 5, 2) := by decide +kernel
theorem dX10_given_55 : decode cX10_given 55 = .ok (.ifCond .ne 5, 3) := by decide +kernel
theorem dX10_given_58 : decode cX10_given 58 = .ok (.iconst (-1), 1) := by decide +kernel
theorem dX10_given_59 : decode cX10_given 59 = .ok (.ireturn, 1) := by decide +kernel
theorem dX10_given_60 : decode cX10_given 60 = .ok (.aload_n 0, 1) := by decide +kernel
theorem dX10_given_61 : decode cX10_given 61 = .ok (.getfield 60, 3) := by decide +kernel
theorem dX10_given_64 : decode cX10_given 64 = .ok (.iload_n 1, 1) := by decide +kernel
theorem dX10_given_65 : decode cX10_given 65 = .ok (.iload_n 2, 1) := by decide +kernel
theorem dX10_given_66 : decode cX10_given 66 = .ok (.iload_n 3, 1) := by decide +kernel
theorem dX10_given_67 : decode cX10_given 67 = .ok (.aload_n 0, 1) := by decide +kernel
theorem dX10_given_68 : decode cX10_given 68 = .ok (.getfield 19, 3) := by decide +kernel
theorem dX10_given_71 : decode cX10_given 71 = .ok (.aload_n 0, 1) := by decide +kernel
theorem dX10_given_72 : decode cX10_given 72 = .ok (.getfield 10, 3) := by decide +kernel
theorem dX10_given_75 : decode cX10_given 75 = .ok (.invokevirtual 217, 3) := by decide +kernel
theorem dX10_given_78 : decode cX10_given 78 = .ok (.iload 4, 2) := by decide +kernel
theorem dX10_given_80 : decode cX10_given 80 = .ok (.iconst (-1), 1) := by decide +kernel
theorem dX10_given_81 : decode cX10_given 81 = .ok (.if_icmp .ne 13, 3) := by decide +kernel
theorem dX10_given_84 : decode cX10_given 84 = .ok (.aload_n 0, 1) := by decide +kernel
theorem dX10_given_85 : decode cX10_given 85 = .ok (.getfield 60, 3) := by decide +kernel
theorem dX10_given_88 : decode cX10_given 88 = .ok (.invokevirtual 221, 3) := by decide +kernel
theorem dX10_given_91 : decode cX10_given 91 = .ok (.goto 14, 3) := by decide +kernel
theorem dX10_given_94 : decode cX10_given 94 = .ok (.iload_n 2, 1) := by decide +kernel
theorem dX10_given_95 : decode cX10_given 95 = .ok (.aload_n 0, 1) := by decide +kernel
theorem dX10_given_96 : decode cX10_given 96 = .ok (.getfield 60, 3) := by decide +kernel
theorem dX10_given_99 : decode cX10_given 99 = .ok (.iload 4, 2) := by decide +kernel
theorem dX10_given_101 : decode cX10_given 101 = .ok (.invokevirtual 224, 3) := by decide +kernel
theorem dX10_given_104 : decode cX10_given 104 = .ok (.iadd, 1) := by decide +kernel
theorem dX10_given_105 : decode cX10_given 105 = .ok (.ireturn, 1) := by decide +kernel
set_option maxRecDepth 20000 in
theorem ggX10_rings_X10_ringsClose : GoodIn wsX10_rings wsX10_ringsClose := goodIn_r _ [6, 7, 1, 8, 9, 10, 11, 12, 13, 14, 15, 16, 17, 18, 19, 5, 20, 21, 22, 23, 24, 25, 26, 27, 28, 29, 30, 31, 32, 33, 34, 35, 36, 37, 38, 39, 40, 41, 42, 43, 44, 45, 46, 47, 48, 49, 50, 51, 52, 53, 54, 55, 56, 57, 58, 59, 60, 61, 62, 63, 64, 65, 66, 67, 68, 69, 70, 71, 72, 73, 74, 75, 76, 77, 78, 79, 84, 85, 86, 87, 88, 89, 90, 91, 92, 93, 94, 95, 103, 104, 105, 106, 107, 96, 97, 98, 99, 100, 101, 102, 108, 109, 110, 111, 112, 113, 114, 115, 116, 117, 118, 119] (by decide +kernel) (by decide +kernel)
set_option maxRecDepth 20000 in
theorem gX10_rings_X10_ringsClose : GoodIn wsX10_rings (wsV RX10 227 RX10 yX10_ringsClose wsX10_ringsClose) := goodIn_app (goodIn_of _ (by decide +kernel)) ggX10_rings_X10_ringsClose
set_option maxRecDepth 20000 in
theorem ggX10_rings_X6_fieldFor : GoodIn wsX10_rings wsX6_fieldFor := goodIn_r _ [83, 33, 38, 19, 5, 20, 96, 97, 98, 99, 100, 101, 102] (by decide +kernel) (by decide +kernel)
set_option maxRecDepth 20000 in
theorem gX10_rings_X6_fieldFor : GoodIn wsX10_rings (wsV RX10 233 RX6 yX6_fieldFor wsX6_fieldFor) := goodIn_app (goodIn_of _ (by decide +kernel)) ggX10_rings_X6_fieldFor
theorem dX10_rings_0 : decode cX10_rings 0 = .ok (.iload_n 3, 1) := by decide +kernel
theorem dX10_rings_1 : decode cX10_rings 1 = .ok (.iconst (-1), 1) := by decide +kernel
theorem dX10_rings_2 : decode cX10_rings 2 = .ok (.if_icmp .lt 17, 3) := by decide +kernel
theorem dX10_rings_5 : decode cX10_rings 5 = .ok (.iload_n 3, 1) := by decide +kernel
theorem dX10_rings_6 : decode cX10_rings 6 = .ok (.iload_n 2, 1) := by decide +kernel
theorem dX10_rings_7 : decode cX10_rings 7 = .ok (.if_icmp .ge 12, 3) := by decide +kernel
theorem dX10_rings_10 : decode cX10_rings 10 = .ok (.aload_n 0, 1) := by decide +kernel
theorem dX10_rings_11 : decode cX10_rings 11 = .ok (.iload_n 1, 1) := by decide +kernel
theorem dX10_rings_12 : decode cX10_rings 12 = .ok (.iload_n 2, 1) := by decide +kernel
theorem dX10_rings_13 : decode cX10_rings 13 = .ok (.invokevirtual 227, 3) := by decide +kernel
theorem dX10_rings_16 : decode cX10_rings 16 = .ok (.ifCond .ne 5, 3) := by decide +kernel
theorem dX10_rings_19 : decode cX10_rings 19 = .ok (.iconst (-1), 1) := by decide +kernel
theorem dX10_rings_20 : decode cX10_rings 20 = .ok (.ireturn, 1) := by decide +kernel
theorem dX10_rings_21 : decode cX10_rings 21 = .ok (.iload_n 3, 1) := by decide +kernel
theorem dX10_rings_22 : decode cX10_rings 22 = .ok (.iconst (-1), 1) := by decide +kernel
theorem dX10_rings_23 : decode cX10_rings 23 = .ok (.if_icmp .ne 13, 3) := by decide +kernel
theorem dX10_rings_26 : decode cX10_rings 26 = .ok (.aload_n 0, 1) := by decide +kernel
theorem dX10_rings_27 : decode cX10_rings 27 = .ok (.getfield 67, 3) := by decide +kernel
theorem dX10_rings_30 : decode cX10_rings 30 = .ok (.getfield 230, 3) := by decide +kernel
theorem dX10_rings_33 : decode cX10_rings 33 = .ok (.goto 11, 3) := by decide +kernel
theorem dX10_rings_36 : decode cX10_rings 36 = .ok (.aload_n 0, 1) := by decide +kernel
theorem dX10_rings_37 : decode cX10_rings 37 = .ok (.getfield 67, 3) := by decide +kernel
theorem dX10_rings_40 : decode cX10_rings 40 = .ok (.iload_n 3, 1) := by decide +kernel
theorem dX10_rings_41 : decode cX10_rings 41 = .ok (.invokevirtual 233, 3) := by decide +kernel
theorem dX10_rings_44 : decode cX10_rings 44 = .ok (.ireturn, 1) := by decide +kernel
set_option maxRecDepth 20000 in
theorem ggX10_swap_X10_ringsClose : GoodIn wsX10_swap wsX10_ringsClose := goodIn_r _ [7, 8, 1, 2, 9, 10, 11, 12, 13, 14, 15, 16, 17, 18, 19, 6, 20, 21, 22, 23, 24, 25, 26, 27, 28, 29, 30, 31, 32, 33, 34, 35, 36, 37, 38, 39, 40, 41, 42, 43, 44, 45, 46, 47, 48, 49, 50, 51, 52, 53, 54, 55, 56, 57, 58, 59, 60, 61, 62, 63, 64, 65, 66, 67, 68, 69, 70, 71, 72, 73, 74, 75, 76, 77, 78, 79, 101, 102, 103, 104, 105, 106, 107, 108, 109, 110, 111, 112, 125, 126, 127, 128, 129, 130, 131, 132, 133, 134, 135, 136, 113, 114, 115, 116, 117, 118, 119, 120, 121, 122, 123, 124] (by decide +kernel) (by decide +kernel)
set_option maxRecDepth 20000 in
theorem gX10_swap_X10_ringsClose : GoodIn wsX10_swap (wsV RX10 227 RX10 yX10_ringsClose wsX10_ringsClose) := goodIn_app (goodIn_of _ (by decide +kernel)) ggX10_swap_X10_ringsClose
set_option maxRecDepth 20000 in
theorem ggX10_swap_X6_changes : GoodIn wsX10_swap wsX6_changes := goodIn_r _ [83, 33, 38, 36, 130, 131, 132, 133, 134, 135, 136] (by decide +kernel) (by decide +kernel)
set_option maxRecDepth 20000 in
theorem gX10_swap_X6_changes : GoodIn wsX10_swap (wsV RX10 236 RX6 yX6_changes wsX6_changes) := goodIn_app (goodIn_of _ (by decide +kernel)) ggX10_swap_X6_changes
set_option maxRecDepth 20000 in
theorem ggX10_swap_X2_transfersLeft : GoodIn wsX10_swap wsX2_transfersLeft := goodIn_r _ [87, 88, 113, 114, 115, 116, 117, 118, 119, 120, 121, 122, 123, 124] (by decide +kernel) (by decide +kernel)
set_option maxRecDepth 20000 in
theorem gX10_swap_X2_transfersLeft : GoodIn wsX10_swap (wsV RX10 114 RX2 yX2_transfersLeft wsX2_transfersLeft) := goodIn_app (goodIn_of _ (by decide +kernel)) ggX10_swap_X2_transfersLeft
set_option maxRecDepth 20000 in
theorem ggX10_swap_X6_winnerOf : GoodIn wsX10_swap wsX6_winnerOf := goodIn_r _ [92, 33, 38, 36, 130, 131, 132, 133, 134, 135, 136] (by decide +kernel) (by decide +kernel)
set_option maxRecDepth 20000 in
theorem gX10_swap_X6_winnerOf : GoodIn wsX10_swap (wsV RX10 240 RX6 yX6_winnerOf wsX6_winnerOf) := goodIn_app (goodIn_of _ (by decide +kernel)) ggX10_swap_X6_winnerOf
set_option maxRecDepth 20000 in
theorem ggX10_swap_X2_move : GoodIn wsX10_swap wsX2_move := goodIn_r _ [96, 88, 97, 98, 99, 100, 51, 57, 58, 59, 48, 60, 50, 19, 6, 20, 113, 114, 115, 116, 117, 118, 119, 120, 121, 122, 123, 124] (by decide +kernel) (by decide +kernel)
set_option maxRecDepth 20000 in
theorem gX10_swap_X2_move : GoodIn wsX10_swap (wsV RX10 118 RX2 yX2_move wsX2_move) := goodIn_app (goodIn_of _ (by decide +kernel)) ggX10_swap_X2_move
theorem dX10_swap_0 : decode cX10_swap 0 = .ok (.aload_n 0, 1) := by decide +kernel
theorem dX10_swap_1 : decode cX10_swap 1 = .ok (.iload_n 1, 1) := by decide +kernel
theorem dX10_swap_2 : decode cX10_swap 2 = .ok (.iload_n 2, 1) := by decide +kernel
theorem dX10_swap_3 : decode cX10_swap 3 = .ok (.invokevirtual 227, 3) := by decide +kernel
theorem dX10_swap_6 : decode cX10_swap 6 = .ok (.ifCond .ne 5, 3) := by decide +kernel
theorem dX10_swap_9 : decode cX10_swap 9 = .ok (.iconst (-1), 1) := by decide +kernel
theorem dX10_swap_10 : decode cX10_swap 10 = .ok (.ireturn, 1) := by decide +kernel
theorem dX10_swap_11 : decode cX10_swap 11 = .ok (.aload_n 0, 1) := by decide +kernel
theorem dX10_swap_12 : decode cX10_swap 12 = .ok (.getfield 67, 3) := by decide +kernel
theorem dX10_swap_15 : decode cX10_swap 15 = .ok (.invokevirtual 236, 3) := by decide +kernel
theorem dX10_swap_18 : decode cX10_swap 18 = .ok (.istore_n 3, 1) := by decide +kernel
theorem dX10_swap_19 : decode cX10_swap 19 = .ok (.iload_n 3, 1) := by decide +kernel
theorem dX10_swap_20 : decode cX10_swap 20 = .ok (.aload_n 0, 1) := by decide +kernel
theorem dX10_swap_21 : decode cX10_swap 21 = .ok (.getfield 19, 3) := by decide +kernel
theorem dX10_swap_24 : decode cX10_swap 24 = .ok (.invokevirtual 114, 3) := by decide +kernel
theorem dX10_swap_27 : decode cX10_swap 27 = .ok (.if_icmp .le 5, 3) := by decide +kernel
theorem dX10_swap_30 : decode cX10_swap 30 = .ok (.iconst (-1), 1) := by decide +kernel
theorem dX10_swap_31 : decode cX10_swap 31 = .ok (.ireturn, 1) := by decide +kernel
theorem dX10_swap_32 : decode cX10_swap 32 = .ok (.iconst 0, 1) := by decide +kernel
theorem dX10_swap_33 : decode cX10_swap 33 = .ok (.istore 4, 2) := by decide +kernel
theorem dX10_swap_35 : decode cX10_swap 35 = .ok (.iload 4, 2) := by decide +kernel
theorem dX10_swap_37 : decode cX10_swap 37 = .ok (.aload_n 0, 1) := by decide +kernel
theorem dX10_swap_38 : decode cX10_swap 38 = .ok (.getfield 19, 3) := by decide +kernel
theorem dX10_swap_41 : decode cX10_swap 41 = .ok (.getfield 239, 3) := by decide +kernel
theorem dX10_swap_44 : decode cX10_swap 44 = .ok (.if_icmp .ge 39, 3) := by decide +kernel
theorem dX10_swap_47 : decode cX10_swap 47 = .ok (.aload_n 0, 1) := by decide +kernel
theorem dX10_swap_48 : decode cX10_swap 48 = .ok (.getfield 67, 3) := by decide +kernel
theorem dX10_swap_51 : decode cX10_swap 51 = .ok (.iload 4, 2) := by decide +kernel
theorem dX10_swap_53 : decode cX10_swap 53 = .ok (.invokevirtual 240, 3) := by decide +kernel
theorem dX10_swap_56 : decode cX10_swap 56 = .ok (.istore 5, 2) := by decide +kernel
theorem dX10_swap_58 : decode cX10_swap 58 = .ok (.iload 5, 2) := by decide +kernel
theorem dX10_swap_60 : decode cX10_swap 60 = .ok (.iconst (-1), 1) := by decide +kernel
theorem dX10_swap_61 : decode cX10_swap 61 = .ok (.if_icmp .eq 16, 3) := by decide +kernel
theorem dX10_swap_64 : decode cX10_swap 64 = .ok (.aload_n 0, 1) := by decide +kernel
theorem dX10_swap_65 : decode cX10_swap 65 = .ok (.getfield 19, 3) := by decide +kernel
theorem dX10_swap_68 : decode cX10_swap 68 = .ok (.iload 4, 2) := by decide +kernel
theorem dX10_swap_70 : decode cX10_swap 70 = .ok (.iload_n 1, 1) := by decide +kernel
theorem dX10_swap_71 : decode cX10_swap 71 = .ok (.iload 5, 2) := by decide +kernel
theorem dX10_swap_73 : decode cX10_swap 73 = .ok (.iadd, 1) := by decide +kernel
theorem dX10_swap_74 : decode cX10_swap 74 = .ok (.invokevirtual 118, 3) := by decide +kernel
theorem dX10_swap_77 : decode cX10_swap 77 = .ok (.iinc 4 1, 3) := by decide +kernel
theorem dX10_swap_80 : decode cX10_swap 80 = .ok (.goto (-45), 3) := by decide +kernel
theorem dX10_swap_83 : decode cX10_swap 83 = .ok (.iload_n 3, 1) := by decide +kernel
theorem dX10_swap_84 : decode cX10_swap 84 = .ok (.ireturn, 1) := by decide +kernel
set_option maxRecDepth 20000 in
theorem ggX10_sell_X2_has : GoodIn wsX10_sell wsX2_has := goodIn_r _ [13, 14, 15, 16, 17, 92, 93, 94, 95, 96, 97, 98, 99, 100, 101, 102, 103] (by decide +kernel) (by decide +kernel)
set_option maxRecDepth 20000 in
theorem gX10_sell_X2_has : GoodIn wsX10_sell (wsV RX10 109 RX2 yX2_has wsX2_has) := goodIn_app (goodIn_of _ (by decide +kernel)) ggX10_sell_X2_has
set_option maxRecDepth 20000 in
theorem ggX10_sell_X4_has : GoodIn wsX10_sell wsX4_has := goodIn_r _ [22, 23, 15, 16, 17, 104, 105, 106, 107, 108] (by decide +kernel) (by decide +kernel)
set_option maxRecDepth 20000 in
theorem gX10_sell_X4_has : GoodIn wsX10_sell (wsV RX10 98 RX4 yX4_has wsX4_has) := goodIn_app (goodIn_of _ (by decide +kernel)) ggX10_sell_X4_has
set_option maxRecDepth 20000 in
theorem ggX10_sell_X2_standardOf : GoodIn wsX10_sell wsX2_standardOf := goodIn_r _ [27, 28, 29, 30, 12, 31, 32, 33, 10, 11, 13, 14, 15, 16, 17, 34, 35, 36, 37, 38, 39, 40, 41, 42, 43, 44, 92, 93, 94, 95, 96, 97, 98, 99, 100, 101, 102, 103, 74, 75, 76, 77, 78, 79, 80, 81, 82] (by decide +kernel) (by decide +kernel)
set_option maxRecDepth 20000 in
theorem gX10_sell_X2_standardOf : GoodIn wsX10_sell (wsV RX10 154 RX2 yX2_standardOf wsX2_standardOf) := goodIn_app (goodIn_of _ (by decide +kernel)) ggX10_sell_X2_standardOf
set_option maxRecDepth 20000 in
theorem ggX10_sell_X7_init : GoodIn wsX10_sell wsX7_init := goodIn_r _ [47, 48, 49, 50, 51, 52, 53, 54, 55, 56, 57, 58, 59, 60, 61, 83, 84, 85, 86, 87, 88, 89, 90, 91] (by decide +kernel) (by decide +kernel)
set_option maxRecDepth 20000 in
theorem gX10_sell_X7_init : GoodIn wsX10_sell (wsX7_init) := ggX10_sell_X7_init
theorem dX10_sell_0 : decode cX10_sell 0 = .ok (.aload_n 0, 1) := by decide +kernel
theorem dX10_sell_1 : decode cX10_sell 1 = .ok (.getfield 19, 3) := by decide +kernel
theorem dX10_sell_4 : decode cX10_sell 4 = .ok (.iload_n 1, 1) := by decide +kernel
theorem dX10_sell_5 : decode cX10_sell 5 = .ok (.invokevirtual 109, 3) := by decide +kernel
theorem dX10_sell_8 : decode cX10_sell 8 = .ok (.ifCond .eq 23, 3) := by decide +kernel
theorem dX10_sell_11 : decode cX10_sell 11 = .ok (.aload_n 0, 1) := by decide +kernel
theorem dX10_sell_12 : decode cX10_sell 12 = .ok (.getfield 10, 3) := by decide +kernel
theorem dX10_sell_15 : decode cX10_sell 15 = .ok (.iload_n 2, 1) := by decide +kernel
theorem dX10_sell_16 : decode cX10_sell 16 = .ok (.invokevirtual 98, 3) := by decide +kernel
theorem dX10_sell_19 : decode cX10_sell 19 = .ok (.ifCond .eq 12, 3) := by decide +kernel
theorem dX10_sell_22 : decode cX10_sell 22 = .ok (.aload_n 0, 1) := by decide +kernel
theorem dX10_sell_23 : decode cX10_sell 23 = .ok (.getfield 243, 3) := by decide +kernel
theorem dX10_sell_26 : decode cX10_sell 26 = .ok (.bipush 20, 2) := by decide +kernel
end
section
theorem dX10_sell_28 : decode cX10_sell 28 = .ok (.if_icmp .lt 5, 3) := by decide +kernel
theorem dX10_sell_31 : decode cX10_sell 31 = .ok (.iconst (-1), 1) := by decide +kernel
theorem dX10_sell_32 : decode cX10_sell 32 = .ok (.ireturn, 1) := by decide +kernel
theorem dX10_sell_33 : decode cX10_sell 33 = .ok (.aload_n 0, 1) := by decide +kernel
theorem dX10_sell_34 : decode cX10_sell 34 = .ok (.getfield 80, 3) := by decide +kernel
theorem dX10_sell_37 : decode cX10_sell 37 = .ok (.getfield 246, 3) := by decide +kernel
theorem dX10_sell_40 : decode cX10_sell 40 = .ok (.aload_n 0, 1) := by decide +kernel
theorem dX10_sell_41 : decode cX10_sell 41 = .ok (.getfield 19, 3) := by decide +kernel
theorem dX10_sell_44 : decode cX10_sell 44 = .ok (.iload_n 1, 1) := by decide +kernel
theorem dX10_sell_45 : decode cX10_sell 45 = .ok (.aload_n 0, 1) := by decide +kernel
theorem dX10_sell_46 : decode cX10_sell 46 = .ok (.getfield 80, 3) := by decide +kernel
theorem dX10_sell_49 : decode cX10_sell 49 = .ok (.invokevirtual 154, 3) := by decide +kernel
theorem dX10_sell_52 : decode cX10_sell 52 = .ok (.imul, 1) := by decide +kernel
theorem dX10_sell_53 : decode cX10_sell 53 = .ok (.istore_n 3, 1) := by decide +kernel
theorem dX10_sell_54 : decode cX10_sell 54 = .ok (.aload_n 0, 1) := by decide +kernel
theorem dX10_sell_55 : decode cX10_sell 55 = .ok (.getfield 73, 3) := by decide +kernel
theorem dX10_sell_58 : decode cX10_sell 58 = .ok (.aload_n 0, 1) := by decide +kernel
theorem dX10_sell_59 : decode cX10_sell 59 = .ok (.getfield 243, 3) := by decide +kernel
theorem dX10_sell_62 : decode cX10_sell 62 = .ok (.new 71, 3) := by decide +kernel
theorem dX10_sell_65 : decode cX10_sell 65 = .ok (.dup, 1) := by decide +kernel
theorem dX10_sell_66 : decode cX10_sell 66 = .ok (.iload_n 1, 1) := by decide +kernel
theorem dX10_sell_67 : decode cX10_sell 67 = .ok (.iload_n 2, 1) := by decide +kernel
theorem dX10_sell_68 : decode cX10_sell 68 = .ok (.iload_n 3, 1) := by decide +kernel
theorem dX10_sell_69 : decode cX10_sell 69 = .ok (.aload_n 0, 1) := by decide +kernel
theorem dX10_sell_70 : decode cX10_sell 70 = .ok (.getfield 80, 3) := by decide +kernel
theorem dX10_sell_73 : decode cX10_sell 73 = .ok (.getfield 249, 3) := by decide +kernel
theorem dX10_sell_76 : decode cX10_sell 76 = .ok (.invokespecial 252, 3) := by decide +kernel
theorem dX10_sell_79 : decode cX10_sell 79 = .ok (.aastore, 1) := by decide +kernel
theorem dX10_sell_80 : decode cX10_sell 80 = .ok (.aload_n 0, 1) := by decide +kernel
theorem dX10_sell_81 : decode cX10_sell 81 = .ok (.dup, 1) := by decide +kernel
theorem dX10_sell_82 : decode cX10_sell 82 = .ok (.getfield 243, 3) := by decide +kernel
theorem dX10_sell_85 : decode cX10_sell 85 = .ok (.iconst 1, 1) := by decide +kernel
theorem dX10_sell_86 : decode cX10_sell 86 = .ok (.iadd, 1) := by decide +kernel
theorem dX10_sell_87 : decode cX10_sell 87 = .ok (.putfield 243, 3) := by decide +kernel
theorem dX10_sell_90 : decode cX10_sell 90 = .ok (.aload_n 0, 1) := by decide +kernel
theorem dX10_sell_91 : decode cX10_sell 91 = .ok (.getfield 243, 3) := by decide +kernel
theorem dX10_sell_94 : decode cX10_sell 94 = .ok (.iconst 1, 1) := by decide +kernel
theorem dX10_sell_95 : decode cX10_sell 95 = .ok (.isub, 1) := by decide +kernel
theorem dX10_sell_96 : decode cX10_sell 96 = .ok (.ireturn, 1) := by decide +kernel
set_option maxRecDepth 20000 in
theorem ggX10_year_X10_saleNumbered : GoodIn wsX10_year wsX10_saleNumbered := goodIn_r _ [5, 6, 7, 8, 9, 4, 10, 22, 23, 24, 25, 26, 27, 28, 29, 30, 31, 32, 33] (by decide +kernel) (by decide +kernel)
set_option maxRecDepth 20000 in
theorem gX10_year_X10_saleNumbered : GoodIn wsX10_year (wsV RX10 255 RX10 yX10_saleNumbered wsX10_saleNumbered) := goodIn_app (goodIn_of _ (by decide +kernel)) ggX10_year_X10_saleNumbered
set_option maxRecDepth 20000 in
theorem ggX10_year_X7_pass : GoodIn wsX10_year wsX7_pass := goodIn_r _ [15, 16, 17, 18, 19, 20, 21, 34, 35, 36, 37, 38, 39, 40, 41, 42] (by decide +kernel) (by decide +kernel)
set_option maxRecDepth 20000 in
theorem gX10_year_X7_pass : GoodIn wsX10_year (wsV RX10 259 RX7 yX7_pass wsX7_pass) := goodIn_app (goodIn_of _ (by decide +kernel)) ggX10_year_X7_pass
theorem dX10_year_0 : decode cX10_year 0 = .ok (.aload_n 0, 1) := by decide +kernel
theorem dX10_year_1 : decode cX10_year 1 = .ok (.iload_n 1, 1) := by decide +kernel
theorem dX10_year_2 : decode cX10_year 2 = .ok (.invokevirtual 255, 3) := by decide +kernel
theorem dX10_year_5 : decode cX10_year 5 = .ok (.astore_n 3, 1) := by decide +kernel
theorem dX10_year_6 : decode cX10_year 6 = .ok (.aload_n 3, 1) := by decide +kernel
theorem dX10_year_7 : decode cX10_year 7 = .ok (.ifnonnull 7, 3) := by decide +kernel
theorem dX10_year_10 : decode cX10_year 10 = .ok (.iconst (-1), 1) := by decide +kernel
theorem dX10_year_11 : decode cX10_year 11 = .ok (.goto 8, 3) := by decide +kernel
theorem dX10_year_14 : decode cX10_year 14 = .ok (.aload_n 3, 1) := by decide +kernel
theorem dX10_year_15 : decode cX10_year 15 = .ok (.iload_n 2, 1) := by decide +kernel
theorem dX10_year_16 : decode cX10_year 16 = .ok (.invokevirtual 259, 3) := by decide +kernel
theorem dX10_year_19 : decode cX10_year 19 = .ok (.ireturn, 1) := by decide +kernel
set_option maxRecDepth 20000 in
theorem ggX10_sale_X10_saleNumbered : GoodIn wsX10_sale wsX10_saleNumbered := goodIn_r _ [5, 6, 7, 8, 9, 4, 10, 20, 21, 22, 23, 24, 25, 26, 27, 28, 29, 30, 31] (by decide +kernel) (by decide +kernel)
set_option maxRecDepth 20000 in
theorem gX10_sale_X10_saleNumbered : GoodIn wsX10_sale (wsV RX10 255 RX10 yX10_saleNumbered wsX10_saleNumbered) := goodIn_app (goodIn_of _ (by decide +kernel)) ggX10_sale_X10_saleNumbered
theorem dX10_sale_0 : decode cX10_sale 0 = .ok (.aload_n 0, 1) := by decide +kernel
theorem dX10_sale_1 : decode cX10_sale 1 = .ok (.iload_n 1, 1) := by decide +kernel
theorem dX10_sale_2 : decode cX10_sale 2 = .ok (.invokevirtual 255, 3) := by decide +kernel
theorem dX10_sale_5 : decode cX10_sale 5 = .ok (.astore_n 3, 1) := by decide +kernel
theorem dX10_sale_6 : decode cX10_sale 6 = .ok (.aload_n 3, 1) := by decide +kernel
theorem dX10_sale_7 : decode cX10_sale 7 = .ok (.ifnonnull 5, 3) := by decide +kernel
theorem dX10_sale_10 : decode cX10_sale 10 = .ok (.iconst (-1), 1) := by decide +kernel
theorem dX10_sale_11 : decode cX10_sale 11 = .ok (.ireturn, 1) := by decide +kernel
theorem dX10_sale_12 : decode cX10_sale 12 = .ok (.iload_n 2, 1) := by decide +kernel
theorem dX10_sale_13 : decode cX10_sale 13 = .ok (.tableswitch 69 0 5 #[39, 44, 49, 54, 59, 64], 39) := by decide +kernel
theorem dX10_sale_52 : decode cX10_sale 52 = .ok (.aload_n 3, 1) := by decide +kernel
theorem dX10_sale_53 : decode cX10_sale 53 = .ok (.getfield 263, 3) := by decide +kernel
theorem dX10_sale_56 : decode cX10_sale 56 = .ok (.ireturn, 1) := by decide +kernel
theorem dX10_sale_57 : decode cX10_sale 57 = .ok (.aload_n 3, 1) := by decide +kernel
theorem dX10_sale_58 : decode cX10_sale 58 = .ok (.getfield 266, 3) := by decide +kernel
theorem dX10_sale_61 : decode cX10_sale 61 = .ok (.ireturn, 1) := by decide +kernel
theorem dX10_sale_62 : decode cX10_sale 62 = .ok (.aload_n 3, 1) := by decide +kernel
theorem dX10_sale_63 : decode cX10_sale 63 = .ok (.getfield 269, 3) := by decide +kernel
theorem dX10_sale_66 : decode cX10_sale 66 = .ok (.ireturn, 1) := by decide +kernel
theorem dX10_sale_67 : decode cX10_sale 67 = .ok (.aload_n 3, 1) := by decide +kernel
theorem dX10_sale_68 : decode cX10_sale 68 = .ok (.getfield 272, 3) := by decide +kernel
theorem dX10_sale_71 : decode cX10_sale 71 = .ok (.ireturn, 1) := by decide +kernel
theorem dX10_sale_72 : decode cX10_sale 72 = .ok (.aload_n 3, 1) := by decide +kernel
theorem dX10_sale_73 : decode cX10_sale 73 = .ok (.getfield 275, 3) := by decide +kernel
theorem dX10_sale_76 : decode cX10_sale 76 = .ok (.ireturn, 1) := by decide +kernel
theorem dX10_sale_77 : decode cX10_sale 77 = .ok (.aload_n 3, 1) := by decide +kernel
theorem dX10_sale_78 : decode cX10_sale 78 = .ok (.getfield 278, 3) := by decide +kernel
theorem dX10_sale_81 : decode cX10_sale 81 = .ok (.ireturn, 1) := by decide +kernel
theorem dX10_sale_82 : decode cX10_sale 82 = .ok (.iconst (-1), 1) := by decide +kernel
theorem dX10_sale_83 : decode cX10_sale 83 = .ok (.ireturn, 1) := by decide +kernel
theorem dX10_count_0 : decode cX10_count 0 = .ok (.iload_n 1, 1) := by decide +kernel
theorem dX10_count_1 : decode cX10_count 1 = .ok (.tableswitch 108 0 7 #[47, 55, 63, 71, 79, 87, 92, 100], 47) := by decide +kernel
theorem dX10_count_48 : decode cX10_count 48 = .ok (.aload_n 0, 1) := by decide +kernel
theorem dX10_count_49 : decode cX10_count 49 = .ok (.getfield 19, 3) := by decide +kernel
theorem dX10_count_52 : decode cX10_count 52 = .ok (.getfield 105, 3) := by decide +kernel
theorem dX10_count_55 : decode cX10_count 55 = .ok (.ireturn, 1) := by decide +kernel
theorem dX10_count_56 : decode cX10_count 56 = .ok (.aload_n 0, 1) := by decide +kernel
theorem dX10_count_57 : decode cX10_count 57 = .ok (.getfield 10, 3) := by decide +kernel
theorem dX10_count_60 : decode cX10_count 60 = .ok (.getfield 281, 3) := by decide +kernel
theorem dX10_count_63 : decode cX10_count 63 = .ok (.ireturn, 1) := by decide +kernel
theorem dX10_count_64 : decode cX10_count 64 = .ok (.aload_n 0, 1) := by decide +kernel
theorem dX10_count_65 : decode cX10_count 65 = .ok (.getfield 19, 3) := by decide +kernel
theorem dX10_count_68 : decode cX10_count 68 = .ok (.getfield 239, 3) := by decide +kernel
theorem dX10_count_71 : decode cX10_count 71 = .ok (.ireturn, 1) := by decide +kernel
theorem dX10_count_72 : decode cX10_count 72 = .ok (.aload_n 0, 1) := by decide +kernel
theorem dX10_count_73 : decode cX10_count 73 = .ok (.getfield 19, 3) := by decide +kernel
theorem dX10_count_76 : decode cX10_count 76 = .ok (.getfield 282, 3) := by decide +kernel
theorem dX10_count_79 : decode cX10_count 79 = .ok (.ireturn, 1) := by decide +kernel
theorem dX10_count_80 : decode cX10_count 80 = .ok (.aload_n 0, 1) := by decide +kernel
theorem dX10_count_81 : decode cX10_count 81 = .ok (.getfield 80, 3) := by decide +kernel
theorem dX10_count_84 : decode cX10_count 84 = .ok (.getfield 136, 3) := by decide +kernel
theorem dX10_count_87 : decode cX10_count 87 = .ok (.ireturn, 1) := by decide +kernel
theorem dX10_count_88 : decode cX10_count 88 = .ok (.aload_n 0, 1) := by decide +kernel
theorem dX10_count_89 : decode cX10_count 89 = .ok (.getfield 243, 3) := by decide +kernel
theorem dX10_count_92 : decode cX10_count 92 = .ok (.ireturn, 1) := by decide +kernel
theorem dX10_count_93 : decode cX10_count 93 = .ok (.aload_n 0, 1) := by decide +kernel
theorem dX10_count_94 : decode cX10_count 94 = .ok (.getfield 26, 3) := by decide +kernel
theorem dX10_count_97 : decode cX10_count 97 = .ok (.getfield 129, 3) := by decide +kernel
theorem dX10_count_100 : decode cX10_count 100 = .ok (.ireturn, 1) := by decide +kernel
theorem dX10_count_101 : decode cX10_count 101 = .ok (.aload_n 0, 1) := by decide +kernel
theorem dX10_count_102 : decode cX10_count 102 = .ok (.getfield 10, 3) := by decide +kernel
theorem dX10_count_105 : decode cX10_count 105 = .ok (.getfield 285, 3) := by decide +kernel
theorem dX10_count_108 : decode cX10_count 108 = .ok (.ireturn, 1) := by decide +kernel
theorem dX10_count_109 : decode cX10_count 109 = .ok (.iconst (-1), 1) := by decide +kernel
theorem dX10_count_110 : decode cX10_count 110 = .ok (.ireturn, 1) := by decide +kernel
set_option maxRecDepth 20000 in
theorem ggX10_ringsClose_X4_hasRow : GoodIn wsX10_ringsClose wsX4_hasRow := goodIn_r _ [8, 9, 10, 11, 12, 7, 13, 14, 15, 16, 88, 89, 90, 91, 92] (by decide +kernel) (by decide +kernel)
set_option maxRecDepth 20000 in
theorem gX10_ringsClose_X4_hasRow : GoodIn wsX10_ringsClose (wsV RX10 216 RX4 yX4_hasRow wsX4_hasRow) := goodIn_app (goodIn_of _ (by decide +kernel)) ggX10_ringsClose_X4_hasRow
set_option maxRecDepth 20000 in
theorem ggX10_ringsClose_X6_close : GoodIn wsX10_ringsClose wsX6_close := goodIn_r _ [21, 22, 23, 24, 25, 26, 27, 28, 29, 30, 31, 32, 33, 34, 35, 36, 37, 38, 7, 39, 40, 10, 11, 12, 13, 9, 14, 15, 16, 41, 42, 43, 44, 45, 46, 47, 48, 49, 50, 51, 52, 53, 54, 55, 56, 57, 58, 59, 20, 60, 61, 62, 63, 64, 65, 66, 67, 68, 69, 70, 71, 72, 73, 74, 75, 93, 94, 95, 96, 97, 98, 99, 88, 89, 90, 91, 92, 100, 101, 102, 103, 104, 105, 106, 107, 108, 109, 110, 111] (by decide +kernel) (by decide +kernel)
set_option maxRecDepth 20000 in
theorem gX10_ringsClose_X6_close : GoodIn wsX10_ringsClose (wsV RX10 288 RX6 yX6_close wsX6_close) := goodIn_app (goodIn_of _ (by decide +kernel)) ggX10_ringsClose_X6_close
theorem dX10_ringsClose_0 : decode cX10_ringsClose 0 = .ok (.iload_n 2, 1) := by decide +kernel
theorem dX10_ringsClose_1 : decode cX10_ringsClose 1 = .ok (.iconst 2, 1) := by decide +kernel
theorem dX10_ringsClose_2 : decode cX10_ringsClose 2 = .ok (.if_icmp .lt 21, 3) := by decide +kernel
theorem dX10_ringsClose_5 : decode cX10_ringsClose 5 = .ok (.iload_n 2, 1) := by decide +kernel
theorem dX10_ringsClose_6 : decode cX10_ringsClose 6 = .ok (.bipush 8, 2) := by decide +kernel
theorem dX10_ringsClose_8 : decode cX10_ringsClose 8 = .ok (.if_icmp .gt 15, 3) := by decide +kernel
theorem dX10_ringsClose_11 : decode cX10_ringsClose 11 = .ok (.aload_n 0, 1) := by decide +kernel
theorem dX10_ringsClose_12 : decode cX10_ringsClose 12 = .ok (.getfield 10, 3) := by decide +kernel
theorem dX10_ringsClose_15 : decode cX10_ringsClose 15 = .ok (.iload_n 1, 1) := by decide +kernel
theorem dX10_ringsClose_16 : decode cX10_ringsClose 16 = .ok (.iload_n 2, 1) := by decide +kernel
theorem dX10_ringsClose_17 : decode cX10_ringsClose 17 = .ok (.invokevirtual 216, 3) := by decide +kernel
theorem dX10_ringsClose_20 : decode cX10_ringsClose 20 = .ok (.ifCond .ne 5, 3) := by decide +kernel
theorem dX10_ringsClose_23 : decode cX10_ringsClose 23 = .ok (.iconst 0, 1) := by decide +kernel
theorem dX10_ringsClose_24 : decode cX10_ringsClose 24 = .ok (.ireturn, 1) := by decide +kernel
theorem dX10_ringsClose_25 : decode cX10_ringsClose 25 = .ok (.aload_n 0, 1) := by decide +kernel
theorem dX10_ringsClose_26 : decode cX10_ringsClose 26 = .ok (.getfield 67, 3) := by decide +kernel
theorem dX10_ringsClose_29 : decode cX10_ringsClose 29 = .ok (.iload_n 1, 1) := by decide +kernel
theorem dX10_ringsClose_30 : decode cX10_ringsClose 30 = .ok (.iload_n 2, 1) := by decide +kernel
theorem dX10_ringsClose_31 : decode cX10_ringsClose 31 = .ok (.aload_n 0, 1) := by decide +kernel
theorem dX10_ringsClose_32 : decode cX10_ringsClose 32 = .ok (.getfield 19, 3) := by decide +kernel
theorem dX10_ringsClose_35 : decode cX10_ringsClose 35 = .ok (.aload_n 0, 1) := by decide +kernel
theorem dX10_ringsClose_36 : decode cX10_ringsClose 36 = .ok (.getfield 10, 3) := by decide +kernel
theorem dX10_ringsClose_39 : decode cX10_ringsClose 39 = .ok (.invokevirtual 288, 3) := by decide +kernel
theorem dX10_ringsClose_42 : decode cX10_ringsClose 42 = .ok (.ireturn, 1) := by decide +kernel
set_option maxRecDepth 20000 in
theorem ggX10_saleNumbered_X10_isBelow : GoodIn wsX10_saleNumbered wsX10_isBelow := goodIn_r _ [6] (by decide +kernel) (by decide +kernel)
set_option maxRecDepth 20000 in
theorem gX10_saleNumbered_X10_isBelow : GoodIn wsX10_saleNumbered (va_wsS RX10 87 yX10_isBelow wsX10_isBelow) := goodIn_app (goodIn_of _ (by decide +kernel)) ggX10_saleNumbered_X10_isBelow
theorem dX10_saleNumbered_0 : decode cX10_saleNumbered 0 = .ok (.iload_n 1, 1) := by decide +kernel
theorem dX10_saleNumbered_1 : decode cX10_saleNumbered 1 = .ok (.aload_n 0, 1) := by decide +kernel
theorem dX10_saleNumbered_2 : decode cX10_saleNumbered 2 = .ok (.getfield 243, 3) := by decide +kernel
theorem dX10_saleNumbered_5 : decode cX10_saleNumbered 5 = .ok (.invokestatic 87, 3) := by decide +kernel
theorem dX10_saleNumbered_8 : decode cX10_saleNumbered 8 = .ok (.ifCond .eq 12, 3) := by decide +kernel
theorem dX10_saleNumbered_11 : decode cX10_saleNumbered 11 = .ok (.aload_n 0, 1) := by decide +kernel
theorem dX10_saleNumbered_12 : decode cX10_saleNumbered 12 = .ok (.getfield 73, 3) := by decide +kernel
theorem dX10_saleNumbered_15 : decode cX10_saleNumbered 15 = .ok (.iload_n 1, 1) := by decide +kernel
theorem dX10_saleNumbered_16 : decode cX10_saleNumbered 16 = .ok (.aaload, 1) := by decide +kernel
theorem dX10_saleNumbered_17 : decode cX10_saleNumbered 17 = .ok (.goto 4, 3) := by decide +kernel
theorem dX10_saleNumbered_20 : decode cX10_saleNumbered 20 = .ok (.aconst_null, 1) := by decide +kernel
theorem dX10_saleNumbered_21 : decode cX10_saleNumbered 21 = .ok (.areturn, 1) := by decide +kernel
theorem dX10_isBelow_0 : decode cX10_isBelow 0 = .ok (.iload_n 0, 1) := by decide +kernel
theorem dX10_isBelow_1 : decode cX10_isBelow 1 = .ok (.ifCond .lt 12, 3) := by decide +kernel
theorem dX10_isBelow_4 : decode cX10_isBelow 4 = .ok (.iload_n 0, 1) := by decide +kernel
theorem dX10_isBelow_5 : decode cX10_isBelow 5 = .ok (.iload_n 1, 1) := by decide +kernel
theorem dX10_isBelow_6 : decode cX10_isBelow 6 = .ok (.if_icmp .ge 7, 3) := by decide +kernel
theorem dX10_isBelow_9 : decode cX10_isBelow 9 = .ok (.iconst 1, 1) := by decide +kernel
theorem dX10_isBelow_10 : decode cX10_isBelow 10 = .ok (.goto 4, 3) := by decide +kernel
theorem dX10_isBelow_13 : decode cX10_isBelow 13 = .ok (.iconst 0, 1) := by decide +kernel
theorem dX10_isBelow_14 : decode cX10_isBelow 14 = .ok (.ireturn, 1) := by decide +kernel
set_option maxRecDepth 20000 in
theorem ggX11_init_X11_begins : GoodIn wsX11_init wsX11_begins := goodIn_r _ [43, 17, 44, 45, 42, 46, 47, 48, 49, 50, 51, 52, 53, 54, 55, 56, 57, 58, 59, 60, 61, 62, 63, 64, 65, 66, 67, 68, 69, 70, 71, 72, 73, 74, 75, 76, 77, 78, 79, 80, 81, 82, 83, 84, 85, 86, 87, 88, 89, 90, 91, 92, 93] (by decide +kernel) (by decide +kernel)
set_option maxRecDepth 20000 in
theorem gX11_init_X11_begins : GoodIn wsX11_init (wsV RX11 109 RX11 yX11_begins wsX11_begins) := goodIn_app (goodIn_of _ (by decide +kernel)) ggX11_init_X11_begins
theorem dX11_init_0 : decode cX11_init 0 = .ok (.aload_n 0, 1) := by decide +kernel
theorem dX11_init_1 : decode cX11_init 1 = .ok (.invokespecial 1, 3) := by decide +kernel
theorem dX11_init_4 : decode cX11_init 4 = .ok (.aload_n 0, 1) := by decide +kernel
theorem dX11_init_5 : decode cX11_init 5 = .ok (.bipush 40, 2) := by decide +kernel
theorem dX11_init_7 : decode cX11_init 7 = .ok (.newarray .int, 2) := by decide +kernel
theorem dX11_init_9 : decode cX11_init 9 = .ok (.putfield 7, 3) := by decide +kernel
theorem dX11_init_12 : decode cX11_init 12 = .ok (.aload_n 0, 1) := by decide +kernel
theorem dX11_init_13 : decode cX11_init 13 = .ok (.bipush 40, 2) := by decide +kernel
theorem dX11_init_15 : decode cX11_init 15 = .ok (.newarray .int, 2) := by decide +kernel
theorem dX11_init_17 : decode cX11_init 17 = .ok (.putfield 13, 3) := by decide +kernel
theorem dX11_init_20 : decode cX11_init 20 = .ok (.aload_n 0, 1) := by decide +kernel
theorem dX11_init_21 : decode cX11_init 21 = .ok (.sipush 1600, 3) := by decide +kernel
theorem dX11_init_24 : decode cX11_init 24 = .ok (.newarray .boolean, 2) := by decide +kernel
theorem dX11_init_26 : decode cX11_init 26 = .ok (.putfield 16, 3) := by decide +kernel
theorem dX11_init_29 : decode cX11_init 29 = .ok (.aload_n 0, 1) := by decide +kernel
theorem dX11_init_30 : decode cX11_init 30 = .ok (.bipush 60, 2) := by decide +kernel
theorem dX11_init_32 : decode cX11_init 32 = .ok (.newarray .int, 2) := by decide +kernel
theorem dX11_init_34 : decode cX11_init 34 = .ok (.putfield 20, 3) := by decide +kernel
theorem dX11_init_37 : decode cX11_init 37 = .ok (.aload_n 0, 1) := by decide +kernel
theorem dX11_init_38 : decode cX11_init 38 = .ok (.bipush 60, 2) := by decide +kernel
theorem dX11_init_40 : decode cX11_init 40 = .ok (.newarray .int, 2) := by decide +kernel
theorem dX11_init_42 : decode cX11_init 42 = .ok (.putfield 23, 3) := by decide +kernel
theorem dX11_init_45 : decode cX11_init 45 = .ok (.aload_n 0, 1) := by decide +kernel
theorem dX11_init_46 : decode cX11_init 46 = .ok (.bipush 60, 2) := by decide +kernel
theorem dX11_init_48 : decode cX11_init 48 = .ok (.newarray .int, 2) := by decide +kernel
theorem dX11_init_50 : decode cX11_init 50 = .ok (.putfield 26, 3) := by decide +kernel
theorem dX11_init_53 : decode cX11_init 53 = .ok (.aload_n 0, 1) := by decide +kernel
theorem dX11_init_54 : decode cX11_init 54 = .ok (.bipush 60, 2) := by decide +kernel
theorem dX11_init_56 : decode cX11_init 56 = .ok (.newarray .int, 2) := by decide +kernel
theorem dX11_init_58 : decode cX11_init 58 = .ok (.putfield 29, 3) := by decide +kernel
theorem dX11_init_61 : decode cX11_init 61 = .ok (.aload_n 0, 1) := by decide +kernel
theorem dX11_init_62 : decode cX11_init 62 = .ok (.bipush 60, 2) := by decide +kernel
theorem dX11_init_64 : decode cX11_init 64 = .ok (.newarray .int, 2) := by decide +kernel
theorem dX11_init_66 : decode cX11_init 66 = .ok (.putfield 32, 3) := by decide +kernel
theorem dX11_init_69 : decode cX11_init 69 = .ok (.aload_n 0, 1) := by decide +kernel
theorem dX11_init_70 : decode cX11_init 70 = .ok (.sipush 200, 3) := by decide +kernel
theorem dX11_init_73 : decode cX11_init 73 = .ok (.newarray .int, 2) := by decide +kernel
theorem dX11_init_75 : decode cX11_init 75 = .ok (.putfield 35, 3) := by decide +kernel
theorem dX11_init_78 : decode cX11_init 78 = .ok (.aload_n 0, 1) := by decide +kernel
theorem dX11_init_79 : decode cX11_init 79 = .ok (.sipush 200, 3) := by decide +kernel
theorem dX11_init_82 : decode cX11_init 82 = .ok (.newarray .int, 2) := by decide +kernel
theorem dX11_init_84 : decode cX11_init 84 = .ok (.putfield 38, 3) := by decide +kernel
theorem dX11_init_87 : decode cX11_init 87 = .ok (.aload_n 0, 1) := by decide +kernel
theorem dX11_init_88 : decode cX11_init 88 = .ok (.sipush 200, 3) := by decide +kernel
theorem dX11_init_91 : decode cX11_init 91 = .ok (.newarray .int, 2) := by decide +kernel
theorem dX11_init_93 : decode cX11_init 93 = .ok (.putfield 41, 3) := by decide +kernel
theorem dX11_init_96 : decode cX11_init 96 = .ok (.aload_n 0, 1) := by decide +kernel
theorem dX11_init_97 : decode cX11_init 97 = .ok (.bipush 40, 2) := by decide +kernel
theorem dX11_init_99 : decode cX11_init 99 = .ok (.newarray .int, 2) := by decide +kernel
theorem dX11_init_101 : decode cX11_init 101 = .ok (.putfield 44, 3) := by decide +kernel
theorem dX11_init_104 : decode cX11_init 104 = .ok (.aload_n 0, 1) := by decide +kernel
theorem dX11_init_105 : decode cX11_init 105 = .ok (.sipush 400, 3) := by decide +kernel
theorem dX11_init_108 : decode cX11_init 108 = .ok (.newarray .byte, 2) := by decide +kernel
theorem dX11_init_110 : decode cX11_init 110 = .ok (.putfield 47, 3) := by decide +kernel
theorem dX11_init_113 : decode cX11_init 113 = .ok (.aload_n 0, 1) := by decide +kernel
theorem dX11_init_114 : decode cX11_init 114 = .ok (.sipush 400, 3) := by decide +kernel
theorem dX11_init_117 : decode cX11_init 117 = .ok (.newarray .byte, 2) := by decide +kernel
theorem dX11_init_119 : decode cX11_init 119 = .ok (.putfield 51, 3) := by decide +kernel
theorem dX11_init_122 : decode cX11_init 122 = .ok (.aload_n 0, 1) := by decide +kernel
theorem dX11_init_123 : decode cX11_init 123 = .ok (.iconst (-1), 1) := by decide +kernel
theorem dX11_init_124 : decode cX11_init 124 = .ok (.putfield 54, 3) := by decide +kernel
theorem dX11_init_127 : decode cX11_init 127 = .ok (.aload_n 0, 1) := by decide +kernel
theorem dX11_init_128 : decode cX11_init 128 = .ok (.bipush 60, 2) := by decide +kernel
theorem dX11_init_130 : decode cX11_init 130 = .ok (.newarray .int, 2) := by decide +kernel
theorem dX11_init_132 : decode cX11_init 132 = .ok (.putfield 58, 3) := by decide +kernel
theorem dX11_init_135 : decode cX11_init 135 = .ok (.aload_n 0, 1) := by decide +kernel
theorem dX11_init_136 : decode cX11_init 136 = .ok (.bipush 60, 2) := by decide +kernel
theorem dX11_init_138 : decode cX11_init 138 = .ok (.newarray .int, 2) := by decide +kernel
theorem dX11_init_140 : decode cX11_init 140 = .ok (.putfield 61, 3) := by decide +kernel
theorem dX11_init_143 : decode cX11_init 143 = .ok (.aload_n 0, 1) := by decide +kernel
theorem dX11_init_144 : decode cX11_init 144 = .ok (.bipush 60, 2) := by decide +kernel
theorem dX11_init_146 : decode cX11_init 146 = .ok (.newarray .int, 2) := by decide +kernel
theorem dX11_init_148 : decode cX11_init 148 = .ok (.putfield 64, 3) := by decide +kernel
theorem dX11_init_151 : decode cX11_init 151 = .ok (.aload_n 0, 1) := by decide +kernel
theorem dX11_init_152 : decode cX11_init 152 = .ok (.bipush 60, 2) := by decide +kernel
theorem dX11_init_154 : decode cX11_init 154 = .ok (.newarray .int, 2) := by decide +kernel
theorem dX11_init_156 : decode cX11_init 156 = .ok (.putfield 67, 3) := by decide +kernel
theorem dX11_init_159 : decode cX11_init 159 = .ok (.aload_n 0, 1) := by decide +kernel
theorem dX11_init_160 : decode cX11_init 160 = .ok (.iconst 5, 1) := by decide +kernel
theorem dX11_init_161 : decode cX11_init 161 = .ok (.newarray .int, 2) := by decide +kernel
theorem dX11_init_163 : decode cX11_init 163 = .ok (.putfield 70, 3) := by decide +kernel
theorem dX11_init_166 : decode cX11_init 166 = .ok (.aload_n 0, 1) := by decide +kernel
theorem dX11_init_167 : decode cX11_init 167 = .ok (.iconst 5, 1) := by decide +kernel
theorem dX11_init_168 : decode cX11_init 168 = .ok (.newarray .int, 2) := by decide +kernel
theorem dX11_init_170 : decode cX11_init 170 = .ok (.putfield 73, 3) := by decide +kernel
theorem dX11_init_173 : decode cX11_init 173 = .ok (.aload_n 0, 1) := by decide +kernel
theorem dX11_init_174 : decode cX11_init 174 = .ok (.bipush 8, 2) := by decide +kernel
theorem dX11_init_176 : decode cX11_init 176 = .ok (.newarray .int, 2) := by decide +kernel
theorem dX11_init_178 : decode cX11_init 178 = .ok (.putfield 76, 3) := by decide +kernel
theorem dX11_init_181 : decode cX11_init 181 = .ok (.aload_n 0, 1) := by decide +kernel
theorem dX11_init_182 : decode cX11_init 182 = .ok (.bipush 8, 2) := by decide +kernel
theorem dX11_init_184 : decode cX11_init 184 = .ok (.newarray .int, 2) := by decide +kernel
theorem dX11_init_186 : decode cX11_init 186 = .ok (.putfield 79, 3) := by decide +kernel
theorem dX11_init_189 : decode cX11_init 189 = .ok (.aload_n 0, 1) := by decide +kernel
theorem dX11_init_190 : decode cX11_init 190 = .ok (.bipush 8, 2) := by decide +kernel
theorem dX11_init_192 : decode cX11_init 192 = .ok (.newarray .int, 2) := by decide +kernel
theorem dX11_init_194 : decode cX11_init 194 = .ok (.putfield 82, 3) := by decide +kernel
theorem dX11_init_197 : decode cX11_init 197 = .ok (.aload_n 0, 1) := by decide +kernel
theorem dX11_init_198 : decode cX11_init 198 = .ok (.bipush 20, 2) := by decide +kernel
theorem dX11_init_200 : decode cX11_init 200 = .ok (.newarray .int, 2) := by decide +kernel
theorem dX11_init_202 : decode cX11_init 202 = .ok (.putfield 85, 3) := by decide +kernel
theorem dX11_init_205 : decode cX11_init 205 = .ok (.aload_n 0, 1) := by decide +kernel
theorem dX11_init_206 : decode cX11_init 206 = .ok (.bipush 20, 2) := by decide +kernel
theorem dX11_init_208 : decode cX11_init 208 = .ok (.newarray .int, 2) := by decide +kernel
theorem dX11_init_210 : decode cX11_init 210 = .ok (.putfield 88, 3) := by decide +kernel
theorem dX11_init_213 : decode cX11_init 213 = .ok (.aload_n 0, 1) := by decide +kernel
theorem dX11_init_214 : decode cX11_init 214 = .ok (.bipush 20, 2) := by decide +kernel
theorem dX11_init_216 : decode cX11_init 216 = .ok (.newarray .int, 2) := by decide +kernel
theorem dX11_init_218 : decode cX11_init 218 = .ok (.putfield 91, 3) := by decide +kernel
theorem dX11_init_221 : decode cX11_init 221 = .ok (.aload_n 0, 1) := by decide +kernel
theorem dX11_init_222 : decode cX11_init 222 = .ok (.bipush 20, 2) := by decide +kernel
theorem dX11_init_224 : decode cX11_init 224 = .ok (.newarray .int, 2) := by decide +kernel
theorem dX11_init_226 : decode cX11_init 226 = .ok (.putfield 94, 3) := by decide +kernel
theorem dX11_init_229 : decode cX11_init 229 = .ok (.aload_n 0, 1) := by decide +kernel
theorem dX11_init_230 : decode cX11_init 230 = .ok (.bipush 20, 2) := by decide +kernel
theorem dX11_init_232 : decode cX11_init 232 = .ok (.newarray .int, 2) := by decide +kernel
theorem dX11_init_234 : decode cX11_init 234 = .ok (.putfield 97, 3) := by decide +kernel
theorem dX11_init_237 : decode cX11_init 237 = .ok (.aload_n 0, 1) := by decide +kernel
theorem dX11_init_238 : decode cX11_init 238 = .ok (.bipush 20, 2) := by decide +kernel
theorem dX11_init_240 : decode cX11_init 240 = .ok (.newarray .int, 2) := by decide +kernel
theorem dX11_init_242 : decode cX11_init 242 = .ok (.putfield 100, 3) := by decide +kernel
theorem dX11_init_245 : decode cX11_init 245 = .ok (.aload_n 0, 1) := by decide +kernel
theorem dX11_init_246 : decode cX11_init 246 = .ok (.bipush 20, 2) := by decide +kernel
theorem dX11_init_248 : decode cX11_init 248 = .ok (.newarray .int, 2) := by decide +kernel
theorem dX11_init_250 : decode cX11_init 250 = .ok (.putfield 103, 3) := by decide +kernel
theorem dX11_init_253 : decode cX11_init 253 = .ok (.aload_n 0, 1) := by decide +kernel
theorem dX11_init_254 : decode cX11_init 254 = .ok (.bipush 20, 2) := by decide +kernel
theorem dX11_init_256 : decode cX11_init 256 = .ok (.newarray .int, 2) := by decide +kernel
theorem dX11_init_258 : decode cX11_init 258 = .ok (.putfield 106, 3) := by decide +kernel
theorem dX11_init_261 : decode cX11_init 261 = .ok (.aload_n 0, 1) := by decide +kernel
theorem dX11_init_262 : decode cX11_init 262 = .ok (.iconst 0, 1) := by decide +kernel
theorem dX11_init_263 : decode cX11_init 263 = .ok (.invokevirtual 109, 3) := by decide +kernel
theorem dX11_init_266 : decode cX11_init 266 = .ok (.return_, 1) := by decide +kernel
theorem dX11_isIn_0 : decode cX11_isIn 0 = .ok (.iload_n 0, 1) := by decide +kernel
theorem dX11_isIn_1 : decode cX11_isIn 1 = .ok (.iload_n 1, 1) := by decide +kernel
theorem dX11_isIn_2 : decode cX11_isIn 2 = .ok (.if_icmp .lt 12, 3) := by decide +kernel
theorem dX11_isIn_5 : decode cX11_isIn 5 = .ok (.iload_n 0, 1) := by decide +kernel
theorem dX11_isIn_6 : decode cX11_isIn 6 = .ok (.iload_n 2, 1) := by decide +kernel
theorem dX11_isIn_7 : decode cX11_isIn 7 = .ok (.if_icmp .gt 7, 3) := by decide +kernel
theorem dX11_isIn_10 : decode cX11_isIn 10 = .ok (.iconst 1, 1) := by decide +kernel
theorem dX11_isIn_11 : decode cX11_isIn 11 = .ok (.goto 4, 3) := by decide +kernel
theorem dX11_isIn_14 : decode cX11_isIn 14 = .ok (.iconst 0, 1) := by decide +kernel
theorem dX11_isIn_15 : decode cX11_isIn 15 = .ok (.ireturn, 1) := by decide +kernel
theorem dX11_one_0 : decode cX11_one 0 = .ok (.iload_n 0, 1) := by decide +kernel
theorem dX11_one_1 : decode cX11_one 1 = .ok (.ifCond .eq 7, 3) := by decide +kernel
theorem dX11_one_4 : decode cX11_one 4 = .ok (.iconst 1, 1) := by decide +kernel
theorem dX11_one_5 : decode cX11_one 5 = .ok (.goto 4, 3) := by decide +kernel
theorem dX11_one_8 : decode cX11_one 8 = .ok (.iconst 0, 1) := by decide +kernel
theorem dX11_one_9 : decode cX11_one 9 = .ok (.ireturn, 1) := by decide +kernel
set_option maxRecDepth 20000 in
theorem ggX11_isPerson_X11_isIn : GoodIn wsX11_isPerson wsX11_isIn := goodIn_r _ [5] (by decide +kernel) (by decide +kernel)
set_option maxRecDepth 20000 in
theorem gX11_isPerson_X11_isIn : GoodIn wsX11_isPerson (va_wsS RX11 116 yX11_isIn wsX11_isIn) := goodIn_app (goodIn_of _ (by decide +kernel)) ggX11_isPerson_X11_isIn
theorem dX11_isPerson_0 : decode cX11_isPerson 0 = .ok (.iload_n 1, 1) := by decide +kernel
theorem dX11_isPerson_1 : decode cX11_isPerson 1 = .ok (.iconst 0, 1) := by decide +kernel
theorem dX11_isPerson_2 : decode cX11_isPerson 2 = .ok (.aload_n 0, 1) := by decide +kernel
theorem dX11_isPerson_3 : decode cX11_isPerson 3 = .ok (.getfield 113, 3) := by decide +kernel
theorem dX11_isPerson_6 : decode cX11_isPerson 6 = .ok (.iconst 1, 1) := by decide +kernel
theorem dX11_isPerson_7 : decode cX11_isPerson 7 = .ok (.isub, 1) := by decide +kernel
theorem dX11_isPerson_8 : decode cX11_isPerson 8 = .ok (.invokestatic 116, 3) := by decide +kernel
theorem dX11_isPerson_11 : decode cX11_isPerson 11 = .ok (.ireturn, 1) := by decide +kernel
set_option maxRecDepth 20000 in
theorem ggX11_isField_X11_isIn : GoodIn wsX11_isField wsX11_isIn := goodIn_r _ [5] (by decide +kernel) (by decide +kernel)
set_option maxRecDepth 20000 in
theorem gX11_isField_X11_isIn : GoodIn wsX11_isField (va_wsS RX11 116 yX11_isIn wsX11_isIn) := goodIn_app (goodIn_of _ (by decide +kernel)) ggX11_isField_X11_isIn
theorem dX11_isField_0 : decode cX11_isField 0 = .ok (.iload_n 1, 1) := by decide +kernel
theorem dX11_isField_1 : decode cX11_isField 1 = .ok (.iconst 0, 1) := by decide +kernel
theorem dX11_isField_2 : decode cX11_isField 2 = .ok (.aload_n 0, 1) := by decide +kernel
theorem dX11_isField_3 : decode cX11_isField 3 = .ok (.getfield 120, 3) := by decide +kernel
theorem dX11_isField_6 : decode cX11_isField 6 = .ok (.iconst 1, 1) := by decide +kernel
theorem dX11_isField_7 : decode cX11_isField 7 = .ok (.isub, 1) := by decide +kernel
theorem dX11_isField_8 : decode cX11_isField 8 = .ok (.invokestatic 116, 3) := by decide +kernel
theorem dX11_isField_11 : decode cX11_isField 11 = .ok (.ireturn, 1) := by decide +kernel
set_option maxRecDepth 20000 in
theorem ggX11_person_X11_isIn : GoodIn wsX11_person wsX11_isIn := goodIn_r _ [7] (by decide +kernel) (by decide +kernel)
set_option maxRecDepth 20000 in
theorem gX11_person_X11_isIn : GoodIn wsX11_person (va_wsS RX11 116 yX11_isIn wsX11_isIn) := goodIn_app (goodIn_of _ (by decide +kernel)) ggX11_person_X11_isIn
theorem dX11_person_0 : decode cX11_person 0 = .ok (.iload_n 1, 1) := by decide +kernel
theorem dX11_person_1 : decode cX11_person 1 = .ok (.iconst 0, 1) := by decide +kernel
theorem dX11_person_2 : decode cX11_person 2 = .ok (.bipush 19, 2) := by decide +kernel
theorem dX11_person_4 : decode cX11_person 4 = .ok (.invokestatic 116, 3) := by decide +kernel
theorem dX11_person_7 : decode cX11_person 7 = .ok (.ifCond .eq 22, 3) := by decide +kernel
theorem dX11_person_10 : decode cX11_person 10 = .ok (.iload_n 2, 1) := by decide +kernel
theorem dX11_person_11 : decode cX11_person 11 = .ok (.iconst 0, 1) := by decide +kernel
theorem dX11_person_12 : decode cX11_person 12 = .ok (.bipush 99, 2) := by decide +kernel
theorem dX11_person_14 : decode cX11_person 14 = .ok (.invokestatic 116, 3) := by decide +kernel
theorem dX11_person_17 : decode cX11_person 17 = .ok (.ifCond .eq 12, 3) := by decide +kernel
theorem dX11_person_20 : decode cX11_person 20 = .ok (.aload_n 0, 1) := by decide +kernel
theorem dX11_person_21 : decode cX11_person 21 = .ok (.getfield 113, 3) := by decide +kernel
theorem dX11_person_24 : decode cX11_person 24 = .ok (.bipush 40, 2) := by decide +kernel
theorem dX11_person_26 : decode cX11_person 26 = .ok (.if_icmp .ne 5, 3) := by decide +kernel
theorem dX11_person_29 : decode cX11_person 29 = .ok (.iconst (-1), 1) := by decide +kernel
theorem dX11_person_30 : decode cX11_person 30 = .ok (.ireturn, 1) := by decide +kernel
theorem dX11_person_31 : decode cX11_person 31 = .ok (.aload_n 0, 1) := by decide +kernel
theorem dX11_person_32 : decode cX11_person 32 = .ok (.getfield 7, 3) := by decide +kernel
theorem dX11_person_35 : decode cX11_person 35 = .ok (.aload_n 0, 1) := by decide +kernel
theorem dX11_person_36 : decode cX11_person 36 = .ok (.getfield 113, 3) := by decide +kernel
theorem dX11_person_39 : decode cX11_person 39 = .ok (.iload_n 1, 1) := by decide +kernel
theorem dX11_person_40 : decode cX11_person 40 = .ok (.iastore, 1) := by decide +kernel
theorem dX11_person_41 : decode cX11_person 41 = .ok (.aload_n 0, 1) := by decide +kernel
theorem dX11_person_42 : decode cX11_person 42 = .ok (.getfield 13, 3) := by decide +kernel
theorem dX11_person_45 : decode cX11_person 45 = .ok (.aload_n 0, 1) := by decide +kernel
theorem dX11_person_46 : decode cX11_person 46 = .ok (.getfield 113, 3) := by decide +kernel
theorem dX11_person_49 : decode cX11_person 49 = .ok (.iload_n 2, 1) := by decide +kernel
theorem dX11_person_50 : decode cX11_person 50 = .ok (.iastore, 1) := by decide +kernel
theorem dX11_person_51 : decode cX11_person 51 = .ok (.aload_n 0, 1) := by decide +kernel
theorem dX11_person_52 : decode cX11_person 52 = .ok (.dup, 1) := by decide +kernel
theorem dX11_person_53 : decode cX11_person 53 = .ok (.getfield 113, 3) := by decide +kernel
theorem dX11_person_56 : decode cX11_person 56 = .ok (.iconst 1, 1) := by decide +kernel
theorem dX11_person_57 : decode cX11_person 57 = .ok (.iadd, 1) := by decide +kernel
theorem dX11_person_58 : decode cX11_person 58 = .ok (.putfield 113, 3) := by decide +kernel
theorem dX11_person_61 : decode cX11_person 61 = .ok (.aload_n 0, 1) := by decide +kernel
theorem dX11_person_62 : decode cX11_person 62 = .ok (.getfield 113, 3) := by decide +kernel
theorem dX11_person_65 : decode cX11_person 65 = .ok (.iconst 1, 1) := by decide +kernel
theorem dX11_person_66 : decode cX11_person 66 = .ok (.isub, 1) := by decide +kernel
theorem dX11_person_67 : decode cX11_person 67 = .ok (.ireturn, 1) := by decide +kernel
set_option maxRecDepth 20000 in
theorem ggX11_akin_X11_isPerson : GoodIn wsX11_akin wsX11_isPerson := goodIn_r _ [7, 8, 9, 10, 6, 11, 12, 13, 14, 15, 16, 17, 18, 19, 20, 21, 22, 23, 24, 25, 26, 27, 28, 29, 30, 31, 32, 33, 34, 35, 36, 37, 38, 39, 40, 41, 42, 43, 44, 45, 46, 47, 48, 49, 50, 51, 52, 53, 54, 55, 56, 57, 58] (by decide +kernel) (by decide +kernel)
set_option maxRecDepth 20000 in
theorem gX11_akin_X11_isPerson : GoodIn wsX11_akin (wsV RX11 123 RX11 yX11_isPerson wsX11_isPerson) := goodIn_app (goodIn_of _ (by decide +kernel)) ggX11_akin_X11_isPerson
theorem dX11_akin_0 : decode cX11_akin 0 = .ok (.aload_n 0, 1) := by decide +kernel
theorem dX11_akin_1 : decode cX11_akin 1 = .ok (.iload_n 1, 1) := by decide +kernel
theorem dX11_akin_2 : decode cX11_akin 2 = .ok (.invokevirtual 123, 3) := by decide +kernel
theorem dX11_akin_5 : decode cX11_akin 5 = .ok (.ifCond .eq 30, 3) := by decide +kernel
theorem dX11_akin_8 : decode cX11_akin 8 = .ok (.aload_n 0, 1) := by decide +kernel
theorem dX11_akin_9 : decode cX11_akin 9 = .ok (.iload_n 2, 1) := by decide +kernel
theorem dX11_akin_10 : decode cX11_akin 10 = .ok (.invokevirtual 123, 3) := by decide +kernel
theorem dX11_akin_13 : decode cX11_akin 13 = .ok (.ifCond .eq 22, 3) := by decide +kernel
theorem dX11_akin_16 : decode cX11_akin 16 = .ok (.iload_n 1, 1) := by decide +kernel
theorem dX11_akin_17 : decode cX11_akin 17 = .ok (.iload_n 2, 1) := by decide +kernel
theorem dX11_akin_18 : decode cX11_akin 18 = .ok (.if_icmp .eq 17, 3) := by decide +kernel
theorem dX11_akin_21 : decode cX11_akin 21 = .ok (.aload_n 0, 1) := by decide +kernel
theorem dX11_akin_22 : decode cX11_akin 22 = .ok (.getfield 16, 3) := by decide +kernel
theorem dX11_akin_25 : decode cX11_akin 25 = .ok (.bipush 40, 2) := by decide +kernel
theorem dX11_akin_27 : decode cX11_akin 27 = .ok (.iload_n 1, 1) := by decide +kernel
theorem dX11_akin_28 : decode cX11_akin 28 = .ok (.imul, 1) := by decide +kernel
theorem dX11_akin_29 : decode cX11_akin 29 = .ok (.iload_n 2, 1) := by decide +kernel
theorem dX11_akin_30 : decode cX11_akin 30 = .ok (.iadd, 1) := by decide +kernel
theorem dX11_akin_31 : decode cX11_akin 31 = .ok (.baload, 1) := by decide +kernel
theorem dX11_akin_32 : decode cX11_akin 32 = .ok (.ifCond .eq 5, 3) := by decide +kernel
theorem dX11_akin_35 : decode cX11_akin 35 = .ok (.iconst 0, 1) := by decide +kernel
theorem dX11_akin_36 : decode cX11_akin 36 = .ok (.ireturn, 1) := by decide +kernel
theorem dX11_akin_37 : decode cX11_akin 37 = .ok (.aload_n 0, 1) := by decide +kernel
theorem dX11_akin_38 : decode cX11_akin 38 = .ok (.getfield 16, 3) := by decide +kernel
theorem dX11_akin_41 : decode cX11_akin 41 = .ok (.bipush 40, 2) := by decide +kernel
theorem dX11_akin_43 : decode cX11_akin 43 = .ok (.iload_n 1, 1) := by decide +kernel
theorem dX11_akin_44 : decode cX11_akin 44 = .ok (.imul, 1) := by decide +kernel
theorem dX11_akin_45 : decode cX11_akin 45 = .ok (.iload_n 2, 1) := by decide +kernel
theorem dX11_akin_46 : decode cX11_akin 46 = .ok (.iadd, 1) := by decide +kernel
theorem dX11_akin_47 : decode cX11_akin 47 = .ok (.iconst 1, 1) := by decide +kernel
theorem dX11_akin_48 : decode cX11_akin 48 = .ok (.bastore, 1) := by decide +kernel
theorem dX11_akin_49 : decode cX11_akin 49 = .ok (.aload_n 0, 1) := by decide +kernel
theorem dX11_akin_50 : decode cX11_akin 50 = .ok (.getfield 16, 3) := by decide +kernel
theorem dX11_akin_53 : decode cX11_akin 53 = .ok (.bipush 40, 2) := by decide +kernel
theorem dX11_akin_55 : decode cX11_akin 55 = .ok (.iload_n 2, 1) := by decide +kernel
theorem dX11_akin_56 : decode cX11_akin 56 = .ok (.imul, 1) := by decide +kernel
theorem dX11_akin_57 : decode cX11_akin 57 = .ok (.iload_n 1, 1) := by decide +kernel
theorem dX11_akin_58 : decode cX11_akin 58 = .ok (.iadd, 1) := by decide +kernel
theorem dX11_akin_59 : decode cX11_akin 59 = .ok (.iconst 1, 1) := by decide +kernel
theorem dX11_akin_60 : decode cX11_akin 60 = .ok (.bastore, 1) := by decide +kernel
theorem dX11_akin_61 : decode cX11_akin 61 = .ok (.aload_n 0, 1) := by decide +kernel
theorem dX11_akin_62 : decode cX11_akin 62 = .ok (.dup, 1) := by decide +kernel
theorem dX11_akin_63 : decode cX11_akin 63 = .ok (.getfield 127, 3) := by decide +kernel
theorem dX11_akin_66 : decode cX11_akin 66 = .ok (.iconst 1, 1) := by decide +kernel
theorem dX11_akin_67 : decode cX11_akin 67 = .ok (.iadd, 1) := by decide +kernel
theorem dX11_akin_68 : decode cX11_akin 68 = .ok (.putfield 127, 3) := by decide +kernel
theorem dX11_akin_71 : decode cX11_akin 71 = .ok (.iconst 1, 1) := by decide +kernel
theorem dX11_akin_72 : decode cX11_akin 72 = .ok (.ireturn, 1) := by decide +kernel
set_option maxRecDepth 20000 in
theorem ggX11_field_X11_isIn : GoodIn wsX11_field wsX11_isIn := goodIn_r _ [10] (by decide +kernel) (by decide +kernel)
set_option maxRecDepth 20000 in
theorem gX11_field_X11_isIn : GoodIn wsX11_field (va_wsS RX11 116 yX11_isIn wsX11_isIn) := goodIn_app (goodIn_of _ (by decide +kernel)) ggX11_field_X11_isIn
set_option maxRecDepth 20000 in
theorem ggX11_field_X11_isPerson : GoodIn wsX11_field wsX11_isPerson := goodIn_r _ [14, 15, 7, 8, 9, 10, 16, 17, 18, 19, 20, 21, 22, 23, 24, 25, 26, 27, 28, 29, 30, 31, 32, 33, 34, 35, 36, 37, 38, 39, 40, 41, 42, 43, 44, 45, 46, 47, 48, 49, 50, 51, 52, 53, 54, 55, 56, 57, 58, 59, 60, 61, 62] (by decide +kernel) (by decide +kernel)
set_option maxRecDepth 20000 in
theorem gX11_field_X11_isPerson : GoodIn wsX11_field (wsV RX11 123 RX11 yX11_isPerson wsX11_isPerson) := goodIn_app (goodIn_of _ (by decide +kernel)) ggX11_field_X11_isPerson
theorem dX11_field_0 : decode cX11_field 0 = .ok (.iload_n 1, 1) := by decide +kernel
theorem dX11_field_1 : decode cX11_field 1 = .ok (.iconst 0, 1) := by decide +kernel
theorem dX11_field_2 : decode cX11_field 2 = .ok (.bipush 99, 2) := by decide +kernel
theorem dX11_field_4 : decode cX11_field 4 = .ok (.invokestatic 116, 3) := by decide +kernel
theorem dX11_field_7 : decode cX11_field 7 = .ok (.ifCond .eq 51, 3) := by decide +kernel
theorem dX11_field_10 : decode cX11_field 10 = .ok (.iload_n 2, 1) := by decide +kernel
theorem dX11_field_11 : decode cX11_field 11 = .ok (.iconst 1, 1) := by decide +kernel
theorem dX11_field_12 : decode cX11_field 12 = .ok (.bipush 100, 2) := by decide +kernel
theorem dX11_field_14 : decode cX11_field 14 = .ok (.invokestatic 116, 3) := by decide +kernel
theorem dX11_field_17 : decode cX11_field 17 = .ok (.ifCond .eq 41, 3) := by decide +kernel
theorem dX11_field_20 : decode cX11_field 20 = .ok (.iload_n 3, 1) := by decide +kernel
theorem dX11_field_21 : decode cX11_field 21 = .ok (.iconst 0, 1) := by decide +kernel
theorem dX11_field_22 : decode cX11_field 22 = .ok (.iconst 3, 1) := by decide +kernel
theorem dX11_field_23 : decode cX11_field 23 = .ok (.invokestatic 116, 3) := by decide +kernel
theorem dX11_field_26 : decode cX11_field 26 = .ok (.ifCond .eq 32, 3) := by decide +kernel
theorem dX11_field_29 : decode cX11_field 29 = .ok (.iload 4, 2) := by decide +kernel
theorem dX11_field_31 : decode cX11_field 31 = .ok (.iconst 0, 1) := by decide +kernel
theorem dX11_field_32 : decode cX11_field 32 = .ok (.bipush 9, 2) := by decide +kernel
theorem dX11_field_34 : decode cX11_field 34 = .ok (.invokestatic 116, 3) := by decide +kernel
theorem dX11_field_37 : decode cX11_field 37 = .ok (.ifCond .eq 21, 3) := by decide +kernel
theorem dX11_field_40 : decode cX11_field 40 = .ok (.aload_n 0, 1) := by decide +kernel
theorem dX11_field_41 : decode cX11_field 41 = .ok (.iload 5, 2) := by decide +kernel
theorem dX11_field_43 : decode cX11_field 43 = .ok (.invokevirtual 123, 3) := by decide +kernel
theorem dX11_field_46 : decode cX11_field 46 = .ok (.ifCond .eq 12, 3) := by decide +kernel
theorem dX11_field_49 : decode cX11_field 49 = .ok (.aload_n 0, 1) := by decide +kernel
theorem dX11_field_50 : decode cX11_field 50 = .ok (.getfield 120, 3) := by decide +kernel
theorem dX11_field_53 : decode cX11_field 53 = .ok (.bipush 60, 2) := by decide +kernel
theorem dX11_field_55 : decode cX11_field 55 = .ok (.if_icmp .ne 5, 3) := by decide +kernel
theorem dX11_field_58 : decode cX11_field 58 = .ok (.iconst (-1), 1) := by decide +kernel
theorem dX11_field_59 : decode cX11_field 59 = .ok (.ireturn, 1) := by decide +kernel
theorem dX11_field_60 : decode cX11_field 60 = .ok (.aload_n 0, 1) := by decide +kernel
theorem dX11_field_61 : decode cX11_field 61 = .ok (.getfield 20, 3) := by decide +kernel
theorem dX11_field_64 : decode cX11_field 64 = .ok (.aload_n 0, 1) := by decide +kernel
theorem dX11_field_65 : decode cX11_field 65 = .ok (.getfield 120, 3) := by decide +kernel
theorem dX11_field_68 : decode cX11_field 68 = .ok (.iload_n 1, 1) := by decide +kernel
theorem dX11_field_69 : decode cX11_field 69 = .ok (.iastore, 1) := by decide +kernel
theorem dX11_field_70 : decode cX11_field 70 = .ok (.aload_n 0, 1) := by decide +kernel
theorem dX11_field_71 : decode cX11_field 71 = .ok (.getfield 23, 3) := by decide +kernel
theorem dX11_field_74 : decode cX11_field 74 = .ok (.aload_n 0, 1) := by decide +kernel
theorem dX11_field_75 : decode cX11_field 75 = .ok (.getfield 120, 3) := by decide +kernel
theorem dX11_field_78 : decode cX11_field 78 = .ok (.iload_n 2, 1) := by decide +kernel
theorem dX11_field_79 : decode cX11_field 79 = .ok (.iastore, 1) := by decide +kernel
theorem dX11_field_80 : decode cX11_field 80 = .ok (.aload_n 0, 1) := by decide +kernel
theorem dX11_field_81 : decode cX11_field 81 = .ok (.getfield 26, 3) := by decide +kernel
theorem dX11_field_84 : decode cX11_field 84 = .ok (.aload_n 0, 1) := by decide +kernel
theorem dX11_field_85 : decode cX11_field 85 = .ok (.getfield 120, 3) := by decide +kernel
theorem dX11_field_88 : decode cX11_field 88 = .ok (.iload_n 3, 1) := by decide +kernel
theorem dX11_field_89 : decode cX11_field 89 = .ok (.iastore, 1) := by decide +kernel
theorem dX11_field_90 : decode cX11_field 90 = .ok (.aload_n 0, 1) := by decide +kernel
theorem dX11_field_91 : decode cX11_field 91 = .ok (.getfield 29, 3) := by decide +kernel
theorem dX11_field_94 : decode cX11_field 94 = .ok (.aload_n 0, 1) := by decide +kernel
theorem dX11_field_95 : decode cX11_field 95 = .ok (.getfield 120, 3) := by decide +kernel
theorem dX11_field_98 : decode cX11_field 98 = .ok (.iload 4, 2) := by decide +kernel
theorem dX11_field_100 : decode cX11_field 100 = .ok (.iastore, 1) := by decide +kernel
theorem dX11_field_101 : decode cX11_field 101 = .ok (.aload_n 0, 1) := by decide +kernel
theorem dX11_field_102 : decode cX11_field 102 = .ok (.getfield 32, 3) := by decide +kernel
theorem dX11_field_105 : decode cX11_field 105 = .ok (.aload_n 0, 1) := by decide +kernel
theorem dX11_field_106 : decode cX11_field 106 = .ok (.getfield 120, 3) := by decide +kernel
theorem dX11_field_109 : decode cX11_field 109 = .ok (.iload 5, 2) := by decide +kernel
theorem dX11_field_111 : decode cX11_field 111 = .ok (.iastore, 1) := by decide +kernel
theorem dX11_field_112 : decode cX11_field 112 = .ok (.aload_n 0, 1) := by decide +kernel
theorem dX11_field_113 : decode cX11_field 113 = .ok (.dup, 1) := by decide +kernel
theorem dX11_field_114 : decode cX11_field 114 = .ok (.getfield 120, 3) := by decide +kernel
theorem dX11_field_117 : decode cX11_field 117 = .ok (.iconst 1, 1) := by decide +kernel
theorem dX11_field_118 : decode cX11_field 118 = .ok (.iadd, 1) := by decide +kernel
theorem dX11_field_119 : decode cX11_field 119 = .ok (.putfield 120, 3) := by decide +kernel
theorem dX11_field_122 : decode cX11_field 122 = .ok (.aload_n 0, 1) := by decide +kernel
theorem dX11_field_123 : decode cX11_field 123 = .ok (.getfield 120, 3) := by decide +kernel
theorem dX11_field_126 : decode cX11_field 126 = .ok (.iconst 1, 1) := by decide +kernel
theorem dX11_field_127 : decode cX11_field 127 = .ok (.isub, 1) := by decide +kernel
theorem dX11_field_128 : decode cX11_field 128 = .ok (.ireturn, 1) := by decide +kernel
theorem dX11_day_0 : decode cX11_day 0 = .ok (.iload_n 1, 1) := by decide +kernel
theorem dX11_day_1 : decode cX11_day 1 = .ok (.aload_n 0, 1) := by decide +kernel
theorem dX11_day_2 : decode cX11_day 2 = .ok (.getfield 130, 3) := by decide +kernel
theorem dX11_day_5 : decode cX11_day 5 = .ok (.if_icmp .le 10, 3) := by decide +kernel
theorem dX11_day_8 : decode cX11_day 8 = .ok (.iload_n 1, 1) := by decide +kernel
theorem dX11_day_9 : decode cX11_day 9 = .ok (.sipush 1000, 3) := by decide +kernel
theorem dX11_day_12 : decode cX11_day 12 = .ok (.if_icmp .le 5, 3) := by decide +kernel
theorem dX11_day_15 : decode cX11_day 15 = .ok (.iconst 0, 1) := by decide +kernel
theorem dX11_day_16 : decode cX11_day 16 = .ok (.ireturn, 1) := by decide +kernel
theorem dX11_day_17 : decode cX11_day 17 = .ok (.aload_n 0, 1) := by decide +kernel
theorem dX11_day_18 : decode cX11_day 18 = .ok (.iload_n 1, 1) := by decide +kernel
theorem dX11_day_19 : decode cX11_day 19 = .ok (.putfield 130, 3) := by decide +kernel
theorem dX11_day_22 : decode cX11_day 22 = .ok (.iconst 1, 1) := by decide +kernel
theorem dX11_day_23 : decode cX11_day 23 = .ok (.ireturn, 1) := by decide +kernel
theorem dX11_ownerOn_0 : decode cX11_ownerOn 0 = .ok (.aload_n 0, 1) := by decide +kernel
theorem dX11_ownerOn_1 : decode cX11_ownerOn 1 = .ok (.getfield 32, 3) := by decide +kernel
theorem dX11_ownerOn_4 : decode cX11_ownerOn 4 = .ok (.iload_n 1, 1) := by decide +kernel
theorem dX11_ownerOn_5 : decode cX11_ownerOn 5 = .ok (.iaload, 1) := by decide +kernel
theorem dX11_ownerOn_6 : decode cX11_ownerOn 6 = .ok (.istore_n 3, 1) := by decide +kernel
theorem dX11_ownerOn_7 : decode cX11_ownerOn 7 = .ok (.iconst 0, 1) := by decide +kernel
theorem dX11_ownerOn_8 : decode cX11_ownerOn 8 = .ok (.istore 4, 2) := by decide +kernel
theorem dX11_ownerOn_10 : decode cX11_ownerOn 10 = .ok (.iload 4, 2) := by decide +kernel
theorem dX11_ownerOn_12 : decode cX11_ownerOn 12 = .ok (.aload_n 0, 1) := by decide +kernel
theorem dX11_ownerOn_13 : decode cX11_ownerOn 13 = .ok (.getfield 133, 3) := by decide +kernel
theorem dX11_ownerOn_16 : decode cX11_ownerOn 16 = .ok (.if_icmp .ge 39, 3) := by decide +kernel
theorem dX11_ownerOn_19 : decode cX11_ownerOn 19 = .ok (.aload_n 0, 1) := by decide +kernel
theorem dX11_ownerOn_20 : decode cX11_ownerOn 20 = .ok (.getfield 35, 3) := by decide +kernel
theorem dX11_ownerOn_23 : decode cX11_ownerOn 23 = .ok (.iload 4, 2) := by decide +kernel
theorem dX11_ownerOn_25 : decode cX11_ownerOn 25 = .ok (.iaload, 1) := by decide +kernel
theorem dX11_ownerOn_26 : decode cX11_ownerOn 26 = .ok (.iload_n 1, 1) := by decide +kernel
theorem dX11_ownerOn_27 : decode cX11_ownerOn 27 = .ok (.if_icmp .ne 22, 3) := by decide +kernel
theorem dX11_ownerOn_30 : decode cX11_ownerOn 30 = .ok (.aload_n 0, 1) := by decide +kernel
theorem dX11_ownerOn_31 : decode cX11_ownerOn 31 = .ok (.getfield 41, 3) := by decide +kernel
theorem dX11_ownerOn_34 : decode cX11_ownerOn 34 = .ok (.iload 4, 2) := by decide +kernel
theorem dX11_ownerOn_36 : decode cX11_ownerOn 36 = .ok (.iaload, 1) := by decide +kernel
theorem dX11_ownerOn_37 : decode cX11_ownerOn 37 = .ok (.iload_n 2, 1) := by decide +kernel
theorem dX11_ownerOn_38 : decode cX11_ownerOn 38 = .ok (.if_icmp .gt 11, 3) := by decide +kernel
theorem dX11_ownerOn_41 : decode cX11_ownerOn 41 = .ok (.aload_n 0, 1) := by decide +kernel
theorem dX11_ownerOn_42 : decode cX11_ownerOn 42 = .ok (.getfield 38, 3) := by decide +kernel
theorem dX11_ownerOn_45 : decode cX11_ownerOn 45 = .ok (.iload 4, 2) := by decide +kernel
theorem dX11_ownerOn_47 : decode cX11_ownerOn 47 = .ok (.iaload, 1) := by decide +kernel
theorem dX11_ownerOn_48 : decode cX11_ownerOn 48 = .ok (.istore_n 3, 1) := by decide +kernel
theorem dX11_ownerOn_49 : decode cX11_ownerOn 49 = .ok (.iinc 4 1, 3) := by decide +kernel
theorem dX11_ownerOn_52 : decode cX11_ownerOn 52 = .ok (.goto (-42), 3) := by decide +kernel
theorem dX11_ownerOn_55 : decode cX11_ownerOn 55 = .ok (.iload_n 3, 1) := by decide +kernel
theorem dX11_ownerOn_56 : decode cX11_ownerOn 56 = .ok (.ireturn, 1) := by decide +kernel
set_option maxRecDepth 20000 in
theorem ggX11_owner_X11_ownerOn : GoodIn wsX11_owner wsX11_ownerOn := goodIn_r _ [6, 7, 8, 9, 10, 11, 12, 13, 14, 15, 16, 17, 18, 19, 20, 21, 22, 23, 24, 25, 26, 27, 28, 29, 30, 31, 32, 33, 34, 35, 36, 37, 38, 39, 40, 41, 42, 43, 44, 45, 46, 47, 48, 49, 50, 51, 52, 53, 54, 55, 56, 57, 58] (by decide +kernel) (by decide +kernel)
set_option maxRecDepth 20000 in
theorem gX11_owner_X11_ownerOn : GoodIn wsX11_owner (wsV RX11 136 RX11 yX11_ownerOn wsX11_ownerOn) := goodIn_app (goodIn_of _ (by decide +kernel)) ggX11_owner_X11_ownerOn
theorem dX11_owner_0 : decode cX11_owner 0 = .ok (.aload_n 0, 1) := by decide +kernel
theorem dX11_owner_1 : decode cX11_owner 1 = .ok (.iload_n 1, 1) := by decide +kernel
theorem dX11_owner_2 : decode cX11_owner 2 = .ok (.aload_n 0, 1) := by decide +kernel
theorem dX11_owner_3 : decode cX11_owner 3 = .ok (.getfield 130, 3) := by decide +kernel
theorem dX11_owner_6 : decode cX11_owner 6 = .ok (.invokevirtual 136, 3) := by decide +kernel
theorem dX11_owner_9 : decode cX11_owner 9 = .ok (.ireturn, 1) := by decide +kernel
theorem dX11_goes_0 : decode cX11_goes 0 = .ok (.aload_n 0, 1) := by decide +kernel
theorem dX11_goes_1 : decode cX11_goes 1 = .ok (.getfield 35, 3) := by decide +kernel
theorem dX11_goes_4 : decode cX11_goes 4 = .ok (.aload_n 0, 1) := by decide +kernel
theorem dX11_goes_5 : decode cX11_goes 5 = .ok (.getfield 133, 3) := by decide +kernel
theorem dX11_goes_8 : decode cX11_goes 8 = .ok (.iload_n 1, 1) := by decide +kernel
theorem dX11_goes_9 : decode cX11_goes 9 = .ok (.iastore, 1) := by decide +kernel
theorem dX11_goes_10 : decode cX11_goes 10 = .ok (.aload_n 0, 1) := by decide +kernel
theorem dX11_goes_11 : decode cX11_goes 11 = .ok (.getfield 38, 3) := by decide +kernel
theorem dX11_goes_14 : decode cX11_goes 14 = .ok (.aload_n 0, 1) := by decide +kernel
theorem dX11_goes_15 : decode cX11_goes 15 = .ok (.getfield 133, 3) := by decide +kernel
theorem dX11_goes_18 : decode cX11_goes 18 = .ok (.iload_n 2, 1) := by decide +kernel
theorem dX11_goes_19 : decode cX11_goes 19 = .ok (.iastore, 1) := by decide +kernel
theorem dX11_goes_20 : decode cX11_goes 20 = .ok (.aload_n 0, 1) := by decide +kernel
theorem dX11_goes_21 : decode cX11_goes 21 = .ok (.getfield 41, 3) := by decide +kernel
theorem dX11_goes_24 : decode cX11_goes 24 = .ok (.aload_n 0, 1) := by decide +kernel
theorem dX11_goes_25 : decode cX11_goes 25 = .ok (.getfield 133, 3) := by decide +kernel
theorem dX11_goes_28 : decode cX11_goes 28 = .ok (.aload_n 0, 1) := by decide +kernel
theorem dX11_goes_29 : decode cX11_goes 29 = .ok (.getfield 130, 3) := by decide +kernel
theorem dX11_goes_32 : decode cX11_goes 32 = .ok (.iastore, 1) := by decide +kernel
theorem dX11_goes_33 : decode cX11_goes 33 = .ok (.aload_n 0, 1) := by decide +kernel
theorem dX11_goes_34 : decode cX11_goes 34 = .ok (.dup, 1) := by decide +kernel
theorem dX11_goes_35 : decode cX11_goes 35 = .ok (.getfield 133, 3) := by decide +kernel
theorem dX11_goes_38 : decode cX11_goes 38 = .ok (.iconst 1, 1) := by decide +kernel
theorem dX11_goes_39 : decode cX11_goes 39 = .ok (.iadd, 1) := by decide +kernel
theorem dX11_goes_40 : decode cX11_goes 40 = .ok (.putfield 133, 3) := by decide +kernel
theorem dX11_goes_43 : decode cX11_goes 43 = .ok (.return_, 1) := by decide +kernel
set_option maxRecDepth 20000 in
theorem ggX11_transfer_X11_isField : GoodIn wsX11_transfer wsX11_isField := goodIn_r _ [6, 7, 8, 9, 5, 10, 33, 34, 35, 36, 37, 38, 39, 40, 41, 42, 43, 44, 45, 46, 47, 48, 49, 50, 51, 52, 53, 54, 55, 56, 57, 58, 59, 60, 61, 62, 63, 64, 65, 66, 67, 68, 69, 70, 71, 72, 73, 74, 75, 76, 77, 78, 79] (by decide +kernel) (by decide +kernel)
set_option maxRecDepth 20000 in
theorem gX11_transfer_X11_isField : GoodIn wsX11_transfer (wsV RX11 140 RX11 yX11_isField wsX11_isField) := goodIn_app (goodIn_of _ (by decide +kernel)) ggX11_transfer_X11_isField
set_option maxRecDepth 20000 in
theorem ggX11_transfer_X11_isPerson : GoodIn wsX11_transfer wsX11_isPerson := goodIn_r _ [14, 15, 8, 9, 5, 10, 33, 34, 35, 36, 37, 38, 39, 40, 41, 42, 43, 44, 45, 46, 47, 48, 49, 50, 51, 52, 53, 54, 55, 56, 57, 58, 59, 60, 61, 62, 63, 64, 65, 66, 67, 68, 69, 70, 71, 72, 73, 74, 75, 76, 77, 78, 79] (by decide +kernel) (by decide +kernel)
set_option maxRecDepth 20000 in
theorem gX11_transfer_X11_isPerson : GoodIn wsX11_transfer (wsV RX11 123 RX11 yX11_isPerson wsX11_isPerson) := goodIn_app (goodIn_of _ (by decide +kernel)) ggX11_transfer_X11_isPerson
set_option maxRecDepth 20000 in
theorem ggX11_transfer_X11_owner : GoodIn wsX11_transfer wsX11_owner := goodIn_r _ [19, 20, 21, 22, 23, 5, 24, 25, 1, 26, 27, 28, 33, 34, 35, 36, 37, 38, 39, 40, 41, 42, 43, 44, 45, 46, 47, 48, 49, 50, 51, 52, 53, 54, 55, 56, 57, 58, 59, 60, 61, 62, 63, 64, 65, 66, 67, 68, 69, 70, 71, 72, 73, 74, 75, 76, 77, 78, 79] (by decide +kernel) (by decide +kernel)
set_option maxRecDepth 20000 in
theorem gX11_transfer_X11_owner : GoodIn wsX11_transfer (wsV RX11 143 RX11 yX11_owner wsX11_owner) := goodIn_app (goodIn_of _ (by decide +kernel)) ggX11_transfer_X11_owner
set_option maxRecDepth 20000 in
theorem ggX11_transfer_X11_goes : GoodIn wsX11_transfer wsX11_goes := goodIn_r _ [32, 26, 1, 28, 27, 20, 33, 34, 35, 36, 37, 38, 39, 40, 41, 42, 43, 44, 45, 46, 47, 48, 49, 50, 51, 52, 53, 54, 55, 56, 57, 58, 59, 60, 61, 62, 63, 64, 65, 66, 67, 68, 69, 70, 71, 72, 73, 74, 75, 76, 77, 78, 79] (by decide +kernel) (by decide +kernel)
set_option maxRecDepth 20000 in
theorem gX11_transfer_X11_goes : GoodIn wsX11_transfer (wsV RX11 147 RX11 yX11_goes wsX11_goes) := goodIn_app (goodIn_of _ (by decide +kernel)) ggX11_transfer_X11_goes
theorem dX11_transfer_0 : decode cX11_transfer 0 = .ok (.aload_n 0, 1) := by decide +kernel
theorem dX11_transfer_1 : decode cX11_transfer 1 = .ok (.iload_n 1, 1) := by decide +kernel
theorem dX11_transfer_2 : decode cX11_transfer 2 = .ok (.invokevirtual 140, 3) := by decide +kernel
theorem dX11_transfer_5 : decode cX11_transfer 5 = .ok (.ifCond .eq 30, 3) := by decide +kernel
theorem dX11_transfer_8 : decode cX11_transfer 8 = .ok (.aload_n 0, 1) := by decide +kernel
theorem dX11_transfer_9 : decode cX11_transfer 9 = .ok (.iload_n 2, 1) := by decide +kernel
theorem dX11_transfer_10 : decode cX11_transfer 10 = .ok (.invokevirtual 123, 3) := by decide +kernel
theorem dX11_transfer_13 : decode cX11_transfer 13 = .ok (.ifCond .eq 22, 3) := by decide +kernel
theorem dX11_transfer_16 : decode cX11_transfer 16 = .ok (.aload_n 0, 1) := by decide +kernel
theorem dX11_transfer_17 : decode cX11_transfer 17 = .ok (.iload_n 1, 1) := by decide +kernel
theorem dX11_transfer_18 : decode cX11_transfer 18 = .ok (.invokevirtual 143, 3) := by decide +kernel
theorem dX11_transfer_21 : decode cX11_transfer 21 = .ok (.iload_n 2, 1) := by decide +kernel
theorem dX11_transfer_22 : decode cX11_transfer 22 = .ok (.if_icmp .eq 13, 3) := by decide +kernel
theorem dX11_transfer_25 : decode cX11_transfer 25 = .ok (.aload_n 0, 1) := by decide +kernel
theorem dX11_transfer_26 : decode cX11_transfer 26 = .ok (.getfield 133, 3) := by decide +kernel
theorem dX11_transfer_29 : decode cX11_transfer 29 = .ok (.sipush 200, 3) := by decide +kernel
theorem dX11_transfer_32 : decode cX11_transfer 32 = .ok (.if_icmp .ne 5, 3) := by decide +kernel
theorem dX11_transfer_35 : decode cX11_transfer 35 = .ok (.iconst 0, 1) := by decide +kernel
theorem dX11_transfer_36 : decode cX11_transfer 36 = .ok (.ireturn, 1) := by decide +kernel
theorem dX11_transfer_37 : decode cX11_transfer 37 = .ok (.aload_n 0, 1) := by decide +kernel
theorem dX11_transfer_38 : decode cX11_transfer 38 = .ok (.iload_n 1, 1) := by decide +kernel
theorem dX11_transfer_39 : decode cX11_transfer 39 = .ok (.iload_n 2, 1) := by decide +kernel
theorem dX11_transfer_40 : decode cX11_transfer 40 = .ok (.invokevirtual 147, 3) := by decide +kernel
theorem dX11_transfer_43 : decode cX11_transfer 43 = .ok (.iconst 1, 1) := by decide +kernel
theorem dX11_transfer_44 : decode cX11_transfer 44 = .ok (.ireturn, 1) := by decide +kernel
set_option maxRecDepth 20000 in
theorem ggX11_owned_X11_isField : GoodIn wsX11_owned wsX11_isField := goodIn_r _ [5, 6, 7, 8, 4, 9, 19, 20, 21, 22, 23, 24, 25, 26, 27, 28, 29, 30, 31, 32, 33, 34, 35, 36, 37, 38, 39, 40, 41, 42, 43, 44, 45, 46, 47, 48, 49, 50, 51, 52, 53, 54, 55, 56, 57, 58, 59, 60, 61, 62, 63, 64, 65] (by decide +kernel) (by decide +kernel)
set_option maxRecDepth 20000 in
theorem gX11_owned_X11_isField : GoodIn wsX11_owned (wsV RX11 140 RX11 yX11_isField wsX11_isField) := goodIn_app (goodIn_of _ (by decide +kernel)) ggX11_owned_X11_isField
set_option maxRecDepth 20000 in
theorem ggX11_owned_X11_isIn : GoodIn wsX11_owned wsX11_isIn := goodIn_r _ [9] (by decide +kernel) (by decide +kernel)
set_option maxRecDepth 20000 in
theorem gX11_owned_X11_isIn : GoodIn wsX11_owned (va_wsS RX11 116 yX11_isIn wsX11_isIn) := goodIn_app (goodIn_of _ (by decide +kernel)) ggX11_owned_X11_isIn
set_option maxRecDepth 20000 in
theorem ggX11_owned_X11_ownerOn : GoodIn wsX11_owned wsX11_ownerOn := goodIn_r _ [13, 14, 15, 16, 17, 18, 19, 20, 21, 22, 23, 24, 25, 26, 27, 28, 29, 30, 31, 32, 33, 34, 35, 36, 37, 38, 39, 40, 41, 42, 43, 44, 45, 46, 47, 48, 49, 50, 51, 52, 53, 54, 55, 56, 57, 58, 59, 60, 61, 62, 63, 64, 65] (by decide +kernel) (by decide +kernel)
set_option maxRecDepth 20000 in
theorem gX11_owned_X11_ownerOn : GoodIn wsX11_owned (wsV RX11 136 RX11 yX11_ownerOn wsX11_ownerOn) := goodIn_app (goodIn_of _ (by decide +kernel)) ggX11_owned_X11_ownerOn
theorem dX11_owned_0 : decode cX11_owned 0 = .ok (.aload_n 0, 1) := by decide +kernel
theorem dX11_owned_1 : decode cX11_owned 1 = .ok (.iload_n 1, 1) := by decide +kernel
theorem dX11_owned_2 : decode cX11_owned 2 = .ok (.invokevirtual 140, 3) := by decide +kernel
theorem dX11_owned_5 : decode cX11_owned 5 = .ok (.ifCond .eq 23, 3) := by decide +kernel
theorem dX11_owned_8 : decode cX11_owned 8 = .ok (.iload_n 2, 1) := by decide +kernel
theorem dX11_owned_9 : decode cX11_owned 9 = .ok (.iconst 0, 1) := by decide +kernel
theorem dX11_owned_10 : decode cX11_owned 10 = .ok (.sipush 1000, 3) := by decide +kernel
theorem dX11_owned_13 : decode cX11_owned 13 = .ok (.invokestatic 116, 3) := by decide +kernel
theorem dX11_owned_16 : decode cX11_owned 16 = .ok (.ifCond .eq 12, 3) := by decide +kernel
theorem dX11_owned_19 : decode cX11_owned 19 = .ok (.aload_n 0, 1) := by decide +kernel
theorem dX11_owned_20 : decode cX11_owned 20 = .ok (.iload_n 1, 1) := by decide +kernel
theorem dX11_owned_21 : decode cX11_owned 21 = .ok (.iload_n 2, 1) := by decide +kernel
theorem dX11_owned_22 : decode cX11_owned 22 = .ok (.invokevirtual 136, 3) := by decide +kernel
theorem dX11_owned_25 : decode cX11_owned 25 = .ok (.goto 4, 3) := by decide +kernel
theorem dX11_owned_28 : decode cX11_owned 28 = .ok (.iconst (-1), 1) := by decide +kernel
theorem dX11_owned_29 : decode cX11_owned 29 = .ok (.ireturn, 1) := by decide +kernel
set_option maxRecDepth 20000 in
theorem ggX11_begins_X11_isIn : GoodIn wsX11_begins wsX11_isIn := goodIn_r _ [5] (by decide +kernel) (by decide +kernel)
set_option maxRecDepth 20000 in
theorem gX11_begins_X11_isIn : GoodIn wsX11_begins (va_wsS RX11 116 yX11_isIn wsX11_isIn) := goodIn_app (goodIn_of _ (by decide +kernel)) ggX11_begins_X11_isIn
theorem dX11_begins_0 : decode cX11_begins 0 = .ok (.iconst 0, 1) := by decide +kernel
theorem dX11_begins_1 : decode cX11_begins 1 = .ok (.istore_n 2, 1) := by decide +kernel
theorem dX11_begins_2 : decode cX11_begins 2 = .ok (.iload_n 2, 1) := by decide +kernel
theorem dX11_begins_3 : decode cX11_begins 3 = .ok (.bipush 20, 2) := by decide +kernel
theorem dX11_begins_5 : decode cX11_begins 5 = .ok (.if_icmp .ge 77, 3) := by decide +kernel
theorem dX11_begins_8 : decode cX11_begins 8 = .ok (.aload_n 0, 1) := by decide +kernel
theorem dX11_begins_9 : decode cX11_begins 9 = .ok (.getfield 44, 3) := by decide +kernel
theorem dX11_begins_12 : decode cX11_begins 12 = .ok (.iload_n 1, 1) := by decide +kernel
theorem dX11_begins_13 : decode cX11_begins 13 = .ok (.iload_n 2, 1) := by decide +kernel
theorem dX11_begins_14 : decode cX11_begins 14 = .ok (.iadd, 1) := by decide +kernel
theorem dX11_begins_15 : decode cX11_begins 15 = .ok (.iload_n 2, 1) := by decide +kernel
theorem dX11_begins_16 : decode cX11_begins 16 = .ok (.ifCond .ne 8, 3) := by decide +kernel
theorem dX11_begins_19 : decode cX11_begins 19 = .ok (.bipush 100, 2) := by decide +kernel
theorem dX11_begins_21 : decode cX11_begins 21 = .ok (.goto 54, 3) := by decide +kernel
theorem dX11_begins_24 : decode cX11_begins 24 = .ok (.iload_n 2, 1) := by decide +kernel
theorem dX11_begins_25 : decode cX11_begins 25 = .ok (.iconst 2, 1) := by decide +kernel
theorem dX11_begins_26 : decode cX11_begins 26 = .ok (.if_icmp .ne 9, 3) := by decide +kernel
theorem dX11_begins_29 : decode cX11_begins 29 = .ok (.sipush 1000, 3) := by decide +kernel
theorem dX11_begins_32 : decode cX11_begins 32 = .ok (.goto 43, 3) := by decide +kernel
theorem dX11_begins_35 : decode cX11_begins 35 = .ok (.iload_n 2, 1) := by decide +kernel
theorem dX11_begins_36 : decode cX11_begins 36 = .ok (.iconst 3, 1) := by decide +kernel
theorem dX11_begins_37 : decode cX11_begins 37 = .ok (.if_icmp .ne 7, 3) := by decide +kernel
theorem dX11_begins_40 : decode cX11_begins 40 = .ok (.iconst 1, 1) := by decide +kernel
theorem dX11_begins_41 : decode cX11_begins 41 = .ok (.goto 34, 3) := by decide +kernel
theorem dX11_begins_44 : decode cX11_begins 44 = .ok (.iload_n 2, 1) := by decide +kernel
theorem dX11_begins_45 : decode cX11_begins 45 = .ok (.iconst 5, 1) := by decide +kernel
theorem dX11_begins_46 : decode cX11_begins 46 = .ok (.if_icmp .ne 7, 3) := by decide +kernel
theorem dX11_begins_49 : decode cX11_begins 49 = .ok (.iconst 2, 1) := by decide +kernel
theorem dX11_begins_50 : decode cX11_begins 50 = .ok (.goto 25, 3) := by decide +kernel
theorem dX11_begins_53 : decode cX11_begins 53 = .ok (.iload_n 2, 1) := by decide +kernel
theorem dX11_begins_54 : decode cX11_begins 54 = .ok (.iconst 4, 1) := by decide +kernel
theorem dX11_begins_55 : decode cX11_begins 55 = .ok (.if_icmp .eq 14, 3) := by decide +kernel
theorem dX11_begins_58 : decode cX11_begins 58 = .ok (.iload_n 2, 1) := by decide +kernel
theorem dX11_begins_59 : decode cX11_begins 59 = .ok (.bipush 6, 2) := by decide +kernel
theorem dX11_begins_61 : decode cX11_begins 61 = .ok (.bipush 9, 2) := by decide +kernel
theorem dX11_begins_63 : decode cX11_begins 63 = .ok (.invokestatic 116, 3) := by decide +kernel
theorem dX11_begins_66 : decode cX11_begins 66 = .ok (.ifCond .eq 8, 3) := by decide +kernel
theorem dX11_begins_69 : decode cX11_begins 69 = .ok (.bipush 10, 2) := by decide +kernel
theorem dX11_begins_71 : decode cX11_begins 71 = .ok (.goto 4, 3) := by decide +kernel
theorem dX11_begins_74 : decode cX11_begins 74 = .ok (.iconst 0, 1) := by decide +kernel
theorem dX11_begins_75 : decode cX11_begins 75 = .ok (.iastore, 1) := by decide +kernel
theorem dX11_begins_76 : decode cX11_begins 76 = .ok (.iinc 2 1, 3) := by decide +kernel
theorem dX11_begins_79 : decode cX11_begins 79 = .ok (.goto (-77), 3) := by decide +kernel
theorem dX11_begins_82 : decode cX11_begins 82 = .ok (.return_, 1) := by decide +kernel
set_option maxRecDepth 20000 in
theorem ggX11_feed_X11_four : GoodIn wsX11_feed wsX11_four := goodIn_r _ [6, 7, 1, 8, 9, 10, 11, 12, 13, 14, 15, 16, 17, 18, 19, 20, 21, 22, 23, 24, 25, 26, 27, 28, 29, 30, 31, 32, 33, 34, 35, 36, 37, 38, 39, 40, 41, 42, 43, 44, 45, 46, 47, 48, 49, 50, 51, 52, 53, 54] (by decide +kernel) (by decide +kernel)
set_option maxRecDepth 20000 in
theorem gX11_feed_X11_four : GoodIn wsX11_feed (wsV RX11 154 RX11 yX11_four wsX11_four) := goodIn_app (goodIn_of _ (by decide +kernel)) ggX11_feed_X11_four
theorem dX11_feed_0 : decode cX11_feed 0 = .ok (.aload_n 0, 1) := by decide +kernel
theorem dX11_feed_1 : decode cX11_feed 1 = .ok (.getfield 151, 3) := by decide +kernel
theorem dX11_feed_4 : decode cX11_feed 4 = .ok (.bipush 20, 2) := by decide +kernel
theorem dX11_feed_6 : decode cX11_feed 6 = .ok (.iadd, 1) := by decide +kernel
theorem dX11_feed_7 : decode cX11_feed 7 = .ok (.sipush 400, 3) := by decide +kernel
theorem dX11_feed_10 : decode cX11_feed 10 = .ok (.if_icmp .le 5, 3) := by decide +kernel
theorem dX11_feed_13 : decode cX11_feed 13 = .ok (.iconst (-1), 1) := by decide +kernel
theorem dX11_feed_14 : decode cX11_feed 14 = .ok (.ireturn, 1) := by decide +kernel
theorem dX11_feed_15 : decode cX11_feed 15 = .ok (.aload_n 0, 1) := by decide +kernel
theorem dX11_feed_16 : decode cX11_feed 16 = .ok (.iload_n 1, 1) := by decide +kernel
theorem dX11_feed_17 : decode cX11_feed 17 = .ok (.invokevirtual 154, 3) := by decide +kernel
theorem dX11_feed_20 : decode cX11_feed 20 = .ok (.aload_n 0, 1) := by decide +kernel
theorem dX11_feed_21 : decode cX11_feed 21 = .ok (.iload_n 2, 1) := by decide +kernel
theorem dX11_feed_22 : decode cX11_feed 22 = .ok (.invokevirtual 154, 3) := by decide +kernel
theorem dX11_feed_25 : decode cX11_feed 25 = .ok (.aload_n 0, 1) := by decide +kernel
theorem dX11_feed_26 : decode cX11_feed 26 = .ok (.iload_n 3, 1) := by decide +kernel
theorem dX11_feed_27 : decode cX11_feed 27 = .ok (.invokevirtual 154, 3) := by decide +kernel
theorem dX11_feed_30 : decode cX11_feed 30 = .ok (.aload_n 0, 1) := by decide +kernel
theorem dX11_feed_31 : decode cX11_feed 31 = .ok (.iload 4, 2) := by decide +kernel
theorem dX11_feed_33 : decode cX11_feed 33 = .ok (.invokevirtual 154, 3) := by decide +kernel
theorem dX11_feed_36 : decode cX11_feed 36 = .ok (.aload_n 0, 1) := by decide +kernel
theorem dX11_feed_37 : decode cX11_feed 37 = .ok (.iload 5, 2) := by decide +kernel
theorem dX11_feed_39 : decode cX11_feed 39 = .ok (.invokevirtual 154, 3) := by decide +kernel
theorem dX11_feed_42 : decode cX11_feed 42 = .ok (.aload_n 0, 1) := by decide +kernel
theorem dX11_feed_43 : decode cX11_feed 43 = .ok (.getfield 151, 3) := by decide +kernel
theorem dX11_feed_46 : decode cX11_feed 46 = .ok (.ireturn, 1) := by decide +kernel
theorem dX11_four_0 : decode cX11_four 0 = .ok (.bipush 24, 2) := by decide +kernel
theorem dX11_four_2 : decode cX11_four 2 = .ok (.istore_n 2, 1) := by decide +kernel
theorem dX11_four_3 : decode cX11_four 3 = .ok (.iload_n 2, 1) := by decide +kernel
theorem dX11_four_4 : decode cX11_four 4 = .ok (.ifCond .lt 32, 3) := by decide +kernel
theorem dX11_four_7 : decode cX11_four 7 = .ok (.aload_n 0, 1) := by decide +kernel
theorem dX11_four_8 : decode cX11_four 8 = .ok (.getfield 47, 3) := by decide +kernel
theorem dX11_four_11 : decode cX11_four 11 = .ok (.aload_n 0, 1) := by decide +kernel
theorem dX11_four_12 : decode cX11_four 12 = .ok (.getfield 151, 3) := by decide +kernel
theorem dX11_four_15 : decode cX11_four 15 = .ok (.iload_n 1, 1) := by decide +kernel
theorem dX11_four_16 : decode cX11_four 16 = .ok (.iload_n 2, 1) := by decide +kernel
theorem dX11_four_17 : decode cX11_four 17 = .ok (.ishr, 1) := by decide +kernel
theorem dX11_four_18 : decode cX11_four 18 = .ok (.i2b, 1) := by decide +kernel
theorem dX11_four_19 : decode cX11_four 19 = .ok (.bastore, 1) := by decide +kernel
theorem dX11_four_20 : decode cX11_four 20 = .ok (.aload_n 0, 1) := by decide +kernel
theorem dX11_four_21 : decode cX11_four 21 = .ok (.dup, 1) := by decide +kernel
theorem dX11_four_22 : decode cX11_four 22 = .ok (.getfield 151, 3) := by decide +kernel
theorem dX11_four_25 : decode cX11_four 25 = .ok (.iconst 1, 1) := by decide +kernel
theorem dX11_four_26 : decode cX11_four 26 = .ok (.iadd, 1) := by decide +kernel
theorem dX11_four_27 : decode cX11_four 27 = .ok (.putfield 151, 3) := by decide +kernel
theorem dX11_four_30 : decode cX11_four 30 = .ok (.iinc 2 (-8), 3) := by decide +kernel
theorem dX11_four_33 : decode cX11_four 33 = .ok (.goto (-30), 3) := by decide +kernel
theorem dX11_four_36 : decode cX11_four 36 = .ok (.return_, 1) := by decide +kernel
theorem dX11_blanks_0 : decode cX11_blanks 0 = .ok (.aload_n 0, 1) := by decide +kernel
theorem dX11_blanks_1 : decode cX11_blanks 1 = .ok (.getfield 157, 3) := by decide +kernel
theorem dX11_blanks_4 : decode cX11_blanks 4 = .ok (.aload_n 0, 1) := by decide +kernel
theorem dX11_blanks_5 : decode cX11_blanks 5 = .ok (.getfield 160, 3) := by decide +kernel
theorem dX11_blanks_8 : decode cX11_blanks 8 = .ok (.if_icmp .ge 44, 3) := by decide +kernel
theorem dX11_blanks_11 : decode cX11_blanks 11 = .ok (.aload_n 0, 1) := by decide +kernel
theorem dX11_blanks_12 : decode cX11_blanks 12 = .ok (.getfield 51, 3) := by decide +kernel
theorem dX11_blanks_15 : decode cX11_blanks 15 = .ok (.aload_n 0, 1) := by decide +kernel
theorem dX11_blanks_16 : decode cX11_blanks 16 = .ok (.getfield 157, 3) := by decide +kernel
theorem dX11_blanks_19 : decode cX11_blanks 19 = .ok (.baload, 1) := by decide +kernel
theorem dX11_blanks_20 : decode cX11_blanks 20 = .ok (.bipush 32, 2) := by decide +kernel
theorem dX11_blanks_22 : decode cX11_blanks 22 = .ok (.if_icmp .eq 17, 3) := by decide +kernel
theorem dX11_blanks_25 : decode cX11_blanks 25 = .ok (.aload_n 0, 1) := by decide +kernel
theorem dX11_blanks_26 : decode cX11_blanks 26 = .ok (.getfield 51, 3) := by decide +kernel
theorem dX11_blanks_29 : decode cX11_blanks 29 = .ok (.aload_n 0, 1) := by decide +kernel
theorem dX11_blanks_30 : decode cX11_blanks 30 = .ok (.getfield 157, 3) := by decide +kernel
theorem dX11_blanks_33 : decode cX11_blanks 33 = .ok (.baload, 1) := by decide +kernel
theorem dX11_blanks_34 : decode cX11_blanks 34 = .ok (.bipush 10, 2) := by decide +kernel
theorem dX11_blanks_36 : decode cX11_blanks 36 = .ok (.if_icmp .ne 16, 3) := by decide +kernel
theorem dX11_blanks_39 : decode cX11_blanks 39 = .ok (.aload_n 0, 1) := by decide +kernel
theorem dX11_blanks_40 : decode cX11_blanks 40 = .ok (.dup, 1) := by decide +kernel
theorem dX11_blanks_41 : decode cX11_blanks 41 = .ok (.getfield 157, 3) := by decide +kernel
theorem dX11_blanks_44 : decode cX11_blanks 44 = .ok (.iconst 1, 1) := by decide +kernel
theorem dX11_blanks_45 : decode cX11_blanks 45 = .ok (.iadd, 1) := by decide +kernel
theorem dX11_blanks_46 : decode cX11_blanks 46 = .ok (.putfield 157, 3) := by decide +kernel
theorem dX11_blanks_49 : decode cX11_blanks 49 = .ok (.goto (-49), 3) := by decide +kernel
theorem dX11_blanks_52 : decode cX11_blanks 52 = .ok (.return_, 1) := by decide +kernel
set_option maxRecDepth 20000 in
theorem ggX11_word_X11_blanks : GoodIn wsX11_word wsX11_blanks := goodIn_r _ [9, 1, 3, 4, 10, 11, 12, 13, 14, 15, 16, 17, 18, 19, 20, 21, 22, 23, 24, 25, 26, 27, 28, 29, 30, 31, 32, 33, 34, 35, 36, 37, 38, 39, 40, 41, 42, 43, 44, 45, 46, 47, 48, 49, 50, 51, 52, 53, 54, 55, 56] (by decide +kernel) (by decide +kernel)
set_option maxRecDepth 20000 in
theorem gX11_word_X11_blanks : GoodIn wsX11_word (wsV RX11 163 RX11 yX11_blanks wsX11_blanks) := goodIn_app (goodIn_of _ (by decide +kernel)) ggX11_word_X11_blanks
theorem dX11_word_0 : decode cX11_word 0 = .ok (.aload_n 0, 1) := by decide +kernel
theorem dX11_word_1 : decode cX11_word 1 = .ok (.invokevirtual 163, 3) := by decide +kernel
theorem dX11_word_4 : decode cX11_word 4 = .ok (.aload_n 0, 1) := by decide +kernel
theorem dX11_word_5 : decode cX11_word 5 = .ok (.aload_n 0, 1) := by decide +kernel
theorem dX11_word_6 : decode cX11_word 6 = .ok (.getfield 157, 3) := by decide +kernel
theorem dX11_word_9 : decode cX11_word 9 = .ok (.putfield 166, 3) := by decide +kernel
theorem dX11_word_12 : decode cX11_word 12 = .ok (.lconst 0, 1) := by decide +kernel
theorem dX11_word_13 : decode cX11_word 13 = .ok (.lstore_n 1, 1) := by decide +kernel
theorem dX11_word_14 : decode cX11_word 14 = .ok (.aload_n 0, 1) := by decide +kernel
theorem dX11_word_15 : decode cX11_word 15 = .ok (.getfield 166, 3) := by decide +kernel
theorem dX11_word_18 : decode cX11_word 18 = .ok (.aload_n 0, 1) := by decide +kernel
theorem dX11_word_19 : decode cX11_word 19 = .ok (.getfield 160, 3) := by decide +kernel
theorem dX11_word_22 : decode cX11_word 22 = .ok (.if_icmp .ge 78, 3) := by decide +kernel
theorem dX11_word_25 : decode cX11_word 25 = .ok (.aload_n 0, 1) := by decide +kernel
theorem dX11_word_26 : decode cX11_word 26 = .ok (.getfield 51, 3) := by decide +kernel
theorem dX11_word_29 : decode cX11_word 29 = .ok (.aload_n 0, 1) := by decide +kernel
theorem dX11_word_30 : decode cX11_word 30 = .ok (.getfield 166, 3) := by decide +kernel
theorem dX11_word_33 : decode cX11_word 33 = .ok (.baload, 1) := by decide +kernel
theorem dX11_word_34 : decode cX11_word 34 = .ok (.bipush 97, 2) := by decide +kernel
theorem dX11_word_36 : decode cX11_word 36 = .ok (.if_icmp .lt 64, 3) := by decide +kernel
theorem dX11_word_39 : decode cX11_word 39 = .ok (.aload_n 0, 1) := by decide +kernel
theorem dX11_word_40 : decode cX11_word 40 = .ok (.getfield 51, 3) := by decide +kernel
theorem dX11_word_43 : decode cX11_word 43 = .ok (.aload_n 0, 1) := by decide +kernel
theorem dX11_word_44 : decode cX11_word 44 = .ok (.getfield 166, 3) := by decide +kernel
theorem dX11_word_47 : decode cX11_word 47 = .ok (.baload, 1) := by decide +kernel
theorem dX11_word_48 : decode cX11_word 48 = .ok (.bipush 122, 2) := by decide +kernel
theorem dX11_word_50 : decode cX11_word 50 = .ok (.if_icmp .gt 50, 3) := by decide +kernel
theorem dX11_word_53 : decode cX11_word 53 = .ok (.aload_n 0, 1) := by decide +kernel
theorem dX11_word_54 : decode cX11_word 54 = .ok (.getfield 166, 3) := by decide +kernel
theorem dX11_word_57 : decode cX11_word 57 = .ok (.aload_n 0, 1) := by decide +kernel
theorem dX11_word_58 : decode cX11_word 58 = .ok (.getfield 157, 3) := by decide +kernel
theorem dX11_word_61 : decode cX11_word 61 = .ok (.isub, 1) := by decide +kernel
theorem dX11_word_62 : decode cX11_word 62 = .ok (.bipush 7, 2) := by decide +kernel
theorem dX11_word_64 : decode cX11_word 64 = .ok (.if_icmp .ge 21, 3) := by decide +kernel
theorem dX11_word_67 : decode cX11_word 67 = .ok (.lload_n 1, 1) := by decide +kernel
theorem dX11_word_68 : decode cX11_word 68 = .ok (.bipush 8, 2) := by decide +kernel
theorem dX11_word_70 : decode cX11_word 70 = .ok (.lshl, 1) := by decide +kernel
theorem dX11_word_71 : decode cX11_word 71 = .ok (.aload_n 0, 1) := by decide +kernel
theorem dX11_word_72 : decode cX11_word 72 = .ok (.getfield 51, 3) := by decide +kernel
theorem dX11_word_75 : decode cX11_word 75 = .ok (.aload_n 0, 1) := by decide +kernel
theorem dX11_word_76 : decode cX11_word 76 = .ok (.getfield 166, 3) := by decide +kernel
theorem dX11_word_79 : decode cX11_word 79 = .ok (.baload, 1) := by decide +kernel
theorem dX11_word_80 : decode cX11_word 80 = .ok (.i2l, 1) := by decide +kernel
theorem dX11_word_81 : decode cX11_word 81 = .ok (.lor, 1) := by decide +kernel
theorem dX11_word_82 : decode cX11_word 82 = .ok (.goto 4, 3) := by decide +kernel
theorem dX11_word_85 : decode cX11_word 85 = .ok (.lconst 0, 1) := by decide +kernel
theorem dX11_word_86 : decode cX11_word 86 = .ok (.lstore_n 1, 1) := by decide +kernel
theorem dX11_word_87 : decode cX11_word 87 = .ok (.aload_n 0, 1) := by decide +kernel
theorem dX11_word_88 : decode cX11_word 88 = .ok (.dup, 1) := by decide +kernel
theorem dX11_word_89 : decode cX11_word 89 = .ok (.getfield 166, 3) := by decide +kernel
theorem dX11_word_92 : decode cX11_word 92 = .ok (.iconst 1, 1) := by decide +kernel
theorem dX11_word_93 : decode cX11_word 93 = .ok (.iadd, 1) := by decide +kernel
theorem dX11_word_94 : decode cX11_word 94 = .ok (.putfield 166, 3) := by decide +kernel
theorem dX11_word_97 : decode cX11_word 97 = .ok (.goto (-83), 3) := by decide +kernel
theorem dX11_word_100 : decode cX11_word 100 = .ok (.aload_n 0, 1) := by decide +kernel
theorem dX11_word_101 : decode cX11_word 101 = .ok (.getfield 166, 3) := by decide +kernel
theorem dX11_word_104 : decode cX11_word 104 = .ok (.aload_n 0, 1) := by decide +kernel
theorem dX11_word_105 : decode cX11_word 105 = .ok (.getfield 157, 3) := by decide +kernel
theorem dX11_word_108 : decode cX11_word 108 = .ok (.isub, 1) := by decide +kernel
theorem dX11_word_109 : decode cX11_word 109 = .ok (.bipush 7, 2) := by decide +kernel
theorem dX11_word_111 : decode cX11_word 111 = .ok (.if_icmp .le 7, 3) := by decide +kernel
theorem dX11_word_114 : decode cX11_word 114 = .ok (.lconst 0, 1) := by decide +kernel
theorem dX11_word_115 : decode cX11_word 115 = .ok (.goto 4, 3) := by decide +kernel
theorem dX11_word_118 : decode cX11_word 118 = .ok (.lload_n 1, 1) := by decide +kernel
theorem dX11_word_119 : decode cX11_word 119 = .ok (.lreturn, 1) := by decide +kernel
set_option maxRecDepth 20000 in
theorem ggX11_takes_X11_word : GoodIn wsX11_takes wsX11_word := goodIn_r _ [7, 2, 1, 8, 9, 10, 11, 12, 6, 13, 14, 15, 16, 17, 18, 19, 20, 21, 22, 23, 24, 25, 26, 27, 28, 29, 30, 31, 32, 33, 34, 35, 36, 37, 38, 39, 40, 41, 42, 43, 44, 45, 46, 47, 48, 49, 50, 51, 52, 53, 54, 55, 56, 57, 58, 59, 60] (by decide +kernel) (by decide +kernel)
set_option maxRecDepth 20000 in
theorem gX11_takes_X11_word : GoodIn wsX11_takes (wsV RX11 169 RX11 yX11_word wsX11_word) := goodIn_app (goodIn_of _ (by decide +kernel)) ggX11_takes_X11_word
theorem dX11_takes_0 : decode cX11_takes 0 = .ok (.aload_n 0, 1) := by decide +kernel
theorem dX11_takes_1 : decode cX11_takes 1 = .ok (.invokevirtual 169, 3) := by decide +kernel
theorem dX11_takes_4 : decode cX11_takes 4 = .ok (.lload_n 1, 1) := by decide +kernel
theorem dX11_takes_5 : decode cX11_takes 5 = .ok (.lcmp, 1) := by decide +kernel
theorem dX11_takes_6 : decode cX11_takes 6 = .ok (.ifCond .eq 5, 3) := by decide +kernel
theorem dX11_takes_9 : decode cX11_takes 9 = .ok (.iconst 0, 1) := by decide +kernel
theorem dX11_takes_10 : decode cX11_takes 10 = .ok (.ireturn, 1) := by decide +kernel
theorem dX11_takes_11 : decode cX11_takes 11 = .ok (.aload_n 0, 1) := by decide +kernel
theorem dX11_takes_12 : decode cX11_takes 12 = .ok (.aload_n 0, 1) := by decide +kernel
theorem dX11_takes_13 : decode cX11_takes 13 = .ok (.getfield 166, 3) := by decide +kernel
theorem dX11_takes_16 : decode cX11_takes 16 = .ok (.putfield 157, 3) := by decide +kernel
theorem dX11_takes_19 : decode cX11_takes 19 = .ok (.iconst 1, 1) := by decide +kernel
theorem dX11_takes_20 : decode cX11_takes 20 = .ok (.ireturn, 1) := by decide +kernel
end
section
set_option maxRecDepth 20000 in
theorem ggX11_takesNumber_X11_blanks : GoodIn wsX11_takesNumber wsX11_blanks := goodIn_r _ [9, 1, 3, 4, 13, 14, 15, 16, 17, 18, 19, 20, 21, 22, 23, 24, 25, 26, 27, 28, 29, 30, 31, 32, 33, 34, 35, 36, 37, 38, 39, 40, 41, 42, 43, 44, 45, 46, 47, 48, 49, 50, 51, 52, 53, 54, 55, 56, 57, 58, 59] (by decide +kernel) (by decide +kernel)
set_option maxRecDepth 20000 in
theorem gX11_takesNumber_X11_blanks : GoodIn wsX11_takesNumber (wsV RX11 163 RX11 yX11_blanks wsX11_blanks) := goodIn_app (goodIn_of _ (by decide +kernel)) ggX11_takesNumber_X11_blanks
set_option maxRecDepth 20000 in
theorem ggX11_takesNumber_X11_isIn : GoodIn wsX11_takesNumber wsX11_isIn := goodIn_r _ [12] (by decide +kernel) (by decide +kernel)
set_option maxRecDepth 20000 in
theorem gX11_takesNumber_X11_isIn : GoodIn wsX11_takesNumber (va_wsS RX11 116 yX11_isIn wsX11_isIn) := goodIn_app (goodIn_of _ (by decide +kernel)) ggX11_takesNumber_X11_isIn
theorem dX11_takesNumber_0 : decode cX11_takesNumber 0 = .ok (.aload_n 0, 1) := by decide +kernel
theorem dX11_takesNumber_1 : decode cX11_takesNumber 1 = .ok (.invokevirtual 163, 3) := by decide +kernel
theorem dX11_takesNumber_4 : decode cX11_takesNumber 4 = .ok (.aload_n 0, 1) := by decide +kernel
theorem dX11_takesNumber_5 : decode cX11_takesNumber 5 = .ok (.getfield 157, 3) := by decide +kernel
theorem dX11_takesNumber_8 : decode cX11_takesNumber 8 = .ok (.istore_n 3, 1) := by decide +kernel
theorem dX11_takesNumber_9 : decode cX11_takesNumber 9 = .ok (.aload_n 0, 1) := by decide +kernel
theorem dX11_takesNumber_10 : decode cX11_takesNumber 10 = .ok (.iconst 0, 1) := by decide +kernel
theorem dX11_takesNumber_11 : decode cX11_takesNumber 11 = .ok (.putfield 173, 3) := by decide +kernel
theorem dX11_takesNumber_14 : decode cX11_takesNumber 14 = .ok (.iload_n 3, 1) := by decide +kernel
theorem dX11_takesNumber_15 : decode cX11_takesNumber 15 = .ok (.aload_n 0, 1) := by decide +kernel
theorem dX11_takesNumber_16 : decode cX11_takesNumber 16 = .ok (.getfield 160, 3) := by decide +kernel
theorem dX11_takesNumber_19 : decode cX11_takesNumber 19 = .ok (.if_icmp .ge 62, 3) := by decide +kernel
theorem dX11_takesNumber_22 : decode cX11_takesNumber 22 = .ok (.aload_n 0, 1) := by decide +kernel
theorem dX11_takesNumber_23 : decode cX11_takesNumber 23 = .ok (.getfield 51, 3) := by decide +kernel
theorem dX11_takesNumber_26 : decode cX11_takesNumber 26 = .ok (.iload_n 3, 1) := by decide +kernel
theorem dX11_takesNumber_27 : decode cX11_takesNumber 27 = .ok (.baload, 1) := by decide +kernel
theorem dX11_takesNumber_28 : decode cX11_takesNumber 28 = .ok (.bipush 48, 2) := by decide +kernel
theorem dX11_takesNumber_30 : decode cX11_takesNumber 30 = .ok (.if_icmp .lt 51, 3) := by decide +kernel
theorem dX11_takesNumber_33 : decode cX11_takesNumber 33 = .ok (.aload_n 0, 1) := by decide +kernel
theorem dX11_takesNumber_34 : decode cX11_takesNumber 34 = .ok (.getfield 51, 3) := by decide +kernel
theorem dX11_takesNumber_37 : decode cX11_takesNumber 37 = .ok (.iload_n 3, 1) := by decide +kernel
theorem dX11_takesNumber_38 : decode cX11_takesNumber 38 = .ok (.baload, 1) := by decide +kernel
theorem dX11_takesNumber_39 : decode cX11_takesNumber 39 = .ok (.bipush 57, 2) := by decide +kernel
theorem dX11_takesNumber_41 : decode cX11_takesNumber 41 = .ok (.if_icmp .gt 40, 3) := by decide +kernel
theorem dX11_takesNumber_44 : decode cX11_takesNumber 44 = .ok (.iload_n 3, 1) := by decide +kernel
theorem dX11_takesNumber_45 : decode cX11_takesNumber 45 = .ok (.aload_n 0, 1) := by decide +kernel
theorem dX11_takesNumber_46 : decode cX11_takesNumber 46 = .ok (.getfield 157, 3) := by decide +kernel
theorem dX11_takesNumber_49 : decode cX11_takesNumber 49 = .ok (.isub, 1) := by decide +kernel
theorem dX11_takesNumber_50 : decode cX11_takesNumber 50 = .ok (.iconst 4, 1) := by decide +kernel
theorem dX11_takesNumber_51 : decode cX11_takesNumber 51 = .ok (.if_icmp .ge 24, 3) := by decide +kernel
theorem dX11_takesNumber_54 : decode cX11_takesNumber 54 = .ok (.aload_n 0, 1) := by decide +kernel
theorem dX11_takesNumber_55 : decode cX11_takesNumber 55 = .ok (.bipush 10, 2) := by decide +kernel
theorem dX11_takesNumber_57 : decode cX11_takesNumber 57 = .ok (.aload_n 0, 1) := by decide +kernel
theorem dX11_takesNumber_58 : decode cX11_takesNumber 58 = .ok (.getfield 173, 3) := by decide +kernel
theorem dX11_takesNumber_61 : decode cX11_takesNumber 61 = .ok (.imul, 1) := by decide +kernel
theorem dX11_takesNumber_62 : decode cX11_takesNumber 62 = .ok (.aload_n 0, 1) := by decide +kernel
theorem dX11_takesNumber_63 : decode cX11_takesNumber 63 = .ok (.getfield 51, 3) := by decide +kernel
theorem dX11_takesNumber_66 : decode cX11_takesNumber 66 = .ok (.iload_n 3, 1) := by decide +kernel
theorem dX11_takesNumber_67 : decode cX11_takesNumber 67 = .ok (.baload, 1) := by decide +kernel
theorem dX11_takesNumber_68 : decode cX11_takesNumber 68 = .ok (.iadd, 1) := by decide +kernel
theorem dX11_takesNumber_69 : decode cX11_takesNumber 69 = .ok (.bipush 48, 2) := by decide +kernel
theorem dX11_takesNumber_71 : decode cX11_takesNumber 71 = .ok (.isub, 1) := by decide +kernel
theorem dX11_takesNumber_72 : decode cX11_takesNumber 72 = .ok (.putfield 173, 3) := by decide +kernel
theorem dX11_takesNumber_75 : decode cX11_takesNumber 75 = .ok (.iinc 3 1, 3) := by decide +kernel
theorem dX11_takesNumber_78 : decode cX11_takesNumber 78 = .ok (.goto (-64), 3) := by decide +kernel
theorem dX11_takesNumber_81 : decode cX11_takesNumber 81 = .ok (.iload_n 3, 1) := by decide +kernel
theorem dX11_takesNumber_82 : decode cX11_takesNumber 82 = .ok (.aload_n 0, 1) := by decide +kernel
theorem dX11_takesNumber_83 : decode cX11_takesNumber 83 = .ok (.getfield 157, 3) := by decide +kernel
theorem dX11_takesNumber_86 : decode cX11_takesNumber 86 = .ok (.if_icmp .eq 25, 3) := by decide +kernel
theorem dX11_takesNumber_89 : decode cX11_takesNumber 89 = .ok (.iload_n 3, 1) := by decide +kernel
theorem dX11_takesNumber_90 : decode cX11_takesNumber 90 = .ok (.aload_n 0, 1) := by decide +kernel
theorem dX11_takesNumber_91 : decode cX11_takesNumber 91 = .ok (.getfield 157, 3) := by decide +kernel
theorem dX11_takesNumber_94 : decode cX11_takesNumber 94 = .ok (.isub, 1) := by decide +kernel
theorem dX11_takesNumber_95 : decode cX11_takesNumber 95 = .ok (.iconst 4, 1) := by decide +kernel
theorem dX11_takesNumber_96 : decode cX11_takesNumber 96 = .ok (.if_icmp .gt 15, 3) := by decide +kernel
theorem dX11_takesNumber_99 : decode cX11_takesNumber 99 = .ok (.aload_n 0, 1) := by decide +kernel
theorem dX11_takesNumber_100 : decode cX11_takesNumber 100 = .ok (.getfield 173, 3) := by decide +kernel
theorem dX11_takesNumber_103 : decode cX11_takesNumber 103 = .ok (.iload_n 1, 1) := by decide +kernel
theorem dX11_takesNumber_104 : decode cX11_takesNumber 104 = .ok (.iload_n 2, 1) := by decide +kernel
theorem dX11_takesNumber_105 : decode cX11_takesNumber 105 = .ok (.invokestatic 116, 3) := by decide +kernel
theorem dX11_takesNumber_108 : decode cX11_takesNumber 108 = .ok (.ifCond .ne 5, 3) := by decide +kernel
theorem dX11_takesNumber_111 : decode cX11_takesNumber 111 = .ok (.iconst 0, 1) := by decide +kernel
theorem dX11_takesNumber_112 : decode cX11_takesNumber 112 = .ok (.ireturn, 1) := by decide +kernel
theorem dX11_takesNumber_113 : decode cX11_takesNumber 113 = .ok (.aload_n 0, 1) := by decide +kernel
theorem dX11_takesNumber_114 : decode cX11_takesNumber 114 = .ok (.iload_n 3, 1) := by decide +kernel
theorem dX11_takesNumber_115 : decode cX11_takesNumber 115 = .ok (.putfield 157, 3) := by decide +kernel
theorem dX11_takesNumber_118 : decode cX11_takesNumber 118 = .ok (.iconst 1, 1) := by decide +kernel
theorem dX11_takesNumber_119 : decode cX11_takesNumber 119 = .ok (.ireturn, 1) := by decide +kernel
set_option maxRecDepth 20000 in
theorem ggX11_statement_X11_takes : GoodIn wsX11_statement wsX11_takes := goodIn_r _ [19, 20, 12, 21, 22, 23, 18, 24, 13, 14, 25, 26, 27, 28, 36, 37, 38, 39, 40, 41, 42, 43, 44, 45, 46, 47, 48, 49, 50, 51, 52, 53, 54, 55, 56, 57, 58, 59, 60, 61, 62, 63, 64, 65, 66, 67, 68, 69, 70, 71, 72, 73, 74, 75, 76, 77, 78, 79, 80, 81, 82] (by decide +kernel) (by decide +kernel)
set_option maxRecDepth 20000 in
theorem gX11_statement_X11_takes : GoodIn wsX11_statement (wsV RX11 178 RX11 yX11_takes wsX11_takes) := goodIn_app (goodIn_of _ (by decide +kernel)) ggX11_statement_X11_takes
set_option maxRecDepth 20000 in
theorem ggX11_statement_X11_takesNumber : GoodIn wsX11_statement wsX11_takesNumber := goodIn_r _ [32, 12, 2, 13, 14, 25, 26, 27, 18, 28, 33, 34, 35, 36, 37, 38, 39, 40, 41, 42, 43, 44, 45, 46, 47, 48, 49, 50, 51, 52, 53, 54, 55, 56, 57, 58, 59, 60, 61, 62, 63, 64, 65, 66, 67, 68, 69, 70, 71, 72, 73, 74, 75, 76, 77, 78, 79, 80, 81, 82] (by decide +kernel) (by decide +kernel)
set_option maxRecDepth 20000 in
theorem gX11_statement_X11_takesNumber : GoodIn wsX11_statement (wsV RX11 182 RX11 yX11_takesNumber wsX11_takesNumber) := goodIn_app (goodIn_of _ (by decide +kernel)) ggX11_statement_X11_takesNumber
set_option maxRecDepth 20000 in
theorem ggX11_statement_X11_blanks : GoodIn wsX11_statement wsX11_blanks := goodIn_r _ [28, 12, 13, 14, 36, 37, 38, 39, 40, 41, 42, 43, 44, 45, 46, 47, 48, 49, 50, 51, 52, 53, 54, 55, 56, 57, 58, 59, 60, 61, 62, 63, 64, 65, 66, 67, 68, 69, 70, 71, 72, 73, 74, 75, 76, 77, 78, 79, 80, 81, 82] (by decide +kernel) (by decide +kernel)
set_option maxRecDepth 20000 in
theorem gX11_statement_X11_blanks : GoodIn wsX11_statement (wsV RX11 163 RX11 yX11_blanks wsX11_blanks) := goodIn_app (goodIn_of _ (by decide +kernel)) ggX11_statement_X11_blanks
theorem dX11_statement_0 : decode cX11_statement 0 = .ok (.aload_n 0, 1) := by decide +kernel
theorem dX11_statement_1 : decode cX11_statement 1 = .ok (.ldc2_w 176, 3) := by decide +kernel
theorem dX11_statement_4 : decode cX11_statement 4 = .ok (.invokevirtual 178, 3) := by decide +kernel
theorem dX11_statement_7 : decode cX11_statement 7 = .ok (.ifCond .eq 58, 3) := by decide +kernel
theorem dX11_statement_10 : decode cX11_statement 10 = .ok (.aload_n 0, 1) := by decide +kernel
theorem dX11_statement_11 : decode cX11_statement 11 = .ok (.iconst 0, 1) := by decide +kernel
theorem dX11_statement_12 : decode cX11_statement 12 = .ok (.iconst 3, 1) := by decide +kernel
theorem dX11_statement_13 : decode cX11_statement 13 = .ok (.invokevirtual 182, 3) := by decide +kernel
theorem dX11_statement_16 : decode cX11_statement 16 = .ok (.ifCond .ne 5, 3) := by decide +kernel
theorem dX11_statement_19 : decode cX11_statement 19 = .ok (.iconst 0, 1) := by decide +kernel
theorem dX11_statement_20 : decode cX11_statement 20 = .ok (.ireturn, 1) := by decide +kernel
theorem dX11_statement_21 : decode cX11_statement 21 = .ok (.aload_n 0, 1) := by decide +kernel
theorem dX11_statement_22 : decode cX11_statement 22 = .ok (.getfield 173, 3) := by decide +kernel
theorem dX11_statement_25 : decode cX11_statement 25 = .ok (.istore_n 1, 1) := by decide +kernel
theorem dX11_statement_26 : decode cX11_statement 26 = .ok (.aload_n 0, 1) := by decide +kernel
theorem dX11_statement_27 : decode cX11_statement 27 = .ok (.ldc2_w 186, 3) := by decide +kernel
theorem dX11_statement_30 : decode cX11_statement 30 = .ok (.invokevirtual 178, 3) := by decide +kernel
theorem dX11_statement_33 : decode cX11_statement 33 = .ok (.ifCond .eq 14, 3) := by decide +kernel
theorem dX11_statement_36 : decode cX11_statement 36 = .ok (.aload_n 0, 1) := by decide +kernel
theorem dX11_statement_37 : decode cX11_statement 37 = .ok (.iconst 0, 1) := by decide +kernel
theorem dX11_statement_38 : decode cX11_statement 38 = .ok (.sipush 9999, 3) := by decide +kernel
theorem dX11_statement_41 : decode cX11_statement 41 = .ok (.invokevirtual 182, 3) := by decide +kernel
theorem dX11_statement_44 : decode cX11_statement 44 = .ok (.ifCond .ne 5, 3) := by decide +kernel
theorem dX11_statement_47 : decode cX11_statement 47 = .ok (.iconst 0, 1) := by decide +kernel
theorem dX11_statement_48 : decode cX11_statement 48 = .ok (.ireturn, 1) := by decide +kernel
theorem dX11_statement_49 : decode cX11_statement 49 = .ok (.aload_n 0, 1) := by decide +kernel
theorem dX11_statement_50 : decode cX11_statement 50 = .ok (.getfield 44, 3) := by decide +kernel
theorem dX11_statement_53 : decode cX11_statement 53 = .ok (.bipush 26, 2) := by decide +kernel
theorem dX11_statement_55 : decode cX11_statement 55 = .ok (.iload_n 1, 1) := by decide +kernel
theorem dX11_statement_56 : decode cX11_statement 56 = .ok (.iadd, 1) := by decide +kernel
theorem dX11_statement_57 : decode cX11_statement 57 = .ok (.aload_n 0, 1) := by decide +kernel
theorem dX11_statement_58 : decode cX11_statement 58 = .ok (.getfield 173, 3) := by decide +kernel
theorem dX11_statement_61 : decode cX11_statement 61 = .ok (.iastore, 1) := by decide +kernel
theorem dX11_statement_62 : decode cX11_statement 62 = .ok (.goto 187, 3) := by decide +kernel
theorem dX11_statement_65 : decode cX11_statement 65 = .ok (.aload_n 0, 1) := by decide +kernel
theorem dX11_statement_66 : decode cX11_statement 66 = .ok (.ldc2_w 188, 3) := by decide +kernel
theorem dX11_statement_69 : decode cX11_statement 69 = .ok (.invokevirtual 178, 3) := by decide +kernel
theorem dX11_statement_72 : decode cX11_statement 72 = .ok (.ifCond .eq 41, 3) := by decide +kernel
theorem dX11_statement_75 : decode cX11_statement 75 = .ok (.aload_n 0, 1) := by decide +kernel
theorem dX11_statement_76 : decode cX11_statement 76 = .ok (.iconst 0, 1) := by decide +kernel
theorem dX11_statement_77 : decode cX11_statement 77 = .ok (.sipush 9999, 3) := by decide +kernel
theorem dX11_statement_80 : decode cX11_statement 80 = .ok (.invokevirtual 182, 3) := by decide +kernel
theorem dX11_statement_83 : decode cX11_statement 83 = .ok (.ifCond .ne 5, 3) := by decide +kernel
theorem dX11_statement_86 : decode cX11_statement 86 = .ok (.iconst 0, 1) := by decide +kernel
theorem dX11_statement_87 : decode cX11_statement 87 = .ok (.ireturn, 1) := by decide +kernel
theorem dX11_statement_88 : decode cX11_statement 88 = .ok (.aload_n 0, 1) := by decide +kernel
theorem dX11_statement_89 : decode cX11_statement 89 = .ok (.getfield 173, 3) := by decide +kernel
theorem dX11_statement_92 : decode cX11_statement 92 = .ok (.bipush 10, 2) := by decide +kernel
theorem dX11_statement_94 : decode cX11_statement 94 = .ok (.if_icmp .ge 155, 3) := by decide +kernel
theorem dX11_statement_97 : decode cX11_statement 97 = .ok (.aload_n 0, 1) := by decide +kernel
theorem dX11_statement_98 : decode cX11_statement 98 = .ok (.getfield 44, 3) := by decide +kernel
theorem dX11_statement_101 : decode cX11_statement 101 = .ok (.bipush 30, 2) := by decide +kernel
theorem dX11_statement_103 : decode cX11_statement 103 = .ok (.aload_n 0, 1) := by decide +kernel
theorem dX11_statement_104 : decode cX11_statement 104 = .ok (.getfield 173, 3) := by decide +kernel
theorem dX11_statement_107 : decode cX11_statement 107 = .ok (.iadd, 1) := by decide +kernel
theorem dX11_statement_108 : decode cX11_statement 108 = .ok (.iconst 1, 1) := by decide +kernel
theorem dX11_statement_109 : decode cX11_statement 109 = .ok (.iastore, 1) := by decide +kernel
theorem dX11_statement_110 : decode cX11_statement 110 = .ok (.goto 139, 3) := by decide +kernel
theorem dX11_statement_113 : decode cX11_statement 113 = .ok (.aload_n 0, 1) := by decide +kernel
theorem dX11_statement_114 : decode cX11_statement 114 = .ok (.ldc2_w 190, 3) := by decide +kernel
theorem dX11_statement_117 : decode cX11_statement 117 = .ok (.invokevirtual 178, 3) := by decide +kernel
theorem dX11_statement_120 : decode cX11_statement 120 = .ok (.ifCond .eq 7, 3) := by decide +kernel
theorem dX11_statement_123 : decode cX11_statement 123 = .ok (.iconst 0, 1) := by decide +kernel
theorem dX11_statement_124 : decode cX11_statement 124 = .ok (.goto 74, 3) := by decide +kernel
theorem dX11_statement_127 : decode cX11_statement 127 = .ok (.aload_n 0, 1) := by decide +kernel
theorem dX11_statement_128 : decode cX11_statement 128 = .ok (.ldc2_w 192, 3) := by decide +kernel
theorem dX11_statement_131 : decode cX11_statement 131 = .ok (.invokevirtual 178, 3) := by decide +kernel
theorem dX11_statement_134 : decode cX11_statement 134 = .ok (.ifCond .eq 7, 3) := by decide +kernel
theorem dX11_statement_137 : decode cX11_statement 137 = .ok (.iconst 1, 1) := by decide +kernel
theorem dX11_statement_138 : decode cX11_statement 138 = .ok (.goto 60, 3) := by decide +kernel
theorem dX11_statement_141 : decode cX11_statement 141 = .ok (.aload_n 0, 1) := by decide +kernel
theorem dX11_statement_142 : decode cX11_statement 142 = .ok (.ldc2_w 194, 3) := by decide +kernel
theorem dX11_statement_145 : decode cX11_statement 145 = .ok (.invokevirtual 178, 3) := by decide +kernel
theorem dX11_statement_148 : decode cX11_statement 148 = .ok (.ifCond .eq 7, 3) := by decide +kernel
theorem dX11_statement_151 : decode cX11_statement 151 = .ok (.iconst 2, 1) := by decide +kernel
theorem dX11_statement_152 : decode cX11_statement 152 = .ok (.goto 46, 3) := by decide +kernel
theorem dX11_statement_155 : decode cX11_statement 155 = .ok (.aload_n 0, 1) := by decide +kernel
theorem dX11_statement_156 : decode cX11_statement 156 = .ok (.ldc2_w 196, 3) := by decide +kernel
theorem dX11_statement_159 : decode cX11_statement 159 = .ok (.invokevirtual 178, 3) := by decide +kernel
theorem dX11_statement_162 : decode cX11_statement 162 = .ok (.ifCond .eq 7, 3) := by decide +kernel
theorem dX11_statement_165 : decode cX11_statement 165 = .ok (.iconst 3, 1) := by decide +kernel
theorem dX11_statement_166 : decode cX11_statement 166 = .ok (.goto 32, 3) := by decide +kernel
theorem dX11_statement_169 : decode cX11_statement 169 = .ok (.aload_n 0, 1) := by decide +kernel
theorem dX11_statement_170 : decode cX11_statement 170 = .ok (.ldc2_w 198, 3) := by decide +kernel
theorem dX11_statement_173 : decode cX11_statement 173 = .ok (.invokevirtual 178, 3) := by decide +kernel
theorem dX11_statement_176 : decode cX11_statement 176 = .ok (.ifCond .eq 7, 3) := by decide +kernel
theorem dX11_statement_179 : decode cX11_statement 179 = .ok (.iconst 4, 1) := by decide +kernel
theorem dX11_statement_180 : decode cX11_statement 180 = .ok (.goto 18, 3) := by decide +kernel
theorem dX11_statement_183 : decode cX11_statement 183 = .ok (.aload_n 0, 1) := by decide +kernel
theorem dX11_statement_184 : decode cX11_statement 184 = .ok (.ldc2_w 200, 3) := by decide +kernel
theorem dX11_statement_187 : decode cX11_statement 187 = .ok (.invokevirtual 178, 3) := by decide +kernel
theorem dX11_statement_190 : decode cX11_statement 190 = .ok (.ifCond .eq 7, 3) := by decide +kernel
theorem dX11_statement_193 : decode cX11_statement 193 = .ok (.iconst 5, 1) := by decide +kernel
theorem dX11_statement_194 : decode cX11_statement 194 = .ok (.goto 4, 3) := by decide +kernel
theorem dX11_statement_197 : decode cX11_statement 197 = .ok (.iconst (-1), 1) := by decide +kernel
theorem dX11_statement_198 : decode cX11_statement 198 = .ok (.istore_n 1, 1) := by decide +kernel
theorem dX11_statement_199 : decode cX11_statement 199 = .ok (.iload_n 1, 1) := by decide +kernel
theorem dX11_statement_200 : decode cX11_statement 200 = .ok (.iconst (-1), 1) := by decide +kernel
theorem dX11_statement_201 : decode cX11_statement 201 = .ok (.if_icmp .eq 33, 3) := by decide +kernel
theorem dX11_statement_204 : decode cX11_statement 204 = .ok (.aload_n 0, 1) := by decide +kernel
theorem dX11_statement_205 : decode cX11_statement 205 = .ok (.iload_n 1, 1) := by decide +kernel
theorem dX11_statement_206 : decode cX11_statement 206 = .ok (.iconst 4, 1) := by decide +kernel
theorem dX11_statement_207 : decode cX11_statement 207 = .ok (.if_icmp .ne 7, 3) := by decide +kernel
theorem dX11_statement_210 : decode cX11_statement 210 = .ok (.iconst 1, 1) := by decide +kernel
theorem dX11_statement_211 : decode cX11_statement 211 = .ok (.goto 4, 3) := by decide +kernel
theorem dX11_statement_214 : decode cX11_statement 214 = .ok (.iconst 0, 1) := by decide +kernel
theorem dX11_statement_215 : decode cX11_statement 215 = .ok (.iload_n 1, 1) := by decide +kernel
theorem dX11_statement_216 : decode cX11_statement 216 = .ok (.iconst 4, 1) := by decide +kernel
theorem dX11_statement_217 : decode cX11_statement 217 = .ok (.if_icmp .ne 8, 3) := by decide +kernel
theorem dX11_statement_220 : decode cX11_statement 220 = .ok (.bipush 40, 2) := by decide +kernel
theorem dX11_statement_222 : decode cX11_statement 222 = .ok (.goto 6, 3) := by decide +kernel
theorem dX11_statement_225 : decode cX11_statement 225 = .ok (.sipush 9999, 3) := by decide +kernel
theorem dX11_statement_228 : decode cX11_statement 228 = .ok (.invokevirtual 182, 3) := by decide +kernel
theorem dX11_statement_231 : decode cX11_statement 231 = .ok (.ifCond .ne 5, 3) := by decide +kernel
theorem dX11_statement_234 : decode cX11_statement 234 = .ok (.iconst 0, 1) := by decide +kernel
theorem dX11_statement_235 : decode cX11_statement 235 = .ok (.ireturn, 1) := by decide +kernel
theorem dX11_statement_236 : decode cX11_statement 236 = .ok (.aload_n 0, 1) := by decide +kernel
theorem dX11_statement_237 : decode cX11_statement 237 = .ok (.getfield 44, 3) := by decide +kernel
theorem dX11_statement_240 : decode cX11_statement 240 = .ok (.bipush 20, 2) := by decide +kernel
theorem dX11_statement_242 : decode cX11_statement 242 = .ok (.iload_n 1, 1) := by decide +kernel
theorem dX11_statement_243 : decode cX11_statement 243 = .ok (.iadd, 1) := by decide +kernel
theorem dX11_statement_244 : decode cX11_statement 244 = .ok (.aload_n 0, 1) := by decide +kernel
theorem dX11_statement_245 : decode cX11_statement 245 = .ok (.getfield 173, 3) := by decide +kernel
theorem dX11_statement_248 : decode cX11_statement 248 = .ok (.iastore, 1) := by decide +kernel
theorem dX11_statement_249 : decode cX11_statement 249 = .ok (.aload_n 0, 1) := by decide +kernel
theorem dX11_statement_250 : decode cX11_statement 250 = .ok (.invokevirtual 163, 3) := by decide +kernel
theorem dX11_statement_253 : decode cX11_statement 253 = .ok (.aload_n 0, 1) := by decide +kernel
theorem dX11_statement_254 : decode cX11_statement 254 = .ok (.getfield 157, 3) := by decide +kernel
theorem dX11_statement_257 : decode cX11_statement 257 = .ok (.aload_n 0, 1) := by decide +kernel
theorem dX11_statement_258 : decode cX11_statement 258 = .ok (.getfield 160, 3) := by decide +kernel
theorem dX11_statement_261 : decode cX11_statement 261 = .ok (.if_icmp .eq 17, 3) := by decide +kernel
theorem dX11_statement_264 : decode cX11_statement 264 = .ok (.aload_n 0, 1) := by decide +kernel
theorem dX11_statement_265 : decode cX11_statement 265 = .ok (.getfield 51, 3) := by decide +kernel
theorem dX11_statement_268 : decode cX11_statement 268 = .ok (.aload_n 0, 1) := by decide +kernel
theorem dX11_statement_269 : decode cX11_statement 269 = .ok (.getfield 157, 3) := by decide +kernel
theorem dX11_statement_272 : decode cX11_statement 272 = .ok (.baload, 1) := by decide +kernel
theorem dX11_statement_273 : decode cX11_statement 273 = .ok (.bipush 59, 2) := by decide +kernel
theorem dX11_statement_275 : decode cX11_statement 275 = .ok (.if_icmp .eq 5, 3) := by decide +kernel
theorem dX11_statement_278 : decode cX11_statement 278 = .ok (.iconst 0, 1) := by decide +kernel
theorem dX11_statement_279 : decode cX11_statement 279 = .ok (.ireturn, 1) := by decide +kernel
theorem dX11_statement_280 : decode cX11_statement 280 = .ok (.aload_n 0, 1) := by decide +kernel
theorem dX11_statement_281 : decode cX11_statement 281 = .ok (.dup, 1) := by decide +kernel
theorem dX11_statement_282 : decode cX11_statement 282 = .ok (.getfield 157, 3) := by decide +kernel
theorem dX11_statement_285 : decode cX11_statement 285 = .ok (.iconst 1, 1) := by decide +kernel
theorem dX11_statement_286 : decode cX11_statement 286 = .ok (.iadd, 1) := by decide +kernel
theorem dX11_statement_287 : decode cX11_statement 287 = .ok (.putfield 157, 3) := by decide +kernel
theorem dX11_statement_290 : decode cX11_statement 290 = .ok (.iconst 1, 1) := by decide +kernel
theorem dX11_statement_291 : decode cX11_statement 291 = .ok (.ireturn, 1) := by decide +kernel
set_option maxRecDepth 20000 in
theorem ggX11_act_X11_isIn : GoodIn wsX11_act wsX11_isIn := goodIn_r _ [12] (by decide +kernel) (by decide +kernel)
set_option maxRecDepth 20000 in
theorem gX11_act_X11_isIn : GoodIn wsX11_act (va_wsS RX11 116 yX11_isIn wsX11_isIn) := goodIn_app (goodIn_of _ (by decide +kernel)) ggX11_act_X11_isIn
set_option maxRecDepth 20000 in
theorem ggX11_act_X11_begins : GoodIn wsX11_act wsX11_begins := goodIn_r _ [16, 7, 9, 10, 11, 12, 48, 49, 50, 51, 52, 53, 54, 55, 56, 57, 58, 59, 60, 61, 62, 63, 64, 65, 66, 67, 68, 69, 70, 71, 72, 73, 74, 75, 76, 77, 78, 79, 80, 81, 82, 83, 84, 85, 86, 87, 88, 89, 90, 91, 92, 93, 94] (by decide +kernel) (by decide +kernel)
set_option maxRecDepth 20000 in
theorem gX11_act_X11_begins : GoodIn wsX11_act (wsV RX11 109 RX11 yX11_begins wsX11_begins) := goodIn_app (goodIn_of _ (by decide +kernel)) ggX11_act_X11_begins
set_option maxRecDepth 20000 in
theorem ggX11_act_X11_blanks : GoodIn wsX11_act wsX11_blanks := goodIn_r _ [20, 5, 4, 2, 48, 49, 50, 51, 52, 53, 54, 55, 56, 57, 58, 59, 60, 61, 62, 63, 64, 65, 66, 67, 68, 69, 70, 71, 72, 73, 74, 75, 76, 77, 78, 79, 80, 81, 82, 83, 84, 85, 86, 87, 88, 89, 90, 91, 92, 93, 94] (by decide +kernel) (by decide +kernel)
set_option maxRecDepth 20000 in
theorem gX11_act_X11_blanks : GoodIn wsX11_act (wsV RX11 163 RX11 yX11_blanks wsX11_blanks) := goodIn_app (goodIn_of _ (by decide +kernel)) ggX11_act_X11_blanks
set_option maxRecDepth 20000 in
theorem ggX11_act_X11_statement : GoodIn wsX11_act wsX11_statement := goodIn_r _ [24, 25, 26, 27, 7, 28, 29, 30, 31, 32, 33, 34, 5, 4, 2, 35, 36, 37, 11, 38, 39, 40, 41, 42, 43, 17, 18, 19, 20, 44, 45, 46, 47, 9, 10, 12, 48, 49, 50, 51, 52, 53, 54, 55, 56, 57, 58, 59, 60, 61, 62, 63, 64, 65, 66, 67, 68, 69, 70, 71, 72, 73, 74, 75, 76, 77, 78, 79, 80, 81, 82, 83, 84, 85, 86, 87, 88, 89, 90, 91, 92, 93, 94] (by decide +kernel) (by decide +kernel)
set_option maxRecDepth 20000 in
theorem gX11_act_X11_statement : GoodIn wsX11_act (wsV RX11 202 RX11 yX11_statement wsX11_statement) := goodIn_app (goodIn_of _ (by decide +kernel)) ggX11_act_X11_statement
theorem dX11_act_0 : decode cX11_act 0 = .ok (.iload_n 1, 1) := by decide +kernel
theorem dX11_act_1 : decode cX11_act 1 = .ok (.iconst 0, 1) := by decide +kernel
theorem dX11_act_2 : decode cX11_act 2 = .ok (.aload_n 0, 1) := by decide +kernel
theorem dX11_act_3 : decode cX11_act 3 = .ok (.getfield 151, 3) := by decide +kernel
theorem dX11_act_6 : decode cX11_act 6 = .ok (.invokestatic 116, 3) := by decide +kernel
theorem dX11_act_9 : decode cX11_act 9 = .ok (.ifCond .ne 6, 3) := by decide +kernel
theorem dX11_act_12 : decode cX11_act 12 = .ok (.bipush (-2), 2) := by decide +kernel
theorem dX11_act_14 : decode cX11_act 14 = .ok (.ireturn, 1) := by decide +kernel
theorem dX11_act_15 : decode cX11_act 15 = .ok (.iconst 0, 1) := by decide +kernel
theorem dX11_act_16 : decode cX11_act 16 = .ok (.istore_n 2, 1) := by decide +kernel
theorem dX11_act_17 : decode cX11_act 17 = .ok (.iload_n 2, 1) := by decide +kernel
theorem dX11_act_18 : decode cX11_act 18 = .ok (.iload_n 1, 1) := by decide +kernel
theorem dX11_act_19 : decode cX11_act 19 = .ok (.if_icmp .ge 21, 3) := by decide +kernel
theorem dX11_act_22 : decode cX11_act 22 = .ok (.aload_n 0, 1) := by decide +kernel
theorem dX11_act_23 : decode cX11_act 23 = .ok (.getfield 51, 3) := by decide +kernel
theorem dX11_act_26 : decode cX11_act 26 = .ok (.iload_n 2, 1) := by decide +kernel
theorem dX11_act_27 : decode cX11_act 27 = .ok (.aload_n 0, 1) := by decide +kernel
theorem dX11_act_28 : decode cX11_act 28 = .ok (.getfield 47, 3) := by decide +kernel
theorem dX11_act_31 : decode cX11_act 31 = .ok (.iload_n 2, 1) := by decide +kernel
theorem dX11_act_32 : decode cX11_act 32 = .ok (.baload, 1) := by decide +kernel
theorem dX11_act_33 : decode cX11_act 33 = .ok (.bastore, 1) := by decide +kernel
theorem dX11_act_34 : decode cX11_act 34 = .ok (.iinc 2 1, 3) := by decide +kernel
theorem dX11_act_37 : decode cX11_act 37 = .ok (.goto (-20), 3) := by decide +kernel
theorem dX11_act_40 : decode cX11_act 40 = .ok (.aload_n 0, 1) := by decide +kernel
theorem dX11_act_41 : decode cX11_act 41 = .ok (.iload_n 1, 1) := by decide +kernel
theorem dX11_act_42 : decode cX11_act 42 = .ok (.putfield 160, 3) := by decide +kernel
theorem dX11_act_45 : decode cX11_act 45 = .ok (.aload_n 0, 1) := by decide +kernel
theorem dX11_act_46 : decode cX11_act 46 = .ok (.iconst 0, 1) := by decide +kernel
theorem dX11_act_47 : decode cX11_act 47 = .ok (.putfield 151, 3) := by decide +kernel
theorem dX11_act_50 : decode cX11_act 50 = .ok (.aload_n 0, 1) := by decide +kernel
theorem dX11_act_51 : decode cX11_act 51 = .ok (.iconst 0, 1) := by decide +kernel
theorem dX11_act_52 : decode cX11_act 52 = .ok (.putfield 157, 3) := by decide +kernel
theorem dX11_act_55 : decode cX11_act 55 = .ok (.aload_n 0, 1) := by decide +kernel
theorem dX11_act_56 : decode cX11_act 56 = .ok (.bipush 20, 2) := by decide +kernel
theorem dX11_act_58 : decode cX11_act 58 = .ok (.invokevirtual 109, 3) := by decide +kernel
theorem dX11_act_61 : decode cX11_act 61 = .ok (.iconst 0, 1) := by decide +kernel
theorem dX11_act_62 : decode cX11_act 62 = .ok (.istore_n 2, 1) := by decide +kernel
theorem dX11_act_63 : decode cX11_act 63 = .ok (.iconst 1, 1) := by decide +kernel
theorem dX11_act_64 : decode cX11_act 64 = .ok (.istore_n 3, 1) := by decide +kernel
theorem dX11_act_65 : decode cX11_act 65 = .ok (.aload_n 0, 1) := by decide +kernel
theorem dX11_act_66 : decode cX11_act 66 = .ok (.invokevirtual 163, 3) := by decide +kernel
theorem dX11_act_69 : decode cX11_act 69 = .ok (.iload_n 3, 1) := by decide +kernel
theorem dX11_act_70 : decode cX11_act 70 = .ok (.ifCond .eq 47, 3) := by decide +kernel
theorem dX11_act_73 : decode cX11_act 73 = .ok (.aload_n 0, 1) := by decide +kernel
theorem dX11_act_74 : decode cX11_act 74 = .ok (.getfield 157, 3) := by decide +kernel
theorem dX11_act_77 : decode cX11_act 77 = .ok (.aload_n 0, 1) := by decide +kernel
theorem dX11_act_78 : decode cX11_act 78 = .ok (.getfield 160, 3) := by decide +kernel
theorem dX11_act_81 : decode cX11_act 81 = .ok (.if_icmp .ge 36, 3) := by decide +kernel
theorem dX11_act_84 : decode cX11_act 84 = .ok (.iload_n 2, 1) := by decide +kernel
theorem dX11_act_85 : decode cX11_act 85 = .ok (.bipush 16, 2) := by decide +kernel
theorem dX11_act_87 : decode cX11_act 87 = .ok (.if_icmp .ge 14, 3) := by decide +kernel
theorem dX11_act_90 : decode cX11_act 90 = .ok (.aload_n 0, 1) := by decide +kernel
theorem dX11_act_91 : decode cX11_act 91 = .ok (.invokevirtual 202, 3) := by decide +kernel
theorem dX11_act_94 : decode cX11_act 94 = .ok (.ifCond .eq 7, 3) := by decide +kernel
theorem dX11_act_97 : decode cX11_act 97 = .ok (.iconst 1, 1) := by decide +kernel
theorem dX11_act_98 : decode cX11_act 98 = .ok (.goto 4, 3) := by decide +kernel
theorem dX11_act_101 : decode cX11_act 101 = .ok (.iconst 0, 1) := by decide +kernel
theorem dX11_act_102 : decode cX11_act 102 = .ok (.istore_n 3, 1) := by decide +kernel
theorem dX11_act_103 : decode cX11_act 103 = .ok (.iinc 2 1, 3) := by decide +kernel
theorem dX11_act_106 : decode cX11_act 106 = .ok (.iload_n 3, 1) := by decide +kernel
theorem dX11_act_107 : decode cX11_act 107 = .ok (.ifCond .eq (-38), 3) := by decide +kernel
theorem dX11_act_110 : decode cX11_act 110 = .ok (.aload_n 0, 1) := by decide +kernel
theorem dX11_act_111 : decode cX11_act 111 = .ok (.invokevirtual 163, 3) := by decide +kernel
theorem dX11_act_114 : decode cX11_act 114 = .ok (.goto (-45), 3) := by decide +kernel
theorem dX11_act_117 : decode cX11_act 117 = .ok (.aload_n 0, 1) := by decide +kernel
theorem dX11_act_118 : decode cX11_act 118 = .ok (.iload_n 3, 1) := by decide +kernel
theorem dX11_act_119 : decode cX11_act 119 = .ok (.ifCond .eq 7, 3) := by decide +kernel
theorem dX11_act_122 : decode cX11_act 122 = .ok (.iconst (-1), 1) := by decide +kernel
theorem dX11_act_123 : decode cX11_act 123 = .ok (.goto 7, 3) := by decide +kernel
theorem dX11_act_126 : decode cX11_act 126 = .ok (.aload_n 0, 1) := by decide +kernel
theorem dX11_act_127 : decode cX11_act 127 = .ok (.getfield 157, 3) := by decide +kernel
theorem dX11_act_130 : decode cX11_act 130 = .ok (.putfield 54, 3) := by decide +kernel
theorem dX11_act_133 : decode cX11_act 133 = .ok (.iload_n 3, 1) := by decide +kernel
theorem dX11_act_134 : decode cX11_act 134 = .ok (.ifCond .ne 5, 3) := by decide +kernel
theorem dX11_act_137 : decode cX11_act 137 = .ok (.iconst (-1), 1) := by decide +kernel
theorem dX11_act_138 : decode cX11_act 138 = .ok (.ireturn, 1) := by decide +kernel
theorem dX11_act_139 : decode cX11_act 139 = .ok (.iconst 0, 1) := by decide +kernel
theorem dX11_act_140 : decode cX11_act 140 = .ok (.istore 4, 2) := by decide +kernel
theorem dX11_act_142 : decode cX11_act 142 = .ok (.iload 4, 2) := by decide +kernel
theorem dX11_act_144 : decode cX11_act 144 = .ok (.bipush 20, 2) := by decide +kernel
theorem dX11_act_146 : decode cX11_act 146 = .ok (.if_icmp .ge 26, 3) := by decide +kernel
theorem dX11_act_149 : decode cX11_act 149 = .ok (.aload_n 0, 1) := by decide +kernel
theorem dX11_act_150 : decode cX11_act 150 = .ok (.getfield 44, 3) := by decide +kernel
theorem dX11_act_153 : decode cX11_act 153 = .ok (.iload 4, 2) := by decide +kernel
theorem dX11_act_155 : decode cX11_act 155 = .ok (.aload_n 0, 1) := by decide +kernel
theorem dX11_act_156 : decode cX11_act 156 = .ok (.getfield 44, 3) := by decide +kernel
theorem dX11_act_159 : decode cX11_act 159 = .ok (.bipush 20, 2) := by decide +kernel
theorem dX11_act_161 : decode cX11_act 161 = .ok (.iload 4, 2) := by decide +kernel
theorem dX11_act_163 : decode cX11_act 163 = .ok (.iadd, 1) := by decide +kernel
theorem dX11_act_164 : decode cX11_act 164 = .ok (.iaload, 1) := by decide +kernel
theorem dX11_act_165 : decode cX11_act 165 = .ok (.iastore, 1) := by decide +kernel
theorem dX11_act_166 : decode cX11_act 166 = .ok (.iinc 4 1, 3) := by decide +kernel
theorem dX11_act_169 : decode cX11_act 169 = .ok (.goto (-27), 3) := by decide +kernel
theorem dX11_act_172 : decode cX11_act 172 = .ok (.aload_n 0, 1) := by decide +kernel
theorem dX11_act_173 : decode cX11_act 173 = .ok (.iload_n 2, 1) := by decide +kernel
theorem dX11_act_174 : decode cX11_act 174 = .ok (.putfield 206, 3) := by decide +kernel
theorem dX11_act_177 : decode cX11_act 177 = .ok (.aload_n 0, 1) := by decide +kernel
theorem dX11_act_178 : decode cX11_act 178 = .ok (.getfield 206, 3) := by decide +kernel
theorem dX11_act_181 : decode cX11_act 181 = .ok (.ireturn, 1) := by decide +kernel
theorem dX11_fault_0 : decode cX11_fault 0 = .ok (.aload_n 0, 1) := by decide +kernel
theorem dX11_fault_1 : decode cX11_fault 1 = .ok (.getfield 54, 3) := by decide +kernel
theorem dX11_fault_4 : decode cX11_fault 4 = .ok (.ireturn, 1) := by decide +kernel
theorem dX11_standard_0 : decode cX11_standard 0 = .ok (.aload_n 0, 1) := by decide +kernel
theorem dX11_standard_1 : decode cX11_standard 1 = .ok (.getfield 23, 3) := by decide +kernel
theorem dX11_standard_4 : decode cX11_standard 4 = .ok (.iload_n 1, 1) := by decide +kernel
theorem dX11_standard_5 : decode cX11_standard 5 = .ok (.iaload, 1) := by decide +kernel
theorem dX11_standard_6 : decode cX11_standard 6 = .ok (.aload_n 0, 1) := by decide +kernel
theorem dX11_standard_7 : decode cX11_standard 7 = .ok (.getfield 44, 3) := by decide +kernel
theorem dX11_standard_10 : decode cX11_standard 10 = .ok (.bipush 6, 2) := by decide +kernel
theorem dX11_standard_12 : decode cX11_standard 12 = .ok (.aload_n 0, 1) := by decide +kernel
theorem dX11_standard_13 : decode cX11_standard 13 = .ok (.getfield 26, 3) := by decide +kernel
theorem dX11_standard_16 : decode cX11_standard 16 = .ok (.iload_n 1, 1) := by decide +kernel
theorem dX11_standard_17 : decode cX11_standard 17 = .ok (.iaload, 1) := by decide +kernel
theorem dX11_standard_18 : decode cX11_standard 18 = .ok (.iadd, 1) := by decide +kernel
theorem dX11_standard_19 : decode cX11_standard 19 = .ok (.iaload, 1) := by decide +kernel
theorem dX11_standard_20 : decode cX11_standard 20 = .ok (.imul, 1) := by decide +kernel
theorem dX11_standard_21 : decode cX11_standard 21 = .ok (.bipush 10, 2) := by decide +kernel
theorem dX11_standard_23 : decode cX11_standard 23 = .ok (.idiv, 1) := by decide +kernel
theorem dX11_standard_24 : decode cX11_standard 24 = .ok (.ireturn, 1) := by decide +kernel
theorem dX11_isExempt_0 : decode cX11_isExempt 0 = .ok (.aload_n 0, 1) := by decide +kernel
theorem dX11_isExempt_1 : decode cX11_isExempt 1 = .ok (.getfield 44, 3) := by decide +kernel
theorem dX11_isExempt_4 : decode cX11_isExempt 4 = .ok (.bipush 10, 2) := by decide +kernel
theorem dX11_isExempt_6 : decode cX11_isExempt 6 = .ok (.aload_n 0, 1) := by decide +kernel
theorem dX11_isExempt_7 : decode cX11_isExempt 7 = .ok (.getfield 29, 3) := by decide +kernel
theorem dX11_isExempt_10 : decode cX11_isExempt 10 = .ok (.iload_n 1, 1) := by decide +kernel
theorem dX11_isExempt_11 : decode cX11_isExempt 11 = .ok (.iaload, 1) := by decide +kernel
theorem dX11_isExempt_12 : decode cX11_isExempt 12 = .ok (.iadd, 1) := by decide +kernel
theorem dX11_isExempt_13 : decode cX11_isExempt 13 = .ok (.iaload, 1) := by decide +kernel
theorem dX11_isExempt_14 : decode cX11_isExempt 14 = .ok (.iconst 1, 1) := by decide +kernel
theorem dX11_isExempt_15 : decode cX11_isExempt 15 = .ok (.if_icmp .ne 7, 3) := by decide +kernel
theorem dX11_isExempt_18 : decode cX11_isExempt 18 = .ok (.iconst 1, 1) := by decide +kernel
theorem dX11_isExempt_19 : decode cX11_isExempt 19 = .ok (.goto 4, 3) := by decide +kernel
theorem dX11_isExempt_22 : decode cX11_isExempt 22 = .ok (.iconst 0, 1) := by decide +kernel
theorem dX11_isExempt_23 : decode cX11_isExempt 23 = .ok (.ireturn, 1) := by decide +kernel
set_option maxRecDepth 20000 in
theorem ggX11_counted_X11_ownerOn : GoodIn wsX11_counted wsX11_ownerOn := goodIn_r _ [12, 13, 2, 3, 4, 5, 14, 15, 16, 17, 18, 19, 20, 21, 22, 23, 24, 25, 26, 27, 28, 29, 30, 31, 32, 33, 34, 35, 36, 37, 38, 39, 40, 41, 42, 43, 44, 45, 46, 47, 48, 49, 50, 51, 52, 53, 54, 55, 56, 57, 58, 59, 60] (by decide +kernel) (by decide +kernel)
set_option maxRecDepth 20000 in
theorem gX11_counted_X11_ownerOn : GoodIn wsX11_counted (wsV RX11 136 RX11 yX11_ownerOn wsX11_ownerOn) := goodIn_app (goodIn_of _ (by decide +kernel)) ggX11_counted_X11_ownerOn
theorem dX11_counted_0 : decode cX11_counted 0 = .ok (.aload_n 0, 1) := by decide +kernel
theorem dX11_counted_1 : decode cX11_counted 1 = .ok (.iload_n 1, 1) := by decide +kernel
theorem dX11_counted_2 : decode cX11_counted 2 = .ok (.aload_n 0, 1) := by decide +kernel
theorem dX11_counted_3 : decode cX11_counted 3 = .ok (.getfield 44, 3) := by decide +kernel
theorem dX11_counted_6 : decode cX11_counted 6 = .ok (.iconst 2, 1) := by decide +kernel
theorem dX11_counted_7 : decode cX11_counted 7 = .ok (.iaload, 1) := by decide +kernel
theorem dX11_counted_8 : decode cX11_counted 8 = .ok (.invokevirtual 136, 3) := by decide +kernel
theorem dX11_counted_11 : decode cX11_counted 11 = .ok (.istore_n 2, 1) := by decide +kernel
theorem dX11_counted_12 : decode cX11_counted 12 = .ok (.iconst 0, 1) := by decide +kernel
theorem dX11_counted_13 : decode cX11_counted 13 = .ok (.istore_n 3, 1) := by decide +kernel
theorem dX11_counted_14 : decode cX11_counted 14 = .ok (.iload_n 3, 1) := by decide +kernel
theorem dX11_counted_15 : decode cX11_counted 15 = .ok (.aload_n 0, 1) := by decide +kernel
theorem dX11_counted_16 : decode cX11_counted 16 = .ok (.getfield 133, 3) := by decide +kernel
theorem dX11_counted_19 : decode cX11_counted 19 = .ok (.if_icmp .ge 79, 3) := by decide +kernel
theorem dX11_counted_22 : decode cX11_counted 22 = .ok (.aload_n 0, 1) := by decide +kernel
theorem dX11_counted_23 : decode cX11_counted 23 = .ok (.getfield 35, 3) := by decide +kernel
theorem dX11_counted_26 : decode cX11_counted 26 = .ok (.iload_n 3, 1) := by decide +kernel
theorem dX11_counted_27 : decode cX11_counted 27 = .ok (.iaload, 1) := by decide +kernel
theorem dX11_counted_28 : decode cX11_counted 28 = .ok (.iload_n 1, 1) := by decide +kernel
theorem dX11_counted_29 : decode cX11_counted 29 = .ok (.if_icmp .ne 63, 3) := by decide +kernel
theorem dX11_counted_32 : decode cX11_counted 32 = .ok (.aload_n 0, 1) := by decide +kernel
theorem dX11_counted_33 : decode cX11_counted 33 = .ok (.getfield 41, 3) := by decide +kernel
theorem dX11_counted_36 : decode cX11_counted 36 = .ok (.iload_n 3, 1) := by decide +kernel
theorem dX11_counted_37 : decode cX11_counted 37 = .ok (.iaload, 1) := by decide +kernel
theorem dX11_counted_38 : decode cX11_counted 38 = .ok (.aload_n 0, 1) := by decide +kernel
theorem dX11_counted_39 : decode cX11_counted 39 = .ok (.getfield 44, 3) := by decide +kernel
theorem dX11_counted_42 : decode cX11_counted 42 = .ok (.iconst 2, 1) := by decide +kernel
theorem dX11_counted_43 : decode cX11_counted 43 = .ok (.iaload, 1) := by decide +kernel
theorem dX11_counted_44 : decode cX11_counted 44 = .ok (.if_icmp .gt 6, 3) := by decide +kernel
theorem dX11_counted_47 : decode cX11_counted 47 = .ok (.goto 45, 3) := by decide +kernel
theorem dX11_counted_50 : decode cX11_counted 50 = .ok (.aload_n 0, 1) := by decide +kernel
theorem dX11_counted_51 : decode cX11_counted 51 = .ok (.getfield 38, 3) := by decide +kernel
theorem dX11_counted_54 : decode cX11_counted 54 = .ok (.iload_n 3, 1) := by decide +kernel
theorem dX11_counted_55 : decode cX11_counted 55 = .ok (.iaload, 1) := by decide +kernel
theorem dX11_counted_56 : decode cX11_counted 56 = .ok (.istore 4, 2) := by decide +kernel
theorem dX11_counted_58 : decode cX11_counted 58 = .ok (.aload_n 0, 1) := by decide +kernel
theorem dX11_counted_59 : decode cX11_counted 59 = .ok (.getfield 7, 3) := by decide +kernel
theorem dX11_counted_62 : decode cX11_counted 62 = .ok (.iload 4, 2) := by decide +kernel
theorem dX11_counted_64 : decode cX11_counted 64 = .ok (.iaload, 1) := by decide +kernel
theorem dX11_counted_65 : decode cX11_counted 65 = .ok (.aload_n 0, 1) := by decide +kernel
theorem dX11_counted_66 : decode cX11_counted 66 = .ok (.getfield 7, 3) := by decide +kernel
theorem dX11_counted_69 : decode cX11_counted 69 = .ok (.iload_n 2, 1) := by decide +kernel
theorem dX11_counted_70 : decode cX11_counted 70 = .ok (.iaload, 1) := by decide +kernel
theorem dX11_counted_71 : decode cX11_counted 71 = .ok (.if_icmp .eq 21, 3) := by decide +kernel
theorem dX11_counted_74 : decode cX11_counted 74 = .ok (.aload_n 0, 1) := by decide +kernel
theorem dX11_counted_75 : decode cX11_counted 75 = .ok (.getfield 16, 3) := by decide +kernel
theorem dX11_counted_78 : decode cX11_counted 78 = .ok (.bipush 40, 2) := by decide +kernel
theorem dX11_counted_80 : decode cX11_counted 80 = .ok (.iload 4, 2) := by decide +kernel
theorem dX11_counted_82 : decode cX11_counted 82 = .ok (.imul, 1) := by decide +kernel
theorem dX11_counted_83 : decode cX11_counted 83 = .ok (.iload_n 2, 1) := by decide +kernel
theorem dX11_counted_84 : decode cX11_counted 84 = .ok (.iadd, 1) := by decide +kernel
theorem dX11_counted_85 : decode cX11_counted 85 = .ok (.baload, 1) := by decide +kernel
theorem dX11_counted_86 : decode cX11_counted 86 = .ok (.ifCond .ne 6, 3) := by decide +kernel
theorem dX11_counted_89 : decode cX11_counted 89 = .ok (.iload 4, 2) := by decide +kernel
theorem dX11_counted_91 : decode cX11_counted 91 = .ok (.istore_n 2, 1) := by decide +kernel
theorem dX11_counted_92 : decode cX11_counted 92 = .ok (.iinc 3 1, 3) := by decide +kernel
theorem dX11_counted_95 : decode cX11_counted 95 = .ok (.goto (-81), 3) := by decide +kernel
theorem dX11_counted_98 : decode cX11_counted 98 = .ok (.iload_n 2, 1) := by decide +kernel
theorem dX11_counted_99 : decode cX11_counted 99 = .ok (.ireturn, 1) := by decide +kernel
set_option maxRecDepth 20000 in
theorem ggX11_transfersOf_X11_one : GoodIn wsX11_transfersOf wsX11_one := goodIn_r _ [6] (by decide +kernel) (by decide +kernel)
set_option maxRecDepth 20000 in
theorem gX11_transfersOf_X11_one : GoodIn wsX11_transfersOf (va_wsS RX11 209 yX11_one wsX11_one) := goodIn_app (goodIn_of _ (by decide +kernel)) ggX11_transfersOf_X11_one
theorem dX11_transfersOf_0 : decode cX11_transfersOf 0 = .ok (.iconst 0, 1) := by decide +kernel
theorem dX11_transfersOf_1 : decode cX11_transfersOf 1 = .ok (.istore_n 2, 1) := by decide +kernel
theorem dX11_transfersOf_2 : decode cX11_transfersOf 2 = .ok (.iconst 0, 1) := by decide +kernel
theorem dX11_transfersOf_3 : decode cX11_transfersOf 3 = .ok (.istore_n 3, 1) := by decide +kernel
theorem dX11_transfersOf_4 : decode cX11_transfersOf 4 = .ok (.iload_n 3, 1) := by decide +kernel
theorem dX11_transfersOf_5 : decode cX11_transfersOf 5 = .ok (.aload_n 0, 1) := by decide +kernel
theorem dX11_transfersOf_6 : decode cX11_transfersOf 6 = .ok (.getfield 133, 3) := by decide +kernel
theorem dX11_transfersOf_9 : decode cX11_transfersOf 9 = .ok (.if_icmp .ge 30, 3) := by decide +kernel
theorem dX11_transfersOf_12 : decode cX11_transfersOf 12 = .ok (.iload_n 2, 1) := by decide +kernel
theorem dX11_transfersOf_13 : decode cX11_transfersOf 13 = .ok (.aload_n 0, 1) := by decide +kernel
theorem dX11_transfersOf_14 : decode cX11_transfersOf 14 = .ok (.getfield 35, 3) := by decide +kernel
theorem dX11_transfersOf_17 : decode cX11_transfersOf 17 = .ok (.iload_n 3, 1) := by decide +kernel
theorem dX11_transfersOf_18 : decode cX11_transfersOf 18 = .ok (.iaload, 1) := by decide +kernel
theorem dX11_transfersOf_19 : decode cX11_transfersOf 19 = .ok (.iload_n 1, 1) := by decide +kernel
theorem dX11_transfersOf_20 : decode cX11_transfersOf 20 = .ok (.if_icmp .ne 7, 3) := by decide +kernel
theorem dX11_transfersOf_23 : decode cX11_transfersOf 23 = .ok (.iconst 1, 1) := by decide +kernel
theorem dX11_transfersOf_24 : decode cX11_transfersOf 24 = .ok (.goto 4, 3) := by decide +kernel
theorem dX11_transfersOf_27 : decode cX11_transfersOf 27 = .ok (.iconst 0, 1) := by decide +kernel
theorem dX11_transfersOf_28 : decode cX11_transfersOf 28 = .ok (.invokestatic 209, 3) := by decide +kernel
theorem dX11_transfersOf_31 : decode cX11_transfersOf 31 = .ok (.iadd, 1) := by decide +kernel
theorem dX11_transfersOf_32 : decode cX11_transfersOf 32 = .ok (.istore_n 2, 1) := by decide +kernel
theorem dX11_transfersOf_33 : decode cX11_transfersOf 33 = .ok (.iinc 3 1, 3) := by decide +kernel
theorem dX11_transfersOf_36 : decode cX11_transfersOf 36 = .ok (.goto (-32), 3) := by decide +kernel
theorem dX11_transfersOf_39 : decode cX11_transfersOf 39 = .ok (.iload_n 2, 1) := by decide +kernel
theorem dX11_transfersOf_40 : decode cX11_transfersOf 40 = .ok (.ireturn, 1) := by decide +kernel
set_option maxRecDepth 20000 in
theorem ggX11_told_X11_isField : GoodIn wsX11_told wsX11_isField := goodIn_r _ [9, 10, 11, 12, 8, 13, 61, 62, 63, 64, 65, 66, 67, 68, 69, 70, 71, 72, 73, 74, 75, 76, 77, 78, 79, 80, 81, 82, 83, 84, 85, 86, 87, 88, 89, 90, 91, 92, 93, 94, 95, 96, 97, 98, 99, 100, 101, 102, 103, 104, 105, 106, 107] (by decide +kernel) (by decide +kernel)
set_option maxRecDepth 20000 in
theorem gX11_told_X11_isField : GoodIn wsX11_told (wsV RX11 140 RX11 yX11_isField wsX11_isField) := goodIn_app (goodIn_of _ (by decide +kernel)) ggX11_told_X11_isField
set_option maxRecDepth 20000 in
theorem ggX11_told_X11_owner : GoodIn wsX11_told wsX11_owner := goodIn_r _ [17, 18, 19, 20, 21, 8, 22, 23, 24, 25, 26, 27, 61, 62, 63, 64, 65, 66, 67, 68, 69, 70, 71, 72, 73, 74, 75, 76, 77, 78, 79, 80, 81, 82, 83, 84, 85, 86, 87, 88, 89, 90, 91, 92, 93, 94, 95, 96, 97, 98, 99, 100, 101, 102, 103, 104, 105, 106, 107] (by decide +kernel) (by decide +kernel)
set_option maxRecDepth 20000 in
theorem gX11_told_X11_owner : GoodIn wsX11_told (wsV RX11 143 RX11 yX11_owner wsX11_owner) := goodIn_app (goodIn_of _ (by decide +kernel)) ggX11_told_X11_owner
set_option maxRecDepth 20000 in
theorem ggX11_told_X11_standard : GoodIn wsX11_told wsX11_standard := goodIn_r _ [31, 2, 32, 3, 61, 62, 63, 64, 65, 66, 67, 68, 69, 70, 71, 72, 73, 74, 75, 76, 77, 78, 79, 80, 81, 82, 83, 84, 85, 86, 87, 88, 89, 90, 91, 92, 93, 94, 95, 96, 97, 98, 99, 100, 101, 102, 103, 104, 105, 106, 107] (by decide +kernel) (by decide +kernel)
set_option maxRecDepth 20000 in
theorem gX11_told_X11_standard : GoodIn wsX11_told (wsV RX11 213 RX11 yX11_standard wsX11_standard) := goodIn_app (goodIn_of _ (by decide +kernel)) ggX11_told_X11_standard
set_option maxRecDepth 20000 in
theorem ggX11_told_X11_counted : GoodIn wsX11_told wsX11_counted := goodIn_r _ [36, 32, 24, 25, 26, 27, 37, 38, 19, 20, 21, 8, 22, 23, 61, 62, 63, 64, 65, 66, 67, 68, 69, 70, 71, 72, 73, 74, 75, 76, 77, 78, 79, 80, 81, 82, 83, 84, 85, 86, 87, 88, 89, 90, 91, 92, 93, 94, 95, 96, 97, 98, 99, 100, 101, 102, 103, 104, 105, 106, 107] (by decide +kernel) (by decide +kernel)
set_option maxRecDepth 20000 in
theorem gX11_told_X11_counted : GoodIn wsX11_told (wsV RX11 216 RX11 yX11_counted wsX11_counted) := goodIn_app (goodIn_of _ (by decide +kernel)) ggX11_told_X11_counted
set_option maxRecDepth 20000 in
theorem ggX11_told_X11_tenant : GoodIn wsX11_told wsX11_tenant := goodIn_r _ [42, 43, 44, 45, 46, 32, 47, 48, 8, 49, 14, 15, 16, 17, 18, 19, 20, 21, 22, 23, 24, 25, 26, 27, 61, 62, 63, 64, 65, 66, 67, 68, 69, 70, 71, 72, 73, 74, 75, 76, 77, 78, 79, 80, 81, 82, 83, 84, 85, 86, 87, 88, 89, 90, 91, 92, 93, 94, 95, 96, 97, 98, 99, 100, 101, 102, 103, 104, 105, 106, 107] (by decide +kernel) (by decide +kernel)
set_option maxRecDepth 20000 in
theorem gX11_told_X11_tenant : GoodIn wsX11_told (wsV RX11 219 RX11 yX11_tenant wsX11_tenant) := goodIn_app (goodIn_of _ (by decide +kernel)) ggX11_told_X11_tenant
set_option maxRecDepth 20000 in
theorem ggX11_told_X11_isExempt : GoodIn wsX11_told wsX11_isExempt := goodIn_r _ [53, 32, 4, 61, 62, 63, 64, 65, 66, 67, 68, 69, 70, 71, 72, 73, 74, 75, 76, 77, 78, 79, 80, 81, 82, 83, 84, 85, 86, 87, 88, 89, 90, 91, 92, 93, 94, 95, 96, 97, 98, 99, 100, 101, 102, 103, 104, 105, 106, 107] (by decide +kernel) (by decide +kernel)
set_option maxRecDepth 20000 in
theorem gX11_told_X11_isExempt : GoodIn wsX11_told (wsV RX11 222 RX11 yX11_isExempt wsX11_isExempt) := goodIn_app (goodIn_of _ (by decide +kernel)) ggX11_told_X11_isExempt
set_option maxRecDepth 20000 in
theorem ggX11_told_X11_one : GoodIn wsX11_told wsX11_one := goodIn_r _ [56] (by decide +kernel) (by decide +kernel)
set_option maxRecDepth 20000 in
theorem gX11_told_X11_one : GoodIn wsX11_told (va_wsS RX11 209 yX11_one wsX11_one) := goodIn_app (goodIn_of _ (by decide +kernel)) ggX11_told_X11_one
set_option maxRecDepth 20000 in
theorem ggX11_told_X11_transfersOf : GoodIn wsX11_told wsX11_transfersOf := goodIn_r _ [60, 24, 25, 54, 55, 8, 56, 61, 62, 63, 64, 65, 66, 67, 68, 69, 70, 71, 72, 73, 74, 75, 76, 77, 78, 79, 80, 81, 82, 83, 84, 85, 86, 87, 88, 89, 90, 91, 92, 93, 94, 95, 96, 97, 98, 99, 100, 101, 102, 103, 104, 105, 106, 107] (by decide +kernel) (by decide +kernel)
set_option maxRecDepth 20000 in
theorem gX11_told_X11_transfersOf : GoodIn wsX11_told (wsV RX11 225 RX11 yX11_transfersOf wsX11_transfersOf) := goodIn_app (goodIn_of _ (by decide +kernel)) ggX11_told_X11_transfersOf
theorem dX11_told_0 : decode cX11_told 0 = .ok (.aload_n 0, 1) := by decide +kernel
theorem dX11_told_1 : decode cX11_told 1 = .ok (.iload_n 1, 1) := by decide +kernel
theorem dX11_told_2 : decode cX11_told 2 = .ok (.invokevirtual 140, 3) := by decide +kernel
theorem dX11_told_5 : decode cX11_told 5 = .ok (.ifCond .ne 5, 3) := by decide +kernel
theorem dX11_told_8 : decode cX11_told 8 = .ok (.iconst (-1), 1) := by decide +kernel
theorem dX11_told_9 : decode cX11_told 9 = .ok (.ireturn, 1) := by decide +kernel
theorem dX11_told_10 : decode cX11_told 10 = .ok (.iload_n 2, 1) := by decide +kernel
theorem dX11_told_11 : decode cX11_told 11 = .ok (.tableswitch 120 0 9 #[53, 60, 67, 74, 81, 87, 93, 99, 105, 114], 53) := by decide +kernel
theorem dX11_told_64 : decode cX11_told 64 = .ok (.aload_n 0, 1) := by decide +kernel
theorem dX11_told_65 : decode cX11_told 65 = .ok (.getfield 20, 3) := by decide +kernel
theorem dX11_told_68 : decode cX11_told 68 = .ok (.iload_n 1, 1) := by decide +kernel
theorem dX11_told_69 : decode cX11_told 69 = .ok (.iaload, 1) := by decide +kernel
theorem dX11_told_70 : decode cX11_told 70 = .ok (.ireturn, 1) := by decide +kernel
theorem dX11_told_71 : decode cX11_told 71 = .ok (.aload_n 0, 1) := by decide +kernel
theorem dX11_told_72 : decode cX11_told 72 = .ok (.getfield 23, 3) := by decide +kernel
theorem dX11_told_75 : decode cX11_told 75 = .ok (.iload_n 1, 1) := by decide +kernel
theorem dX11_told_76 : decode cX11_told 76 = .ok (.iaload, 1) := by decide +kernel
theorem dX11_told_77 : decode cX11_told 77 = .ok (.ireturn, 1) := by decide +kernel
theorem dX11_told_78 : decode cX11_told 78 = .ok (.aload_n 0, 1) := by decide +kernel
theorem dX11_told_79 : decode cX11_told 79 = .ok (.getfield 26, 3) := by decide +kernel
theorem dX11_told_82 : decode cX11_told 82 = .ok (.iload_n 1, 1) := by decide +kernel
theorem dX11_told_83 : decode cX11_told 83 = .ok (.iaload, 1) := by decide +kernel
theorem dX11_told_84 : decode cX11_told 84 = .ok (.ireturn, 1) := by decide +kernel
theorem dX11_told_85 : decode cX11_told 85 = .ok (.aload_n 0, 1) := by decide +kernel
theorem dX11_told_86 : decode cX11_told 86 = .ok (.getfield 29, 3) := by decide +kernel
theorem dX11_told_89 : decode cX11_told 89 = .ok (.iload_n 1, 1) := by decide +kernel
theorem dX11_told_90 : decode cX11_told 90 = .ok (.iaload, 1) := by decide +kernel
theorem dX11_told_91 : decode cX11_told 91 = .ok (.ireturn, 1) := by decide +kernel
theorem dX11_told_92 : decode cX11_told 92 = .ok (.aload_n 0, 1) := by decide +kernel
theorem dX11_told_93 : decode cX11_told 93 = .ok (.iload_n 1, 1) := by decide +kernel
theorem dX11_told_94 : decode cX11_told 94 = .ok (.invokevirtual 143, 3) := by decide +kernel
theorem dX11_told_97 : decode cX11_told 97 = .ok (.ireturn, 1) := by decide +kernel
theorem dX11_told_98 : decode cX11_told 98 = .ok (.aload_n 0, 1) := by decide +kernel
theorem dX11_told_99 : decode cX11_told 99 = .ok (.iload_n 1, 1) := by decide +kernel
theorem dX11_told_100 : decode cX11_told 100 = .ok (.invokevirtual 213, 3) := by decide +kernel
theorem dX11_told_103 : decode cX11_told 103 = .ok (.ireturn, 1) := by decide +kernel
theorem dX11_told_104 : decode cX11_told 104 = .ok (.aload_n 0, 1) := by decide +kernel
theorem dX11_told_105 : decode cX11_told 105 = .ok (.iload_n 1, 1) := by decide +kernel
theorem dX11_told_106 : decode cX11_told 106 = .ok (.invokevirtual 216, 3) := by decide +kernel
theorem dX11_told_109 : decode cX11_told 109 = .ok (.ireturn, 1) := by decide +kernel
theorem dX11_told_110 : decode cX11_told 110 = .ok (.aload_n 0, 1) := by decide +kernel
theorem dX11_told_111 : decode cX11_told 111 = .ok (.iload_n 1, 1) := by decide +kernel
theorem dX11_told_112 : decode cX11_told 112 = .ok (.invokevirtual 219, 3) := by decide +kernel
theorem dX11_told_115 : decode cX11_told 115 = .ok (.ireturn, 1) := by decide +kernel
theorem dX11_told_116 : decode cX11_told 116 = .ok (.aload_n 0, 1) := by decide +kernel
theorem dX11_told_117 : decode cX11_told 117 = .ok (.iload_n 1, 1) := by decide +kernel
theorem dX11_told_118 : decode cX11_told 118 = .ok (.invokevirtual 222, 3) := by decide +kernel
theorem dX11_told_121 : decode cX11_told 121 = .ok (.invokestatic 209, 3) := by decide +kernel
theorem dX11_told_124 : decode cX11_told 124 = .ok (.ireturn, 1) := by decide +kernel
theorem dX11_told_125 : decode cX11_told 125 = .ok (.aload_n 0, 1) := by decide +kernel
theorem dX11_told_126 : decode cX11_told 126 = .ok (.iload_n 1, 1) := by decide +kernel
theorem dX11_told_127 : decode cX11_told 127 = .ok (.invokevirtual 225, 3) := by decide +kernel
theorem dX11_told_130 : decode cX11_told 130 = .ok (.ireturn, 1) := by decide +kernel
theorem dX11_told_131 : decode cX11_told 131 = .ok (.iconst (-1), 1) := by decide +kernel
theorem dX11_told_132 : decode cX11_told 132 = .ok (.ireturn, 1) := by decide +kernel
set_option maxRecDepth 20000 in
theorem ggX11_counts_X11_isExempt : GoodIn wsX11_counts wsX11_isExempt := goodIn_r _ [8, 9, 10, 25, 26, 27, 28, 29, 30, 31, 32, 33, 34, 35, 36, 37, 38, 39, 40, 41, 42, 43, 44, 45, 46, 47, 48, 49, 50, 51, 52, 53, 54, 55, 56, 57, 58, 59, 60, 61, 62, 63, 64, 65, 66, 67, 68, 69, 70, 71] (by decide +kernel) (by decide +kernel)
set_option maxRecDepth 20000 in
theorem gX11_counts_X11_isExempt : GoodIn wsX11_counts (wsV RX11 222 RX11 yX11_isExempt wsX11_isExempt) := goodIn_app (goodIn_of _ (by decide +kernel)) ggX11_counts_X11_isExempt
set_option maxRecDepth 20000 in
theorem ggX11_counts_X11_counted : GoodIn wsX11_counts wsX11_counted := goodIn_r _ [14, 9, 15, 16, 17, 18, 2, 19, 20, 21, 22, 7, 23, 24, 25, 26, 27, 28, 29, 30, 31, 32, 33, 34, 35, 36, 37, 38, 39, 40, 41, 42, 43, 44, 45, 46, 47, 48, 49, 50, 51, 52, 53, 54, 55, 56, 57, 58, 59, 60, 61, 62, 63, 64, 65, 66, 67, 68, 69, 70, 71] (by decide +kernel) (by decide +kernel)
set_option maxRecDepth 20000 in
theorem gX11_counts_X11_counted : GoodIn wsX11_counts (wsV RX11 216 RX11 yX11_counted wsX11_counted) := goodIn_app (goodIn_of _ (by decide +kernel)) ggX11_counts_X11_counted
theorem dX11_counts_0 : decode cX11_counts 0 = .ok (.iconst 0, 1) := by decide +kernel
theorem dX11_counts_1 : decode cX11_counts 1 = .ok (.istore_n 2, 1) := by decide +kernel
theorem dX11_counts_2 : decode cX11_counts 2 = .ok (.iconst 0, 1) := by decide +kernel
theorem dX11_counts_3 : decode cX11_counts 3 = .ok (.istore_n 3, 1) := by decide +kernel
theorem dX11_counts_4 : decode cX11_counts 4 = .ok (.iload_n 3, 1) := by decide +kernel
theorem dX11_counts_5 : decode cX11_counts 5 = .ok (.aload_n 0, 1) := by decide +kernel
theorem dX11_counts_6 : decode cX11_counts 6 = .ok (.getfield 120, 3) := by decide +kernel
theorem dX11_counts_9 : decode cX11_counts 9 = .ok (.if_icmp .ge 44, 3) := by decide +kernel
theorem dX11_counts_12 : decode cX11_counts 12 = .ok (.aload_n 0, 1) := by decide +kernel
theorem dX11_counts_13 : decode cX11_counts 13 = .ok (.iload_n 3, 1) := by decide +kernel
theorem dX11_counts_14 : decode cX11_counts 14 = .ok (.invokevirtual 222, 3) := by decide +kernel
theorem dX11_counts_17 : decode cX11_counts 17 = .ok (.ifCond .ne 30, 3) := by decide +kernel
theorem dX11_counts_20 : decode cX11_counts 20 = .ok (.aload_n 0, 1) := by decide +kernel
theorem dX11_counts_21 : decode cX11_counts 21 = .ok (.getfield 7, 3) := by decide +kernel
theorem dX11_counts_24 : decode cX11_counts 24 = .ok (.aload_n 0, 1) := by decide +kernel
theorem dX11_counts_25 : decode cX11_counts 25 = .ok (.iload_n 3, 1) := by decide +kernel
theorem dX11_counts_26 : decode cX11_counts 26 = .ok (.invokevirtual 216, 3) := by decide +kernel
theorem dX11_counts_29 : decode cX11_counts 29 = .ok (.iaload, 1) := by decide +kernel
theorem dX11_counts_30 : decode cX11_counts 30 = .ok (.iload_n 1, 1) := by decide +kernel
theorem dX11_counts_31 : decode cX11_counts 31 = .ok (.if_icmp .eq 6, 3) := by decide +kernel
theorem dX11_counts_34 : decode cX11_counts 34 = .ok (.goto 13, 3) := by decide +kernel
theorem dX11_counts_37 : decode cX11_counts 37 = .ok (.aload_n 0, 1) := by decide +kernel
theorem dX11_counts_38 : decode cX11_counts 38 = .ok (.getfield 58, 3) := by decide +kernel
theorem dX11_counts_41 : decode cX11_counts 41 = .ok (.iload_n 2, 1) := by decide +kernel
theorem dX11_counts_42 : decode cX11_counts 42 = .ok (.iload_n 3, 1) := by decide +kernel
theorem dX11_counts_43 : decode cX11_counts 43 = .ok (.iastore, 1) := by decide +kernel
theorem dX11_counts_44 : decode cX11_counts 44 = .ok (.iinc 2 1, 3) := by decide +kernel
theorem dX11_counts_47 : decode cX11_counts 47 = .ok (.iinc 3 1, 3) := by decide +kernel
theorem dX11_counts_50 : decode cX11_counts 50 = .ok (.goto (-46), 3) := by decide +kernel
theorem dX11_counts_53 : decode cX11_counts 53 = .ok (.iload_n 2, 1) := by decide +kernel
theorem dX11_counts_54 : decode cX11_counts 54 = .ok (.ireturn, 1) := by decide +kernel
set_option maxRecDepth 20000 in
theorem ggX11_peopleOf_X11_one : GoodIn wsX11_peopleOf wsX11_one := goodIn_r _ [6] (by decide +kernel) (by decide +kernel)
set_option maxRecDepth 20000 in
theorem gX11_peopleOf_X11_one : GoodIn wsX11_peopleOf (va_wsS RX11 209 yX11_one wsX11_one) := goodIn_app (goodIn_of _ (by decide +kernel)) ggX11_peopleOf_X11_one
theorem dX11_peopleOf_0 : decode cX11_peopleOf 0 = .ok (.iconst 0, 1) := by decide +kernel
theorem dX11_peopleOf_1 : decode cX11_peopleOf 1 = .ok (.istore_n 2, 1) := by decide +kernel
theorem dX11_peopleOf_2 : decode cX11_peopleOf 2 = .ok (.iconst 0, 1) := by decide +kernel
theorem dX11_peopleOf_3 : decode cX11_peopleOf 3 = .ok (.istore_n 3, 1) := by decide +kernel
theorem dX11_peopleOf_4 : decode cX11_peopleOf 4 = .ok (.iload_n 3, 1) := by decide +kernel
theorem dX11_peopleOf_5 : decode cX11_peopleOf 5 = .ok (.aload_n 0, 1) := by decide +kernel
theorem dX11_peopleOf_6 : decode cX11_peopleOf 6 = .ok (.getfield 113, 3) := by decide +kernel
theorem dX11_peopleOf_9 : decode cX11_peopleOf 9 = .ok (.if_icmp .ge 30, 3) := by decide +kernel
theorem dX11_peopleOf_12 : decode cX11_peopleOf 12 = .ok (.iload_n 2, 1) := by decide +kernel
theorem dX11_peopleOf_13 : decode cX11_peopleOf 13 = .ok (.aload_n 0, 1) := by decide +kernel
theorem dX11_peopleOf_14 : decode cX11_peopleOf 14 = .ok (.getfield 7, 3) := by decide +kernel
theorem dX11_peopleOf_17 : decode cX11_peopleOf 17 = .ok (.iload_n 3, 1) := by decide +kernel
theorem dX11_peopleOf_18 : decode cX11_peopleOf 18 = .ok (.iaload, 1) := by decide +kernel
theorem dX11_peopleOf_19 : decode cX11_peopleOf 19 = .ok (.iload_n 1, 1) := by decide +kernel
theorem dX11_peopleOf_20 : decode cX11_peopleOf 20 = .ok (.if_icmp .ne 7, 3) := by decide +kernel
theorem dX11_peopleOf_23 : decode cX11_peopleOf 23 = .ok (.iconst 1, 1) := by decide +kernel
theorem dX11_peopleOf_24 : decode cX11_peopleOf 24 = .ok (.goto 4, 3) := by decide +kernel
theorem dX11_peopleOf_27 : decode cX11_peopleOf 27 = .ok (.iconst 0, 1) := by decide +kernel
theorem dX11_peopleOf_28 : decode cX11_peopleOf 28 = .ok (.invokestatic 209, 3) := by decide +kernel
theorem dX11_peopleOf_31 : decode cX11_peopleOf 31 = .ok (.iadd, 1) := by decide +kernel
theorem dX11_peopleOf_32 : decode cX11_peopleOf 32 = .ok (.istore_n 2, 1) := by decide +kernel
theorem dX11_peopleOf_33 : decode cX11_peopleOf 33 = .ok (.iinc 3 1, 3) := by decide +kernel
theorem dX11_peopleOf_36 : decode cX11_peopleOf 36 = .ok (.goto (-32), 3) := by decide +kernel
theorem dX11_peopleOf_39 : decode cX11_peopleOf 39 = .ok (.iload_n 2, 1) := by decide +kernel
theorem dX11_peopleOf_40 : decode cX11_peopleOf 40 = .ok (.ireturn, 1) := by decide +kernel
set_option maxRecDepth 20000 in
theorem ggX11_holding_X11_counts : GoodIn wsX11_holding wsX11_counts := goodIn_r _ [6, 7, 8, 1, 9, 10, 11, 5, 12, 13, 14, 15, 16, 17, 18, 19, 20, 21, 22, 23, 24, 25, 26, 27, 28, 35, 36, 37, 38, 39, 40, 41, 42, 43, 44, 45, 46, 47, 48, 49, 50, 51, 52, 53, 54, 55, 56, 57, 58, 59, 60, 61, 62, 63, 64, 65, 66, 67, 68, 69, 70, 71, 72, 73, 74, 75, 76, 77, 78, 79, 80, 81] (by decide +kernel) (by decide +kernel)
set_option maxRecDepth 20000 in
theorem gX11_holding_X11_counts : GoodIn wsX11_holding (wsV RX11 228 RX11 yX11_counts wsX11_counts) := goodIn_app (goodIn_of _ (by decide +kernel)) ggX11_holding_X11_counts
set_option maxRecDepth 20000 in
theorem ggX11_holding_X11_standard : GoodIn wsX11_holding wsX11_standard := goodIn_r _ [32, 33, 13, 34, 35, 36, 37, 38, 39, 40, 41, 42, 43, 44, 45, 46, 47, 48, 49, 50, 51, 52, 53, 54, 55, 56, 57, 58, 59, 60, 61, 62, 63, 64, 65, 66, 67, 68, 69, 70, 71, 72, 73, 74, 75, 76, 77, 78, 79, 80, 81] (by decide +kernel) (by decide +kernel)
set_option maxRecDepth 20000 in
theorem gX11_holding_X11_standard : GoodIn wsX11_holding (wsV RX11 213 RX11 yX11_standard wsX11_standard) := goodIn_app (goodIn_of _ (by decide +kernel)) ggX11_holding_X11_standard
theorem dX11_holding_0 : decode cX11_holding 0 = .ok (.aload_n 0, 1) := by decide +kernel
theorem dX11_holding_1 : decode cX11_holding 1 = .ok (.iload_n 1, 1) := by decide +kernel
theorem dX11_holding_2 : decode cX11_holding 2 = .ok (.invokevirtual 228, 3) := by decide +kernel
theorem dX11_holding_5 : decode cX11_holding 5 = .ok (.istore_n 2, 1) := by decide +kernel
theorem dX11_holding_6 : decode cX11_holding 6 = .ok (.iconst 0, 1) := by decide +kernel
theorem dX11_holding_7 : decode cX11_holding 7 = .ok (.istore_n 3, 1) := by decide +kernel
theorem dX11_holding_8 : decode cX11_holding 8 = .ok (.iconst 0, 1) := by decide +kernel
theorem dX11_holding_9 : decode cX11_holding 9 = .ok (.istore 4, 2) := by decide +kernel
theorem dX11_holding_11 : decode cX11_holding 11 = .ok (.iload 4, 2) := by decide +kernel
theorem dX11_holding_13 : decode cX11_holding 13 = .ok (.iload_n 2, 1) := by decide +kernel
theorem dX11_holding_14 : decode cX11_holding 14 = .ok (.if_icmp .ge 23, 3) := by decide +kernel
theorem dX11_holding_17 : decode cX11_holding 17 = .ok (.iload_n 3, 1) := by decide +kernel
theorem dX11_holding_18 : decode cX11_holding 18 = .ok (.aload_n 0, 1) := by decide +kernel
theorem dX11_holding_19 : decode cX11_holding 19 = .ok (.aload_n 0, 1) := by decide +kernel
theorem dX11_holding_20 : decode cX11_holding 20 = .ok (.getfield 58, 3) := by decide +kernel
theorem dX11_holding_23 : decode cX11_holding 23 = .ok (.iload 4, 2) := by decide +kernel
theorem dX11_holding_25 : decode cX11_holding 25 = .ok (.iaload, 1) := by decide +kernel
theorem dX11_holding_26 : decode cX11_holding 26 = .ok (.invokevirtual 213, 3) := by decide +kernel
theorem dX11_holding_29 : decode cX11_holding 29 = .ok (.iadd, 1) := by decide +kernel
theorem dX11_holding_30 : decode cX11_holding 30 = .ok (.istore_n 3, 1) := by decide +kernel
theorem dX11_holding_31 : decode cX11_holding 31 = .ok (.iinc 4 1, 3) := by decide +kernel
theorem dX11_holding_34 : decode cX11_holding 34 = .ok (.goto (-23), 3) := by decide +kernel
theorem dX11_holding_37 : decode cX11_holding 37 = .ok (.iload_n 3, 1) := by decide +kernel
theorem dX11_holding_38 : decode cX11_holding 38 = .ok (.ireturn, 1) := by decide +kernel
set_option maxRecDepth 20000 in
theorem ggX11_mayHave_X11_peopleOf : GoodIn wsX11_mayHave wsX11_peopleOf := goodIn_r _ [10, 11, 12, 13, 14, 9, 15, 16, 17, 18, 19, 20, 21, 22, 23, 24, 25, 26, 27, 28, 29, 30, 31, 32, 33, 34, 35, 36, 37, 38, 39, 40, 41, 42, 43, 44, 45, 46, 47, 48, 49, 50, 51, 52, 53, 54, 55, 56, 57, 58, 59, 60, 61, 62] (by decide +kernel) (by decide +kernel)
set_option maxRecDepth 20000 in
theorem gX11_mayHave_X11_peopleOf : GoodIn wsX11_mayHave (wsV RX11 231 RX11 yX11_peopleOf wsX11_peopleOf) := goodIn_app (goodIn_of _ (by decide +kernel)) ggX11_mayHave_X11_peopleOf
theorem dX11_mayHave_0 : decode cX11_mayHave 0 = .ok (.aload_n 0, 1) := by decide +kernel
theorem dX11_mayHave_1 : decode cX11_mayHave 1 = .ok (.getfield 44, 3) := by decide +kernel
theorem dX11_mayHave_4 : decode cX11_mayHave 4 = .ok (.iconst 0, 1) := by decide +kernel
theorem dX11_mayHave_5 : decode cX11_mayHave 5 = .ok (.iaload, 1) := by decide +kernel
theorem dX11_mayHave_6 : decode cX11_mayHave 6 = .ok (.aload_n 0, 1) := by decide +kernel
theorem dX11_mayHave_7 : decode cX11_mayHave 7 = .ok (.getfield 44, 3) := by decide +kernel
theorem dX11_mayHave_10 : decode cX11_mayHave 10 = .ok (.iconst 1, 1) := by decide +kernel
theorem dX11_mayHave_11 : decode cX11_mayHave 11 = .ok (.iaload, 1) := by decide +kernel
theorem dX11_mayHave_12 : decode cX11_mayHave 12 = .ok (.iconst 0, 1) := by decide +kernel
theorem dX11_mayHave_13 : decode cX11_mayHave 13 = .ok (.aload_n 0, 1) := by decide +kernel
theorem dX11_mayHave_14 : decode cX11_mayHave 14 = .ok (.iload_n 1, 1) := by decide +kernel
theorem dX11_mayHave_15 : decode cX11_mayHave 15 = .ok (.invokevirtual 231, 3) := by decide +kernel
theorem dX11_mayHave_18 : decode cX11_mayHave 18 = .ok (.iconst 5, 1) := by decide +kernel
theorem dX11_mayHave_19 : decode cX11_mayHave 19 = .ok (.isub, 1) := by decide +kernel
theorem dX11_mayHave_20 : decode cX11_mayHave 20 = .ok (.invokestatic 234, 3) := by decide +kernel
theorem dX11_mayHave_23 : decode cX11_mayHave 23 = .ok (.imul, 1) := by decide +kernel
theorem dX11_mayHave_24 : decode cX11_mayHave 24 = .ok (.iadd, 1) := by decide +kernel
theorem dX11_mayHave_25 : decode cX11_mayHave 25 = .ok (.ireturn, 1) := by decide +kernel
set_option maxRecDepth 20000 in
theorem ggX11_isHouse_X11_isIn : GoodIn wsX11_isHouse wsX11_isIn := goodIn_r _ [4] (by decide +kernel) (by decide +kernel)
set_option maxRecDepth 20000 in
theorem gX11_isHouse_X11_isIn : GoodIn wsX11_isHouse (va_wsS RX11 116 yX11_isIn wsX11_isIn) := goodIn_app (goodIn_of _ (by decide +kernel)) ggX11_isHouse_X11_isIn
theorem dX11_isHouse_0 : decode cX11_isHouse 0 = .ok (.iload_n 0, 1) := by decide +kernel
theorem dX11_isHouse_1 : decode cX11_isHouse 1 = .ok (.iconst 0, 1) := by decide +kernel
theorem dX11_isHouse_2 : decode cX11_isHouse 2 = .ok (.bipush 19, 2) := by decide +kernel
theorem dX11_isHouse_4 : decode cX11_isHouse 4 = .ok (.invokestatic 116, 3) := by decide +kernel
theorem dX11_isHouse_7 : decode cX11_isHouse 7 = .ok (.ireturn, 1) := by decide +kernel
set_option maxRecDepth 20000 in
theorem ggX11_house_X11_isHouse : GoodIn wsX11_house wsX11_isHouse := goodIn_r _ [8, 9, 10, 7, 11] (by decide +kernel) (by decide +kernel)
set_option maxRecDepth 20000 in
theorem gX11_house_X11_isHouse : GoodIn wsX11_house (va_wsS RX11 239 yX11_isHouse wsX11_isHouse) := goodIn_app (goodIn_of _ (by decide +kernel)) ggX11_house_X11_isHouse
set_option maxRecDepth 20000 in
theorem ggX11_house_X11_peopleOf : GoodIn wsX11_house wsX11_peopleOf := goodIn_r _ [15, 16, 17, 18, 19, 7, 20, 61, 62, 63, 64, 65, 66, 67, 68, 69, 70, 71, 72, 73, 74, 75, 76, 77, 78, 79, 80, 81, 82, 83, 84, 85, 86, 87, 88, 89, 90, 91, 92, 93, 94, 95, 96, 97, 98, 99, 100, 101, 102, 103, 104, 105, 106, 107] (by decide +kernel) (by decide +kernel)
set_option maxRecDepth 20000 in
theorem gX11_house_X11_peopleOf : GoodIn wsX11_house (wsV RX11 231 RX11 yX11_peopleOf wsX11_peopleOf) := goodIn_app (goodIn_of _ (by decide +kernel)) ggX11_house_X11_peopleOf
set_option maxRecDepth 20000 in
theorem ggX11_house_X11_holding : GoodIn wsX11_house wsX11_holding := goodIn_r _ [24, 25, 26, 27, 28, 7, 29, 30, 17, 31, 32, 33, 34, 35, 36, 37, 38, 39, 40, 41, 42, 43, 44, 45, 46, 47, 48, 49, 50, 51, 52, 53, 54, 55, 56, 61, 62, 63, 64, 65, 66, 67, 68, 69, 70, 71, 72, 73, 74, 75, 76, 77, 78, 79, 80, 81, 82, 83, 84, 85, 86, 87, 88, 89, 90, 91, 92, 93, 94, 95, 96, 97, 98, 99, 100, 101, 102, 103, 104, 105, 106, 107] (by decide +kernel) (by decide +kernel)
set_option maxRecDepth 20000 in
theorem gX11_house_X11_holding : GoodIn wsX11_house (wsV RX11 242 RX11 yX11_holding wsX11_holding) := goodIn_app (goodIn_of _ (by decide +kernel)) ggX11_house_X11_holding
set_option maxRecDepth 20000 in
theorem ggX11_house_X11_mayHave : GoodIn wsX11_house wsX11_mayHave := goodIn_r _ [60, 35, 1, 2, 3, 4, 12, 13, 14, 7, 15, 16, 17, 18, 19, 20, 61, 62, 63, 64, 65, 66, 67, 68, 69, 70, 71, 72, 73, 74, 75, 76, 77, 78, 79, 80, 81, 82, 83, 84, 85, 86, 87, 88, 89, 90, 91, 92, 93, 94, 95, 96, 97, 98, 99, 100, 101, 102, 103, 104, 105, 106, 107] (by decide +kernel) (by decide +kernel)
set_option maxRecDepth 20000 in
theorem gX11_house_X11_mayHave : GoodIn wsX11_house (wsV RX11 245 RX11 yX11_mayHave wsX11_mayHave) := goodIn_app (goodIn_of _ (by decide +kernel)) ggX11_house_X11_mayHave
set_option maxRecDepth 20000 in
theorem ggX11_house_X11_counts : GoodIn wsX11_house wsX11_counts := goodIn_r _ [29, 30, 17, 25, 31, 32, 33, 7, 34, 35, 36, 37, 38, 39, 40, 41, 42, 43, 44, 45, 46, 47, 48, 49, 50, 61, 62, 63, 64, 65, 66, 67, 68, 69, 70, 71, 72, 73, 74, 75, 76, 77, 78, 79, 80, 81, 82, 83, 84, 85, 86, 87, 88, 89, 90, 91, 92, 93, 94, 95, 96, 97, 98, 99, 100, 101, 102, 103, 104, 105, 106, 107] (by decide +kernel) (by decide +kernel)
set_option maxRecDepth 20000 in
theorem gX11_house_X11_counts : GoodIn wsX11_house (wsV RX11 228 RX11 yX11_counts wsX11_counts) := goodIn_app (goodIn_of _ (by decide +kernel)) ggX11_house_X11_counts
theorem dX11_house_0 : decode cX11_house 0 = .ok (.iload_n 1, 1) := by decide +kernel
theorem dX11_house_1 : decode cX11_house 1 = .ok (.invokestatic 239, 3) := by decide +kernel
theorem dX11_house_4 : decode cX11_house 4 = .ok (.ifCond .ne 5, 3) := by decide +kernel
theorem dX11_house_7 : decode cX11_house 7 = .ok (.iconst (-1), 1) := by decide +kernel
theorem dX11_house_8 : decode cX11_house 8 = .ok (.ireturn, 1) := by decide +kernel
theorem dX11_house_9 : decode cX11_house 9 = .ok (.iload_n 2, 1) := by decide +kernel
theorem dX11_house_10 : decode cX11_house 10 = .ok (.tableswitch 74 0 4 #[34, 40, 46, 52, 68], 34) := by decide +kernel
theorem dX11_house_44 : decode cX11_house 44 = .ok (.aload_n 0, 1) := by decide +kernel
theorem dX11_house_45 : decode cX11_house 45 = .ok (.iload_n 1, 1) := by decide +kernel
theorem dX11_house_46 : decode cX11_house 46 = .ok (.invokevirtual 231, 3) := by decide +kernel
theorem dX11_house_49 : decode cX11_house 49 = .ok (.ireturn, 1) := by decide +kernel
theorem dX11_house_50 : decode cX11_house 50 = .ok (.aload_n 0, 1) := by decide +kernel
theorem dX11_house_51 : decode cX11_house 51 = .ok (.iload_n 1, 1) := by decide +kernel
theorem dX11_house_52 : decode cX11_house 52 = .ok (.invokevirtual 242, 3) := by decide +kernel
theorem dX11_house_55 : decode cX11_house 55 = .ok (.ireturn, 1) := by decide +kernel
theorem dX11_house_56 : decode cX11_house 56 = .ok (.aload_n 0, 1) := by decide +kernel
theorem dX11_house_57 : decode cX11_house 57 = .ok (.iload_n 1, 1) := by decide +kernel
theorem dX11_house_58 : decode cX11_house 58 = .ok (.invokevirtual 245, 3) := by decide +kernel
theorem dX11_house_61 : decode cX11_house 61 = .ok (.ireturn, 1) := by decide +kernel
theorem dX11_house_62 : decode cX11_house 62 = .ok (.iconst 0, 1) := by decide +kernel
theorem dX11_house_63 : decode cX11_house 63 = .ok (.aload_n 0, 1) := by decide +kernel
theorem dX11_house_64 : decode cX11_house 64 = .ok (.iload_n 1, 1) := by decide +kernel
theorem dX11_house_65 : decode cX11_house 65 = .ok (.invokevirtual 242, 3) := by decide +kernel
theorem dX11_house_68 : decode cX11_house 68 = .ok (.aload_n 0, 1) := by decide +kernel
theorem dX11_house_69 : decode cX11_house 69 = .ok (.iload_n 1, 1) := by decide +kernel
theorem dX11_house_70 : decode cX11_house 70 = .ok (.invokevirtual 245, 3) := by decide +kernel
theorem dX11_house_73 : decode cX11_house 73 = .ok (.isub, 1) := by decide +kernel
theorem dX11_house_74 : decode cX11_house 74 = .ok (.invokestatic 234, 3) := by decide +kernel
theorem dX11_house_77 : decode cX11_house 77 = .ok (.ireturn, 1) := by decide +kernel
theorem dX11_house_78 : decode cX11_house 78 = .ok (.aload_n 0, 1) := by decide +kernel
theorem dX11_house_79 : decode cX11_house 79 = .ok (.iload_n 1, 1) := by decide +kernel
theorem dX11_house_80 : decode cX11_house 80 = .ok (.invokevirtual 228, 3) := by decide +kernel
theorem dX11_house_83 : decode cX11_house 83 = .ok (.ireturn, 1) := by decide +kernel
theorem dX11_house_84 : decode cX11_house 84 = .ok (.iconst (-1), 1) := by decide +kernel
theorem dX11_house_85 : decode cX11_house 85 = .ok (.ireturn, 1) := by decide +kernel
set_option maxRecDepth 20000 in
theorem ggX11_keeps_X11_standard : GoodIn wsX11_keeps wsX11_standard := goodIn_r _ [9, 4, 10, 11, 12, 13, 14, 15, 16, 17, 18, 19, 20, 21, 22, 23, 24, 25, 26, 27, 28, 29, 30, 31, 32, 33, 34, 35, 36, 37, 38, 39, 40, 41, 42, 43, 44, 45, 46, 47, 48, 49, 50, 51, 52, 53, 54, 55, 56, 57, 58] (by decide +kernel) (by decide +kernel)
set_option maxRecDepth 20000 in
theorem gX11_keeps_X11_standard : GoodIn wsX11_keeps (wsV RX11 213 RX11 yX11_standard wsX11_standard) := goodIn_app (goodIn_of _ (by decide +kernel)) ggX11_keeps_X11_standard
theorem dX11_keeps_0 : decode cX11_keeps 0 = .ok (.aload_n 0, 1) := by decide +kernel
theorem dX11_keeps_1 : decode cX11_keeps 1 = .ok (.iconst 0, 1) := by decide +kernel
theorem dX11_keeps_2 : decode cX11_keeps 2 = .ok (.putfield 248, 3) := by decide +kernel
theorem dX11_keeps_5 : decode cX11_keeps 5 = .ok (.aload_n 0, 1) := by decide +kernel
theorem dX11_keeps_6 : decode cX11_keeps 6 = .ok (.iconst 0, 1) := by decide +kernel
theorem dX11_keeps_7 : decode cX11_keeps 7 = .ok (.putfield 251, 3) := by decide +kernel
theorem dX11_keeps_10 : decode cX11_keeps 10 = .ok (.iconst 1, 1) := by decide +kernel
theorem dX11_keeps_11 : decode cX11_keeps 11 = .ok (.istore_n 3, 1) := by decide +kernel
theorem dX11_keeps_12 : decode cX11_keeps 12 = .ok (.iload_n 3, 1) := by decide +kernel
theorem dX11_keeps_13 : decode cX11_keeps 13 = .ok (.iconst 1, 1) := by decide +kernel
theorem dX11_keeps_14 : decode cX11_keeps 14 = .ok (.iload_n 1, 1) := by decide +kernel
theorem dX11_keeps_15 : decode cX11_keeps 15 = .ok (.ishl, 1) := by decide +kernel
theorem dX11_keeps_16 : decode cX11_keeps 16 = .ok (.if_icmp .ge 104, 3) := by decide +kernel
theorem dX11_keeps_19 : decode cX11_keeps 19 = .ok (.iconst 0, 1) := by decide +kernel
theorem dX11_keeps_20 : decode cX11_keeps 20 = .ok (.istore 4, 2) := by decide +kernel
theorem dX11_keeps_22 : decode cX11_keeps 22 = .ok (.iconst 0, 1) := by decide +kernel
theorem dX11_keeps_23 : decode cX11_keeps 23 = .ok (.istore 5, 2) := by decide +kernel
theorem dX11_keeps_25 : decode cX11_keeps 25 = .ok (.iconst 0, 1) := by decide +kernel
theorem dX11_keeps_26 : decode cX11_keeps 26 = .ok (.istore 6, 2) := by decide +kernel
theorem dX11_keeps_28 : decode cX11_keeps 28 = .ok (.iload 6, 2) := by decide +kernel
theorem dX11_keeps_30 : decode cX11_keeps 30 = .ok (.iload_n 1, 1) := by decide +kernel
theorem dX11_keeps_31 : decode cX11_keeps 31 = .ok (.if_icmp .ge 54, 3) := by decide +kernel
theorem dX11_keeps_34 : decode cX11_keeps 34 = .ok (.iload_n 3, 1) := by decide +kernel
theorem dX11_keeps_35 : decode cX11_keeps 35 = .ok (.iload 6, 2) := by decide +kernel
theorem dX11_keeps_37 : decode cX11_keeps 37 = .ok (.ishr, 1) := by decide +kernel
theorem dX11_keeps_38 : decode cX11_keeps 38 = .ok (.iconst 1, 1) := by decide +kernel
theorem dX11_keeps_39 : decode cX11_keeps 39 = .ok (.iand, 1) := by decide +kernel
theorem dX11_keeps_40 : decode cX11_keeps 40 = .ok (.ifCond .ne 6, 3) := by decide +kernel
theorem dX11_keeps_43 : decode cX11_keeps 43 = .ok (.goto 36, 3) := by decide +kernel
theorem dX11_keeps_46 : decode cX11_keeps 46 = .ok (.iload 4, 2) := by decide +kernel
theorem dX11_keeps_48 : decode cX11_keeps 48 = .ok (.aload_n 0, 1) := by decide +kernel
theorem dX11_keeps_49 : decode cX11_keeps 49 = .ok (.aload_n 0, 1) := by decide +kernel
theorem dX11_keeps_50 : decode cX11_keeps 50 = .ok (.getfield 58, 3) := by decide +kernel
theorem dX11_keeps_53 : decode cX11_keeps 53 = .ok (.iload 6, 2) := by decide +kernel
theorem dX11_keeps_55 : decode cX11_keeps 55 = .ok (.iaload, 1) := by decide +kernel
theorem dX11_keeps_56 : decode cX11_keeps 56 = .ok (.invokevirtual 213, 3) := by decide +kernel
theorem dX11_keeps_59 : decode cX11_keeps 59 = .ok (.iadd, 1) := by decide +kernel
theorem dX11_keeps_60 : decode cX11_keeps 60 = .ok (.istore 4, 2) := by decide +kernel
theorem dX11_keeps_62 : decode cX11_keeps 62 = .ok (.iload 5, 2) := by decide +kernel
theorem dX11_keeps_64 : decode cX11_keeps 64 = .ok (.aload_n 0, 1) := by decide +kernel
theorem dX11_keeps_65 : decode cX11_keeps 65 = .ok (.getfield 23, 3) := by decide +kernel
theorem dX11_keeps_68 : decode cX11_keeps 68 = .ok (.aload_n 0, 1) := by decide +kernel
theorem dX11_keeps_69 : decode cX11_keeps 69 = .ok (.getfield 58, 3) := by decide +kernel
theorem dX11_keeps_72 : decode cX11_keeps 72 = .ok (.iload 6, 2) := by decide +kernel
theorem dX11_keeps_74 : decode cX11_keeps 74 = .ok (.iaload, 1) := by decide +kernel
theorem dX11_keeps_75 : decode cX11_keeps 75 = .ok (.iaload, 1) := by decide +kernel
theorem dX11_keeps_76 : decode cX11_keeps 76 = .ok (.iadd, 1) := by decide +kernel
theorem dX11_keeps_77 : decode cX11_keeps 77 = .ok (.istore 5, 2) := by decide +kernel
theorem dX11_keeps_79 : decode cX11_keeps 79 = .ok (.iinc 6 1, 3) := by decide +kernel
theorem dX11_keeps_82 : decode cX11_keeps 82 = .ok (.goto (-54), 3) := by decide +kernel
theorem dX11_keeps_85 : decode cX11_keeps 85 = .ok (.iload 4, 2) := by decide +kernel
theorem dX11_keeps_87 : decode cX11_keeps 87 = .ok (.iload_n 2, 1) := by decide +kernel
theorem dX11_keeps_88 : decode cX11_keeps 88 = .ok (.if_icmp .gt 26, 3) := by decide +kernel
theorem dX11_keeps_91 : decode cX11_keeps 91 = .ok (.iload 5, 2) := by decide +kernel
theorem dX11_keeps_93 : decode cX11_keeps 93 = .ok (.aload_n 0, 1) := by decide +kernel
theorem dX11_keeps_94 : decode cX11_keeps 94 = .ok (.getfield 251, 3) := by decide +kernel
theorem dX11_keeps_97 : decode cX11_keeps 97 = .ok (.if_icmp .gt 6, 3) := by decide +kernel
theorem dX11_keeps_100 : decode cX11_keeps 100 = .ok (.goto 14, 3) := by decide +kernel
theorem dX11_keeps_103 : decode cX11_keeps 103 = .ok (.aload_n 0, 1) := by decide +kernel
theorem dX11_keeps_104 : decode cX11_keeps 104 = .ok (.iload_n 3, 1) := by decide +kernel
theorem dX11_keeps_105 : decode cX11_keeps 105 = .ok (.putfield 248, 3) := by decide +kernel
theorem dX11_keeps_108 : decode cX11_keeps 108 = .ok (.aload_n 0, 1) := by decide +kernel
theorem dX11_keeps_109 : decode cX11_keeps 109 = .ok (.iload 5, 2) := by decide +kernel
theorem dX11_keeps_111 : decode cX11_keeps 111 = .ok (.putfield 251, 3) := by decide +kernel
theorem dX11_keeps_114 : decode cX11_keeps 114 = .ok (.iinc 3 1, 3) := by decide +kernel
theorem dX11_keeps_117 : decode cX11_keeps 117 = .ok (.goto (-105), 3) := by decide +kernel
theorem dX11_keeps_120 : decode cX11_keeps 120 = .ok (.return_, 1) := by decide +kernel
set_option maxRecDepth 20000 in
theorem ggX11_kept_X11_isHouse : GoodIn wsX11_kept wsX11_isHouse := goodIn_r _ [6, 7, 8, 5, 9] (by decide +kernel) (by decide +kernel)
set_option maxRecDepth 20000 in
theorem gX11_kept_X11_isHouse : GoodIn wsX11_kept (va_wsS RX11 239 yX11_isHouse wsX11_isHouse) := goodIn_app (goodIn_of _ (by decide +kernel)) ggX11_kept_X11_isHouse
set_option maxRecDepth 20000 in
theorem ggX11_kept_X11_counts : GoodIn wsX11_kept wsX11_counts := goodIn_r _ [13, 14, 15, 16, 17, 18, 19, 5, 20, 21, 22, 23, 24, 25, 26, 27, 28, 29, 30, 31, 32, 33, 34, 35, 36, 63, 64, 65, 66, 67, 68, 69, 70, 71, 72, 73, 74, 75, 76, 77, 78, 79, 80, 81, 82, 83, 84, 85, 86, 87, 88, 89, 90, 91, 92, 93, 94, 95, 96, 97, 98, 99, 100, 101, 102, 103, 104, 105, 106, 107, 108, 109] (by decide +kernel) (by decide +kernel)
set_option maxRecDepth 20000 in
theorem gX11_kept_X11_counts : GoodIn wsX11_kept (wsV RX11 228 RX11 yX11_counts wsX11_counts) := goodIn_app (goodIn_of _ (by decide +kernel)) ggX11_kept_X11_counts
set_option maxRecDepth 20000 in
theorem ggX11_kept_X11_isIn : GoodIn wsX11_kept wsX11_isIn := goodIn_r _ [9] (by decide +kernel) (by decide +kernel)
set_option maxRecDepth 20000 in
theorem gX11_kept_X11_isIn : GoodIn wsX11_kept (va_wsS RX11 116 yX11_isIn wsX11_isIn) := goodIn_app (goodIn_of _ (by decide +kernel)) ggX11_kept_X11_isIn
set_option maxRecDepth 20000 in
theorem ggX11_kept_X11_mayHave : GoodIn wsX11_kept wsX11_mayHave := goodIn_r _ [40, 21, 41, 42, 43, 44, 45, 46, 47, 5, 48, 49, 15, 50, 51, 52, 63, 64, 65, 66, 67, 68, 69, 70, 71, 72, 73, 74, 75, 76, 77, 78, 79, 80, 81, 82, 83, 84, 85, 86, 87, 88, 89, 90, 91, 92, 93, 94, 95, 96, 97, 98, 99, 100, 101, 102, 103, 104, 105, 106, 107, 108, 109] (by decide +kernel) (by decide +kernel)
set_option maxRecDepth 20000 in
theorem gX11_kept_X11_mayHave : GoodIn wsX11_kept (wsV RX11 245 RX11 yX11_mayHave wsX11_mayHave) := goodIn_app (goodIn_of _ (by decide +kernel)) ggX11_kept_X11_mayHave
set_option maxRecDepth 20000 in
theorem ggX11_kept_X11_keeps : GoodIn wsX11_kept wsX11_keeps := goodIn_r _ [56, 2, 1, 16, 57, 58, 59, 60, 5, 61, 21, 62, 63, 64, 65, 66, 67, 68, 69, 70, 71, 72, 73, 74, 75, 76, 77, 78, 79, 80, 81, 82, 83, 84, 85, 86, 87, 88, 89, 90, 91, 92, 93, 94, 95, 96, 97, 98, 99, 100, 101, 102, 103, 104, 105, 106, 107, 108, 109] (by decide +kernel) (by decide +kernel)
set_option maxRecDepth 20000 in
theorem gX11_kept_X11_keeps : GoodIn wsX11_kept (wsV RX11 254 RX11 yX11_keeps wsX11_keeps) := goodIn_app (goodIn_of _ (by decide +kernel)) ggX11_kept_X11_keeps
theorem dX11_kept_0 : decode cX11_kept 0 = .ok (.iload_n 1, 1) := by decide +kernel
theorem dX11_kept_1 : decode cX11_kept 1 = .ok (.invokestatic 239, 3) := by decide +kernel
theorem dX11_kept_4 : decode cX11_kept 4 = .ok (.ifCond .ne 5, 3) := by decide +kernel
theorem dX11_kept_7 : decode cX11_kept 7 = .ok (.iconst (-1), 1) := by decide +kernel
theorem dX11_kept_8 : decode cX11_kept 8 = .ok (.ireturn, 1) := by decide +kernel
theorem dX11_kept_9 : decode cX11_kept 9 = .ok (.aload_n 0, 1) := by decide +kernel
theorem dX11_kept_10 : decode cX11_kept 10 = .ok (.iload_n 1, 1) := by decide +kernel
theorem dX11_kept_11 : decode cX11_kept 11 = .ok (.invokevirtual 228, 3) := by decide +kernel
theorem dX11_kept_14 : decode cX11_kept 14 = .ok (.istore_n 3, 1) := by decide +kernel
theorem dX11_kept_15 : decode cX11_kept 15 = .ok (.iload_n 3, 1) := by decide +kernel
theorem dX11_kept_16 : decode cX11_kept 16 = .ok (.bipush 12, 2) := by decide +kernel
theorem dX11_kept_18 : decode cX11_kept 18 = .ok (.if_icmp .gt 14, 3) := by decide +kernel
theorem dX11_kept_21 : decode cX11_kept 21 = .ok (.iload_n 2, 1) := by decide +kernel
theorem dX11_kept_22 : decode cX11_kept 22 = .ok (.iconst (-1), 1) := by decide +kernel
theorem dX11_kept_23 : decode cX11_kept 23 = .ok (.iload_n 3, 1) := by decide +kernel
theorem dX11_kept_24 : decode cX11_kept 24 = .ok (.iconst 1, 1) := by decide +kernel
theorem dX11_kept_25 : decode cX11_kept 25 = .ok (.isub, 1) := by decide +kernel
theorem dX11_kept_26 : decode cX11_kept 26 = .ok (.invokestatic 116, 3) := by decide +kernel
theorem dX11_kept_29 : decode cX11_kept 29 = .ok (.ifCond .ne 5, 3) := by decide +kernel
theorem dX11_kept_32 : decode cX11_kept 32 = .ok (.iconst (-1), 1) := by decide +kernel
theorem dX11_kept_33 : decode cX11_kept 33 = .ok (.ireturn, 1) := by decide +kernel
theorem dX11_kept_34 : decode cX11_kept 34 = .ok (.aload_n 0, 1) := by decide +kernel
theorem dX11_kept_35 : decode cX11_kept 35 = .ok (.iload_n 3, 1) := by decide +kernel
theorem dX11_kept_36 : decode cX11_kept 36 = .ok (.aload_n 0, 1) := by decide +kernel
theorem dX11_kept_37 : decode cX11_kept 37 = .ok (.iload_n 1, 1) := by decide +kernel
theorem dX11_kept_38 : decode cX11_kept 38 = .ok (.invokevirtual 245, 3) := by decide +kernel
theorem dX11_kept_41 : decode cX11_kept 41 = .ok (.invokevirtual 254, 3) := by decide +kernel
theorem dX11_kept_44 : decode cX11_kept 44 = .ok (.iload_n 2, 1) := by decide +kernel
theorem dX11_kept_45 : decode cX11_kept 45 = .ok (.iconst (-1), 1) := by decide +kernel
theorem dX11_kept_46 : decode cX11_kept 46 = .ok (.if_icmp .ne 10, 3) := by decide +kernel
theorem dX11_kept_49 : decode cX11_kept 49 = .ok (.aload_n 0, 1) := by decide +kernel
theorem dX11_kept_50 : decode cX11_kept 50 = .ok (.getfield 251, 3) := by decide +kernel
theorem dX11_kept_53 : decode cX11_kept 53 = .ok (.goto 11, 3) := by decide +kernel
theorem dX11_kept_56 : decode cX11_kept 56 = .ok (.aload_n 0, 1) := by decide +kernel
theorem dX11_kept_57 : decode cX11_kept 57 = .ok (.getfield 248, 3) := by decide +kernel
theorem dX11_kept_60 : decode cX11_kept 60 = .ok (.iload_n 2, 1) := by decide +kernel
theorem dX11_kept_61 : decode cX11_kept 61 = .ok (.ishr, 1) := by decide +kernel
theorem dX11_kept_62 : decode cX11_kept 62 = .ok (.iconst 1, 1) := by decide +kernel
theorem dX11_kept_63 : decode cX11_kept 63 = .ok (.iand, 1) := by decide +kernel
theorem dX11_kept_64 : decode cX11_kept 64 = .ok (.ireturn, 1) := by decide +kernel
set_option maxRecDepth 20000 in
theorem ggX11_taken_X11_isHouse : GoodIn wsX11_taken wsX11_isHouse := goodIn_r _ [6, 7, 8, 5, 9] (by decide +kernel) (by decide +kernel)
set_option maxRecDepth 20000 in
theorem gX11_taken_X11_isHouse : GoodIn wsX11_taken (va_wsS RX11 239 yX11_isHouse wsX11_isHouse) := goodIn_app (goodIn_of _ (by decide +kernel)) ggX11_taken_X11_isHouse
set_option maxRecDepth 20000 in
theorem ggX11_taken_X11_holding : GoodIn wsX11_taken wsX11_holding := goodIn_r _ [13, 2, 14, 15, 16, 5, 17, 18, 19, 20, 21, 22, 23, 24, 25, 26, 27, 28, 29, 30, 31, 32, 33, 34, 35, 36, 37, 38, 39, 40, 41, 42, 43, 44, 45, 67, 68, 69, 70, 71, 72, 73, 74, 75, 76, 77, 78, 79, 80, 81, 82, 83, 84, 85, 86, 87, 88, 89, 90, 91, 92, 93, 94, 95, 96, 97, 98, 99, 100, 101, 102, 103, 104, 105, 106, 107, 108, 109, 110, 111, 112, 113] (by decide +kernel) (by decide +kernel)
set_option maxRecDepth 20000 in
theorem gX11_taken_X11_holding : GoodIn wsX11_taken (wsV RX11 242 RX11 yX11_holding wsX11_holding) := goodIn_app (goodIn_of _ (by decide +kernel)) ggX11_taken_X11_holding
set_option maxRecDepth 20000 in
theorem ggX11_taken_X11_mayHave : GoodIn wsX11_taken wsX11_mayHave := goodIn_r _ [49, 24, 50, 51, 52, 53, 54, 55, 56, 5, 57, 58, 19, 59, 60, 61, 67, 68, 69, 70, 71, 72, 73, 74, 75, 76, 77, 78, 79, 80, 81, 82, 83, 84, 85, 86, 87, 88, 89, 90, 91, 92, 93, 94, 95, 96, 97, 98, 99, 100, 101, 102, 103, 104, 105, 106, 107, 108, 109, 110, 111, 112, 113] (by decide +kernel) (by decide +kernel)
set_option maxRecDepth 20000 in
theorem gX11_taken_X11_mayHave : GoodIn wsX11_taken (wsV RX11 245 RX11 yX11_mayHave wsX11_mayHave) := goodIn_app (goodIn_of _ (by decide +kernel)) ggX11_taken_X11_mayHave
set_option maxRecDepth 20000 in
theorem ggX11_taken_X11_counts : GoodIn wsX11_taken wsX11_counts := goodIn_r _ [17, 18, 19, 2, 20, 21, 22, 5, 23, 24, 25, 26, 27, 28, 29, 30, 31, 32, 33, 34, 35, 36, 37, 38, 39, 67, 68, 69, 70, 71, 72, 73, 74, 75, 76, 77, 78, 79, 80, 81, 82, 83, 84, 85, 86, 87, 88, 89, 90, 91, 92, 93, 94, 95, 96, 97, 98, 99, 100, 101, 102, 103, 104, 105, 106, 107, 108, 109, 110, 111, 112, 113] (by decide +kernel) (by decide +kernel)
set_option maxRecDepth 20000 in
theorem gX11_taken_X11_counts : GoodIn wsX11_taken (wsV RX11 228 RX11 yX11_counts wsX11_counts) := goodIn_app (goodIn_of _ (by decide +kernel)) ggX11_taken_X11_counts
set_option maxRecDepth 20000 in
theorem ggX11_taken_X11_keeps : GoodIn wsX11_taken wsX11_keeps := goodIn_r _ [65, 1, 66, 2, 44, 40, 41, 42, 5, 43, 24, 45, 67, 68, 69, 70, 71, 72, 73, 74, 75, 76, 77, 78, 79, 80, 81, 82, 83, 84, 85, 86, 87, 88, 89, 90, 91, 92, 93, 94, 95, 96, 97, 98, 99, 100, 101, 102, 103, 104, 105, 106, 107, 108, 109, 110, 111, 112, 113] (by decide +kernel) (by decide +kernel)
end
section
set_option maxRecDepth 20000 in
theorem gX11_taken_X11_keeps : GoodIn wsX11_taken (wsV RX11 254 RX11 yX11_keeps wsX11_keeps) := goodIn_app (goodIn_of _ (by decide +kernel)) ggX11_taken_X11_keeps
theorem dX11_taken_0 : decode cX11_taken 0 = .ok (.iload_n 1, 1) := by decide +kernel
theorem dX11_taken_1 : decode cX11_taken 1 = .ok (.invokestatic 239, 3) := by decide +kernel
theorem dX11_taken_4 : decode cX11_taken 4 = .ok (.ifCond .eq 20, 3) := by decide +kernel
theorem dX11_taken_7 : decode cX11_taken 7 = .ok (.iload_n 2, 1) := by decide +kernel
theorem dX11_taken_8 : decode cX11_taken 8 = .ok (.ifCond .lt 16, 3) := by decide +kernel
theorem dX11_taken_11 : decode cX11_taken 11 = .ok (.aload_n 0, 1) := by decide +kernel
theorem dX11_taken_12 : decode cX11_taken 12 = .ok (.iload_n 1, 1) := by decide +kernel
theorem dX11_taken_13 : decode cX11_taken 13 = .ok (.invokevirtual 242, 3) := by decide +kernel
theorem dX11_taken_16 : decode cX11_taken 16 = .ok (.aload_n 0, 1) := by decide +kernel
theorem dX11_taken_17 : decode cX11_taken 17 = .ok (.iload_n 1, 1) := by decide +kernel
theorem dX11_taken_18 : decode cX11_taken 18 = .ok (.invokevirtual 245, 3) := by decide +kernel
theorem dX11_taken_21 : decode cX11_taken 21 = .ok (.if_icmp .gt 5, 3) := by decide +kernel
theorem dX11_taken_24 : decode cX11_taken 24 = .ok (.iconst (-1), 1) := by decide +kernel
theorem dX11_taken_25 : decode cX11_taken 25 = .ok (.ireturn, 1) := by decide +kernel
theorem dX11_taken_26 : decode cX11_taken 26 = .ok (.aload_n 0, 1) := by decide +kernel
theorem dX11_taken_27 : decode cX11_taken 27 = .ok (.iload_n 1, 1) := by decide +kernel
theorem dX11_taken_28 : decode cX11_taken 28 = .ok (.invokevirtual 228, 3) := by decide +kernel
theorem dX11_taken_31 : decode cX11_taken 31 = .ok (.istore_n 3, 1) := by decide +kernel
theorem dX11_taken_32 : decode cX11_taken 32 = .ok (.iload_n 3, 1) := by decide +kernel
theorem dX11_taken_33 : decode cX11_taken 33 = .ok (.bipush 12, 2) := by decide +kernel
theorem dX11_taken_35 : decode cX11_taken 35 = .ok (.if_icmp .le 5, 3) := by decide +kernel
theorem dX11_taken_38 : decode cX11_taken 38 = .ok (.iconst (-1), 1) := by decide +kernel
theorem dX11_taken_39 : decode cX11_taken 39 = .ok (.ireturn, 1) := by decide +kernel
theorem dX11_taken_40 : decode cX11_taken 40 = .ok (.aload_n 0, 1) := by decide +kernel
theorem dX11_taken_41 : decode cX11_taken 41 = .ok (.iload_n 3, 1) := by decide +kernel
theorem dX11_taken_42 : decode cX11_taken 42 = .ok (.aload_n 0, 1) := by decide +kernel
theorem dX11_taken_43 : decode cX11_taken 43 = .ok (.iload_n 1, 1) := by decide +kernel
theorem dX11_taken_44 : decode cX11_taken 44 = .ok (.invokevirtual 245, 3) := by decide +kernel
theorem dX11_taken_47 : decode cX11_taken 47 = .ok (.invokevirtual 254, 3) := by decide +kernel
theorem dX11_taken_50 : decode cX11_taken 50 = .ok (.iload_n 2, 1) := by decide +kernel
theorem dX11_taken_51 : decode cX11_taken 51 = .ok (.istore 4, 2) := by decide +kernel
theorem dX11_taken_53 : decode cX11_taken 53 = .ok (.iconst 0, 1) := by decide +kernel
theorem dX11_taken_54 : decode cX11_taken 54 = .ok (.istore 5, 2) := by decide +kernel
theorem dX11_taken_56 : decode cX11_taken 56 = .ok (.iload 5, 2) := by decide +kernel
theorem dX11_taken_58 : decode cX11_taken 58 = .ok (.iload_n 3, 1) := by decide +kernel
theorem dX11_taken_59 : decode cX11_taken 59 = .ok (.if_icmp .ge 41, 3) := by decide +kernel
theorem dX11_taken_62 : decode cX11_taken 62 = .ok (.aload_n 0, 1) := by decide +kernel
theorem dX11_taken_63 : decode cX11_taken 63 = .ok (.getfield 248, 3) := by decide +kernel
theorem dX11_taken_66 : decode cX11_taken 66 = .ok (.iload 5, 2) := by decide +kernel
theorem dX11_taken_68 : decode cX11_taken 68 = .ok (.ishr, 1) := by decide +kernel
theorem dX11_taken_69 : decode cX11_taken 69 = .ok (.iconst 1, 1) := by decide +kernel
theorem dX11_taken_70 : decode cX11_taken 70 = .ok (.iand, 1) := by decide +kernel
theorem dX11_taken_71 : decode cX11_taken 71 = .ok (.iconst 1, 1) := by decide +kernel
theorem dX11_taken_72 : decode cX11_taken 72 = .ok (.if_icmp .ne 6, 3) := by decide +kernel
theorem dX11_taken_75 : decode cX11_taken 75 = .ok (.goto 19, 3) := by decide +kernel
theorem dX11_taken_78 : decode cX11_taken 78 = .ok (.iload 4, 2) := by decide +kernel
theorem dX11_taken_80 : decode cX11_taken 80 = .ok (.ifCond .ne 11, 3) := by decide +kernel
theorem dX11_taken_83 : decode cX11_taken 83 = .ok (.aload_n 0, 1) := by decide +kernel
theorem dX11_taken_84 : decode cX11_taken 84 = .ok (.getfield 58, 3) := by decide +kernel
theorem dX11_taken_87 : decode cX11_taken 87 = .ok (.iload 5, 2) := by decide +kernel
theorem dX11_taken_89 : decode cX11_taken 89 = .ok (.iaload, 1) := by decide +kernel
theorem dX11_taken_90 : decode cX11_taken 90 = .ok (.ireturn, 1) := by decide +kernel
theorem dX11_taken_91 : decode cX11_taken 91 = .ok (.iinc 4 (-1), 3) := by decide +kernel
theorem dX11_taken_94 : decode cX11_taken 94 = .ok (.iinc 5 1, 3) := by decide +kernel
theorem dX11_taken_97 : decode cX11_taken 97 = .ok (.goto (-41), 3) := by decide +kernel
theorem dX11_taken_100 : decode cX11_taken 100 = .ok (.iconst (-1), 1) := by decide +kernel
theorem dX11_taken_101 : decode cX11_taken 101 = .ok (.ireturn, 1) := by decide +kernel
theorem dX11_bits_0 : decode cX11_bits 0 = .ok (.iconst 0, 1) := by decide +kernel
theorem dX11_bits_1 : decode cX11_bits 1 = .ok (.istore_n 1, 1) := by decide +kernel
theorem dX11_bits_2 : decode cX11_bits 2 = .ok (.iload_n 0, 1) := by decide +kernel
theorem dX11_bits_3 : decode cX11_bits 3 = .ok (.istore_n 2, 1) := by decide +kernel
theorem dX11_bits_4 : decode cX11_bits 4 = .ok (.iload_n 2, 1) := by decide +kernel
theorem dX11_bits_5 : decode cX11_bits 5 = .ok (.ifCond .le 16, 3) := by decide +kernel
theorem dX11_bits_8 : decode cX11_bits 8 = .ok (.iload_n 1, 1) := by decide +kernel
theorem dX11_bits_9 : decode cX11_bits 9 = .ok (.iload_n 2, 1) := by decide +kernel
theorem dX11_bits_10 : decode cX11_bits 10 = .ok (.iconst 1, 1) := by decide +kernel
theorem dX11_bits_11 : decode cX11_bits 11 = .ok (.iand, 1) := by decide +kernel
theorem dX11_bits_12 : decode cX11_bits 12 = .ok (.iadd, 1) := by decide +kernel
theorem dX11_bits_13 : decode cX11_bits 13 = .ok (.istore_n 1, 1) := by decide +kernel
theorem dX11_bits_14 : decode cX11_bits 14 = .ok (.iload_n 2, 1) := by decide +kernel
theorem dX11_bits_15 : decode cX11_bits 15 = .ok (.iconst 1, 1) := by decide +kernel
theorem dX11_bits_16 : decode cX11_bits 16 = .ok (.ishr, 1) := by decide +kernel
theorem dX11_bits_17 : decode cX11_bits 17 = .ok (.istore_n 2, 1) := by decide +kernel
theorem dX11_bits_18 : decode cX11_bits 18 = .ok (.goto (-14), 3) := by decide +kernel
theorem dX11_bits_21 : decode cX11_bits 21 = .ok (.iload_n 1, 1) := by decide +kernel
theorem dX11_bits_22 : decode cX11_bits 22 = .ok (.ireturn, 1) := by decide +kernel
set_option maxRecDepth 20000 in
theorem ggX11_share_X11_isField : GoodIn wsX11_share wsX11_isField := goodIn_r _ [9, 10, 11, 12, 8, 13, 22, 23, 24, 25, 26, 27, 28, 29, 30, 31, 32, 33, 34, 35, 36, 37, 38, 39, 40, 41, 42, 43, 44, 45, 46, 47, 48, 49, 50, 51, 52, 53, 54, 55, 56, 57, 58, 59, 60, 61, 62, 63, 64, 65, 66, 67, 68] (by decide +kernel) (by decide +kernel)
set_option maxRecDepth 20000 in
theorem gX11_share_X11_isField : GoodIn wsX11_share (wsV RX11 140 RX11 yX11_isField wsX11_isField) := goodIn_app (goodIn_of _ (by decide +kernel)) ggX11_share_X11_isField
set_option maxRecDepth 20000 in
theorem ggX11_share_X11_isPerson : GoodIn wsX11_share wsX11_isPerson := goodIn_r _ [17, 18, 11, 12, 8, 13, 22, 23, 24, 25, 26, 27, 28, 29, 30, 31, 32, 33, 34, 35, 36, 37, 38, 39, 40, 41, 42, 43, 44, 45, 46, 47, 48, 49, 50, 51, 52, 53, 54, 55, 56, 57, 58, 59, 60, 61, 62, 63, 64, 65, 66, 67, 68] (by decide +kernel) (by decide +kernel)
set_option maxRecDepth 20000 in
theorem gX11_share_X11_isPerson : GoodIn wsX11_share (wsV RX11 123 RX11 yX11_isPerson wsX11_isPerson) := goodIn_app (goodIn_of _ (by decide +kernel)) ggX11_share_X11_isPerson
set_option maxRecDepth 20000 in
theorem ggX11_share_X11_isIn : GoodIn wsX11_share wsX11_isIn := goodIn_r _ [13] (by decide +kernel) (by decide +kernel)
set_option maxRecDepth 20000 in
theorem gX11_share_X11_isIn : GoodIn wsX11_share (va_wsS RX11 116 yX11_isIn wsX11_isIn) := goodIn_app (goodIn_of _ (by decide +kernel)) ggX11_share_X11_isIn
set_option maxRecDepth 20000 in
theorem ggX11_share_X11_bits : GoodIn wsX11_share wsX11_bits := goodIn_r _ [21] (by decide +kernel) (by decide +kernel)
set_option maxRecDepth 20000 in
theorem gX11_share_X11_bits : GoodIn wsX11_share (va_wsS RX11 260 yX11_bits wsX11_bits) := goodIn_app (goodIn_of _ (by decide +kernel)) ggX11_share_X11_bits
theorem dX11_share_0 : decode cX11_share 0 = .ok (.aload_n 0, 1) := by decide +kernel
theorem dX11_share_1 : decode cX11_share 1 = .ok (.iload_n 1, 1) := by decide +kernel
theorem dX11_share_2 : decode cX11_share 2 = .ok (.invokevirtual 140, 3) := by decide +kernel
theorem dX11_share_5 : decode cX11_share 5 = .ok (.ifCond .eq 21, 3) := by decide +kernel
theorem dX11_share_8 : decode cX11_share 8 = .ok (.aload_n 0, 1) := by decide +kernel
theorem dX11_share_9 : decode cX11_share 9 = .ok (.iload_n 2, 1) := by decide +kernel
theorem dX11_share_10 : decode cX11_share 10 = .ok (.invokevirtual 123, 3) := by decide +kernel
theorem dX11_share_13 : decode cX11_share 13 = .ok (.ifCond .eq 13, 3) := by decide +kernel
theorem dX11_share_16 : decode cX11_share 16 = .ok (.iload_n 3, 1) := by decide +kernel
theorem dX11_share_17 : decode cX11_share 17 = .ok (.iconst 0, 1) := by decide +kernel
theorem dX11_share_18 : decode cX11_share 18 = .ok (.bipush 29, 2) := by decide +kernel
theorem dX11_share_20 : decode cX11_share 20 = .ok (.invokestatic 116, 3) := by decide +kernel
theorem dX11_share_23 : decode cX11_share 23 = .ok (.ifCond .ne 5, 3) := by decide +kernel
theorem dX11_share_26 : decode cX11_share 26 = .ok (.iconst (-1), 1) := by decide +kernel
theorem dX11_share_27 : decode cX11_share 27 = .ok (.ireturn, 1) := by decide +kernel
theorem dX11_share_28 : decode cX11_share 28 = .ok (.iconst 0, 1) := by decide +kernel
theorem dX11_share_29 : decode cX11_share 29 = .ok (.istore 4, 2) := by decide +kernel
theorem dX11_share_31 : decode cX11_share 31 = .ok (.iload 4, 2) := by decide +kernel
theorem dX11_share_33 : decode cX11_share 33 = .ok (.aload_n 0, 1) := by decide +kernel
theorem dX11_share_34 : decode cX11_share 34 = .ok (.getfield 257, 3) := by decide +kernel
theorem dX11_share_37 : decode cX11_share 37 = .ok (.if_icmp .ge 31, 3) := by decide +kernel
theorem dX11_share_40 : decode cX11_share 40 = .ok (.aload_n 0, 1) := by decide +kernel
theorem dX11_share_41 : decode cX11_share 41 = .ok (.getfield 61, 3) := by decide +kernel
theorem dX11_share_44 : decode cX11_share 44 = .ok (.iload 4, 2) := by decide +kernel
theorem dX11_share_46 : decode cX11_share 46 = .ok (.iaload, 1) := by decide +kernel
theorem dX11_share_47 : decode cX11_share 47 = .ok (.iload_n 1, 1) := by decide +kernel
theorem dX11_share_48 : decode cX11_share 48 = .ok (.if_icmp .ne 14, 3) := by decide +kernel
theorem dX11_share_51 : decode cX11_share 51 = .ok (.aload_n 0, 1) := by decide +kernel
theorem dX11_share_52 : decode cX11_share 52 = .ok (.getfield 64, 3) := by decide +kernel
theorem dX11_share_55 : decode cX11_share 55 = .ok (.iload 4, 2) := by decide +kernel
theorem dX11_share_57 : decode cX11_share 57 = .ok (.iaload, 1) := by decide +kernel
theorem dX11_share_58 : decode cX11_share 58 = .ok (.iload_n 2, 1) := by decide +kernel
theorem dX11_share_59 : decode cX11_share 59 = .ok (.if_icmp .eq 9, 3) := by decide +kernel
theorem dX11_share_62 : decode cX11_share 62 = .ok (.iinc 4 1, 3) := by decide +kernel
theorem dX11_share_65 : decode cX11_share 65 = .ok (.goto (-34), 3) := by decide +kernel
theorem dX11_share_68 : decode cX11_share 68 = .ok (.iload 4, 2) := by decide +kernel
theorem dX11_share_70 : decode cX11_share 70 = .ok (.bipush 60, 2) := by decide +kernel
theorem dX11_share_72 : decode cX11_share 72 = .ok (.if_icmp .ne 5, 3) := by decide +kernel
theorem dX11_share_75 : decode cX11_share 75 = .ok (.iconst (-1), 1) := by decide +kernel
theorem dX11_share_76 : decode cX11_share 76 = .ok (.ireturn, 1) := by decide +kernel
theorem dX11_share_77 : decode cX11_share 77 = .ok (.iload 4, 2) := by decide +kernel
theorem dX11_share_79 : decode cX11_share 79 = .ok (.aload_n 0, 1) := by decide +kernel
theorem dX11_share_80 : decode cX11_share 80 = .ok (.getfield 257, 3) := by decide +kernel
theorem dX11_share_83 : decode cX11_share 83 = .ok (.if_icmp .ne 29, 3) := by decide +kernel
theorem dX11_share_86 : decode cX11_share 86 = .ok (.aload_n 0, 1) := by decide +kernel
theorem dX11_share_87 : decode cX11_share 87 = .ok (.getfield 61, 3) := by decide +kernel
theorem dX11_share_90 : decode cX11_share 90 = .ok (.iload 4, 2) := by decide +kernel
theorem dX11_share_92 : decode cX11_share 92 = .ok (.iload_n 1, 1) := by decide +kernel
theorem dX11_share_93 : decode cX11_share 93 = .ok (.iastore, 1) := by decide +kernel
theorem dX11_share_94 : decode cX11_share 94 = .ok (.aload_n 0, 1) := by decide +kernel
theorem dX11_share_95 : decode cX11_share 95 = .ok (.getfield 64, 3) := by decide +kernel
theorem dX11_share_98 : decode cX11_share 98 = .ok (.iload 4, 2) := by decide +kernel
theorem dX11_share_100 : decode cX11_share 100 = .ok (.iload_n 2, 1) := by decide +kernel
theorem dX11_share_101 : decode cX11_share 101 = .ok (.iastore, 1) := by decide +kernel
theorem dX11_share_102 : decode cX11_share 102 = .ok (.aload_n 0, 1) := by decide +kernel
theorem dX11_share_103 : decode cX11_share 103 = .ok (.dup, 1) := by decide +kernel
theorem dX11_share_104 : decode cX11_share 104 = .ok (.getfield 257, 3) := by decide +kernel
theorem dX11_share_107 : decode cX11_share 107 = .ok (.iconst 1, 1) := by decide +kernel
theorem dX11_share_108 : decode cX11_share 108 = .ok (.iadd, 1) := by decide +kernel
theorem dX11_share_109 : decode cX11_share 109 = .ok (.putfield 257, 3) := by decide +kernel
theorem dX11_share_112 : decode cX11_share 112 = .ok (.aload_n 0, 1) := by decide +kernel
theorem dX11_share_113 : decode cX11_share 113 = .ok (.getfield 67, 3) := by decide +kernel
theorem dX11_share_116 : decode cX11_share 116 = .ok (.iload 4, 2) := by decide +kernel
theorem dX11_share_118 : decode cX11_share 118 = .ok (.dup2, 1) := by decide +kernel
theorem dX11_share_119 : decode cX11_share 119 = .ok (.iaload, 1) := by decide +kernel
theorem dX11_share_120 : decode cX11_share 120 = .ok (.iconst 1, 1) := by decide +kernel
theorem dX11_share_121 : decode cX11_share 121 = .ok (.iload_n 3, 1) := by decide +kernel
theorem dX11_share_122 : decode cX11_share 122 = .ok (.ishl, 1) := by decide +kernel
theorem dX11_share_123 : decode cX11_share 123 = .ok (.ior, 1) := by decide +kernel
theorem dX11_share_124 : decode cX11_share 124 = .ok (.iastore, 1) := by decide +kernel
theorem dX11_share_125 : decode cX11_share 125 = .ok (.aload_n 0, 1) := by decide +kernel
theorem dX11_share_126 : decode cX11_share 126 = .ok (.getfield 67, 3) := by decide +kernel
theorem dX11_share_129 : decode cX11_share 129 = .ok (.iload 4, 2) := by decide +kernel
theorem dX11_share_131 : decode cX11_share 131 = .ok (.iaload, 1) := by decide +kernel
theorem dX11_share_132 : decode cX11_share 132 = .ok (.invokestatic 260, 3) := by decide +kernel
theorem dX11_share_135 : decode cX11_share 135 = .ok (.ireturn, 1) := by decide +kernel
set_option maxRecDepth 20000 in
theorem ggX11_tenant_X11_bits : GoodIn wsX11_tenant wsX11_bits := goodIn_r _ [9] (by decide +kernel) (by decide +kernel)
set_option maxRecDepth 20000 in
theorem gX11_tenant_X11_bits : GoodIn wsX11_tenant (va_wsS RX11 260 yX11_bits wsX11_bits) := goodIn_app (goodIn_of _ (by decide +kernel)) ggX11_tenant_X11_bits
set_option maxRecDepth 20000 in
theorem ggX11_tenant_X11_owner : GoodIn wsX11_tenant wsX11_owner := goodIn_r _ [13, 14, 15, 16, 17, 8, 18, 19, 20, 21, 22, 23, 24, 25, 26, 27, 28, 29, 30, 31, 32, 33, 34, 35, 36, 37, 38, 39, 40, 41, 42, 43, 44, 45, 46, 47, 48, 49, 50, 51, 52, 53, 54, 55, 56, 57, 58, 59, 60, 61, 62, 63, 64, 65, 66, 67, 68, 69, 70] (by decide +kernel) (by decide +kernel)
set_option maxRecDepth 20000 in
theorem gX11_tenant_X11_owner : GoodIn wsX11_tenant (wsV RX11 143 RX11 yX11_owner wsX11_owner) := goodIn_app (goodIn_of _ (by decide +kernel)) ggX11_tenant_X11_owner
theorem dX11_tenant_0 : decode cX11_tenant 0 = .ok (.iconst (-1), 1) := by decide +kernel
theorem dX11_tenant_1 : decode cX11_tenant 1 = .ok (.istore_n 2, 1) := by decide +kernel
theorem dX11_tenant_2 : decode cX11_tenant 2 = .ok (.iconst 0, 1) := by decide +kernel
theorem dX11_tenant_3 : decode cX11_tenant 3 = .ok (.istore_n 3, 1) := by decide +kernel
theorem dX11_tenant_4 : decode cX11_tenant 4 = .ok (.iconst 0, 1) := by decide +kernel
theorem dX11_tenant_5 : decode cX11_tenant 5 = .ok (.istore 4, 2) := by decide +kernel
theorem dX11_tenant_7 : decode cX11_tenant 7 = .ok (.iconst 0, 1) := by decide +kernel
theorem dX11_tenant_8 : decode cX11_tenant 8 = .ok (.istore 5, 2) := by decide +kernel
theorem dX11_tenant_10 : decode cX11_tenant 10 = .ok (.iload 5, 2) := by decide +kernel
theorem dX11_tenant_12 : decode cX11_tenant 12 = .ok (.aload_n 0, 1) := by decide +kernel
theorem dX11_tenant_13 : decode cX11_tenant 13 = .ok (.getfield 257, 3) := by decide +kernel
theorem dX11_tenant_16 : decode cX11_tenant 16 = .ok (.if_icmp .ge 94, 3) := by decide +kernel
theorem dX11_tenant_19 : decode cX11_tenant 19 = .ok (.aload_n 0, 1) := by decide +kernel
theorem dX11_tenant_20 : decode cX11_tenant 20 = .ok (.getfield 67, 3) := by decide +kernel
theorem dX11_tenant_23 : decode cX11_tenant 23 = .ok (.iload 5, 2) := by decide +kernel
theorem dX11_tenant_25 : decode cX11_tenant 25 = .ok (.iaload, 1) := by decide +kernel
theorem dX11_tenant_26 : decode cX11_tenant 26 = .ok (.invokestatic 260, 3) := by decide +kernel
theorem dX11_tenant_29 : decode cX11_tenant 29 = .ok (.istore 6, 2) := by decide +kernel
theorem dX11_tenant_31 : decode cX11_tenant 31 = .ok (.aload_n 0, 1) := by decide +kernel
theorem dX11_tenant_32 : decode cX11_tenant 32 = .ok (.getfield 61, 3) := by decide +kernel
theorem dX11_tenant_35 : decode cX11_tenant 35 = .ok (.iload 5, 2) := by decide +kernel
theorem dX11_tenant_37 : decode cX11_tenant 37 = .ok (.iaload, 1) := by decide +kernel
theorem dX11_tenant_38 : decode cX11_tenant 38 = .ok (.iload_n 1, 1) := by decide +kernel
theorem dX11_tenant_39 : decode cX11_tenant 39 = .ok (.if_icmp .ne 65, 3) := by decide +kernel
theorem dX11_tenant_42 : decode cX11_tenant 42 = .ok (.aload_n 0, 1) := by decide +kernel
theorem dX11_tenant_43 : decode cX11_tenant 43 = .ok (.getfield 64, 3) := by decide +kernel
theorem dX11_tenant_46 : decode cX11_tenant 46 = .ok (.iload 5, 2) := by decide +kernel
theorem dX11_tenant_48 : decode cX11_tenant 48 = .ok (.iaload, 1) := by decide +kernel
theorem dX11_tenant_49 : decode cX11_tenant 49 = .ok (.aload_n 0, 1) := by decide +kernel
theorem dX11_tenant_50 : decode cX11_tenant 50 = .ok (.iload_n 1, 1) := by decide +kernel
theorem dX11_tenant_51 : decode cX11_tenant 51 = .ok (.invokevirtual 143, 3) := by decide +kernel
theorem dX11_tenant_54 : decode cX11_tenant 54 = .ok (.if_icmp .eq 50, 3) := by decide +kernel
theorem dX11_tenant_57 : decode cX11_tenant 57 = .ok (.iload 6, 2) := by decide +kernel
theorem dX11_tenant_59 : decode cX11_tenant 59 = .ok (.aload_n 0, 1) := by decide +kernel
theorem dX11_tenant_60 : decode cX11_tenant 60 = .ok (.getfield 44, 3) := by decide +kernel
theorem dX11_tenant_63 : decode cX11_tenant 63 = .ok (.iconst 5, 1) := by decide +kernel
theorem dX11_tenant_64 : decode cX11_tenant 64 = .ok (.iaload, 1) := by decide +kernel
theorem dX11_tenant_65 : decode cX11_tenant 65 = .ok (.if_icmp .lt 39, 3) := by decide +kernel
theorem dX11_tenant_68 : decode cX11_tenant 68 = .ok (.iload 6, 2) := by decide +kernel
theorem dX11_tenant_70 : decode cX11_tenant 70 = .ok (.iload_n 3, 1) := by decide +kernel
theorem dX11_tenant_71 : decode cX11_tenant 71 = .ok (.if_icmp .ge 6, 3) := by decide +kernel
theorem dX11_tenant_74 : decode cX11_tenant 74 = .ok (.goto 30, 3) := by decide +kernel
theorem dX11_tenant_77 : decode cX11_tenant 77 = .ok (.iload 6, 2) := by decide +kernel
theorem dX11_tenant_79 : decode cX11_tenant 79 = .ok (.iload_n 3, 1) := by decide +kernel
theorem dX11_tenant_80 : decode cX11_tenant 80 = .ok (.if_icmp .ne 10, 3) := by decide +kernel
theorem dX11_tenant_83 : decode cX11_tenant 83 = .ok (.iload 4, 2) := by decide +kernel
theorem dX11_tenant_85 : decode cX11_tenant 85 = .ok (.iconst 1, 1) := by decide +kernel
theorem dX11_tenant_86 : decode cX11_tenant 86 = .ok (.iadd, 1) := by decide +kernel
theorem dX11_tenant_87 : decode cX11_tenant 87 = .ok (.goto 4, 3) := by decide +kernel
theorem dX11_tenant_90 : decode cX11_tenant 90 = .ok (.iconst 1, 1) := by decide +kernel
theorem dX11_tenant_91 : decode cX11_tenant 91 = .ok (.istore 4, 2) := by decide +kernel
theorem dX11_tenant_93 : decode cX11_tenant 93 = .ok (.aload_n 0, 1) := by decide +kernel
theorem dX11_tenant_94 : decode cX11_tenant 94 = .ok (.getfield 64, 3) := by decide +kernel
theorem dX11_tenant_97 : decode cX11_tenant 97 = .ok (.iload 5, 2) := by decide +kernel
theorem dX11_tenant_99 : decode cX11_tenant 99 = .ok (.iaload, 1) := by decide +kernel
theorem dX11_tenant_100 : decode cX11_tenant 100 = .ok (.istore_n 2, 1) := by decide +kernel
theorem dX11_tenant_101 : decode cX11_tenant 101 = .ok (.iload 6, 2) := by decide +kernel
theorem dX11_tenant_103 : decode cX11_tenant 103 = .ok (.istore_n 3, 1) := by decide +kernel
theorem dX11_tenant_104 : decode cX11_tenant 104 = .ok (.iinc 5 1, 3) := by decide +kernel
theorem dX11_tenant_107 : decode cX11_tenant 107 = .ok (.goto (-97), 3) := by decide +kernel
theorem dX11_tenant_110 : decode cX11_tenant 110 = .ok (.iload 4, 2) := by decide +kernel
theorem dX11_tenant_112 : decode cX11_tenant 112 = .ok (.iconst 1, 1) := by decide +kernel
theorem dX11_tenant_113 : decode cX11_tenant 113 = .ok (.if_icmp .ne 7, 3) := by decide +kernel
theorem dX11_tenant_116 : decode cX11_tenant 116 = .ok (.iload_n 2, 1) := by decide +kernel
theorem dX11_tenant_117 : decode cX11_tenant 117 = .ok (.goto 4, 3) := by decide +kernel
theorem dX11_tenant_120 : decode cX11_tenant 120 = .ok (.iconst (-1), 1) := by decide +kernel
theorem dX11_tenant_121 : decode cX11_tenant 121 = .ok (.ireturn, 1) := by decide +kernel
set_option maxRecDepth 20000 in
theorem ggX11_given_X11_isIn : GoodIn wsX11_given wsX11_isIn := goodIn_r _ [14] (by decide +kernel) (by decide +kernel)
set_option maxRecDepth 20000 in
theorem gX11_given_X11_isIn : GoodIn wsX11_given (va_wsS RX11 116 yX11_isIn wsX11_isIn) := goodIn_app (goodIn_of _ (by decide +kernel)) ggX11_given_X11_isIn
theorem dX11_given_0 : decode cX11_given 0 = .ok (.iload_n 3, 1) := by decide +kernel
theorem dX11_given_1 : decode cX11_given 1 = .ok (.iconst 1, 1) := by decide +kernel
theorem dX11_given_2 : decode cX11_given 2 = .ok (.iconst 5, 1) := by decide +kernel
theorem dX11_given_3 : decode cX11_given 3 = .ok (.invokestatic 116, 3) := by decide +kernel
theorem dX11_given_6 : decode cX11_given 6 = .ok (.ifCond .eq 43, 3) := by decide +kernel
theorem dX11_given_9 : decode cX11_given 9 = .ok (.iload_n 1, 1) := by decide +kernel
theorem dX11_given_10 : decode cX11_given 10 = .ok (.iconst 0, 1) := by decide +kernel
theorem dX11_given_11 : decode cX11_given 11 = .ok (.aload_n 0, 1) := by decide +kernel
theorem dX11_given_12 : decode cX11_given 12 = .ok (.getfield 120, 3) := by decide +kernel
theorem dX11_given_15 : decode cX11_given 15 = .ok (.iload_n 3, 1) := by decide +kernel
theorem dX11_given_16 : decode cX11_given 16 = .ok (.isub, 1) := by decide +kernel
theorem dX11_given_17 : decode cX11_given 17 = .ok (.invokestatic 116, 3) := by decide +kernel
theorem dX11_given_20 : decode cX11_given 20 = .ok (.ifCond .eq 29, 3) := by decide +kernel
theorem dX11_given_23 : decode cX11_given 23 = .ok (.iload_n 2, 1) := by decide +kernel
theorem dX11_given_24 : decode cX11_given 24 = .ok (.iconst 0, 1) := by decide +kernel
theorem dX11_given_25 : decode cX11_given 25 = .ok (.aload_n 0, 1) := by decide +kernel
theorem dX11_given_26 : decode cX11_given 26 = .ok (.getfield 113, 3) := by decide +kernel
theorem dX11_given_29 : decode cX11_given 29 = .ok (.iload_n 3, 1) := by decide +kernel
theorem dX11_given_30 : decode cX11_given 30 = .ok (.isub, 1) := by decide +kernel
theorem dX11_given_31 : decode cX11_given 31 = .ok (.invokestatic 116, 3) := by decide +kernel
theorem dX11_given_34 : decode cX11_given 34 = .ok (.ifCond .eq 15, 3) := by decide +kernel
theorem dX11_given_37 : decode cX11_given 37 = .ok (.iload 4, 2) := by decide +kernel
theorem dX11_given_39 : decode cX11_given 39 = .ok (.iconst (-1), 1) := by decide +kernel
theorem dX11_given_40 : decode cX11_given 40 = .ok (.iload_n 3, 1) := by decide +kernel
theorem dX11_given_41 : decode cX11_given 41 = .ok (.iconst 1, 1) := by decide +kernel
theorem dX11_given_42 : decode cX11_given 42 = .ok (.isub, 1) := by decide +kernel
theorem dX11_given_43 : decode cX11_given 43 = .ok (.invokestatic 116, 3) := by decide +kernel
theorem dX11_given_46 : decode cX11_given 46 = .ok (.ifCond .ne 5, 3) := by decide +kernel
theorem dX11_given_49 : decode cX11_given 49 = .ok (.iconst (-1), 1) := by decide +kernel
theorem dX11_given_50 : decode cX11_given 50 = .ok (.ireturn, 1) := by decide +kernel
theorem dX11_given_51 : decode cX11_given 51 = .ok (.iconst 1, 1) := by decide +kernel
theorem dX11_given_52 : decode cX11_given 52 = .ok (.istore 5, 2) := by decide +kernel
theorem dX11_given_54 : decode cX11_given 54 = .ok (.iconst 0, 1) := by decide +kernel
theorem dX11_given_55 : decode cX11_given 55 = .ok (.istore 6, 2) := by decide +kernel
theorem dX11_given_57 : decode cX11_given 57 = .ok (.iload 6, 2) := by decide +kernel
theorem dX11_given_59 : decode cX11_given 59 = .ok (.iload_n 3, 1) := by decide +kernel
theorem dX11_given_60 : decode cX11_given 60 = .ok (.if_icmp .ge 15, 3) := by decide +kernel
theorem dX11_given_63 : decode cX11_given 63 = .ok (.iload 5, 2) := by decide +kernel
theorem dX11_given_65 : decode cX11_given 65 = .ok (.iload_n 3, 1) := by decide +kernel
theorem dX11_given_66 : decode cX11_given 66 = .ok (.imul, 1) := by decide +kernel
theorem dX11_given_67 : decode cX11_given 67 = .ok (.istore 5, 2) := by decide +kernel
theorem dX11_given_69 : decode cX11_given 69 = .ok (.iinc 6 1, 3) := by decide +kernel
theorem dX11_given_72 : decode cX11_given 72 = .ok (.goto (-15), 3) := by decide +kernel
theorem dX11_given_75 : decode cX11_given 75 = .ok (.iconst (-1), 1) := by decide +kernel
theorem dX11_given_76 : decode cX11_given 76 = .ok (.istore 6, 2) := by decide +kernel
theorem dX11_given_78 : decode cX11_given 78 = .ok (.iconst 0, 1) := by decide +kernel
theorem dX11_given_79 : decode cX11_given 79 = .ok (.istore 7, 2) := by decide +kernel
theorem dX11_given_81 : decode cX11_given 81 = .ok (.iload 7, 2) := by decide +kernel
theorem dX11_given_83 : decode cX11_given 83 = .ok (.iload 5, 2) := by decide +kernel
theorem dX11_given_85 : decode cX11_given 85 = .ok (.if_icmp .ge 159, 3) := by decide +kernel
theorem dX11_given_88 : decode cX11_given 88 = .ok (.iload 7, 2) := by decide +kernel
theorem dX11_given_90 : decode cX11_given 90 = .ok (.istore 8, 2) := by decide +kernel
theorem dX11_given_92 : decode cX11_given 92 = .ok (.iconst 0, 1) := by decide +kernel
theorem dX11_given_93 : decode cX11_given 93 = .ok (.istore 9, 2) := by decide +kernel
theorem dX11_given_95 : decode cX11_given 95 = .ok (.iconst 0, 1) := by decide +kernel
theorem dX11_given_96 : decode cX11_given 96 = .ok (.istore 10, 2) := by decide +kernel
theorem dX11_given_98 : decode cX11_given 98 = .ok (.iload_n 3, 1) := by decide +kernel
theorem dX11_given_99 : decode cX11_given 99 = .ok (.iconst 1, 1) := by decide +kernel
theorem dX11_given_100 : decode cX11_given 100 = .ok (.isub, 1) := by decide +kernel
theorem dX11_given_101 : decode cX11_given 101 = .ok (.istore 11, 2) := by decide +kernel
theorem dX11_given_103 : decode cX11_given 103 = .ok (.iload 11, 2) := by decide +kernel
theorem dX11_given_105 : decode cX11_given 105 = .ok (.ifCond .lt 74, 3) := by decide +kernel
theorem dX11_given_108 : decode cX11_given 108 = .ok (.aload_n 0, 1) := by decide +kernel
theorem dX11_given_109 : decode cX11_given 109 = .ok (.getfield 70, 3) := by decide +kernel
theorem dX11_given_112 : decode cX11_given 112 = .ok (.iload 11, 2) := by decide +kernel
theorem dX11_given_114 : decode cX11_given 114 = .ok (.iload_n 2, 1) := by decide +kernel
theorem dX11_given_115 : decode cX11_given 115 = .ok (.iload 8, 2) := by decide +kernel
theorem dX11_given_117 : decode cX11_given 117 = .ok (.iload_n 3, 1) := by decide +kernel
theorem dX11_given_118 : decode cX11_given 118 = .ok (.irem, 1) := by decide +kernel
theorem dX11_given_119 : decode cX11_given 119 = .ok (.iadd, 1) := by decide +kernel
theorem dX11_given_120 : decode cX11_given 120 = .ok (.iastore, 1) := by decide +kernel
theorem dX11_given_121 : decode cX11_given 121 = .ok (.iload 8, 2) := by decide +kernel
theorem dX11_given_123 : decode cX11_given 123 = .ok (.iload_n 3, 1) := by decide +kernel
theorem dX11_given_124 : decode cX11_given 124 = .ok (.idiv, 1) := by decide +kernel
theorem dX11_given_125 : decode cX11_given 125 = .ok (.istore 8, 2) := by decide +kernel
theorem dX11_given_127 : decode cX11_given 127 = .ok (.iload 9, 2) := by decide +kernel
theorem dX11_given_129 : decode cX11_given 129 = .ok (.iconst 1, 1) := by decide +kernel
theorem dX11_given_130 : decode cX11_given 130 = .ok (.aload_n 0, 1) := by decide +kernel
theorem dX11_given_131 : decode cX11_given 131 = .ok (.getfield 70, 3) := by decide +kernel
theorem dX11_given_134 : decode cX11_given 134 = .ok (.iload 11, 2) := by decide +kernel
theorem dX11_given_136 : decode cX11_given 136 = .ok (.iaload, 1) := by decide +kernel
theorem dX11_given_137 : decode cX11_given 137 = .ok (.iload_n 2, 1) := by decide +kernel
theorem dX11_given_138 : decode cX11_given 138 = .ok (.isub, 1) := by decide +kernel
theorem dX11_given_139 : decode cX11_given 139 = .ok (.ishl, 1) := by decide +kernel
theorem dX11_given_140 : decode cX11_given 140 = .ok (.ior, 1) := by decide +kernel
theorem dX11_given_141 : decode cX11_given 141 = .ok (.istore 9, 2) := by decide +kernel
theorem dX11_given_143 : decode cX11_given 143 = .ok (.iload 10, 2) := by decide +kernel
theorem dX11_given_145 : decode cX11_given 145 = .ok (.aload_n 0, 1) := by decide +kernel
theorem dX11_given_146 : decode cX11_given 146 = .ok (.getfield 13, 3) := by decide +kernel
theorem dX11_given_149 : decode cX11_given 149 = .ok (.aload_n 0, 1) := by decide +kernel
theorem dX11_given_150 : decode cX11_given 150 = .ok (.getfield 70, 3) := by decide +kernel
theorem dX11_given_153 : decode cX11_given 153 = .ok (.iload 11, 2) := by decide +kernel
theorem dX11_given_155 : decode cX11_given 155 = .ok (.iaload, 1) := by decide +kernel
theorem dX11_given_156 : decode cX11_given 156 = .ok (.iaload, 1) := by decide +kernel
theorem dX11_given_157 : decode cX11_given 157 = .ok (.aload_n 0, 1) := by decide +kernel
theorem dX11_given_158 : decode cX11_given 158 = .ok (.getfield 20, 3) := by decide +kernel
theorem dX11_given_161 : decode cX11_given 161 = .ok (.iload_n 1, 1) := by decide +kernel
theorem dX11_given_162 : decode cX11_given 162 = .ok (.iload 11, 2) := by decide +kernel
theorem dX11_given_164 : decode cX11_given 164 = .ok (.iadd, 1) := by decide +kernel
theorem dX11_given_165 : decode cX11_given 165 = .ok (.iaload, 1) := by decide +kernel
theorem dX11_given_166 : decode cX11_given 166 = .ok (.isub, 1) := by decide +kernel
theorem dX11_given_167 : decode cX11_given 167 = .ok (.invokestatic 263, 3) := by decide +kernel
theorem dX11_given_170 : decode cX11_given 170 = .ok (.iadd, 1) := by decide +kernel
theorem dX11_given_171 : decode cX11_given 171 = .ok (.istore 10, 2) := by decide +kernel
theorem dX11_given_173 : decode cX11_given 173 = .ok (.iinc 11 (-1), 3) := by decide +kernel
theorem dX11_given_176 : decode cX11_given 176 = .ok (.goto (-73), 3) := by decide +kernel
theorem dX11_given_179 : decode cX11_given 179 = .ok (.iload 9, 2) := by decide +kernel
theorem dX11_given_181 : decode cX11_given 181 = .ok (.iconst 1, 1) := by decide +kernel
theorem dX11_given_182 : decode cX11_given 182 = .ok (.iload_n 3, 1) := by decide +kernel
theorem dX11_given_183 : decode cX11_given 183 = .ok (.ishl, 1) := by decide +kernel
theorem dX11_given_184 : decode cX11_given 184 = .ok (.iconst 1, 1) := by decide +kernel
theorem dX11_given_185 : decode cX11_given 185 = .ok (.isub, 1) := by decide +kernel
theorem dX11_given_186 : decode cX11_given 186 = .ok (.if_icmp .ne 52, 3) := by decide +kernel
theorem dX11_given_189 : decode cX11_given 189 = .ok (.iload 6, 2) := by decide +kernel
theorem dX11_given_191 : decode cX11_given 191 = .ok (.iconst (-1), 1) := by decide +kernel
theorem dX11_given_192 : decode cX11_given 192 = .ok (.if_icmp .eq 13, 3) := by decide +kernel
theorem dX11_given_195 : decode cX11_given 195 = .ok (.iload 10, 2) := by decide +kernel
theorem dX11_given_197 : decode cX11_given 197 = .ok (.iload 6, 2) := by decide +kernel
theorem dX11_given_199 : decode cX11_given 199 = .ok (.if_icmp .lt 6, 3) := by decide +kernel
theorem dX11_given_202 : decode cX11_given 202 = .ok (.goto 36, 3) := by decide +kernel
theorem dX11_given_205 : decode cX11_given 205 = .ok (.iload 10, 2) := by decide +kernel
theorem dX11_given_207 : decode cX11_given 207 = .ok (.istore 6, 2) := by decide +kernel
theorem dX11_given_209 : decode cX11_given 209 = .ok (.iconst 0, 1) := by decide +kernel
theorem dX11_given_210 : decode cX11_given 210 = .ok (.istore 11, 2) := by decide +kernel
theorem dX11_given_212 : decode cX11_given 212 = .ok (.iload 11, 2) := by decide +kernel
theorem dX11_given_214 : decode cX11_given 214 = .ok (.iload_n 3, 1) := by decide +kernel
theorem dX11_given_215 : decode cX11_given 215 = .ok (.if_icmp .ge 23, 3) := by decide +kernel
theorem dX11_given_218 : decode cX11_given 218 = .ok (.aload_n 0, 1) := by decide +kernel
theorem dX11_given_219 : decode cX11_given 219 = .ok (.getfield 73, 3) := by decide +kernel
theorem dX11_given_222 : decode cX11_given 222 = .ok (.iload 11, 2) := by decide +kernel
theorem dX11_given_224 : decode cX11_given 224 = .ok (.aload_n 0, 1) := by decide +kernel
theorem dX11_given_225 : decode cX11_given 225 = .ok (.getfield 70, 3) := by decide +kernel
theorem dX11_given_228 : decode cX11_given 228 = .ok (.iload 11, 2) := by decide +kernel
theorem dX11_given_230 : decode cX11_given 230 = .ok (.iaload, 1) := by decide +kernel
theorem dX11_given_231 : decode cX11_given 231 = .ok (.iastore, 1) := by decide +kernel
theorem dX11_given_232 : decode cX11_given 232 = .ok (.iinc 11 1, 3) := by decide +kernel
theorem dX11_given_235 : decode cX11_given 235 = .ok (.goto (-23), 3) := by decide +kernel
theorem dX11_given_238 : decode cX11_given 238 = .ok (.iinc 7 1, 3) := by decide +kernel
theorem dX11_given_241 : decode cX11_given 241 = .ok (.goto (-160), 3) := by decide +kernel
theorem dX11_given_244 : decode cX11_given 244 = .ok (.iload 4, 2) := by decide +kernel
theorem dX11_given_246 : decode cX11_given 246 = .ok (.iconst (-1), 1) := by decide +kernel
theorem dX11_given_247 : decode cX11_given 247 = .ok (.if_icmp .ne 8, 3) := by decide +kernel
theorem dX11_given_250 : decode cX11_given 250 = .ok (.iload 6, 2) := by decide +kernel
theorem dX11_given_252 : decode cX11_given 252 = .ok (.goto 10, 3) := by decide +kernel
theorem dX11_given_255 : decode cX11_given 255 = .ok (.aload_n 0, 1) := by decide +kernel
theorem dX11_given_256 : decode cX11_given 256 = .ok (.getfield 73, 3) := by decide +kernel
theorem dX11_given_259 : decode cX11_given 259 = .ok (.iload 4, 2) := by decide +kernel
theorem dX11_given_261 : decode cX11_given 261 = .ok (.iaload, 1) := by decide +kernel
theorem dX11_given_262 : decode cX11_given 262 = .ok (.ireturn, 1) := by decide +kernel
set_option maxRecDepth 20000 in
theorem ggX11_firstOf_X11_owner : GoodIn wsX11_firstOf wsX11_owner := goodIn_r _ [6, 7, 8, 9, 10, 5, 11, 12, 13, 14, 15, 16, 17, 18, 19, 20, 21, 22, 23, 24, 25, 26, 27, 28, 29, 30, 31, 32, 33, 34, 35, 36, 37, 38, 39, 40, 41, 42, 43, 44, 45, 46, 47, 48, 49, 50, 51, 52, 53, 54, 55, 56, 57, 58, 59, 60, 61, 62, 63] (by decide +kernel) (by decide +kernel)
set_option maxRecDepth 20000 in
theorem gX11_firstOf_X11_owner : GoodIn wsX11_firstOf (wsV RX11 143 RX11 yX11_owner wsX11_owner) := goodIn_app (goodIn_of _ (by decide +kernel)) ggX11_firstOf_X11_owner
theorem dX11_firstOf_0 : decode cX11_firstOf 0 = .ok (.iconst 0, 1) := by decide +kernel
theorem dX11_firstOf_1 : decode cX11_firstOf 1 = .ok (.istore_n 2, 1) := by decide +kernel
theorem dX11_firstOf_2 : decode cX11_firstOf 2 = .ok (.iload_n 2, 1) := by decide +kernel
theorem dX11_firstOf_3 : decode cX11_firstOf 3 = .ok (.aload_n 0, 1) := by decide +kernel
theorem dX11_firstOf_4 : decode cX11_firstOf 4 = .ok (.getfield 120, 3) := by decide +kernel
theorem dX11_firstOf_7 : decode cX11_firstOf 7 = .ok (.if_icmp .ge 20, 3) := by decide +kernel
theorem dX11_firstOf_10 : decode cX11_firstOf 10 = .ok (.aload_n 0, 1) := by decide +kernel
theorem dX11_firstOf_11 : decode cX11_firstOf 11 = .ok (.iload_n 2, 1) := by decide +kernel
theorem dX11_firstOf_12 : decode cX11_firstOf 12 = .ok (.invokevirtual 143, 3) := by decide +kernel
theorem dX11_firstOf_15 : decode cX11_firstOf 15 = .ok (.iload_n 1, 1) := by decide +kernel
theorem dX11_firstOf_16 : decode cX11_firstOf 16 = .ok (.if_icmp .ne 5, 3) := by decide +kernel
theorem dX11_firstOf_19 : decode cX11_firstOf 19 = .ok (.iload_n 2, 1) := by decide +kernel
theorem dX11_firstOf_20 : decode cX11_firstOf 20 = .ok (.ireturn, 1) := by decide +kernel
theorem dX11_firstOf_21 : decode cX11_firstOf 21 = .ok (.iinc 2 1, 3) := by decide +kernel
theorem dX11_firstOf_24 : decode cX11_firstOf 24 = .ok (.goto (-22), 3) := by decide +kernel
theorem dX11_firstOf_27 : decode cX11_firstOf 27 = .ok (.iconst (-1), 1) := by decide +kernel
theorem dX11_firstOf_28 : decode cX11_firstOf 28 = .ok (.ireturn, 1) := by decide +kernel
set_option maxRecDepth 20000 in
theorem ggX11_turns_X11_firstOf : GoodIn wsX11_turns wsX11_firstOf := goodIn_r _ [9, 10, 11, 12, 13, 8, 14, 15, 16, 17, 18, 19, 20, 21, 22, 23, 24, 34, 35, 36, 37, 38, 39, 40, 41, 42, 43, 44, 45, 46, 47, 48, 49, 50, 51, 52, 53, 54, 55, 56, 57, 58, 59, 60, 61, 62, 63, 64, 65, 66, 67, 68, 69, 70, 71, 72, 73, 74, 75, 76, 77, 78, 79, 80] (by decide +kernel) (by decide +kernel)
set_option maxRecDepth 20000 in
theorem gX11_turns_X11_firstOf : GoodIn wsX11_turns (wsV RX11 266 RX11 yX11_firstOf wsX11_firstOf) := goodIn_app (goodIn_of _ (by decide +kernel)) ggX11_turns_X11_firstOf
set_option maxRecDepth 20000 in
theorem ggX11_turns_X11_wanted : GoodIn wsX11_turns wsX11_wanted := goodIn_r _ [28, 2, 29, 1, 30, 31, 32, 33, 34, 35, 36, 37, 38, 39, 40, 41, 42, 43, 44, 45, 46, 47, 48, 49, 50, 51, 52, 53, 54, 55, 56, 57, 58, 59, 60, 61, 62, 63, 64, 65, 66, 67, 68, 69, 70, 71, 72, 73, 74, 75, 76, 77, 78, 79, 80] (by decide +kernel) (by decide +kernel)
set_option maxRecDepth 20000 in
theorem gX11_turns_X11_wanted : GoodIn wsX11_turns (wsV RX11 269 RX11 yX11_wanted wsX11_wanted) := goodIn_app (goodIn_of _ (by decide +kernel)) ggX11_turns_X11_wanted
theorem dX11_turns_0 : decode cX11_turns 0 = .ok (.iconst 0, 1) := by decide +kernel
theorem dX11_turns_1 : decode cX11_turns 1 = .ok (.istore_n 3, 1) := by decide +kernel
theorem dX11_turns_2 : decode cX11_turns 2 = .ok (.iload_n 3, 1) := by decide +kernel
theorem dX11_turns_3 : decode cX11_turns 3 = .ok (.iload_n 2, 1) := by decide +kernel
theorem dX11_turns_4 : decode cX11_turns 4 = .ok (.if_icmp .ge 41, 3) := by decide +kernel
theorem dX11_turns_7 : decode cX11_turns 7 = .ok (.aload_n 0, 1) := by decide +kernel
theorem dX11_turns_8 : decode cX11_turns 8 = .ok (.getfield 76, 3) := by decide +kernel
theorem dX11_turns_11 : decode cX11_turns 11 = .ok (.iload_n 3, 1) := by decide +kernel
theorem dX11_turns_12 : decode cX11_turns 12 = .ok (.aload_n 0, 1) := by decide +kernel
theorem dX11_turns_13 : decode cX11_turns 13 = .ok (.iload_n 1, 1) := by decide +kernel
theorem dX11_turns_14 : decode cX11_turns 14 = .ok (.iload_n 3, 1) := by decide +kernel
theorem dX11_turns_15 : decode cX11_turns 15 = .ok (.iadd, 1) := by decide +kernel
theorem dX11_turns_16 : decode cX11_turns 16 = .ok (.invokevirtual 266, 3) := by decide +kernel
theorem dX11_turns_19 : decode cX11_turns 19 = .ok (.iastore, 1) := by decide +kernel
theorem dX11_turns_20 : decode cX11_turns 20 = .ok (.aload_n 0, 1) := by decide +kernel
theorem dX11_turns_21 : decode cX11_turns 21 = .ok (.getfield 79, 3) := by decide +kernel
theorem dX11_turns_24 : decode cX11_turns 24 = .ok (.iload_n 3, 1) := by decide +kernel
theorem dX11_turns_25 : decode cX11_turns 25 = .ok (.iconst (-1), 1) := by decide +kernel
theorem dX11_turns_26 : decode cX11_turns 26 = .ok (.iastore, 1) := by decide +kernel
theorem dX11_turns_27 : decode cX11_turns 27 = .ok (.aload_n 0, 1) := by decide +kernel
theorem dX11_turns_28 : decode cX11_turns 28 = .ok (.getfield 76, 3) := by decide +kernel
theorem dX11_turns_31 : decode cX11_turns 31 = .ok (.iload_n 3, 1) := by decide +kernel
theorem dX11_turns_32 : decode cX11_turns 32 = .ok (.iaload, 1) := by decide +kernel
theorem dX11_turns_33 : decode cX11_turns 33 = .ok (.iconst (-1), 1) := by decide +kernel
theorem dX11_turns_34 : decode cX11_turns 34 = .ok (.if_icmp .ne 5, 3) := by decide +kernel
theorem dX11_turns_37 : decode cX11_turns 37 = .ok (.iconst (-1), 1) := by decide +kernel
theorem dX11_turns_38 : decode cX11_turns 38 = .ok (.ireturn, 1) := by decide +kernel
theorem dX11_turns_39 : decode cX11_turns 39 = .ok (.iinc 3 1, 3) := by decide +kernel
theorem dX11_turns_42 : decode cX11_turns 42 = .ok (.goto (-40), 3) := by decide +kernel
theorem dX11_turns_45 : decode cX11_turns 45 = .ok (.iconst 0, 1) := by decide +kernel
theorem dX11_turns_46 : decode cX11_turns 46 = .ok (.istore_n 3, 1) := by decide +kernel
theorem dX11_turns_47 : decode cX11_turns 47 = .ok (.iload_n 2, 1) := by decide +kernel
theorem dX11_turns_48 : decode cX11_turns 48 = .ok (.istore 4, 2) := by decide +kernel
theorem dX11_turns_50 : decode cX11_turns 50 = .ok (.iload 4, 2) := by decide +kernel
theorem dX11_turns_52 : decode cX11_turns 52 = .ok (.ifCond .le 146, 3) := by decide +kernel
theorem dX11_turns_55 : decode cX11_turns 55 = .ok (.iconst 0, 1) := by decide +kernel
theorem dX11_turns_56 : decode cX11_turns 56 = .ok (.istore 5, 2) := by decide +kernel
theorem dX11_turns_58 : decode cX11_turns 58 = .ok (.iload 5, 2) := by decide +kernel
theorem dX11_turns_60 : decode cX11_turns 60 = .ok (.iload_n 2, 1) := by decide +kernel
theorem dX11_turns_61 : decode cX11_turns 61 = .ok (.if_icmp .ge 45, 3) := by decide +kernel
theorem dX11_turns_64 : decode cX11_turns 64 = .ok (.aload_n 0, 1) := by decide +kernel
theorem dX11_turns_65 : decode cX11_turns 65 = .ok (.getfield 82, 3) := by decide +kernel
theorem dX11_turns_68 : decode cX11_turns 68 = .ok (.iload 5, 2) := by decide +kernel
theorem dX11_turns_70 : decode cX11_turns 70 = .ok (.aload_n 0, 1) := by decide +kernel
theorem dX11_turns_71 : decode cX11_turns 71 = .ok (.getfield 79, 3) := by decide +kernel
theorem dX11_turns_74 : decode cX11_turns 74 = .ok (.iload 5, 2) := by decide +kernel
theorem dX11_turns_76 : decode cX11_turns 76 = .ok (.iaload, 1) := by decide +kernel
theorem dX11_turns_77 : decode cX11_turns 77 = .ok (.iconst (-1), 1) := by decide +kernel
theorem dX11_turns_78 : decode cX11_turns 78 = .ok (.if_icmp .ne 20, 3) := by decide +kernel
theorem dX11_turns_81 : decode cX11_turns 81 = .ok (.aload_n 0, 1) := by decide +kernel
theorem dX11_turns_82 : decode cX11_turns 82 = .ok (.aload_n 0, 1) := by decide +kernel
theorem dX11_turns_83 : decode cX11_turns 83 = .ok (.getfield 13, 3) := by decide +kernel
theorem dX11_turns_86 : decode cX11_turns 86 = .ok (.iload_n 1, 1) := by decide +kernel
theorem dX11_turns_87 : decode cX11_turns 87 = .ok (.iload 5, 2) := by decide +kernel
theorem dX11_turns_89 : decode cX11_turns 89 = .ok (.iadd, 1) := by decide +kernel
theorem dX11_turns_90 : decode cX11_turns 90 = .ok (.iaload, 1) := by decide +kernel
theorem dX11_turns_91 : decode cX11_turns 91 = .ok (.iload_n 2, 1) := by decide +kernel
theorem dX11_turns_92 : decode cX11_turns 92 = .ok (.invokevirtual 269, 3) := by decide +kernel
theorem dX11_turns_95 : decode cX11_turns 95 = .ok (.goto 4, 3) := by decide +kernel
theorem dX11_turns_98 : decode cX11_turns 98 = .ok (.iconst (-1), 1) := by decide +kernel
theorem dX11_turns_99 : decode cX11_turns 99 = .ok (.iastore, 1) := by decide +kernel
theorem dX11_turns_100 : decode cX11_turns 100 = .ok (.iinc 5 1, 3) := by decide +kernel
theorem dX11_turns_103 : decode cX11_turns 103 = .ok (.goto (-45), 3) := by decide +kernel
theorem dX11_turns_106 : decode cX11_turns 106 = .ok (.iconst 0, 1) := by decide +kernel
theorem dX11_turns_107 : decode cX11_turns 107 = .ok (.istore 5, 2) := by decide +kernel
theorem dX11_turns_109 : decode cX11_turns 109 = .ok (.aload_n 0, 1) := by decide +kernel
theorem dX11_turns_110 : decode cX11_turns 110 = .ok (.getfield 79, 3) := by decide +kernel
theorem dX11_turns_113 : decode cX11_turns 113 = .ok (.iload 5, 2) := by decide +kernel
theorem dX11_turns_115 : decode cX11_turns 115 = .ok (.iaload, 1) := by decide +kernel
theorem dX11_turns_116 : decode cX11_turns 116 = .ok (.iconst (-1), 1) := by decide +kernel
theorem dX11_turns_117 : decode cX11_turns 117 = .ok (.if_icmp .eq 9, 3) := by decide +kernel
theorem dX11_turns_120 : decode cX11_turns 120 = .ok (.iinc 5 1, 3) := by decide +kernel
theorem dX11_turns_123 : decode cX11_turns 123 = .ok (.goto (-14), 3) := by decide +kernel
theorem dX11_turns_126 : decode cX11_turns 126 = .ok (.iconst 0, 1) := by decide +kernel
theorem dX11_turns_127 : decode cX11_turns 127 = .ok (.istore 6, 2) := by decide +kernel
theorem dX11_turns_129 : decode cX11_turns 129 = .ok (.iload 6, 2) := by decide +kernel
theorem dX11_turns_131 : decode cX11_turns 131 = .ok (.iload_n 2, 1) := by decide +kernel
theorem dX11_turns_132 : decode cX11_turns 132 = .ok (.if_icmp .ge 18, 3) := by decide +kernel
theorem dX11_turns_135 : decode cX11_turns 135 = .ok (.aload_n 0, 1) := by decide +kernel
theorem dX11_turns_136 : decode cX11_turns 136 = .ok (.getfield 82, 3) := by decide +kernel
theorem dX11_turns_139 : decode cX11_turns 139 = .ok (.iload 5, 2) := by decide +kernel
theorem dX11_turns_141 : decode cX11_turns 141 = .ok (.iaload, 1) := by decide +kernel
theorem dX11_turns_142 : decode cX11_turns 142 = .ok (.istore 5, 2) := by decide +kernel
theorem dX11_turns_144 : decode cX11_turns 144 = .ok (.iinc 6 1, 3) := by decide +kernel
theorem dX11_turns_147 : decode cX11_turns 147 = .ok (.goto (-18), 3) := by decide +kernel
theorem dX11_turns_150 : decode cX11_turns 150 = .ok (.iload 5, 2) := by decide +kernel
theorem dX11_turns_152 : decode cX11_turns 152 = .ok (.istore 6, 2) := by decide +kernel
theorem dX11_turns_154 : decode cX11_turns 154 = .ok (.aload_n 0, 1) := by decide +kernel
theorem dX11_turns_155 : decode cX11_turns 155 = .ok (.getfield 79, 3) := by decide +kernel
theorem dX11_turns_158 : decode cX11_turns 158 = .ok (.iload 6, 2) := by decide +kernel
theorem dX11_turns_160 : decode cX11_turns 160 = .ok (.aload_n 0, 1) := by decide +kernel
theorem dX11_turns_161 : decode cX11_turns 161 = .ok (.getfield 76, 3) := by decide +kernel
theorem dX11_turns_164 : decode cX11_turns 164 = .ok (.aload_n 0, 1) := by decide +kernel
theorem dX11_turns_165 : decode cX11_turns 165 = .ok (.getfield 82, 3) := by decide +kernel
theorem dX11_turns_168 : decode cX11_turns 168 = .ok (.iload 6, 2) := by decide +kernel
theorem dX11_turns_170 : decode cX11_turns 170 = .ok (.iaload, 1) := by decide +kernel
theorem dX11_turns_171 : decode cX11_turns 171 = .ok (.iaload, 1) := by decide +kernel
theorem dX11_turns_172 : decode cX11_turns 172 = .ok (.iastore, 1) := by decide +kernel
theorem dX11_turns_173 : decode cX11_turns 173 = .ok (.iinc 4 (-1), 3) := by decide +kernel
theorem dX11_turns_176 : decode cX11_turns 176 = .ok (.aload_n 0, 1) := by decide +kernel
theorem dX11_turns_177 : decode cX11_turns 177 = .ok (.getfield 82, 3) := by decide +kernel
theorem dX11_turns_180 : decode cX11_turns 180 = .ok (.iload 6, 2) := by decide +kernel
theorem dX11_turns_182 : decode cX11_turns 182 = .ok (.iaload, 1) := by decide +kernel
theorem dX11_turns_183 : decode cX11_turns 183 = .ok (.istore 6, 2) := by decide +kernel
theorem dX11_turns_185 : decode cX11_turns 185 = .ok (.iload 6, 2) := by decide +kernel
theorem dX11_turns_187 : decode cX11_turns 187 = .ok (.iload 5, 2) := by decide +kernel
theorem dX11_turns_189 : decode cX11_turns 189 = .ok (.if_icmp .ne (-35), 3) := by decide +kernel
theorem dX11_turns_192 : decode cX11_turns 192 = .ok (.iinc 3 1, 3) := by decide +kernel
theorem dX11_turns_195 : decode cX11_turns 195 = .ok (.goto (-145), 3) := by decide +kernel
theorem dX11_turns_198 : decode cX11_turns 198 = .ok (.iload_n 3, 1) := by decide +kernel
theorem dX11_turns_199 : decode cX11_turns 199 = .ok (.ireturn, 1) := by decide +kernel
theorem dX11_wanted_0 : decode cX11_wanted 0 = .ok (.iconst (-1), 1) := by decide +kernel
theorem dX11_wanted_1 : decode cX11_wanted 1 = .ok (.istore_n 3, 1) := by decide +kernel
theorem dX11_wanted_2 : decode cX11_wanted 2 = .ok (.iconst 0, 1) := by decide +kernel
theorem dX11_wanted_3 : decode cX11_wanted 3 = .ok (.istore 4, 2) := by decide +kernel
theorem dX11_wanted_5 : decode cX11_wanted 5 = .ok (.iload 4, 2) := by decide +kernel
theorem dX11_wanted_7 : decode cX11_wanted 7 = .ok (.iload_n 2, 1) := by decide +kernel
theorem dX11_wanted_8 : decode cX11_wanted 8 = .ok (.if_icmp .ge 97, 3) := by decide +kernel
theorem dX11_wanted_11 : decode cX11_wanted 11 = .ok (.aload_n 0, 1) := by decide +kernel
theorem dX11_wanted_12 : decode cX11_wanted 12 = .ok (.getfield 79, 3) := by decide +kernel
theorem dX11_wanted_15 : decode cX11_wanted 15 = .ok (.iload 4, 2) := by decide +kernel
theorem dX11_wanted_17 : decode cX11_wanted 17 = .ok (.iaload, 1) := by decide +kernel
theorem dX11_wanted_18 : decode cX11_wanted 18 = .ok (.iconst (-1), 1) := by decide +kernel
theorem dX11_wanted_19 : decode cX11_wanted 19 = .ok (.if_icmp .eq 6, 3) := by decide +kernel
theorem dX11_wanted_22 : decode cX11_wanted 22 = .ok (.goto 77, 3) := by decide +kernel
theorem dX11_wanted_25 : decode cX11_wanted 25 = .ok (.iload_n 3, 1) := by decide +kernel
theorem dX11_wanted_26 : decode cX11_wanted 26 = .ok (.iconst (-1), 1) := by decide +kernel
theorem dX11_wanted_27 : decode cX11_wanted 27 = .ok (.if_icmp .ne 7, 3) := by decide +kernel
theorem dX11_wanted_30 : decode cX11_wanted 30 = .ok (.iconst (-1), 1) := by decide +kernel
theorem dX11_wanted_31 : decode cX11_wanted 31 = .ok (.goto 37, 3) := by decide +kernel
theorem dX11_wanted_34 : decode cX11_wanted 34 = .ok (.aload_n 0, 1) := by decide +kernel
theorem dX11_wanted_35 : decode cX11_wanted 35 = .ok (.getfield 20, 3) := by decide +kernel
theorem dX11_wanted_38 : decode cX11_wanted 38 = .ok (.aload_n 0, 1) := by decide +kernel
theorem dX11_wanted_39 : decode cX11_wanted 39 = .ok (.getfield 76, 3) := by decide +kernel
theorem dX11_wanted_42 : decode cX11_wanted 42 = .ok (.iload 4, 2) := by decide +kernel
theorem dX11_wanted_44 : decode cX11_wanted 44 = .ok (.iaload, 1) := by decide +kernel
theorem dX11_wanted_45 : decode cX11_wanted 45 = .ok (.iaload, 1) := by decide +kernel
theorem dX11_wanted_46 : decode cX11_wanted 46 = .ok (.iload_n 1, 1) := by decide +kernel
theorem dX11_wanted_47 : decode cX11_wanted 47 = .ok (.isub, 1) := by decide +kernel
theorem dX11_wanted_48 : decode cX11_wanted 48 = .ok (.invokestatic 263, 3) := by decide +kernel
theorem dX11_wanted_51 : decode cX11_wanted 51 = .ok (.aload_n 0, 1) := by decide +kernel
theorem dX11_wanted_52 : decode cX11_wanted 52 = .ok (.getfield 20, 3) := by decide +kernel
theorem dX11_wanted_55 : decode cX11_wanted 55 = .ok (.aload_n 0, 1) := by decide +kernel
theorem dX11_wanted_56 : decode cX11_wanted 56 = .ok (.getfield 76, 3) := by decide +kernel
theorem dX11_wanted_59 : decode cX11_wanted 59 = .ok (.iload_n 3, 1) := by decide +kernel
theorem dX11_wanted_60 : decode cX11_wanted 60 = .ok (.iaload, 1) := by decide +kernel
theorem dX11_wanted_61 : decode cX11_wanted 61 = .ok (.iaload, 1) := by decide +kernel
theorem dX11_wanted_62 : decode cX11_wanted 62 = .ok (.iload_n 1, 1) := by decide +kernel
theorem dX11_wanted_63 : decode cX11_wanted 63 = .ok (.isub, 1) := by decide +kernel
theorem dX11_wanted_64 : decode cX11_wanted 64 = .ok (.invokestatic 263, 3) := by decide +kernel
theorem dX11_wanted_67 : decode cX11_wanted 67 = .ok (.isub, 1) := by decide +kernel
theorem dX11_wanted_68 : decode cX11_wanted 68 = .ok (.istore 5, 2) := by decide +kernel
theorem dX11_wanted_70 : decode cX11_wanted 70 = .ok (.iload 5, 2) := by decide +kernel
theorem dX11_wanted_72 : decode cX11_wanted 72 = .ok (.ifCond .lt 24, 3) := by decide +kernel
theorem dX11_wanted_75 : decode cX11_wanted 75 = .ok (.iload 5, 2) := by decide +kernel
theorem dX11_wanted_77 : decode cX11_wanted 77 = .ok (.ifCond .ne 22, 3) := by decide +kernel
theorem dX11_wanted_80 : decode cX11_wanted 80 = .ok (.aload_n 0, 1) := by decide +kernel
theorem dX11_wanted_81 : decode cX11_wanted 81 = .ok (.getfield 76, 3) := by decide +kernel
theorem dX11_wanted_84 : decode cX11_wanted 84 = .ok (.iload 4, 2) := by decide +kernel
theorem dX11_wanted_86 : decode cX11_wanted 86 = .ok (.iaload, 1) := by decide +kernel
theorem dX11_wanted_87 : decode cX11_wanted 87 = .ok (.aload_n 0, 1) := by decide +kernel
theorem dX11_wanted_88 : decode cX11_wanted 88 = .ok (.getfield 76, 3) := by decide +kernel
theorem dX11_wanted_91 : decode cX11_wanted 91 = .ok (.iload_n 3, 1) := by decide +kernel
theorem dX11_wanted_92 : decode cX11_wanted 92 = .ok (.iaload, 1) := by decide +kernel
theorem dX11_wanted_93 : decode cX11_wanted 93 = .ok (.if_icmp .ge 6, 3) := by decide +kernel
theorem dX11_wanted_96 : decode cX11_wanted 96 = .ok (.iload 4, 2) := by decide +kernel
theorem dX11_wanted_98 : decode cX11_wanted 98 = .ok (.istore_n 3, 1) := by decide +kernel
theorem dX11_wanted_99 : decode cX11_wanted 99 = .ok (.iinc 4 1, 3) := by decide +kernel
theorem dX11_wanted_102 : decode cX11_wanted 102 = .ok (.goto (-97), 3) := by decide +kernel
theorem dX11_wanted_105 : decode cX11_wanted 105 = .ok (.iload_n 3, 1) := by decide +kernel
theorem dX11_wanted_106 : decode cX11_wanted 106 = .ok (.ireturn, 1) := by decide +kernel
set_option maxRecDepth 20000 in
theorem ggX11_isRow_X11_isIn : GoodIn wsX11_isRow wsX11_isIn := goodIn_r _ [5] (by decide +kernel) (by decide +kernel)
set_option maxRecDepth 20000 in
theorem gX11_isRow_X11_isIn : GoodIn wsX11_isRow (va_wsS RX11 116 yX11_isIn wsX11_isIn) := goodIn_app (goodIn_of _ (by decide +kernel)) ggX11_isRow_X11_isIn
theorem dX11_isRow_0 : decode cX11_isRow 0 = .ok (.iload_n 2, 1) := by decide +kernel
theorem dX11_isRow_1 : decode cX11_isRow 1 = .ok (.iconst 2, 1) := by decide +kernel
theorem dX11_isRow_2 : decode cX11_isRow 2 = .ok (.bipush 8, 2) := by decide +kernel
theorem dX11_isRow_4 : decode cX11_isRow 4 = .ok (.invokestatic 116, 3) := by decide +kernel
theorem dX11_isRow_7 : decode cX11_isRow 7 = .ok (.ifCond .eq 21, 3) := by decide +kernel
theorem dX11_isRow_10 : decode cX11_isRow 10 = .ok (.iload_n 1, 1) := by decide +kernel
theorem dX11_isRow_11 : decode cX11_isRow 11 = .ok (.iconst 0, 1) := by decide +kernel
theorem dX11_isRow_12 : decode cX11_isRow 12 = .ok (.aload_n 0, 1) := by decide +kernel
theorem dX11_isRow_13 : decode cX11_isRow 13 = .ok (.getfield 113, 3) := by decide +kernel
theorem dX11_isRow_16 : decode cX11_isRow 16 = .ok (.iload_n 2, 1) := by decide +kernel
theorem dX11_isRow_17 : decode cX11_isRow 17 = .ok (.isub, 1) := by decide +kernel
theorem dX11_isRow_18 : decode cX11_isRow 18 = .ok (.invokestatic 116, 3) := by decide +kernel
theorem dX11_isRow_21 : decode cX11_isRow 21 = .ok (.ifCond .eq 7, 3) := by decide +kernel
theorem dX11_isRow_24 : decode cX11_isRow 24 = .ok (.iconst 1, 1) := by decide +kernel
theorem dX11_isRow_25 : decode cX11_isRow 25 = .ok (.goto 4, 3) := by decide +kernel
theorem dX11_isRow_28 : decode cX11_isRow 28 = .ok (.iconst 0, 1) := by decide +kernel
theorem dX11_isRow_29 : decode cX11_isRow 29 = .ok (.ireturn, 1) := by decide +kernel
set_option maxRecDepth 20000 in
theorem ggX11_rings_X11_isRow : GoodIn wsX11_rings wsX11_isRow := goodIn_r _ [6, 7, 8, 9, 5, 10, 46, 47, 48, 49, 50, 51, 52, 53, 54, 55, 56, 57, 58, 59, 60, 61, 62, 63, 64, 65, 66, 67, 68, 69, 70, 71, 72, 73, 74, 75, 76, 77, 78, 79, 80, 81, 82, 83, 84, 85, 86, 87, 88, 89, 90, 91, 92] (by decide +kernel) (by decide +kernel)
set_option maxRecDepth 20000 in
theorem gX11_rings_X11_isRow : GoodIn wsX11_rings (wsV RX11 272 RX11 yX11_isRow wsX11_isRow) := goodIn_app (goodIn_of _ (by decide +kernel)) ggX11_rings_X11_isRow
set_option maxRecDepth 20000 in
theorem ggX11_rings_X11_isIn : GoodIn wsX11_rings wsX11_isIn := goodIn_r _ [10] (by decide +kernel) (by decide +kernel)
set_option maxRecDepth 20000 in
theorem gX11_rings_X11_isIn : GoodIn wsX11_rings (va_wsS RX11 116 yX11_isIn wsX11_isIn) := goodIn_app (goodIn_of _ (by decide +kernel)) ggX11_rings_X11_isIn
set_option maxRecDepth 20000 in
theorem ggX11_rings_X11_turns : GoodIn wsX11_rings wsX11_turns := goodIn_r _ [14, 15, 1, 16, 17, 18, 19, 20, 5, 21, 22, 23, 24, 25, 26, 27, 28, 29, 30, 31, 32, 33, 34, 35, 36, 37, 38, 39, 40, 41, 42, 43, 44, 45, 46, 47, 48, 49, 50, 51, 52, 53, 54, 55, 56, 57, 58, 59, 60, 61, 62, 63, 64, 65, 66, 67, 68, 69, 70, 71, 72, 73, 74, 75, 76, 77, 78, 79, 80, 81, 82, 83, 84, 85, 86, 87, 88, 89, 90, 91, 92] (by decide +kernel) (by decide +kernel)
set_option maxRecDepth 20000 in
theorem gX11_rings_X11_turns : GoodIn wsX11_rings (wsV RX11 275 RX11 yX11_turns wsX11_turns) := goodIn_app (goodIn_of _ (by decide +kernel)) ggX11_rings_X11_turns
theorem dX11_rings_0 : decode cX11_rings 0 = .ok (.aload_n 0, 1) := by decide +kernel
theorem dX11_rings_1 : decode cX11_rings 1 = .ok (.iload_n 1, 1) := by decide +kernel
theorem dX11_rings_2 : decode cX11_rings 2 = .ok (.iload_n 2, 1) := by decide +kernel
theorem dX11_rings_3 : decode cX11_rings 3 = .ok (.invokevirtual 272, 3) := by decide +kernel
theorem dX11_rings_6 : decode cX11_rings 6 = .ok (.ifCond .eq 14, 3) := by decide +kernel
theorem dX11_rings_9 : decode cX11_rings 9 = .ok (.iload_n 3, 1) := by decide +kernel
theorem dX11_rings_10 : decode cX11_rings 10 = .ok (.iconst (-1), 1) := by decide +kernel
theorem dX11_rings_11 : decode cX11_rings 11 = .ok (.iload_n 2, 1) := by decide +kernel
theorem dX11_rings_12 : decode cX11_rings 12 = .ok (.iconst 1, 1) := by decide +kernel
theorem dX11_rings_13 : decode cX11_rings 13 = .ok (.isub, 1) := by decide +kernel
theorem dX11_rings_14 : decode cX11_rings 14 = .ok (.invokestatic 116, 3) := by decide +kernel
theorem dX11_rings_17 : decode cX11_rings 17 = .ok (.ifCond .ne 5, 3) := by decide +kernel
theorem dX11_rings_20 : decode cX11_rings 20 = .ok (.iconst (-1), 1) := by decide +kernel
theorem dX11_rings_21 : decode cX11_rings 21 = .ok (.ireturn, 1) := by decide +kernel
theorem dX11_rings_22 : decode cX11_rings 22 = .ok (.aload_n 0, 1) := by decide +kernel
theorem dX11_rings_23 : decode cX11_rings 23 = .ok (.iload_n 1, 1) := by decide +kernel
theorem dX11_rings_24 : decode cX11_rings 24 = .ok (.iload_n 2, 1) := by decide +kernel
theorem dX11_rings_25 : decode cX11_rings 25 = .ok (.invokevirtual 275, 3) := by decide +kernel
theorem dX11_rings_28 : decode cX11_rings 28 = .ok (.istore 4, 2) := by decide +kernel
theorem dX11_rings_30 : decode cX11_rings 30 = .ok (.iload 4, 2) := by decide +kernel
theorem dX11_rings_32 : decode cX11_rings 32 = .ok (.iconst (-1), 1) := by decide +kernel
theorem dX11_rings_33 : decode cX11_rings 33 = .ok (.if_icmp .eq 8, 3) := by decide +kernel
theorem dX11_rings_36 : decode cX11_rings 36 = .ok (.iload_n 3, 1) := by decide +kernel
theorem dX11_rings_37 : decode cX11_rings 37 = .ok (.iconst (-1), 1) := by decide +kernel
theorem dX11_rings_38 : decode cX11_rings 38 = .ok (.if_icmp .ne 8, 3) := by decide +kernel
theorem dX11_rings_41 : decode cX11_rings 41 = .ok (.iload 4, 2) := by decide +kernel
theorem dX11_rings_43 : decode cX11_rings 43 = .ok (.goto 9, 3) := by decide +kernel
theorem dX11_rings_46 : decode cX11_rings 46 = .ok (.aload_n 0, 1) := by decide +kernel
theorem dX11_rings_47 : decode cX11_rings 47 = .ok (.getfield 79, 3) := by decide +kernel
theorem dX11_rings_50 : decode cX11_rings 50 = .ok (.iload_n 3, 1) := by decide +kernel
theorem dX11_rings_51 : decode cX11_rings 51 = .ok (.iaload, 1) := by decide +kernel
theorem dX11_rings_52 : decode cX11_rings 52 = .ok (.ireturn, 1) := by decide +kernel
set_option maxRecDepth 20000 in
theorem ggX11_swap_X11_isRow : GoodIn wsX11_swap wsX11_isRow := goodIn_r _ [9, 10, 11, 12, 8, 13, 53, 54, 55, 56, 57, 58, 59, 60, 61, 62, 63, 64, 65, 66, 67, 68, 69, 70, 71, 72, 73, 74, 75, 76, 77, 78, 79, 80, 81, 82, 83, 84, 85, 86, 87, 88, 89, 90, 91, 92, 93, 94, 95, 96, 97, 98, 99] (by decide +kernel) (by decide +kernel)
set_option maxRecDepth 20000 in
theorem gX11_swap_X11_isRow : GoodIn wsX11_swap (wsV RX11 272 RX11 yX11_isRow wsX11_isRow) := goodIn_app (goodIn_of _ (by decide +kernel)) ggX11_swap_X11_isRow
set_option maxRecDepth 20000 in
theorem ggX11_swap_X11_turns : GoodIn wsX11_swap wsX11_turns := goodIn_r _ [17, 2, 1, 18, 19, 20, 21, 22, 8, 23, 4, 24, 25, 26, 27, 28, 29, 30, 31, 32, 33, 3, 34, 35, 36, 37, 38, 39, 40, 41, 42, 43, 44, 45, 53, 54, 55, 56, 57, 58, 59, 60, 61, 62, 63, 64, 65, 66, 67, 68, 69, 70, 71, 72, 73, 74, 75, 76, 77, 78, 79, 80, 81, 82, 83, 84, 85, 86, 87, 88, 89, 90, 91, 92, 93, 94, 95, 96, 97, 98, 99] (by decide +kernel) (by decide +kernel)
set_option maxRecDepth 20000 in
theorem gX11_swap_X11_turns : GoodIn wsX11_swap (wsV RX11 275 RX11 yX11_turns wsX11_turns) := goodIn_app (goodIn_of _ (by decide +kernel)) ggX11_swap_X11_turns
set_option maxRecDepth 20000 in
theorem ggX11_swap_X11_one : GoodIn wsX11_swap wsX11_one := goodIn_r _ [48] (by decide +kernel) (by decide +kernel)
set_option maxRecDepth 20000 in
theorem gX11_swap_X11_one : GoodIn wsX11_swap (va_wsS RX11 209 yX11_one wsX11_one) := goodIn_app (goodIn_of _ (by decide +kernel)) ggX11_swap_X11_one
set_option maxRecDepth 20000 in
theorem ggX11_swap_X11_goes : GoodIn wsX11_swap wsX11_goes := goodIn_r _ [52, 34, 3, 36, 35, 28, 53, 54, 55, 56, 57, 58, 59, 60, 61, 62, 63, 64, 65, 66, 67, 68, 69, 70, 71, 72, 73, 74, 75, 76, 77, 78, 79, 80, 81, 82, 83, 84, 85, 86, 87, 88, 89, 90, 91, 92, 93, 94, 95, 96, 97, 98, 99] (by decide +kernel) (by decide +kernel)
set_option maxRecDepth 20000 in
theorem gX11_swap_X11_goes : GoodIn wsX11_swap (wsV RX11 147 RX11 yX11_goes wsX11_goes) := goodIn_app (goodIn_of _ (by decide +kernel)) ggX11_swap_X11_goes
theorem dX11_swap_0 : decode cX11_swap 0 = .ok (.aload_n 0, 1) := by decide +kernel
theorem dX11_swap_1 : decode cX11_swap 1 = .ok (.iload_n 1, 1) := by decide +kernel
theorem dX11_swap_2 : decode cX11_swap 2 = .ok (.iload_n 2, 1) := by decide +kernel
theorem dX11_swap_3 : decode cX11_swap 3 = .ok (.invokevirtual 272, 3) := by decide +kernel
theorem dX11_swap_6 : decode cX11_swap 6 = .ok (.ifCond .eq 13, 3) := by decide +kernel
theorem dX11_swap_9 : decode cX11_swap 9 = .ok (.aload_n 0, 1) := by decide +kernel
theorem dX11_swap_10 : decode cX11_swap 10 = .ok (.iload_n 1, 1) := by decide +kernel
theorem dX11_swap_11 : decode cX11_swap 11 = .ok (.iload_n 2, 1) := by decide +kernel
theorem dX11_swap_12 : decode cX11_swap 12 = .ok (.invokevirtual 275, 3) := by decide +kernel
theorem dX11_swap_15 : decode cX11_swap 15 = .ok (.iconst (-1), 1) := by decide +kernel
theorem dX11_swap_16 : decode cX11_swap 16 = .ok (.if_icmp .ne 5, 3) := by decide +kernel
theorem dX11_swap_19 : decode cX11_swap 19 = .ok (.iconst (-1), 1) := by decide +kernel
theorem dX11_swap_20 : decode cX11_swap 20 = .ok (.ireturn, 1) := by decide +kernel
theorem dX11_swap_21 : decode cX11_swap 21 = .ok (.iconst 0, 1) := by decide +kernel
theorem dX11_swap_22 : decode cX11_swap 22 = .ok (.istore_n 3, 1) := by decide +kernel
theorem dX11_swap_23 : decode cX11_swap 23 = .ok (.iconst 0, 1) := by decide +kernel
theorem dX11_swap_24 : decode cX11_swap 24 = .ok (.istore 4, 2) := by decide +kernel
theorem dX11_swap_26 : decode cX11_swap 26 = .ok (.iload 4, 2) := by decide +kernel
theorem dX11_swap_28 : decode cX11_swap 28 = .ok (.iload_n 2, 1) := by decide +kernel
theorem dX11_swap_29 : decode cX11_swap 29 = .ok (.if_icmp .ge 37, 3) := by decide +kernel
theorem dX11_swap_32 : decode cX11_swap 32 = .ok (.iload_n 3, 1) := by decide +kernel
theorem dX11_swap_33 : decode cX11_swap 33 = .ok (.aload_n 0, 1) := by decide +kernel
theorem dX11_swap_34 : decode cX11_swap 34 = .ok (.getfield 79, 3) := by decide +kernel
theorem dX11_swap_37 : decode cX11_swap 37 = .ok (.iload 4, 2) := by decide +kernel
theorem dX11_swap_39 : decode cX11_swap 39 = .ok (.iaload, 1) := by decide +kernel
theorem dX11_swap_40 : decode cX11_swap 40 = .ok (.aload_n 0, 1) := by decide +kernel
theorem dX11_swap_41 : decode cX11_swap 41 = .ok (.getfield 76, 3) := by decide +kernel
theorem dX11_swap_44 : decode cX11_swap 44 = .ok (.iload 4, 2) := by decide +kernel
theorem dX11_swap_46 : decode cX11_swap 46 = .ok (.iaload, 1) := by decide +kernel
theorem dX11_swap_47 : decode cX11_swap 47 = .ok (.if_icmp .eq 7, 3) := by decide +kernel
theorem dX11_swap_50 : decode cX11_swap 50 = .ok (.iconst 1, 1) := by decide +kernel
theorem dX11_swap_51 : decode cX11_swap 51 = .ok (.goto 4, 3) := by decide +kernel
theorem dX11_swap_54 : decode cX11_swap 54 = .ok (.iconst 0, 1) := by decide +kernel
theorem dX11_swap_55 : decode cX11_swap 55 = .ok (.invokestatic 209, 3) := by decide +kernel
theorem dX11_swap_58 : decode cX11_swap 58 = .ok (.iadd, 1) := by decide +kernel
theorem dX11_swap_59 : decode cX11_swap 59 = .ok (.istore_n 3, 1) := by decide +kernel
theorem dX11_swap_60 : decode cX11_swap 60 = .ok (.iinc 4 1, 3) := by decide +kernel
theorem dX11_swap_63 : decode cX11_swap 63 = .ok (.goto (-37), 3) := by decide +kernel
theorem dX11_swap_66 : decode cX11_swap 66 = .ok (.aload_n 0, 1) := by decide +kernel
theorem dX11_swap_67 : decode cX11_swap 67 = .ok (.getfield 133, 3) := by decide +kernel
theorem dX11_swap_70 : decode cX11_swap 70 = .ok (.iload_n 3, 1) := by decide +kernel
theorem dX11_swap_71 : decode cX11_swap 71 = .ok (.iadd, 1) := by decide +kernel
theorem dX11_swap_72 : decode cX11_swap 72 = .ok (.sipush 200, 3) := by decide +kernel
theorem dX11_swap_75 : decode cX11_swap 75 = .ok (.if_icmp .le 5, 3) := by decide +kernel
theorem dX11_swap_78 : decode cX11_swap 78 = .ok (.iconst (-1), 1) := by decide +kernel
theorem dX11_swap_79 : decode cX11_swap 79 = .ok (.ireturn, 1) := by decide +kernel
theorem dX11_swap_80 : decode cX11_swap 80 = .ok (.iconst 0, 1) := by decide +kernel
theorem dX11_swap_81 : decode cX11_swap 81 = .ok (.istore 4, 2) := by decide +kernel
theorem dX11_swap_83 : decode cX11_swap 83 = .ok (.iload 4, 2) := by decide +kernel
theorem dX11_swap_85 : decode cX11_swap 85 = .ok (.aload_n 0, 1) := by decide +kernel
theorem dX11_swap_86 : decode cX11_swap 86 = .ok (.getfield 120, 3) := by decide +kernel
theorem dX11_swap_89 : decode cX11_swap 89 = .ok (.if_icmp .ge 58, 3) := by decide +kernel
theorem dX11_swap_92 : decode cX11_swap 92 = .ok (.iconst 0, 1) := by decide +kernel
theorem dX11_swap_93 : decode cX11_swap 93 = .ok (.istore 5, 2) := by decide +kernel
theorem dX11_swap_95 : decode cX11_swap 95 = .ok (.iload 5, 2) := by decide +kernel
theorem dX11_swap_97 : decode cX11_swap 97 = .ok (.iload_n 2, 1) := by decide +kernel
theorem dX11_swap_98 : decode cX11_swap 98 = .ok (.if_icmp .ge 43, 3) := by decide +kernel
theorem dX11_swap_101 : decode cX11_swap 101 = .ok (.aload_n 0, 1) := by decide +kernel
theorem dX11_swap_102 : decode cX11_swap 102 = .ok (.getfield 79, 3) := by decide +kernel
theorem dX11_swap_105 : decode cX11_swap 105 = .ok (.iload 5, 2) := by decide +kernel
theorem dX11_swap_107 : decode cX11_swap 107 = .ok (.iaload, 1) := by decide +kernel
theorem dX11_swap_108 : decode cX11_swap 108 = .ok (.iload 4, 2) := by decide +kernel
theorem dX11_swap_110 : decode cX11_swap 110 = .ok (.if_icmp .ne 25, 3) := by decide +kernel
theorem dX11_swap_113 : decode cX11_swap 113 = .ok (.aload_n 0, 1) := by decide +kernel
theorem dX11_swap_114 : decode cX11_swap 114 = .ok (.getfield 76, 3) := by decide +kernel
theorem dX11_swap_117 : decode cX11_swap 117 = .ok (.iload 5, 2) := by decide +kernel
theorem dX11_swap_119 : decode cX11_swap 119 = .ok (.iaload, 1) := by decide +kernel
theorem dX11_swap_120 : decode cX11_swap 120 = .ok (.iload 4, 2) := by decide +kernel
theorem dX11_swap_122 : decode cX11_swap 122 = .ok (.if_icmp .eq 13, 3) := by decide +kernel
theorem dX11_swap_125 : decode cX11_swap 125 = .ok (.aload_n 0, 1) := by decide +kernel
theorem dX11_swap_126 : decode cX11_swap 126 = .ok (.iload 4, 2) := by decide +kernel
theorem dX11_swap_128 : decode cX11_swap 128 = .ok (.iload_n 1, 1) := by decide +kernel
theorem dX11_swap_129 : decode cX11_swap 129 = .ok (.iload 5, 2) := by decide +kernel
theorem dX11_swap_131 : decode cX11_swap 131 = .ok (.iadd, 1) := by decide +kernel
theorem dX11_swap_132 : decode cX11_swap 132 = .ok (.invokevirtual 147, 3) := by decide +kernel
theorem dX11_swap_135 : decode cX11_swap 135 = .ok (.iinc 5 1, 3) := by decide +kernel
theorem dX11_swap_138 : decode cX11_swap 138 = .ok (.goto (-43), 3) := by decide +kernel
theorem dX11_swap_141 : decode cX11_swap 141 = .ok (.iinc 4 1, 3) := by decide +kernel
theorem dX11_swap_144 : decode cX11_swap 144 = .ok (.goto (-61), 3) := by decide +kernel
theorem dX11_swap_147 : decode cX11_swap 147 = .ok (.iload_n 3, 1) := by decide +kernel
theorem dX11_swap_148 : decode cX11_swap 148 = .ok (.ireturn, 1) := by decide +kernel
set_option maxRecDepth 20000 in
theorem ggX11_sell_X11_isField : GoodIn wsX11_sell wsX11_isField := goodIn_r _ [13, 14, 15, 16, 12, 17, 29, 30, 31, 32, 33, 34, 35, 36, 37, 38, 39, 40, 41, 42, 43, 44, 45, 46, 47, 48, 49, 50, 51, 52, 53, 54, 55, 56, 57, 58, 59, 60, 61, 62, 63, 64, 65, 66, 67, 68, 69, 70, 71, 72, 73, 74, 75] (by decide +kernel) (by decide +kernel)
set_option maxRecDepth 20000 in
theorem gX11_sell_X11_isField : GoodIn wsX11_sell (wsV RX11 140 RX11 yX11_isField wsX11_isField) := goodIn_app (goodIn_of _ (by decide +kernel)) ggX11_sell_X11_isField
set_option maxRecDepth 20000 in
theorem ggX11_sell_X11_isPerson : GoodIn wsX11_sell wsX11_isPerson := goodIn_r _ [21, 22, 15, 16, 12, 17, 29, 30, 31, 32, 33, 34, 35, 36, 37, 38, 39, 40, 41, 42, 43, 44, 45, 46, 47, 48, 49, 50, 51, 52, 53, 54, 55, 56, 57, 58, 59, 60, 61, 62, 63, 64, 65, 66, 67, 68, 69, 70, 71, 72, 73, 74, 75] (by decide +kernel) (by decide +kernel)
set_option maxRecDepth 20000 in
theorem gX11_sell_X11_isPerson : GoodIn wsX11_sell (wsV RX11 123 RX11 yX11_isPerson wsX11_isPerson) := goodIn_app (goodIn_of _ (by decide +kernel)) ggX11_sell_X11_isPerson
set_option maxRecDepth 20000 in
theorem ggX11_sell_X11_standard : GoodIn wsX11_sell wsX11_standard := goodIn_r _ [26, 27, 5, 28, 29, 30, 31, 32, 33, 34, 35, 36, 37, 38, 39, 40, 41, 42, 43, 44, 45, 46, 47, 48, 49, 50, 51, 52, 53, 54, 55, 56, 57, 58, 59, 60, 61, 62, 63, 64, 65, 66, 67, 68, 69, 70, 71, 72, 73, 74, 75] (by decide +kernel) (by decide +kernel)
set_option maxRecDepth 20000 in
theorem gX11_sell_X11_standard : GoodIn wsX11_sell (wsV RX11 213 RX11 yX11_standard wsX11_standard) := goodIn_app (goodIn_of _ (by decide +kernel)) ggX11_sell_X11_standard
theorem dX11_sell_0 : decode cX11_sell 0 = .ok (.aload_n 0, 1) := by decide +kernel
theorem dX11_sell_1 : decode cX11_sell 1 = .ok (.iload_n 1, 1) := by decide +kernel
theorem dX11_sell_2 : decode cX11_sell 2 = .ok (.invokevirtual 140, 3) := by decide +kernel
theorem dX11_sell_5 : decode cX11_sell 5 = .ok (.ifCond .eq 20, 3) := by decide +kernel
theorem dX11_sell_8 : decode cX11_sell 8 = .ok (.aload_n 0, 1) := by decide +kernel
theorem dX11_sell_9 : decode cX11_sell 9 = .ok (.iload_n 2, 1) := by decide +kernel
theorem dX11_sell_10 : decode cX11_sell 10 = .ok (.invokevirtual 123, 3) := by decide +kernel
theorem dX11_sell_13 : decode cX11_sell 13 = .ok (.ifCond .eq 12, 3) := by decide +kernel
theorem dX11_sell_16 : decode cX11_sell 16 = .ok (.aload_n 0, 1) := by decide +kernel
theorem dX11_sell_17 : decode cX11_sell 17 = .ok (.getfield 278, 3) := by decide +kernel
theorem dX11_sell_20 : decode cX11_sell 20 = .ok (.bipush 20, 2) := by decide +kernel
theorem dX11_sell_22 : decode cX11_sell 22 = .ok (.if_icmp .ne 5, 3) := by decide +kernel
theorem dX11_sell_25 : decode cX11_sell 25 = .ok (.iconst (-1), 1) := by decide +kernel
theorem dX11_sell_26 : decode cX11_sell 26 = .ok (.ireturn, 1) := by decide +kernel
theorem dX11_sell_27 : decode cX11_sell 27 = .ok (.aload_n 0, 1) := by decide +kernel
theorem dX11_sell_28 : decode cX11_sell 28 = .ok (.getfield 85, 3) := by decide +kernel
theorem dX11_sell_31 : decode cX11_sell 31 = .ok (.aload_n 0, 1) := by decide +kernel
theorem dX11_sell_32 : decode cX11_sell 32 = .ok (.getfield 278, 3) := by decide +kernel
theorem dX11_sell_35 : decode cX11_sell 35 = .ok (.iload_n 1, 1) := by decide +kernel
theorem dX11_sell_36 : decode cX11_sell 36 = .ok (.iastore, 1) := by decide +kernel
theorem dX11_sell_37 : decode cX11_sell 37 = .ok (.aload_n 0, 1) := by decide +kernel
theorem dX11_sell_38 : decode cX11_sell 38 = .ok (.getfield 88, 3) := by decide +kernel
theorem dX11_sell_41 : decode cX11_sell 41 = .ok (.aload_n 0, 1) := by decide +kernel
theorem dX11_sell_42 : decode cX11_sell 42 = .ok (.getfield 278, 3) := by decide +kernel
theorem dX11_sell_45 : decode cX11_sell 45 = .ok (.iload_n 2, 1) := by decide +kernel
theorem dX11_sell_46 : decode cX11_sell 46 = .ok (.iastore, 1) := by decide +kernel
theorem dX11_sell_47 : decode cX11_sell 47 = .ok (.aload_n 0, 1) := by decide +kernel
theorem dX11_sell_48 : decode cX11_sell 48 = .ok (.getfield 91, 3) := by decide +kernel
theorem dX11_sell_51 : decode cX11_sell 51 = .ok (.aload_n 0, 1) := by decide +kernel
theorem dX11_sell_52 : decode cX11_sell 52 = .ok (.getfield 278, 3) := by decide +kernel
theorem dX11_sell_55 : decode cX11_sell 55 = .ok (.aload_n 0, 1) := by decide +kernel
theorem dX11_sell_56 : decode cX11_sell 56 = .ok (.getfield 44, 3) := by decide +kernel
theorem dX11_sell_59 : decode cX11_sell 59 = .ok (.iconst 3, 1) := by decide +kernel
theorem dX11_sell_60 : decode cX11_sell 60 = .ok (.iaload, 1) := by decide +kernel
theorem dX11_sell_61 : decode cX11_sell 61 = .ok (.aload_n 0, 1) := by decide +kernel
theorem dX11_sell_62 : decode cX11_sell 62 = .ok (.iload_n 1, 1) := by decide +kernel
theorem dX11_sell_63 : decode cX11_sell 63 = .ok (.invokevirtual 213, 3) := by decide +kernel
theorem dX11_sell_66 : decode cX11_sell 66 = .ok (.imul, 1) := by decide +kernel
theorem dX11_sell_67 : decode cX11_sell 67 = .ok (.iastore, 1) := by decide +kernel
theorem dX11_sell_68 : decode cX11_sell 68 = .ok (.aload_n 0, 1) := by decide +kernel
theorem dX11_sell_69 : decode cX11_sell 69 = .ok (.getfield 94, 3) := by decide +kernel
theorem dX11_sell_72 : decode cX11_sell 72 = .ok (.aload_n 0, 1) := by decide +kernel
theorem dX11_sell_73 : decode cX11_sell 73 = .ok (.getfield 278, 3) := by decide +kernel
theorem dX11_sell_76 : decode cX11_sell 76 = .ok (.aload_n 0, 1) := by decide +kernel
theorem dX11_sell_77 : decode cX11_sell 77 = .ok (.getfield 44, 3) := by decide +kernel
theorem dX11_sell_80 : decode cX11_sell 80 = .ok (.iconst 4, 1) := by decide +kernel
theorem dX11_sell_81 : decode cX11_sell 81 = .ok (.iaload, 1) := by decide +kernel
theorem dX11_sell_82 : decode cX11_sell 82 = .ok (.iastore, 1) := by decide +kernel
theorem dX11_sell_83 : decode cX11_sell 83 = .ok (.aload_n 0, 1) := by decide +kernel
theorem dX11_sell_84 : decode cX11_sell 84 = .ok (.getfield 100, 3) := by decide +kernel
theorem dX11_sell_87 : decode cX11_sell 87 = .ok (.aload_n 0, 1) := by decide +kernel
theorem dX11_sell_88 : decode cX11_sell 88 = .ok (.getfield 278, 3) := by decide +kernel
theorem dX11_sell_91 : decode cX11_sell 91 = .ok (.aload_n 0, 1) := by decide +kernel
theorem dX11_sell_92 : decode cX11_sell 92 = .ok (.getfield 44, 3) := by decide +kernel
theorem dX11_sell_95 : decode cX11_sell 95 = .ok (.iconst 4, 1) := by decide +kernel
theorem dX11_sell_96 : decode cX11_sell 96 = .ok (.iaload, 1) := by decide +kernel
theorem dX11_sell_97 : decode cX11_sell 97 = .ok (.iastore, 1) := by decide +kernel
theorem dX11_sell_98 : decode cX11_sell 98 = .ok (.aload_n 0, 1) := by decide +kernel
theorem dX11_sell_99 : decode cX11_sell 99 = .ok (.getfield 106, 3) := by decide +kernel
theorem dX11_sell_102 : decode cX11_sell 102 = .ok (.aload_n 0, 1) := by decide +kernel
theorem dX11_sell_103 : decode cX11_sell 103 = .ok (.getfield 278, 3) := by decide +kernel
theorem dX11_sell_106 : decode cX11_sell 106 = .ok (.aload_n 0, 1) := by decide +kernel
theorem dX11_sell_107 : decode cX11_sell 107 = .ok (.getfield 44, 3) := by decide +kernel
theorem dX11_sell_110 : decode cX11_sell 110 = .ok (.iconst 4, 1) := by decide +kernel
theorem dX11_sell_111 : decode cX11_sell 111 = .ok (.iaload, 1) := by decide +kernel
theorem dX11_sell_112 : decode cX11_sell 112 = .ok (.iconst 1, 1) := by decide +kernel
theorem dX11_sell_113 : decode cX11_sell 113 = .ok (.isub, 1) := by decide +kernel
theorem dX11_sell_114 : decode cX11_sell 114 = .ok (.iastore, 1) := by decide +kernel
theorem dX11_sell_115 : decode cX11_sell 115 = .ok (.aload_n 0, 1) := by decide +kernel
theorem dX11_sell_116 : decode cX11_sell 116 = .ok (.dup, 1) := by decide +kernel
theorem dX11_sell_117 : decode cX11_sell 117 = .ok (.getfield 278, 3) := by decide +kernel
theorem dX11_sell_120 : decode cX11_sell 120 = .ok (.iconst 1, 1) := by decide +kernel
theorem dX11_sell_121 : decode cX11_sell 121 = .ok (.iadd, 1) := by decide +kernel
theorem dX11_sell_122 : decode cX11_sell 122 = .ok (.putfield 278, 3) := by decide +kernel
theorem dX11_sell_125 : decode cX11_sell 125 = .ok (.aload_n 0, 1) := by decide +kernel
theorem dX11_sell_126 : decode cX11_sell 126 = .ok (.getfield 278, 3) := by decide +kernel
theorem dX11_sell_129 : decode cX11_sell 129 = .ok (.iconst 1, 1) := by decide +kernel
theorem dX11_sell_130 : decode cX11_sell 130 = .ok (.isub, 1) := by decide +kernel
theorem dX11_sell_131 : decode cX11_sell 131 = .ok (.ireturn, 1) := by decide +kernel
set_option maxRecDepth 20000 in
theorem ggX11_year_X11_isIn : GoodIn wsX11_year wsX11_isIn := goodIn_r _ [11] (by decide +kernel) (by decide +kernel)
set_option maxRecDepth 20000 in
theorem gX11_year_X11_isIn : GoodIn wsX11_year (va_wsS RX11 116 yX11_isIn wsX11_isIn) := goodIn_app (goodIn_of _ (by decide +kernel)) ggX11_year_X11_isIn
theorem dX11_year_0 : decode cX11_year 0 = .ok (.iload_n 1, 1) := by decide +kernel
theorem dX11_year_1 : decode cX11_year 1 = .ok (.iconst 0, 1) := by decide +kernel
theorem dX11_year_2 : decode cX11_year 2 = .ok (.aload_n 0, 1) := by decide +kernel
theorem dX11_year_3 : decode cX11_year 3 = .ok (.getfield 278, 3) := by decide +kernel
theorem dX11_year_6 : decode cX11_year 6 = .ok (.iconst 1, 1) := by decide +kernel
theorem dX11_year_7 : decode cX11_year 7 = .ok (.isub, 1) := by decide +kernel
theorem dX11_year_8 : decode cX11_year 8 = .ok (.invokestatic 116, 3) := by decide +kernel
theorem dX11_year_11 : decode cX11_year 11 = .ok (.ifCond .eq 12, 3) := by decide +kernel
theorem dX11_year_14 : decode cX11_year 14 = .ok (.aload_n 0, 1) := by decide +kernel
theorem dX11_year_15 : decode cX11_year 15 = .ok (.getfield 100, 3) := by decide +kernel
theorem dX11_year_18 : decode cX11_year 18 = .ok (.iload_n 1, 1) := by decide +kernel
theorem dX11_year_19 : decode cX11_year 19 = .ok (.iaload, 1) := by decide +kernel
theorem dX11_year_20 : decode cX11_year 20 = .ok (.ifCond .ne 5, 3) := by decide +kernel
theorem dX11_year_23 : decode cX11_year 23 = .ok (.iconst (-1), 1) := by decide +kernel
theorem dX11_year_24 : decode cX11_year 24 = .ok (.ireturn, 1) := by decide +kernel
theorem dX11_year_25 : decode cX11_year 25 = .ok (.aload_n 0, 1) := by decide +kernel
theorem dX11_year_26 : decode cX11_year 26 = .ok (.getfield 106, 3) := by decide +kernel
theorem dX11_year_29 : decode cX11_year 29 = .ok (.iload_n 1, 1) := by decide +kernel
theorem dX11_year_30 : decode cX11_year 30 = .ok (.iaload, 1) := by decide +kernel
theorem dX11_year_31 : decode cX11_year 31 = .ok (.ifCond .ne 7, 3) := by decide +kernel
theorem dX11_year_34 : decode cX11_year 34 = .ok (.iconst 1, 1) := by decide +kernel
theorem dX11_year_35 : decode cX11_year 35 = .ok (.goto 4, 3) := by decide +kernel
theorem dX11_year_38 : decode cX11_year 38 = .ok (.iconst 0, 1) := by decide +kernel
theorem dX11_year_39 : decode cX11_year 39 = .ok (.istore_n 3, 1) := by decide +kernel
theorem dX11_year_40 : decode cX11_year 40 = .ok (.aload_n 0, 1) := by decide +kernel
theorem dX11_year_41 : decode cX11_year 41 = .ok (.getfield 106, 3) := by decide +kernel
theorem dX11_year_44 : decode cX11_year 44 = .ok (.iload_n 1, 1) := by decide +kernel
theorem dX11_year_45 : decode cX11_year 45 = .ok (.dup2, 1) := by decide +kernel
theorem dX11_year_46 : decode cX11_year 46 = .ok (.iaload, 1) := by decide +kernel
theorem dX11_year_47 : decode cX11_year 47 = .ok (.iconst 1, 1) := by decide +kernel
theorem dX11_year_48 : decode cX11_year 48 = .ok (.isub, 1) := by decide +kernel
theorem dX11_year_49 : decode cX11_year 49 = .ok (.iastore, 1) := by decide +kernel
theorem dX11_year_50 : decode cX11_year 50 = .ok (.iload_n 2, 1) := by decide +kernel
theorem dX11_year_51 : decode cX11_year 51 = .ok (.ifCond .ne 33, 3) := by decide +kernel
theorem dX11_year_54 : decode cX11_year 54 = .ok (.aload_n 0, 1) := by decide +kernel
theorem dX11_year_55 : decode cX11_year 55 = .ok (.getfield 103, 3) := by decide +kernel
theorem dX11_year_58 : decode cX11_year 58 = .ok (.iload_n 1, 1) := by decide +kernel
theorem dX11_year_59 : decode cX11_year 59 = .ok (.dup2, 1) := by decide +kernel
theorem dX11_year_60 : decode cX11_year 60 = .ok (.iaload, 1) := by decide +kernel
theorem dX11_year_61 : decode cX11_year 61 = .ok (.iconst 1, 1) := by decide +kernel
theorem dX11_year_62 : decode cX11_year 62 = .ok (.iadd, 1) := by decide +kernel
theorem dX11_year_63 : decode cX11_year 63 = .ok (.iastore, 1) := by decide +kernel
theorem dX11_year_64 : decode cX11_year 64 = .ok (.iload_n 3, 1) := by decide +kernel
theorem dX11_year_65 : decode cX11_year 65 = .ok (.ifCond .eq 17, 3) := by decide +kernel
theorem dX11_year_68 : decode cX11_year 68 = .ok (.aload_n 0, 1) := by decide +kernel
end
section
theorem dX11_year_69 : decode cX11_year 69 = .ok (.getfield 106, 3) := by decide +kernel
theorem dX11_year_72 : decode cX11_year 72 = .ok (.iload_n 1, 1) := by decide +kernel
theorem dX11_year_73 : decode cX11_year 73 = .ok (.aload_n 0, 1) := by decide +kernel
theorem dX11_year_74 : decode cX11_year 74 = .ok (.getfield 100, 3) := by decide +kernel
theorem dX11_year_77 : decode cX11_year 77 = .ok (.iload_n 1, 1) := by decide +kernel
theorem dX11_year_78 : decode cX11_year 78 = .ok (.iaload, 1) := by decide +kernel
theorem dX11_year_79 : decode cX11_year 79 = .ok (.iconst 1, 1) := by decide +kernel
theorem dX11_year_80 : decode cX11_year 80 = .ok (.isub, 1) := by decide +kernel
theorem dX11_year_81 : decode cX11_year 81 = .ok (.iastore, 1) := by decide +kernel
theorem dX11_year_82 : decode cX11_year 82 = .ok (.iconst 0, 1) := by decide +kernel
theorem dX11_year_83 : decode cX11_year 83 = .ok (.ireturn, 1) := by decide +kernel
theorem dX11_year_84 : decode cX11_year 84 = .ok (.aload_n 0, 1) := by decide +kernel
theorem dX11_year_85 : decode cX11_year 85 = .ok (.getfield 91, 3) := by decide +kernel
theorem dX11_year_88 : decode cX11_year 88 = .ok (.iload_n 1, 1) := by decide +kernel
theorem dX11_year_89 : decode cX11_year 89 = .ok (.iaload, 1) := by decide +kernel
theorem dX11_year_90 : decode cX11_year 90 = .ok (.aload_n 0, 1) := by decide +kernel
theorem dX11_year_91 : decode cX11_year 91 = .ok (.getfield 94, 3) := by decide +kernel
theorem dX11_year_94 : decode cX11_year 94 = .ok (.iload_n 1, 1) := by decide +kernel
theorem dX11_year_95 : decode cX11_year 95 = .ok (.iaload, 1) := by decide +kernel
theorem dX11_year_96 : decode cX11_year 96 = .ok (.idiv, 1) := by decide +kernel
theorem dX11_year_97 : decode cX11_year 97 = .ok (.istore 4, 2) := by decide +kernel
theorem dX11_year_99 : decode cX11_year 99 = .ok (.iload_n 3, 1) := by decide +kernel
theorem dX11_year_100 : decode cX11_year 100 = .ok (.ifCond .eq 24, 3) := by decide +kernel
theorem dX11_year_103 : decode cX11_year 103 = .ok (.aload_n 0, 1) := by decide +kernel
theorem dX11_year_104 : decode cX11_year 104 = .ok (.getfield 91, 3) := by decide +kernel
theorem dX11_year_107 : decode cX11_year 107 = .ok (.iload_n 1, 1) := by decide +kernel
theorem dX11_year_108 : decode cX11_year 108 = .ok (.iaload, 1) := by decide +kernel
theorem dX11_year_109 : decode cX11_year 109 = .ok (.iload 4, 2) := by decide +kernel
theorem dX11_year_111 : decode cX11_year 111 = .ok (.aload_n 0, 1) := by decide +kernel
theorem dX11_year_112 : decode cX11_year 112 = .ok (.getfield 94, 3) := by decide +kernel
theorem dX11_year_115 : decode cX11_year 115 = .ok (.iload_n 1, 1) := by decide +kernel
theorem dX11_year_116 : decode cX11_year 116 = .ok (.iaload, 1) := by decide +kernel
theorem dX11_year_117 : decode cX11_year 117 = .ok (.iconst 1, 1) := by decide +kernel
theorem dX11_year_118 : decode cX11_year 118 = .ok (.isub, 1) := by decide +kernel
theorem dX11_year_119 : decode cX11_year 119 = .ok (.imul, 1) := by decide +kernel
theorem dX11_year_120 : decode cX11_year 120 = .ok (.isub, 1) := by decide +kernel
theorem dX11_year_121 : decode cX11_year 121 = .ok (.goto 5, 3) := by decide +kernel
theorem dX11_year_124 : decode cX11_year 124 = .ok (.iload 4, 2) := by decide +kernel
theorem dX11_year_126 : decode cX11_year 126 = .ok (.istore 5, 2) := by decide +kernel
theorem dX11_year_128 : decode cX11_year 128 = .ok (.aload_n 0, 1) := by decide +kernel
theorem dX11_year_129 : decode cX11_year 129 = .ok (.getfield 97, 3) := by decide +kernel
theorem dX11_year_132 : decode cX11_year 132 = .ok (.iload_n 1, 1) := by decide +kernel
theorem dX11_year_133 : decode cX11_year 133 = .ok (.dup2, 1) := by decide +kernel
theorem dX11_year_134 : decode cX11_year 134 = .ok (.iaload, 1) := by decide +kernel
theorem dX11_year_135 : decode cX11_year 135 = .ok (.iload 5, 2) := by decide +kernel
theorem dX11_year_137 : decode cX11_year 137 = .ok (.iadd, 1) := by decide +kernel
theorem dX11_year_138 : decode cX11_year 138 = .ok (.iastore, 1) := by decide +kernel
theorem dX11_year_139 : decode cX11_year 139 = .ok (.aload_n 0, 1) := by decide +kernel
theorem dX11_year_140 : decode cX11_year 140 = .ok (.getfield 100, 3) := by decide +kernel
theorem dX11_year_143 : decode cX11_year 143 = .ok (.iload_n 1, 1) := by decide +kernel
theorem dX11_year_144 : decode cX11_year 144 = .ok (.dup2, 1) := by decide +kernel
theorem dX11_year_145 : decode cX11_year 145 = .ok (.iaload, 1) := by decide +kernel
theorem dX11_year_146 : decode cX11_year 146 = .ok (.iconst 1, 1) := by decide +kernel
theorem dX11_year_147 : decode cX11_year 147 = .ok (.isub, 1) := by decide +kernel
theorem dX11_year_148 : decode cX11_year 148 = .ok (.iastore, 1) := by decide +kernel
theorem dX11_year_149 : decode cX11_year 149 = .ok (.iload 5, 2) := by decide +kernel
theorem dX11_year_151 : decode cX11_year 151 = .ok (.ireturn, 1) := by decide +kernel
set_option maxRecDepth 20000 in
theorem ggX11_sale_X11_isIn : GoodIn wsX11_sale wsX11_isIn := goodIn_r _ [11] (by decide +kernel) (by decide +kernel)
set_option maxRecDepth 20000 in
theorem gX11_sale_X11_isIn : GoodIn wsX11_sale (va_wsS RX11 116 yX11_isIn wsX11_isIn) := goodIn_app (goodIn_of _ (by decide +kernel)) ggX11_sale_X11_isIn
theorem dX11_sale_0 : decode cX11_sale 0 = .ok (.iload_n 1, 1) := by decide +kernel
theorem dX11_sale_1 : decode cX11_sale 1 = .ok (.iconst 0, 1) := by decide +kernel
theorem dX11_sale_2 : decode cX11_sale 2 = .ok (.aload_n 0, 1) := by decide +kernel
theorem dX11_sale_3 : decode cX11_sale 3 = .ok (.getfield 278, 3) := by decide +kernel
theorem dX11_sale_6 : decode cX11_sale 6 = .ok (.iconst 1, 1) := by decide +kernel
theorem dX11_sale_7 : decode cX11_sale 7 = .ok (.isub, 1) := by decide +kernel
theorem dX11_sale_8 : decode cX11_sale 8 = .ok (.invokestatic 116, 3) := by decide +kernel
theorem dX11_sale_11 : decode cX11_sale 11 = .ok (.ifCond .ne 5, 3) := by decide +kernel
theorem dX11_sale_14 : decode cX11_sale 14 = .ok (.iconst (-1), 1) := by decide +kernel
theorem dX11_sale_15 : decode cX11_sale 15 = .ok (.ireturn, 1) := by decide +kernel
theorem dX11_sale_16 : decode cX11_sale 16 = .ok (.iload_n 2, 1) := by decide +kernel
theorem dX11_sale_17 : decode cX11_sale 17 = .ok (.tableswitch 81 0 5 #[39, 46, 53, 60, 67, 74], 39) := by decide +kernel
theorem dX11_sale_56 : decode cX11_sale 56 = .ok (.aload_n 0, 1) := by decide +kernel
theorem dX11_sale_57 : decode cX11_sale 57 = .ok (.getfield 85, 3) := by decide +kernel
theorem dX11_sale_60 : decode cX11_sale 60 = .ok (.iload_n 1, 1) := by decide +kernel
theorem dX11_sale_61 : decode cX11_sale 61 = .ok (.iaload, 1) := by decide +kernel
theorem dX11_sale_62 : decode cX11_sale 62 = .ok (.ireturn, 1) := by decide +kernel
theorem dX11_sale_63 : decode cX11_sale 63 = .ok (.aload_n 0, 1) := by decide +kernel
theorem dX11_sale_64 : decode cX11_sale 64 = .ok (.getfield 88, 3) := by decide +kernel
theorem dX11_sale_67 : decode cX11_sale 67 = .ok (.iload_n 1, 1) := by decide +kernel
theorem dX11_sale_68 : decode cX11_sale 68 = .ok (.iaload, 1) := by decide +kernel
theorem dX11_sale_69 : decode cX11_sale 69 = .ok (.ireturn, 1) := by decide +kernel
theorem dX11_sale_70 : decode cX11_sale 70 = .ok (.aload_n 0, 1) := by decide +kernel
theorem dX11_sale_71 : decode cX11_sale 71 = .ok (.getfield 91, 3) := by decide +kernel
theorem dX11_sale_74 : decode cX11_sale 74 = .ok (.iload_n 1, 1) := by decide +kernel
theorem dX11_sale_75 : decode cX11_sale 75 = .ok (.iaload, 1) := by decide +kernel
theorem dX11_sale_76 : decode cX11_sale 76 = .ok (.ireturn, 1) := by decide +kernel
theorem dX11_sale_77 : decode cX11_sale 77 = .ok (.aload_n 0, 1) := by decide +kernel
theorem dX11_sale_78 : decode cX11_sale 78 = .ok (.getfield 97, 3) := by decide +kernel
theorem dX11_sale_81 : decode cX11_sale 81 = .ok (.iload_n 1, 1) := by decide +kernel
theorem dX11_sale_82 : decode cX11_sale 82 = .ok (.iaload, 1) := by decide +kernel
theorem dX11_sale_83 : decode cX11_sale 83 = .ok (.ireturn, 1) := by decide +kernel
theorem dX11_sale_84 : decode cX11_sale 84 = .ok (.aload_n 0, 1) := by decide +kernel
theorem dX11_sale_85 : decode cX11_sale 85 = .ok (.getfield 100, 3) := by decide +kernel
theorem dX11_sale_88 : decode cX11_sale 88 = .ok (.iload_n 1, 1) := by decide +kernel
theorem dX11_sale_89 : decode cX11_sale 89 = .ok (.iaload, 1) := by decide +kernel
theorem dX11_sale_90 : decode cX11_sale 90 = .ok (.ireturn, 1) := by decide +kernel
theorem dX11_sale_91 : decode cX11_sale 91 = .ok (.aload_n 0, 1) := by decide +kernel
theorem dX11_sale_92 : decode cX11_sale 92 = .ok (.getfield 103, 3) := by decide +kernel
theorem dX11_sale_95 : decode cX11_sale 95 = .ok (.iload_n 1, 1) := by decide +kernel
theorem dX11_sale_96 : decode cX11_sale 96 = .ok (.iaload, 1) := by decide +kernel
theorem dX11_sale_97 : decode cX11_sale 97 = .ok (.ireturn, 1) := by decide +kernel
theorem dX11_sale_98 : decode cX11_sale 98 = .ok (.iconst (-1), 1) := by decide +kernel
theorem dX11_sale_99 : decode cX11_sale 99 = .ok (.ireturn, 1) := by decide +kernel
theorem dX11_count_0 : decode cX11_count 0 = .ok (.iload_n 1, 1) := by decide +kernel
theorem dX11_count_1 : decode cX11_count 1 = .ok (.tableswitch 87 0 7 #[47, 52, 57, 62, 67, 72, 77, 82], 47) := by decide +kernel
theorem dX11_count_48 : decode cX11_count 48 = .ok (.aload_n 0, 1) := by decide +kernel
theorem dX11_count_49 : decode cX11_count 49 = .ok (.getfield 130, 3) := by decide +kernel
theorem dX11_count_52 : decode cX11_count 52 = .ok (.ireturn, 1) := by decide +kernel
theorem dX11_count_53 : decode cX11_count 53 = .ok (.aload_n 0, 1) := by decide +kernel
theorem dX11_count_54 : decode cX11_count 54 = .ok (.getfield 113, 3) := by decide +kernel
theorem dX11_count_57 : decode cX11_count 57 = .ok (.ireturn, 1) := by decide +kernel
theorem dX11_count_58 : decode cX11_count 58 = .ok (.aload_n 0, 1) := by decide +kernel
theorem dX11_count_59 : decode cX11_count 59 = .ok (.getfield 120, 3) := by decide +kernel
theorem dX11_count_62 : decode cX11_count 62 = .ok (.ireturn, 1) := by decide +kernel
theorem dX11_count_63 : decode cX11_count 63 = .ok (.aload_n 0, 1) := by decide +kernel
theorem dX11_count_64 : decode cX11_count 64 = .ok (.getfield 133, 3) := by decide +kernel
theorem dX11_count_67 : decode cX11_count 67 = .ok (.ireturn, 1) := by decide +kernel
theorem dX11_count_68 : decode cX11_count 68 = .ok (.aload_n 0, 1) := by decide +kernel
theorem dX11_count_69 : decode cX11_count 69 = .ok (.getfield 206, 3) := by decide +kernel
theorem dX11_count_72 : decode cX11_count 72 = .ok (.ireturn, 1) := by decide +kernel
theorem dX11_count_73 : decode cX11_count 73 = .ok (.aload_n 0, 1) := by decide +kernel
theorem dX11_count_74 : decode cX11_count 74 = .ok (.getfield 278, 3) := by decide +kernel
theorem dX11_count_77 : decode cX11_count 77 = .ok (.ireturn, 1) := by decide +kernel
theorem dX11_count_78 : decode cX11_count 78 = .ok (.aload_n 0, 1) := by decide +kernel
theorem dX11_count_79 : decode cX11_count 79 = .ok (.getfield 151, 3) := by decide +kernel
theorem dX11_count_82 : decode cX11_count 82 = .ok (.ireturn, 1) := by decide +kernel
theorem dX11_count_83 : decode cX11_count 83 = .ok (.aload_n 0, 1) := by decide +kernel
theorem dX11_count_84 : decode cX11_count 84 = .ok (.getfield 127, 3) := by decide +kernel
theorem dX11_count_87 : decode cX11_count 87 = .ok (.ireturn, 1) := by decide +kernel
theorem dX11_count_88 : decode cX11_count 88 = .ok (.iconst (-1), 1) := by decide +kernel
theorem dX11_count_89 : decode cX11_count 89 = .ok (.ireturn, 1) := by decide +kernel
theorem dJ6_numberOfTrailingZeros_0f7a4_0 : decode cJ6_numberOfTrailingZeros_0f7a4 0 = .ok (.iload_n 0, 1) := by decide +kernel
theorem dJ6_numberOfTrailingZeros_0f7a4_1 : decode cJ6_numberOfTrailingZeros_0f7a4 1 = .ok (.iconst (-1), 1) := by decide +kernel
theorem dJ6_numberOfTrailingZeros_0f7a4_2 : decode cJ6_numberOfTrailingZeros_0f7a4 2 = .ok (.ixor, 1) := by decide +kernel
theorem dJ6_numberOfTrailingZeros_0f7a4_3 : decode cJ6_numberOfTrailingZeros_0f7a4 3 = .ok (.iload_n 0, 1) := by decide +kernel
theorem dJ6_numberOfTrailingZeros_0f7a4_4 : decode cJ6_numberOfTrailingZeros_0f7a4 4 = .ok (.iconst 1, 1) := by decide +kernel
theorem dJ6_numberOfTrailingZeros_0f7a4_5 : decode cJ6_numberOfTrailingZeros_0f7a4 5 = .ok (.isub, 1) := by decide +kernel
theorem dJ6_numberOfTrailingZeros_0f7a4_6 : decode cJ6_numberOfTrailingZeros_0f7a4 6 = .ok (.iand, 1) := by decide +kernel
theorem dJ6_numberOfTrailingZeros_0f7a4_7 : decode cJ6_numberOfTrailingZeros_0f7a4 7 = .ok (.istore_n 0, 1) := by decide +kernel
theorem dJ6_numberOfTrailingZeros_0f7a4_8 : decode cJ6_numberOfTrailingZeros_0f7a4 8 = .ok (.iload_n 0, 1) := by decide +kernel
theorem dJ6_numberOfTrailingZeros_0f7a4_9 : decode cJ6_numberOfTrailingZeros_0f7a4 9 = .ok (.ifCond .gt 8, 3) := by decide +kernel
theorem dJ6_numberOfTrailingZeros_0f7a4_12 : decode cJ6_numberOfTrailingZeros_0f7a4 12 = .ok (.iload_n 0, 1) := by decide +kernel
theorem dJ6_numberOfTrailingZeros_0f7a4_13 : decode cJ6_numberOfTrailingZeros_0f7a4 13 = .ok (.bipush 32, 2) := by decide +kernel
theorem dJ6_numberOfTrailingZeros_0f7a4_15 : decode cJ6_numberOfTrailingZeros_0f7a4 15 = .ok (.iand, 1) := by decide +kernel
theorem dJ6_numberOfTrailingZeros_0f7a4_16 : decode cJ6_numberOfTrailingZeros_0f7a4 16 = .ok (.ireturn, 1) := by decide +kernel
theorem dJ6_numberOfTrailingZeros_0f7a4_17 : decode cJ6_numberOfTrailingZeros_0f7a4 17 = .ok (.iconst 1, 1) := by decide +kernel
theorem dJ6_numberOfTrailingZeros_0f7a4_18 : decode cJ6_numberOfTrailingZeros_0f7a4 18 = .ok (.istore_n 1, 1) := by decide +kernel
theorem dJ6_numberOfTrailingZeros_0f7a4_19 : decode cJ6_numberOfTrailingZeros_0f7a4 19 = .ok (.iload_n 0, 1) := by decide +kernel
theorem dJ6_numberOfTrailingZeros_0f7a4_20 : decode cJ6_numberOfTrailingZeros_0f7a4 20 = .ok (.ldc_w 264, 3) := by decide +kernel
theorem dJ6_numberOfTrailingZeros_0f7a4_23 : decode cJ6_numberOfTrailingZeros_0f7a4 23 = .ok (.if_icmp .le 11, 3) := by decide +kernel
theorem dJ6_numberOfTrailingZeros_0f7a4_26 : decode cJ6_numberOfTrailingZeros_0f7a4 26 = .ok (.iinc 1 16, 3) := by decide +kernel
theorem dJ6_numberOfTrailingZeros_0f7a4_29 : decode cJ6_numberOfTrailingZeros_0f7a4 29 = .ok (.iload_n 0, 1) := by decide +kernel
theorem dJ6_numberOfTrailingZeros_0f7a4_30 : decode cJ6_numberOfTrailingZeros_0f7a4 30 = .ok (.bipush 16, 2) := by decide +kernel
theorem dJ6_numberOfTrailingZeros_0f7a4_32 : decode cJ6_numberOfTrailingZeros_0f7a4 32 = .ok (.iushr, 1) := by decide +kernel
theorem dJ6_numberOfTrailingZeros_0f7a4_33 : decode cJ6_numberOfTrailingZeros_0f7a4 33 = .ok (.istore_n 0, 1) := by decide +kernel
theorem dJ6_numberOfTrailingZeros_0f7a4_34 : decode cJ6_numberOfTrailingZeros_0f7a4 34 = .ok (.iload_n 0, 1) := by decide +kernel
theorem dJ6_numberOfTrailingZeros_0f7a4_35 : decode cJ6_numberOfTrailingZeros_0f7a4 35 = .ok (.sipush 256, 3) := by decide +kernel
theorem dJ6_numberOfTrailingZeros_0f7a4_38 : decode cJ6_numberOfTrailingZeros_0f7a4 38 = .ok (.if_icmp .le 11, 3) := by decide +kernel
theorem dJ6_numberOfTrailingZeros_0f7a4_41 : decode cJ6_numberOfTrailingZeros_0f7a4 41 = .ok (.iinc 1 8, 3) := by decide +kernel
theorem dJ6_numberOfTrailingZeros_0f7a4_44 : decode cJ6_numberOfTrailingZeros_0f7a4 44 = .ok (.iload_n 0, 1) := by decide +kernel
theorem dJ6_numberOfTrailingZeros_0f7a4_45 : decode cJ6_numberOfTrailingZeros_0f7a4 45 = .ok (.bipush 8, 2) := by decide +kernel
theorem dJ6_numberOfTrailingZeros_0f7a4_47 : decode cJ6_numberOfTrailingZeros_0f7a4 47 = .ok (.iushr, 1) := by decide +kernel
theorem dJ6_numberOfTrailingZeros_0f7a4_48 : decode cJ6_numberOfTrailingZeros_0f7a4 48 = .ok (.istore_n 0, 1) := by decide +kernel
theorem dJ6_numberOfTrailingZeros_0f7a4_49 : decode cJ6_numberOfTrailingZeros_0f7a4 49 = .ok (.iload_n 0, 1) := by decide +kernel
theorem dJ6_numberOfTrailingZeros_0f7a4_50 : decode cJ6_numberOfTrailingZeros_0f7a4 50 = .ok (.bipush 16, 2) := by decide +kernel
theorem dJ6_numberOfTrailingZeros_0f7a4_52 : decode cJ6_numberOfTrailingZeros_0f7a4 52 = .ok (.if_icmp .le 10, 3) := by decide +kernel
theorem dJ6_numberOfTrailingZeros_0f7a4_55 : decode cJ6_numberOfTrailingZeros_0f7a4 55 = .ok (.iinc 1 4, 3) := by decide +kernel
theorem dJ6_numberOfTrailingZeros_0f7a4_58 : decode cJ6_numberOfTrailingZeros_0f7a4 58 = .ok (.iload_n 0, 1) := by decide +kernel
theorem dJ6_numberOfTrailingZeros_0f7a4_59 : decode cJ6_numberOfTrailingZeros_0f7a4 59 = .ok (.iconst 4, 1) := by decide +kernel
theorem dJ6_numberOfTrailingZeros_0f7a4_60 : decode cJ6_numberOfTrailingZeros_0f7a4 60 = .ok (.iushr, 1) := by decide +kernel
theorem dJ6_numberOfTrailingZeros_0f7a4_61 : decode cJ6_numberOfTrailingZeros_0f7a4 61 = .ok (.istore_n 0, 1) := by decide +kernel
theorem dJ6_numberOfTrailingZeros_0f7a4_62 : decode cJ6_numberOfTrailingZeros_0f7a4 62 = .ok (.iload_n 0, 1) := by decide +kernel
theorem dJ6_numberOfTrailingZeros_0f7a4_63 : decode cJ6_numberOfTrailingZeros_0f7a4 63 = .ok (.iconst 4, 1) := by decide +kernel
theorem dJ6_numberOfTrailingZeros_0f7a4_64 : decode cJ6_numberOfTrailingZeros_0f7a4 64 = .ok (.if_icmp .le 10, 3) := by decide +kernel
theorem dJ6_numberOfTrailingZeros_0f7a4_67 : decode cJ6_numberOfTrailingZeros_0f7a4 67 = .ok (.iinc 1 2, 3) := by decide +kernel
theorem dJ6_numberOfTrailingZeros_0f7a4_70 : decode cJ6_numberOfTrailingZeros_0f7a4 70 = .ok (.iload_n 0, 1) := by decide +kernel
theorem dJ6_numberOfTrailingZeros_0f7a4_71 : decode cJ6_numberOfTrailingZeros_0f7a4 71 = .ok (.iconst 2, 1) := by decide +kernel
theorem dJ6_numberOfTrailingZeros_0f7a4_72 : decode cJ6_numberOfTrailingZeros_0f7a4 72 = .ok (.iushr, 1) := by decide +kernel
theorem dJ6_numberOfTrailingZeros_0f7a4_73 : decode cJ6_numberOfTrailingZeros_0f7a4 73 = .ok (.istore_n 0, 1) := by decide +kernel
theorem dJ6_numberOfTrailingZeros_0f7a4_74 : decode cJ6_numberOfTrailingZeros_0f7a4 74 = .ok (.iload_n 1, 1) := by decide +kernel
theorem dJ6_numberOfTrailingZeros_0f7a4_75 : decode cJ6_numberOfTrailingZeros_0f7a4 75 = .ok (.iload_n 0, 1) := by decide +kernel
theorem dJ6_numberOfTrailingZeros_0f7a4_76 : decode cJ6_numberOfTrailingZeros_0f7a4 76 = .ok (.iconst 1, 1) := by decide +kernel
theorem dJ6_numberOfTrailingZeros_0f7a4_77 : decode cJ6_numberOfTrailingZeros_0f7a4 77 = .ok (.iushr, 1) := by decide +kernel
theorem dJ6_numberOfTrailingZeros_0f7a4_78 : decode cJ6_numberOfTrailingZeros_0f7a4 78 = .ok (.iadd, 1) := by decide +kernel
theorem dJ6_numberOfTrailingZeros_0f7a4_79 : decode cJ6_numberOfTrailingZeros_0f7a4 79 = .ok (.ireturn, 1) := by decide +kernel
theorem dJ6_bitCount_0f7a4_0 : decode cJ6_bitCount_0f7a4 0 = .ok (.iload_n 0, 1) := by decide +kernel
theorem dJ6_bitCount_0f7a4_1 : decode cJ6_bitCount_0f7a4 1 = .ok (.iload_n 0, 1) := by decide +kernel
theorem dJ6_bitCount_0f7a4_2 : decode cJ6_bitCount_0f7a4 2 = .ok (.iconst 1, 1) := by decide +kernel
theorem dJ6_bitCount_0f7a4_3 : decode cJ6_bitCount_0f7a4 3 = .ok (.iushr, 1) := by decide +kernel
theorem dJ6_bitCount_0f7a4_4 : decode cJ6_bitCount_0f7a4 4 = .ok (.ldc_w 265, 3) := by decide +kernel
theorem dJ6_bitCount_0f7a4_7 : decode cJ6_bitCount_0f7a4 7 = .ok (.iand, 1) := by decide +kernel
theorem dJ6_bitCount_0f7a4_8 : decode cJ6_bitCount_0f7a4 8 = .ok (.isub, 1) := by decide +kernel
theorem dJ6_bitCount_0f7a4_9 : decode cJ6_bitCount_0f7a4 9 = .ok (.istore_n 0, 1) := by decide +kernel
theorem dJ6_bitCount_0f7a4_10 : decode cJ6_bitCount_0f7a4 10 = .ok (.iload_n 0, 1) := by decide +kernel
theorem dJ6_bitCount_0f7a4_11 : decode cJ6_bitCount_0f7a4 11 = .ok (.ldc_w 266, 3) := by decide +kernel
theorem dJ6_bitCount_0f7a4_14 : decode cJ6_bitCount_0f7a4 14 = .ok (.iand, 1) := by decide +kernel
theorem dJ6_bitCount_0f7a4_15 : decode cJ6_bitCount_0f7a4 15 = .ok (.iload_n 0, 1) := by decide +kernel
theorem dJ6_bitCount_0f7a4_16 : decode cJ6_bitCount_0f7a4 16 = .ok (.iconst 2, 1) := by decide +kernel
theorem dJ6_bitCount_0f7a4_17 : decode cJ6_bitCount_0f7a4 17 = .ok (.iushr, 1) := by decide +kernel
theorem dJ6_bitCount_0f7a4_18 : decode cJ6_bitCount_0f7a4 18 = .ok (.ldc_w 266, 3) := by decide +kernel
theorem dJ6_bitCount_0f7a4_21 : decode cJ6_bitCount_0f7a4 21 = .ok (.iand, 1) := by decide +kernel
theorem dJ6_bitCount_0f7a4_22 : decode cJ6_bitCount_0f7a4 22 = .ok (.iadd, 1) := by decide +kernel
theorem dJ6_bitCount_0f7a4_23 : decode cJ6_bitCount_0f7a4 23 = .ok (.istore_n 0, 1) := by decide +kernel
theorem dJ6_bitCount_0f7a4_24 : decode cJ6_bitCount_0f7a4 24 = .ok (.iload_n 0, 1) := by decide +kernel
theorem dJ6_bitCount_0f7a4_25 : decode cJ6_bitCount_0f7a4 25 = .ok (.iload_n 0, 1) := by decide +kernel
theorem dJ6_bitCount_0f7a4_26 : decode cJ6_bitCount_0f7a4 26 = .ok (.iconst 4, 1) := by decide +kernel
theorem dJ6_bitCount_0f7a4_27 : decode cJ6_bitCount_0f7a4 27 = .ok (.iushr, 1) := by decide +kernel
theorem dJ6_bitCount_0f7a4_28 : decode cJ6_bitCount_0f7a4 28 = .ok (.iadd, 1) := by decide +kernel
theorem dJ6_bitCount_0f7a4_29 : decode cJ6_bitCount_0f7a4 29 = .ok (.ldc_w 267, 3) := by decide +kernel
theorem dJ6_bitCount_0f7a4_32 : decode cJ6_bitCount_0f7a4 32 = .ok (.iand, 1) := by decide +kernel
theorem dJ6_bitCount_0f7a4_33 : decode cJ6_bitCount_0f7a4 33 = .ok (.istore_n 0, 1) := by decide +kernel
theorem dJ6_bitCount_0f7a4_34 : decode cJ6_bitCount_0f7a4 34 = .ok (.iload_n 0, 1) := by decide +kernel
theorem dJ6_bitCount_0f7a4_35 : decode cJ6_bitCount_0f7a4 35 = .ok (.iload_n 0, 1) := by decide +kernel
theorem dJ6_bitCount_0f7a4_36 : decode cJ6_bitCount_0f7a4 36 = .ok (.bipush 8, 2) := by decide +kernel
theorem dJ6_bitCount_0f7a4_38 : decode cJ6_bitCount_0f7a4 38 = .ok (.iushr, 1) := by decide +kernel
theorem dJ6_bitCount_0f7a4_39 : decode cJ6_bitCount_0f7a4 39 = .ok (.iadd, 1) := by decide +kernel
theorem dJ6_bitCount_0f7a4_40 : decode cJ6_bitCount_0f7a4 40 = .ok (.istore_n 0, 1) := by decide +kernel
theorem dJ6_bitCount_0f7a4_41 : decode cJ6_bitCount_0f7a4 41 = .ok (.iload_n 0, 1) := by decide +kernel
theorem dJ6_bitCount_0f7a4_42 : decode cJ6_bitCount_0f7a4 42 = .ok (.iload_n 0, 1) := by decide +kernel
theorem dJ6_bitCount_0f7a4_43 : decode cJ6_bitCount_0f7a4 43 = .ok (.bipush 16, 2) := by decide +kernel
theorem dJ6_bitCount_0f7a4_45 : decode cJ6_bitCount_0f7a4 45 = .ok (.iushr, 1) := by decide +kernel
theorem dJ6_bitCount_0f7a4_46 : decode cJ6_bitCount_0f7a4 46 = .ok (.iadd, 1) := by decide +kernel
theorem dJ6_bitCount_0f7a4_47 : decode cJ6_bitCount_0f7a4 47 = .ok (.istore_n 0, 1) := by decide +kernel
theorem dJ6_bitCount_0f7a4_48 : decode cJ6_bitCount_0f7a4 48 = .ok (.iload_n 0, 1) := by decide +kernel
theorem dJ6_bitCount_0f7a4_49 : decode cJ6_bitCount_0f7a4 49 = .ok (.bipush 63, 2) := by decide +kernel
theorem dJ6_bitCount_0f7a4_51 : decode cJ6_bitCount_0f7a4 51 = .ok (.iand, 1) := by decide +kernel
theorem dJ6_bitCount_0f7a4_52 : decode cJ6_bitCount_0f7a4 52 = .ok (.ireturn, 1) := by decide +kernel
theorem dJ9_abs_0f7a4_0 : decode cJ9_abs_0f7a4 0 = .ok (.iload_n 0, 1) := by decide +kernel
theorem dJ9_abs_0f7a4_1 : decode cJ9_abs_0f7a4 1 = .ok (.ifCond .ge 8, 3) := by decide +kernel
theorem dJ9_abs_0f7a4_4 : decode cJ9_abs_0f7a4 4 = .ok (.iload_n 0, 1) := by decide +kernel
theorem dJ9_abs_0f7a4_5 : decode cJ9_abs_0f7a4 5 = .ok (.ineg, 1) := by decide +kernel
theorem dJ9_abs_0f7a4_6 : decode cJ9_abs_0f7a4 6 = .ok (.goto 4, 3) := by decide +kernel
theorem dJ9_abs_0f7a4_9 : decode cJ9_abs_0f7a4 9 = .ok (.iload_n 0, 1) := by decide +kernel
theorem dJ9_abs_0f7a4_10 : decode cJ9_abs_0f7a4 10 = .ok (.ireturn, 1) := by decide +kernel
theorem dJ9_max_7cf53_0 : decode cJ9_max_7cf53 0 = .ok (.iload_n 0, 1) := by decide +kernel
theorem dJ9_max_7cf53_1 : decode cJ9_max_7cf53 1 = .ok (.iload_n 1, 1) := by decide +kernel
theorem dJ9_max_7cf53_2 : decode cJ9_max_7cf53 2 = .ok (.if_icmp .lt 7, 3) := by decide +kernel
theorem dJ9_max_7cf53_5 : decode cJ9_max_7cf53 5 = .ok (.iload_n 0, 1) := by decide +kernel
theorem dJ9_max_7cf53_6 : decode cJ9_max_7cf53 6 = .ok (.goto 4, 3) := by decide +kernel
theorem dJ9_max_7cf53_9 : decode cJ9_max_7cf53 9 = .ok (.iload_n 1, 1) := by decide +kernel
theorem dJ9_max_7cf53_10 : decode cJ9_max_7cf53 10 = .ok (.ireturn, 1) := by decide +kernel
theorem dJ9_min_7cf53_0 : decode cJ9_min_7cf53 0 = .ok (.iload_n 0, 1) := by decide +kernel
theorem dJ9_min_7cf53_1 : decode cJ9_min_7cf53 1 = .ok (.iload_n 1, 1) := by decide +kernel
theorem dJ9_min_7cf53_2 : decode cJ9_min_7cf53 2 = .ok (.if_icmp .gt 7, 3) := by decide +kernel
theorem dJ9_min_7cf53_5 : decode cJ9_min_7cf53 5 = .ok (.iload_n 0, 1) := by decide +kernel
theorem dJ9_min_7cf53_6 : decode cJ9_min_7cf53 6 = .ok (.goto 4, 3) := by decide +kernel
theorem dJ9_min_7cf53_9 : decode cJ9_min_7cf53 9 = .ok (.iload_n 1, 1) := by decide +kernel
theorem dJ9_min_7cf53_10 : decode cJ9_min_7cf53 10 = .ok (.ireturn, 1) := by decide +kernel
set_option maxRecDepth 20000 in
theorem ggJ0_length_8abf5_J0_coder_7d493 : GoodIn wsJ0_length_8abf5 wsJ0_coder_7d493 := goodIn_r _ [6, 7, 8] (by decide +kernel) (by decide +kernel)
set_option maxRecDepth 20000 in
theorem gJ0_length_8abf5_J0_coder_7d493 : GoodIn wsJ0_length_8abf5 (wsV RJ0 335 RJ0 yJ0_coder_7d493 wsJ0_coder_7d493) := goodIn_app (goodIn_of _ (by decide +kernel)) ggJ0_length_8abf5_J0_coder_7d493
theorem dJ0_length_8abf5_0 : decode cJ0_length_8abf5 0 = .ok (.aload_n 0, 1) := by decide +kernel
theorem dJ0_length_8abf5_1 : decode cJ0_length_8abf5 1 = .ok (.getfield 9, 3) := by decide +kernel
theorem dJ0_length_8abf5_4 : decode cJ0_length_8abf5 4 = .ok (.arraylength, 1) := by decide +kernel
theorem dJ0_length_8abf5_5 : decode cJ0_length_8abf5 5 = .ok (.aload_n 0, 1) := by decide +kernel
theorem dJ0_length_8abf5_6 : decode cJ0_length_8abf5 6 = .ok (.invokevirtual 335, 3) := by decide +kernel
theorem dJ0_length_8abf5_9 : decode cJ0_length_8abf5 9 = .ok (.ishr, 1) := by decide +kernel
theorem dJ0_length_8abf5_10 : decode cJ0_length_8abf5 10 = .ok (.ireturn, 1) := by decide +kernel
set_option maxRecDepth 20000 in
theorem ggJ0_charAt_5068e_J0_isLatin1_aae02 : GoodIn wsJ0_charAt_5068e wsJ0_isLatin1_aae02 := goodIn_r _ [6, 7, 8] (by decide +kernel) (by decide +kernel)
set_option maxRecDepth 20000 in
theorem gJ0_charAt_5068e_J0_isLatin1_aae02 : GoodIn wsJ0_charAt_5068e (wsV RJ0 492 RJ0 yJ0_isLatin1_aae02 wsJ0_isLatin1_aae02) := goodIn_app (goodIn_of _ (by decide +kernel)) ggJ0_charAt_5068e_J0_isLatin1_aae02
set_option maxRecDepth 20000 in
theorem ggJ0_charAt_5068e_J1_charAt_3b067 : GoodIn wsJ0_charAt_5068e wsJ1_charAt_3b067 := goodIn_r _ [12, 13, 14, 5, 15, 16, 17, 18, 19, 20] (by decide +kernel) (by decide +kernel)
set_option maxRecDepth 20000 in
theorem gJ0_charAt_5068e_J1_charAt_3b067 : GoodIn wsJ0_charAt_5068e (va_wsS RJ0 495 yJ1_charAt_3b067 wsJ1_charAt_3b067) := goodIn_app (goodIn_of _ (by decide +kernel)) ggJ0_charAt_5068e_J1_charAt_3b067
set_option maxRecDepth 20000 in
theorem ggJ0_charAt_5068e_J2_charAt_3b067 : GoodIn wsJ0_charAt_5068e wsJ2_charAt_3b067 := goodIn_r _ [24, 25, 26, 23, 27, 28, 29, 30, 31, 14, 5, 15, 16, 17, 18, 19, 20, 32, 33, 34, 35, 36, 37] (by decide +kernel) (by decide +kernel)
set_option maxRecDepth 20000 in
theorem gJ0_charAt_5068e_J2_charAt_3b067 : GoodIn wsJ0_charAt_5068e (va_wsS RJ0 498 yJ2_charAt_3b067 wsJ2_charAt_3b067) := goodIn_app (goodIn_of _ (by decide +kernel)) ggJ0_charAt_5068e_J2_charAt_3b067
theorem dJ0_charAt_5068e_0 : decode cJ0_charAt_5068e 0 = .ok (.aload_n 0, 1) := by decide +kernel
theorem dJ0_charAt_5068e_1 : decode cJ0_charAt_5068e 1 = .ok (.invokevirtual 492, 3) := by decide +kernel
theorem dJ0_charAt_5068e_4 : decode cJ0_charAt_5068e 4 = .ok (.ifCond .eq 12, 3) := by decide +kernel
theorem dJ0_charAt_5068e_7 : decode cJ0_charAt_5068e 7 = .ok (.aload_n 0, 1) := by decide +kernel
theorem dJ0_charAt_5068e_8 : decode cJ0_charAt_5068e 8 = .ok (.getfield 9, 3) := by decide +kernel
theorem dJ0_charAt_5068e_11 : decode cJ0_charAt_5068e 11 = .ok (.iload_n 1, 1) := by decide +kernel
theorem dJ0_charAt_5068e_12 : decode cJ0_charAt_5068e 12 = .ok (.invokestatic 495, 3) := by decide +kernel
theorem dJ0_charAt_5068e_15 : decode cJ0_charAt_5068e 15 = .ok (.ireturn, 1) := by decide +kernel
theorem dJ0_charAt_5068e_16 : decode cJ0_charAt_5068e 16 = .ok (.aload_n 0, 1) := by decide +kernel
theorem dJ0_charAt_5068e_17 : decode cJ0_charAt_5068e 17 = .ok (.getfield 9, 3) := by decide +kernel
theorem dJ0_charAt_5068e_20 : decode cJ0_charAt_5068e 20 = .ok (.iload_n 1, 1) := by decide +kernel
theorem dJ0_charAt_5068e_21 : decode cJ0_charAt_5068e 21 = .ok (.invokestatic 498, 3) := by decide +kernel
theorem dJ0_charAt_5068e_24 : decode cJ0_charAt_5068e 24 = .ok (.ireturn, 1) := by decide +kernel
theorem dJ0_coder_7d493_0 : decode cJ0_coder_7d493 0 = .ok (.getstatic 38, 3) := by decide +kernel
theorem dJ0_coder_7d493_3 : decode cJ0_coder_7d493 3 = .ok (.ifCond .eq 10, 3) := by decide +kernel
theorem dJ0_coder_7d493_6 : decode cJ0_coder_7d493 6 = .ok (.aload_n 0, 1) := by decide +kernel
theorem dJ0_coder_7d493_7 : decode cJ0_coder_7d493 7 = .ok (.getfield 15, 3) := by decide +kernel
theorem dJ0_coder_7d493_10 : decode cJ0_coder_7d493 10 = .ok (.goto 4, 3) := by decide +kernel
theorem dJ0_coder_7d493_13 : decode cJ0_coder_7d493 13 = .ok (.iconst 1, 1) := by decide +kernel
theorem dJ0_coder_7d493_14 : decode cJ0_coder_7d493 14 = .ok (.ireturn, 1) := by decide +kernel
theorem dJ0_isLatin1_aae02_0 : decode cJ0_isLatin1_aae02 0 = .ok (.getstatic 38, 3) := by decide +kernel
theorem dJ0_isLatin1_aae02_3 : decode cJ0_isLatin1_aae02 3 = .ok (.ifCond .eq 14, 3) := by decide +kernel
theorem dJ0_isLatin1_aae02_6 : decode cJ0_isLatin1_aae02 6 = .ok (.aload_n 0, 1) := by decide +kernel
theorem dJ0_isLatin1_aae02_7 : decode cJ0_isLatin1_aae02 7 = .ok (.getfield 15, 3) := by decide +kernel
theorem dJ0_isLatin1_aae02_10 : decode cJ0_isLatin1_aae02 10 = .ok (.ifCond .ne 7, 3) := by decide +kernel
theorem dJ0_isLatin1_aae02_13 : decode cJ0_isLatin1_aae02 13 = .ok (.iconst 1, 1) := by decide +kernel
theorem dJ0_isLatin1_aae02_14 : decode cJ0_isLatin1_aae02 14 = .ok (.goto 4, 3) := by decide +kernel
theorem dJ0_isLatin1_aae02_17 : decode cJ0_isLatin1_aae02 17 = .ok (.iconst 0, 1) := by decide +kernel
theorem dJ0_isLatin1_aae02_18 : decode cJ0_isLatin1_aae02 18 = .ok (.ireturn, 1) := by decide +kernel
set_option maxRecDepth 20000 in
theorem ggJ0_checkIndex_df160_J3_checkIndex_8e157 : GoodIn wsJ0_checkIndex_df160 wsJ3_checkIndex_8e157 := goodIn_r _ [5] (by decide +kernel) (by decide +kernel)
set_option maxRecDepth 20000 in
theorem gJ0_checkIndex_df160_J3_checkIndex_8e157 : GoodIn wsJ0_checkIndex_df160 (va_wsS RJ0 1059 yJ3_checkIndex_8e157 wsJ3_checkIndex_8e157) := goodIn_app (goodIn_of _ (by decide +kernel)) ggJ0_checkIndex_df160_J3_checkIndex_8e157
theorem dJ0_checkIndex_df160_0 : decode cJ0_checkIndex_df160 0 = .ok (.iload_n 0, 1) := by decide +kernel
theorem dJ0_checkIndex_df160_1 : decode cJ0_checkIndex_df160 1 = .ok (.iload_n 1, 1) := by decide +kernel
theorem dJ0_checkIndex_df160_2 : decode cJ0_checkIndex_df160 2 = .ok (.getstatic 1053, 3) := by decide +kernel
theorem dJ0_checkIndex_df160_5 : decode cJ0_checkIndex_df160 5 = .ok (.invokestatic 1059, 3) := by decide +kernel
theorem dJ0_checkIndex_df160_8 : decode cJ0_checkIndex_df160 8 = .ok (.pop, 1) := by decide +kernel
theorem dJ0_checkIndex_df160_9 : decode cJ0_checkIndex_df160 9 = .ok (.return_, 1) := by decide +kernel
set_option maxRecDepth 20000 in
theorem ggJ1_charAt_3b067_J0_checkIndex_df160 : GoodIn wsJ1_charAt_3b067 wsJ0_checkIndex_df160 := goodIn_r _ [4, 5, 6, 7, 8, 9] (by decide +kernel) (by decide +kernel)
set_option maxRecDepth 20000 in
theorem gJ1_charAt_3b067_J0_checkIndex_df160 : GoodIn wsJ1_charAt_3b067 (va_wsS RJ1 9 yJ0_checkIndex_df160 wsJ0_checkIndex_df160) := goodIn_app (goodIn_of _ (by decide +kernel)) ggJ1_charAt_3b067_J0_checkIndex_df160
theorem dJ1_charAt_3b067_0 : decode cJ1_charAt_3b067 0 = .ok (.iload_n 1, 1) := by decide +kernel
theorem dJ1_charAt_3b067_1 : decode cJ1_charAt_3b067 1 = .ok (.aload_n 0, 1) := by decide +kernel
theorem dJ1_charAt_3b067_2 : decode cJ1_charAt_3b067 2 = .ok (.arraylength, 1) := by decide +kernel
theorem dJ1_charAt_3b067_3 : decode cJ1_charAt_3b067 3 = .ok (.invokestatic 9, 3) := by decide +kernel
theorem dJ1_charAt_3b067_6 : decode cJ1_charAt_3b067 6 = .ok (.aload_n 0, 1) := by decide +kernel
theorem dJ1_charAt_3b067_7 : decode cJ1_charAt_3b067 7 = .ok (.iload_n 1, 1) := by decide +kernel
theorem dJ1_charAt_3b067_8 : decode cJ1_charAt_3b067 8 = .ok (.baload, 1) := by decide +kernel
theorem dJ1_charAt_3b067_9 : decode cJ1_charAt_3b067 9 = .ok (.sipush 255, 3) := by decide +kernel
theorem dJ1_charAt_3b067_12 : decode cJ1_charAt_3b067 12 = .ok (.iand, 1) := by decide +kernel
theorem dJ1_charAt_3b067_13 : decode cJ1_charAt_3b067 13 = .ok (.i2c, 1) := by decide +kernel
theorem dJ1_charAt_3b067_14 : decode cJ1_charAt_3b067 14 = .ok (.ireturn, 1) := by decide +kernel
set_option maxRecDepth 20000 in
theorem ggJ2_getChar_3b067_J2_length_9d52b : GoodIn wsJ2_getChar_3b067 wsJ2_length_9d52b := goodIn_r _ [7] (by decide +kernel) (by decide +kernel)
set_option maxRecDepth 20000 in
theorem gJ2_getChar_3b067_J2_length_9d52b : GoodIn wsJ2_getChar_3b067 (va_wsS RJ2 48 yJ2_length_9d52b wsJ2_length_9d52b) := goodIn_app (goodIn_of _ (by decide +kernel)) ggJ2_getChar_3b067_J2_length_9d52b
theorem dJ2_getChar_3b067_0 : decode cJ2_getChar_3b067 0 = .ok (.getstatic 44, 3) := by decide +kernel
theorem dJ2_getChar_3b067_3 : decode cJ2_getChar_3b067 3 = .ok (.ifCond .ne 25, 3) := by decide +kernel
theorem dJ2_getChar_3b067_6 : decode cJ2_getChar_3b067 6 = .ok (.iload_n 1, 1) := by decide +kernel
theorem dJ2_getChar_3b067_7 : decode cJ2_getChar_3b067 7 = .ok (.ifCond .lt 11, 3) := by decide +kernel
theorem dJ2_getChar_3b067_10 : decode cJ2_getChar_3b067 10 = .ok (.iload_n 1, 1) := by decide +kernel
theorem dJ2_getChar_3b067_11 : decode cJ2_getChar_3b067 11 = .ok (.aload_n 0, 1) := by decide +kernel
theorem dJ2_getChar_3b067_12 : decode cJ2_getChar_3b067 12 = .ok (.invokestatic 48, 3) := by decide +kernel
theorem dJ2_getChar_3b067_15 : decode cJ2_getChar_3b067 15 = .ok (.if_icmp .lt 13, 3) := by decide +kernel
theorem dJ2_getChar_3b067_18 : decode cJ2_getChar_3b067 18 = .ok (.new 52, 3) := by decide +kernel
theorem dJ2_getChar_3b067_21 : decode cJ2_getChar_3b067 21 = .ok (.dup, 1) := by decide +kernel
theorem dJ2_getChar_3b067_22 : decode cJ2_getChar_3b067 22 = .ok (.ldc 54, 2) := by decide +kernel
theorem dJ2_getChar_3b067_24 : decode cJ2_getChar_3b067 24 = .ok (.invokespecial 56, 3) := by decide +kernel
theorem dJ2_getChar_3b067_27 : decode cJ2_getChar_3b067 27 = .ok (.athrow, 1) := by decide +kernel
theorem dJ2_getChar_3b067_28 : decode cJ2_getChar_3b067 28 = .ok (.iload_n 1, 1) := by decide +kernel
theorem dJ2_getChar_3b067_29 : decode cJ2_getChar_3b067 29 = .ok (.iconst 1, 1) := by decide +kernel
theorem dJ2_getChar_3b067_30 : decode cJ2_getChar_3b067 30 = .ok (.ishl, 1) := by decide +kernel
theorem dJ2_getChar_3b067_31 : decode cJ2_getChar_3b067 31 = .ok (.istore_n 1, 1) := by decide +kernel
theorem dJ2_getChar_3b067_32 : decode cJ2_getChar_3b067 32 = .ok (.aload_n 0, 1) := by decide +kernel
theorem dJ2_getChar_3b067_33 : decode cJ2_getChar_3b067 33 = .ok (.iload_n 1, 1) := by decide +kernel
theorem dJ2_getChar_3b067_34 : decode cJ2_getChar_3b067 34 = .ok (.iinc 1 1, 3) := by decide +kernel
theorem dJ2_getChar_3b067_37 : decode cJ2_getChar_3b067 37 = .ok (.baload, 1) := by decide +kernel
theorem dJ2_getChar_3b067_38 : decode cJ2_getChar_3b067 38 = .ok (.sipush 255, 3) := by decide +kernel
theorem dJ2_getChar_3b067_41 : decode cJ2_getChar_3b067 41 = .ok (.iand, 1) := by decide +kernel
theorem dJ2_getChar_3b067_42 : decode cJ2_getChar_3b067 42 = .ok (.getstatic 59, 3) := by decide +kernel
theorem dJ2_getChar_3b067_45 : decode cJ2_getChar_3b067 45 = .ok (.ishl, 1) := by decide +kernel
theorem dJ2_getChar_3b067_46 : decode cJ2_getChar_3b067 46 = .ok (.aload_n 0, 1) := by decide +kernel
theorem dJ2_getChar_3b067_47 : decode cJ2_getChar_3b067 47 = .ok (.iload_n 1, 1) := by decide +kernel
theorem dJ2_getChar_3b067_48 : decode cJ2_getChar_3b067 48 = .ok (.baload, 1) := by decide +kernel
theorem dJ2_getChar_3b067_49 : decode cJ2_getChar_3b067 49 = .ok (.sipush 255, 3) := by decide +kernel
theorem dJ2_getChar_3b067_52 : decode cJ2_getChar_3b067 52 = .ok (.iand, 1) := by decide +kernel
theorem dJ2_getChar_3b067_53 : decode cJ2_getChar_3b067 53 = .ok (.getstatic 63, 3) := by decide +kernel
theorem dJ2_getChar_3b067_56 : decode cJ2_getChar_3b067 56 = .ok (.ishl, 1) := by decide +kernel
theorem dJ2_getChar_3b067_57 : decode cJ2_getChar_3b067 57 = .ok (.ior, 1) := by decide +kernel
theorem dJ2_getChar_3b067_58 : decode cJ2_getChar_3b067 58 = .ok (.i2c, 1) := by decide +kernel
theorem dJ2_getChar_3b067_59 : decode cJ2_getChar_3b067 59 = .ok (.ireturn, 1) := by decide +kernel
theorem dJ2_length_9d52b_0 : decode cJ2_length_9d52b 0 = .ok (.aload_n 0, 1) := by decide +kernel
theorem dJ2_length_9d52b_1 : decode cJ2_length_9d52b 1 = .ok (.arraylength, 1) := by decide +kernel
theorem dJ2_length_9d52b_2 : decode cJ2_length_9d52b 2 = .ok (.iconst 1, 1) := by decide +kernel
theorem dJ2_length_9d52b_3 : decode cJ2_length_9d52b 3 = .ok (.ishr, 1) := by decide +kernel
theorem dJ2_length_9d52b_4 : decode cJ2_length_9d52b 4 = .ok (.ireturn, 1) := by decide +kernel
set_option maxRecDepth 20000 in
theorem ggJ2_charAt_3b067_J2_checkIndex_2214a : GoodIn wsJ2_charAt_3b067 wsJ2_checkIndex_2214a := goodIn_r _ [4, 5, 6, 3, 7, 8, 9, 10, 11, 12, 13, 14, 15, 16] (by decide +kernel) (by decide +kernel)
set_option maxRecDepth 20000 in
theorem gJ2_charAt_3b067_J2_checkIndex_2214a : GoodIn wsJ2_charAt_3b067 (va_wsS RJ2 67 yJ2_checkIndex_2214a wsJ2_checkIndex_2214a) := goodIn_app (goodIn_of _ (by decide +kernel)) ggJ2_charAt_3b067_J2_checkIndex_2214a
set_option maxRecDepth 20000 in
theorem ggJ2_charAt_3b067_J2_getChar_3b067 : GoodIn wsJ2_charAt_3b067 wsJ2_getChar_3b067 := goodIn_r _ [19, 20, 21, 22, 5, 6, 3, 7] (by decide +kernel) (by decide +kernel)
set_option maxRecDepth 20000 in
theorem gJ2_charAt_3b067_J2_getChar_3b067 : GoodIn wsJ2_charAt_3b067 (va_wsS RJ2 71 yJ2_getChar_3b067 wsJ2_getChar_3b067) := goodIn_app (goodIn_of _ (by decide +kernel)) ggJ2_charAt_3b067_J2_getChar_3b067
theorem dJ2_charAt_3b067_0 : decode cJ2_charAt_3b067 0 = .ok (.iload_n 1, 1) := by decide +kernel
theorem dJ2_charAt_3b067_1 : decode cJ2_charAt_3b067 1 = .ok (.aload_n 0, 1) := by decide +kernel
theorem dJ2_charAt_3b067_2 : decode cJ2_charAt_3b067 2 = .ok (.invokestatic 67, 3) := by decide +kernel
theorem dJ2_charAt_3b067_5 : decode cJ2_charAt_3b067 5 = .ok (.aload_n 0, 1) := by decide +kernel
theorem dJ2_charAt_3b067_6 : decode cJ2_charAt_3b067 6 = .ok (.iload_n 1, 1) := by decide +kernel
theorem dJ2_charAt_3b067_7 : decode cJ2_charAt_3b067 7 = .ok (.invokestatic 71, 3) := by decide +kernel
theorem dJ2_charAt_3b067_10 : decode cJ2_charAt_3b067 10 = .ok (.ireturn, 1) := by decide +kernel
set_option maxRecDepth 20000 in
theorem ggJ2_checkIndex_2214a_J2_length_9d52b : GoodIn wsJ2_checkIndex_2214a wsJ2_length_9d52b := goodIn_r _ [4] (by decide +kernel) (by decide +kernel)
set_option maxRecDepth 20000 in
theorem gJ2_checkIndex_2214a_J2_length_9d52b : GoodIn wsJ2_checkIndex_2214a (va_wsS RJ2 48 yJ2_length_9d52b wsJ2_length_9d52b) := goodIn_app (goodIn_of _ (by decide +kernel)) ggJ2_checkIndex_2214a_J2_length_9d52b
set_option maxRecDepth 20000 in
theorem ggJ2_checkIndex_2214a_J0_checkIndex_df160 : GoodIn wsJ2_checkIndex_2214a wsJ0_checkIndex_df160 := goodIn_r _ [8, 9, 10, 11, 12, 13] (by decide +kernel) (by decide +kernel)
set_option maxRecDepth 20000 in
theorem gJ2_checkIndex_2214a_J0_checkIndex_df160 : GoodIn wsJ2_checkIndex_2214a (va_wsS RJ2 414 yJ0_checkIndex_df160 wsJ0_checkIndex_df160) := goodIn_app (goodIn_of _ (by decide +kernel)) ggJ2_checkIndex_2214a_J0_checkIndex_df160
theorem dJ2_checkIndex_2214a_0 : decode cJ2_checkIndex_2214a 0 = .ok (.iload_n 0, 1) := by decide +kernel
theorem dJ2_checkIndex_2214a_1 : decode cJ2_checkIndex_2214a 1 = .ok (.aload_n 1, 1) := by decide +kernel
theorem dJ2_checkIndex_2214a_2 : decode cJ2_checkIndex_2214a 2 = .ok (.invokestatic 48, 3) := by decide +kernel
theorem dJ2_checkIndex_2214a_5 : decode cJ2_checkIndex_2214a 5 = .ok (.invokestatic 414, 3) := by decide +kernel
theorem dJ2_checkIndex_2214a_8 : decode cJ2_checkIndex_2214a 8 = .ok (.return_, 1) := by decide +kernel
theorem dJ7_fill_53178_0 : decode cJ7_fill_53178 0 = .ok (.iconst 0, 1) := by decide +kernel
theorem dJ7_fill_53178_1 : decode cJ7_fill_53178 1 = .ok (.istore_n 2, 1) := by decide +kernel
theorem dJ7_fill_53178_2 : decode cJ7_fill_53178 2 = .ok (.aload_n 0, 1) := by decide +kernel
theorem dJ7_fill_53178_3 : decode cJ7_fill_53178 3 = .ok (.arraylength, 1) := by decide +kernel
theorem dJ7_fill_53178_4 : decode cJ7_fill_53178 4 = .ok (.istore_n 3, 1) := by decide +kernel
theorem dJ7_fill_53178_5 : decode cJ7_fill_53178 5 = .ok (.iload_n 2, 1) := by decide +kernel
theorem dJ7_fill_53178_6 : decode cJ7_fill_53178 6 = .ok (.iload_n 3, 1) := by decide +kernel
theorem dJ7_fill_53178_7 : decode cJ7_fill_53178 7 = .ok (.if_icmp .ge 13, 3) := by decide +kernel
theorem dJ7_fill_53178_10 : decode cJ7_fill_53178 10 = .ok (.aload_n 0, 1) := by decide +kernel
theorem dJ7_fill_53178_11 : decode cJ7_fill_53178 11 = .ok (.iload_n 2, 1) := by decide +kernel
theorem dJ7_fill_53178_12 : decode cJ7_fill_53178 12 = .ok (.iload_n 1, 1) := by decide +kernel
theorem dJ7_fill_53178_13 : decode cJ7_fill_53178 13 = .ok (.iastore, 1) := by decide +kernel
theorem dJ7_fill_53178_14 : decode cJ7_fill_53178 14 = .ok (.iinc 2 1, 3) := by decide +kernel
theorem dJ7_fill_53178_17 : decode cJ7_fill_53178 17 = .ok (.goto (-12), 3) := by decide +kernel
theorem dJ7_fill_53178_20 : decode cJ7_fill_53178 20 = .ok (.return_, 1) := by decide +kernel
theorem dJ3_checkIndex_8e157_0 : decode cJ3_checkIndex_8e157 0 = .ok (.iload_n 0, 1) := by decide +kernel
theorem dJ3_checkIndex_8e157_1 : decode cJ3_checkIndex_8e157 1 = .ok (.ifCond .lt 8, 3) := by decide +kernel
theorem dJ3_checkIndex_8e157_4 : decode cJ3_checkIndex_8e157 4 = .ok (.iload_n 0, 1) := by decide +kernel
theorem dJ3_checkIndex_8e157_5 : decode cJ3_checkIndex_8e157 5 = .ok (.iload_n 1, 1) := by decide +kernel
theorem dJ3_checkIndex_8e157_6 : decode cJ3_checkIndex_8e157 6 = .ok (.if_icmp .lt 10, 3) := by decide +kernel
theorem dJ3_checkIndex_8e157_9 : decode cJ3_checkIndex_8e157 9 = .ok (.aload_n 2, 1) := by decide +kernel
theorem dJ3_checkIndex_8e157_10 : decode cJ3_checkIndex_8e157 10 = .ok (.iload_n 0, 1) := by decide +kernel
theorem dJ3_checkIndex_8e157_11 : decode cJ3_checkIndex_8e157 11 = .ok (.iload_n 1, 1) := by decide +kernel
theorem dJ3_checkIndex_8e157_12 : decode cJ3_checkIndex_8e157 12 = .ok (.invokestatic 95, 3) := by decide +kernel
theorem dJ3_checkIndex_8e157_15 : decode cJ3_checkIndex_8e157 15 = .ok (.athrow, 1) := by decide +kernel
theorem dJ3_checkIndex_8e157_16 : decode cJ3_checkIndex_8e157 16 = .ok (.iload_n 0, 1) := by decide +kernel
theorem dJ3_checkIndex_8e157_17 : decode cJ3_checkIndex_8e157 17 = .ok (.ireturn, 1) := by decide +kernel
abbrev vwCl : List vw_C := [(RX0, TX0, 3), (RX1, TX1, 10), (RX2, TX2, 12), (RX3, TX3, 9), (RX4, TX4, 5), (RX5, TX5, 5), (RX6, TX6, 7), (RX7, TX7, 9), (RX8, TX8, 2), (RX9, TX9, 4), (RX10, TX10, 12), (RX11, TX11, 47)]
end
section
/-! base: one kind of state, one kind of world, one form of contract -/
abbrev St : Type := (Nat → Int32) × (Nat → Nat → Int32) × (Nat → Int64)
def sS (S : St) (k : Nat) (v : Int32) : St := (upd S.1 k v, S.2)
def sR (S : St) (a : Nat) (f : Nat → Int32) : St := (S.1, va_up S.2.1 a f, S.2.2)
def sA (S : St) (a i : Nat) (v : Int32) : St := sR S a (upd (S.2.1 a) i v)
def sJ (S : St) (i : Nat) (v : Int64) : St := (S.1, S.2.1, vp_updL S.2.2 i v)
def ob {α β : Type} (x : Option α) (f : α → Option β) : Option β := match x with | none => none | some a => f a
theorem ob_e {α β : Type} {x : Option α} {f : α → Option β} {r : β} (h : ob x f = some r) : ∃ a, x = some a ∧ f a = some r := by
  cases x with
  | none => cases h
  | some a => exact ⟨a, rfl, h⟩
theorem ob_s {α β : Type} {a : α} {f : α → Option β} : ob (some a) f = f a := rfl
def lt_ {α β : Type} (x : α) (f : α → Option β) : Option β := f x
theorem lt_e {α β : Type} {x v : α} {f : α → Option β} {r : β} (h : lt_ x f = some r) (e : v = x) : f v = some r := by subst e; exact h
theorem if_t {α : Type} {c : Prop} [Decidable c] {x y : Option α} {r : α} (h : (if c then x else y) = some r) (hc : c) : x = some r := by rw [if_pos hc] at h; exact h
theorem if_f {α : Type} {c : Prop} [Decidable c] {x y : Option α} {r : α} (h : (if c then x else y) = some r) (hc : ¬ c) : y = some r := by rw [if_neg hc] at h; exact h
theorem if_g {α : Type} {c : Prop} [Decidable c] {y : Option α} {r : α} (h : (if c then none else y) = some r) : ¬ c ∧ y = some r := by
  by_cases hc : c
  · rw [if_pos hc] at h; cases h
  · rw [if_neg hc] at h; exact ⟨hc, h⟩
theorem nz {v : Int32} (h : ¬ ¬ (v = 0 ∨ v = 1)) : narrow .boolean (.int v) = .int v := by
  rcases Classical.not_not.mp h with h | h <;> rw [h] <;> rfl
theorem so_i {α : Type} {a b : α} (h : some a = some b) : a = b := Option.some.inj h
abbrev tyl (cc : Nat → ClassId) : List (ClassId × FieldType) := [(cc 0, .int), (cc 1, .byte), (cc 2, .boolean), (cc 3, .long), (cc 4, .array .int), (cc 5, .object "LandReform$Sale")]
def nF : List (String × Nat × String × String × String × String) := [("LandReform", 105, "LandReform$Land", "today", "I", "LandReform"), ("LandReform", 129, "LandReform$Tape", "length", "I", "LandReform"), ("LandReform", 136, "LandReform$Law", "statements", "I", "LandReform"), ("LandReform", 139, "LandReform$Reader", "fault", "I", "LandReform"), ("LandReform", 162, "LandReform$Law", "shares", "I", "LandReform"), ("LandReform", 182, "LandReform$Holding", "members", "I", "LandReform"), ("LandReform", 185, "LandReform$Holding", "standards", "I", "LandReform"), ("LandReform", 188, "LandReform$Holding", "allowed", "I", "LandReform"), ("LandReform", 194, "LandReform$Holding", "size", "I", "LandReform"), ("LandReform", 201, "LandReform$Holding", "keptArea", "I", "LandReform"), ("LandReform", 230, "LandReform$Rings", "closed", "I", "LandReform"), ("LandReform", 239, "LandReform$Land", "size", "I", "LandReform"), ("LandReform", 246, "LandReform$Law", "price", "I", "LandReform"), ("LandReform", 249, "LandReform$Law", "years", "I", "LandReform"), ("LandReform", 263, "LandReform$Sale", "soldField", "I", "LandReform"), ("LandReform", 266, "LandReform$Sale", "buyer", "I", "LandReform"), ("LandReform", 269, "LandReform$Sale", "owed", "I", "LandReform"), ("LandReform", 272, "LandReform$Sale", "paid", "I", "LandReform"), ("LandReform", 275, "LandReform$Sale", "partsLeft", "I", "LandReform"), ("LandReform", 278, "LandReform$Sale", "yearsPutOff", "I", "LandReform"), ("LandReform", 281, "LandReform$People", "size", "I", "LandReform"), ("LandReform", 282, "LandReform$Land", "transfers", "I", "LandReform"), ("LandReform", 285, "LandReform$People", "pairs", "I", "LandReform"), ("LandReform", 32, "LandReform$Tape", "bytes", "[B", "LandReform"), ("LandReform$Holding", 28, "LandReform$Land", "size", "I", "LandReform"), ("LandReform$Holding", 38, "LandReform$Land", "firstOwners", "[I", "LandReform"), ("LandReform$Holding", 47, "LandReform$Land", "transfers", "I", "LandReform"), ("LandReform$Holding", 50, "LandReform$Land", "movedFields", "[I", "LandReform"), ("LandReform$Holding", 53, "LandReform$Land", "receivers", "[I", "LandReform"), ("LandReform$Holding", 56, "LandReform$Land", "days", "[I", "LandReform"), ("LandReform$Holding", 59, "LandReform$Law", "lastFreeDay", "I", "LandReform"), ("LandReform$Holding", 77, "LandReform$Land", "crops", "[I", "LandReform")]
def nM : List (String × Nat × MethodName × String) := [("LandReform", 18, ⟨"LandReform$Land", "<init>", "()V"⟩, "LandReform"), ("LandReform", 25, ⟨"LandReform$Tape", "<init>", "()V"⟩, "LandReform"), ("LandReform", 45, ⟨"LandReform$Holding", "<init>", "()V"⟩, "LandReform"), ("LandReform", 52, ⟨"LandReform$Tenancies", "<init>", "()V"⟩, "LandReform"), ("LandReform", 59, ⟨"LandReform$Giving", "<init>", "()V"⟩, "LandReform"), ("LandReform", 66, ⟨"LandReform$Rings", "<init>", "()V"⟩, "LandReform"), ("LandReform", 9, ⟨"LandReform$People", "<init>", "()V"⟩, "LandReform"), ("LandReform$Giving", 56, ⟨"LandReform", "isBelow", "(II)Z"⟩, "LandReform"), ("LandReform$Holding", 34, ⟨"LandReform", "isBelow", "(II)Z"⟩, "LandReform"), ("LandReform$Land", 43, ⟨"LandReform", "isBelow", "(II)Z"⟩, "LandReform"), ("LandReform$Law", 57, ⟨"LandReform", "isBelow", "(II)Z"⟩, "LandReform"), ("LandReform$People", 26, ⟨"LandReform", "isBelow", "(II)Z"⟩, "LandReform"), ("LandReform$Reader", 31, ⟨"LandReform$Law", "clear", "()V"⟩, "LandReform"), ("LandReform$Reader", 61, ⟨"LandReform$Law", "rule", "(III)V"⟩, "LandReform"), ("LandReform$Rings", 72, ⟨"LandReform", "isBelow", "(II)Z"⟩, "LandReform")]
def nN (U : State) : Prop := (∀ q ∈ nF, va_Nw (.fieldLinkNest q.1 q.2.1 q.2.2.1 q.2.2.2.1 q.2.2.2.2.1 q.2.2.2.2.2) U) ∧ ∀ q ∈ nM, va_Nw (.methodLinkNest q.1 q.2.1 q.2.2.1 q.2.2.2) U
theorem nN.warm {s U : State} (hW : s.WarmedH U.vm) (h : nN s) : nN U := ⟨fun q hq => va_Nw.warmF hW (h.1 q hq), fun q hq => va_Nw.warmM hW (h.2 q hq)⟩
theorem nN.same {u U : State} (hv : u.vm = U.vm) (h : nN u) : nN U := ⟨fun q hq => va_Nw.same rfl hv (h.1 q hq), fun q hq => va_Nw.same rfl hv (h.2 q hq)⟩
theorem nN.f {s : State} {args : Array Value} (h : nN s) (i : Nat) {a : String} {j : Nat} {b n d g : String} (e : nF[i]? = some (a, j, b, n, d, g)) : (Cond.fieldLinkNest a j b n d g).before args s = true := va_Nw.use rfl (h.1 _ (List.mem_of_getElem? e))
theorem nN.m {s : State} (h : nN s) (i : Nat) {a : String} {j : Nat} {x : MethodName} {g : String} (e : nM[i]? = some (a, j, x, g)) : va_Nw (.methodLinkNest a j x g) s := h.2 _ (List.mem_of_getElem? e)
def lenT : List Nat := [2, 1, 7, 6, 3, 6, 4, 5, 5, 6]
def bytT : List (List Int32) := [[105, 115], [59], [99, 101, 105, 108, 105, 110, 103], [102, 97, 109, 105, 108, 121], [100, 97, 121], [101, 120, 101, 109, 112, 116], [115, 111, 105, 108], [112, 114, 105, 99, 101], [121, 101, 97, 114, 115], [115, 104, 97, 114, 101, 115]]
def idxT : List (Nat × String) := [(53, "is"), (59, ";"), (75, "ceiling"), (77, "family"), (79, "day"), (81, "exempt"), (83, "soil"), (85, "price"), (87, "years"), (89, "shares")]
def yT (ak av : Nat → Nat) (A : Nat → Prop) (U : State) (H : Heap) : Prop := vk_S 10 lenT bytT ak av A U H ∧ (∀ (i k : Nat) (t : String), idxT[i]? = some (k, t) → vk_R "LandReform$Reader" k t (ak i) U) ∧ va_Z "java/lang/String" "COMPACT_STRINGS" "Z" (.int 1) A U H ∧ va_Zq "jdk/internal/util/Preconditions" "SIOOBE_FORMATTER" "Ljava/util/function/BiFunction;" A U H
theorem yT.same {ak av : Nat → Nat} {A : Nat → Prop} {u U : State} {H : Heap} (hv : u.vm = U.vm) (h : yT ak av A u H) : yT ak av A U H := ⟨h.1.moved (hv ▸ Vm.Alike.refl u.vm), fun i k t e => vk_R.same hv.symm (h.2.1 i k t e), h.2.2.1.moved (hv ▸ Vm.Alike.refl u.vm), h.2.2.2.moved (hv ▸ Vm.Alike.refl u.vm)⟩
theorem yT.go {ak av : Nat → Nat} {A B : Nat → Prop} {s U : State} {H : Heap} (hW : s.WarmedH U.vm) (hq : ∀ a : Nat, a < s.heap.size → ¬ A a → H[a]? = s.heap[a]?) (hAB : ∀ q, B q → A q) (h : yT ak av A s s.heap) : yT ak av B U H := ⟨((h.1.kept hq).moved hW.alike).narrow hAB, fun i k t e => (h.2.1 i k t e).warm hW, ((h.2.2.1.kept hq).moved hW.alike).narrow hAB, ((h.2.2.2.kept hq).moved hW.alike).narrow hAB⟩
def Wd (D : va_G) (A : Nat → Prop) (H0 H : Heap) (locs : List Loc) (ws : va_W) : Prop := va_P D vwCl ws H ∧ va_D A ws ∧ va_S A H0 H locs
def Bd (D : va_G) (cc : Nat → ClassId) (ak av : Nat → Nat) (A : Nat → Prop) (s : State) : Prop := va_K D vwCl (tyl cc) s ∧ nN s ∧ (∀ q : Nat, s.heap.size ≤ q → A q) ∧ yT ak av A s s.heap
def CPre (D : va_G) (cc : Nat → ClassId) (ak av : Nat → Nat) (ws : va_W) (sz : Nat) (U : State) : Prop := U.heap.size = sz ∧ va_P D vwCl ws U.heap ∧ va_K D vwCl (tyl cc) U ∧ va_D (fun _ => True) ws ∧ nN U ∧ yT ak av (va_A ws sz) U U.heap
def CPost (D : va_G) (w0 w1 : va_W) (sz : Nat) (_ : Unit) (t : State) : Prop := va_P D vwCl w1 t.heap ∧ va_D (va_A w0 sz) w1
def CI (l : Launch) (y : MethodName) (ws : List Cond) (rm : Room) (D : va_G) (cc : Nat → ClassId) (ak av : Nat → Nat) (As : List Value) (w0 w1 : va_W) (r : Int32) : Prop := ∀ sz : Nat, Met l y ws rm (va_Pc As (CPre D cc ak av w0 sz)) (va_Qi (fun r' (_ : Unit) => r' = r) (CPost D w0 w1 sz) (va_A w0 sz)) 0 0 (va_A w0 sz)
def CJ (l : Launch) (y : MethodName) (ws : List Cond) (rm : Room) (D : va_G) (cc : Nat → ClassId) (ak av : Nat → Nat) (As : List Value) (w0 w1 : va_W) (r : Int64) : Prop := ∀ sz : Nat, Met l y ws rm (va_Pc As (CPre D cc ak av w0 sz)) (va_Ql (fun r' (_ : Unit) => r' = r) (CPost D w0 w1 sz) (va_A w0 sz)) 0 0 (va_A w0 sz)
def CV (l : Launch) (y : MethodName) (ws : List Cond) (rm : Room) (D : va_G) (cc : Nat → ClassId) (ak av : Nat → Nat) (As : List Value) (w0 w1 : va_W) : Prop := ∀ sz : Nat, Met l y ws rm (va_Pc As (CPre D cc ak av w0 sz)) (va_Qv (fun (_ : Unit) => True) (CPost D w0 w1 sz) (va_A w0 sz)) 0 0 (va_A w0 sz)
theorem CPre.blind {D : va_G} {cc : Nat → ClassId} {ak av : Nat → Nat} {As : List Value} {ws : va_W} {sz : Nat} : FrameBlind (va_Pc As (CPre D cc ak av ws sz)) := fun a U g mk q => by
  obtain ⟨q0, q1, qP, qK, qD, qN, qY⟩ := q
  exact ⟨q0, q1, qP, va_K.moved (u := U) (U := U.calling g mk a) (Vm.Alike.refl U.vm) qK, qD, nN.same (u := U) (U := U.calling g mk a) rfl qN, yT.same (u := U) (U := U.calling g mk a) rfl qY⟩
theorem Wd.free {D : va_G} {cc : Nat → ClassId} {ak av : Nat → Nat} {A : Nat → Prop} {s : State} {H : Heap} {locs : List Loc} {ws : va_W} (B : Bd D cc ak av A s) (w : Wd D A s.heap H locs ws) : ∀ q, va_A ws H.size q → A q := fun q h => by
  rcases h with ⟨k, e, h⟩ | h
  · exact w.2.1.2 k (q, e) h
  · exact B.2.2.1 q (Nat.le_trans w.2.2.1 h)
theorem Wd.pre {D : va_G} {cc : Nat → ClassId} {ak av : Nat → Nat} {A : Nat → Prop} {s U : State} {H : Heap} {locs : List Loc} {ws : va_W} (B : Bd D cc ak av A s) (w : Wd D A s.heap H locs ws) (hU : U.heap = H) (hW : s.WarmedH U.vm) : CPre D cc ak av ws H.size U := by
  subst hU
  exact ⟨rfl, w.1, va_K.moved hW.alike B.1, w.2.1.weaken (fun _ _ _ _ => trivial), nN.warm hW B.2.1, yT.go hW w.2.2.2.1 (Wd.free B w) B.2.2.2⟩
theorem Wd.post {D : va_G} {cc : Nat → ClassId} {ak av : Nat → Nat} {A : Nat → Prop} {s t : State} {H H1 : Heap} {locs locs1 : List Loc} {w0 w1 : va_W} (B : Bd D cc ak av A s) (w : Wd D A s.heap H locs w0) (ht : t.heap = H1) (hB : CPost D w0 w1 H.size () t) (hS : va_S A s.heap H1 locs1) : Wd D A s.heap H1 locs1 w1 := by
  subst ht
  exact ⟨hB.1, hB.2.weaken (fun k q _ h => Wd.free B w q.1 h), hS⟩
section BASE
variable {p : Program} {l : Launch} {e : Env} {R : Room} {s : State} {m : MethodId} {args : Array Value} {below : List Frame} {meth : Method} {c : Code} {H : Heap} {locs : List Loc} {cells slots : Nat} {Q : State → Prop}
variable {D : va_G} {cc : Nat → ClassId} {ak av : Nat → Nat} {A : Nat → Prop}
variable {pc : Nat} {ls : Array Slot} {rest st : List Value} {c0 bytes : ByteArray} {nL maxL index n : Nat} {Ts ws : List Cond} {own C host : String} {y : MethodName} {ret : Option FieldType} {rm : Room} {As : List Value} {b : Nat} {w0 w1 : va_W}
/-- the answer's rule -/
abbrev RetI (p : Program) (l : Launch) (e : Env) (R : Room) (s : State) (m : MethodId) (args : Array Value) (below : List Frame) (meth : Method) (c : Code) (D : va_G) (A : Nat → Prop) (Q : State → Prop) (c0 : ByteArray) (w1 : va_W) (r : Int32) : Prop := ∀ (pc : Nat) (H : Heap) (locs : List Loc) (ls : Array Slot), decode c0 pc = .ok (.ireturn, 1) → Wd D A s.heap H locs w1 → W p l e R s m args below meth c H locs 0 0 Q (F0 m pc ls [.int r])
abbrev RetZ (p : Program) (l : Launch) (e : Env) (R : Room) (s : State) (m : MethodId) (args : Array Value) (below : List Frame) (meth : Method) (c : Code) (D : va_G) (A : Nat → Prop) (Q : State → Prop) (c0 : ByteArray) (w1 : va_W) (r : Int32) : Prop := ∀ (pc : Nat) (H : Heap) (locs : List Loc) (ls : Array Slot), decode c0 pc = .ok (.ireturn, 1) → narrow .boolean (.int r) = .int r → Wd D A s.heap H locs w1 → W p l e R s m args below meth c H locs 0 0 Q (F0 m pc ls [.int r])
abbrev RetN (ty : FieldType) (p : Program) (l : Launch) (e : Env) (R : Room) (s : State) (m : MethodId) (args : Array Value) (below : List Frame) (meth : Method) (c : Code) (D : va_G) (A : Nat → Prop) (Q : State → Prop) (c0 : ByteArray) (w1 : va_W) (r : Int32) : Prop := ∀ (pc : Nat) (H : Heap) (locs : List Loc) (ls : Array Slot), decode c0 pc = .ok (.ireturn, 1) → narrow ty (.int r) = .int r → Wd D A s.heap H locs w1 → W p l e R s m args below meth c H locs 0 0 Q (F0 m pc ls [.int r])
abbrev RetJ (p : Program) (l : Launch) (e : Env) (R : Room) (s : State) (m : MethodId) (args : Array Value) (below : List Frame) (meth : Method) (c : Code) (D : va_G) (A : Nat → Prop) (Q : State → Prop) (c0 : ByteArray) (w1 : va_W) (r : Int64) : Prop := ∀ (pc : Nat) (H : Heap) (locs : List Loc) (ls : Array Slot), decode c0 pc = .ok (.lreturn, 1) → Wd D A s.heap H locs w1 → W p l e R s m args below meth c H locs 0 0 Q (F0 m pc ls [.long r])
abbrev RetV (p : Program) (l : Launch) (e : Env) (R : Room) (s : State) (m : MethodId) (args : Array Value) (below : List Frame) (meth : Method) (c : Code) (D : va_G) (A : Nat → Prop) (Q : State → Prop) (c0 : ByteArray) (w1 : va_W) : Prop := ∀ (pc : Nat) (H : Heap) (locs : List Loc) (ls : Array Slot), decode c0 pc = .ok (.return_, 1) → Wd D A s.heap H locs w1 → W p l e R s m args below meth c H locs 0 0 Q (F0 m pc ls [])
theorem kVi {r : Int32} (F : CallFix p m c c0 nL s args Ts own) (B : Bd D cc ak av A s) (w : Wd D A s.heap H locs w0) (hM : CI l y ws rm D cc ak av (.ref b :: As) w0 w1 r) (cw : CallW R s args own C index y bytes maxL ret ws rm 0 0 n) (q0 : Nat) {ci : Nat} {fs : List Value} {T : u_T} {N : Nat} (he : w0[q0]? = some (b, .inr (ci, fs))) (hc : vwCl[ci]? = some (C, T, N)) (hn : As.length = n) (hsize : ls.size = nL) (hst : st = As.reverse ++ .ref b :: rest) (hroom : (rest.map fun v => v.category).sum ≤ 8) (hdg : decode c0 pc = .ok (.invokevirtual index, 3)) (hf : cells + 0 ≤ R.cells ∧ slots + 0 ≤ R.slots)
    (kk : ∀ (H1 : Heap) (locs1 : List Loc), Wd D A s.heap H1 locs1 w1 → W p l e R s m args below meth c H1 locs1 cells slots Q (F0 m (pc + 3) ls (.int r :: rest))) : W p l e R s m args below meth c H locs cells slots Q (F0 m pc ls st) := by
  refine va_calli (va_runV (As := As) (rest := rest) F (hM H.size) cw ⟨CPre.blind, va_recv B.1 w.1 hc he, fun U hU hW => ⟨rfl, Wd.pre B w hU hW⟩⟩ rfl hn hsize hst (lv_room hroom) hdg hf) w.2.2 (fun q _ h => Wd.free B w q h) (Wd.free B w) (fun r u t H1 locs1 ht hvm hw hB hz1 hk1 hS => ?_)
  subst hw
  exact kk H1 locs1 (Wd.post B w ht hB hS)
theorem kVl {r : Int64} (F : CallFix p m c c0 nL s args Ts own) (B : Bd D cc ak av A s) (w : Wd D A s.heap H locs w0) (hM : CJ l y ws rm D cc ak av (.ref b :: As) w0 w1 r) (cw : CallW R s args own C index y bytes maxL ret ws rm 0 0 n) (q0 : Nat) {ci : Nat} {fs : List Value} {T : u_T} {N : Nat} (he : w0[q0]? = some (b, .inr (ci, fs))) (hc : vwCl[ci]? = some (C, T, N)) (hn : As.length = n) (hsize : ls.size = nL) (hst : st = As.reverse ++ .ref b :: rest) (hroom : (rest.map fun v => v.category).sum ≤ 8) (hdg : decode c0 pc = .ok (.invokevirtual index, 3)) (hf : cells + 0 ≤ R.cells ∧ slots + 0 ≤ R.slots)
    (kk : ∀ (H1 : Heap) (locs1 : List Loc), Wd D A s.heap H1 locs1 w1 → W p l e R s m args below meth c H1 locs1 cells slots Q (F0 m (pc + 3) ls (.long r :: rest))) : W p l e R s m args below meth c H locs cells slots Q (F0 m pc ls st) := by
  refine va_calll (va_runV (As := As) (rest := rest) F (hM H.size) cw ⟨CPre.blind, va_recv B.1 w.1 hc he, fun U hU hW => ⟨rfl, Wd.pre B w hU hW⟩⟩ rfl hn hsize hst (lv_room hroom) hdg hf) w.2.2 (fun q _ h => Wd.free B w q h) (Wd.free B w) (fun r u t H1 locs1 ht hvm hw hB hz1 hk1 hS => ?_)
  subst hw
  exact kk H1 locs1 (Wd.post B w ht hB hS)
theorem kVv (F : CallFix p m c c0 nL s args Ts own) (B : Bd D cc ak av A s) (w : Wd D A s.heap H locs w0) (hM : CV l y ws rm D cc ak av (.ref b :: As) w0 w1) (cw : CallW R s args own C index y bytes maxL ret ws rm 0 0 n) (q0 : Nat) {ci : Nat} {fs : List Value} {T : u_T} {N : Nat} (he : w0[q0]? = some (b, .inr (ci, fs))) (hc : vwCl[ci]? = some (C, T, N)) (hn : As.length = n) (hsize : ls.size = nL) (hst : st = As.reverse ++ .ref b :: rest) (hroom : (rest.map fun v => v.category).sum ≤ 8) (hdg : decode c0 pc = .ok (.invokevirtual index, 3)) (hf : cells + 0 ≤ R.cells ∧ slots + 0 ≤ R.slots)
    (kk : ∀ (H1 : Heap) (locs1 : List Loc), Wd D A s.heap H1 locs1 w1 → W p l e R s m args below meth c H1 locs1 cells slots Q (F0 m (pc + 3) ls (rest))) : W p l e R s m args below meth c H locs cells slots Q (F0 m pc ls st) := by
  refine va_callv (va_runV (As := As) (rest := rest) F (hM H.size) cw ⟨CPre.blind, va_recv B.1 w.1 hc he, fun U hU hW => ⟨rfl, Wd.pre B w hU hW⟩⟩ rfl hn hsize hst (lv_room hroom) hdg hf) w.2.2 (fun q _ h => Wd.free B w q h) (Wd.free B w) (fun u t H1 locs1 ht hvm hw hB hz1 hk1 hS => ?_)
  exact kk H1 locs1 (Wd.post B w ht hB hS)
theorem kVNi {r : Int32} (F : CallFix p m c c0 nL s args Ts own) (B : Bd D cc ak av A s) (w : Wd D A s.heap H locs w0) (hM : CI l y ws rm D cc ak av (.ref b :: As) w0 w1 r) (cw : va_CN R s args own index y host bytes maxL ret ws rm 0 0 n ∧ (Cond.instanceMethod y).before args s = true ∧ (Cond.selects C y y).before args s = true) (q0 : Nat) {ci : Nat} {fs : List Value} {T : u_T} {N : Nat} (he : w0[q0]? = some (b, .inr (ci, fs))) (hc : vwCl[ci]? = some (C, T, N)) (hn : As.length = n) (hsize : ls.size = nL) (hst : st = As.reverse ++ .ref b :: rest) (hroom : (rest.map fun v => v.category).sum ≤ 8) (hdg : decode c0 pc = .ok (.invokevirtual index, 3)) (hf : cells + 0 ≤ R.cells ∧ slots + 0 ≤ R.slots)
    (kk : ∀ (H1 : Heap) (locs1 : List Loc), Wd D A s.heap H1 locs1 w1 → W p l e R s m args below meth c H1 locs1 cells slots Q (F0 m (pc + 3) ls (.int r :: rest))) : W p l e R s m args below meth c H locs cells slots Q (F0 m pc ls st) := by
  refine va_calli (va_runVN (As := As) (rest := rest) F (hM H.size) cw ⟨CPre.blind, va_recv B.1 w.1 hc he, fun U hU hW => ⟨rfl, Wd.pre B w hU hW⟩⟩ rfl hn hsize hst (lv_room hroom) hdg hf) w.2.2 (fun q _ h => Wd.free B w q h) (Wd.free B w) (fun r u t H1 locs1 ht hvm hw hB hz1 hk1 hS => ?_)
  subst hw
  exact kk H1 locs1 (Wd.post B w ht hB hS)
theorem kVNl {r : Int64} (F : CallFix p m c c0 nL s args Ts own) (B : Bd D cc ak av A s) (w : Wd D A s.heap H locs w0) (hM : CJ l y ws rm D cc ak av (.ref b :: As) w0 w1 r) (cw : va_CN R s args own index y host bytes maxL ret ws rm 0 0 n ∧ (Cond.instanceMethod y).before args s = true ∧ (Cond.selects C y y).before args s = true) (q0 : Nat) {ci : Nat} {fs : List Value} {T : u_T} {N : Nat} (he : w0[q0]? = some (b, .inr (ci, fs))) (hc : vwCl[ci]? = some (C, T, N)) (hn : As.length = n) (hsize : ls.size = nL) (hst : st = As.reverse ++ .ref b :: rest) (hroom : (rest.map fun v => v.category).sum ≤ 8) (hdg : decode c0 pc = .ok (.invokevirtual index, 3)) (hf : cells + 0 ≤ R.cells ∧ slots + 0 ≤ R.slots)
    (kk : ∀ (H1 : Heap) (locs1 : List Loc), Wd D A s.heap H1 locs1 w1 → W p l e R s m args below meth c H1 locs1 cells slots Q (F0 m (pc + 3) ls (.long r :: rest))) : W p l e R s m args below meth c H locs cells slots Q (F0 m pc ls st) := by
  refine va_calll (va_runVN (As := As) (rest := rest) F (hM H.size) cw ⟨CPre.blind, va_recv B.1 w.1 hc he, fun U hU hW => ⟨rfl, Wd.pre B w hU hW⟩⟩ rfl hn hsize hst (lv_room hroom) hdg hf) w.2.2 (fun q _ h => Wd.free B w q h) (Wd.free B w) (fun r u t H1 locs1 ht hvm hw hB hz1 hk1 hS => ?_)
  subst hw
  exact kk H1 locs1 (Wd.post B w ht hB hS)
theorem kVNv (F : CallFix p m c c0 nL s args Ts own) (B : Bd D cc ak av A s) (w : Wd D A s.heap H locs w0) (hM : CV l y ws rm D cc ak av (.ref b :: As) w0 w1) (cw : va_CN R s args own index y host bytes maxL ret ws rm 0 0 n ∧ (Cond.instanceMethod y).before args s = true ∧ (Cond.selects C y y).before args s = true) (q0 : Nat) {ci : Nat} {fs : List Value} {T : u_T} {N : Nat} (he : w0[q0]? = some (b, .inr (ci, fs))) (hc : vwCl[ci]? = some (C, T, N)) (hn : As.length = n) (hsize : ls.size = nL) (hst : st = As.reverse ++ .ref b :: rest) (hroom : (rest.map fun v => v.category).sum ≤ 8) (hdg : decode c0 pc = .ok (.invokevirtual index, 3)) (hf : cells + 0 ≤ R.cells ∧ slots + 0 ≤ R.slots)
    (kk : ∀ (H1 : Heap) (locs1 : List Loc), Wd D A s.heap H1 locs1 w1 → W p l e R s m args below meth c H1 locs1 cells slots Q (F0 m (pc + 3) ls (rest))) : W p l e R s m args below meth c H locs cells slots Q (F0 m pc ls st) := by
  refine va_callv (va_runVN (As := As) (rest := rest) F (hM H.size) cw ⟨CPre.blind, va_recv B.1 w.1 hc he, fun U hU hW => ⟨rfl, Wd.pre B w hU hW⟩⟩ rfl hn hsize hst (lv_room hroom) hdg hf) w.2.2 (fun q _ h => Wd.free B w q h) (Wd.free B w) (fun u t H1 locs1 ht hvm hw hB hz1 hk1 hS => ?_)
  exact kk H1 locs1 (Wd.post B w ht hB hS)
theorem kSi {r : Int32} (F : CallFix p m c c0 nL s args Ts own) (B : Bd D cc ak av A s) (w : Wd D A s.heap H locs w0) (hM : CI l y ws rm D cc ak av As w0 w1 r) (cw : CallB R s args own index y bytes maxL ret ws rm 0 0 n ∧ (Cond.static y).before args s = true) (hn : As.length = n) (hsize : ls.size = nL) (hst : st = As.reverse ++ rest) (hroom : (rest.map fun v => v.category).sum ≤ 8) (hdg : decode c0 pc = .ok (.invokestatic index, 3)) (hf : cells + 0 ≤ R.cells ∧ slots + 0 ≤ R.slots)
    (kk : ∀ (H1 : Heap) (locs1 : List Loc), Wd D A s.heap H1 locs1 w1 → W p l e R s m args below meth c H1 locs1 cells slots Q (F0 m (pc + 3) ls (.int r :: rest))) : W p l e R s m args below meth c H locs cells slots Q (F0 m pc ls st) := by
  refine va_calli (va_runS (As := As) (rest := rest) F (hM H.size) cw ⟨CPre.blind, fun U hU hW => ⟨rfl, Wd.pre B w hU hW⟩⟩ rfl hn hsize hst (lv_room hroom) hdg hf) w.2.2 (fun q _ h => Wd.free B w q h) (Wd.free B w) (fun r u t H1 locs1 ht hvm hw hB hz1 hk1 hS => ?_)
  subst hw
  exact kk H1 locs1 (Wd.post B w ht hB hS)
theorem kSl {r : Int64} (F : CallFix p m c c0 nL s args Ts own) (B : Bd D cc ak av A s) (w : Wd D A s.heap H locs w0) (hM : CJ l y ws rm D cc ak av As w0 w1 r) (cw : CallB R s args own index y bytes maxL ret ws rm 0 0 n ∧ (Cond.static y).before args s = true) (hn : As.length = n) (hsize : ls.size = nL) (hst : st = As.reverse ++ rest) (hroom : (rest.map fun v => v.category).sum ≤ 8) (hdg : decode c0 pc = .ok (.invokestatic index, 3)) (hf : cells + 0 ≤ R.cells ∧ slots + 0 ≤ R.slots)
    (kk : ∀ (H1 : Heap) (locs1 : List Loc), Wd D A s.heap H1 locs1 w1 → W p l e R s m args below meth c H1 locs1 cells slots Q (F0 m (pc + 3) ls (.long r :: rest))) : W p l e R s m args below meth c H locs cells slots Q (F0 m pc ls st) := by
  refine va_calll (va_runS (As := As) (rest := rest) F (hM H.size) cw ⟨CPre.blind, fun U hU hW => ⟨rfl, Wd.pre B w hU hW⟩⟩ rfl hn hsize hst (lv_room hroom) hdg hf) w.2.2 (fun q _ h => Wd.free B w q h) (Wd.free B w) (fun r u t H1 locs1 ht hvm hw hB hz1 hk1 hS => ?_)
  subst hw
  exact kk H1 locs1 (Wd.post B w ht hB hS)
theorem kSv (F : CallFix p m c c0 nL s args Ts own) (B : Bd D cc ak av A s) (w : Wd D A s.heap H locs w0) (hM : CV l y ws rm D cc ak av As w0 w1) (cw : CallB R s args own index y bytes maxL ret ws rm 0 0 n ∧ (Cond.static y).before args s = true) (hn : As.length = n) (hsize : ls.size = nL) (hst : st = As.reverse ++ rest) (hroom : (rest.map fun v => v.category).sum ≤ 8) (hdg : decode c0 pc = .ok (.invokestatic index, 3)) (hf : cells + 0 ≤ R.cells ∧ slots + 0 ≤ R.slots)
    (kk : ∀ (H1 : Heap) (locs1 : List Loc), Wd D A s.heap H1 locs1 w1 → W p l e R s m args below meth c H1 locs1 cells slots Q (F0 m (pc + 3) ls (rest))) : W p l e R s m args below meth c H locs cells slots Q (F0 m pc ls st) := by
  refine va_callv (va_runS (As := As) (rest := rest) F (hM H.size) cw ⟨CPre.blind, fun U hU hW => ⟨rfl, Wd.pre B w hU hW⟩⟩ rfl hn hsize hst (lv_room hroom) hdg hf) w.2.2 (fun q _ h => Wd.free B w q h) (Wd.free B w) (fun u t H1 locs1 ht hvm hw hB hz1 hk1 hS => ?_)
  exact kk H1 locs1 (Wd.post B w ht hB hS)
theorem kSNi {r : Int32} (F : CallFix p m c c0 nL s args Ts own) (B : Bd D cc ak av A s) (w : Wd D A s.heap H locs w0) (hM : CI l y ws rm D cc ak av As w0 w1 r) (cw : va_CN R s args own index y host bytes maxL ret ws rm 0 0 n ∧ (Cond.static y).before args s = true ∧ True) (hn : As.length = n) (hsize : ls.size = nL) (hst : st = As.reverse ++ rest) (hroom : (rest.map fun v => v.category).sum ≤ 8) (hdg : decode c0 pc = .ok (.invokestatic index, 3)) (hf : cells + 0 ≤ R.cells ∧ slots + 0 ≤ R.slots)
    (kk : ∀ (H1 : Heap) (locs1 : List Loc), Wd D A s.heap H1 locs1 w1 → W p l e R s m args below meth c H1 locs1 cells slots Q (F0 m (pc + 3) ls (.int r :: rest))) : W p l e R s m args below meth c H locs cells slots Q (F0 m pc ls st) := by
  refine va_calli (va_runSN (As := As) (rest := rest) F (hM H.size) cw ⟨CPre.blind, fun U hU hW => ⟨rfl, Wd.pre B w hU hW⟩⟩ rfl hn hsize hst (lv_room hroom) hdg hf) w.2.2 (fun q _ h => Wd.free B w q h) (Wd.free B w) (fun r u t H1 locs1 ht hvm hw hB hz1 hk1 hS => ?_)
  subst hw
  exact kk H1 locs1 (Wd.post B w ht hB hS)
theorem kSNl {r : Int64} (F : CallFix p m c c0 nL s args Ts own) (B : Bd D cc ak av A s) (w : Wd D A s.heap H locs w0) (hM : CJ l y ws rm D cc ak av As w0 w1 r) (cw : va_CN R s args own index y host bytes maxL ret ws rm 0 0 n ∧ (Cond.static y).before args s = true ∧ True) (hn : As.length = n) (hsize : ls.size = nL) (hst : st = As.reverse ++ rest) (hroom : (rest.map fun v => v.category).sum ≤ 8) (hdg : decode c0 pc = .ok (.invokestatic index, 3)) (hf : cells + 0 ≤ R.cells ∧ slots + 0 ≤ R.slots)
    (kk : ∀ (H1 : Heap) (locs1 : List Loc), Wd D A s.heap H1 locs1 w1 → W p l e R s m args below meth c H1 locs1 cells slots Q (F0 m (pc + 3) ls (.long r :: rest))) : W p l e R s m args below meth c H locs cells slots Q (F0 m pc ls st) := by
  refine va_calll (va_runSN (As := As) (rest := rest) F (hM H.size) cw ⟨CPre.blind, fun U hU hW => ⟨rfl, Wd.pre B w hU hW⟩⟩ rfl hn hsize hst (lv_room hroom) hdg hf) w.2.2 (fun q _ h => Wd.free B w q h) (Wd.free B w) (fun r u t H1 locs1 ht hvm hw hB hz1 hk1 hS => ?_)
  subst hw
  exact kk H1 locs1 (Wd.post B w ht hB hS)
theorem kSNv (F : CallFix p m c c0 nL s args Ts own) (B : Bd D cc ak av A s) (w : Wd D A s.heap H locs w0) (hM : CV l y ws rm D cc ak av As w0 w1) (cw : va_CN R s args own index y host bytes maxL ret ws rm 0 0 n ∧ (Cond.static y).before args s = true ∧ True) (hn : As.length = n) (hsize : ls.size = nL) (hst : st = As.reverse ++ rest) (hroom : (rest.map fun v => v.category).sum ≤ 8) (hdg : decode c0 pc = .ok (.invokestatic index, 3)) (hf : cells + 0 ≤ R.cells ∧ slots + 0 ≤ R.slots)
    (kk : ∀ (H1 : Heap) (locs1 : List Loc), Wd D A s.heap H1 locs1 w1 → W p l e R s m args below meth c H1 locs1 cells slots Q (F0 m (pc + 3) ls (rest))) : W p l e R s m args below meth c H locs cells slots Q (F0 m pc ls st) := by
  refine va_callv (va_runSN (As := As) (rest := rest) F (hM H.size) cw ⟨CPre.blind, fun U hU hW => ⟨rfl, Wd.pre B w hU hW⟩⟩ rfl hn hsize hst (lv_room hroom) hdg hf) w.2.2 (fun q _ h => Wd.free B w q h) (Wd.free B w) (fun u t H1 locs1 ht hvm hw hB hz1 hk1 hS => ?_)
  exact kk H1 locs1 (Wd.post B w ht hB hS)
theorem kput (F : CallFix p m c c0 nL s args Ts own) (B : Bd D cc ak av A s) (w : Wd D A s.heap H locs w0) {ref C : String} {T : u_T} {N ci : Nat} (hin : ∀ w ∈ u_ws C T N, w ∈ Ts) (ty0 : Nat → FieldType) (hty : ∀ k, k < N → parseFieldDescriptor (T k).2.2.1 = some (ty0 k)) (hnm : ∀ a, a < N → ∀ b, b < N → a ≠ b → (T a).2.1 ≠ (T b).2.1) (q0 : Nat) {fs : List Value} (he : w0[q0]? = some (b, .inr (ci, fs))) (hc : vwCl[ci]? = some (C, T, N)) (k : Nat) (hk : k < N) (hlink : (Cond.fieldLink own index ref (T k).2.1 (T k).2.2.1).before args s = true) (hsame : (T k).1 = ref) (hfin : (T k).2.2.2 = false) {ty : FieldType} {v : Value} (hd : parseFieldDescriptor (T k).2.2.1 = some ty) (hn : narrow ty v = v) (hfit : fits ty v = true) (hl : k < fs.length) (hw : w0.set q0 (b, .inr (ci, fs.set k v)) = w1)
    (hdg : decode c0 pc = .ok (.putfield index, 3)) (kk : ∀ (H1 : Heap) (locs1 : List Loc), Wd D A s.heap H1 locs1 w1 → W p l e R s m args below meth c H1 locs1 cells slots Q (F0 m (pc + 3) ls rest)) : W p l e R s m args below meth c H locs cells slots Q (F0 m pc ls (v :: .ref b :: rest)) := by
  subst hw
  exact va_put (ref := ref) F.1 F.2.1 F.2.2.2.2 hin ty0 hty hnm F.2.2.2.1 B.1 w.1 w.2.1 w.2.2 q0 he hc k hk hlink (fun x h => by rw [← hsame]; exact h) hfin hd hn hfit hl hdg (fun H1 locs1 hP hD hS => kk H1 locs1 ⟨hP, hD, hS⟩)
theorem kputN (F : CallFix p m c c0 nL s args Ts own) (B : Bd D cc ak av A s) (w : Wd D A s.heap H locs w0) {ref C : String} {T : u_T} {N ci : Nat} (hin : ∀ w ∈ u_ws C T N, w ∈ Ts) (ty0 : Nat → FieldType) (hty : ∀ k, k < N → parseFieldDescriptor (T k).2.2.1 = some (ty0 k)) (hnm : ∀ a, a < N → ∀ b, b < N → a ≠ b → (T a).2.1 ≠ (T b).2.1) (q0 : Nat) {fs : List Value} (he : w0[q0]? = some (b, .inr (ci, fs))) (hc : vwCl[ci]? = some (C, T, N)) (k : Nat) (hk : k < N) (hlink : (Cond.fieldLinkNest own index ref (T k).2.1 (T k).2.2.1 host).before args s = true) (hsame : (T k).1 = ref) (hfin : (T k).2.2.2 = false) {ty : FieldType} {v : Value} (hd : parseFieldDescriptor (T k).2.2.1 = some ty) (hn : narrow ty v = v) (hfit : fits ty v = true) (hl : k < fs.length) (hw : w0.set q0 (b, .inr (ci, fs.set k v)) = w1)
    (hdg : decode c0 pc = .ok (.putfield index, 3)) (kk : ∀ (H1 : Heap) (locs1 : List Loc), Wd D A s.heap H1 locs1 w1 → W p l e R s m args below meth c H1 locs1 cells slots Q (F0 m (pc + 3) ls rest)) : W p l e R s m args below meth c H locs cells slots Q (F0 m pc ls (v :: .ref b :: rest)) := by
  subst hw
  exact va_putN (ref := ref) F.1 F.2.1 F.2.2.2.2 hin ty0 hty hnm F.2.2.2.1 B.1 w.1 w.2.1 w.2.2 q0 he hc k hk hlink (fun x h => by rw [← hsame]; exact h) hfin hd hn hfit hl hdg (fun H1 locs1 hP hD hS => kk H1 locs1 ⟨hP, hD, hS⟩)
theorem kget (F : CallFix p m c c0 nL s args Ts own) (B : Bd D cc ak av A s) (w : Wd D A s.heap H locs w0) {ref C : String} {T : u_T} {N ci : Nat} (hin : ∀ w ∈ u_ws C T N, w ∈ Ts) (q0 : Nat) {fs : List Value} (he : w0[q0]? = some (b, .inr (ci, fs))) (hc : vwCl[ci]? = some (C, T, N)) (k : Nat) (hk : k < N) (hlink : (Cond.fieldLink own index ref (T k).2.1 (T k).2.2.1).before args s = true) (hsame : (T k).1 = ref) {v : Value} (hv : fs[k]? = some v)
    (hdg : decode c0 pc = .ok (.getfield index, 3)) (kk : W p l e R s m args below meth c H locs cells slots Q (F0 m (pc + 3) ls (v :: rest))) : W p l e R s m args below meth c H locs cells slots Q (F0 m pc ls (.ref b :: rest)) :=
  va_get (ref := ref) F.1 F.2.1 F.2.2.2.2 hin F.2.2.2.1 B.1 w.1 q0 he hc k hk hlink (fun x h => by rw [← hsame]; exact h) hv hdg kk
theorem kgetN (F : CallFix p m c c0 nL s args Ts own) (B : Bd D cc ak av A s) (w : Wd D A s.heap H locs w0) {ref C : String} {T : u_T} {N ci : Nat} (hin : ∀ w ∈ u_ws C T N, w ∈ Ts) (q0 : Nat) {fs : List Value} (he : w0[q0]? = some (b, .inr (ci, fs))) (hc : vwCl[ci]? = some (C, T, N)) (k : Nat) (hk : k < N) (hlink : (Cond.fieldLinkNest own index ref (T k).2.1 (T k).2.2.1 host).before args s = true) (hsame : (T k).1 = ref) {v : Value} (hv : fs[k]? = some v)
    (hdg : decode c0 pc = .ok (.getfield index, 3)) (kk : W p l e R s m args below meth c H locs cells slots Q (F0 m (pc + 3) ls (v :: rest))) : W p l e R s m args below meth c H locs cells slots Q (F0 m pc ls (.ref b :: rest)) :=
  va_getN (ref := ref) F.1 F.2.1 F.2.2.2.2 hin F.2.2.2.1 B.1 w.1 q0 he hc k hk hlink (fun x h => by rw [← hsame]; exact h) hv hdg kk
theorem kiald (F : CallFix p m c c0 nL s args Ts own) (B : Bd D cc ak av A s) (w : Wd D A s.heap H locs w0) (q0 : Nat) {N : Nat} {f : Nat → Int32} (ha : w0[q0]? = some (b, .inl (cc 0, N, .inl f))) {i : Int32} (hin : ¬ (i < 0 ∨ N ≤ i.toNatClampNeg)) (hdg : decode c0 pc = .ok (.iaload, 1))
    (kk : W p l e R s m args below meth c H locs cells slots Q (F0 m (pc + 1) ls (.int (f i.toNatClampNeg) :: rest))) : W p l e R s m args below meth c H locs cells slots Q (F0 m pc ls (.int i :: .ref b :: rest)) := va_iald F.1 F.2.1 B.1 w.1 q0 0 ha rfl hin hdg kk
theorem kiast (F : CallFix p m c c0 nL s args Ts own) (B : Bd D cc ak av A s) (w : Wd D A s.heap H locs w0) (q0 : Nat) {N : Nat} {f : Nat → Int32} (ha : w0[q0]? = some (b, .inl (cc 0, N, .inl f))) {i x : Int32} (hin : ¬ (i < 0 ∨ N ≤ i.toNatClampNeg)) (hw : w0.set q0 (b, .inl (cc 0, N, .inl (upd f i.toNatClampNeg x))) = w1) (hdg : decode c0 pc = .ok (.iastore, 1))
    (kk : ∀ (H1 : Heap) (locs1 : List Loc), Wd D A s.heap H1 locs1 w1 → W p l e R s m args below meth c H1 locs1 cells slots Q (F0 m (pc + 1) ls rest)) : W p l e R s m args below meth c H locs cells slots Q (F0 m pc ls (.int x :: .int i :: .ref b :: rest)) := by
  subst hw
  exact va_iast F.1 F.2.1 B.1 w.1 w.2.1 w.2.2 q0 0 ha rfl hin hdg (fun H1 locs1 hP hD hS => kk H1 locs1 ⟨hP, hD, hS⟩)
theorem kbald (F : CallFix p m c c0 nL s args Ts own) (B : Bd D cc ak av A s) (w : Wd D A s.heap H locs w0) (q0 : Nat) {N : Nat} {f : Nat → Int32} (ha : w0[q0]? = some (b, .inl (cc 1, N, .inl f))) {i : Int32} (hin : ¬ (i < 0 ∨ N ≤ i.toNatClampNeg)) (hdg : decode c0 pc = .ok (.baload, 1))
    (kk : W p l e R s m args below meth c H locs cells slots Q (F0 m (pc + 1) ls (.int (f i.toNatClampNeg) :: rest))) : W p l e R s m args below meth c H locs cells slots Q (F0 m pc ls (.int i :: .ref b :: rest)) := va_bald F.1 F.2.1 B.1 w.1 q0 1 ha rfl hin hdg kk
theorem kbast (F : CallFix p m c c0 nL s args Ts own) (B : Bd D cc ak av A s) (w : Wd D A s.heap H locs w0) (q0 : Nat) {N : Nat} {f : Nat → Int32} (ha : w0[q0]? = some (b, .inl (cc 1, N, .inl f))) {i x : Int32} (hin : ¬ (i < 0 ∨ N ≤ i.toNatClampNeg)) (hw : w0.set q0 (b, .inl (cc 1, N, .inl (upd f i.toNatClampNeg (vp_nar .byte x)))) = w1) (hdg : decode c0 pc = .ok (.bastore, 1))
    (kk : ∀ (H1 : Heap) (locs1 : List Loc), Wd D A s.heap H1 locs1 w1 → W p l e R s m args below meth c H1 locs1 cells slots Q (F0 m (pc + 1) ls rest)) : W p l e R s m args below meth c H locs cells slots Q (F0 m pc ls (.int x :: .int i :: .ref b :: rest)) := by
  subst hw
  exact va_bast F.1 F.2.1 B.1 w.1 w.2.1 w.2.2 q0 1 ha rfl hin hdg (fun H1 locs1 hP hD hS => kk H1 locs1 ⟨hP, hD, hS⟩)
theorem kzald (F : CallFix p m c c0 nL s args Ts own) (B : Bd D cc ak av A s) (w : Wd D A s.heap H locs w0) (q0 : Nat) {N : Nat} {f : Nat → Int32} (ha : w0[q0]? = some (b, .inl (cc 2, N, .inl f))) {i : Int32} (hin : ¬ (i < 0 ∨ N ≤ i.toNatClampNeg)) (hdg : decode c0 pc = .ok (.baload, 1))
    (kk : W p l e R s m args below meth c H locs cells slots Q (F0 m (pc + 1) ls (.int (f i.toNatClampNeg) :: rest))) : W p l e R s m args below meth c H locs cells slots Q (F0 m pc ls (.int i :: .ref b :: rest)) := va_zald F.1 F.2.1 B.1 w.1 q0 2 ha rfl hin hdg kk
theorem kzast (F : CallFix p m c c0 nL s args Ts own) (B : Bd D cc ak av A s) (w : Wd D A s.heap H locs w0) (q0 : Nat) {N : Nat} {f : Nat → Int32} (ha : w0[q0]? = some (b, .inl (cc 2, N, .inl f))) {i x : Int32} (hin : ¬ (i < 0 ∨ N ≤ i.toNatClampNeg)) (hw : w0.set q0 (b, .inl (cc 2, N, .inl (upd f i.toNatClampNeg (vp_nar .boolean x)))) = w1) (hdg : decode c0 pc = .ok (.bastore, 1))
    (kk : ∀ (H1 : Heap) (locs1 : List Loc), Wd D A s.heap H1 locs1 w1 → W p l e R s m args below meth c H1 locs1 cells slots Q (F0 m (pc + 1) ls rest)) : W p l e R s m args below meth c H locs cells slots Q (F0 m pc ls (.int x :: .int i :: .ref b :: rest)) := by
  subst hw
  exact va_zast F.1 F.2.1 B.1 w.1 w.2.1 w.2.2 q0 2 ha rfl hin hdg (fun H1 locs1 hP hD hS => kk H1 locs1 ⟨hP, hD, hS⟩)
theorem klald (F : CallFix p m c c0 nL s args Ts own) (B : Bd D cc ak av A s) (w : Wd D A s.heap H locs w0) (q0 : Nat) {N : Nat} {f : Nat → Int64} (ha : w0[q0]? = some (b, .inl (cc 3, N, .inr (.inl f)))) {i : Int32} (hin : ¬ (i < 0 ∨ N ≤ i.toNatClampNeg)) (hdg : decode c0 pc = .ok (.laload, 1))
    (kk : W p l e R s m args below meth c H locs cells slots Q (F0 m (pc + 1) ls (.long (f i.toNatClampNeg) :: rest))) : W p l e R s m args below meth c H locs cells slots Q (F0 m pc ls (.int i :: .ref b :: rest)) := va_lald F.1 F.2.1 B.1 w.1 q0 3 ha rfl hin hdg kk
theorem klast (F : CallFix p m c c0 nL s args Ts own) (B : Bd D cc ak av A s) (w : Wd D A s.heap H locs w0) (q0 : Nat) {N : Nat} {f : Nat → Int64} (ha : w0[q0]? = some (b, .inl (cc 3, N, .inr (.inl f)))) {i : Int32} {x : Int64} (hin : ¬ (i < 0 ∨ N ≤ i.toNatClampNeg)) (hw : w0.set q0 (b, .inl (cc 3, N, .inr (.inl (vp_updL f i.toNatClampNeg x)))) = w1) (hdg : decode c0 pc = .ok (.lastore, 1))
    (kk : ∀ (H1 : Heap) (locs1 : List Loc), Wd D A s.heap H1 locs1 w1 → W p l e R s m args below meth c H1 locs1 cells slots Q (F0 m (pc + 1) ls rest)) : W p l e R s m args below meth c H locs cells slots Q (F0 m pc ls (.long x :: .int i :: .ref b :: rest)) := by
  subst hw
  exact va_last F.1 F.2.1 B.1 w.1 w.2.1 w.2.2 q0 3 ha rfl hin hdg (fun H1 locs1 hP hD hS => kk H1 locs1 ⟨hP, hD, hS⟩)
theorem kalen (F : CallFix p m c c0 nL s args Ts own) (B : Bd D cc ak av A s) (w : Wd D A s.heap H locs w0) (q0 t0 : Nat) {x : vp_A} {ty : FieldType} (ha : w0[q0]? = some (b, .inl (cc t0, x))) (ht : (tyl cc)[t0]? = some (cc t0, ty)) {v : Int32} (hv : Int32.ofNat x.1 = v) (hdg : decode c0 pc = .ok (.arraylength, 1))
    (kk : W p l e R s m args below meth c H locs cells slots Q (F0 m (pc + 1) ls (.int v :: rest))) : W p l e R s m args below meth c H locs cells slots Q (F0 m pc ls (.ref b :: rest)) := va_alen F.1 F.2.1 B.1 w.1 q0 t0 ha ht hv hdg kk
theorem kgald (F : CallFix p m c c0 nL s args Ts own) (B : Bd D cc ak av A s) (w : Wd D A s.heap H locs w0) (q0 : Nat) {N v : Nat} {f : Nat → Option Nat} (ha : w0[q0]? = some (b, .inl (cc 4, N, .inr (.inr (.inr (.inr f)))))) {i : Int32} (hin : ¬ (i < 0 ∨ N ≤ i.toNatClampNeg)) (hv : f i.toNatClampNeg = some v) (hdg : decode c0 pc = .ok (.aaload, 1))
    (kk : W p l e R s m args below meth c H locs cells slots Q (F0 m (pc + 1) ls (.ref v :: rest))) : W p l e R s m args below meth c H locs cells slots Q (F0 m pc ls (.int i :: .ref b :: rest)) := by
  have hlt : i.toNatClampNeg < N := Nat.not_le.mp fun q => hin (Or.inr q)
  exact W.aald (v := .ref v) (ty := .array .int) F.1 F.2.1 (w.1 q0 _ ha) ((B.1.2 4 _ rfl).1 N (fun j => va_rf (f j))) rfl (fun q => by cases q) (by show ¬ (i < 0 ∨ (arrV _ _ _).slots.size ≤ _); rw [arrV_size]; exact hin) (by show (arrV _ _ _).slots[_]? = _; rw [arrV_read _ _ hlt, hv]; rfl) rfl rfl hdg kk
theorem kcopy (F : CallFix p m c c0 nL s args Ts own) (B : Bd D cc ak av A s) (w : Wd D A s.heap H locs w0) (hl : ls.size = nL) (hlink : (Cond.methodLink own index arraycopyName).before args s = true) (hnat : (Cond.native arraycopyName).before args s = true) (hstat : (Cond.static arraycopyName).before args s = true) (hini : (Cond.initialized "java/lang/System").before args s = true) (q0 q1 : Nat) {a0 n0 n1 : Nat} {f g : Nat → Int32} (ha0 : w0[q0]? = some (a0, .inl (cc 0, n0, .inl f))) (ha1 : w0[q1]? = some (b, .inl (cc 0, n1, .inl g)))
    {x : Int32} (h3 : ¬ (x < 0 ∨ n0 < x.toNatClampNeg ∨ n1 < x.toNatClampNeg)) (hframes : 1 ≤ R.frames) (hlocals : (rest.map fun v => v.category).sum + (nativeFrameWords "java/lang/System" "arraycopy" 5 + 11) ≤ R.locals) (hw : w0.set q1 (b, .inl (cc 0, n1, .inl (va_cpy f g 0 0 x.toNatClampNeg))) = w1) (hdg : decode c0 pc = .ok (.invokestatic index, 3))
    (kk : ∀ (H1 : Heap) (locs1 : List Loc), Wd D A s.heap H1 locs1 w1 → W p l e R s m args below meth c H1 locs1 cells slots Q (F0 m (pc + 3) ls rest)) : W p l e R s m args below meth c H locs cells slots Q (F0 m pc ls (.int x :: .int 0 :: .ref b :: .int 0 :: .ref a0 :: rest)) := by
  subst hw
  have h0 : (0 : Int32).toNatClampNeg = 0 := rfl
  refine va_copyi F.1 F.2.1 (by rw [hl]; exact F.2.2.1) F.2.2.2.1 hlink hnat hstat hini B.1 w.1 w.2.1 w.2.2 q0 q1 0 0 ha0 ha1 rfl rfl rfl (by decide) (by decide) (fun q => h3 (Or.inl q)) ?_ ?_ (fun i _ => rfl) hframes hlocals hdg (fun H1 locs1 hP hD hS => kk H1 locs1 ⟨hP, hD, hS⟩)
  · rw [h0]; omega
  · rw [h0]; omega
theorem mkI {ws ws' : List Cond} {rm : Room} (hrc : rm.cells = 0) (hrs : rm.slots = 0) (hy : plainName y.cls = true)  {r : Int32} (hw : ws = Cond.code y c0 nL (some .int) :: ws') (hown : y.cls = own) (hal : (lg_sl As).length ≤ nL)
    (walk : ∀ (p : Program) (e : Env) (s : State) (m : MethodId) (args : Array Value) (below : List Frame) (meth : Method) (c : Code) (A : Nat → Prop) (Q : State → Prop) (ls : Array Slot), CallFix p m c c0 nL s args ws own → Bd D cc ak av A s → RetI p l e rm s m args below meth c D A Q c0 w1 r → lv_has ls nL (lv_args 0 As) → Wd D A s.heap s.heap [] w0 → W p l e rm s m args below meth c s.heap [] 0 0 Q (F0 m 0 ls [])) : CI l y ws rm D cc ak av As w0 w1 r := by
  intro sz
  refine Met.ofW (cc := c0) (maxL := nL) (ret := some .int) hy hw ?_
  intro p e s m args below meth c s₁ B hml hv
  obtain ⟨rfl, hsz, hP, hK, hD0, hN, hY⟩ := hv
  have hx := B.exec
  have hb := B.bytes
  have hr := B.returns
  have hts := atoms_spec (ws := ws) B.pre
  have hown2 : s.vm.findClass own = some m.cls := by rw [← hown]; exact findClass_of_methodNamed B.named
  have hlocks := B.notSynchronized
  subst hsz
  have hl := lv_entry As (n := nL) hal
  rw [lg_entry_eq]
  generalize (lg_sl As ++ List.replicate (nL - (lg_sl As).length) Slot.unset).toArray = ls at hl ⊢
  refine walk p e s m _ below meth c (va_A w0 s.heap.size) _ ls ⟨hx, hb, hml, hown2, hts⟩ ⟨hK, hN, fun q h => Or.inr h, hY⟩ ?_ hl ⟨hP, hD0.self, va_S.rf⟩
  intro pc H locs ls hdg w
  exact W.iret (v := r) hx hb hr (fun t ht hW => ⟨⟨r, (), rfl, rfl, by rw [ht]; exact w.1, w.2.1⟩, w.2.2.F ht⟩) w.2.2.2.2 hdg
theorem mkZ {ws ws' : List Cond} {rm : Room} (hrc : rm.cells = 0) (hrs : rm.slots = 0) (hy : plainName y.cls = true)  {r : Int32} (hw : ws = Cond.code y c0 nL (some .boolean) :: ws') (hown : y.cls = own) (hal : (lg_sl As).length ≤ nL)
    (walk : ∀ (p : Program) (e : Env) (s : State) (m : MethodId) (args : Array Value) (below : List Frame) (meth : Method) (c : Code) (A : Nat → Prop) (Q : State → Prop) (ls : Array Slot), CallFix p m c c0 nL s args ws own → Bd D cc ak av A s → RetZ p l e rm s m args below meth c D A Q c0 w1 r → lv_has ls nL (lv_args 0 As) → Wd D A s.heap s.heap [] w0 → W p l e rm s m args below meth c s.heap [] 0 0 Q (F0 m 0 ls [])) : CI l y ws rm D cc ak av As w0 w1 r := by
  intro sz
  refine Met.ofW (cc := c0) (maxL := nL) (ret := some .boolean) hy hw ?_
  intro p e s m args below meth c s₁ B hml hv
  obtain ⟨rfl, hsz, hP, hK, hD0, hN, hY⟩ := hv
  have hx := B.exec
  have hb := B.bytes
  have hr := B.returns
  have hts := atoms_spec (ws := ws) B.pre
  have hown2 : s.vm.findClass own = some m.cls := by rw [← hown]; exact findClass_of_methodNamed B.named
  have hlocks := B.notSynchronized
  subst hsz
  have hl := lv_entry As (n := nL) hal
  rw [lg_entry_eq]
  generalize (lg_sl As ++ List.replicate (nL - (lg_sl As).length) Slot.unset).toArray = ls at hl ⊢
  refine walk p e s m _ below meth c (va_A w0 s.heap.size) _ ls ⟨hx, hb, hml, hown2, hts⟩ ⟨hK, hN, fun q h => Or.inr h, hY⟩ ?_ hl ⟨hP, hD0.self, va_S.rf⟩
  intro pc H locs ls hdg hnar w
  exact W.zret (v := r) hx hb hr hnar (fun t ht hW => ⟨⟨r, (), rfl, rfl, by rw [ht]; exact w.1, w.2.1⟩, w.2.2.F ht⟩) w.2.2.2.2 hdg
theorem mkN {ws ws' : List Cond} {rm : Room} (hrc : rm.cells = 0) (hrs : rm.slots = 0) (hy : plainName y.cls = true)  {r : Int32} {ty : FieldType} (hw : ws = Cond.code y c0 nL (some ty) :: ws') (hown : y.cls = own) (hal : (lg_sl As).length ≤ nL)
    (walk : ∀ (p : Program) (e : Env) (s : State) (m : MethodId) (args : Array Value) (below : List Frame) (meth : Method) (c : Code) (A : Nat → Prop) (Q : State → Prop) (ls : Array Slot), CallFix p m c c0 nL s args ws own → Bd D cc ak av A s → RetN ty p l e rm s m args below meth c D A Q c0 w1 r → lv_has ls nL (lv_args 0 As) → Wd D A s.heap s.heap [] w0 → W p l e rm s m args below meth c s.heap [] 0 0 Q (F0 m 0 ls [])) : CI l y ws rm D cc ak av As w0 w1 r := by
  intro sz
  refine Met.ofW (cc := c0) (maxL := nL) (ret := some ty) hy hw ?_
  intro p e s m args below meth c s₁ B hml hv
  obtain ⟨rfl, hsz, hP, hK, hD0, hN, hY⟩ := hv
  have hx := B.exec
  have hb := B.bytes
  have hr := B.returns
  have hts := atoms_spec (ws := ws) B.pre
  have hown2 : s.vm.findClass own = some m.cls := by rw [← hown]; exact findClass_of_methodNamed B.named
  have hlocks := B.notSynchronized
  subst hsz
  have hl := lv_entry As (n := nL) hal
  rw [lg_entry_eq]
  generalize (lg_sl As ++ List.replicate (nL - (lg_sl As).length) Slot.unset).toArray = ls at hl ⊢
  refine walk p e s m _ below meth c (va_A w0 s.heap.size) _ ls ⟨hx, hb, hml, hown2, hts⟩ ⟨hK, hN, fun q h => Or.inr h, hY⟩ ?_ hl ⟨hP, hD0.self, va_S.rf⟩
  intro pc H locs ls hdg hnar w
  exact W.zret (v := r) hx hb hr hnar (fun t ht hW => ⟨⟨r, (), rfl, rfl, by rw [ht]; exact w.1, w.2.1⟩, w.2.2.F ht⟩) w.2.2.2.2 hdg
theorem mkJ {ws ws' : List Cond} {rm : Room} (hrc : rm.cells = 0) (hrs : rm.slots = 0) (hy : plainName y.cls = true)  {r : Int64} (hw : ws = Cond.code y c0 nL (some .long) :: ws') (hown : y.cls = own) (hal : (lg_sl As).length ≤ nL)
    (walk : ∀ (p : Program) (e : Env) (s : State) (m : MethodId) (args : Array Value) (below : List Frame) (meth : Method) (c : Code) (A : Nat → Prop) (Q : State → Prop) (ls : Array Slot), CallFix p m c c0 nL s args ws own → Bd D cc ak av A s → RetJ p l e rm s m args below meth c D A Q c0 w1 r → lv_has ls nL (lv_args 0 As) → Wd D A s.heap s.heap [] w0 → W p l e rm s m args below meth c s.heap [] 0 0 Q (F0 m 0 ls [])) : CJ l y ws rm D cc ak av As w0 w1 r := by
  intro sz
  refine Met.ofW (cc := c0) (maxL := nL) (ret := some .long) hy hw ?_
  intro p e s m args below meth c s₁ B hml hv
  obtain ⟨rfl, hsz, hP, hK, hD0, hN, hY⟩ := hv
  have hx := B.exec
  have hb := B.bytes
  have hr := B.returns
  have hts := atoms_spec (ws := ws) B.pre
  have hown2 : s.vm.findClass own = some m.cls := by rw [← hown]; exact findClass_of_methodNamed B.named
  have hlocks := B.notSynchronized
  subst hsz
  have hl := lv_entry As (n := nL) hal
  rw [lg_entry_eq]
  generalize (lg_sl As ++ List.replicate (nL - (lg_sl As).length) Slot.unset).toArray = ls at hl ⊢
  refine walk p e s m _ below meth c (va_A w0 s.heap.size) _ ls ⟨hx, hb, hml, hown2, hts⟩ ⟨hK, hN, fun q h => Or.inr h, hY⟩ ?_ hl ⟨hP, hD0.self, va_S.rf⟩
  intro pc H locs ls hdg w
  exact W.lret (v := r) hx hb hr (fun t ht hW => ⟨⟨r, (), rfl, rfl, by rw [ht]; exact w.1, w.2.1⟩, w.2.2.F ht⟩) w.2.2.2.2 hdg
theorem mkV {ws ws' : List Cond} {rm : Room} (hrc : rm.cells = 0) (hrs : rm.slots = 0) (hy : plainName y.cls = true)  (hw : ws = Cond.code y c0 nL (none) :: ws') (hown : y.cls = own) (hal : (lg_sl As).length ≤ nL)
    (walk : ∀ (p : Program) (e : Env) (s : State) (m : MethodId) (args : Array Value) (below : List Frame) (meth : Method) (c : Code) (A : Nat → Prop) (Q : State → Prop) (ls : Array Slot), CallFix p m c c0 nL s args ws own → Bd D cc ak av A s → RetV p l e rm s m args below meth c D A Q c0 w1 → lv_has ls nL (lv_args 0 As) → Wd D A s.heap s.heap [] w0 → W p l e rm s m args below meth c s.heap [] 0 0 Q (F0 m 0 ls [])) : CV l y ws rm D cc ak av As w0 w1 := by
  intro sz
  refine Met.ofW (cc := c0) (maxL := nL) (ret := none) hy hw ?_
  intro p e s m args below meth c s₁ B hml hv
  obtain ⟨rfl, hsz, hP, hK, hD0, hN, hY⟩ := hv
  have hx := B.exec
  have hb := B.bytes
  have hr := B.returns
  have hts := atoms_spec (ws := ws) B.pre
  have hown2 : s.vm.findClass own = some m.cls := by rw [← hown]; exact findClass_of_methodNamed B.named
  have hlocks := B.notSynchronized
  subst hsz
  have hl := lv_entry As (n := nL) hal
  rw [lg_entry_eq]
  generalize (lg_sl As ++ List.replicate (nL - (lg_sl As).length) Slot.unset).toArray = ls at hl ⊢
  refine walk p e s m _ below meth c (va_A w0 s.heap.size) _ ls ⟨hx, hb, hml, hown2, hts⟩ ⟨hK, hN, fun q h => Or.inr h, hY⟩ ?_ hl ⟨hP, hD0.self, va_S.rf⟩
  intro pc H locs ls hdg w
  exact W.vret hx hb hr (fun t ht hW => ⟨⟨(), rfl, trivial, by rw [ht]; exact w.1, w.2.1⟩, w.2.2.F ht⟩) w.2.2.2.2 hdg
end BASE
end
