section
-- ===== PART A: goes FIRST, ahead of the names: the tables' words, and 'selects' of the private methods out of them =====
/-- a private method of a class that the tables say can be made, by its rows of tables_1 -/
def lw_okq (q : MethodName × Nat) : Prop := (q.1.cls ≠ "java/lang/invoke/MethodHandle" ∧ q.1.cls ≠ "java/lang/invoke/VarHandle") ∧ Cond.instantiable q.1.cls q.2 ∈ tables_1 ∧ Cond.privateMethod q.1 ∈ tables_1 ∧ Cond.instanceMethod q.1 ∈ tables_1
theorem lw_p0 : lw_okq (⟨"WaxCloth$Reader", "sign", "(I)Z"⟩, 3) := ⟨⟨by decide +kernel, by decide +kernel⟩, List.mem_of_getElem? (i := 41) (by decide +kernel), List.mem_of_getElem? (i := 302) (by decide +kernel), List.mem_of_getElem? (i := 303) (by decide +kernel)⟩
theorem lw_p1 : lw_okq (⟨"WaxCloth$Reader", "readSquares", "()Z"⟩, 3) := ⟨⟨by decide +kernel, by decide +kernel⟩, List.mem_of_getElem? (i := 41) (by decide +kernel), List.mem_of_getElem? (i := 310) (by decide +kernel), List.mem_of_getElem? (i := 311) (by decide +kernel)⟩
theorem lw_p2 : lw_okq (⟨"WaxCloth$Reader", "readSquare", "(I)Z"⟩, 3) := ⟨⟨by decide +kernel, by decide +kernel⟩, List.mem_of_getElem? (i := 41) (by decide +kernel), List.mem_of_getElem? (i := 314) (by decide +kernel), List.mem_of_getElem? (i := 315) (by decide +kernel)⟩
theorem lw_p3 : lw_okq (⟨"WaxCloth$Reader", "figure", "(II)I"⟩, 3) := ⟨⟨by decide +kernel, by decide +kernel⟩, List.mem_of_getElem? (i := 41) (by decide +kernel), List.mem_of_getElem? (i := 321) (by decide +kernel), List.mem_of_getElem? (i := 322) (by decide +kernel)⟩
theorem lw_p4 : lw_okq (⟨"WaxCloth$Reader", "readDyes", "()Z"⟩, 3) := ⟨⟨by decide +kernel, by decide +kernel⟩, List.mem_of_getElem? (i := 41) (by decide +kernel), List.mem_of_getElem? (i := 325) (by decide +kernel), List.mem_of_getElem? (i := 326) (by decide +kernel)⟩
theorem lw_p5 : lw_okq (⟨"WaxCloth$Reader", "readDye", "(I)Z"⟩, 3) := ⟨⟨by decide +kernel, by decide +kernel⟩, List.mem_of_getElem? (i := 41) (by decide +kernel), List.mem_of_getElem? (i := 329) (by decide +kernel), List.mem_of_getElem? (i := 330) (by decide +kernel)⟩
theorem lw_p6 : lw_okq (⟨"WaxCloth$Reader", "readStencils", "()Z"⟩, 3) := ⟨⟨by decide +kernel, by decide +kernel⟩, List.mem_of_getElem? (i := 41) (by decide +kernel), List.mem_of_getElem? (i := 333) (by decide +kernel), List.mem_of_getElem? (i := 334) (by decide +kernel)⟩
theorem lw_p7 : lw_okq (⟨"WaxCloth$Reader", "readStencil", "()I"⟩, 3) := ⟨⟨by decide +kernel, by decide +kernel⟩, List.mem_of_getElem? (i := 41) (by decide +kernel), List.mem_of_getElem? (i := 337) (by decide +kernel), List.mem_of_getElem? (i := 338) (by decide +kernel)⟩
theorem lw_p8 : lw_okq (⟨"WaxCloth$Cloth", "cracked", "(II)I"⟩, 9) := ⟨⟨by decide +kernel, by decide +kernel⟩, List.mem_of_getElem? (i := 47) (by decide +kernel), List.mem_of_getElem? (i := 467) (by decide +kernel), List.mem_of_getElem? (i := 468) (by decide +kernel)⟩
theorem lw_p9 : lw_okq (⟨"WaxCloth$Planner", "extend", "(LWaxCloth$Cloth;II)V"⟩, 5) := ⟨⟨by decide +kernel, by decide +kernel⟩, List.mem_of_getElem? (i := 157) (by decide +kernel), List.mem_of_getElem? (i := 527) (by decide +kernel), List.mem_of_getElem? (i := 528) (by decide +kernel)⟩
theorem lw_p10 : lw_okq (⟨"WaxCloth$Planner", "judge", "(II)V"⟩, 5) := ⟨⟨by decide +kernel, by decide +kernel⟩, List.mem_of_getElem? (i := 157) (by decide +kernel), List.mem_of_getElem? (i := 543) (by decide +kernel), List.mem_of_getElem? (i := 544) (by decide +kernel)⟩
theorem lw_p11 : lw_okq (⟨"WaxCloth$Baths", "bathe", "(LWaxCloth$Cloth;IIIII)V"⟩, 5) := ⟨⟨by decide +kernel, by decide +kernel⟩, List.mem_of_getElem? (i := 183) (by decide +kernel), List.mem_of_getElem? (i := 561) (by decide +kernel), List.mem_of_getElem? (i := 562) (by decide +kernel)⟩
theorem lw_p12 : lw_okq (⟨"WaxCloth$Baths", "note", "(III)V"⟩, 5) := ⟨⟨by decide +kernel, by decide +kernel⟩, List.mem_of_getElem? (i := 183) (by decide +kernel), List.mem_of_getElem? (i := 565) (by decide +kernel), List.mem_of_getElem? (i := 566) (by decide +kernel)⟩
theorem lw_p13 : lw_okq (⟨"WaxCloth$Chances", "weigh", "(II)V"⟩, 6) := ⟨⟨by decide +kernel, by decide +kernel⟩, List.mem_of_getElem? (i := 208) (by decide +kernel), List.mem_of_getElem? (i := 586) (by decide +kernel), List.mem_of_getElem? (i := 587) (by decide +kernel)⟩
theorem lw_p14 : lw_okq (⟨"WaxCloth", "takeDoings", "(IIII)I"⟩, 11) := ⟨⟨by decide +kernel, by decide +kernel⟩, List.mem_of_getElem? (i := 18) (by decide +kernel), List.mem_of_getElem? (i := 674) (by decide +kernel), List.mem_of_getElem? (i := 675) (by decide +kernel)⟩
theorem lw_p15 : lw_okq (⟨"WaxClothModel", "reads", "()Z"⟩, 22) := ⟨⟨by decide +kernel, by decide +kernel⟩, List.mem_of_getElem? (i := 738) (by decide +kernel), List.mem_of_getElem? (i := 824) (by decide +kernel), List.mem_of_getElem? (i := 825) (by decide +kernel)⟩
def lw_privs_1 : List (MethodName × Nat) := [(⟨"WaxCloth$Reader", "sign", "(I)Z"⟩, 3), (⟨"WaxCloth$Reader", "readSquares", "()Z"⟩, 3), (⟨"WaxCloth$Reader", "readSquare", "(I)Z"⟩, 3), (⟨"WaxCloth$Reader", "figure", "(II)I"⟩, 3), (⟨"WaxCloth$Reader", "readDyes", "()Z"⟩, 3), (⟨"WaxCloth$Reader", "readDye", "(I)Z"⟩, 3), (⟨"WaxCloth$Reader", "readStencils", "()Z"⟩, 3), (⟨"WaxCloth$Reader", "readStencil", "()I"⟩, 3), (⟨"WaxCloth$Cloth", "cracked", "(II)I"⟩, 9), (⟨"WaxCloth$Planner", "extend", "(LWaxCloth$Cloth;II)V"⟩, 5), (⟨"WaxCloth$Planner", "judge", "(II)V"⟩, 5), (⟨"WaxCloth$Baths", "bathe", "(LWaxCloth$Cloth;IIIII)V"⟩, 5), (⟨"WaxCloth$Baths", "note", "(III)V"⟩, 5), (⟨"WaxCloth$Chances", "weigh", "(II)V"⟩, 6), (⟨"WaxCloth", "takeDoings", "(IIII)I"⟩, 11), (⟨"WaxClothModel", "reads", "()Z"⟩, 22)]
theorem lw_r1 : ∀ q ∈ lw_privs_1, lw_okq q := List.forall_mem_cons.mpr ⟨lw_p0, List.forall_mem_cons.mpr ⟨lw_p1, List.forall_mem_cons.mpr ⟨lw_p2, List.forall_mem_cons.mpr ⟨lw_p3, List.forall_mem_cons.mpr ⟨lw_p4, List.forall_mem_cons.mpr ⟨lw_p5, List.forall_mem_cons.mpr ⟨lw_p6, List.forall_mem_cons.mpr ⟨lw_p7, List.forall_mem_cons.mpr ⟨lw_p8, List.forall_mem_cons.mpr ⟨lw_p9, List.forall_mem_cons.mpr ⟨lw_p10, List.forall_mem_cons.mpr ⟨lw_p11, List.forall_mem_cons.mpr ⟨lw_p12, List.forall_mem_cons.mpr ⟨lw_p13, List.forall_mem_cons.mpr ⟨lw_p14, List.forall_mem_cons.mpr ⟨lw_p15, fun _ h => absurd h List.not_mem_nil⟩⟩⟩⟩⟩⟩⟩⟩⟩⟩⟩⟩⟩⟩⟩⟩
theorem lw_p16 : lw_okq (⟨"WaxClothModel", "eats", "(I)Z"⟩, 22) := ⟨⟨by decide +kernel, by decide +kernel⟩, List.mem_of_getElem? (i := 738) (by decide +kernel), List.mem_of_getElem? (i := 828) (by decide +kernel), List.mem_of_getElem? (i := 829) (by decide +kernel)⟩
theorem lw_p17 : lw_okq (⟨"WaxClothModel", "here", "()I"⟩, 22) := ⟨⟨by decide +kernel, by decide +kernel⟩, List.mem_of_getElem? (i := 738) (by decide +kernel), List.mem_of_getElem? (i := 832) (by decide +kernel), List.mem_of_getElem? (i := 833) (by decide +kernel)⟩
theorem lw_p18 : lw_okq (⟨"WaxClothModel", "readsSquare", "()Z"⟩, 22) := ⟨⟨by decide +kernel, by decide +kernel⟩, List.mem_of_getElem? (i := 738) (by decide +kernel), List.mem_of_getElem? (i := 836) (by decide +kernel), List.mem_of_getElem? (i := 837) (by decide +kernel)⟩
theorem lw_p19 : lw_okq (⟨"WaxClothModel", "figure", "(II)Z"⟩, 22) := ⟨⟨by decide +kernel, by decide +kernel⟩, List.mem_of_getElem? (i := 738) (by decide +kernel), List.mem_of_getElem? (i := 843) (by decide +kernel), List.mem_of_getElem? (i := 844) (by decide +kernel)⟩
theorem lw_p20 : lw_okq (⟨"WaxClothModel", "another", "(II)Z"⟩, 22) := ⟨⟨by decide +kernel, by decide +kernel⟩, List.mem_of_getElem? (i := 738) (by decide +kernel), List.mem_of_getElem? (i := 847) (by decide +kernel), List.mem_of_getElem? (i := 848) (by decide +kernel)⟩
theorem lw_p21 : lw_okq (⟨"WaxClothModel", "readsDye", "()Z"⟩, 22) := ⟨⟨by decide +kernel, by decide +kernel⟩, List.mem_of_getElem? (i := 738) (by decide +kernel), List.mem_of_getElem? (i := 851) (by decide +kernel), List.mem_of_getElem? (i := 852) (by decide +kernel)⟩
theorem lw_p22 : lw_okq (⟨"WaxClothModel", "readsStencil", "()Z"⟩, 22) := ⟨⟨by decide +kernel, by decide +kernel⟩, List.mem_of_getElem? (i := 738) (by decide +kernel), List.mem_of_getElem? (i := 855) (by decide +kernel), List.mem_of_getElem? (i := 856) (by decide +kernel)⟩
theorem lw_p23 : lw_okq (⟨"WaxClothModel", "isSquare", "(I)Z"⟩, 22) := ⟨⟨by decide +kernel, by decide +kernel⟩, List.mem_of_getElem? (i := 738) (by decide +kernel), List.mem_of_getElem? (i := 866) (by decide +kernel), List.mem_of_getElem? (i := 867) (by decide +kernel)⟩
theorem lw_p24 : lw_okq (⟨"WaxClothModel", "isDye", "(I)Z"⟩, 22) := ⟨⟨by decide +kernel, by decide +kernel⟩, List.mem_of_getElem? (i := 738) (by decide +kernel), List.mem_of_getElem? (i := 891) (by decide +kernel), List.mem_of_getElem? (i := 892) (by decide +kernel)⟩
theorem lw_p25 : lw_okq (⟨"WaxClothModel", "takenOn", "([IIII)I"⟩, 22) := ⟨⟨by decide +kernel, by decide +kernel⟩, List.mem_of_getElem? (i := 738) (by decide +kernel), List.mem_of_getElem? (i := 903) (by decide +kernel), List.mem_of_getElem? (i := 904) (by decide +kernel)⟩
theorem lw_p26 : lw_okq (⟨"WaxClothModel", "isDoing", "(J)Z"⟩, 22) := ⟨⟨by decide +kernel, by decide +kernel⟩, List.mem_of_getElem? (i := 738) (by decide +kernel), List.mem_of_getElem? (i := 917) (by decide +kernel), List.mem_of_getElem? (i := 918) (by decide +kernel)⟩
theorem lw_p27 : lw_okq (⟨"WaxClothModel", "doesAll", "([II)V"⟩, 22) := ⟨⟨by decide +kernel, by decide +kernel⟩, List.mem_of_getElem? (i := 738) (by decide +kernel), List.mem_of_getElem? (i := 924) (by decide +kernel), List.mem_of_getElem? (i := 925) (by decide +kernel)⟩
theorem lw_p28 : lw_okq (⟨"WaxClothModel", "doesOn", "([III)V"⟩, 22) := ⟨⟨by decide +kernel, by decide +kernel⟩, List.mem_of_getElem? (i := 738) (by decide +kernel), List.mem_of_getElem? (i := 928) (by decide +kernel), List.mem_of_getElem? (i := 929) (by decide +kernel)⟩
theorem lw_p29 : lw_okq (⟨"WaxClothModel", "bathes", "([III)V"⟩, 22) := ⟨⟨by decide +kernel, by decide +kernel⟩, List.mem_of_getElem? (i := 738) (by decide +kernel), List.mem_of_getElem? (i := 932) (by decide +kernel), List.mem_of_getElem? (i := 933) (by decide +kernel)⟩
theorem lw_p30 : lw_okq (⟨"WaxClothModel", "rinses", "([II)V"⟩, 22) := ⟨⟨by decide +kernel, by decide +kernel⟩, List.mem_of_getElem? (i := 738) (by decide +kernel), List.mem_of_getElem? (i := 942) (by decide +kernel), List.mem_of_getElem? (i := 943) (by decide +kernel)⟩
theorem lw_p31 : lw_okq (⟨"WaxClothModel", "rightOn", "([I)I"⟩, 22) := ⟨⟨by decide +kernel, by decide +kernel⟩, List.mem_of_getElem? (i := 738) (by decide +kernel), List.mem_of_getElem? (i := 946) (by decide +kernel), List.mem_of_getElem? (i := 947) (by decide +kernel)⟩
def lw_privs_2 : List (MethodName × Nat) := [(⟨"WaxClothModel", "eats", "(I)Z"⟩, 22), (⟨"WaxClothModel", "here", "()I"⟩, 22), (⟨"WaxClothModel", "readsSquare", "()Z"⟩, 22), (⟨"WaxClothModel", "figure", "(II)Z"⟩, 22), (⟨"WaxClothModel", "another", "(II)Z"⟩, 22), (⟨"WaxClothModel", "readsDye", "()Z"⟩, 22), (⟨"WaxClothModel", "readsStencil", "()Z"⟩, 22), (⟨"WaxClothModel", "isSquare", "(I)Z"⟩, 22), (⟨"WaxClothModel", "isDye", "(I)Z"⟩, 22), (⟨"WaxClothModel", "takenOn", "([IIII)I"⟩, 22), (⟨"WaxClothModel", "isDoing", "(J)Z"⟩, 22), (⟨"WaxClothModel", "doesAll", "([II)V"⟩, 22), (⟨"WaxClothModel", "doesOn", "([III)V"⟩, 22), (⟨"WaxClothModel", "bathes", "([III)V"⟩, 22), (⟨"WaxClothModel", "rinses", "([II)V"⟩, 22), (⟨"WaxClothModel", "rightOn", "([I)I"⟩, 22)]
theorem lw_r2 : ∀ q ∈ lw_privs_2, lw_okq q := List.forall_mem_cons.mpr ⟨lw_p16, List.forall_mem_cons.mpr ⟨lw_p17, List.forall_mem_cons.mpr ⟨lw_p18, List.forall_mem_cons.mpr ⟨lw_p19, List.forall_mem_cons.mpr ⟨lw_p20, List.forall_mem_cons.mpr ⟨lw_p21, List.forall_mem_cons.mpr ⟨lw_p22, List.forall_mem_cons.mpr ⟨lw_p23, List.forall_mem_cons.mpr ⟨lw_p24, List.forall_mem_cons.mpr ⟨lw_p25, List.forall_mem_cons.mpr ⟨lw_p26, List.forall_mem_cons.mpr ⟨lw_p27, List.forall_mem_cons.mpr ⟨lw_p28, List.forall_mem_cons.mpr ⟨lw_p29, List.forall_mem_cons.mpr ⟨lw_p30, List.forall_mem_cons.mpr ⟨lw_p31, fun _ h => absurd h List.not_mem_nil⟩⟩⟩⟩⟩⟩⟩⟩⟩⟩⟩⟩⟩⟩⟩⟩
theorem lw_p32 : lw_okq (⟨"WaxClothModel", "doingsThere", "()I"⟩, 22) := ⟨⟨by decide +kernel, by decide +kernel⟩, List.mem_of_getElem? (i := 738) (by decide +kernel), List.mem_of_getElem? (i := 972) (by decide +kernel), List.mem_of_getElem? (i := 973) (by decide +kernel)⟩
theorem lw_p33 : lw_okq (⟨"WaxClothModel", "laysAside", "()V"⟩, 22) := ⟨⟨by decide +kernel, by decide +kernel⟩, List.mem_of_getElem? (i := 738) (by decide +kernel), List.mem_of_getElem? (i := 976) (by decide +kernel), List.mem_of_getElem? (i := 977) (by decide +kernel)⟩
theorem lw_p34 : lw_okq (⟨"WaxClothModel", "doingOf", "(I)I"⟩, 22) := ⟨⟨by decide +kernel, by decide +kernel⟩, List.mem_of_getElem? (i := 738) (by decide +kernel), List.mem_of_getElem? (i := 980) (by decide +kernel), List.mem_of_getElem? (i := 981) (by decide +kernel)⟩
theorem lw_p35 : lw_okq (⟨"WaxClothModel", "shadeOf", "(III)I"⟩, 22) := ⟨⟨by decide +kernel, by decide +kernel⟩, List.mem_of_getElem? (i := 738) (by decide +kernel), List.mem_of_getElem? (i := 995) (by decide +kernel), List.mem_of_getElem? (i := 996) (by decide +kernel)⟩
theorem lw_p36 : lw_okq (⟨"WaxClothModel", "whitens", "(I)V"⟩, 22) := ⟨⟨by decide +kernel, by decide +kernel⟩, List.mem_of_getElem? (i := 738) (by decide +kernel), List.mem_of_getElem? (i := 999) (by decide +kernel), List.mem_of_getElem? (i := 1000) (by decide +kernel)⟩
theorem lw_p37 : lw_okq (⟨"WaxClothModel", "darkAll", "([I)I"⟩, 22) := ⟨⟨by decide +kernel, by decide +kernel⟩, List.mem_of_getElem? (i := 738) (by decide +kernel), List.mem_of_getElem? (i := 1019) (by decide +kernel), List.mem_of_getElem? (i := 1020) (by decide +kernel)⟩
theorem lw_p38 : lw_okq (⟨"WaxClothModel", "found", "(IIII)I"⟩, 22) := ⟨⟨by decide +kernel, by decide +kernel⟩, List.mem_of_getElem? (i := 738) (by decide +kernel), List.mem_of_getElem? (i := 1030) (by decide +kernel), List.mem_of_getElem? (i := 1031) (by decide +kernel)⟩
theorem lw_p39 : lw_okq (⟨"WaxClothModel", "areDoings", "(III)Z"⟩, 22) := ⟨⟨by decide +kernel, by decide +kernel⟩, List.mem_of_getElem? (i := 738) (by decide +kernel), List.mem_of_getElem? (i := 1038) (by decide +kernel), List.mem_of_getElem? (i := 1039) (by decide +kernel)⟩
theorem lw_p40 : lw_okq (⟨"WaxClothModel", "goesRound", "(IIII)V"⟩, 22) := ⟨⟨by decide +kernel, by decide +kernel⟩, List.mem_of_getElem? (i := 738) (by decide +kernel), List.mem_of_getElem? (i := 1046) (by decide +kernel), List.mem_of_getElem? (i := 1047) (by decide +kernel)⟩
theorem lw_p41 : lw_okq (⟨"WaxClothModel", "codeOf", "(I)I"⟩, 22) := ⟨⟨by decide +kernel, by decide +kernel⟩, List.mem_of_getElem? (i := 738) (by decide +kernel), List.mem_of_getElem? (i := 1050) (by decide +kernel), List.mem_of_getElem? (i := 1051) (by decide +kernel)⟩
def lw_privs_3 : List (MethodName × Nat) := [(⟨"WaxClothModel", "doingsThere", "()I"⟩, 22), (⟨"WaxClothModel", "laysAside", "()V"⟩, 22), (⟨"WaxClothModel", "doingOf", "(I)I"⟩, 22), (⟨"WaxClothModel", "shadeOf", "(III)I"⟩, 22), (⟨"WaxClothModel", "whitens", "(I)V"⟩, 22), (⟨"WaxClothModel", "darkAll", "([I)I"⟩, 22), (⟨"WaxClothModel", "found", "(IIII)I"⟩, 22), (⟨"WaxClothModel", "areDoings", "(III)Z"⟩, 22), (⟨"WaxClothModel", "goesRound", "(IIII)V"⟩, 22), (⟨"WaxClothModel", "codeOf", "(I)I"⟩, 22)]
theorem lw_r3 : ∀ q ∈ lw_privs_3, lw_okq q := List.forall_mem_cons.mpr ⟨lw_p32, List.forall_mem_cons.mpr ⟨lw_p33, List.forall_mem_cons.mpr ⟨lw_p34, List.forall_mem_cons.mpr ⟨lw_p35, List.forall_mem_cons.mpr ⟨lw_p36, List.forall_mem_cons.mpr ⟨lw_p37, List.forall_mem_cons.mpr ⟨lw_p38, List.forall_mem_cons.mpr ⟨lw_p39, List.forall_mem_cons.mpr ⟨lw_p40, List.forall_mem_cons.mpr ⟨lw_p41, fun _ h => absurd h List.not_mem_nil⟩⟩⟩⟩⟩⟩⟩⟩⟩⟩
def lw_privs : List (MethodName × Nat) := lw_privs_1 ++ (lw_privs_2 ++ (lw_privs_3))
def lw_tbl : List Cond := k2_sels lw_privs ++ tables_1
theorem lw_privs_ok : ∀ q ∈ lw_privs, lw_okq q := by
  show ∀ q ∈ lw_privs_1 ++ (lw_privs_2 ++ (lw_privs_3)), lw_okq q
  exact List.forall_mem_append.mpr ⟨lw_r1, List.forall_mem_append.mpr ⟨lw_r2, lw_r3⟩⟩
end
section
/-! ===== BEGIN words of one list among another's, by their places ===== -/
theorem goodIn_r {big : List Cond} (ws : List Cond) (ps : List Nat) (hp : ws = ps.filterMap (fun i => big[i]?)) (h : ws.all goodWord = true) : GoodIn big ws := by
  intro w hw
  have h1 := List.all_eq_true.mp h w hw
  rw [hp] at hw
  obtain ⟨i, -, hi⟩ := List.mem_filterMap.mp hw
  have hm : w ∈ big := by first | exact List.mem_of_getElem? hi | exact List.getElem?_mem hi
  exact ⟨hm, good_of_word h1⟩
theorem goodIn_app {big a b : List Cond} (ha : GoodIn big a) (hb : GoodIn big b) : GoodIn big (a ++ b) := fun w h => (List.mem_append.mp h).elim (ha w) (hb w)
theorem goodIn_ca {big a b : List Cond} {c : Cond} (ha : GoodIn big (c :: a)) (hb : GoodIn big b) : GoodIn big (c :: (a ++ b)) := fun w h => (List.mem_cons.mp h).elim (fun e => ha w (List.mem_cons.mpr (Or.inl e))) (fun h => (List.mem_append.mp h).elim (fun h => ha w (List.mem_cons.mpr (Or.inr h))) (hb w))
theorem goodIn_sub {big ws : List Cond} (hm : ∀ w ∈ ws, w ∈ big) (h : ws.all goodWord = true) : GoodIn big ws := fun w hw => ⟨hm w hw, good_of_word (List.all_eq_true.mp h w hw)⟩
/-! ===== END ===== -/

def RX0 : String := "WaxCloth$Baths"
def TX0 : u_T := fun k => match k with
  | 0 => ("WaxCloth$Baths", "found", "I", false)
  | 1 => ("WaxCloth$Baths", "unlike", "I", false)
  | 2 => ("WaxCloth$Baths", "first", "[I", true)
  | 3 => ("WaxCloth$Baths", "row", "[I", true)
  | _ => ("WaxCloth$Baths", "seen", "[J", true)
def tyX0 : Nat → FieldType := fun k => match k with
  | 0 => .int
  | 1 => .int
  | 2 => .array .int
  | 3 => .array .int
  | _ => .array .long
abbrev wsX00 : List Cond := u_ws RX0 TX0 5
theorem nmX0 : ∀ a, a < 5 → ∀ b, b < 5 → a ≠ b → (TX0 a).2.1 ≠ (TX0 b).2.1 := by decide +kernel
theorem tyX0_ok : ∀ k, k < 5 → parseFieldDescriptor (TX0 k).2.2.1 = some (tyX0 k) := by decide +kernel
abbrev cX0_init : ByteArray := prog_2_method_1_code
def yX0_init : MethodName := ⟨RX0, "<init>", "()V"⟩
abbrev cX0_walk : ByteArray := prog_2_method_2_code
def yX0_walk : MethodName := ⟨RX0, "walk", "(LWaxCloth$Cloth;III)V"⟩
abbrev cX0_bathe : ByteArray := prog_2_method_3_code
def yX0_bathe : MethodName := ⟨RX0, "bathe", "(LWaxCloth$Cloth;IIIII)V"⟩
abbrev cX0_note : ByteArray := prog_2_method_4_code
def yX0_note : MethodName := ⟨RX0, "note", "(III)V"⟩
def RX1 : String := "WaxCloth$Chances"
def TX1 : u_T := fun k => match k with
  | 0 => ("WaxCloth$Chances", "above", "I", false)
  | 1 => ("WaxCloth$Chances", "below", "I", false)
  | 2 => ("WaxCloth$Chances", "dark", "I", false)
  | 3 => ("WaxCloth$Chances", "rights", "I", false)
  | 4 => ("WaxCloth$Chances", "weights", "[I", true)
  | _ => ("WaxCloth$Chances", "states", "[I", true)
def tyX1 : Nat → FieldType := fun k => match k with
  | 0 => .int
  | 1 => .int
  | 2 => .int
  | 3 => .int
  | 4 => .array .int
  | _ => .array .int
abbrev wsX10 : List Cond := u_ws RX1 TX1 6
theorem nmX1 : ∀ a, a < 6 → ∀ b, b < 6 → a ≠ b → (TX1 a).2.1 ≠ (TX1 b).2.1 := by decide +kernel
theorem tyX1_ok : ∀ k, k < 6 → parseFieldDescriptor (TX1 k).2.2.1 = some (tyX1 k) := by decide +kernel
abbrev cX1_init : ByteArray := prog_3_method_1_code
def yX1_init : MethodName := ⟨RX1, "<init>", "()V"⟩
abbrev cX1_crack : ByteArray := prog_3_method_2_code
def yX1_crack : MethodName := ⟨RX1, "crack", "(LWaxCloth$Cloth;III)V"⟩
abbrev cX1_weigh : ByteArray := prog_3_method_3_code
def yX1_weigh : MethodName := ⟨RX1, "weigh", "(II)V"⟩
abbrev cX1_draw : ByteArray := prog_3_method_4_code
def yX1_draw : MethodName := ⟨RX1, "draw", "(LWaxCloth$Cloth;II)V"⟩
abbrev cX1_greatestCommon : ByteArray := prog_3_method_5_code
def yX1_greatestCommon : MethodName := ⟨RX1, "greatestCommon", "(II)I"⟩
def RX2 : String := "WaxCloth$Cloth"
def TX2 : u_T := fun k => match k with
  | 0 => ("WaxCloth$Cloth", "squares", "I", false)
  | 1 => ("WaxCloth$Cloth", "dyes", "I", false)
  | 2 => ("WaxCloth$Cloth", "stencils", "I", false)
  | 3 => ("WaxCloth$Cloth", "doings", "I", false)
  | 4 => ("WaxCloth$Cloth", "kindOf", "[I", true)
  | 5 => ("WaxCloth$Cloth", "wished", "[I", true)
  | 6 => ("WaxCloth$Cloth", "states", "[I", true)
  | 7 => ("WaxCloth$Cloth", "dyeAmounts", "[I", true)
  | _ => ("WaxCloth$Cloth", "stencilSets", "[I", true)
def tyX2 : Nat → FieldType := fun k => match k with
  | 0 => .int
  | 1 => .int
  | 2 => .int
  | 3 => .int
  | 4 => .array .int
  | 5 => .array .int
  | 6 => .array .int
  | 7 => .array .int
  | _ => .array .int
abbrev wsX20 : List Cond := u_ws RX2 TX2 9
theorem nmX2 : ∀ a, a < 9 → ∀ b, b < 9 → a ≠ b → (TX2 a).2.1 ≠ (TX2 b).2.1 := by decide +kernel
theorem tyX2_ok : ∀ k, k < 9 → parseFieldDescriptor (TX2 k).2.2.1 = some (tyX2 k) := by decide +kernel
abbrev cX2_init : ByteArray := prog_4_method_1_code
def yX2_init : MethodName := ⟨RX2, "<init>", "()V"⟩
abbrev cX2_stands : ByteArray := prog_4_method_2_code
def yX2_stands : MethodName := ⟨RX2, "stands", "()Z"⟩
abbrev cX2_become : ByteArray := prog_4_method_3_code
def yX2_become : MethodName := ⟨RX2, "become", "(LWaxCloth$Cloth;)V"⟩
abbrev cX2_hasSquare : ByteArray := prog_4_method_4_code
def yX2_hasSquare : MethodName := ⟨RX2, "hasSquare", "(I)Z"⟩
abbrev cX2_hasDye : ByteArray := prog_4_method_5_code
def yX2_hasDye : MethodName := ⟨RX2, "hasDye", "(I)Z"⟩
abbrev cX2_hasStencil : ByteArray := prog_4_method_6_code
def yX2_hasStencil : MethodName := ⟨RX2, "hasStencil", "(I)Z"⟩
abbrev cX2_hasDoing : ByteArray := prog_4_method_7_code
def yX2_hasDoing : MethodName := ⟨RX2, "hasDoing", "(J)Z"⟩
abbrev cX2_doingCount : ByteArray := prog_4_method_8_code
def yX2_doingCount : MethodName := ⟨RX2, "doingCount", "()I"⟩
abbrev cX2_nthDoing : ByteArray := prog_4_method_9_code
def yX2_nthDoing : MethodName := ⟨RX2, "nthDoing", "(I)I"⟩
abbrev cX2_amountInDye : ByteArray := prog_4_method_10_code
def yX2_amountInDye : MethodName := ⟨RX2, "amountInDye", "(II)I"⟩
abbrev cX2_gain : ByteArray := prog_4_method_11_code
def yX2_gain : MethodName := ⟨RX2, "gain", "(IIII)I"⟩
abbrev cX2_after : ByteArray := prog_4_method_12_code
def yX2_after : MethodName := ⟨RX2, "after", "(III)I"⟩
abbrev cX2_dyed : ByteArray := prog_4_method_13_code
def yX2_dyed : MethodName := ⟨RX2, "dyed", "(III)I"⟩
abbrev cX2_cracked : ByteArray := prog_4_method_14_code
def yX2_cracked : MethodName := ⟨RX2, "cracked", "(II)I"⟩
abbrev cX2_rinsed : ByteArray := prog_4_method_15_code
def yX2_rinsed : MethodName := ⟨RX2, "rinsed", "(I)I"⟩
abbrev cX2_afterRow : ByteArray := prog_4_method_16_code
def yX2_afterRow : MethodName := ⟨RX2, "afterRow", "(II[II)I"⟩
abbrev cX2_apply : ByteArray := prog_4_method_17_code
def yX2_apply : MethodName := ⟨RX2, "apply", "(I[I[I)Z"⟩
abbrev cX2_isRight : ByteArray := prog_4_method_18_code
def yX2_isRight : MethodName := ⟨RX2, "isRight", "(II)Z"⟩
abbrev cX2_rightSet : ByteArray := prog_4_method_19_code
def yX2_rightSet : MethodName := ⟨RX2, "rightSet", "([I)I"⟩
abbrev cX2_rightCount : ByteArray := prog_4_method_20_code
def yX2_rightCount : MethodName := ⟨RX2, "rightCount", "([I)I"⟩
abbrev cX2_darknessOf : ByteArray := prog_4_method_21_code
def yX2_darknessOf : MethodName := ⟨RX2, "darknessOf", "([I)I"⟩
abbrev cX2_waxedSet : ByteArray := prog_4_method_22_code
def yX2_waxedSet : MethodName := ⟨RX2, "waxedSet", "()I"⟩
def RX3 : String := "WaxCloth$Kind"
def TX3 : u_T := fun k => match k with
  | _ => ("", "", "", false)
def tyX3 : Nat → FieldType := fun k => match k with
  | _ => .int
abbrev wsX30 : List Cond := u_ws RX3 TX3 0
theorem nmX3 : ∀ a, a < 0 → ∀ b, b < 0 → a ≠ b → (TX3 a).2.1 ≠ (TX3 b).2.1 := by decide +kernel
theorem tyX3_ok : ∀ k, k < 0 → parseFieldDescriptor (TX3 k).2.2.1 = some (tyX3 k) := by decide +kernel
abbrev cX3_ofLetter : ByteArray := prog_5_method_2_code
def yX3_ofLetter : MethodName := ⟨RX3, "ofLetter", "(I)I"⟩
abbrev cX3_isUnder : ByteArray := prog_5_method_3_code
def yX3_isUnder : MethodName := ⟨RX3, "isUnder", "(II)Z"⟩
abbrev cX3_taken : ByteArray := prog_5_method_4_code
def yX3_taken : MethodName := ⟨RX3, "taken", "(III)I"⟩
abbrev cX3_layersCracked : ByteArray := prog_5_method_5_code
def yX3_layersCracked : MethodName := ⟨RX3, "layersCracked", "(I)I"⟩
abbrev cX3_thatTake : ByteArray := prog_5_method_6_code
def yX3_thatTake : MethodName := ⟨RX3, "thatTake", "(IIIJ)I"⟩
abbrev cX3_bestTry : ByteArray := prog_5_method_7_code
def yX3_bestTry : MethodName := ⟨RX3, "bestTry", "(II)I"⟩
abbrev cX3_greatestPart : ByteArray := prog_5_method_8_code
def yX3_greatestPart : MethodName := ⟨RX3, "greatestPart", "(III)I"⟩
def RX4 : String := "WaxCloth$Past"
def TX4 : u_T := fun k => match k with
  | 0 => ("WaxCloth$Past", "held", "I", false)
  | 1 => ("WaxCloth$Past", "next", "I", false)
  | _ => ("WaxCloth$Past", "ring", "[[I", true)
def tyX4 : Nat → FieldType := fun k => match k with
  | 0 => .int
  | 1 => .int
  | _ => .array (.array .int)
abbrev wsX40 : List Cond := u_ws RX4 TX4 3
theorem nmX4 : ∀ a, a < 3 → ∀ b, b < 3 → a ≠ b → (TX4 a).2.1 ≠ (TX4 b).2.1 := by decide +kernel
theorem tyX4_ok : ∀ k, k < 3 → parseFieldDescriptor (TX4 k).2.2.1 = some (tyX4 k) := by decide +kernel
abbrev cX4_init : ByteArray := prog_6_method_1_code
def yX4_init : MethodName := ⟨RX4, "<init>", "()V"⟩
abbrev cX4_forget : ByteArray := prog_6_method_2_code
def yX4_forget : MethodName := ⟨RX4, "forget", "()V"⟩
abbrev cX4_keep : ByteArray := prog_6_method_3_code
def yX4_keep : MethodName := ⟨RX4, "keep", "([I)V"⟩
abbrev cX4_takeBack : ByteArray := prog_6_method_4_code
def yX4_takeBack : MethodName := ⟨RX4, "takeBack", "([I)Z"⟩
def RX5 : String := "WaxCloth$Planner"
def TX5 : u_T := fun k => match k with
  | 0 => ("WaxCloth$Planner", "bestRight", "I", false)
  | 1 => ("WaxCloth$Planner", "bestLength", "I", false)
  | 2 => ("WaxCloth$Planner", "best", "[I", true)
  | 3 => ("WaxCloth$Planner", "row", "[I", true)
  | _ => ("WaxCloth$Planner", "levels", "[[I", true)
def tyX5 : Nat → FieldType := fun k => match k with
  | 0 => .int
  | 1 => .int
  | 2 => .array .int
  | 3 => .array .int
  | _ => .array (.array .int)
abbrev wsX50 : List Cond := u_ws RX5 TX5 5
theorem nmX5 : ∀ a, a < 5 → ∀ b, b < 5 → a ≠ b → (TX5 a).2.1 ≠ (TX5 b).2.1 := by decide +kernel
theorem tyX5_ok : ∀ k, k < 5 → parseFieldDescriptor (TX5 k).2.2.1 = some (tyX5 k) := by decide +kernel
abbrev cX5_init : ByteArray := prog_7_method_1_code
def yX5_init : MethodName := ⟨RX5, "<init>", "()V"⟩
abbrev cX5_search : ByteArray := prog_7_method_2_code
def yX5_search : MethodName := ⟨RX5, "search", "(LWaxCloth$Cloth;I)V"⟩
abbrev cX5_extend : ByteArray := prog_7_method_3_code
def yX5_extend : MethodName := ⟨RX5, "extend", "(LWaxCloth$Cloth;II)V"⟩
abbrev cX5_isWaxOnly : ByteArray := prog_7_method_4_code
def yX5_isWaxOnly : MethodName := ⟨RX5, "isWaxOnly", "(I)Z"⟩
abbrev cX5_judge : ByteArray := prog_7_method_5_code
def yX5_judge : MethodName := ⟨RX5, "judge", "(II)V"⟩
def RX6 : String := "WaxCloth$Reader"
def TX6 : u_T := fun k => match k with
  | 0 => ("WaxCloth$Reader", "result", "LWaxCloth$Cloth;", true)
  | 1 => ("WaxCloth$Reader", "place", "I", false)
  | _ => ("WaxCloth$Reader", "source", "LWaxCloth$Tape;", true)
def tyX6 : Nat → FieldType := fun k => match k with
  | 0 => .object "WaxCloth$Cloth"
  | 1 => .int
  | _ => .object "WaxCloth$Tape"
abbrev wsX60 : List Cond := u_ws RX6 TX6 3
theorem nmX6 : ∀ a, a < 3 → ∀ b, b < 3 → a ≠ b → (TX6 a).2.1 ≠ (TX6 b).2.1 := by decide +kernel
theorem tyX6_ok : ∀ k, k < 3 → parseFieldDescriptor (TX6 k).2.2.1 = some (tyX6 k) := by decide +kernel
abbrev cX6_init : ByteArray := prog_8_method_1_code
def yX6_init : MethodName := ⟨RX6, "<init>", "(LWaxCloth$Tape;)V"⟩
abbrev cX6_read : ByteArray := prog_8_method_2_code
def yX6_read : MethodName := ⟨RX6, "read", "()Z"⟩
abbrev cX6_sign : ByteArray := prog_8_method_3_code
def yX6_sign : MethodName := ⟨RX6, "sign", "(I)Z"⟩
abbrev cX6_figure : ByteArray := prog_8_method_4_code
def yX6_figure : MethodName := ⟨RX6, "figure", "(II)I"⟩
abbrev cX6_readSquares : ByteArray := prog_8_method_5_code
def yX6_readSquares : MethodName := ⟨RX6, "readSquares", "()Z"⟩
abbrev cX6_readSquare : ByteArray := prog_8_method_6_code
def yX6_readSquare : MethodName := ⟨RX6, "readSquare", "(I)Z"⟩
abbrev cX6_readDyes : ByteArray := prog_8_method_7_code
def yX6_readDyes : MethodName := ⟨RX6, "readDyes", "()Z"⟩
abbrev cX6_readDye : ByteArray := prog_8_method_8_code
def yX6_readDye : MethodName := ⟨RX6, "readDye", "(I)Z"⟩
abbrev cX6_readStencils : ByteArray := prog_8_method_9_code
def yX6_readStencils : MethodName := ⟨RX6, "readStencils", "()Z"⟩
abbrev cX6_readStencil : ByteArray := prog_8_method_10_code
def yX6_readStencil : MethodName := ⟨RX6, "readStencil", "()I"⟩
def RX7 : String := "WaxCloth$Rounds"
def TX7 : u_T := fun k => match k with
  | 0 => ("WaxCloth$Rounds", "lead", "I", false)
  | _ => ("WaxCloth$Rounds", "lap", "I", false)
def tyX7 : Nat → FieldType := fun k => match k with
  | 0 => .int
  | _ => .int
abbrev wsX70 : List Cond := u_ws RX7 TX7 2
theorem nmX7 : ∀ a, a < 2 → ∀ b, b < 2 → a ≠ b → (TX7 a).2.1 ≠ (TX7 b).2.1 := by decide +kernel
theorem tyX7_ok : ∀ k, k < 2 → parseFieldDescriptor (TX7 k).2.2.1 = some (tyX7 k) := by decide +kernel
abbrev cX7_init : ByteArray := prog_9_method_1_code
def yX7_init : MethodName := ⟨RX7, "<init>", "()V"⟩
abbrev cX7_measure : ByteArray := prog_9_method_2_code
def yX7_measure : MethodName := ⟨RX7, "measure", "(LWaxCloth$Cloth;[II)V"⟩
abbrev cX7_lapOf : ByteArray := prog_9_method_3_code
def yX7_lapOf : MethodName := ⟨RX7, "lapOf", "(LWaxCloth$Cloth;I[II)I"⟩
abbrev cX7_leadOf : ByteArray := prog_9_method_4_code
def yX7_leadOf : MethodName := ⟨RX7, "leadOf", "(LWaxCloth$Cloth;I[III)I"⟩
def RX8 : String := "WaxCloth$Sheet"
def TX8 : u_T := fun k => match k with
  | 0 => ("WaxCloth$Sheet", "lane", "I", false)
  | 1 => ("WaxCloth$Sheet", "size", "I", false)
  | _ => ("WaxCloth$Sheet", "items", "[J", true)
def tyX8 : Nat → FieldType := fun k => match k with
  | 0 => .int
  | 1 => .int
  | _ => .array .long
abbrev wsX80 : List Cond := u_ws RX8 TX8 3
theorem nmX8 : ∀ a, a < 3 → ∀ b, b < 3 → a ≠ b → (TX8 a).2.1 ≠ (TX8 b).2.1 := by decide +kernel
theorem tyX8_ok : ∀ k, k < 3 → parseFieldDescriptor (TX8 k).2.2.1 = some (tyX8 k) := by decide +kernel
abbrev cX8_init : ByteArray := prog_10_method_1_code
def yX8_init : MethodName := ⟨RX8, "<init>", "()V"⟩
abbrev cX8_isLane : ByteArray := prog_10_method_2_code
def yX8_isLane : MethodName := ⟨RX8, "isLane", "(I)Z"⟩
abbrev cX8_isNothing : ByteArray := prog_10_method_3_code
def yX8_isNothing : MethodName := ⟨RX8, "isNothing", "()Z"⟩
abbrev cX8_begin : ByteArray := prog_10_method_4_code
def yX8_begin : MethodName := ⟨RX8, "begin", "(II)V"⟩
abbrev cX8_end : ByteArray := prog_10_method_5_code
def yX8_end : MethodName := ⟨RX8, "end", "()I"⟩
abbrev cX8_holds : ByteArray := prog_10_method_6_code
def yX8_holds : MethodName := ⟨RX8, "holds", "(II)Z"⟩
abbrev cX8_refusal : ByteArray := prog_10_method_7_code
def yX8_refusal : MethodName := ⟨RX8, "refusal", "(III)I"⟩
abbrev cX8_put : ByteArray := prog_10_method_8_code
def yX8_put : MethodName := ⟨RX8, "put", "(IJ)J"⟩
def RX9 : String := "WaxCloth$State"
def TX9 : u_T := fun k => match k with
  | _ => ("", "", "", false)
def tyX9 : Nat → FieldType := fun k => match k with
  | _ => .int
abbrev wsX90 : List Cond := u_ws RX9 TX9 0
theorem nmX9 : ∀ a, a < 0 → ∀ b, b < 0 → a ≠ b → (TX9 a).2.1 ≠ (TX9 b).2.1 := by decide +kernel
theorem tyX9_ok : ∀ k, k < 0 → parseFieldDescriptor (TX9 k).2.2.1 = some (tyX9 k) := by decide +kernel
abbrev cX9_isColour : ByteArray := prog_11_method_2_code
def yX9_isColour : MethodName := ⟨RX9, "isColour", "(I)Z"⟩
abbrev cX9_isAmount : ByteArray := prog_11_method_3_code
def yX9_isAmount : MethodName := ⟨RX9, "isAmount", "(I)Z"⟩
abbrev cX9_ofShade : ByteArray := prog_11_method_4_code
def yX9_ofShade : MethodName := ⟨RX9, "ofShade", "(III)I"⟩
abbrev cX9_amountOf : ByteArray := prog_11_method_5_code
def yX9_amountOf : MethodName := ⟨RX9, "amountOf", "(II)I"⟩
abbrev cX9_withMore : ByteArray := prog_11_method_6_code
def yX9_withMore : MethodName := ⟨RX9, "withMore", "(III)I"⟩
abbrev cX9_waxIn : ByteArray := prog_11_method_7_code
def yX9_waxIn : MethodName := ⟨RX9, "waxIn", "(I)I"⟩
abbrev cX9_withWax : ByteArray := prog_11_method_8_code
def yX9_withWax : MethodName := ⟨RX9, "withWax", "(II)I"⟩
abbrev cX9_hueOf : ByteArray := prog_11_method_9_code
def yX9_hueOf : MethodName := ⟨RX9, "hueOf", "(I)I"⟩
abbrev cX9_darkness : ByteArray := prog_11_method_10_code
def yX9_darkness : MethodName := ⟨RX9, "darkness", "(I)I"⟩
def RX10 : String := "WaxCloth$Tape"
def TX10 : u_T := fun k => match k with
  | 0 => ("WaxCloth$Tape", "length", "I", false)
  | _ => ("WaxCloth$Tape", "bytes", "[I", true)
def tyX10 : Nat → FieldType := fun k => match k with
  | 0 => .int
  | _ => .array .int
abbrev wsX100 : List Cond := u_ws RX10 TX10 2
theorem nmX10 : ∀ a, a < 2 → ∀ b, b < 2 → a ≠ b → (TX10 a).2.1 ≠ (TX10 b).2.1 := by decide +kernel
theorem tyX10_ok : ∀ k, k < 2 → parseFieldDescriptor (TX10 k).2.2.1 = some (tyX10 k) := by decide +kernel
abbrev cX10_init : ByteArray := prog_12_method_1_code
def yX10_init : MethodName := ⟨RX10, "<init>", "()V"⟩
abbrev cX10_put : ByteArray := prog_12_method_2_code
def yX10_put : MethodName := ⟨RX10, "put", "(I)Z"⟩
abbrev cX10_at : ByteArray := prog_12_method_3_code
def yX10_at : MethodName := ⟨RX10, "at", "(I)I"⟩
def RX11 : String := "WaxCloth"
def TX11 : u_T := fun k => match k with
  | 0 => ("WaxCloth", "tape", "LWaxCloth$Tape;", true)
  | 1 => ("WaxCloth", "reader", "LWaxCloth$Reader;", true)
  | 2 => ("WaxCloth", "now", "LWaxCloth$Cloth;", true)
  | 3 => ("WaxCloth", "past", "LWaxCloth$Past;", true)
  | 4 => ("WaxCloth", "kept", "[LWaxCloth$Cloth;", true)
  | 5 => ("WaxCloth", "shelf", "[LWaxCloth$Sheet;", true)
  | 6 => ("WaxCloth", "planner", "LWaxCloth$Planner;", true)
  | 7 => ("WaxCloth", "baths", "LWaxCloth$Baths;", true)
  | 8 => ("WaxCloth", "chances", "LWaxCloth$Chances;", true)
  | 9 => ("WaxCloth", "rounds", "LWaxCloth$Rounds;", true)
  | _ => ("WaxCloth", "doingRow", "[I", true)
def tyX11 : Nat → FieldType := fun k => match k with
  | 0 => .object "WaxCloth$Tape"
  | 1 => .object "WaxCloth$Reader"
  | 2 => .object "WaxCloth$Cloth"
  | 3 => .object "WaxCloth$Past"
  | 4 => .array (.object "WaxCloth$Cloth")
  | 5 => .array (.object "WaxCloth$Sheet")
  | 6 => .object "WaxCloth$Planner"
  | 7 => .object "WaxCloth$Baths"
  | 8 => .object "WaxCloth$Chances"
  | 9 => .object "WaxCloth$Rounds"
  | _ => .array .int
abbrev wsX110 : List Cond := u_ws RX11 TX11 11
theorem nmX11 : ∀ a, a < 11 → ∀ b, b < 11 → a ≠ b → (TX11 a).2.1 ≠ (TX11 b).2.1 := by decide +kernel
theorem tyX11_ok : ∀ k, k < 11 → parseFieldDescriptor (TX11 k).2.2.1 = some (tyX11 k) := by decide +kernel
abbrev cX11_init : ByteArray := prog_1_method_1_code
def yX11_init : MethodName := ⟨RX11, "<init>", "()V"⟩
abbrev cX11_feed : ByteArray := prog_1_method_2_code
def yX11_feed : MethodName := ⟨RX11, "feed", "(I)I"⟩
abbrev cX11_cloth : ByteArray := prog_1_method_3_code
def yX11_cloth : MethodName := ⟨RX11, "cloth", "()I"⟩
abbrev cX11_square : ByteArray := prog_1_method_4_code
def yX11_square : MethodName := ⟨RX11, "square", "(II)I"⟩
abbrev cX11_as : ByteArray := prog_1_method_5_code
def yX11_as : MethodName := ⟨RX11, "as", "(II)I"⟩
abbrev cX11_dye : ByteArray := prog_1_method_6_code
def yX11_dye : MethodName := ⟨RX11, "dye", "(II)I"⟩
abbrev cX11_stencil : ByteArray := prog_1_method_7_code
def yX11_stencil : MethodName := ⟨RX11, "stencil", "(I)I"⟩
abbrev cX11_takes : ByteArray := prog_1_method_8_code
def yX11_takes : MethodName := ⟨RX11, "takes", "(III)I"⟩
abbrev cX11_does : ByteArray := prog_1_method_9_code
def yX11_does : MethodName := ⟨RX11, "does", "(I)I"⟩
abbrev cX11_undo : ByteArray := prog_1_method_10_code
def yX11_undo : MethodName := ⟨RX11, "undo", "()I"⟩
abbrev cX11_wish : ByteArray := prog_1_method_11_code
def yX11_wish : MethodName := ⟨RX11, "wish", "(II)I"⟩
abbrev cX11_image : ByteArray := prog_1_method_12_code
def yX11_image : MethodName := ⟨RX11, "image", "(I)I"⟩
abbrev cX11_restore : ByteArray := prog_1_method_13_code
def yX11_restore : MethodName := ⟨RX11, "restore", "(I)I"⟩
abbrev cX11_plan : ByteArray := prog_1_method_14_code
def yX11_plan : MethodName := ⟨RX11, "plan", "(II)I"⟩
abbrev cX11_rows : ByteArray := prog_1_method_15_code
def yX11_rows : MethodName := ⟨RX11, "rows", "(IIIIII)I"⟩
abbrev cX11_shades : ByteArray := prog_1_method_16_code
def yX11_shades : MethodName := ⟨RX11, "shades", "(II)I"⟩
abbrev cX11_cracks : ByteArray := prog_1_method_17_code
def yX11_cracks : MethodName := ⟨RX11, "cracks", "(IIII)I"⟩
abbrev cX11_decades : ByteArray := prog_1_method_18_code
def yX11_decades : MethodName := ⟨RX11, "decades", "(III)I"⟩
abbrev cX11_sheet : ByteArray := prog_1_method_19_code
def yX11_sheet : MethodName := ⟨RX11, "sheet", "(III)I"⟩
abbrev cX11_drop : ByteArray := prog_1_method_20_code
def yX11_drop : MethodName := ⟨RX11, "drop", "(I)I"⟩
abbrev cX11_item : ByteArray := prog_1_method_21_code
def yX11_item : MethodName := ⟨RX11, "item", "(IIIJ)J"⟩
abbrev cX11_copy : ByteArray := prog_1_method_22_code
def yX11_copy : MethodName := ⟨RX11, "copy", "(IIIII)I"⟩
abbrev cX11_log : ByteArray := prog_1_method_23_code
def yX11_log : MethodName := ⟨RX11, "log", "(III)I"⟩
abbrev cX11_ahead : ByteArray := prog_1_method_24_code
def yX11_ahead : MethodName := ⟨RX11, "ahead", "(IIIIII)I"⟩
abbrev cX11_round : ByteArray := prog_1_method_25_code
def yX11_round : MethodName := ⟨RX11, "round", "(IIIII)I"⟩
abbrev cX11_kinds : ByteArray := prog_1_method_26_code
def yX11_kinds : MethodName := ⟨RX11, "kinds", "(IIIII)I"⟩
abbrev cX11_wishes : ByteArray := prog_1_method_27_code
def yX11_wishes : MethodName := ⟨RX11, "wishes", "(III)I"⟩
abbrev cX11_count : ByteArray := prog_1_method_28_code
def yX11_count : MethodName := ⟨RX11, "count", "(I)I"⟩
abbrev cX11_isSheet : ByteArray := prog_1_method_29_code
def yX11_isSheet : MethodName := ⟨RX11, "isSheet", "(I)Z"⟩
abbrev cX11_takeDoings : ByteArray := prog_1_method_30_code
def yX11_takeDoings : MethodName := ⟨RX11, "takeDoings", "(IIII)I"⟩
abbrev cX11_areTriples : ByteArray := prog_1_method_31_code
def yX11_areTriples : MethodName := ⟨RX11, "areTriples", "(LWaxCloth$Sheet;II)Z"⟩
abbrev cX11_kindsByTriples : ByteArray := prog_1_method_32_code
def yX11_kindsByTriples : MethodName := ⟨RX11, "kindsByTriples", "(LWaxCloth$Sheet;II)I"⟩
def RX12 : String := "WaxClothModel"
def TX12 : u_T := fun k => match k with
  | 0 => ("WaxClothModel", "cloth", "[I", true)
  | 1 => ("WaxClothModel", "read", "[I", true)
  | 2 => ("WaxClothModel", "readWish", "[I", true)
  | 3 => ("WaxClothModel", "now", "[I", true)
  | 4 => ("WaxClothModel", "aside", "[I", true)
  | 5 => ("WaxClothModel", "doings", "I", false)
  | 6 => ("WaxClothModel", "past", "[I", true)
  | 7 => ("WaxClothModel", "undos", "I", false)
  | 8 => ("WaxClothModel", "images", "[I", true)
  | 9 => ("WaxClothModel", "isKept", "[Z", true)
  | 10 => ("WaxClothModel", "tape", "[I", true)
  | 11 => ("WaxClothModel", "fed", "I", false)
  | 12 => ("WaxClothModel", "sizes", "[I", true)
  | 13 => ("WaxClothModel", "lanes", "[I", true)
  | 14 => ("WaxClothModel", "items", "[J", true)
  | 15 => ("WaxClothModel", "at", "I", false)
  | 16 => ("WaxClothModel", "value", "I", false)
  | 17 => ("WaxClothModel", "met", "[Z", true)
  | 18 => ("WaxClothModel", "weights", "[J", true)
  | 19 => ("WaxClothModel", "since", "[I", true)
  | 20 => ("WaxClothModel", "roundsAhead", "I", false)
  | _ => ("WaxClothModel", "length", "I", false)
def tyX12 : Nat → FieldType := fun k => match k with
  | 0 => .array .int
  | 1 => .array .int
  | 2 => .array .int
  | 3 => .array .int
  | 4 => .array .int
  | 5 => .int
  | 6 => .array .int
  | 7 => .int
  | 8 => .array .int
  | 9 => .array .boolean
  | 10 => .array .int
  | 11 => .int
  | 12 => .array .int
  | 13 => .array .int
  | 14 => .array .long
  | 15 => .int
  | 16 => .int
  | 17 => .array .boolean
  | 18 => .array .long
  | 19 => .array .int
  | 20 => .int
  | _ => .int
abbrev wsX120 : List Cond := u_ws RX12 TX12 22
theorem nmX12 : ∀ a, a < 22 → ∀ b, b < 22 → a ≠ b → (TX12 a).2.1 ≠ (TX12 b).2.1 := by decide +kernel
theorem tyX12_ok : ∀ k, k < 22 → parseFieldDescriptor (TX12 k).2.2.1 = some (tyX12 k) := by decide +kernel
abbrev cX12_init : ByteArray := prog_14_method_1_code
def yX12_init : MethodName := ⟨RX12, "<init>", "()V"⟩
abbrev cX12_in : ByteArray := prog_14_method_3_code
def yX12_in : MethodName := ⟨RX12, "in", "(JJJ)Z"⟩
abbrev cX12_has : ByteArray := prog_14_method_4_code
def yX12_has : MethodName := ⟨RX12, "has", "(II)Z"⟩
abbrev cX12_bits : ByteArray := prog_14_method_5_code
def yX12_bits : MethodName := ⟨RX12, "bits", "(I)I"⟩
abbrev cX12_copies : ByteArray := prog_14_method_6_code
def yX12_copies : MethodName := ⟨RX12, "copies", "([II[III)V"⟩
abbrev cX12_less : ByteArray := prog_14_method_7_code
def yX12_less : MethodName := ⟨RX12, "less", "(II)I"⟩
abbrev cX12_feed : ByteArray := prog_14_method_8_code
def yX12_feed : MethodName := ⟨RX12, "feed", "(I)I"⟩
abbrev cX12_here : ByteArray := prog_14_method_9_code
def yX12_here : MethodName := ⟨RX12, "here", "()I"⟩
abbrev cX12_eats : ByteArray := prog_14_method_10_code
def yX12_eats : MethodName := ⟨RX12, "eats", "(I)Z"⟩
abbrev cX12_figure : ByteArray := prog_14_method_11_code
def yX12_figure : MethodName := ⟨RX12, "figure", "(II)Z"⟩
abbrev cX12_kindBy : ByteArray := prog_14_method_12_code
def yX12_kindBy : MethodName := ⟨RX12, "kindBy", "(I)I"⟩
abbrev cX12_readsSquare : ByteArray := prog_14_method_13_code
def yX12_readsSquare : MethodName := ⟨RX12, "readsSquare", "()Z"⟩
abbrev cX12_readsDye : ByteArray := prog_14_method_14_code
def yX12_readsDye : MethodName := ⟨RX12, "readsDye", "()Z"⟩
abbrev cX12_readsStencil : ByteArray := prog_14_method_15_code
def yX12_readsStencil : MethodName := ⟨RX12, "readsStencil", "()Z"⟩
abbrev cX12_another : ByteArray := prog_14_method_16_code
def yX12_another : MethodName := ⟨RX12, "another", "(II)Z"⟩
abbrev cX12_reads : ByteArray := prog_14_method_17_code
def yX12_reads : MethodName := ⟨RX12, "reads", "()Z"⟩
abbrev cX12_cloth : ByteArray := prog_14_method_18_code
def yX12_cloth : MethodName := ⟨RX12, "cloth", "()I"⟩
abbrev cX12_isSquare : ByteArray := prog_14_method_19_code
def yX12_isSquare : MethodName := ⟨RX12, "isSquare", "(I)Z"⟩
abbrev cX12_isDye : ByteArray := prog_14_method_20_code
def yX12_isDye : MethodName := ⟨RX12, "isDye", "(I)Z"⟩
abbrev cX12_hueOf : ByteArray := prog_14_method_21_code
def yX12_hueOf : MethodName := ⟨RX12, "hueOf", "([II)I"⟩
abbrev cX12_darkOf : ByteArray := prog_14_method_22_code
def yX12_darkOf : MethodName := ⟨RX12, "darkOf", "([II)I"⟩
abbrev cX12_isRight : ByteArray := prog_14_method_23_code
def yX12_isRight : MethodName := ⟨RX12, "isRight", "([II)Z"⟩
abbrev cX12_rightOn : ByteArray := prog_14_method_24_code
def yX12_rightOn : MethodName := ⟨RX12, "rightOn", "([I)I"⟩
abbrev cX12_darkAll : ByteArray := prog_14_method_25_code
def yX12_darkAll : MethodName := ⟨RX12, "darkAll", "([I)I"⟩
abbrev cX12_takenBy : ByteArray := prog_14_method_26_code
def yX12_takenBy : MethodName := ⟨RX12, "takenBy", "(III)I"⟩
abbrev cX12_takenOn : ByteArray := prog_14_method_27_code
def yX12_takenOn : MethodName := ⟨RX12, "takenOn", "([IIII)I"⟩
abbrev cX12_cracksOn : ByteArray := prog_14_method_28_code
def yX12_cracksOn : MethodName := ⟨RX12, "cracksOn", "(I)I"⟩
abbrev cX12_bathes : ByteArray := prog_14_method_29_code
def yX12_bathes : MethodName := ⟨RX12, "bathes", "([III)V"⟩
abbrev cX12_rinses : ByteArray := prog_14_method_30_code
def yX12_rinses : MethodName := ⟨RX12, "rinses", "([II)V"⟩
abbrev cX12_isDoing : ByteArray := prog_14_method_31_code
def yX12_isDoing : MethodName := ⟨RX12, "isDoing", "(J)Z"⟩
abbrev cX12_doesOn : ByteArray := prog_14_method_32_code
def yX12_doesOn : MethodName := ⟨RX12, "doesOn", "([III)V"⟩
abbrev cX12_doesAll : ByteArray := prog_14_method_33_code
def yX12_doesAll : MethodName := ⟨RX12, "doesAll", "([II)V"⟩
abbrev cX12_square : ByteArray := prog_14_method_34_code
def yX12_square : MethodName := ⟨RX12, "square", "(II)I"⟩
abbrev cX12_as : ByteArray := prog_14_method_35_code
def yX12_as : MethodName := ⟨RX12, "as", "(II)I"⟩
abbrev cX12_dye : ByteArray := prog_14_method_36_code
def yX12_dye : MethodName := ⟨RX12, "dye", "(II)I"⟩
abbrev cX12_stencil : ByteArray := prog_14_method_37_code
def yX12_stencil : MethodName := ⟨RX12, "stencil", "(I)I"⟩
abbrev cX12_takes : ByteArray := prog_14_method_38_code
def yX12_takes : MethodName := ⟨RX12, "takes", "(III)I"⟩
abbrev cX12_does : ByteArray := prog_14_method_39_code
def yX12_does : MethodName := ⟨RX12, "does", "(I)I"⟩
abbrev cX12_undo : ByteArray := prog_14_method_40_code
def yX12_undo : MethodName := ⟨RX12, "undo", "()I"⟩
abbrev cX12_wish : ByteArray := prog_14_method_41_code
def yX12_wish : MethodName := ⟨RX12, "wish", "(II)I"⟩
abbrev cX12_image : ByteArray := prog_14_method_42_code
def yX12_image : MethodName := ⟨RX12, "image", "(I)I"⟩
abbrev cX12_restore : ByteArray := prog_14_method_43_code
def yX12_restore : MethodName := ⟨RX12, "restore", "(I)I"⟩
abbrev cX12_laysAside : ByteArray := prog_14_method_44_code
def yX12_laysAside : MethodName := ⟨RX12, "laysAside", "()V"⟩
abbrev cX12_doingsThere : ByteArray := prog_14_method_45_code
def yX12_doingsThere : MethodName := ⟨RX12, "doingsThere", "()I"⟩
abbrev cX12_doingOf : ByteArray := prog_14_method_46_code
def yX12_doingOf : MethodName := ⟨RX12, "doingOf", "(I)I"⟩
abbrev cX12_plan : ByteArray := prog_14_method_47_code
def yX12_plan : MethodName := ⟨RX12, "plan", "(II)I"⟩
abbrev cX12_whitens : ByteArray := prog_14_method_48_code
def yX12_whitens : MethodName := ⟨RX12, "whitens", "(I)V"⟩
abbrev cX12_power : ByteArray := prog_14_method_49_code
def yX12_power : MethodName := ⟨RX12, "power", "(II)I"⟩
abbrev cX12_shadeOf : ByteArray := prog_14_method_50_code
def yX12_shadeOf : MethodName := ⟨RX12, "shadeOf", "(III)I"⟩
abbrev cX12_rows : ByteArray := prog_14_method_51_code
def yX12_rows : MethodName := ⟨RX12, "rows", "(IIIIII)I"⟩
abbrev cX12_shades : ByteArray := prog_14_method_52_code
def yX12_shades : MethodName := ⟨RX12, "shades", "(II)I"⟩
abbrev cX12_cracks : ByteArray := prog_14_method_53_code
def yX12_cracks : MethodName := ⟨RX12, "cracks", "(IIII)I"⟩
abbrev cX12_decades : ByteArray := prog_14_method_54_code
def yX12_decades : MethodName := ⟨RX12, "decades", "(III)I"⟩
abbrev cX12_isSheet : ByteArray := prog_14_method_55_code
def yX12_isSheet : MethodName := ⟨RX12, "isSheet", "(II)Z"⟩
abbrev cX12_found : ByteArray := prog_14_method_56_code
def yX12_found : MethodName := ⟨RX12, "found", "(IIII)I"⟩
abbrev cX12_cut : ByteArray := prog_14_method_57_code
def yX12_cut : MethodName := ⟨RX12, "cut", "(IJ)J"⟩
abbrev cX12_log : ByteArray := prog_14_method_58_code
def yX12_log : MethodName := ⟨RX12, "log", "(III)I"⟩
abbrev cX12_areDoings : ByteArray := prog_14_method_59_code
def yX12_areDoings : MethodName := ⟨RX12, "areDoings", "(III)Z"⟩
abbrev cX12_ahead : ByteArray := prog_14_method_60_code
def yX12_ahead : MethodName := ⟨RX12, "ahead", "(IIIIII)I"⟩
abbrev cX12_codeOf : ByteArray := prog_14_method_61_code
def yX12_codeOf : MethodName := ⟨RX12, "codeOf", "(I)I"⟩
abbrev cX12_goesRound : ByteArray := prog_14_method_62_code
def yX12_goesRound : MethodName := ⟨RX12, "goesRound", "(IIII)V"⟩
abbrev cX12_round : ByteArray := prog_14_method_63_code
def yX12_round : MethodName := ⟨RX12, "round", "(IIIII)I"⟩
abbrev cX12_kinds : ByteArray := prog_14_method_64_code
def yX12_kinds : MethodName := ⟨RX12, "kinds", "(IIIII)I"⟩
abbrev cX12_tryOf : ByteArray := prog_14_method_65_code
def yX12_tryOf : MethodName := ⟨RX12, "tryOf", "(II)I"⟩
abbrev cX12_wishes : ByteArray := prog_14_method_66_code
def yX12_wishes : MethodName := ⟨RX12, "wishes", "(III)I"⟩
abbrev cX12_count : ByteArray := prog_14_method_67_code
def yX12_count : MethodName := ⟨RX12, "count", "(I)I"⟩
abbrev cX12_sheet : ByteArray := prog_14_method_68_code
def yX12_sheet : MethodName := ⟨RX12, "sheet", "(III)I"⟩
abbrev cX12_drop : ByteArray := prog_14_method_69_code
def yX12_drop : MethodName := ⟨RX12, "drop", "(I)I"⟩
abbrev cX12_item : ByteArray := prog_14_method_70_code
def yX12_item : MethodName := ⟨RX12, "item", "(IIIJ)J"⟩
abbrev cX12_copy : ByteArray := prog_14_method_71_code
def yX12_copy : MethodName := ⟨RX12, "copy", "(IIIII)I"⟩
def RJ6 : String := "java/lang/Integer"
abbrev cJ6_bitCount_0f7a4 : ByteArray := prog_15_method_49_code
def yJ6_bitCount_0f7a4 : MethodName := ⟨RJ6, "bitCount", "(I)I"⟩
def RJ9 : String := "java/lang/Math"
abbrev cJ9_max_7cf53 : ByteArray := prog_16_method_65_code
def yJ9_max_7cf53 : MethodName := ⟨RJ9, "max", "(II)I"⟩
abbrev cJ9_min_7cf53 : ByteArray := prog_16_method_69_code
def yJ9_min_7cf53 : MethodName := ⟨RJ9, "min", "(II)I"⟩
def RJ10 : String := "java/lang/System"
def RL : String := "WaxClothLaw"
abbrev cL_law : ByteArray := code
def yL_law : MethodName := ⟨RL, "law", "([I)Z"⟩
abbrev vwCl : List vw_C := [(RX0, TX0, 5), (RX1, TX1, 6), (RX2, TX2, 9), (RX4, TX4, 3), (RX5, TX5, 5), (RX6, TX6, 3), (RX7, TX7, 2), (RX8, TX8, 3), (RX10, TX10, 2), (RX11, TX11, 11), (RX12, TX12, 22)]
end
section
/-! THE LAYER: one picture of all cells (98 of them: the class's and the reference's), a state of ints and longs over it; a row an instruction. -/
def WS : List Cond := lw_tbl.filter goodWord
theorem ws_in {w : Cond} (i : Nat) (h : lw_tbl[i]? = some w) (hg : goodWord w = true) : w ∈ WS := List.mem_filter.mpr ⟨List.mem_of_getElem? h, hg⟩
theorem WS_good : GoodIn lw_tbl WS := fun _ h => ⟨(List.mem_filter.mp h).1, good_of_word (List.mem_filter.mp h).2⟩
theorem WS_self : GoodIn WS WS := fun _ h => ⟨h, good_of_word (List.mem_filter.mp h).2⟩
theorem WS_cons {w : Cond} (hw : w ∈ WS) : GoodIn WS (w :: WS) := fun v h => (List.mem_cons.mp h).elim (fun e => by rw [e]; exact WS_self w hw) (WS_self v)
theorem WS_mem {ws : List Cond} (h : GoodIn lw_tbl ws) (hg : ws.all goodWord = true) : ∀ w ∈ ws, w ∈ WS := fun w hw => List.mem_filter.mpr ⟨(h w hw).1, List.all_eq_true.mp hg w hw⟩
abbrev gS : Type := (Nat → Nat → Int32) × (Nat → Nat → Int64)
/-- class numbers and slots; the array classes; the cells' addresses; the static table -/
abbrev gX : Type := va_G × (Nat → ClassId) × (Nat → Nat) × Nat
abbrev oN : Option Nat := none
def ds0 : List (Nat × Nat × List (Option Nat)) := [(6, 9, [some 1, some 3, some 10, some 16, some 42, some 55, some 64, some 73, some 77, some 80, some 81]),
  (6, 8, [oN, some 2]),
  (0, 80, []),
  (6, 5, [some 4, oN, some 1]),
  (6, 2, [oN, oN, oN, oN, some 5, some 6, some 7, some 8, some 9]),
  (0, 8, []),
  (0, 8, []),
  (0, 8, []),
  (0, 12, []),
  (0, 3, []),
  (6, 2, [oN, oN, oN, oN, some 11, some 12, some 13, some 14, some 15]),
  (0, 8, []),
  (0, 8, []),
  (0, 8, []),
  (0, 12, []),
  (0, 3, []),
  (6, 3, [oN, oN, some 17]),
  (5, 24, [some 18, some 19, some 20, some 21, some 22, some 23, some 24, some 25, some 26, some 27, some 28, some 29, some 30, some 31, some 32, some 33, some 34, some 35, some 36, some 37, some 38, some 39, some 40, some 41]),
  (0, 8, []),
  (0, 8, []),
  (0, 8, []),
  (0, 8, []),
  (0, 8, []),
  (0, 8, []),
  (0, 8, []),
  (0, 8, []),
  (0, 8, []),
  (0, 8, []),
  (0, 8, []),
  (0, 8, []),
  (0, 8, []),
  (0, 8, []),
  (0, 8, []),
  (0, 8, []),
  (0, 8, []),
  (0, 8, []),
  (0, 8, []),
  (0, 8, []),
  (0, 8, []),
  (0, 8, []),
  (0, 8, []),
  (0, 8, []),
  (3, 2, [some 43, some 49]),
  (6, 2, [oN, oN, oN, oN, some 44, some 45, some 46, some 47, some 48]),
  (0, 8, []),
  (0, 8, []),
  (0, 8, []),
  (0, 12, []),
  (0, 3, []),
  (6, 2, [oN, oN, oN, oN, some 50, some 51, some 52, some 53, some 54]),
  (0, 8, []),
  (0, 8, []),
  (0, 8, []),
  (0, 12, []),
  (0, 3, []),
  (4, 4, [some 56, some 58, some 60, some 62]),
  (6, 7, [oN, oN, some 57]),
  (1, 24, []),
  (6, 7, [oN, oN, some 59]),
  (1, 24, []),
  (6, 7, [oN, oN, some 61]),
  (1, 24, []),
  (6, 7, [oN, oN, some 63]),
  (1, 24, []),
  (6, 4, [oN, oN, some 65, some 66, some 67]),
  (0, 4, []),
  (0, 4, []),
  (5, 5, [some 68, some 69, some 70, some 71, some 72]),
  (0, 8, []),
  (0, 8, []),
  (0, 8, []),
  (0, 8, []),
  (0, 8, []),
  (6, 0, [oN, oN, some 74, some 75, some 76]),
  (0, 5, []),
  (0, 5, []),
  (1, 64, []),
  (6, 1, [oN, oN, oN, oN, some 78, some 79]),
  (0, 9, []),
  (0, 8, []),
  (6, 6, [oN, oN]),
  (0, 20, []),
  (6, 10, [some 83, some 84, some 85, some 86, some 87, oN, some 88, oN, some 89, some 90, some 91, oN, some 92, some 93, some 94, oN, oN, some 95, some 96, some 97, oN, oN]),
  (0, 26, []),
  (0, 26, []),
  (0, 8, []),
  (0, 40, []),
  (0, 40, []),
  (0, 768, []),
  (0, 134, []),
  (2, 2, []),
  (0, 80, []),
  (0, 4, []),
  (0, 4, []),
  (1, 96, []),
  (2, 1000, []),
  (1, 10, []),
  (0, 4000, [])]
abbrev NC : Nat := 98
def ds (c : Nat) : Nat × Nat × List (Option Nat) := ds0.getD c (9, 0, [])
abbrev isO (c ci : Nat) : Prop := (ds c).1 = 6 ∧ (ds c).2.1 = ci
abbrev isI (c n : Nat) : Prop := (ds c).1 = 0 ∧ (ds c).2.1 = n
abbrev isJ (c n : Nat) : Prop := (ds c).1 = 1 ∧ (ds c).2.1 = n
abbrev isZ (c n : Nat) : Prop := (ds c).1 = 2 ∧ (ds c).2.1 = n
abbrev ln (c : Nat) : Nat := (ds c).2.1
abbrev inR (i : Int32) (n : Nat) : Prop := ¬ (i < 0 ∨ n ≤ i.toNatClampNeg)
def gF (ad : Nat → Nat) (m : Nat → Int32) : Nat → List (Option Nat) → List Value
  | _, [] => []
  | k, none :: l => .int (m k) :: gF ad m (k + 1) l
  | k, some j :: l => .ref (ad j) :: gF ad m (k + 1) l
theorem gF_int {ad : Nat → Nat} {m : Nat → Int32} : ∀ (l : List (Option Nat)) (k i : Nat), l[i]? = some none → (gF ad m k l)[i]? = some (.int (m (k + i)))
  | [], k, i, h => by simp at h
  | none :: l, k, 0, h => rfl
  | some j :: l, k, 0, h => by simp at h
  | none :: l, k, i + 1, h => by
    have := gF_int (ad := ad) (m := m) l (k + 1) i (by simpa using h)
    rw [show k + (i + 1) = k + 1 + i by omega]; exact this
  | some j :: l, k, i + 1, h => by
    have := gF_int (ad := ad) (m := m) l (k + 1) i (by simpa using h)
    rw [show k + (i + 1) = k + 1 + i by omega]; exact this
theorem gF_ref {ad : Nat → Nat} {m : Nat → Int32} {q : Nat} : ∀ (l : List (Option Nat)) (k i : Nat), l[i]? = some (some q) → (gF ad m k l)[i]? = some (.ref (ad q))
  | [], k, i, h => by simp at h
  | none :: l, k, 0, h => by simp at h
  | some j :: l, k, 0, h => by
    have e : j = q := by simpa using h
    subst e; rfl
  | none :: l, k, i + 1, h => gF_ref l (k + 1) i (by simpa using h)
  | some j :: l, k, i + 1, h => gF_ref l (k + 1) i (by simpa using h)
theorem gF_len {ad : Nat → Nat} {m : Nat → Int32} : ∀ (l : List (Option Nat)) (k : Nat), (gF ad m k l).length = l.length
  | [], k => rfl
  | none :: l, k => by show (gF ad m (k + 1) l).length + 1 = _; rw [gF_len l (k + 1)]; rfl
  | some j :: l, k => by show (gF ad m (k + 1) l).length + 1 = _; rw [gF_len l (k + 1)]; rfl
theorem gF_congr {ad : Nat → Nat} {m m' : Nat → Int32} : ∀ (l : List (Option Nat)) (k : Nat), (∀ j, k ≤ j → m j = m' j) → gF ad m k l = gF ad m' k l
  | [], k, h => rfl
  | none :: l, k, h => by
    show Value.int (m k) :: gF ad m (k + 1) l = Value.int (m' k) :: gF ad m' (k + 1) l
    rw [h k (Nat.le_refl _), gF_congr l (k + 1) (fun j hj => h j (by omega))]
  | some j :: l, k, h => by
    show Value.ref (ad j) :: gF ad m (k + 1) l = Value.ref (ad j) :: gF ad m' (k + 1) l
    rw [gF_congr l (k + 1) (fun j hj => h j (by omega))]
theorem gF_set {ad : Nat → Nat} {m : Nat → Int32} {v : Int32} : ∀ (l : List (Option Nat)) (k i : Nat), l[i]? = some none → (gF ad m k l).set i (.int v) = gF ad (upd m (k + i) v) k l
  | [], k, i, h => by simp at h
  | none :: l, k, 0, h => by
    show Value.int v :: gF ad m (k + 1) l = Value.int (upd m (k + 0) v k) :: gF ad (upd m (k + 0) v) (k + 1) l
    rw [show upd m (k + 0) v k = v by simp [upd]]
    rw [gF_congr (m := m) (m' := upd m (k + 0) v) l (k + 1) (fun j hj => by simp [upd, show j ≠ k by omega])]
  | some j :: l, k, 0, h => by simp at h
  | none :: l, k, i + 1, h => by
    show Value.int (m k) :: (gF ad m (k + 1) l).set i (.int v) = Value.int (upd m (k + (i + 1)) v k) :: gF ad (upd m (k + (i + 1)) v) (k + 1) l
    rw [gF_set l (k + 1) i (by simpa using h), show k + 1 + i = k + (i + 1) by omega, show upd m (k + (i + 1)) v k = m k by simp [upd]]
  | some j :: l, k, i + 1, h => by
    show Value.ref (ad j) :: (gF ad m (k + 1) l).set i (.int v) = Value.ref (ad j) :: gF ad (upd m (k + (i + 1)) v) (k + 1) l
    rw [gF_set l (k + 1) i (by simpa using h), show k + 1 + i = k + (i + 1) by omega]
def gR (ad : Nat → Nat) (l : List (Option Nat)) : Nat → Option Nat := fun j => (l.getD j none).map ad
def gE (X : gX) (c : Nat) (m : Nat → Int32) (g : Nat → Int64) : va_E :=
  match (ds c).1 with
  | 0 => .inl (X.2.1 0, (ds c).2.1, .inl m)
  | 1 => .inl (X.2.1 1, (ds c).2.1, .inr (.inl g))
  | 2 => .inl (X.2.1 2, (ds c).2.1, .inl m)
  | 3 => .inl (X.2.1 3, (ds c).2.1, .inr (.inr (.inr (.inr (gR X.2.2.1 (ds c).2.2)))))
  | 4 => .inl (X.2.1 4, (ds c).2.1, .inr (.inr (.inr (.inr (gR X.2.2.1 (ds c).2.2)))))
  | 5 => .inl (X.2.1 5, (ds c).2.1, .inr (.inr (.inr (.inr (gR X.2.2.1 (ds c).2.2)))))
  | _ => .inr ((ds c).2.1, gF X.2.2.1 m 0 (ds c).2.2)
def gw (X : gX) (σ : gS) : va_W := (List.range NC).map (fun c => (X.2.2.1 c, gE X c (σ.1 c) (σ.2 c)))
theorem gw_get {X : gX} {σ : gS} {c : Nat} (h : c < NC) : (gw X σ)[c]? = some (X.2.2.1 c, gE X c (σ.1 c) (σ.2 c)) := by
  unfold gw; rw [List.getElem?_map, List.getElem?_range h]; rfl
theorem gw_of {X : gX} {σ : gS} {c : Nat} {q : Nat × va_E} (h : (gw X σ)[c]? = some q) : c < NC ∧ q = (X.2.2.1 c, gE X c (σ.1 c) (σ.2 c)) := by
  have hl : c < NC := by
    have := (List.getElem?_eq_some_iff.mp h).1
    unfold gw at this; rw [List.length_map, List.length_range] at this; exact this
  rw [gw_get hl] at h
  exact ⟨hl, (Option.some.inj h).symm⟩
def s1 (σ : gS) (c : Nat) (f : Nat → Int32) : gS := (fun d => if d = c then f else σ.1 d, σ.2)
def s2 (σ : gS) (c : Nat) (g : Nat → Int64) : gS := (σ.1, fun d => if d = c then g else σ.2 d)
theorem gw_s1 {X : gX} {σ : gS} {c : Nat} {f : Nat → Int32} (h : c < NC) : (gw X σ).set c (X.2.2.1 c, gE X c f (σ.2 c)) = gw X (s1 σ c f) := by
  apply List.ext_getElem?
  intro k
  by_cases hk : k < NC
  · by_cases hkc : c = k
    · subst hkc
      rw [List.getElem?_set_self (by unfold gw; rw [List.length_map, List.length_range]; exact h), gw_get hk]
      simp [s1]
    · rw [List.getElem?_set_ne hkc, gw_get hk, gw_get hk]
      simp [s1, Ne.symm hkc]
  · rw [List.getElem?_eq_none (by rw [List.length_set]; unfold gw; rw [List.length_map, List.length_range]; omega), List.getElem?_eq_none (by unfold gw; rw [List.length_map, List.length_range]; omega)]
theorem gw_s2 {X : gX} {σ : gS} {c : Nat} {g : Nat → Int64} (h : c < NC) : (gw X σ).set c (X.2.2.1 c, gE X c (σ.1 c) g) = gw X (s2 σ c g) := by
  apply List.ext_getElem?
  intro k
  by_cases hk : k < NC
  · by_cases hkc : c = k
    · subst hkc
      rw [List.getElem?_set_self (by unfold gw; rw [List.length_map, List.length_range]; exact h), gw_get hk]
      simp [s2]
    · rw [List.getElem?_set_ne hkc, gw_get hk, gw_get hk]
      simp [s2, Ne.symm hkc]
  · rw [List.getElem?_eq_none (by rw [List.length_set]; unfold gw; rw [List.length_map, List.length_range]; omega), List.getElem?_eq_none (by unfold gw; rw [List.length_map, List.length_range]; omega)]
theorem ds_lt {c : Nat} (h : (ds c).1 ≠ 9) : c < NC := by
  apply Nat.lt_of_not_le
  intro hc
  apply h
  unfold ds
  rw [List.getD_eq_getElem?_getD, List.getElem?_eq_none (by exact hc)]
  rfl
theorem isO_lt {c ci : Nat} (h : isO c ci) : c < NC := ds_lt (by rw [h.1]; decide)
theorem isI_lt {c n : Nat} (h : isI c n) : c < NC := ds_lt (by rw [h.1]; decide)
theorem isJ_lt {c n : Nat} (h : isJ c n) : c < NC := ds_lt (by rw [h.1]; decide)
theorem isZ_lt {c n : Nat} (h : isZ c n) : c < NC := ds_lt (by rw [h.1]; decide)
theorem gE_O {X : gX} {c ci : Nat} {m : Nat → Int32} {g : Nat → Int64} (h : isO c ci) : gE X c m g = .inr (ci, gF X.2.2.1 m 0 (ds c).2.2) := by
  unfold gE; rw [h.1, h.2]; rfl
theorem gE_I {X : gX} {c n : Nat} {m : Nat → Int32} {g : Nat → Int64} (h : isI c n) : gE X c m g = .inl (X.2.1 0, n, .inl m) := by
  unfold gE; rw [h.1, h.2]; rfl
theorem gE_J {X : gX} {c n : Nat} {m : Nat → Int32} {g : Nat → Int64} (h : isJ c n) : gE X c m g = .inl (X.2.1 1, n, .inr (.inl g)) := by
  unfold gE; rw [h.1, h.2]; rfl
theorem gE_Z {X : gX} {c n : Nat} {m : Nat → Int32} {g : Nat → Int64} (h : isZ c n) : gE X c m g = .inl (X.2.1 2, n, .inl m) := by
  unfold gE; rw [h.1, h.2]; rfl
def gTy (X : gX) : List (ClassId × FieldType) := [(X.2.1 0, .int), (X.2.1 1, .long), (X.2.1 2, .boolean), (X.2.1 3, .object "WaxCloth$Cloth"), (X.2.1 4, .object "WaxCloth$Sheet"), (X.2.1 5, .array .int)]
def gA (X : gX) : Nat → Prop := fun q => ∃ c, c < NC ∧ q = X.2.2.1 c
def gDj (X : gX) : Prop := ∀ i j, i < NC → j < NC → X.2.2.1 i = X.2.2.1 j → i = j
theorem gD {X : gX} (h : gDj X) (σ : gS) : va_D (gA X) (gw X σ) := by
  refine ⟨fun i j x y hi hj hxy => ?_, fun k q hk => ?_⟩
  · obtain ⟨h1, rfl⟩ := gw_of hi
    obtain ⟨h2, rfl⟩ := gw_of hj
    exact h i j h1 h2 hxy
  · obtain ⟨h1, rfl⟩ := gw_of hk
    exact ⟨k, h1, rfl⟩
def abv (j : Nat) : Int32 := match j with
  | 0 => -1 | 1 => 0 | 2 => 1 | 3 => 1 | 4 => 0 | _ => 4
def gZ (X : gX) (U : State) (H : Heap) : Prop := va_Z "WaxCloth$Kind" "ABOVE" "[I" (.ref X.2.2.2) (gA X) U H ∧ va_T .int X.2.2.2 6 (fun j => .int (abv j)) (gA X) U H
def gH (X : gX) (σ : gS) (U : State) : Prop := va_P X.1 vwCl (gw X σ) U.heap ∧ va_K X.1 vwCl (gTy X) U ∧ gDj X ∧ gZ X U U.heap
def gQ (X : gX) (v : Option Value) (σ : gS) : Array Value → State → Outcome → State → Prop := fun _ st o t => (o = .returned v ∧ gH X σ t) ∧ va_F (gA X) st t
def rmd (d : Nat) : Room := { frames := d, cells := 0, slots := 0, locals := 64 * d }
def gCt (l : Launch) (X : gX) (y : MethodName) (w : Cond) (d : Nat) (as : List Value) (σ : gS) (v : Option Value) (σ' : gS) : Prop :=
  Met l y (w :: WS) (rmd d) (va_Pc as (gH X σ)) (gQ X v σ') 0 0 (gA X)
abbrev gM : Type := (Program × Launch × Env × Room × State × MethodId × Array Value × List Frame × Method × Code) × gX × Nat × Option Value × gS
def gAt (G : gM) (pc : Nat) (L : List (Nat × Value)) (st : List Value) (σ : gS) : Prop :=
  match G with
  | ((p, l, e, R, s, m, args, below, meth, c), X, nL, v0, σ0) => ∀ (H : Heap) (locs : List Loc) (ls : Array Slot), lv_has ls nL L → va_P X.1 vwCl (gw X σ) H → va_S (gA X) s.heap H locs → W p l e R s m args below meth c H locs 0 0 (MQ below (gQ X v0 σ0) args s 0 0 (gA X)) (F0 m pc ls st)
def gOk (G : gM) (own : String) (cc : ByteArray) (d : Nat) (rt : Option FieldType) (nL : Nat) : Prop :=
  match G with
  | ((p, l, e, R, s, m, args, below, meth, c), X, nL', v0, σ0) => p.tables.exec = Jvm.exec ∧ c.code = cc ∧ c.maxLocals = nL ∧ nL' = nL ∧ s.vm.findClass own = some m.cls ∧ (∀ w ∈ WS, w.before args s = true) ∧ meth.locks = false ∧ meth.sig.returnType = rt ∧ R = rmd d ∧ va_K X.1 vwCl (gTy X) s ∧ gDj X ∧ gZ X s s.heap
section ROWS
variable {G : gM} {own : String} {cc : ByteArray} {d : Nat} {rt : Option FieldType} {nL : Nat} {pc n : Nat} {L L' : List (Nat × Value)} {st : List Value} {σ : gS}
theorem a_iconst (ho : gOk G own cc d rt nL) {z : Int} {v : Int32} (hd : decode cc pc = .ok (.iconst z, 1)) (hn : pc + 1 = n) (hv : Int32.ofInt z = v) (k : gAt G n L (.int v :: st) σ) : gAt G pc L (st) σ := by
  subst hn; obtain ⟨⟨p, l, e, R, s, m, args, below, meth, c0⟩, X, nL0, v0, σ0⟩ := G; exact fun H locs ls hl hP hS => lv_iconst ho.1 ho.2.1 hd hv (k H locs ls hl hP hS)
theorem a_bipush (ho : gOk G own cc d rt nL) {z : Int} {v : Int32} (hd : decode cc pc = .ok (.bipush z, 2)) (hn : pc + 2 = n) (hv : (Int8.ofInt z).toInt32 = v) (k : gAt G n L (.int v :: st) σ) : gAt G pc L (st) σ := by
  subst hn; obtain ⟨⟨p, l, e, R, s, m, args, below, meth, c0⟩, X, nL0, v0, σ0⟩ := G; exact fun H locs ls hl hP hS => lv_bipush ho.1 ho.2.1 hd hv (k H locs ls hl hP hS)
theorem a_sipush (ho : gOk G own cc d rt nL) {z : Int} {v : Int32} (hd : decode cc pc = .ok (.sipush z, 3)) (hn : pc + 3 = n) (hv : (Int16.ofInt z).toInt32 = v) (k : gAt G n L (.int v :: st) σ) : gAt G pc L (st) σ := by
  subst hn; obtain ⟨⟨p, l, e, R, s, m, args, below, meth, c0⟩, X, nL0, v0, σ0⟩ := G; exact fun H locs ls hl hP hS => lv_sipush ho.1 ho.2.1 hd hv (k H locs ls hl hP hS)
theorem a_lconst (ho : gOk G own cc d rt nL) {z : Fin 2} {v : Int64} (hd : decode cc pc = .ok (.lconst z, 1)) (hn : pc + 1 = n) (hv : Int64.ofNat (z : Nat) = v) (k : gAt G n L (.long v :: st) σ) : gAt G pc L (st) σ := by
  subst hn; obtain ⟨⟨p, l, e, R, s, m, args, below, meth, c0⟩, X, nL0, v0, σ0⟩ := G; exact fun H locs ls hl hP hS => lv_lconst ho.1 ho.2.1 hd hv (k H locs ls hl hP hS)
theorem a_ldc (ho : gOk G own cc d rt nL) {i : Nat} {v : Int32} (hd : decode cc pc = .ok (.ldc i, 2)) (hn : pc + 2 = n) (hv : Cond.constant own i v ∈ WS) (k : gAt G n L (.int v :: st) σ) : gAt G pc L (st) σ := by
  subst hn; obtain ⟨⟨p, l, e, R, s, m, args, below, meth, c0⟩, X, nL0, v0, σ0⟩ := G; exact fun H locs ls hl hP hS => lv_ldc ho.1 ho.2.1 ho.2.2.2.2.1 (ho.2.2.2.2.2.1 _ hv) hd (k H locs ls hl hP hS)
theorem a_ldcw (ho : gOk G own cc d rt nL) {i : Nat} {v : Int32} (hd : decode cc pc = .ok (.ldc_w i, 3)) (hn : pc + 3 = n) (hv : Cond.constant own i v ∈ WS) (k : gAt G n L (.int v :: st) σ) : gAt G pc L (st) σ := by
  subst hn; obtain ⟨⟨p, l, e, R, s, m, args, below, meth, c0⟩, X, nL0, v0, σ0⟩ := G; exact fun H locs ls hl hP hS => lv_ldcw ho.1 ho.2.1 ho.2.2.2.2.1 (ho.2.2.2.2.2.1 _ hv) hd (k H locs ls hl hP hS)
theorem a_ldc2 (ho : gOk G own cc d rt nL) {i : Nat} {v : Int64} (hd : decode cc pc = .ok (.ldc2_w i, 3)) (hn : pc + 3 = n) (hv : Cond.constantLong own i v ∈ WS) (k : gAt G n L (.long v :: st) σ) : gAt G pc L (st) σ := by
  subst hn; obtain ⟨⟨p, l, e, R, s, m, args, below, meth, c0⟩, X, nL0, v0, σ0⟩ := G; exact fun H locs ls hl hP hS => lv_ldc2 ho.1 ho.2.1 ho.2.2.2.2.1 (ho.2.2.2.2.2.1 _ hv) hd (k H locs ls hl hP hS)
theorem a_iload_n (ho : gOk G own cc d rt nL) {w : Fin 4} {i : Nat} {x : Int32} (hd : decode cc pc = .ok (.iload_n w, 1)) (hn : pc + 1 = n) (hi : (w : Nat) = i) (q : Nat) (hq : L[q]? = some (i, .int x)) (k : gAt G n L (.int x :: st) σ) : gAt G pc L (st) σ := by
  subst hn; obtain ⟨⟨p, l, e, R, s, m, args, below, meth, c0⟩, X, nL0, v0, σ0⟩ := G; exact fun H locs ls hl hP hS => lv_iload_n ho.1 ho.2.1 hd hi (lv_at hl q hq) (k H locs ls hl hP hS)
theorem a_iload (ho : gOk G own cc d rt nL) {i : Nat} {x : Int32} (hd : decode cc pc = .ok (.iload i, 2)) (hn : pc + 2 = n) (q : Nat) (hq : L[q]? = some (i, .int x)) (k : gAt G n L (.int x :: st) σ) : gAt G pc L (st) σ := by
  subst hn; obtain ⟨⟨p, l, e, R, s, m, args, below, meth, c0⟩, X, nL0, v0, σ0⟩ := G; exact fun H locs ls hl hP hS => lv_iload ho.1 ho.2.1 hd (lv_at hl q hq) (k H locs ls hl hP hS)
theorem a_lload_n (ho : gOk G own cc d rt nL) {w : Fin 4} {i : Nat} {x : Int64} (hd : decode cc pc = .ok (.lload_n w, 1)) (hn : pc + 1 = n) (hi : (w : Nat) = i) (q : Nat) (hq : L[q]? = some (i, .long x)) (k : gAt G n L (.long x :: st) σ) : gAt G pc L (st) σ := by
  subst hn; obtain ⟨⟨p, l, e, R, s, m, args, below, meth, c0⟩, X, nL0, v0, σ0⟩ := G; exact fun H locs ls hl hP hS => lv_lload_n ho.1 ho.2.1 hd hi (lv_at hl q hq) (k H locs ls hl hP hS)
theorem a_lload (ho : gOk G own cc d rt nL) {i : Nat} {x : Int64} (hd : decode cc pc = .ok (.lload i, 2)) (hn : pc + 2 = n) (q : Nat) (hq : L[q]? = some (i, .long x)) (k : gAt G n L (.long x :: st) σ) : gAt G pc L (st) σ := by
  subst hn; obtain ⟨⟨p, l, e, R, s, m, args, below, meth, c0⟩, X, nL0, v0, σ0⟩ := G; exact fun H locs ls hl hP hS => lv_lload ho.1 ho.2.1 hd (lv_at hl q hq) (k H locs ls hl hP hS)
theorem a_aload_n (ho : gOk G own cc d rt nL) {w : Fin 4} {i : Nat} {x : Nat} (hd : decode cc pc = .ok (.aload_n w, 1)) (hn : pc + 1 = n) (hi : (w : Nat) = i) (q : Nat) (hq : L[q]? = some (i, .ref x)) (k : gAt G n L (.ref x :: st) σ) : gAt G pc L (st) σ := by
  subst hn; obtain ⟨⟨p, l, e, R, s, m, args, below, meth, c0⟩, X, nL0, v0, σ0⟩ := G; exact fun H locs ls hl hP hS => lv_aload_n ho.1 ho.2.1 hd hi (lv_at hl q hq) (k H locs ls hl hP hS)
theorem a_aload (ho : gOk G own cc d rt nL) {i : Nat} {x : Nat} (hd : decode cc pc = .ok (.aload i, 2)) (hn : pc + 2 = n) (q : Nat) (hq : L[q]? = some (i, .ref x)) (k : gAt G n L (.ref x :: st) σ) : gAt G pc L (st) σ := by
  subst hn; obtain ⟨⟨p, l, e, R, s, m, args, below, meth, c0⟩, X, nL0, v0, σ0⟩ := G; exact fun H locs ls hl hP hS => lv_aload ho.1 ho.2.1 hd (lv_at hl q hq) (k H locs ls hl hP hS)
theorem a_istore_n (ho : gOk G own cc d rt nL) {w : Fin 4} {i : Nat} {x : Int32} (hd : decode cc pc = .ok (.istore_n w, 1)) (hn : pc + 1 = n) (hi : (w : Nat) = i) (hb : i < nL) (hL : (i, Value.int x) :: L.filter (fun q => !(q.1 == i) && !(q.1 + 1 == i && q.2.category == 2)) = L') (k : gAt G n L' st σ) : gAt G pc L (.int x :: st) σ := by
  subst hn; obtain ⟨⟨p, l, e, R, s, m, args, below, meth, c0⟩, X, nL0, v0, σ0⟩ := G; exact fun H locs ls hl hP hS => lv_istore_n ho.1 ho.2.1 hd hi hl (by rw [ho.2.2.2.1]; exact hb) hL (fun ls' hl' => k H locs ls' hl' hP hS)
theorem a_istore (ho : gOk G own cc d rt nL) {i : Nat} {x : Int32} (hd : decode cc pc = .ok (.istore i, 2)) (hn : pc + 2 = n) (hb : i < nL) (hL : (i, Value.int x) :: L.filter (fun q => !(q.1 == i) && !(q.1 + 1 == i && q.2.category == 2)) = L') (k : gAt G n L' st σ) : gAt G pc L (.int x :: st) σ := by
  subst hn; obtain ⟨⟨p, l, e, R, s, m, args, below, meth, c0⟩, X, nL0, v0, σ0⟩ := G; exact fun H locs ls hl hP hS => lv_istore ho.1 ho.2.1 hd hl (by rw [ho.2.2.2.1]; exact hb) hL (fun ls' hl' => k H locs ls' hl' hP hS)
theorem a_lstore_n (ho : gOk G own cc d rt nL) {w : Fin 4} {i : Nat} {x : Int64} (hd : decode cc pc = .ok (.lstore_n w, 1)) (hn : pc + 1 = n) (hi : (w : Nat) = i) (hb : i + 1 < nL) (hL : (i, Value.long x) :: L.filter (fun q => !(q.1 == i) && (!(q.1 == i + 1) && !(q.1 + 1 == i && q.2.category == 2))) = L') (k : gAt G n L' st σ) : gAt G pc L (.long x :: st) σ := by
  subst hn; obtain ⟨⟨p, l, e, R, s, m, args, below, meth, c0⟩, X, nL0, v0, σ0⟩ := G; exact fun H locs ls hl hP hS => lv_lstore_n ho.1 ho.2.1 hd hi hl (by rw [ho.2.2.2.1]; exact hb) hL (fun ls' hl' => k H locs ls' hl' hP hS)
theorem a_lstore (ho : gOk G own cc d rt nL) {i : Nat} {x : Int64} (hd : decode cc pc = .ok (.lstore i, 2)) (hn : pc + 2 = n) (hb : i + 1 < nL) (hL : (i, Value.long x) :: L.filter (fun q => !(q.1 == i) && (!(q.1 == i + 1) && !(q.1 + 1 == i && q.2.category == 2))) = L') (k : gAt G n L' st σ) : gAt G pc L (.long x :: st) σ := by
  subst hn; obtain ⟨⟨p, l, e, R, s, m, args, below, meth, c0⟩, X, nL0, v0, σ0⟩ := G; exact fun H locs ls hl hP hS => lv_lstore ho.1 ho.2.1 hd hl (by rw [ho.2.2.2.1]; exact hb) hL (fun ls' hl' => k H locs ls' hl' hP hS)
theorem a_astore_n (ho : gOk G own cc d rt nL) {w : Fin 4} {i : Nat} {x : Nat} (hd : decode cc pc = .ok (.astore_n w, 1)) (hn : pc + 1 = n) (hi : (w : Nat) = i) (hb : i < nL) (hL : (i, Value.ref x) :: L.filter (fun q => !(q.1 == i) && !(q.1 + 1 == i && q.2.category == 2)) = L') (k : gAt G n L' st σ) : gAt G pc L (.ref x :: st) σ := by
  subst hn; obtain ⟨⟨p, l, e, R, s, m, args, below, meth, c0⟩, X, nL0, v0, σ0⟩ := G; exact fun H locs ls hl hP hS => lv_astore_n ho.1 ho.2.1 hd hi hl (by rw [ho.2.2.2.1]; exact hb) hL (fun ls' hl' => k H locs ls' hl' hP hS)
theorem a_astore (ho : gOk G own cc d rt nL) {i : Nat} {x : Nat} (hd : decode cc pc = .ok (.astore i, 2)) (hn : pc + 2 = n) (hb : i < nL) (hL : (i, Value.ref x) :: L.filter (fun q => !(q.1 == i) && !(q.1 + 1 == i && q.2.category == 2)) = L') (k : gAt G n L' st σ) : gAt G pc L (.ref x :: st) σ := by
  subst hn; obtain ⟨⟨p, l, e, R, s, m, args, below, meth, c0⟩, X, nL0, v0, σ0⟩ := G; exact fun H locs ls hl hP hS => lv_astore ho.1 ho.2.1 hd hl (by rw [ho.2.2.2.1]; exact hb) hL (fun ls' hl' => k H locs ls' hl' hP hS)
theorem a_iinc (ho : gOk G own cc d rt nL) {i : Nat} {z : Int} {x v : Int32} (hd : decode cc pc = .ok (.iinc i z, 3)) (hn : pc + 3 = n) (q : Nat) (hq : L[q]? = some (i, .int x)) (hv : x + Int32.ofInt z = v) (hb : i < nL) (hL : (i, Value.int v) :: L.filter (fun q => !(q.1 == i) && !(q.1 + 1 == i && q.2.category == 2)) = L') (k : gAt G n L' st σ) : gAt G pc L st σ := by
  subst hn; obtain ⟨⟨p, l, e, R, s, m, args, below, meth, c0⟩, X, nL0, v0, σ0⟩ := G; exact fun H locs ls hl hP hS => lv_iinc ho.1 ho.2.1 hd hl hq hv (by rw [ho.2.2.2.1]; exact hb) hL (fun ls' hl' => k H locs ls' hl' hP hS)
theorem a_iadd (ho : gOk G own cc d rt nL) {x y : Int32} (hd : decode cc pc = .ok (.iadd, 1)) (hn : pc + 1 = n)  (k : gAt G n L (.int (x + y) :: st) σ) : gAt G pc L (.int y :: .int x :: st) σ := by
  subst hn; obtain ⟨⟨p, l, e, R, s, m, args, below, meth, c0⟩, X, nL0, v0, σ0⟩ := G; exact fun H locs ls hl hP hS => lv_iadd ho.1 ho.2.1 hd (k H locs ls hl hP hS)
theorem a_isub (ho : gOk G own cc d rt nL) {x y : Int32} (hd : decode cc pc = .ok (.isub, 1)) (hn : pc + 1 = n)  (k : gAt G n L (.int (x - y) :: st) σ) : gAt G pc L (.int y :: .int x :: st) σ := by
  subst hn; obtain ⟨⟨p, l, e, R, s, m, args, below, meth, c0⟩, X, nL0, v0, σ0⟩ := G; exact fun H locs ls hl hP hS => lv_isub ho.1 ho.2.1 hd (k H locs ls hl hP hS)
theorem a_imul (ho : gOk G own cc d rt nL) {x y : Int32} (hd : decode cc pc = .ok (.imul, 1)) (hn : pc + 1 = n)  (k : gAt G n L (.int (x * y) :: st) σ) : gAt G pc L (.int y :: .int x :: st) σ := by
  subst hn; obtain ⟨⟨p, l, e, R, s, m, args, below, meth, c0⟩, X, nL0, v0, σ0⟩ := G; exact fun H locs ls hl hP hS => lv_imul ho.1 ho.2.1 hd (k H locs ls hl hP hS)
theorem a_iand (ho : gOk G own cc d rt nL) {x y : Int32} (hd : decode cc pc = .ok (.iand, 1)) (hn : pc + 1 = n)  (k : gAt G n L (.int (x &&& y) :: st) σ) : gAt G pc L (.int y :: .int x :: st) σ := by
  subst hn; obtain ⟨⟨p, l, e, R, s, m, args, below, meth, c0⟩, X, nL0, v0, σ0⟩ := G; exact fun H locs ls hl hP hS => lv_iand ho.1 ho.2.1 hd (k H locs ls hl hP hS)
theorem a_ior (ho : gOk G own cc d rt nL) {x y : Int32} (hd : decode cc pc = .ok (.ior, 1)) (hn : pc + 1 = n)  (k : gAt G n L (.int (x ||| y) :: st) σ) : gAt G pc L (.int y :: .int x :: st) σ := by
  subst hn; obtain ⟨⟨p, l, e, R, s, m, args, below, meth, c0⟩, X, nL0, v0, σ0⟩ := G; exact fun H locs ls hl hP hS => lv_ior ho.1 ho.2.1 hd (k H locs ls hl hP hS)
theorem a_ixor (ho : gOk G own cc d rt nL) {x y : Int32} (hd : decode cc pc = .ok (.ixor, 1)) (hn : pc + 1 = n)  (k : gAt G n L (.int (x ^^^ y) :: st) σ) : gAt G pc L (.int y :: .int x :: st) σ := by
  subst hn; obtain ⟨⟨p, l, e, R, s, m, args, below, meth, c0⟩, X, nL0, v0, σ0⟩ := G; exact fun H locs ls hl hP hS => lv_ixor ho.1 ho.2.1 hd (k H locs ls hl hP hS)
theorem a_ishl (ho : gOk G own cc d rt nL) {x y : Int32} (hd : decode cc pc = .ok (.ishl, 1)) (hn : pc + 1 = n)  (k : gAt G n L (.int (x <<< (y &&& 31)) :: st) σ) : gAt G pc L (.int y :: .int x :: st) σ := by
  subst hn; obtain ⟨⟨p, l, e, R, s, m, args, below, meth, c0⟩, X, nL0, v0, σ0⟩ := G; exact fun H locs ls hl hP hS => lv_ishl ho.1 ho.2.1 hd (k H locs ls hl hP hS)
theorem a_ishr (ho : gOk G own cc d rt nL) {x y : Int32} (hd : decode cc pc = .ok (.ishr, 1)) (hn : pc + 1 = n)  (k : gAt G n L (.int (x >>> (y &&& 31)) :: st) σ) : gAt G pc L (.int y :: .int x :: st) σ := by
  subst hn; obtain ⟨⟨p, l, e, R, s, m, args, below, meth, c0⟩, X, nL0, v0, σ0⟩ := G; exact fun H locs ls hl hP hS => lv_ishr ho.1 ho.2.1 hd (k H locs ls hl hP hS)
theorem a_iushr (ho : gOk G own cc d rt nL) {x y : Int32} (hd : decode cc pc = .ok (.iushr, 1)) (hn : pc + 1 = n)  (k : gAt G n L (.int ((x.toUInt32 >>> (y.toUInt32 &&& Int32.toUInt32 31)).toInt32) :: st) σ) : gAt G pc L (.int y :: .int x :: st) σ := by
  subst hn; obtain ⟨⟨p, l, e, R, s, m, args, below, meth, c0⟩, X, nL0, v0, σ0⟩ := G; exact fun H locs ls hl hP hS => lv_iushr ho.1 ho.2.1 hd rfl (k H locs ls hl hP hS)
theorem a_ineg (ho : gOk G own cc d rt nL) {x : Int32} (hd : decode cc pc = .ok (.ineg, 1)) (hn : pc + 1 = n)  (k : gAt G n L (.int (-x) :: st) σ) : gAt G pc L (.int x :: st) σ := by
  subst hn; obtain ⟨⟨p, l, e, R, s, m, args, below, meth, c0⟩, X, nL0, v0, σ0⟩ := G; exact fun H locs ls hl hP hS => lv_ineg ho.1 ho.2.1 hd (k H locs ls hl hP hS)
theorem a_idiv (ho : gOk G own cc d rt nL) {x y : Int32} (hd : decode cc pc = .ok (.idiv, 1)) (hn : pc + 1 = n) (hne : ¬ y = 0) (k : gAt G n L (.int (x / y) :: st) σ) : gAt G pc L (.int y :: .int x :: st) σ := by
  subst hn; obtain ⟨⟨p, l, e, R, s, m, args, below, meth, c0⟩, X, nL0, v0, σ0⟩ := G; exact fun H locs ls hl hP hS => lv_idiv ho.1 ho.2.1 hd hne (k H locs ls hl hP hS)
theorem a_irem (ho : gOk G own cc d rt nL) {x y : Int32} (hd : decode cc pc = .ok (.irem, 1)) (hn : pc + 1 = n) (hne : ¬ y = 0) (k : gAt G n L (.int (x - x / y * y) :: st) σ) : gAt G pc L (.int y :: .int x :: st) σ := by
  subst hn; obtain ⟨⟨p, l, e, R, s, m, args, below, meth, c0⟩, X, nL0, v0, σ0⟩ := G; exact fun H locs ls hl hP hS => lv_irem ho.1 ho.2.1 hd hne (k H locs ls hl hP hS)
theorem a_ladd (ho : gOk G own cc d rt nL) {x y : Int64} (hd : decode cc pc = .ok (.ladd, 1)) (hn : pc + 1 = n)  (k : gAt G n L (.long (x + y) :: st) σ) : gAt G pc L (.long y :: .long x :: st) σ := by
  subst hn; obtain ⟨⟨p, l, e, R, s, m, args, below, meth, c0⟩, X, nL0, v0, σ0⟩ := G; exact fun H locs ls hl hP hS => lv_ladd ho.1 ho.2.1 hd (k H locs ls hl hP hS)
theorem a_lmul (ho : gOk G own cc d rt nL) {x y : Int64} (hd : decode cc pc = .ok (.lmul, 1)) (hn : pc + 1 = n)  (k : gAt G n L (.long (x * y) :: st) σ) : gAt G pc L (.long y :: .long x :: st) σ := by
  subst hn; obtain ⟨⟨p, l, e, R, s, m, args, below, meth, c0⟩, X, nL0, v0, σ0⟩ := G; exact fun H locs ls hl hP hS => lv_lmul ho.1 ho.2.1 hd (k H locs ls hl hP hS)
theorem a_land (ho : gOk G own cc d rt nL) {x y : Int64} (hd : decode cc pc = .ok (.land, 1)) (hn : pc + 1 = n)  (k : gAt G n L (.long (x &&& y) :: st) σ) : gAt G pc L (.long y :: .long x :: st) σ := by
  subst hn; obtain ⟨⟨p, l, e, R, s, m, args, below, meth, c0⟩, X, nL0, v0, σ0⟩ := G; exact fun H locs ls hl hP hS => lv_land ho.1 ho.2.1 hd (k H locs ls hl hP hS)
theorem a_lor (ho : gOk G own cc d rt nL) {x y : Int64} (hd : decode cc pc = .ok (.lor, 1)) (hn : pc + 1 = n)  (k : gAt G n L (.long (x ||| y) :: st) σ) : gAt G pc L (.long y :: .long x :: st) σ := by
  subst hn; obtain ⟨⟨p, l, e, R, s, m, args, below, meth, c0⟩, X, nL0, v0, σ0⟩ := G; exact fun H locs ls hl hP hS => lv_lor ho.1 ho.2.1 hd (k H locs ls hl hP hS)
theorem a_ldiv (ho : gOk G own cc d rt nL) {x y : Int64} (hd : decode cc pc = .ok (.ldiv, 1)) (hn : pc + 1 = n) (hne : ¬ y = 0) (k : gAt G n L (.long (x / y) :: st) σ) : gAt G pc L (.long y :: .long x :: st) σ := by
  subst hn; obtain ⟨⟨p, l, e, R, s, m, args, below, meth, c0⟩, X, nL0, v0, σ0⟩ := G; exact fun H locs ls hl hP hS => lv_ldiv ho.1 ho.2.1 hd hne (k H locs ls hl hP hS)
theorem a_lrem (ho : gOk G own cc d rt nL) {x y : Int64} (hd : decode cc pc = .ok (.lrem, 1)) (hn : pc + 1 = n) (hne : ¬ y = 0) (k : gAt G n L (.long (x - x / y * y) :: st) σ) : gAt G pc L (.long y :: .long x :: st) σ := by
  subst hn; obtain ⟨⟨p, l, e, R, s, m, args, below, meth, c0⟩, X, nL0, v0, σ0⟩ := G; exact fun H locs ls hl hP hS => lv_lrem ho.1 ho.2.1 hd hne (k H locs ls hl hP hS)
theorem a_lshl (ho : gOk G own cc d rt nL) {x : Int64} {y : Int32} (hd : decode cc pc = .ok (.lshl, 1)) (hn : pc + 1 = n)  (k : gAt G n L (.long (x <<< (y.toInt64 &&& 63)) :: st) σ) : gAt G pc L (.int y :: .long x :: st) σ := by
  subst hn; obtain ⟨⟨p, l, e, R, s, m, args, below, meth, c0⟩, X, nL0, v0, σ0⟩ := G; exact fun H locs ls hl hP hS => lv_lshl ho.1 ho.2.1 hd rfl (k H locs ls hl hP hS)
theorem a_lcmp (ho : gOk G own cc d rt nL) {x y : Int64} (hd : decode cc pc = .ok (.lcmp, 1)) (hn : pc + 1 = n)  (k : gAt G n L (.int (lg_cmp x y) :: st) σ) : gAt G pc L (.long y :: .long x :: st) σ := by
  subst hn; obtain ⟨⟨p, l, e, R, s, m, args, below, meth, c0⟩, X, nL0, v0, σ0⟩ := G; exact fun H locs ls hl hP hS => W.lcmp ho.1 ho.2.1 hd (k H locs ls hl hP hS)
theorem a_i2l (ho : gOk G own cc d rt nL) {x : Int32} (hd : decode cc pc = .ok (.i2l, 1)) (hn : pc + 1 = n)  (k : gAt G n L (.long x.toInt64 :: st) σ) : gAt G pc L (.int x :: st) σ := by
  subst hn; obtain ⟨⟨p, l, e, R, s, m, args, below, meth, c0⟩, X, nL0, v0, σ0⟩ := G; exact fun H locs ls hl hP hS => lv_i2l ho.1 ho.2.1 hd rfl (k H locs ls hl hP hS)
theorem a_l2i (ho : gOk G own cc d rt nL) {x : Int64} (hd : decode cc pc = .ok (.l2i, 1)) (hn : pc + 1 = n)  (k : gAt G n L (.int x.toInt32 :: st) σ) : gAt G pc L (.long x :: st) σ := by
  subst hn; obtain ⟨⟨p, l, e, R, s, m, args, below, meth, c0⟩, X, nL0, v0, σ0⟩ := G; exact fun H locs ls hl hP hS => lv_l2i ho.1 ho.2.1 hd rfl (k H locs ls hl hP hS)
theorem a_i2b (ho : gOk G own cc d rt nL) {x : Int32} (hd : decode cc pc = .ok (.i2b, 1)) (hn : pc + 1 = n)  (k : gAt G n L (.int x.toInt8.toInt32 :: st) σ) : gAt G pc L (.int x :: st) σ := by
  subst hn; obtain ⟨⟨p, l, e, R, s, m, args, below, meth, c0⟩, X, nL0, v0, σ0⟩ := G; exact fun H locs ls hl hP hS => lv_i2b ho.1 ho.2.1 hd rfl (k H locs ls hl hP hS)
theorem a_i2s (ho : gOk G own cc d rt nL) {x : Int32} (hd : decode cc pc = .ok (.i2s, 1)) (hn : pc + 1 = n)  (k : gAt G n L (.int x.toInt16.toInt32 :: st) σ) : gAt G pc L (.int x :: st) σ := by
  subst hn; obtain ⟨⟨p, l, e, R, s, m, args, below, meth, c0⟩, X, nL0, v0, σ0⟩ := G; exact fun H locs ls hl hP hS => lv_i2s ho.1 ho.2.1 hd rfl (k H locs ls hl hP hS)
theorem a_dup (ho : gOk G own cc d rt nL) {v : Value} (hd : decode cc pc = .ok (.dup, 1)) (hn : pc + 1 = n) (hv : v.category = 1) (k : gAt G n L (v :: v :: st) σ) : gAt G pc L (v :: st) σ := by
  subst hn; obtain ⟨⟨p, l, e, R, s, m, args, below, meth, c0⟩, X, nL0, v0, σ0⟩ := G; exact fun H locs ls hl hP hS => lv_dup ho.1 ho.2.1 hd hv (k H locs ls hl hP hS)
theorem a_pop (ho : gOk G own cc d rt nL) {v : Value} (hd : decode cc pc = .ok (.pop, 1)) (hn : pc + 1 = n) (hv : v.category = 1) (k : gAt G n L (st) σ) : gAt G pc L (v :: st) σ := by
  subst hn; obtain ⟨⟨p, l, e, R, s, m, args, below, meth, c0⟩, X, nL0, v0, σ0⟩ := G; exact fun H locs ls hl hP hS => lv_pop ho.1 ho.2.1 hd hv (k H locs ls hl hP hS)
theorem a_dup_x1 (ho : gOk G own cc d rt nL) {v w : Value} (hd : decode cc pc = .ok (.dup_x1, 1)) (hn : pc + 1 = n) (hv : v.category = 1) (hw : w.category = 1) (k : gAt G n L (v :: w :: v :: st) σ) : gAt G pc L (v :: w :: st) σ := by
  subst hn; obtain ⟨⟨p, l, e, R, s, m, args, below, meth, c0⟩, X, nL0, v0, σ0⟩ := G; exact fun H locs ls hl hP hS => lv_dup_x1 ho.1 ho.2.1 hd hv hw (k H locs ls hl hP hS)
theorem a_dup2 (ho : gOk G own cc d rt nL) {v w : Value} (hd : decode cc pc = .ok (.dup2, 1)) (hn : pc + 1 = n) (hv : v.category = 1) (hw : w.category = 1) (k : gAt G n L (v :: w :: v :: w :: st) σ) : gAt G pc L (v :: w :: st) σ := by
  subst hn; obtain ⟨⟨p, l, e, R, s, m, args, below, meth, c0⟩, X, nL0, v0, σ0⟩ := G; exact fun H locs ls hl hP hS => lv_dup2_11 ho.1 ho.2.1 hd hv hw (k H locs ls hl hP hS)
theorem a_pop2 (ho : gOk G own cc d rt nL) {v : Value} (hd : decode cc pc = .ok (.pop2, 1)) (hn : pc + 1 = n) (hv : v.category = 2) (k : gAt G n L (st) σ) : gAt G pc L (v :: st) σ := by
  subst hn; obtain ⟨⟨p, l, e, R, s, m, args, below, meth, c0⟩, X, nL0, v0, σ0⟩ := G; exact fun H locs ls hl hP hS => lv_pop2_2 ho.1 ho.2.1 hd hv (k H locs ls hl hP hS)
theorem a_if_eq (ho : gOk G own cc d rt nL) {x : Int32} {off : Int} {tgt : Nat} (hd : decode cc pc = .ok (.ifCond .eq off, 3)) (ht : (pc : Int) + off = (tgt : Int)) (hn : pc + 3 = n) (kt : x = 0 → gAt G tgt L st σ) (kf : ¬ x = 0 → gAt G n L st σ) : gAt G pc L (.int x :: st) σ := by
  subst hn; obtain ⟨⟨p, l, e, R, s, m, args, below, meth, c0⟩, X, nL0, v0, σ0⟩ := G; exact fun H locs ls hl hP hS => lv_if_eq ho.1 ho.2.1 hd ht (fun q => kt q H locs ls hl hP hS) (fun q => kf q H locs ls hl hP hS)
theorem a_icmp_eq (ho : gOk G own cc d rt nL) {x y : Int32} {off : Int} {tgt : Nat} (hd : decode cc pc = .ok (.if_icmp .eq off, 3)) (ht : (pc : Int) + off = (tgt : Int)) (hn : pc + 3 = n) (kt : x = y → gAt G tgt L st σ) (kf : ¬ x = y → gAt G n L st σ) : gAt G pc L (.int y :: .int x :: st) σ := by
  subst hn; obtain ⟨⟨p, l, e, R, s, m, args, below, meth, c0⟩, X, nL0, v0, σ0⟩ := G; exact fun H locs ls hl hP hS => lv_icmp_eq ho.1 ho.2.1 hd ht (fun q => kt q H locs ls hl hP hS) (fun q => kf q H locs ls hl hP hS)
theorem a_if_ne (ho : gOk G own cc d rt nL) {x : Int32} {off : Int} {tgt : Nat} (hd : decode cc pc = .ok (.ifCond .ne off, 3)) (ht : (pc : Int) + off = (tgt : Int)) (hn : pc + 3 = n) (kt : ¬ x = 0 → gAt G tgt L st σ) (kf : x = 0 → gAt G n L st σ) : gAt G pc L (.int x :: st) σ := by
  subst hn; obtain ⟨⟨p, l, e, R, s, m, args, below, meth, c0⟩, X, nL0, v0, σ0⟩ := G; exact fun H locs ls hl hP hS => lv_if_ne ho.1 ho.2.1 hd ht (fun q => kt q H locs ls hl hP hS) (fun q => kf q H locs ls hl hP hS)
theorem a_icmp_ne (ho : gOk G own cc d rt nL) {x y : Int32} {off : Int} {tgt : Nat} (hd : decode cc pc = .ok (.if_icmp .ne off, 3)) (ht : (pc : Int) + off = (tgt : Int)) (hn : pc + 3 = n) (kt : ¬ x = y → gAt G tgt L st σ) (kf : x = y → gAt G n L st σ) : gAt G pc L (.int y :: .int x :: st) σ := by
  subst hn; obtain ⟨⟨p, l, e, R, s, m, args, below, meth, c0⟩, X, nL0, v0, σ0⟩ := G; exact fun H locs ls hl hP hS => lv_icmp_ne ho.1 ho.2.1 hd ht (fun q => kt q H locs ls hl hP hS) (fun q => kf q H locs ls hl hP hS)
theorem a_if_lt (ho : gOk G own cc d rt nL) {x : Int32} {off : Int} {tgt : Nat} (hd : decode cc pc = .ok (.ifCond .lt off, 3)) (ht : (pc : Int) + off = (tgt : Int)) (hn : pc + 3 = n) (kt : x < 0 → gAt G tgt L st σ) (kf : ¬ x < 0 → gAt G n L st σ) : gAt G pc L (.int x :: st) σ := by
  subst hn; obtain ⟨⟨p, l, e, R, s, m, args, below, meth, c0⟩, X, nL0, v0, σ0⟩ := G; exact fun H locs ls hl hP hS => lv_if_lt ho.1 ho.2.1 hd ht (fun q => kt q H locs ls hl hP hS) (fun q => kf q H locs ls hl hP hS)
theorem a_icmp_lt (ho : gOk G own cc d rt nL) {x y : Int32} {off : Int} {tgt : Nat} (hd : decode cc pc = .ok (.if_icmp .lt off, 3)) (ht : (pc : Int) + off = (tgt : Int)) (hn : pc + 3 = n) (kt : x < y → gAt G tgt L st σ) (kf : ¬ x < y → gAt G n L st σ) : gAt G pc L (.int y :: .int x :: st) σ := by
  subst hn; obtain ⟨⟨p, l, e, R, s, m, args, below, meth, c0⟩, X, nL0, v0, σ0⟩ := G; exact fun H locs ls hl hP hS => lv_icmp_lt ho.1 ho.2.1 hd ht (fun q => kt q H locs ls hl hP hS) (fun q => kf q H locs ls hl hP hS)
theorem a_if_ge (ho : gOk G own cc d rt nL) {x : Int32} {off : Int} {tgt : Nat} (hd : decode cc pc = .ok (.ifCond .ge off, 3)) (ht : (pc : Int) + off = (tgt : Int)) (hn : pc + 3 = n) (kt : 0 ≤ x → gAt G tgt L st σ) (kf : ¬ 0 ≤ x → gAt G n L st σ) : gAt G pc L (.int x :: st) σ := by
  subst hn; obtain ⟨⟨p, l, e, R, s, m, args, below, meth, c0⟩, X, nL0, v0, σ0⟩ := G; exact fun H locs ls hl hP hS => lv_if_ge ho.1 ho.2.1 hd ht (fun q => kt q H locs ls hl hP hS) (fun q => kf q H locs ls hl hP hS)
theorem a_icmp_ge (ho : gOk G own cc d rt nL) {x y : Int32} {off : Int} {tgt : Nat} (hd : decode cc pc = .ok (.if_icmp .ge off, 3)) (ht : (pc : Int) + off = (tgt : Int)) (hn : pc + 3 = n) (kt : y ≤ x → gAt G tgt L st σ) (kf : ¬ y ≤ x → gAt G n L st σ) : gAt G pc L (.int y :: .int x :: st) σ := by
  subst hn; obtain ⟨⟨p, l, e, R, s, m, args, below, meth, c0⟩, X, nL0, v0, σ0⟩ := G; exact fun H locs ls hl hP hS => lv_icmp_ge ho.1 ho.2.1 hd ht (fun q => kt q H locs ls hl hP hS) (fun q => kf q H locs ls hl hP hS)
theorem a_if_gt (ho : gOk G own cc d rt nL) {x : Int32} {off : Int} {tgt : Nat} (hd : decode cc pc = .ok (.ifCond .gt off, 3)) (ht : (pc : Int) + off = (tgt : Int)) (hn : pc + 3 = n) (kt : 0 < x → gAt G tgt L st σ) (kf : ¬ 0 < x → gAt G n L st σ) : gAt G pc L (.int x :: st) σ := by
  subst hn; obtain ⟨⟨p, l, e, R, s, m, args, below, meth, c0⟩, X, nL0, v0, σ0⟩ := G; exact fun H locs ls hl hP hS => lv_if_gt ho.1 ho.2.1 hd ht (fun q => kt q H locs ls hl hP hS) (fun q => kf q H locs ls hl hP hS)
theorem a_icmp_gt (ho : gOk G own cc d rt nL) {x y : Int32} {off : Int} {tgt : Nat} (hd : decode cc pc = .ok (.if_icmp .gt off, 3)) (ht : (pc : Int) + off = (tgt : Int)) (hn : pc + 3 = n) (kt : y < x → gAt G tgt L st σ) (kf : ¬ y < x → gAt G n L st σ) : gAt G pc L (.int y :: .int x :: st) σ := by
  subst hn; obtain ⟨⟨p, l, e, R, s, m, args, below, meth, c0⟩, X, nL0, v0, σ0⟩ := G; exact fun H locs ls hl hP hS => lv_icmp_gt ho.1 ho.2.1 hd ht (fun q => kt q H locs ls hl hP hS) (fun q => kf q H locs ls hl hP hS)
theorem a_if_le (ho : gOk G own cc d rt nL) {x : Int32} {off : Int} {tgt : Nat} (hd : decode cc pc = .ok (.ifCond .le off, 3)) (ht : (pc : Int) + off = (tgt : Int)) (hn : pc + 3 = n) (kt : x ≤ 0 → gAt G tgt L st σ) (kf : ¬ x ≤ 0 → gAt G n L st σ) : gAt G pc L (.int x :: st) σ := by
  subst hn; obtain ⟨⟨p, l, e, R, s, m, args, below, meth, c0⟩, X, nL0, v0, σ0⟩ := G; exact fun H locs ls hl hP hS => lv_if_le ho.1 ho.2.1 hd ht (fun q => kt q H locs ls hl hP hS) (fun q => kf q H locs ls hl hP hS)
theorem a_icmp_le (ho : gOk G own cc d rt nL) {x y : Int32} {off : Int} {tgt : Nat} (hd : decode cc pc = .ok (.if_icmp .le off, 3)) (ht : (pc : Int) + off = (tgt : Int)) (hn : pc + 3 = n) (kt : x ≤ y → gAt G tgt L st σ) (kf : ¬ x ≤ y → gAt G n L st σ) : gAt G pc L (.int y :: .int x :: st) σ := by
  subst hn; obtain ⟨⟨p, l, e, R, s, m, args, below, meth, c0⟩, X, nL0, v0, σ0⟩ := G; exact fun H locs ls hl hP hS => lv_icmp_le ho.1 ho.2.1 hd ht (fun q => kt q H locs ls hl hP hS) (fun q => kf q H locs ls hl hP hS)
theorem a_goto (ho : gOk G own cc d rt nL) {off : Int} {tgt : Nat} (hd : decode cc pc = .ok (.goto off, 3)) (ht : (pc : Int) + off = (tgt : Int)) (k : gAt G tgt L st σ) : gAt G pc L st σ := by
  obtain ⟨⟨p, l, e, R, s, m, args, below, meth, c0⟩, X, nL0, v0, σ0⟩ := G; exact fun H locs ls hl hP hS => lv_goto ho.1 ho.2.1 hd ht (k H locs ls hl hP hS)
theorem a_tin (ho : gOk G own cc d rt nL) {x : Int32} {dflt lo hi : Int} {offs : Array Int} {len : Nat} {off : Int} {tgt : Nat} (v : Int32) (hx : x = v) (hd : decode cc pc = .ok (.tableswitch dflt lo hi offs, len)) (h1 : ¬ v.toInt < lo) (h2 : ¬ hi < v.toInt) (hof : offs[(v.toInt - lo).toNat]? = some off) (ht : (pc : Int) + off = (tgt : Int)) (k : gAt G tgt L st σ) : gAt G pc L (.int x :: st) σ := by
  subst hx; obtain ⟨⟨p, l, e, R, s, m, args, below, meth, c0⟩, X, nL0, v0, σ0⟩ := G; exact fun H locs ls hl hP hS => lv_tableIn ho.1 ho.2.1 hd h1 h2 hof ht (k H locs ls hl hP hS)
theorem a_tout (ho : gOk G own cc d rt nL) {x : Int32} {dflt lo hi : Int} {offs : Array Int} {len : Nat} {tgt : Nat} (h : x.toInt < lo ∨ hi < x.toInt) (hd : decode cc pc = .ok (.tableswitch dflt lo hi offs, len)) (ht : (pc : Int) + dflt = (tgt : Int)) (k : gAt G tgt L st σ) : gAt G pc L (.int x :: st) σ := by
  obtain ⟨⟨p, l, e, R, s, m, args, below, meth, c0⟩, X, nL0, v0, σ0⟩ := G; exact fun H locs ls hl hP hS => lv_tableOut ho.1 ho.2.1 hd h ht (k H locs ls hl hP hS)
theorem a_look (ho : gOk G own cc d rt nL) {x : Int32} {dflt : Int} {ps : Array (Int × Int)} {len : Nat} {off : Int} {tgt : Nat} (hd : decode cc pc = .ok (.lookupswitch dflt ps, len)) (hp : (ps.toList.zip (ps.toList.drop 1)).all (fun (a, next) => a.1 < next.1) = true) (hof : Op.lookupswitch.offset ps.toList dflt x.toInt = off) (ht : (pc : Int) + off = (tgt : Int)) (k : gAt G tgt L st σ) : gAt G pc L (.int x :: st) σ := by
  obtain ⟨⟨p, l, e, R, s, m, args, below, meth, c0⟩, X, nL0, v0, σ0⟩ := G; exact fun H locs ls hl hP hS => lv_lookup ho.1 ho.2.1 hd hp hof ht (k H locs ls hl hP hS)
end ROWS
def sI (σ : gS) (c k : Nat) (v : Int32) : gS := s1 σ c (upd (σ.1 c) k v)
def sJ (σ : gS) (c k : Nat) (v : Int64) : gS := s2 σ c (vp_updL (σ.2 c) k v)
def cI (σ : gS) (c : Nat) (i : Int32) (c1 : Nat) (j n : Int32) : gS := s1 σ c1 (va_cpy (σ.1 c) (σ.1 c1) i.toNatClampNeg j.toNatClampNeg n.toNatClampNeg)
def cJ (σ : gS) (c : Nat) (i : Int32) (c1 : Nat) (j n : Int32) : gS := s2 σ c1 (va_cpy (σ.2 c) (σ.2 c1) i.toNatClampNeg j.toNatClampNeg n.toNatClampNeg)
section MEM
variable {G : gM} {own : String} {cc : ByteArray} {d : Nat} {rt : Option FieldType} {nL : Nat} {pc n : Nat} {L L' : List (Nat × Value)} {st : List Value} {σ : gS}
abbrev gl (G : gM) : Launch := G.1.2.1
abbrev gXX (G : gM) : gX := G.2.1
abbrev gad (G : gM) : Nat → Nat := G.2.1.2.2.1
abbrev gv0 (G : gM) : Option Value := G.2.2.2.1
abbrev gs0 (G : gM) : gS := G.2.2.2.2
theorem a_sub (ks : List Nat) (hL : lv_pick L ks = L') (k : gAt G pc L' st σ) : gAt G pc L st σ := by
  obtain ⟨⟨p, l, e, R, s, m, args, below, meth, c0⟩, X, nL0, v0, σ0⟩ := G
  exact fun H locs ls hl hP hS => k H locs ls (lv_sub hl ks hL) hP hS
def gFl (own : String) (idx ci k : Nat) : Prop := ∃ (C : String) (T : u_T) (N : Nat), vwCl[ci]? = some (C, T, N) ∧ k < N ∧ (∀ w ∈ u_ws C T N, w ∈ WS) ∧ Cond.fieldLink own idx (T k).1 (T k).2.1 (T k).2.2.1 ∈ WS
def gFp (own : String) (idx ci k : Nat) : Prop := ∃ (C : String) (T : u_T) (N : Nat) (ty : Nat → FieldType), vwCl[ci]? = some (C, T, N) ∧ k < N ∧ (∀ w ∈ u_ws C T N, w ∈ WS) ∧ Cond.fieldLink own idx (T k).1 (T k).2.1 (T k).2.2.1 ∈ WS ∧ (∀ k, k < N → parseFieldDescriptor (T k).2.2.1 = some (ty k)) ∧ (∀ a, a < N → ∀ b, b < N → a ≠ b → (T a).2.1 ≠ (T b).2.1) ∧ (T k).2.2.2 = false ∧ ty k = .int
theorem a_getI (ho : gOk G own cc d rt nL) {c ci idx k : Nat} (hF : gFl own idx ci k) (hO : isO c ci) (hf : (ds c).2.2[k]? = some none) (hd : decode cc pc = .ok (.getfield idx, 3)) (hn : pc + 3 = n) (kk : gAt G n L (.int (σ.1 c k) :: st) σ) : gAt G pc L (.ref (gad G c) :: st) σ := by
  subst hn; obtain ⟨⟨p, l, e, R, s, m, args, below, meth, c0⟩, X, nL0, v0, σ0⟩ := G
  obtain ⟨C, T, N, hcl, hk, hin, hlk⟩ := hF
  intro H locs ls hl hP hS
  have he := gw_get (X := X) (σ := σ) (isO_lt hO)
  rw [gE_O hO] at he
  have hv := gF_int (ad := X.2.2.1) (m := σ.1 c) _ 0 k hf
  rw [Nat.zero_add] at hv
  exact va_get (D := X.1) ho.1 ho.2.1 ho.2.2.2.2.2.1 hin ho.2.2.2.2.1 ho.2.2.2.2.2.2.2.2.2.1 hP c he hcl k hk (ho.2.2.2.2.2.1 _ hlk) (fun _ h9 => h9) hv hd (kk H locs ls hl hP hS)
theorem a_getR (ho : gOk G own cc d rt nL) {c ci idx k q : Nat} (hF : gFl own idx ci k) (hO : isO c ci) (hf : (ds c).2.2[k]? = some (some q)) (hd : decode cc pc = .ok (.getfield idx, 3)) (hn : pc + 3 = n) (kk : gAt G n L (.ref (gad G q) :: st) σ) : gAt G pc L (.ref (gad G c) :: st) σ := by
  subst hn; obtain ⟨⟨p, l, e, R, s, m, args, below, meth, c0⟩, X, nL0, v0, σ0⟩ := G
  obtain ⟨C, T, N, hcl, hk, hin, hlk⟩ := hF
  intro H locs ls hl hP hS
  have he := gw_get (X := X) (σ := σ) (isO_lt hO)
  rw [gE_O hO] at he
  exact va_get (D := X.1) ho.1 ho.2.1 ho.2.2.2.2.2.1 hin ho.2.2.2.2.1 ho.2.2.2.2.2.2.2.2.2.1 hP c he hcl k hk (ho.2.2.2.2.2.1 _ hlk) (fun _ h9 => h9) (gF_ref _ 0 k hf) hd (kk H locs ls hl hP hS)
theorem a_putI (ho : gOk G own cc d rt nL) {c ci idx k : Nat} {v : Int32} (hF : gFp own idx ci k) (hO : isO c ci) (hf : (ds c).2.2[k]? = some none) (hd : decode cc pc = .ok (.putfield idx, 3)) (hn : pc + 3 = n) (kk : gAt G n L st (sI σ c k v)) : gAt G pc L (.int v :: .ref (gad G c) :: st) σ := by
  subst hn; obtain ⟨⟨p, l, e, R, s, m, args, below, meth, c0⟩, X, nL0, v0, σ0⟩ := G
  obtain ⟨C, T, N, ty, hcl, hk, hin, hlk, hty, hnm, hfin, ht⟩ := hF
  intro H locs ls hl hP hS
  have he := gw_get (X := X) (σ := σ) (isO_lt hO)
  rw [gE_O hO] at he
  have hlen : k < (gF X.2.2.1 (σ.1 c) 0 (ds c).2.2).length := by rw [gF_len]; exact (List.getElem?_eq_some_iff.mp hf).1
  refine va_put (D := X.1) (ty := .int) ho.1 ho.2.1 ho.2.2.2.2.2.1 hin ty hty hnm ho.2.2.2.2.1 ho.2.2.2.2.2.2.2.2.2.1 hP (gD ho.2.2.2.2.2.2.2.2.2.2.1 σ) hS c he hcl k hk (ho.2.2.2.2.2.1 _ hlk) (fun _ h9 => h9) hfin (by rw [hty k hk, ht]) rfl rfl hlen hd (fun H1 locs1 hP1 _ hS1 => ?_)
  refine kk H1 locs1 ls hl ?_ hS1
  have e1 := gF_set (ad := X.2.2.1) (m := σ.1 c) (v := v) _ 0 k hf
  rw [Nat.zero_add] at e1
  rw [e1, ← gE_O (X := X) (m := upd (σ.1 c) k v) (g := σ.2 c) hO, gw_s1 (isO_lt hO)] at hP1
  exact hP1
theorem a_iald (ho : gOk G own cc d rt nL) {c N : Nat} {i : Int32} (hI : isI c N) (hr : inR i N) (hd : decode cc pc = .ok (.iaload, 1)) (hn : pc + 1 = n) (kk : gAt G n L (.int (σ.1 c i.toNatClampNeg) :: st) σ) : gAt G pc L (.int i :: .ref (gad G c) :: st) σ := by
  subst hn; obtain ⟨⟨p, l, e, R, s, m, args, below, meth, c0⟩, X, nL0, v0, σ0⟩ := G
  intro H locs ls hl hP hS
  have he := gw_get (X := X) (σ := σ) (isI_lt hI)
  rw [gE_I hI] at he
  exact va_iald (D := X.1) ho.1 ho.2.1 ho.2.2.2.2.2.2.2.2.2.1 hP c 0 he rfl hr hd (kk H locs ls hl hP hS)
theorem a_zald (ho : gOk G own cc d rt nL) {c N : Nat} {i : Int32} (hI : isZ c N) (hr : inR i N) (hd : decode cc pc = .ok (.baload, 1)) (hn : pc + 1 = n) (kk : gAt G n L (.int (σ.1 c i.toNatClampNeg) :: st) σ) : gAt G pc L (.int i :: .ref (gad G c) :: st) σ := by
  subst hn; obtain ⟨⟨p, l, e, R, s, m, args, below, meth, c0⟩, X, nL0, v0, σ0⟩ := G
  intro H locs ls hl hP hS
  have he := gw_get (X := X) (σ := σ) (isZ_lt hI)
  rw [gE_Z hI] at he
  exact va_zald (D := X.1) ho.1 ho.2.1 ho.2.2.2.2.2.2.2.2.2.1 hP c 2 he rfl hr hd (kk H locs ls hl hP hS)
theorem a_lald (ho : gOk G own cc d rt nL) {c N : Nat} {i : Int32} (hI : isJ c N) (hr : inR i N) (hd : decode cc pc = .ok (.laload, 1)) (hn : pc + 1 = n) (kk : gAt G n L (.long (σ.2 c i.toNatClampNeg) :: st) σ) : gAt G pc L (.int i :: .ref (gad G c) :: st) σ := by
  subst hn; obtain ⟨⟨p, l, e, R, s, m, args, below, meth, c0⟩, X, nL0, v0, σ0⟩ := G
  intro H locs ls hl hP hS
  have he := gw_get (X := X) (σ := σ) (isJ_lt hI)
  rw [gE_J hI] at he
  exact va_lald (D := X.1) ho.1 ho.2.1 ho.2.2.2.2.2.2.2.2.2.1 hP c 1 he rfl hr hd (kk H locs ls hl hP hS)
theorem a_iast (ho : gOk G own cc d rt nL) {c N : Nat} {i x : Int32} (hI : isI c N) (hr : inR i N) (hd : decode cc pc = .ok (.iastore, 1)) (hn : pc + 1 = n) (kk : gAt G n L st (sI σ c i.toNatClampNeg x)) : gAt G pc L (.int x :: .int i :: .ref (gad G c) :: st) σ := by
  subst hn; obtain ⟨⟨p, l, e, R, s, m, args, below, meth, c0⟩, X, nL0, v0, σ0⟩ := G
  intro H locs ls hl hP hS
  have he := gw_get (X := X) (σ := σ) (isI_lt hI)
  rw [gE_I hI] at he
  refine va_iast (D := X.1) ho.1 ho.2.1 ho.2.2.2.2.2.2.2.2.2.1 hP (gD ho.2.2.2.2.2.2.2.2.2.2.1 σ) hS c 0 he rfl hr hd (fun H1 locs1 hP1 _ hS1 => kk H1 locs1 ls hl ?_ hS1)
  rw [← gE_I (X := X) (m := upd (σ.1 c) i.toNatClampNeg x) (g := σ.2 c) hI, gw_s1 (isI_lt hI)] at hP1
  exact hP1
theorem a_zast (ho : gOk G own cc d rt nL) {c N : Nat} {i x : Int32} (hI : isZ c N) (hr : inR i N) (hd : decode cc pc = .ok (.bastore, 1)) (hn : pc + 1 = n) (kk : gAt G n L st (sI σ c i.toNatClampNeg (vp_nar .boolean x))) : gAt G pc L (.int x :: .int i :: .ref (gad G c) :: st) σ := by
  subst hn; obtain ⟨⟨p, l, e, R, s, m, args, below, meth, c0⟩, X, nL0, v0, σ0⟩ := G
  intro H locs ls hl hP hS
  have he := gw_get (X := X) (σ := σ) (isZ_lt hI)
  rw [gE_Z hI] at he
  refine va_zast (D := X.1) ho.1 ho.2.1 ho.2.2.2.2.2.2.2.2.2.1 hP (gD ho.2.2.2.2.2.2.2.2.2.2.1 σ) hS c 2 he rfl hr hd (fun H1 locs1 hP1 _ hS1 => kk H1 locs1 ls hl ?_ hS1)
  rw [← gE_Z (X := X) (m := upd (σ.1 c) i.toNatClampNeg (vp_nar .boolean x)) (g := σ.2 c) hI, gw_s1 (isZ_lt hI)] at hP1
  exact hP1
theorem a_last (ho : gOk G own cc d rt nL) {c N : Nat} {i : Int32} {x : Int64} (hI : isJ c N) (hr : inR i N) (hd : decode cc pc = .ok (.lastore, 1)) (hn : pc + 1 = n) (kk : gAt G n L st (sJ σ c i.toNatClampNeg x)) : gAt G pc L (.long x :: .int i :: .ref (gad G c) :: st) σ := by
  subst hn; obtain ⟨⟨p, l, e, R, s, m, args, below, meth, c0⟩, X, nL0, v0, σ0⟩ := G
  intro H locs ls hl hP hS
  have he := gw_get (X := X) (σ := σ) (isJ_lt hI)
  rw [gE_J hI] at he
  refine va_last (D := X.1) ho.1 ho.2.1 ho.2.2.2.2.2.2.2.2.2.1 hP (gD ho.2.2.2.2.2.2.2.2.2.2.1 σ) hS c 1 he rfl hr hd (fun H1 locs1 hP1 _ hS1 => kk H1 locs1 ls hl ?_ hS1)
  rw [← gE_J (X := X) (m := σ.1 c) (g := vp_updL (σ.2 c) i.toNatClampNeg x) hI, gw_s2 (isJ_lt hI)] at hP1
  exact hP1
theorem a_alen (ho : gOk G own cc d rt nL) {c N : Nat} {v : Int32} (hI : isI c N) (hv : Int32.ofNat N = v) (hd : decode cc pc = .ok (.arraylength, 1)) (hn : pc + 1 = n) (kk : gAt G n L (.int v :: st) σ) : gAt G pc L (.ref (gad G c) :: st) σ := by
  subst hn; obtain ⟨⟨p, l, e, R, s, m, args, below, meth, c0⟩, X, nL0, v0, σ0⟩ := G
  intro H locs ls hl hP hS
  have he := gw_get (X := X) (σ := σ) (isI_lt hI)
  rw [gE_I hI] at he
  exact va_alen (D := X.1) ho.1 ho.2.1 ho.2.2.2.2.2.2.2.2.2.1 hP c 0 he rfl hv hd (kk H locs ls hl hP hS)
theorem a_alenJ (ho : gOk G own cc d rt nL) {c N : Nat} {v : Int32} (hI : isJ c N) (hv : Int32.ofNat N = v) (hd : decode cc pc = .ok (.arraylength, 1)) (hn : pc + 1 = n) (kk : gAt G n L (.int v :: st) σ) : gAt G pc L (.ref (gad G c) :: st) σ := by
  subst hn; obtain ⟨⟨p, l, e, R, s, m, args, below, meth, c0⟩, X, nL0, v0, σ0⟩ := G
  intro H locs ls hl hP hS
  have he := gw_get (X := X) (σ := σ) (isJ_lt hI)
  rw [gE_J hI] at he
  exact va_alen (D := X.1) ho.1 ho.2.1 ho.2.2.2.2.2.2.2.2.2.1 hP c 1 he rfl hv hd (kk H locs ls hl hP hS)
abbrev isR (c t N : Nat) : Prop := (ds c).1 = t ∧ (ds c).2.1 = N
theorem gR_at {ad : Nat → Nat} {l : List (Option Nat)} {j q : Nat} (h : l[j]? = some (some q)) : va_rf (gR ad l j) = .ref (ad q) := by
  unfold gR; rw [List.getD_eq_getElem?_getD, h]; rfl
theorem a_aald (ho : gOk G own cc d rt nL) {c t N q : Nat} {i : Int32} (ht : t = 3 ∨ t = 4 ∨ t = 5) (hI : isR c t N) (hr : inR i N) (hq : (ds c).2.2[i.toNatClampNeg]? = some (some q)) (hd : decode cc pc = .ok (.aaload, 1)) (hn : pc + 1 = n) (kk : gAt G n L (.ref (gad G q) :: st) σ) : gAt G pc L (.int i :: .ref (gad G c) :: st) σ := by
  subst hn; obtain ⟨⟨p, l, e, R, s, m, args, below, meth, c0⟩, X, nL0, v0, σ0⟩ := G
  intro H locs ls hl hP hS
  have hlt : i.toNatClampNeg < N := Nat.not_le.mp fun q => hr (Or.inr q)
  have hc : c < NC := ds_lt (by rw [hI.1]; rcases ht with h | h | h <;> rw [h] <;> decide)
  have hK := ho.2.2.2.2.2.2.2.2.2.1
  have key : ∀ (cA : ClassId) (ty : FieldType) (k : Nat), ty.isReference = true → (gTy X)[k]? = some (cA, ty) → gE X c (σ.1 c) (σ.2 c) = .inl (cA, N, .inr (.inr (.inr (.inr (gR X.2.2.1 (ds c).2.2))))) → W p l e R s m args below meth c0 H locs 0 0 (MQ below (gQ X v0 σ0) args s 0 0 (gA X)) (F0 m pc ls (.int i :: .ref (X.2.2.1 c) :: st)) := by
    intro cA ty k href hk hE
    have he := gw_get (X := X) (σ := σ) hc
    rw [hE] at he
    exact W.aald (v := .ref (X.2.2.1 q)) (ty := ty) ho.1 ho.2.1 (hP c _ he) ((hK.2 k _ hk).1 N (fun j => va_rf (gR X.2.2.1 (ds c).2.2 j))) href (fun q => by cases q) (by show ¬ (i < 0 ∨ (arrV _ _ _).slots.size ≤ _); rw [arrV_size]; exact hr) (by show (arrV _ _ _).slots[_]? = _; rw [arrV_read _ _ hlt, gR_at hq]) rfl rfl hd (kk H locs ls hl hP hS)
  rcases ht with h | h | h
  · exact key (X.2.1 3) (.object "WaxCloth$Cloth") 3 rfl rfl (by unfold gE; rw [hI.1, hI.2, h]; rfl)
  · exact key (X.2.1 4) (.object "WaxCloth$Sheet") 4 rfl rfl (by unfold gE; rw [hI.1, hI.2, h]; rfl)
  · exact key (X.2.1 5) (.array .int) 5 rfl rfl (by unfold gE; rw [hI.1, hI.2, h]; rfl)
/-- the bounds of System.arraycopy -/
abbrev cpR (sp dp n : Int32) (n0 n1 : Nat) : Prop := ¬ sp < 0 ∧ ¬ dp < 0 ∧ ¬ n < 0 ∧ sp.toNatClampNeg + n.toNatClampNeg ≤ n0 ∧ dp.toNatClampNeg + n.toNatClampNeg ≤ n1
def gCp (own : String) (idx : Nat) : Prop := Cond.methodLink own idx arraycopyName ∈ WS ∧ Cond.native arraycopyName ∈ WS ∧ Cond.static arraycopyName ∈ WS ∧ Cond.initialized "java/lang/System" ∈ WS
theorem a_cpyI (ho : gOk G own cc d rt nL) {c c1 N N1 idx : Nat} {sp dp k : Int32} (hw : gCp own idx) (hd1 : 1 ≤ d) (hI : isI c N) (hI1 : isI c1 N1) (hr : cpR sp dp k N N1) (hst : (st.map fun v => v.category).sum ≤ 8) (hd : decode cc pc = .ok (.invokestatic idx, 3)) (hn : pc + 3 = n) (kk : gAt G n L st (cI σ c sp c1 dp k)) : gAt G pc L (.int k :: .int dp :: .ref (gad G c1) :: .int sp :: .ref (gad G c) :: st) σ := by
  subst hn; obtain ⟨⟨p, l, e, R, s, m, args, below, meth, c0⟩, X, nL0, v0, σ0⟩ := G
  intro H locs ls hl hP hS
  have he := gw_get (X := X) (σ := σ) (isI_lt hI)
  rw [gE_I hI] at he
  have he1 := gw_get (X := X) (σ := σ) (isI_lt hI1)
  rw [gE_I hI1] at he1
  have hR : R = rmd d := ho.2.2.2.2.2.2.2.2.1
  refine va_copyi (D := X.1) (ty := .int) ho.1 ho.2.1 (by rw [ho.2.2.1, ← ho.2.2.2.1]; exact hl.1.symm) ho.2.2.2.2.1 (ho.2.2.2.2.2.1 _ hw.1) (ho.2.2.2.2.2.1 _ hw.2.1) (ho.2.2.2.2.2.1 _ hw.2.2.1) (ho.2.2.2.2.2.1 _ hw.2.2.2) ho.2.2.2.2.2.2.2.2.2.1 hP (gD ho.2.2.2.2.2.2.2.2.2.2.1 σ) hS c c1 0 0 he he1 rfl rfl rfl hr.1 hr.2.1 hr.2.2.1 hr.2.2.2.1 hr.2.2.2.2 (fun _ _ => rfl) (by rw [hR]; exact hd1) ?_ hd (fun H1 locs1 hP1 _ hS1 => kk H1 locs1 ls hl ?_ hS1)
  · rw [hR]
    have h1 : nativeFrameWords "java/lang/System" "arraycopy" 5 + 11 ≤ 50 := by decide
    show _ ≤ 64 * d
    omega
  · rw [← gE_I (X := X) (m := va_cpy (σ.1 c) (σ.1 c1) sp.toNatClampNeg dp.toNatClampNeg k.toNatClampNeg) (g := σ.2 c1) hI1, gw_s1 (isI_lt hI1)] at hP1
    exact hP1
theorem a_cpyJ (ho : gOk G own cc d rt nL) {c c1 N N1 idx : Nat} {sp dp k : Int32} (hw : gCp own idx) (hd1 : 1 ≤ d) (hI : isJ c N) (hI1 : isJ c1 N1) (hr : cpR sp dp k N N1) (hst : (st.map fun v => v.category).sum ≤ 8) (hd : decode cc pc = .ok (.invokestatic idx, 3)) (hn : pc + 3 = n) (kk : gAt G n L st (cJ σ c sp c1 dp k)) : gAt G pc L (.int k :: .int dp :: .ref (gad G c1) :: .int sp :: .ref (gad G c) :: st) σ := by
  subst hn; obtain ⟨⟨p, l, e, R, s, m, args, below, meth, c0⟩, X, nL0, v0, σ0⟩ := G
  intro H locs ls hl hP hS
  have he := gw_get (X := X) (σ := σ) (isJ_lt hI)
  rw [gE_J hI] at he
  have he1 := gw_get (X := X) (σ := σ) (isJ_lt hI1)
  rw [gE_J hI1] at he1
  have hR : R = rmd d := ho.2.2.2.2.2.2.2.2.1
  refine va_copyl (D := X.1) (ty := .long) ho.1 ho.2.1 (by rw [ho.2.2.1, ← ho.2.2.2.1]; exact hl.1.symm) ho.2.2.2.2.1 (ho.2.2.2.2.2.1 _ hw.1) (ho.2.2.2.2.2.1 _ hw.2.1) (ho.2.2.2.2.2.1 _ hw.2.2.1) (ho.2.2.2.2.2.1 _ hw.2.2.2) ho.2.2.2.2.2.2.2.2.2.1 hP (gD ho.2.2.2.2.2.2.2.2.2.2.1 σ) hS c c1 1 1 he he1 rfl rfl rfl hr.1 hr.2.1 hr.2.2.1 hr.2.2.2.1 hr.2.2.2.2 (fun _ _ => rfl) (by rw [hR]; exact hd1) ?_ hd (fun H1 locs1 hP1 _ hS1 => kk H1 locs1 ls hl ?_ hS1)
  · rw [hR]
    have h1 : nativeFrameWords "java/lang/System" "arraycopy" 5 + 11 ≤ 50 := by decide
    show _ ≤ 64 * d
    omega
  · rw [← gE_J (X := X) (m := σ.1 c1) (g := va_cpy (σ.2 c) (σ.2 c1) sp.toNatClampNeg dp.toNatClampNeg k.toNatClampNeg) hI1, gw_s2 (isJ_lt hI1)] at hP1
    exact hP1
theorem a_tabG (ho : gOk G own cc d rt nL) {idx : Nat} (hlk : Cond.fieldLink own idx "WaxCloth$Kind" "ABOVE" "[I" ∈ WS) (hd : decode cc pc = .ok (.getstatic idx, 3)) (hn : pc + 3 = n) (kk : gAt G n L (.ref G.2.1.2.2.2 :: st) σ) : gAt G pc L st σ := by
  subst hn; obtain ⟨⟨p, l, e, R, s, m, args, below, meth, c0⟩, X, nL0, v0, σ0⟩ := G
  intro H locs ls hl hP hS
  exact va_gets ho.1 ho.2.1 ho.2.2.2.2.2.2.2.2.2.2.2.1 hS ho.2.2.2.2.1 (ho.2.2.2.2.2.1 _ hlk) (fun _ h9 => h9) hd (kk H locs ls hl hP hS)
theorem a_tabL (ho : gOk G own cc d rt nL) (hd : decode cc pc = .ok (.arraylength, 1)) (hn : pc + 1 = n) (kk : gAt G n L (.int 6 :: st) σ) : gAt G pc L (.ref G.2.1.2.2.2 :: st) σ := by
  subst hn; obtain ⟨⟨p, l, e, R, s, m, args, below, meth, c0⟩, X, nL0, v0, σ0⟩ := G
  intro H locs ls hl hP hS
  exact va_tlen ho.1 ho.2.1 ho.2.2.2.2.2.2.2.2.2.2.2.2 hS rfl hd (kk H locs ls hl hP hS)
theorem a_tabA (ho : gOk G own cc d rt nL) {i : Int32} (hr : inR i 6) (hd : decode cc pc = .ok (.iaload, 1)) (hn : pc + 1 = n) (kk : gAt G n L (.int (abv i.toNatClampNeg) :: st) σ) : gAt G pc L (.int i :: .ref G.2.1.2.2.2 :: st) σ := by
  subst hn; obtain ⟨⟨p, l, e, R, s, m, args, below, meth, c0⟩, X, nL0, v0, σ0⟩ := G
  intro H locs ls hl hP hS
  exact va_ti ho.1 ho.2.1 ho.2.2.2.2.2.2.2.2.2.2.2.2 hS hr rfl hd (kk H locs ls hl hP hS)
end MEM
section MAXMIN
variable {G : gM} {own : String} {cc : ByteArray} {d : Nat} {rt : Option FieldType} {nL : Nat} {pc n : Nat} {L L' : List (Nat × Value)} {st : List Value} {σ : gS}
def gMx (own : String) (idx : Nat) : Prop := Cond.methodLink own idx Lib.Math.max.name ∈ WS ∧ Cond.static Lib.Math.max.name ∈ WS ∧ Cond.initialized "java/lang/Math" ∈ WS ∧ Cond.code Lib.Math.max.name Lib.Math.max.code 2 (some .int) ∈ WS
def gMn (own : String) (idx : Nat) : Prop := Cond.methodLink own idx Lib.Math.min.name ∈ WS ∧ Cond.static Lib.Math.min.name ∈ WS ∧ Cond.initialized "java/lang/Math" ∈ WS ∧ Cond.code Lib.Math.min.name Lib.Math.min.code 2 (some .int) ∈ WS
def mx (x y : Int32) : Int32 := if x < y then y else x
def mn (x y : Int32) : Int32 := if y < x then y else x
theorem a_max (ho : gOk G own cc d rt nL) {x y : Int32} {idx : Nat} (hw : gMx own idx) (hd1 : 1 ≤ d) (hst : (st.map fun v => v.category).sum ≤ 8) (hd : decode cc pc = .ok (.invokestatic idx, 3)) (hn : pc + 3 = n) (kk : gAt G n L (.int (mx x y) :: st) σ) : gAt G pc L (.int y :: .int x :: st) σ := by
  subst hn; obtain ⟨⟨p, l, e, R, s, m, args, below, meth, c0⟩, X, nL0, v0, σ0⟩ := G
  intro H locs ls hl hP hS
  have hR : R = rmd d := ho.2.2.2.2.2.2.2.2.1
  exact va_mmax ho.1 ho.2.1 (by rw [ho.2.2.1, ← ho.2.2.2.1]; exact hl.1.symm) ho.2.2.2.2.1 (ho.2.2.2.2.2.1 _ hw.1) (ho.2.2.2.2.2.1 _ hw.2.1) (ho.2.2.2.2.2.1 _ hw.2.2.1) (ho.2.2.2.2.2.1 _ hw.2.2.2) (by rw [hR]; exact hd1) (by rw [hR]; show _ ≤ 64 * d; omega) (Nat.zero_le _) (Nat.zero_le _) hd (kk H locs ls hl hP hS)
theorem a_min (ho : gOk G own cc d rt nL) {x y : Int32} {idx : Nat} (hw : gMn own idx) (hd1 : 1 ≤ d) (hst : (st.map fun v => v.category).sum ≤ 8) (hd : decode cc pc = .ok (.invokestatic idx, 3)) (hn : pc + 3 = n) (kk : gAt G n L (.int (mn x y) :: st) σ) : gAt G pc L (.int y :: .int x :: st) σ := by
  subst hn; obtain ⟨⟨p, l, e, R, s, m, args, below, meth, c0⟩, X, nL0, v0, σ0⟩ := G
  intro H locs ls hl hP hS
  have hR : R = rmd d := ho.2.2.2.2.2.2.2.2.1
  exact va_mmin ho.1 ho.2.1 (by rw [ho.2.2.1, ← ho.2.2.2.1]; exact hl.1.symm) ho.2.2.2.2.1 (ho.2.2.2.2.2.1 _ hw.1) (ho.2.2.2.2.2.1 _ hw.2.1) (ho.2.2.2.2.2.1 _ hw.2.2.1) (ho.2.2.2.2.2.1 _ hw.2.2.2) (by rw [hR]; exact hd1) (by rw [hR]; show _ ≤ 64 * d; omega) (Nat.zero_le _) (Nat.zero_le _) hd (kk H locs ls hl hP hS)
end MAXMIN
section RET
variable {G : gM} {own : String} {cc : ByteArray} {d : Nat} {rt : Option FieldType} {nL : Nat} {pc n : Nat} {L L' : List (Nat × Value)} {st : List Value} {σ : gS}
theorem g_end {X : gX} {σ : gS} {s t : State} {H : Heap} {locs : List Loc} {v : Option Value} (hP : va_P X.1 vwCl (gw X σ) H) (hS : va_S (gA X) s.heap H locs) (hK : va_K X.1 vwCl (gTy X) s) (hj : gDj X) (hz : gZ X s s.heap) (ht : t.heap = H) (hW : s.WarmedH t.vm) {a : Array Value} : gQ X v σ a s (.returned v) t := by
  refine ⟨⟨rfl, by rw [ht]; exact hP, va_K.moved hW.alike hK, hj, ?_⟩, hS.F ht⟩
  rw [ht]
  exact ⟨(va_Z.moved hW.alike hz.1).kept hS.2.1, (va_T.moved hW.alike hz.2).kept hS.2.1⟩
theorem a_iret (ho : gOk G own cc d (some .int) nL) {r : Int32} (hd : decode cc pc = .ok (.ireturn, 1)) (hv : gv0 G = some (.int r)) (hs : gs0 G = σ) : gAt G pc L [.int r] σ := by
  obtain ⟨⟨p, l, e, R, s, m, args, below, meth, c0⟩, X, nL0, v0, σ0⟩ := G
  intro H locs ls hl hP hS
  have hv : v0 = _ := hv
  have hs : σ0 = _ := hs
  subst hv; subst hs
  exact W.iret ho.1 ho.2.1 ho.2.2.2.2.2.2.2.1 (fun t ht hW => g_end hP hS ho.2.2.2.2.2.2.2.2.2.1 ho.2.2.2.2.2.2.2.2.2.2.1 ho.2.2.2.2.2.2.2.2.2.2.2 ht hW) hS.2.2 hd ho.2.2.2.2.2.2.1
theorem a_zret (ho : gOk G own cc d (some .boolean) nL) {r : Int32} (hd : decode cc pc = .ok (.ireturn, 1)) (hb : narrow .boolean (.int r) = .int r) (hv : gv0 G = some (.int r)) (hs : gs0 G = σ) : gAt G pc L [.int r] σ := by
  obtain ⟨⟨p, l, e, R, s, m, args, below, meth, c0⟩, X, nL0, v0, σ0⟩ := G
  intro H locs ls hl hP hS
  have hv : v0 = _ := hv
  have hs : σ0 = _ := hs
  subst hv; subst hs
  exact W.zret ho.1 ho.2.1 ho.2.2.2.2.2.2.2.1 hb (fun t ht hW => g_end hP hS ho.2.2.2.2.2.2.2.2.2.1 ho.2.2.2.2.2.2.2.2.2.2.1 ho.2.2.2.2.2.2.2.2.2.2.2 ht hW) hS.2.2 hd ho.2.2.2.2.2.2.1
theorem a_lret (ho : gOk G own cc d (some .long) nL) {r : Int64} (hd : decode cc pc = .ok (.lreturn, 1)) (hv : gv0 G = some (.long r)) (hs : gs0 G = σ) : gAt G pc L [.long r] σ := by
  obtain ⟨⟨p, l, e, R, s, m, args, below, meth, c0⟩, X, nL0, v0, σ0⟩ := G
  intro H locs ls hl hP hS
  have hv : v0 = _ := hv
  have hs : σ0 = _ := hs
  subst hv; subst hs
  exact W.lret ho.1 ho.2.1 ho.2.2.2.2.2.2.2.1 (fun t ht hW => g_end hP hS ho.2.2.2.2.2.2.2.2.2.1 ho.2.2.2.2.2.2.2.2.2.2.1 ho.2.2.2.2.2.2.2.2.2.2.2 ht hW) hS.2.2 hd ho.2.2.2.2.2.2.1
theorem a_vret (ho : gOk G own cc d none nL) (hd : decode cc pc = .ok (.return_, 1)) (hv : gv0 G = none) (hs : gs0 G = σ) : gAt G pc L [] σ := by
  obtain ⟨⟨p, l, e, R, s, m, args, below, meth, c0⟩, X, nL0, v0, σ0⟩ := G
  intro H locs ls hl hP hS
  have hv : v0 = _ := hv
  have hs : σ0 = _ := hs
  subst hv; subst hs
  exact W.vret ho.1 ho.2.1 ho.2.2.2.2.2.2.2.1 (fun t ht hW => g_end hP hS ho.2.2.2.2.2.2.2.2.2.1 ho.2.2.2.2.2.2.2.2.2.2.1 ho.2.2.2.2.2.2.2.2.2.2.2 ht hW) hS.2.2 hd ho.2.2.2.2.2.2.1
end RET
section CALLS
variable {G : gM} {own : String} {cc : ByteArray} {d : Nat} {rt : Option FieldType} {nL : Nat} {pc n : Nat} {L L' : List (Nat × Value)} {st : List Value} {σ σ' : gS}
theorem gBlind {X : gX} {σ : gS} {as : List Value} : FrameBlind (va_Pc as (gH X σ)) := fun _ U _ _ q => ⟨q.1, q.2.1, va_K.moved (u := U) (Vm.Alike.refl U.vm) q.2.2.1, q.2.2.2.1, va_Z.moved (u := U) (Vm.Alike.refl U.vm) q.2.2.2.2.1, va_T.moved (u := U) (Vm.Alike.refl U.vm) q.2.2.2.2.2⟩
theorem gIn {X : gX} {σ : gS} {s : State} {H : Heap} {locs : List Loc} {as : List Value} (hP : va_P X.1 vwCl (gw X σ) H) (hS : va_S (gA X) s.heap H locs) (hK : va_K X.1 vwCl (gTy X) s) (hj : gDj X) (hz : gZ X s s.heap) : ∀ U : State, U.heap = H → s.WarmedH U.vm → va_Pc as (gH X σ) as.toArray U := fun U hU hW =>
  ⟨rfl, by rw [hU]; exact hP, va_K.moved hW.alike hK, hj, by rw [hU]; exact (va_Z.moved hW.alike hz.1).kept hS.2.1, by rw [hU]; exact (va_T.moved hW.alike hz.2).kept hS.2.1⟩
/-- what the tables say of an instance method -/
def gV (y : MethodName) (bytes : ByteArray) (maxL : Nat) (ret : Option FieldType) (na ci : Nat) : Prop := (∃ (T : u_T) (N : Nat), vwCl[ci]? = some (y.cls, T, N)) ∧ Cond.code y bytes maxL ret ∈ WS ∧ Cond.instanceMethod y ∈ WS ∧ Cond.selects y.cls y y ∈ WS ∧ Cond.initialized y.cls ∈ WS ∧ (y.cls ≠ "java/lang/invoke/MethodHandle" ∧ y.cls ≠ "java/lang/invoke/VarHandle" ∧ (parseMethodDescriptor y.desc).map (fun d => d.parameters.length) = some na) ∧ maxL ≤ 45
def gT (y : MethodName) (bytes : ByteArray) (maxL : Nat) (ret : Option FieldType) (na : Nat) : Prop := Cond.code y bytes maxL ret ∈ WS ∧ Cond.static y ∈ WS ∧ Cond.initialized y.cls ∈ WS ∧ (y.cls ≠ "java/lang/invoke/MethodHandle" ∧ y.cls ≠ "java/lang/invoke/VarHandle" ∧ (parseMethodDescriptor y.desc).map (fun d => d.parameters.length) = some na) ∧ maxL ≤ 45
theorem g_after {p : Program} {l : Launch} {e : Env} {R : Room} {s : State} {m : MethodId} {args : Array Value} {below : List Frame} {meth : Method} {c0 : Code} {X : gX} {H : Heap} {locs : List Loc} {ls : Array Slot} {st0 : List Value} {v : Option Value} {a : Array Value} {Q : State → Prop} (hr : va_Run p l e R s m args below meth c0 H locs 0 0 0 0 (F0 m pc ls st0) st (gQ X v σ' a) (gA X)) (hS : va_S (gA X) s.heap H locs)
    (kk : ∀ (H1 : Heap) (locs1 : List Loc), va_P X.1 vwCl (gw X σ') H1 → va_S (gA X) s.heap H1 locs1 → W p l e R s m args below meth c0 H1 locs1 0 0 Q (F0 m (pc + 3) ls (v.toList ++ st))) : W p l e R s m args below meth c0 H locs 0 0 Q (F0 m pc ls st0) := by
  intro T hT X1
  obtain ⟨v1, st₀, t, T', L1, h0, X', hL, e1, e2, ⟨⟨hv, hg⟩, hz, hk⟩, stp⟩ := hr T hT X1
  cases hv
  rw [h0] at hz hk
  obtain ⟨t2, a1, b1⟩ := kk T'.heap (locs ++ L1) (by rw [e1]; exact hg.1) ⟨Nat.le_trans hS.1 (by rw [e1]; exact hz), fun q h1 h2 => by rw [e1, hk q (Nat.lt_of_lt_of_le h1 hS.1) h2]; exact hS.2.1 q h1 h2, fun q hq => by
      rcases List.mem_append.mp hq with h | h
      · exact hS.2.2 q h
      · exact hL q h⟩ T' rfl X'
  exact ⟨t2, stp t2 a1, b1⟩
theorem a_callV (ho : gOk G own cc d rt nL) {y : MethodName} {bytes : ByteArray} {maxL na idx ci c d' : Nat} {ret : Option FieldType} {as : List Value} {v : Option Value} {st0 : List Value} (hy : gV y bytes maxL ret na ci) (hl : Cond.methodLink own idx y ∈ WS) (hO : isO c ci) (hM : gCt (gl G) (gXX G) y (.code y bytes maxL ret) d' (.ref (gad G c) :: as) σ v σ') (hna : as.length = na) (hs : st0 = as.reverse ++ .ref (gad G c) :: st) (hdd : d' + 1 ≤ d) (hst : (st.map fun v => v.category).sum ≤ 8) (hd : decode cc pc = .ok (.invokevirtual idx, 3)) (hn : pc + 3 = n) (kk : gAt G n L (v.toList ++ st) σ') : gAt G pc L st0 σ := by
  subst hn; obtain ⟨⟨p, l, e, R, s, m, args, below, meth, c0⟩, X, nL0, v0, σ0⟩ := G
  obtain ⟨⟨T, N, hcl⟩, hcode, hins, hsel, hini, hdsc, hmx⟩ := hy
  have hR : R = rmd d := ho.2.2.2.2.2.2.2.2.1
  have hts := ho.2.2.2.2.2.1
  intro H locs ls hl0 hP hS
  have he := gw_get (X := X) (σ := σ) (isO_lt hO)
  rw [gE_O hO] at he
  have hrun := va_runV (g := F0 m pc ls st0) (rest := st) (As := as) (cells := 0) (slots := 0) (locs := locs) (e := e) (below := below) (meth := meth) (nL := nL) ⟨ho.1, ho.2.1, ho.2.2.1, ho.2.2.2.2.1, hts⟩ hM (C := y.cls) (index := idx) (n := na) (R := R) (b := X.2.2.1 c) (H := H) ⟨callB_of na hts (WS_cons hcode) rfl rfl rfl (hts _ hini) (hts _ hl) hdsc ⟨by rw [hR]; exact hdd, by rw [hR]; show 8 + (maxL + 11) + 64 * d' ≤ 64 * d; omega⟩, hts _ hins, hts _ hsel⟩ ⟨gBlind, va_recv ho.2.2.2.2.2.2.2.2.2.1 hP hcl he, gIn hP hS ho.2.2.2.2.2.2.2.2.2.1 ho.2.2.2.2.2.2.2.2.2.2.1 ho.2.2.2.2.2.2.2.2.2.2.2⟩ rfl hna (by show ls.size = nL; rw [← ho.2.2.2.1]; exact hl0.1) hs (lv_room hst) hd ⟨Nat.zero_le _, Nat.zero_le _⟩
  exact g_after hrun hS (fun H1 locs1 hP1 hS1 => kk H1 locs1 ls hl0 hP1 hS1)
theorem a_callS (ho : gOk G own cc d rt nL) {y : MethodName} {bytes : ByteArray} {maxL na idx d' : Nat} {ret : Option FieldType} {as : List Value} {v : Option Value} {st0 : List Value} (hy : gT y bytes maxL ret na) (hl : Cond.methodLink own idx y ∈ WS) (hM : gCt (gl G) (gXX G) y (.code y bytes maxL ret) d' as σ v σ') (hna : as.length = na) (hs : st0 = as.reverse ++ st) (hdd : d' + 1 ≤ d) (hst : (st.map fun v => v.category).sum ≤ 8) (hd : decode cc pc = .ok (.invokestatic idx, 3)) (hn : pc + 3 = n) (kk : gAt G n L (v.toList ++ st) σ') : gAt G pc L st0 σ := by
  subst hn; obtain ⟨⟨p, l, e, R, s, m, args, below, meth, c0⟩, X, nL0, v0, σ0⟩ := G
  obtain ⟨hcode, hsta, hini, hdsc, hmx⟩ := hy
  have hR : R = rmd d := ho.2.2.2.2.2.2.2.2.1
  have hts := ho.2.2.2.2.2.1
  intro H locs ls hl0 hP hS
  have hrun := va_runS (g := F0 m pc ls st0) (rest := st) (As := as) (cells := 0) (slots := 0) (locs := locs) (e := e) (below := below) (meth := meth) (nL := nL) ⟨ho.1, ho.2.1, ho.2.2.1, ho.2.2.2.2.1, hts⟩ hM (index := idx) (n := na) (R := R) (H := H) ⟨callB_of na hts (WS_cons hcode) rfl rfl rfl (hts _ hini) (hts _ hl) hdsc ⟨by rw [hR]; exact hdd, by rw [hR]; show 8 + (maxL + 11) + 64 * d' ≤ 64 * d; omega⟩, hts _ hsta⟩ ⟨gBlind, gIn hP hS ho.2.2.2.2.2.2.2.2.2.1 ho.2.2.2.2.2.2.2.2.2.2.1 ho.2.2.2.2.2.2.2.2.2.2.2⟩ rfl hna (by show ls.size = nL; rw [← ho.2.2.2.1]; exact hl0.1) hs (lv_room hst) hd ⟨Nat.zero_le _, Nat.zero_le _⟩
  exact g_after hrun hS (fun H1 locs1 hP1 hS1 => kk H1 locs1 ls hl0 hP1 hS1)
/-- a contract out of a walk -/
theorem gCt_of {l : Launch} {X : gX} {y : MethodName} {d : Nat} {as : List Value} {v : Option Value} {maxL : Nat} {ret : Option FieldType} (cc : ByteArray) (hy : plainName y.cls = true) (hlen : (lg_sl as).length ≤ maxL)
    (body : ∀ G : gM, gl G = l → gXX G = X → gv0 G = v → gs0 G = σ' → gOk G y.cls cc d ret maxL → gAt G 0 (lv_args 0 as) [] σ) : gCt l X y (.code y cc maxL ret) d as σ v σ' := by
  refine Met.ofW (cc := cc) (maxL := maxL) (ret := ret) hy rfl ?_
  intro p e s m args below meth c s₁ B hml hv
  obtain ⟨rfl, hP, hK, hj, hz⟩ := hv
  have hts := atoms_spec (ws := Cond.code y cc maxL ret :: WS) B.pre
  have hown : s.vm.findClass y.cls = some m.cls := findClass_of_methodNamed B.named
  have hb := body ((p, l, e, rmd d, s, m, as.toArray, below, meth, c), X, maxL, v, σ') rfl rfl rfl rfl ⟨B.exec, B.bytes, hml, rfl, hown, fun w hw => hts w (List.mem_cons_of_mem _ hw), B.notSynchronized, B.returns, rfl, hK, hj, hz⟩
  rw [lg_entry_eq]
  exact hb s.heap [] _ (lv_entry as hlen) hP va_S.rf
end CALLS
def ck {α : Type} (P : Prop) [Decidable P] (x : Option α) : Option α := if P then x else none
theorem ck_el {α : Type} {P : Prop} [Decidable P] {x : Option α} {r : α} (h : ck P x = some r) : P ∧ x = some r := by
  unfold ck at h
  by_cases hP : P
  · rw [if_pos hP] at h; exact ⟨hP, h⟩
  · rw [if_neg hP] at h; cases h
def ob {α β : Type} (x : Option α) (f : α → Option β) : Option β := match x with | none => none | some a => f a
theorem ob_el {α β : Type} {x : Option α} {f : α → Option β} {r : β} (h : ob x f = some r) : ∃ a, x = some a ∧ f a = some r := by
  cases x with
  | none => cases h
  | some a => exact ⟨a, rfl, h⟩
def ob2 {α γ β : Type} (x : Option (α × γ)) (f : α → γ → Option β) : Option β := match x with | none => none | some a => f a.1 a.2
theorem ob2_el {α γ β : Type} {x : Option (α × γ)} {f : α → γ → Option β} {r : β} (h : ob2 x f = some r) : ∃ a b, x = some (a, b) ∧ f a b = some r := by
  cases x with
  | none => cases h
  | some a => exact ⟨a.1, a.2, rfl, h⟩
def bd {α β : Type} (x : α) (f : α → β) : β := f x
theorem bd_el {α β : Type} {x : α} {f : α → β} {r : β} (h : bd x f = r) : ∃ a, x = a ∧ f a = r := ⟨x, rfl, h⟩
theorem if_t {α : Type} {c : Prop} [Decidable c] {a b r : α} (hc : c) (h : (if c then a else b) = r) : a = r := by rw [if_pos hc] at h; exact h
theorem if_f {α : Type} {c : Prop} [Decidable c] {a b r : α} (hc : ¬ c) (h : (if c then a else b) = r) : b = r := by rw [if_neg hc] at h; exact h
theorem re_el {α β : Type} {a a0 : α} {b b0 : β} (h : some (a, b) = some (a0, b0)) : a = a0 ∧ b = b0 := by cases h; exact ⟨rfl, rfl⟩
theorem ro_el {α : Type} {a a0 : α} (h : some a = some a0) : a = a0 := by cases h; rfl
theorem tI {x k : Int32} {z : Int} (h : ¬ x = k) (hk : k.toInt = z) : x.toInt ≠ z := fun q => h (Int32.toInt_inj.mp (by rw [q, hk]))
theorem rng_lt {i : Int32} {N : Nat} (h : inR i N) : i.toNatClampNeg < N := Nat.not_le.mp fun q => h (Or.inr q)
theorem a_nmI {G : gM} {pc : Nat} {L : List (Nat × Value)} {st : List Value} {σ : gS} {e x : Int32} (hx : e = x) (k : gAt G pc L (.int x :: st) σ) : gAt G pc L (.int e :: st) σ := hx ▸ k
theorem a_nmL {G : gM} {pc : Nat} {L : List (Nat × Value)} {st : List Value} {σ : gS} {e x : Int64} (hx : e = x) (k : gAt G pc L (.long x :: st) σ) : gAt G pc L (.long e :: st) σ := hx ▸ k
theorem a_nmS {G : gM} {pc : Nat} {L : List (Nat × Value)} {st : List Value} {σ τ : gS} (hx : σ = τ) (k : gAt G pc L st τ) : gAt G pc L st σ := hx ▸ k
abbrev nb (v : Int32) : Prop := v = 0 ∨ v = 1
theorem nb_n {v : Int32} (h : nb v) : narrow .boolean (.int v) = .int v := by
  rcases h with h | h <;> rw [h] <;> rfl
def fu : Nat := 20000
end
section
set_option maxRecDepth 20000 in
theorem in_X0 : ∀ w ∈ u_ws RX0 TX0 5, w ∈ WS := WS_mem (goodIn_r _ [238, 240, 242, 244, 246] (by decide +kernel) (by decide +kernel)) (by decide +kernel)
set_option maxRecDepth 20000 in
theorem in_X1 : ∀ w ∈ u_ws RX1 TX1 6, w ∈ WS := WS_mem (goodIn_r _ [265, 267, 269, 271, 273, 275] (by decide +kernel) (by decide +kernel)) (by decide +kernel)
set_option maxRecDepth 20000 in
theorem in_X2 : ∀ w ∈ u_ws RX2 TX2 9, w ∈ WS := WS_mem (goodIn_r _ [125, 127, 129, 131, 133, 135, 137, 139, 141] (by decide +kernel) (by decide +kernel)) (by decide +kernel)
set_option maxRecDepth 20000 in
theorem in_X4 : ∀ w ∈ u_ws RX4 TX4 3, w ∈ WS := WS_mem (goodIn_r _ [170, 172, 174] (by decide +kernel) (by decide +kernel)) (by decide +kernel)
set_option maxRecDepth 20000 in
theorem in_X5 : ∀ w ∈ u_ws RX5 TX5 5, w ∈ WS := WS_mem (goodIn_r _ [213, 215, 217, 219, 221] (by decide +kernel) (by decide +kernel)) (by decide +kernel)
set_option maxRecDepth 20000 in
theorem in_X6 : ∀ w ∈ u_ws RX6 TX6 3, w ∈ WS := WS_mem (goodIn_r _ [149, 151, 153] (by decide +kernel) (by decide +kernel)) (by decide +kernel)
set_option maxRecDepth 20000 in
theorem in_X7 : ∀ w ∈ u_ws RX7 TX7 2, w ∈ WS := WS_mem (goodIn_r _ [288, 290] (by decide +kernel) (by decide +kernel)) (by decide +kernel)
set_option maxRecDepth 20000 in
theorem in_X8 : ∀ w ∈ u_ws RX8 TX8 3, w ∈ WS := WS_mem (goodIn_r _ [190, 192, 194] (by decide +kernel) (by decide +kernel)) (by decide +kernel)
set_option maxRecDepth 20000 in
theorem in_X10 : ∀ w ∈ u_ws RX10 TX10 2, w ∈ WS := WS_mem (goodIn_r _ [76, 78] (by decide +kernel) (by decide +kernel)) (by decide +kernel)
set_option maxRecDepth 20000 in
theorem in_X11 : ∀ w ∈ u_ws RX11 TX11 11, w ∈ WS := WS_mem (goodIn_r _ [304, 306, 308, 310, 312, 314, 316, 318, 320, 322, 324] (by decide +kernel) (by decide +kernel)) (by decide +kernel)
set_option maxRecDepth 20000 in
theorem in_X12 : ∀ w ∈ u_ws RX12 TX12 22, w ∈ WS := WS_mem (goodIn_r _ [807, 809, 811, 813, 815, 817, 819, 821, 823, 825, 827, 829, 831, 833, 835, 837, 839, 841, 843, 845, 847, 849] (by decide +kernel) (by decide +kernel)) (by decide +kernel)
theorem o_0 : isO 0 9 := ⟨rfl, rfl⟩
theorem o_1 : isO 1 8 := ⟨rfl, rfl⟩
theorem i_2 : isI 2 80 := ⟨rfl, rfl⟩
theorem o_3 : isO 3 5 := ⟨rfl, rfl⟩
theorem o_4 : isO 4 2 := ⟨rfl, rfl⟩
theorem i_5 : isI 5 8 := ⟨rfl, rfl⟩
theorem i_6 : isI 6 8 := ⟨rfl, rfl⟩
theorem i_7 : isI 7 8 := ⟨rfl, rfl⟩
theorem i_8 : isI 8 12 := ⟨rfl, rfl⟩
theorem i_9 : isI 9 3 := ⟨rfl, rfl⟩
theorem o_10 : isO 10 2 := ⟨rfl, rfl⟩
theorem i_11 : isI 11 8 := ⟨rfl, rfl⟩
theorem i_12 : isI 12 8 := ⟨rfl, rfl⟩
theorem i_13 : isI 13 8 := ⟨rfl, rfl⟩
theorem i_14 : isI 14 12 := ⟨rfl, rfl⟩
theorem i_15 : isI 15 3 := ⟨rfl, rfl⟩
theorem o_16 : isO 16 3 := ⟨rfl, rfl⟩
theorem r_17 : isR 17 5 24 := ⟨rfl, rfl⟩
theorem i_18 : isI 18 8 := ⟨rfl, rfl⟩
theorem i_19 : isI 19 8 := ⟨rfl, rfl⟩
theorem i_20 : isI 20 8 := ⟨rfl, rfl⟩
theorem i_21 : isI 21 8 := ⟨rfl, rfl⟩
theorem i_22 : isI 22 8 := ⟨rfl, rfl⟩
theorem i_23 : isI 23 8 := ⟨rfl, rfl⟩
theorem i_24 : isI 24 8 := ⟨rfl, rfl⟩
theorem i_25 : isI 25 8 := ⟨rfl, rfl⟩
theorem i_26 : isI 26 8 := ⟨rfl, rfl⟩
theorem i_27 : isI 27 8 := ⟨rfl, rfl⟩
theorem i_28 : isI 28 8 := ⟨rfl, rfl⟩
theorem i_29 : isI 29 8 := ⟨rfl, rfl⟩
theorem i_30 : isI 30 8 := ⟨rfl, rfl⟩
theorem i_31 : isI 31 8 := ⟨rfl, rfl⟩
theorem i_32 : isI 32 8 := ⟨rfl, rfl⟩
theorem i_33 : isI 33 8 := ⟨rfl, rfl⟩
theorem i_34 : isI 34 8 := ⟨rfl, rfl⟩
theorem i_35 : isI 35 8 := ⟨rfl, rfl⟩
theorem i_36 : isI 36 8 := ⟨rfl, rfl⟩
theorem i_37 : isI 37 8 := ⟨rfl, rfl⟩
theorem i_38 : isI 38 8 := ⟨rfl, rfl⟩
theorem i_39 : isI 39 8 := ⟨rfl, rfl⟩
theorem i_40 : isI 40 8 := ⟨rfl, rfl⟩
theorem i_41 : isI 41 8 := ⟨rfl, rfl⟩
theorem r_42 : isR 42 3 2 := ⟨rfl, rfl⟩
theorem o_43 : isO 43 2 := ⟨rfl, rfl⟩
theorem i_44 : isI 44 8 := ⟨rfl, rfl⟩
theorem i_45 : isI 45 8 := ⟨rfl, rfl⟩
theorem i_46 : isI 46 8 := ⟨rfl, rfl⟩
theorem i_47 : isI 47 12 := ⟨rfl, rfl⟩
theorem i_48 : isI 48 3 := ⟨rfl, rfl⟩
theorem o_49 : isO 49 2 := ⟨rfl, rfl⟩
theorem i_50 : isI 50 8 := ⟨rfl, rfl⟩
theorem i_51 : isI 51 8 := ⟨rfl, rfl⟩
theorem i_52 : isI 52 8 := ⟨rfl, rfl⟩
theorem i_53 : isI 53 12 := ⟨rfl, rfl⟩
theorem i_54 : isI 54 3 := ⟨rfl, rfl⟩
theorem r_55 : isR 55 4 4 := ⟨rfl, rfl⟩
theorem o_56 : isO 56 7 := ⟨rfl, rfl⟩
theorem j_57 : isJ 57 24 := ⟨rfl, rfl⟩
theorem o_58 : isO 58 7 := ⟨rfl, rfl⟩
theorem j_59 : isJ 59 24 := ⟨rfl, rfl⟩
theorem o_60 : isO 60 7 := ⟨rfl, rfl⟩
theorem j_61 : isJ 61 24 := ⟨rfl, rfl⟩
theorem o_62 : isO 62 7 := ⟨rfl, rfl⟩
theorem j_63 : isJ 63 24 := ⟨rfl, rfl⟩
theorem o_64 : isO 64 4 := ⟨rfl, rfl⟩
theorem i_65 : isI 65 4 := ⟨rfl, rfl⟩
theorem i_66 : isI 66 4 := ⟨rfl, rfl⟩
theorem r_67 : isR 67 5 5 := ⟨rfl, rfl⟩
theorem i_68 : isI 68 8 := ⟨rfl, rfl⟩
theorem i_69 : isI 69 8 := ⟨rfl, rfl⟩
theorem i_70 : isI 70 8 := ⟨rfl, rfl⟩
theorem i_71 : isI 71 8 := ⟨rfl, rfl⟩
theorem i_72 : isI 72 8 := ⟨rfl, rfl⟩
theorem o_73 : isO 73 0 := ⟨rfl, rfl⟩
theorem i_74 : isI 74 5 := ⟨rfl, rfl⟩
theorem i_75 : isI 75 5 := ⟨rfl, rfl⟩
theorem j_76 : isJ 76 64 := ⟨rfl, rfl⟩
theorem o_77 : isO 77 1 := ⟨rfl, rfl⟩
theorem i_78 : isI 78 9 := ⟨rfl, rfl⟩
theorem i_79 : isI 79 8 := ⟨rfl, rfl⟩
theorem o_80 : isO 80 6 := ⟨rfl, rfl⟩
theorem i_81 : isI 81 20 := ⟨rfl, rfl⟩
theorem o_82 : isO 82 10 := ⟨rfl, rfl⟩
theorem i_83 : isI 83 26 := ⟨rfl, rfl⟩
theorem i_84 : isI 84 26 := ⟨rfl, rfl⟩
theorem i_85 : isI 85 8 := ⟨rfl, rfl⟩
theorem i_86 : isI 86 40 := ⟨rfl, rfl⟩
theorem i_87 : isI 87 40 := ⟨rfl, rfl⟩
theorem i_88 : isI 88 768 := ⟨rfl, rfl⟩
theorem i_89 : isI 89 134 := ⟨rfl, rfl⟩
theorem z_90 : isZ 90 2 := ⟨rfl, rfl⟩
theorem i_91 : isI 91 80 := ⟨rfl, rfl⟩
theorem i_92 : isI 92 4 := ⟨rfl, rfl⟩
theorem i_93 : isI 93 4 := ⟨rfl, rfl⟩
theorem j_94 : isJ 94 96 := ⟨rfl, rfl⟩
theorem z_95 : isZ 95 1000 := ⟨rfl, rfl⟩
theorem j_96 : isJ 96 10 := ⟨rfl, rfl⟩
theorem i_97 : isI 97 4000 := ⟨rfl, rfl⟩
theorem ff_0_0 : ∀ c, isO c 0 → (ds c).2.2[0]? = some none := fun c h => (by decide +kernel : ∀ c, c < NC → isO c 0 → (ds c).2.2[0]? = some none) c (isO_lt h) h
theorem ff_0_1 : ∀ c, isO c 0 → (ds c).2.2[1]? = some none := fun c h => (by decide +kernel : ∀ c, c < NC → isO c 0 → (ds c).2.2[1]? = some none) c (isO_lt h) h
theorem fr_0_2 : (ds 73).2.2[2]? = some (some 74) := rfl
theorem fr_0_3 : (ds 73).2.2[3]? = some (some 75) := rfl
theorem fr_0_4 : (ds 73).2.2[4]? = some (some 76) := rfl
theorem ff_1_0 : ∀ c, isO c 1 → (ds c).2.2[0]? = some none := fun c h => (by decide +kernel : ∀ c, c < NC → isO c 1 → (ds c).2.2[0]? = some none) c (isO_lt h) h
theorem ff_1_1 : ∀ c, isO c 1 → (ds c).2.2[1]? = some none := fun c h => (by decide +kernel : ∀ c, c < NC → isO c 1 → (ds c).2.2[1]? = some none) c (isO_lt h) h
theorem ff_1_2 : ∀ c, isO c 1 → (ds c).2.2[2]? = some none := fun c h => (by decide +kernel : ∀ c, c < NC → isO c 1 → (ds c).2.2[2]? = some none) c (isO_lt h) h
theorem ff_1_3 : ∀ c, isO c 1 → (ds c).2.2[3]? = some none := fun c h => (by decide +kernel : ∀ c, c < NC → isO c 1 → (ds c).2.2[3]? = some none) c (isO_lt h) h
theorem fr_1_4 : (ds 77).2.2[4]? = some (some 78) := rfl
theorem fr_1_5 : (ds 77).2.2[5]? = some (some 79) := rfl
theorem ff_2_0 : ∀ c, isO c 2 → (ds c).2.2[0]? = some none := fun c h => (by decide +kernel : ∀ c, c < NC → isO c 2 → (ds c).2.2[0]? = some none) c (isO_lt h) h
theorem ff_2_1 : ∀ c, isO c 2 → (ds c).2.2[1]? = some none := fun c h => (by decide +kernel : ∀ c, c < NC → isO c 2 → (ds c).2.2[1]? = some none) c (isO_lt h) h
theorem ff_2_2 : ∀ c, isO c 2 → (ds c).2.2[2]? = some none := fun c h => (by decide +kernel : ∀ c, c < NC → isO c 2 → (ds c).2.2[2]? = some none) c (isO_lt h) h
theorem ff_2_3 : ∀ c, isO c 2 → (ds c).2.2[3]? = some none := fun c h => (by decide +kernel : ∀ c, c < NC → isO c 2 → (ds c).2.2[3]? = some none) c (isO_lt h) h
theorem fr_2_4 : ∀ c, isO c 2 → (ds c).2.2[4]? = some (some (c + 1)) := fun c h => (by decide +kernel : ∀ c, c < NC → isO c 2 → (ds c).2.2[4]? = some (some (c + 1))) c (isO_lt h) h
theorem fa_2_4 : ∀ c, isO c 2 → isI (c + 1) 8 := fun c h => (by decide +kernel : ∀ c, c < NC → isO c 2 → isI (c + 1) 8) c (isO_lt h) h
theorem fr_2_5 : ∀ c, isO c 2 → (ds c).2.2[5]? = some (some (c + 2)) := fun c h => (by decide +kernel : ∀ c, c < NC → isO c 2 → (ds c).2.2[5]? = some (some (c + 2))) c (isO_lt h) h
theorem fa_2_5 : ∀ c, isO c 2 → isI (c + 2) 8 := fun c h => (by decide +kernel : ∀ c, c < NC → isO c 2 → isI (c + 2) 8) c (isO_lt h) h
theorem fr_2_6 : ∀ c, isO c 2 → (ds c).2.2[6]? = some (some (c + 3)) := fun c h => (by decide +kernel : ∀ c, c < NC → isO c 2 → (ds c).2.2[6]? = some (some (c + 3))) c (isO_lt h) h
theorem fa_2_6 : ∀ c, isO c 2 → isI (c + 3) 8 := fun c h => (by decide +kernel : ∀ c, c < NC → isO c 2 → isI (c + 3) 8) c (isO_lt h) h
theorem fr_2_7 : ∀ c, isO c 2 → (ds c).2.2[7]? = some (some (c + 4)) := fun c h => (by decide +kernel : ∀ c, c < NC → isO c 2 → (ds c).2.2[7]? = some (some (c + 4))) c (isO_lt h) h
theorem fa_2_7 : ∀ c, isO c 2 → isI (c + 4) 12 := fun c h => (by decide +kernel : ∀ c, c < NC → isO c 2 → isI (c + 4) 12) c (isO_lt h) h
theorem fr_2_8 : ∀ c, isO c 2 → (ds c).2.2[8]? = some (some (c + 5)) := fun c h => (by decide +kernel : ∀ c, c < NC → isO c 2 → (ds c).2.2[8]? = some (some (c + 5))) c (isO_lt h) h
theorem fa_2_8 : ∀ c, isO c 2 → isI (c + 5) 3 := fun c h => (by decide +kernel : ∀ c, c < NC → isO c 2 → isI (c + 5) 3) c (isO_lt h) h
theorem ff_3_0 : ∀ c, isO c 3 → (ds c).2.2[0]? = some none := fun c h => (by decide +kernel : ∀ c, c < NC → isO c 3 → (ds c).2.2[0]? = some none) c (isO_lt h) h
theorem ff_3_1 : ∀ c, isO c 3 → (ds c).2.2[1]? = some none := fun c h => (by decide +kernel : ∀ c, c < NC → isO c 3 → (ds c).2.2[1]? = some none) c (isO_lt h) h
theorem fr_3_2 : (ds 16).2.2[2]? = some (some 17) := rfl
theorem ff_4_0 : ∀ c, isO c 4 → (ds c).2.2[0]? = some none := fun c h => (by decide +kernel : ∀ c, c < NC → isO c 4 → (ds c).2.2[0]? = some none) c (isO_lt h) h
theorem ff_4_1 : ∀ c, isO c 4 → (ds c).2.2[1]? = some none := fun c h => (by decide +kernel : ∀ c, c < NC → isO c 4 → (ds c).2.2[1]? = some none) c (isO_lt h) h
theorem fr_4_2 : (ds 64).2.2[2]? = some (some 65) := rfl
theorem fr_4_3 : (ds 64).2.2[3]? = some (some 66) := rfl
theorem fr_4_4 : (ds 64).2.2[4]? = some (some 67) := rfl
theorem fr_5_0 : (ds 3).2.2[0]? = some (some 4) := rfl
theorem ff_5_1 : ∀ c, isO c 5 → (ds c).2.2[1]? = some none := fun c h => (by decide +kernel : ∀ c, c < NC → isO c 5 → (ds c).2.2[1]? = some none) c (isO_lt h) h
theorem fr_5_2 : (ds 3).2.2[2]? = some (some 1) := rfl
theorem ff_6_0 : ∀ c, isO c 6 → (ds c).2.2[0]? = some none := fun c h => (by decide +kernel : ∀ c, c < NC → isO c 6 → (ds c).2.2[0]? = some none) c (isO_lt h) h
theorem ff_6_1 : ∀ c, isO c 6 → (ds c).2.2[1]? = some none := fun c h => (by decide +kernel : ∀ c, c < NC → isO c 6 → (ds c).2.2[1]? = some none) c (isO_lt h) h
theorem ff_7_0 : ∀ c, isO c 7 → (ds c).2.2[0]? = some none := fun c h => (by decide +kernel : ∀ c, c < NC → isO c 7 → (ds c).2.2[0]? = some none) c (isO_lt h) h
theorem ff_7_1 : ∀ c, isO c 7 → (ds c).2.2[1]? = some none := fun c h => (by decide +kernel : ∀ c, c < NC → isO c 7 → (ds c).2.2[1]? = some none) c (isO_lt h) h
theorem fr_7_2 : ∀ c, isO c 7 → (ds c).2.2[2]? = some (some (c + 1)) := fun c h => (by decide +kernel : ∀ c, c < NC → isO c 7 → (ds c).2.2[2]? = some (some (c + 1))) c (isO_lt h) h
theorem fa_7_2 : ∀ c, isO c 7 → isJ (c + 1) 24 := fun c h => (by decide +kernel : ∀ c, c < NC → isO c 7 → isJ (c + 1) 24) c (isO_lt h) h
theorem ff_8_0 : ∀ c, isO c 8 → (ds c).2.2[0]? = some none := fun c h => (by decide +kernel : ∀ c, c < NC → isO c 8 → (ds c).2.2[0]? = some none) c (isO_lt h) h
theorem fr_8_1 : (ds 1).2.2[1]? = some (some 2) := rfl
theorem fr_9_0 : (ds 0).2.2[0]? = some (some 1) := rfl
theorem fr_9_1 : (ds 0).2.2[1]? = some (some 3) := rfl
theorem fr_9_2 : (ds 0).2.2[2]? = some (some 10) := rfl
theorem fr_9_3 : (ds 0).2.2[3]? = some (some 16) := rfl
theorem fr_9_4 : (ds 0).2.2[4]? = some (some 42) := rfl
theorem fr_9_5 : (ds 0).2.2[5]? = some (some 55) := rfl
theorem fr_9_6 : (ds 0).2.2[6]? = some (some 64) := rfl
theorem fr_9_7 : (ds 0).2.2[7]? = some (some 73) := rfl
theorem fr_9_8 : (ds 0).2.2[8]? = some (some 77) := rfl
theorem fr_9_9 : (ds 0).2.2[9]? = some (some 80) := rfl
theorem fr_9_10 : (ds 0).2.2[10]? = some (some 81) := rfl
theorem fr_10_0 : (ds 82).2.2[0]? = some (some 83) := rfl
theorem fr_10_1 : (ds 82).2.2[1]? = some (some 84) := rfl
theorem fr_10_2 : (ds 82).2.2[2]? = some (some 85) := rfl
theorem fr_10_3 : (ds 82).2.2[3]? = some (some 86) := rfl
theorem fr_10_4 : (ds 82).2.2[4]? = some (some 87) := rfl
theorem ff_10_5 : ∀ c, isO c 10 → (ds c).2.2[5]? = some none := fun c h => (by decide +kernel : ∀ c, c < NC → isO c 10 → (ds c).2.2[5]? = some none) c (isO_lt h) h
theorem fr_10_6 : (ds 82).2.2[6]? = some (some 88) := rfl
theorem ff_10_7 : ∀ c, isO c 10 → (ds c).2.2[7]? = some none := fun c h => (by decide +kernel : ∀ c, c < NC → isO c 10 → (ds c).2.2[7]? = some none) c (isO_lt h) h
theorem fr_10_8 : (ds 82).2.2[8]? = some (some 89) := rfl
theorem fr_10_9 : (ds 82).2.2[9]? = some (some 90) := rfl
theorem fr_10_10 : (ds 82).2.2[10]? = some (some 91) := rfl
theorem ff_10_11 : ∀ c, isO c 10 → (ds c).2.2[11]? = some none := fun c h => (by decide +kernel : ∀ c, c < NC → isO c 10 → (ds c).2.2[11]? = some none) c (isO_lt h) h
theorem fr_10_12 : (ds 82).2.2[12]? = some (some 92) := rfl
theorem fr_10_13 : (ds 82).2.2[13]? = some (some 93) := rfl
theorem fr_10_14 : (ds 82).2.2[14]? = some (some 94) := rfl
theorem ff_10_15 : ∀ c, isO c 10 → (ds c).2.2[15]? = some none := fun c h => (by decide +kernel : ∀ c, c < NC → isO c 10 → (ds c).2.2[15]? = some none) c (isO_lt h) h
theorem ff_10_16 : ∀ c, isO c 10 → (ds c).2.2[16]? = some none := fun c h => (by decide +kernel : ∀ c, c < NC → isO c 10 → (ds c).2.2[16]? = some none) c (isO_lt h) h
theorem fr_10_17 : (ds 82).2.2[17]? = some (some 95) := rfl
theorem fr_10_18 : (ds 82).2.2[18]? = some (some 96) := rfl
theorem fr_10_19 : (ds 82).2.2[19]? = some (some 97) := rfl
theorem ff_10_20 : ∀ c, isO c 10 → (ds c).2.2[20]? = some none := fun c h => (by decide +kernel : ∀ c, c < NC → isO c 10 → (ds c).2.2[20]? = some none) c (isO_lt h) h
theorem ff_10_21 : ∀ c, isO c 10 → (ds c).2.2[21]? = some none := fun c h => (by decide +kernel : ∀ c, c < NC → isO c 10 → (ds c).2.2[21]? = some none) c (isO_lt h) h
theorem ar_17 : ∀ j, j < 24 → (ds 17).2.2[j]? = some (some (18 + j)) := (by decide +kernel)
theorem at_17 : ∀ j, j < 24 → isI (18 + j) 8 := (by decide +kernel)
theorem ar_42 : ∀ j, j < 2 → (ds 42).2.2[j]? = some (some (43 + 6 * j)) := (by decide +kernel)
theorem at_42 : ∀ j, j < 2 → isO (43 + 6 * j) 2 := (by decide +kernel)
theorem ar_55 : ∀ j, j < 4 → (ds 55).2.2[j]? = some (some (56 + 2 * j)) := (by decide +kernel)
theorem at_55 : ∀ j, j < 4 → isO (56 + 2 * j) 7 := (by decide +kernel)
theorem ar_67 : ∀ j, j < 5 → (ds 67).2.2[j]? = some (some (68 + j)) := (by decide +kernel)
theorem at_67 : ∀ j, j < 5 → isI (68 + j) 8 := (by decide +kernel)
theorem fl_X10_13 : gFl "WaxCloth$Tape" 13 8 0 := ⟨RX10, TX10, 2, rfl, by decide, in_X10, ws_in 73 (by decide +kernel) (by decide +kernel)⟩
theorem fp_X10_13 : gFp "WaxCloth$Tape" 13 8 0 := ⟨RX10, TX10, 2, tyX10, rfl, by decide, in_X10, ws_in 73 (by decide +kernel) (by decide +kernel), tyX10_ok, nmX10, rfl, rfl⟩
theorem fl_X11_86 : gFl "WaxCloth" 86 8 0 := ⟨RX10, TX10, 2, rfl, by decide, in_X10, ws_in 74 (by decide +kernel) (by decide +kernel)⟩
theorem fp_X11_86 : gFp "WaxCloth" 86 8 0 := ⟨RX10, TX10, 2, tyX10, rfl, by decide, in_X10, ws_in 74 (by decide +kernel) (by decide +kernel), tyX10_ok, nmX10, rfl, rfl⟩
theorem fl_X10_9 : gFl "WaxCloth$Tape" 9 8 1 := ⟨RX10, TX10, 2, rfl, by decide, in_X10, ws_in 75 (by decide +kernel) (by decide +kernel)⟩
theorem fl_X2_27 : gFl "WaxCloth$Cloth" 27 2 0 := ⟨RX2, TX2, 9, rfl, by decide, in_X2, ws_in 94 (by decide +kernel) (by decide +kernel)⟩
theorem fp_X2_27 : gFp "WaxCloth$Cloth" 27 2 0 := ⟨RX2, TX2, 9, tyX2, rfl, by decide, in_X2, ws_in 94 (by decide +kernel) (by decide +kernel), tyX2_ok, nmX2, rfl, rfl⟩
theorem fl_X7_16 : gFl "WaxCloth$Rounds" 16 2 0 := ⟨RX2, TX2, 9, rfl, by decide, in_X2, ws_in 95 (by decide +kernel) (by decide +kernel)⟩
theorem fp_X7_16 : gFp "WaxCloth$Rounds" 16 2 0 := ⟨RX2, TX2, 9, tyX2, rfl, by decide, in_X2, ws_in 95 (by decide +kernel) (by decide +kernel), tyX2_ok, nmX2, rfl, rfl⟩
theorem fl_X1_20 : gFl "WaxCloth$Chances" 20 2 0 := ⟨RX2, TX2, 9, rfl, by decide, in_X2, ws_in 96 (by decide +kernel) (by decide +kernel)⟩
theorem fp_X1_20 : gFp "WaxCloth$Chances" 20 2 0 := ⟨RX2, TX2, 9, tyX2, rfl, by decide, in_X2, ws_in 96 (by decide +kernel) (by decide +kernel), tyX2_ok, nmX2, rfl, rfl⟩
theorem fl_X5_45 : gFl "WaxCloth$Planner" 45 2 0 := ⟨RX2, TX2, 9, rfl, by decide, in_X2, ws_in 97 (by decide +kernel) (by decide +kernel)⟩
theorem fp_X5_45 : gFp "WaxCloth$Planner" 45 2 0 := ⟨RX2, TX2, 9, tyX2, rfl, by decide, in_X2, ws_in 97 (by decide +kernel) (by decide +kernel), tyX2_ok, nmX2, rfl, rfl⟩
theorem fl_X11_107 : gFl "WaxCloth" 107 2 0 := ⟨RX2, TX2, 9, rfl, by decide, in_X2, ws_in 98 (by decide +kernel) (by decide +kernel)⟩
theorem fp_X11_107 : gFp "WaxCloth" 107 2 0 := ⟨RX2, TX2, 9, tyX2, rfl, by decide, in_X2, ws_in 98 (by decide +kernel) (by decide +kernel), tyX2_ok, nmX2, rfl, rfl⟩
theorem fl_X6_47 : gFl "WaxCloth$Reader" 47 2 0 := ⟨RX2, TX2, 9, rfl, by decide, in_X2, ws_in 99 (by decide +kernel) (by decide +kernel)⟩
theorem fp_X6_47 : gFp "WaxCloth$Reader" 47 2 0 := ⟨RX2, TX2, 9, tyX2, rfl, by decide, in_X2, ws_in 99 (by decide +kernel) (by decide +kernel), tyX2_ok, nmX2, rfl, rfl⟩
theorem fl_X2_31 : gFl "WaxCloth$Cloth" 31 2 1 := ⟨RX2, TX2, 9, rfl, by decide, in_X2, ws_in 100 (by decide +kernel) (by decide +kernel)⟩
theorem fp_X2_31 : gFp "WaxCloth$Cloth" 31 2 1 := ⟨RX2, TX2, 9, tyX2, rfl, by decide, in_X2, ws_in 100 (by decide +kernel) (by decide +kernel), tyX2_ok, nmX2, rfl, rfl⟩
theorem fl_X0_39 : gFl "WaxCloth$Baths" 39 2 1 := ⟨RX2, TX2, 9, rfl, by decide, in_X2, ws_in 101 (by decide +kernel) (by decide +kernel)⟩
theorem fp_X0_39 : gFp "WaxCloth$Baths" 39 2 1 := ⟨RX2, TX2, 9, tyX2, rfl, by decide, in_X2, ws_in 101 (by decide +kernel) (by decide +kernel), tyX2_ok, nmX2, rfl, rfl⟩
theorem fl_X6_71 : gFl "WaxCloth$Reader" 71 2 1 := ⟨RX2, TX2, 9, rfl, by decide, in_X2, ws_in 102 (by decide +kernel) (by decide +kernel)⟩
theorem fp_X6_71 : gFp "WaxCloth$Reader" 71 2 1 := ⟨RX2, TX2, 9, tyX2, rfl, by decide, in_X2, ws_in 102 (by decide +kernel) (by decide +kernel), tyX2_ok, nmX2, rfl, rfl⟩
theorem fl_X11_317 : gFl "WaxCloth" 317 2 1 := ⟨RX2, TX2, 9, rfl, by decide, in_X2, ws_in 103 (by decide +kernel) (by decide +kernel)⟩
theorem fp_X11_317 : gFp "WaxCloth" 317 2 1 := ⟨RX2, TX2, 9, tyX2, rfl, by decide, in_X2, ws_in 103 (by decide +kernel) (by decide +kernel), tyX2_ok, nmX2, rfl, rfl⟩
theorem fl_X2_34 : gFl "WaxCloth$Cloth" 34 2 2 := ⟨RX2, TX2, 9, rfl, by decide, in_X2, ws_in 104 (by decide +kernel) (by decide +kernel)⟩
theorem fp_X2_34 : gFp "WaxCloth$Cloth" 34 2 2 := ⟨RX2, TX2, 9, tyX2, rfl, by decide, in_X2, ws_in 104 (by decide +kernel) (by decide +kernel), tyX2_ok, nmX2, rfl, rfl⟩
theorem fl_X6_84 : gFl "WaxCloth$Reader" 84 2 2 := ⟨RX2, TX2, 9, rfl, by decide, in_X2, ws_in 105 (by decide +kernel) (by decide +kernel)⟩
theorem fp_X6_84 : gFp "WaxCloth$Reader" 84 2 2 := ⟨RX2, TX2, 9, tyX2, rfl, by decide, in_X2, ws_in 105 (by decide +kernel) (by decide +kernel), tyX2_ok, nmX2, rfl, rfl⟩
theorem fl_X11_320 : gFl "WaxCloth" 320 2 2 := ⟨RX2, TX2, 9, rfl, by decide, in_X2, ws_in 106 (by decide +kernel) (by decide +kernel)⟩
theorem fp_X11_320 : gFp "WaxCloth" 320 2 2 := ⟨RX2, TX2, 9, tyX2, rfl, by decide, in_X2, ws_in 106 (by decide +kernel) (by decide +kernel), tyX2_ok, nmX2, rfl, rfl⟩
theorem fl_X2_37 : gFl "WaxCloth$Cloth" 37 2 3 := ⟨RX2, TX2, 9, rfl, by decide, in_X2, ws_in 107 (by decide +kernel) (by decide +kernel)⟩
theorem fp_X2_37 : gFp "WaxCloth$Cloth" 37 2 3 := ⟨RX2, TX2, 9, tyX2, rfl, by decide, in_X2, ws_in 107 (by decide +kernel) (by decide +kernel), tyX2_ok, nmX2, rfl, rfl⟩
theorem fl_X11_170 : gFl "WaxCloth" 170 2 3 := ⟨RX2, TX2, 9, rfl, by decide, in_X2, ws_in 108 (by decide +kernel) (by decide +kernel)⟩
theorem fp_X11_170 : gFp "WaxCloth" 170 2 3 := ⟨RX2, TX2, 9, tyX2, rfl, by decide, in_X2, ws_in 108 (by decide +kernel) (by decide +kernel), tyX2_ok, nmX2, rfl, rfl⟩
theorem fl_X2_9 : gFl "WaxCloth$Cloth" 9 2 4 := ⟨RX2, TX2, 9, rfl, by decide, in_X2, ws_in 109 (by decide +kernel) (by decide +kernel)⟩
theorem fl_X11_116 : gFl "WaxCloth" 116 2 4 := ⟨RX2, TX2, 9, rfl, by decide, in_X2, ws_in 110 (by decide +kernel) (by decide +kernel)⟩
theorem fl_X6_61 : gFl "WaxCloth$Reader" 61 2 4 := ⟨RX2, TX2, 9, rfl, by decide, in_X2, ws_in 111 (by decide +kernel) (by decide +kernel)⟩
theorem fl_X2_13 : gFl "WaxCloth$Cloth" 13 2 5 := ⟨RX2, TX2, 9, rfl, by decide, in_X2, ws_in 112 (by decide +kernel) (by decide +kernel)⟩
theorem fl_X11_119 : gFl "WaxCloth" 119 2 5 := ⟨RX2, TX2, 9, rfl, by decide, in_X2, ws_in 113 (by decide +kernel) (by decide +kernel)⟩
theorem fl_X6_65 : gFl "WaxCloth$Reader" 65 2 5 := ⟨RX2, TX2, 9, rfl, by decide, in_X2, ws_in 114 (by decide +kernel) (by decide +kernel)⟩
theorem fl_X2_16 : gFl "WaxCloth$Cloth" 16 2 6 := ⟨RX2, TX2, 9, rfl, by decide, in_X2, ws_in 115 (by decide +kernel) (by decide +kernel)⟩
theorem fl_X5_25 : gFl "WaxCloth$Planner" 25 2 6 := ⟨RX2, TX2, 9, rfl, by decide, in_X2, ws_in 116 (by decide +kernel) (by decide +kernel)⟩
theorem fl_X1_24 : gFl "WaxCloth$Chances" 24 2 6 := ⟨RX2, TX2, 9, rfl, by decide, in_X2, ws_in 117 (by decide +kernel) (by decide +kernel)⟩
theorem fl_X7_40 : gFl "WaxCloth$Rounds" 40 2 6 := ⟨RX2, TX2, 9, rfl, by decide, in_X2, ws_in 118 (by decide +kernel) (by decide +kernel)⟩
theorem fl_X11_113 : gFl "WaxCloth" 113 2 6 := ⟨RX2, TX2, 9, rfl, by decide, in_X2, ws_in 119 (by decide +kernel) (by decide +kernel)⟩
theorem fl_X2_21 : gFl "WaxCloth$Cloth" 21 2 7 := ⟨RX2, TX2, 9, rfl, by decide, in_X2, ws_in 120 (by decide +kernel) (by decide +kernel)⟩
theorem fl_X6_74 : gFl "WaxCloth$Reader" 74 2 7 := ⟨RX2, TX2, 9, rfl, by decide, in_X2, ws_in 121 (by decide +kernel) (by decide +kernel)⟩
theorem fl_X2_24 : gFl "WaxCloth$Cloth" 24 2 8 := ⟨RX2, TX2, 9, rfl, by decide, in_X2, ws_in 122 (by decide +kernel) (by decide +kernel)⟩
theorem fl_X11_159 : gFl "WaxCloth" 159 2 8 := ⟨RX2, TX2, 9, rfl, by decide, in_X2, ws_in 123 (by decide +kernel) (by decide +kernel)⟩
theorem fl_X6_81 : gFl "WaxCloth$Reader" 81 2 8 := ⟨RX2, TX2, 9, rfl, by decide, in_X2, ws_in 124 (by decide +kernel) (by decide +kernel)⟩
theorem fl_X6_10 : gFl "WaxCloth$Reader" 10 5 0 := ⟨RX6, TX6, 3, rfl, by decide, in_X6, ws_in 144 (by decide +kernel) (by decide +kernel)⟩
theorem fl_X11_97 : gFl "WaxCloth" 97 5 0 := ⟨RX6, TX6, 3, rfl, by decide, in_X6, ws_in 145 (by decide +kernel) (by decide +kernel)⟩
theorem fl_X6_20 : gFl "WaxCloth$Reader" 20 5 1 := ⟨RX6, TX6, 3, rfl, by decide, in_X6, ws_in 146 (by decide +kernel) (by decide +kernel)⟩
theorem fp_X6_20 : gFp "WaxCloth$Reader" 20 5 1 := ⟨RX6, TX6, 3, tyX6, rfl, by decide, in_X6, ws_in 146 (by decide +kernel) (by decide +kernel), tyX6_ok, nmX6, rfl, rfl⟩
theorem fl_X11_94 : gFl "WaxCloth" 94 5 1 := ⟨RX6, TX6, 3, rfl, by decide, in_X6, ws_in 147 (by decide +kernel) (by decide +kernel)⟩
theorem fp_X11_94 : gFp "WaxCloth" 94 5 1 := ⟨RX6, TX6, 3, tyX6, rfl, by decide, in_X6, ws_in 147 (by decide +kernel) (by decide +kernel), tyX6_ok, nmX6, rfl, rfl⟩
theorem fl_X6_16 : gFl "WaxCloth$Reader" 16 5 2 := ⟨RX6, TX6, 3, rfl, by decide, in_X6, ws_in 148 (by decide +kernel) (by decide +kernel)⟩
theorem fl_X4_16 : gFl "WaxCloth$Past" 16 3 0 := ⟨RX4, TX4, 3, rfl, by decide, in_X4, ws_in 166 (by decide +kernel) (by decide +kernel)⟩
theorem fp_X4_16 : gFp "WaxCloth$Past" 16 3 0 := ⟨RX4, TX4, 3, tyX4, rfl, by decide, in_X4, ws_in 166 (by decide +kernel) (by decide +kernel), tyX4_ok, nmX4, rfl, rfl⟩
theorem fl_X11_189 : gFl "WaxCloth" 189 3 0 := ⟨RX4, TX4, 3, rfl, by decide, in_X4, ws_in 167 (by decide +kernel) (by decide +kernel)⟩
theorem fp_X11_189 : gFp "WaxCloth" 189 3 0 := ⟨RX4, TX4, 3, tyX4, rfl, by decide, in_X4, ws_in 167 (by decide +kernel) (by decide +kernel), tyX4_ok, nmX4, rfl, rfl⟩
theorem fl_X4_20 : gFl "WaxCloth$Past" 20 3 1 := ⟨RX4, TX4, 3, rfl, by decide, in_X4, ws_in 168 (by decide +kernel) (by decide +kernel)⟩
theorem fp_X4_20 : gFp "WaxCloth$Past" 20 3 1 := ⟨RX4, TX4, 3, tyX4, rfl, by decide, in_X4, ws_in 168 (by decide +kernel) (by decide +kernel), tyX4_ok, nmX4, rfl, rfl⟩
theorem fl_X4_13 : gFl "WaxCloth$Past" 13 3 2 := ⟨RX4, TX4, 3, rfl, by decide, in_X4, ws_in 169 (by decide +kernel) (by decide +kernel)⟩
theorem fl_X8_11 : gFl "WaxCloth$Sheet" 11 7 0 := ⟨RX8, TX8, 3, rfl, by decide, in_X8, ws_in 185 (by decide +kernel) (by decide +kernel)⟩
theorem fp_X8_11 : gFp "WaxCloth$Sheet" 11 7 0 := ⟨RX8, TX8, 3, tyX8, rfl, by decide, in_X8, ws_in 185 (by decide +kernel) (by decide +kernel), tyX8_ok, nmX8, rfl, rfl⟩
theorem fl_X11_273 : gFl "WaxCloth" 273 7 0 := ⟨RX8, TX8, 3, rfl, by decide, in_X8, ws_in 186 (by decide +kernel) (by decide +kernel)⟩
theorem fp_X11_273 : gFp "WaxCloth" 273 7 0 := ⟨RX8, TX8, 3, tyX8, rfl, by decide, in_X8, ws_in 186 (by decide +kernel) (by decide +kernel), tyX8_ok, nmX8, rfl, rfl⟩
theorem fl_X8_19 : gFl "WaxCloth$Sheet" 19 7 1 := ⟨RX8, TX8, 3, rfl, by decide, in_X8, ws_in 187 (by decide +kernel) (by decide +kernel)⟩
theorem fp_X8_19 : gFp "WaxCloth$Sheet" 19 7 1 := ⟨RX8, TX8, 3, tyX8, rfl, by decide, in_X8, ws_in 187 (by decide +kernel) (by decide +kernel), tyX8_ok, nmX8, rfl, rfl⟩
theorem fl_X8_15 : gFl "WaxCloth$Sheet" 15 7 2 := ⟨RX8, TX8, 3, rfl, by decide, in_X8, ws_in 188 (by decide +kernel) (by decide +kernel)⟩
theorem fl_X11_279 : gFl "WaxCloth" 279 7 2 := ⟨RX8, TX8, 3, rfl, by decide, in_X8, ws_in 189 (by decide +kernel) (by decide +kernel)⟩
theorem fl_X5_38 : gFl "WaxCloth$Planner" 38 4 0 := ⟨RX5, TX5, 5, rfl, by decide, in_X5, ws_in 205 (by decide +kernel) (by decide +kernel)⟩
theorem fp_X5_38 : gFp "WaxCloth$Planner" 38 4 0 := ⟨RX5, TX5, 5, tyX5, rfl, by decide, in_X5, ws_in 205 (by decide +kernel) (by decide +kernel), tyX5_ok, nmX5, rfl, rfl⟩
theorem fl_X11_199 : gFl "WaxCloth" 199 4 0 := ⟨RX5, TX5, 5, rfl, by decide, in_X5, ws_in 206 (by decide +kernel) (by decide +kernel)⟩
theorem fp_X11_199 : gFp "WaxCloth" 199 4 0 := ⟨RX5, TX5, 5, tyX5, rfl, by decide, in_X5, ws_in 206 (by decide +kernel) (by decide +kernel), tyX5_ok, nmX5, rfl, rfl⟩
theorem fl_X5_42 : gFl "WaxCloth$Planner" 42 4 1 := ⟨RX5, TX5, 5, rfl, by decide, in_X5, ws_in 207 (by decide +kernel) (by decide +kernel)⟩
theorem fp_X5_42 : gFp "WaxCloth$Planner" 42 4 1 := ⟨RX5, TX5, 5, tyX5, rfl, by decide, in_X5, ws_in 207 (by decide +kernel) (by decide +kernel), tyX5_ok, nmX5, rfl, rfl⟩
theorem fl_X11_202 : gFl "WaxCloth" 202 4 1 := ⟨RX5, TX5, 5, rfl, by decide, in_X5, ws_in 208 (by decide +kernel) (by decide +kernel)⟩
theorem fp_X11_202 : gFp "WaxCloth" 202 4 1 := ⟨RX5, TX5, 5, tyX5, rfl, by decide, in_X5, ws_in 208 (by decide +kernel) (by decide +kernel), tyX5_ok, nmX5, rfl, rfl⟩
theorem fl_X5_9 : gFl "WaxCloth$Planner" 9 4 2 := ⟨RX5, TX5, 5, rfl, by decide, in_X5, ws_in 209 (by decide +kernel) (by decide +kernel)⟩
theorem fl_X11_205 : gFl "WaxCloth" 205 4 2 := ⟨RX5, TX5, 5, rfl, by decide, in_X5, ws_in 210 (by decide +kernel) (by decide +kernel)⟩
theorem fl_X5_15 : gFl "WaxCloth$Planner" 15 4 3 := ⟨RX5, TX5, 5, rfl, by decide, in_X5, ws_in 211 (by decide +kernel) (by decide +kernel)⟩
theorem fl_X5_22 : gFl "WaxCloth$Planner" 22 4 4 := ⟨RX5, TX5, 5, rfl, by decide, in_X5, ws_in 212 (by decide +kernel) (by decide +kernel)⟩
theorem fl_X0_24 : gFl "WaxCloth$Baths" 24 0 0 := ⟨RX0, TX0, 5, rfl, by decide, in_X0, ws_in 230 (by decide +kernel) (by decide +kernel)⟩
theorem fp_X0_24 : gFp "WaxCloth$Baths" 24 0 0 := ⟨RX0, TX0, 5, tyX0, rfl, by decide, in_X0, ws_in 230 (by decide +kernel) (by decide +kernel), tyX0_ok, nmX0, rfl, rfl⟩
theorem fl_X11_219 : gFl "WaxCloth" 219 0 0 := ⟨RX0, TX0, 5, rfl, by decide, in_X0, ws_in 231 (by decide +kernel) (by decide +kernel)⟩
theorem fp_X11_219 : gFp "WaxCloth" 219 0 0 := ⟨RX0, TX0, 5, tyX0, rfl, by decide, in_X0, ws_in 231 (by decide +kernel) (by decide +kernel), tyX0_ok, nmX0, rfl, rfl⟩
theorem fl_X0_28 : gFl "WaxCloth$Baths" 28 0 1 := ⟨RX0, TX0, 5, rfl, by decide, in_X0, ws_in 232 (by decide +kernel) (by decide +kernel)⟩
theorem fp_X0_28 : gFp "WaxCloth$Baths" 28 0 1 := ⟨RX0, TX0, 5, tyX0, rfl, by decide, in_X0, ws_in 232 (by decide +kernel) (by decide +kernel), tyX0_ok, nmX0, rfl, rfl⟩
theorem fl_X11_225 : gFl "WaxCloth" 225 0 1 := ⟨RX0, TX0, 5, rfl, by decide, in_X0, ws_in 233 (by decide +kernel) (by decide +kernel)⟩
theorem fp_X11_225 : gFp "WaxCloth" 225 0 1 := ⟨RX0, TX0, 5, tyX0, rfl, by decide, in_X0, ws_in 233 (by decide +kernel) (by decide +kernel), tyX0_ok, nmX0, rfl, rfl⟩
theorem fl_X0_9 : gFl "WaxCloth$Baths" 9 0 2 := ⟨RX0, TX0, 5, rfl, by decide, in_X0, ws_in 234 (by decide +kernel) (by decide +kernel)⟩
theorem fl_X11_222 : gFl "WaxCloth" 222 0 2 := ⟨RX0, TX0, 5, rfl, by decide, in_X0, ws_in 235 (by decide +kernel) (by decide +kernel)⟩
theorem fl_X0_15 : gFl "WaxCloth$Baths" 15 0 3 := ⟨RX0, TX0, 5, rfl, by decide, in_X0, ws_in 236 (by decide +kernel) (by decide +kernel)⟩
theorem fl_X0_20 : gFl "WaxCloth$Baths" 20 0 4 := ⟨RX0, TX0, 5, rfl, by decide, in_X0, ws_in 237 (by decide +kernel) (by decide +kernel)⟩
theorem fl_X1_47 : gFl "WaxCloth$Chances" 47 1 0 := ⟨RX1, TX1, 6, rfl, by decide, in_X1, ws_in 255 (by decide +kernel) (by decide +kernel)⟩
theorem fp_X1_47 : gFp "WaxCloth$Chances" 47 1 0 := ⟨RX1, TX1, 6, tyX1, rfl, by decide, in_X1, ws_in 255 (by decide +kernel) (by decide +kernel), tyX1_ok, nmX1, rfl, rfl⟩
theorem fl_X11_231 : gFl "WaxCloth" 231 1 0 := ⟨RX1, TX1, 6, rfl, by decide, in_X1, ws_in 256 (by decide +kernel) (by decide +kernel)⟩
theorem fp_X11_231 : gFp "WaxCloth" 231 1 0 := ⟨RX1, TX1, 6, tyX1, rfl, by decide, in_X1, ws_in 256 (by decide +kernel) (by decide +kernel), tyX1_ok, nmX1, rfl, rfl⟩
theorem fl_X1_50 : gFl "WaxCloth$Chances" 50 1 1 := ⟨RX1, TX1, 6, rfl, by decide, in_X1, ws_in 257 (by decide +kernel) (by decide +kernel)⟩
theorem fp_X1_50 : gFp "WaxCloth$Chances" 50 1 1 := ⟨RX1, TX1, 6, tyX1, rfl, by decide, in_X1, ws_in 257 (by decide +kernel) (by decide +kernel), tyX1_ok, nmX1, rfl, rfl⟩
theorem fl_X11_234 : gFl "WaxCloth" 234 1 1 := ⟨RX1, TX1, 6, rfl, by decide, in_X1, ws_in 258 (by decide +kernel) (by decide +kernel)⟩
theorem fp_X11_234 : gFp "WaxCloth" 234 1 1 := ⟨RX1, TX1, 6, tyX1, rfl, by decide, in_X1, ws_in 258 (by decide +kernel) (by decide +kernel), tyX1_ok, nmX1, rfl, rfl⟩
theorem fl_X1_86 : gFl "WaxCloth$Chances" 86 1 2 := ⟨RX1, TX1, 6, rfl, by decide, in_X1, ws_in 259 (by decide +kernel) (by decide +kernel)⟩
theorem fp_X1_86 : gFp "WaxCloth$Chances" 86 1 2 := ⟨RX1, TX1, 6, tyX1, rfl, by decide, in_X1, ws_in 259 (by decide +kernel) (by decide +kernel), tyX1_ok, nmX1, rfl, rfl⟩
theorem fl_X11_242 : gFl "WaxCloth" 242 1 2 := ⟨RX1, TX1, 6, rfl, by decide, in_X1, ws_in 260 (by decide +kernel) (by decide +kernel)⟩
theorem fp_X11_242 : gFp "WaxCloth" 242 1 2 := ⟨RX1, TX1, 6, tyX1, rfl, by decide, in_X1, ws_in 260 (by decide +kernel) (by decide +kernel), tyX1_ok, nmX1, rfl, rfl⟩
theorem fl_X1_59 : gFl "WaxCloth$Chances" 59 1 3 := ⟨RX1, TX1, 6, rfl, by decide, in_X1, ws_in 261 (by decide +kernel) (by decide +kernel)⟩
theorem fp_X1_59 : gFp "WaxCloth$Chances" 59 1 3 := ⟨RX1, TX1, 6, tyX1, rfl, by decide, in_X1, ws_in 261 (by decide +kernel) (by decide +kernel), tyX1_ok, nmX1, rfl, rfl⟩
theorem fl_X11_245 : gFl "WaxCloth" 245 1 3 := ⟨RX1, TX1, 6, rfl, by decide, in_X1, ws_in 262 (by decide +kernel) (by decide +kernel)⟩
theorem fp_X11_245 : gFp "WaxCloth" 245 1 3 := ⟨RX1, TX1, 6, tyX1, rfl, by decide, in_X1, ws_in 262 (by decide +kernel) (by decide +kernel), tyX1_ok, nmX1, rfl, rfl⟩
theorem fl_X1_11 : gFl "WaxCloth$Chances" 11 1 4 := ⟨RX1, TX1, 6, rfl, by decide, in_X1, ws_in 263 (by decide +kernel) (by decide +kernel)⟩
theorem fl_X1_17 : gFl "WaxCloth$Chances" 17 1 5 := ⟨RX1, TX1, 6, rfl, by decide, in_X1, ws_in 264 (by decide +kernel) (by decide +kernel)⟩
theorem fl_X7_7 : gFl "WaxCloth$Rounds" 7 6 0 := ⟨RX7, TX7, 2, rfl, by decide, in_X7, ws_in 284 (by decide +kernel) (by decide +kernel)⟩
theorem fp_X7_7 : gFp "WaxCloth$Rounds" 7 6 0 := ⟨RX7, TX7, 2, tyX7, rfl, by decide, in_X7, ws_in 284 (by decide +kernel) (by decide +kernel), tyX7_ok, nmX7, rfl, rfl⟩
theorem fl_X11_300 : gFl "WaxCloth" 300 6 0 := ⟨RX7, TX7, 2, rfl, by decide, in_X7, ws_in 285 (by decide +kernel) (by decide +kernel)⟩
theorem fp_X11_300 : gFp "WaxCloth" 300 6 0 := ⟨RX7, TX7, 2, tyX7, rfl, by decide, in_X7, ws_in 285 (by decide +kernel) (by decide +kernel), tyX7_ok, nmX7, rfl, rfl⟩
theorem fl_X7_13 : gFl "WaxCloth$Rounds" 13 6 1 := ⟨RX7, TX7, 2, rfl, by decide, in_X7, ws_in 286 (by decide +kernel) (by decide +kernel)⟩
theorem fp_X7_13 : gFp "WaxCloth$Rounds" 13 6 1 := ⟨RX7, TX7, 2, tyX7, rfl, by decide, in_X7, ws_in 286 (by decide +kernel) (by decide +kernel), tyX7_ok, nmX7, rfl, rfl⟩
theorem fl_X11_303 : gFl "WaxCloth" 303 6 1 := ⟨RX7, TX7, 2, rfl, by decide, in_X7, ws_in 287 (by decide +kernel) (by decide +kernel)⟩
theorem fp_X11_303 : gFp "WaxCloth" 303 6 1 := ⟨RX7, TX7, 2, tyX7, rfl, by decide, in_X7, ws_in 287 (by decide +kernel) (by decide +kernel), tyX7_ok, nmX7, rfl, rfl⟩
theorem fl_X11_10 : gFl "WaxCloth" 10 9 0 := ⟨RX11, TX11, 11, rfl, by decide, in_X11, ws_in 293 (by decide +kernel) (by decide +kernel)⟩
theorem fl_X11_21 : gFl "WaxCloth" 21 9 1 := ⟨RX11, TX11, 11, rfl, by decide, in_X11, ws_in 294 (by decide +kernel) (by decide +kernel)⟩
theorem fl_X11_28 : gFl "WaxCloth" 28 9 2 := ⟨RX11, TX11, 11, rfl, by decide, in_X11, ws_in 295 (by decide +kernel) (by decide +kernel)⟩
theorem fl_X11_35 : gFl "WaxCloth" 35 9 3 := ⟨RX11, TX11, 11, rfl, by decide, in_X11, ws_in 296 (by decide +kernel) (by decide +kernel)⟩
theorem fl_X11_39 : gFl "WaxCloth" 39 9 4 := ⟨RX11, TX11, 11, rfl, by decide, in_X11, ws_in 297 (by decide +kernel) (by decide +kernel)⟩
theorem fl_X11_45 : gFl "WaxCloth" 45 9 5 := ⟨RX11, TX11, 11, rfl, by decide, in_X11, ws_in 298 (by decide +kernel) (by decide +kernel)⟩
theorem fl_X11_53 : gFl "WaxCloth" 53 9 6 := ⟨RX11, TX11, 11, rfl, by decide, in_X11, ws_in 299 (by decide +kernel) (by decide +kernel)⟩
theorem fl_X11_60 : gFl "WaxCloth" 60 9 7 := ⟨RX11, TX11, 11, rfl, by decide, in_X11, ws_in 300 (by decide +kernel) (by decide +kernel)⟩
theorem fl_X11_67 : gFl "WaxCloth" 67 9 8 := ⟨RX11, TX11, 11, rfl, by decide, in_X11, ws_in 301 (by decide +kernel) (by decide +kernel)⟩
theorem fl_X11_74 : gFl "WaxCloth" 74 9 9 := ⟨RX11, TX11, 11, rfl, by decide, in_X11, ws_in 302 (by decide +kernel) (by decide +kernel)⟩
theorem fl_X11_78 : gFl "WaxCloth" 78 9 10 := ⟨RX11, TX11, 11, rfl, by decide, in_X11, ws_in 303 (by decide +kernel) (by decide +kernel)⟩
theorem ml_L_13 : Cond.methodLink "WaxClothLaw" 13 yX11_feed ∈ WS := ws_in 327 (by decide +kernel) (by decide +kernel)
theorem vy_X11_feed : gV yX11_feed cX11_feed 2 (some .int) 1 9 := ⟨⟨TX11, 11, rfl⟩, ws_in 330 (by decide +kernel) (by decide +kernel), ws_in 328 (by decide +kernel) (by decide +kernel), ws_in 329 (by decide +kernel) (by decide +kernel), ws_in 43 (by decide +kernel) (by decide +kernel), ⟨by decide, by decide, by decide +kernel⟩, by decide⟩
theorem ml_X11_82 : Cond.methodLink "WaxCloth" 82 yX10_put ∈ WS := ws_in 331 (by decide +kernel) (by decide +kernel)
theorem vy_X10_put : gV yX10_put cX10_put 2 (some .boolean) 1 8 := ⟨⟨TX10, 2, rfl⟩, ws_in 334 (by decide +kernel) (by decide +kernel), ws_in 332 (by decide +kernel) (by decide +kernel), ws_in 333 (by decide +kernel) (by decide +kernel), ws_in 44 (by decide +kernel) (by decide +kernel), ⟨by decide, by decide, by decide +kernel⟩, by decide⟩
theorem ml_L_18 : Cond.methodLink "WaxClothLaw" 18 yX11_cloth ∈ WS := ws_in 335 (by decide +kernel) (by decide +kernel)
theorem vy_X11_cloth : gV yX11_cloth cX11_cloth 2 (some .int) 0 9 := ⟨⟨TX11, 11, rfl⟩, ws_in 338 (by decide +kernel) (by decide +kernel), ws_in 336 (by decide +kernel) (by decide +kernel), ws_in 337 (by decide +kernel) (by decide +kernel), ws_in 43 (by decide +kernel) (by decide +kernel), ⟨by decide, by decide, by decide +kernel⟩, by decide⟩
theorem ml_X11_90 : Cond.methodLink "WaxCloth" 90 yX6_read ∈ WS := ws_in 339 (by decide +kernel) (by decide +kernel)
theorem vy_X6_read : gV yX6_read cX6_read 1 (some .boolean) 0 5 := ⟨⟨TX6, 3, rfl⟩, ws_in 342 (by decide +kernel) (by decide +kernel), ws_in 340 (by decide +kernel) (by decide +kernel), ws_in 341 (by decide +kernel) (by decide +kernel), ws_in 45 (by decide +kernel) (by decide +kernel), ⟨by decide, by decide, by decide +kernel⟩, by decide⟩
theorem ml_X6_24 : Cond.methodLink "WaxCloth$Reader" 24 yX6_sign ∈ WS := ws_in 343 (by decide +kernel) (by decide +kernel)
theorem vy_X6_sign : gV yX6_sign cX6_sign 2 (some .boolean) 1 5 := ⟨⟨TX6, 3, rfl⟩, ws_in 346 (by decide +kernel) (by decide +kernel), ws_in 345 (by decide +kernel) (by decide +kernel), ws_in 0 (by decide +kernel) (by decide +kernel), ws_in 45 (by decide +kernel) (by decide +kernel), ⟨by decide, by decide, by decide +kernel⟩, by decide⟩
theorem ml_X6_38 : Cond.methodLink "WaxCloth$Reader" 38 yX10_at ∈ WS := ws_in 347 (by decide +kernel) (by decide +kernel)
theorem vy_X10_at : gV yX10_at cX10_at 2 (some .int) 1 8 := ⟨⟨TX10, 2, rfl⟩, ws_in 350 (by decide +kernel) (by decide +kernel), ws_in 348 (by decide +kernel) (by decide +kernel), ws_in 349 (by decide +kernel) (by decide +kernel), ws_in 44 (by decide +kernel) (by decide +kernel), ⟨by decide, by decide, by decide +kernel⟩, by decide⟩
theorem ml_X6_28 : Cond.methodLink "WaxCloth$Reader" 28 yX6_readSquares ∈ WS := ws_in 351 (by decide +kernel) (by decide +kernel)
theorem vy_X6_readSquares : gV yX6_readSquares cX6_readSquares 2 (some .boolean) 0 5 := ⟨⟨TX6, 3, rfl⟩, ws_in 354 (by decide +kernel) (by decide +kernel), ws_in 353 (by decide +kernel) (by decide +kernel), ws_in 1 (by decide +kernel) (by decide +kernel), ws_in 45 (by decide +kernel) (by decide +kernel), ⟨by decide, by decide, by decide +kernel⟩, by decide⟩
theorem ml_X6_44 : Cond.methodLink "WaxCloth$Reader" 44 yX6_readSquare ∈ WS := ws_in 355 (by decide +kernel) (by decide +kernel)
theorem vy_X6_readSquare : gV yX6_readSquare cX6_readSquare 4 (some .boolean) 1 5 := ⟨⟨TX6, 3, rfl⟩, ws_in 358 (by decide +kernel) (by decide +kernel), ws_in 357 (by decide +kernel) (by decide +kernel), ws_in 2 (by decide +kernel) (by decide +kernel), ws_in 45 (by decide +kernel) (by decide +kernel), ⟨by decide, by decide, by decide +kernel⟩, by decide⟩
theorem ml_X6_50 : Cond.methodLink "WaxCloth$Reader" 50 yX3_ofLetter ∈ WS := ws_in 359 (by decide +kernel) (by decide +kernel)
theorem vy_X3_ofLetter : gT yX3_ofLetter cX3_ofLetter 1 (some .int) 1 := ⟨ws_in 361 (by decide +kernel) (by decide +kernel), ws_in 360 (by decide +kernel) (by decide +kernel), ws_in 54 (by decide +kernel) (by decide +kernel), ⟨by decide, by decide, by decide +kernel⟩, by decide⟩
theorem ml_X6_57 : Cond.methodLink "WaxCloth$Reader" 57 yX6_figure ∈ WS := ws_in 362 (by decide +kernel) (by decide +kernel)
theorem vy_X6_figure : gV yX6_figure cX6_figure 4 (some .int) 2 5 := ⟨⟨TX6, 3, rfl⟩, ws_in 365 (by decide +kernel) (by decide +kernel), ws_in 364 (by decide +kernel) (by decide +kernel), ws_in 3 (by decide +kernel) (by decide +kernel), ws_in 45 (by decide +kernel) (by decide +kernel), ⟨by decide, by decide, by decide +kernel⟩, by decide⟩
theorem ml_X6_32 : Cond.methodLink "WaxCloth$Reader" 32 yX6_readDyes ∈ WS := ws_in 366 (by decide +kernel) (by decide +kernel)
theorem vy_X6_readDyes : gV yX6_readDyes cX6_readDyes 2 (some .boolean) 0 5 := ⟨⟨TX6, 3, rfl⟩, ws_in 369 (by decide +kernel) (by decide +kernel), ws_in 368 (by decide +kernel) (by decide +kernel), ws_in 4 (by decide +kernel) (by decide +kernel), ws_in 45 (by decide +kernel) (by decide +kernel), ⟨by decide, by decide, by decide +kernel⟩, by decide⟩
theorem ml_X6_68 : Cond.methodLink "WaxCloth$Reader" 68 yX6_readDye ∈ WS := ws_in 370 (by decide +kernel) (by decide +kernel)
theorem vy_X6_readDye : gV yX6_readDye cX6_readDye 4 (some .boolean) 1 5 := ⟨⟨TX6, 3, rfl⟩, ws_in 373 (by decide +kernel) (by decide +kernel), ws_in 372 (by decide +kernel) (by decide +kernel), ws_in 5 (by decide +kernel) (by decide +kernel), ws_in 45 (by decide +kernel) (by decide +kernel), ⟨by decide, by decide, by decide +kernel⟩, by decide⟩
theorem ml_X6_35 : Cond.methodLink "WaxCloth$Reader" 35 yX6_readStencils ∈ WS := ws_in 374 (by decide +kernel) (by decide +kernel)
theorem vy_X6_readStencils : gV yX6_readStencils cX6_readStencils 3 (some .boolean) 0 5 := ⟨⟨TX6, 3, rfl⟩, ws_in 377 (by decide +kernel) (by decide +kernel), ws_in 376 (by decide +kernel) (by decide +kernel), ws_in 6 (by decide +kernel) (by decide +kernel), ws_in 45 (by decide +kernel) (by decide +kernel), ⟨by decide, by decide, by decide +kernel⟩, by decide⟩
theorem ml_X6_77 : Cond.methodLink "WaxCloth$Reader" 77 yX6_readStencil ∈ WS := ws_in 378 (by decide +kernel) (by decide +kernel)
theorem vy_X6_readStencil : gV yX6_readStencil cX6_readStencil 5 (some .int) 0 5 := ⟨⟨TX6, 3, rfl⟩, ws_in 381 (by decide +kernel) (by decide +kernel), ws_in 380 (by decide +kernel) (by decide +kernel), ws_in 7 (by decide +kernel) (by decide +kernel), ws_in 45 (by decide +kernel) (by decide +kernel), ⟨by decide, by decide, by decide +kernel⟩, by decide⟩
theorem ml_X11_100 : Cond.methodLink "WaxCloth" 100 yX2_become ∈ WS := ws_in 382 (by decide +kernel) (by decide +kernel)
theorem vy_X2_become : gV yX2_become cX2_become 2 none 1 2 := ⟨⟨TX2, 9, rfl⟩, ws_in 385 (by decide +kernel) (by decide +kernel), ws_in 383 (by decide +kernel) (by decide +kernel), ws_in 384 (by decide +kernel) (by decide +kernel), ws_in 46 (by decide +kernel) (by decide +kernel), ⟨by decide, by decide, by decide +kernel⟩, by decide⟩
theorem ml_X2_40 : Cond.methodLink "WaxCloth$Cloth" 40 arraycopyName ∈ WS := ws_in 386 (by decide +kernel) (by decide +kernel)
theorem ml_X11_104 : Cond.methodLink "WaxCloth" 104 yX4_forget ∈ WS := ws_in 389 (by decide +kernel) (by decide +kernel)
theorem vy_X4_forget : gV yX4_forget cX4_forget 1 none 0 3 := ⟨⟨TX4, 3, rfl⟩, ws_in 392 (by decide +kernel) (by decide +kernel), ws_in 390 (by decide +kernel) (by decide +kernel), ws_in 391 (by decide +kernel) (by decide +kernel), ws_in 47 (by decide +kernel) (by decide +kernel), ⟨by decide, by decide, by decide +kernel⟩, by decide⟩
theorem ml_L_23 : Cond.methodLink "WaxClothLaw" 23 yX11_square ∈ WS := ws_in 393 (by decide +kernel) (by decide +kernel)
theorem vy_X11_square : gV yX11_square cX11_square 4 (some .int) 2 9 := ⟨⟨TX11, 11, rfl⟩, ws_in 396 (by decide +kernel) (by decide +kernel), ws_in 394 (by decide +kernel) (by decide +kernel), ws_in 395 (by decide +kernel) (by decide +kernel), ws_in 43 (by decide +kernel) (by decide +kernel), ⟨by decide, by decide, by decide +kernel⟩, by decide⟩
theorem ml_X11_110 : Cond.methodLink "WaxCloth" 110 yX2_hasSquare ∈ WS := ws_in 397 (by decide +kernel) (by decide +kernel)
theorem vy_X2_hasSquare : gV yX2_hasSquare cX2_hasSquare 2 (some .boolean) 1 2 := ⟨⟨TX2, 9, rfl⟩, ws_in 400 (by decide +kernel) (by decide +kernel), ws_in 398 (by decide +kernel) (by decide +kernel), ws_in 399 (by decide +kernel) (by decide +kernel), ws_in 46 (by decide +kernel) (by decide +kernel), ⟨by decide, by decide, by decide +kernel⟩, by decide⟩
theorem ml_X11_122 : Cond.methodLink "WaxCloth" 122 yX9_waxIn ∈ WS := ws_in 401 (by decide +kernel) (by decide +kernel)
theorem vy_X9_waxIn : gT yX9_waxIn cX9_waxIn 1 (some .int) 1 := ⟨ws_in 403 (by decide +kernel) (by decide +kernel), ws_in 402 (by decide +kernel) (by decide +kernel), ws_in 56 (by decide +kernel) (by decide +kernel), ⟨by decide, by decide, by decide +kernel⟩, by decide⟩
theorem ml_X11_128 : Cond.methodLink "WaxCloth" 128 yX9_hueOf ∈ WS := ws_in 404 (by decide +kernel) (by decide +kernel)
theorem vy_X9_hueOf : gT yX9_hueOf cX9_hueOf 5 (some .int) 1 := ⟨ws_in 406 (by decide +kernel) (by decide +kernel), ws_in 405 (by decide +kernel) (by decide +kernel), ws_in 56 (by decide +kernel) (by decide +kernel), ⟨by decide, by decide, by decide +kernel⟩, by decide⟩
theorem ml_X9_9 : Cond.methodLink "WaxCloth$State" 9 yX9_amountOf ∈ WS := ws_in 407 (by decide +kernel) (by decide +kernel)
theorem vy_X9_amountOf : gT yX9_amountOf cX9_amountOf 2 (some .int) 2 := ⟨ws_in 409 (by decide +kernel) (by decide +kernel), ws_in 408 (by decide +kernel) (by decide +kernel), ws_in 56 (by decide +kernel) (by decide +kernel), ⟨by decide, by decide, by decide +kernel⟩, by decide⟩
theorem ml_X9_13 : Cond.methodLink "WaxCloth$State" 13 Lib.Math.max.name ∈ WS := ws_in 410 (by decide +kernel) (by decide +kernel)
theorem ml_X11_131 : Cond.methodLink "WaxCloth" 131 yX9_darkness ∈ WS := ws_in 413 (by decide +kernel) (by decide +kernel)
theorem vy_X9_darkness : gT yX9_darkness cX9_darkness 1 (some .int) 1 := ⟨ws_in 415 (by decide +kernel) (by decide +kernel), ws_in 414 (by decide +kernel) (by decide +kernel), ws_in 56 (by decide +kernel) (by decide +kernel), ⟨by decide, by decide, by decide +kernel⟩, by decide⟩
theorem ml_X11_134 : Cond.methodLink "WaxCloth" 134 yX2_isRight ∈ WS := ws_in 416 (by decide +kernel) (by decide +kernel)
theorem vy_X2_isRight : gV yX2_isRight cX2_isRight 3 (some .boolean) 2 2 := ⟨⟨TX2, 9, rfl⟩, ws_in 419 (by decide +kernel) (by decide +kernel), ws_in 417 (by decide +kernel) (by decide +kernel), ws_in 418 (by decide +kernel) (by decide +kernel), ws_in 46 (by decide +kernel) (by decide +kernel), ⟨by decide, by decide, by decide +kernel⟩, by decide⟩
theorem ml_X2_106 : Cond.methodLink "WaxCloth$Cloth" 106 yX9_hueOf ∈ WS := ws_in 420 (by decide +kernel) (by decide +kernel)
theorem ml_X11_138 : Cond.methodLink "WaxCloth" 138 yX9_amountOf ∈ WS := ws_in 421 (by decide +kernel) (by decide +kernel)
theorem ml_L_28 : Cond.methodLink "WaxClothLaw" 28 yX11_as ∈ WS := ws_in 422 (by decide +kernel) (by decide +kernel)
theorem vy_X11_as : gV yX11_as cX11_as 3 (some .int) 2 9 := ⟨⟨TX11, 11, rfl⟩, ws_in 425 (by decide +kernel) (by decide +kernel), ws_in 423 (by decide +kernel) (by decide +kernel), ws_in 424 (by decide +kernel) (by decide +kernel), ws_in 43 (by decide +kernel) (by decide +kernel), ⟨by decide, by decide, by decide +kernel⟩, by decide⟩
theorem ml_X11_144 : Cond.methodLink "WaxCloth" 144 yX3_isUnder ∈ WS := ws_in 426 (by decide +kernel) (by decide +kernel)
theorem vy_X3_isUnder : gT yX3_isUnder cX3_isUnder 4 (some .boolean) 2 := ⟨ws_in 428 (by decide +kernel) (by decide +kernel), ws_in 427 (by decide +kernel) (by decide +kernel), ws_in 54 (by decide +kernel) (by decide +kernel), ⟨by decide, by decide, by decide +kernel⟩, by decide⟩
theorem ml_L_32 : Cond.methodLink "WaxClothLaw" 32 yX11_dye ∈ WS := ws_in 431 (by decide +kernel) (by decide +kernel)
theorem vy_X11_dye : gV yX11_dye cX11_dye 3 (some .int) 2 9 := ⟨⟨TX11, 11, rfl⟩, ws_in 434 (by decide +kernel) (by decide +kernel), ws_in 432 (by decide +kernel) (by decide +kernel), ws_in 433 (by decide +kernel) (by decide +kernel), ws_in 43 (by decide +kernel) (by decide +kernel), ⟨by decide, by decide, by decide +kernel⟩, by decide⟩
theorem ml_X11_147 : Cond.methodLink "WaxCloth" 147 yX2_hasDye ∈ WS := ws_in 435 (by decide +kernel) (by decide +kernel)
theorem vy_X2_hasDye : gV yX2_hasDye cX2_hasDye 2 (some .boolean) 1 2 := ⟨⟨TX2, 9, rfl⟩, ws_in 438 (by decide +kernel) (by decide +kernel), ws_in 436 (by decide +kernel) (by decide +kernel), ws_in 437 (by decide +kernel) (by decide +kernel), ws_in 46 (by decide +kernel) (by decide +kernel), ⟨by decide, by decide, by decide +kernel⟩, by decide⟩
theorem ml_X11_150 : Cond.methodLink "WaxCloth" 150 yX9_isColour ∈ WS := ws_in 439 (by decide +kernel) (by decide +kernel)
theorem vy_X9_isColour : gT yX9_isColour cX9_isColour 1 (some .boolean) 1 := ⟨ws_in 441 (by decide +kernel) (by decide +kernel), ws_in 440 (by decide +kernel) (by decide +kernel), ws_in 56 (by decide +kernel) (by decide +kernel), ⟨by decide, by decide, by decide +kernel⟩, by decide⟩
theorem ml_X11_153 : Cond.methodLink "WaxCloth" 153 yX2_amountInDye ∈ WS := ws_in 442 (by decide +kernel) (by decide +kernel)
theorem vy_X2_amountInDye : gV yX2_amountInDye cX2_amountInDye 3 (some .int) 2 2 := ⟨⟨TX2, 9, rfl⟩, ws_in 445 (by decide +kernel) (by decide +kernel), ws_in 443 (by decide +kernel) (by decide +kernel), ws_in 444 (by decide +kernel) (by decide +kernel), ws_in 46 (by decide +kernel) (by decide +kernel), ⟨by decide, by decide, by decide +kernel⟩, by decide⟩
theorem ml_L_36 : Cond.methodLink "WaxClothLaw" 36 yX11_stencil ∈ WS := ws_in 446 (by decide +kernel) (by decide +kernel)
theorem vy_X11_stencil : gV yX11_stencil cX11_stencil 2 (some .int) 1 9 := ⟨⟨TX11, 11, rfl⟩, ws_in 449 (by decide +kernel) (by decide +kernel), ws_in 447 (by decide +kernel) (by decide +kernel), ws_in 448 (by decide +kernel) (by decide +kernel), ws_in 43 (by decide +kernel) (by decide +kernel), ⟨by decide, by decide, by decide +kernel⟩, by decide⟩
theorem ml_X11_156 : Cond.methodLink "WaxCloth" 156 yX2_hasStencil ∈ WS := ws_in 450 (by decide +kernel) (by decide +kernel)
theorem vy_X2_hasStencil : gV yX2_hasStencil cX2_hasStencil 2 (some .boolean) 1 2 := ⟨⟨TX2, 9, rfl⟩, ws_in 453 (by decide +kernel) (by decide +kernel), ws_in 451 (by decide +kernel) (by decide +kernel), ws_in 452 (by decide +kernel) (by decide +kernel), ws_in 46 (by decide +kernel) (by decide +kernel), ⟨by decide, by decide, by decide +kernel⟩, by decide⟩
theorem ml_L_40 : Cond.methodLink "WaxClothLaw" 40 yX11_takes ∈ WS := ws_in 454 (by decide +kernel) (by decide +kernel)
theorem vy_X11_takes : gV yX11_takes cX11_takes 5 (some .int) 3 9 := ⟨⟨TX11, 11, rfl⟩, ws_in 457 (by decide +kernel) (by decide +kernel), ws_in 455 (by decide +kernel) (by decide +kernel), ws_in 456 (by decide +kernel) (by decide +kernel), ws_in 43 (by decide +kernel) (by decide +kernel), ⟨by decide, by decide, by decide +kernel⟩, by decide⟩
theorem ml_X11_162 : Cond.methodLink "WaxCloth" 162 yX2_gain ∈ WS := ws_in 458 (by decide +kernel) (by decide +kernel)
theorem vy_X2_gain : gV yX2_gain cX2_gain 7 (some .int) 4 2 := ⟨⟨TX2, 9, rfl⟩, ws_in 461 (by decide +kernel) (by decide +kernel), ws_in 459 (by decide +kernel) (by decide +kernel), ws_in 460 (by decide +kernel) (by decide +kernel), ws_in 46 (by decide +kernel) (by decide +kernel), ⟨by decide, by decide, by decide +kernel⟩, by decide⟩
theorem ml_X2_56 : Cond.methodLink "WaxCloth$Cloth" 56 yX9_amountOf ∈ WS := ws_in 462 (by decide +kernel) (by decide +kernel)
theorem ml_X2_60 : Cond.methodLink "WaxCloth$Cloth" 60 yX2_amountInDye ∈ WS := ws_in 463 (by decide +kernel) (by decide +kernel)
theorem ml_X2_63 : Cond.methodLink "WaxCloth$Cloth" 63 yX3_taken ∈ WS := ws_in 464 (by decide +kernel) (by decide +kernel)
theorem vy_X3_taken : gT yX3_taken cX3_taken 3 (some .int) 3 := ⟨ws_in 466 (by decide +kernel) (by decide +kernel), ws_in 465 (by decide +kernel) (by decide +kernel), ws_in 54 (by decide +kernel) (by decide +kernel), ⟨by decide, by decide, by decide +kernel⟩, by decide⟩
theorem ml_X2_69 : Cond.methodLink "WaxCloth$Cloth" 69 Lib.Math.min.name ∈ WS := ws_in 467 (by decide +kernel) (by decide +kernel)
theorem ml_L_45 : Cond.methodLink "WaxClothLaw" 45 yX11_does ∈ WS := ws_in 470 (by decide +kernel) (by decide +kernel)
theorem vy_X11_does : gV yX11_does cX11_does 2 (some .int) 1 9 := ⟨⟨TX11, 11, rfl⟩, ws_in 473 (by decide +kernel) (by decide +kernel), ws_in 471 (by decide +kernel) (by decide +kernel), ws_in 472 (by decide +kernel) (by decide +kernel), ws_in 43 (by decide +kernel) (by decide +kernel), ⟨by decide, by decide, by decide +kernel⟩, by decide⟩
theorem ml_X11_166 : Cond.methodLink "WaxCloth" 166 yX2_hasDoing ∈ WS := ws_in 474 (by decide +kernel) (by decide +kernel)
theorem vy_X2_hasDoing : gV yX2_hasDoing cX2_hasDoing 3 (some .boolean) 1 2 := ⟨⟨TX2, 9, rfl⟩, ws_in 477 (by decide +kernel) (by decide +kernel), ws_in 475 (by decide +kernel) (by decide +kernel), ws_in 476 (by decide +kernel) (by decide +kernel), ws_in 46 (by decide +kernel) (by decide +kernel), ⟨by decide, by decide, by decide +kernel⟩, by decide⟩
theorem ml_X2_46 : Cond.methodLink "WaxCloth$Cloth" 46 yX2_stands ∈ WS := ws_in 478 (by decide +kernel) (by decide +kernel)
theorem vy_X2_stands : gV yX2_stands cX2_stands 1 (some .boolean) 0 2 := ⟨⟨TX2, 9, rfl⟩, ws_in 481 (by decide +kernel) (by decide +kernel), ws_in 479 (by decide +kernel) (by decide +kernel), ws_in 480 (by decide +kernel) (by decide +kernel), ws_in 46 (by decide +kernel) (by decide +kernel), ⟨by decide, by decide, by decide +kernel⟩, by decide⟩
theorem kk_X2_50 : Cond.constantLong "WaxCloth$Cloth" 50 (21 : Int64) ∈ WS := ws_in 482 (by decide +kernel) (by decide +kernel)
theorem kk_X2_52 : Cond.constantLong "WaxCloth$Cloth" 52 (20 : Int64) ∈ WS := ws_in 483 (by decide +kernel) (by decide +kernel)
theorem kk_X2_54 : Cond.constantLong "WaxCloth$Cloth" 54 (10 : Int64) ∈ WS := ws_in 484 (by decide +kernel) (by decide +kernel)
theorem ml_X11_173 : Cond.methodLink "WaxCloth" 173 yX4_keep ∈ WS := ws_in 485 (by decide +kernel) (by decide +kernel)
theorem vy_X4_keep : gV yX4_keep cX4_keep 2 none 1 3 := ⟨⟨TX4, 3, rfl⟩, ws_in 488 (by decide +kernel) (by decide +kernel), ws_in 486 (by decide +kernel) (by decide +kernel), ws_in 487 (by decide +kernel) (by decide +kernel), ws_in 47 (by decide +kernel) (by decide +kernel), ⟨by decide, by decide, by decide +kernel⟩, by decide⟩
theorem ml_X4_23 : Cond.methodLink "WaxCloth$Past" 23 arraycopyName ∈ WS := ws_in 489 (by decide +kernel) (by decide +kernel)
theorem ml_X4_29 : Cond.methodLink "WaxCloth$Past" 29 Lib.Math.min.name ∈ WS := ws_in 490 (by decide +kernel) (by decide +kernel)
theorem ml_X11_177 : Cond.methodLink "WaxCloth" 177 yX2_apply ∈ WS := ws_in 491 (by decide +kernel) (by decide +kernel)
theorem vy_X2_apply : gV yX2_apply cX2_apply 7 (some .boolean) 3 2 := ⟨⟨TX2, 9, rfl⟩, ws_in 494 (by decide +kernel) (by decide +kernel), ws_in 492 (by decide +kernel) (by decide +kernel), ws_in 493 (by decide +kernel) (by decide +kernel), ws_in 46 (by decide +kernel) (by decide +kernel), ⟨by decide, by decide, by decide +kernel⟩, by decide⟩
theorem ml_X2_103 : Cond.methodLink "WaxCloth$Cloth" 103 yX2_after ∈ WS := ws_in 495 (by decide +kernel) (by decide +kernel)
theorem vy_X2_after : gV yX2_after cX2_after 5 (some .int) 3 2 := ⟨⟨TX2, 9, rfl⟩, ws_in 498 (by decide +kernel) (by decide +kernel), ws_in 496 (by decide +kernel) (by decide +kernel), ws_in 497 (by decide +kernel) (by decide +kernel), ws_in 46 (by decide +kernel) (by decide +kernel), ⟨by decide, by decide, by decide +kernel⟩, by decide⟩
theorem ml_X2_74 : Cond.methodLink "WaxCloth$Cloth" 74 yX9_waxIn ∈ WS := ws_in 499 (by decide +kernel) (by decide +kernel)
theorem ml_X2_78 : Cond.methodLink "WaxCloth$Cloth" 78 yX2_dyed ∈ WS := ws_in 500 (by decide +kernel) (by decide +kernel)
theorem vy_X2_dyed : gV yX2_dyed cX2_dyed 6 (some .int) 3 2 := ⟨⟨TX2, 9, rfl⟩, ws_in 503 (by decide +kernel) (by decide +kernel), ws_in 501 (by decide +kernel) (by decide +kernel), ws_in 502 (by decide +kernel) (by decide +kernel), ws_in 46 (by decide +kernel) (by decide +kernel), ⟨by decide, by decide, by decide +kernel⟩, by decide⟩
theorem ml_X2_90 : Cond.methodLink "WaxCloth$Cloth" 90 yX2_gain ∈ WS := ws_in 504 (by decide +kernel) (by decide +kernel)
theorem ml_X2_94 : Cond.methodLink "WaxCloth$Cloth" 94 yX9_withMore ∈ WS := ws_in 505 (by decide +kernel) (by decide +kernel)
theorem vy_X9_withMore : gT yX9_withMore cX9_withMore 3 (some .int) 3 := ⟨ws_in 507 (by decide +kernel) (by decide +kernel), ws_in 506 (by decide +kernel) (by decide +kernel), ws_in 56 (by decide +kernel) (by decide +kernel), ⟨by decide, by decide, by decide +kernel⟩, by decide⟩
theorem ml_X2_81 : Cond.methodLink "WaxCloth$Cloth" 81 yX2_cracked ∈ WS := ws_in 508 (by decide +kernel) (by decide +kernel)
theorem vy_X2_cracked : gV yX2_cracked cX2_cracked 3 (some .int) 2 2 := ⟨⟨TX2, 9, rfl⟩, ws_in 511 (by decide +kernel) (by decide +kernel), ws_in 510 (by decide +kernel) (by decide +kernel), ws_in 8 (by decide +kernel) (by decide +kernel), ws_in 46 (by decide +kernel) (by decide +kernel), ⟨by decide, by decide, by decide +kernel⟩, by decide⟩
theorem ml_X2_97 : Cond.methodLink "WaxCloth$Cloth" 97 yX3_layersCracked ∈ WS := ws_in 512 (by decide +kernel) (by decide +kernel)
theorem vy_X3_layersCracked : gT yX3_layersCracked cX3_layersCracked 1 (some .int) 1 := ⟨ws_in 514 (by decide +kernel) (by decide +kernel), ws_in 513 (by decide +kernel) (by decide +kernel), ws_in 54 (by decide +kernel) (by decide +kernel), ⟨by decide, by decide, by decide +kernel⟩, by decide⟩
theorem ml_X2_100 : Cond.methodLink "WaxCloth$Cloth" 100 Lib.Math.max.name ∈ WS := ws_in 515 (by decide +kernel) (by decide +kernel)
theorem ml_X2_84 : Cond.methodLink "WaxCloth$Cloth" 84 yX9_withWax ∈ WS := ws_in 516 (by decide +kernel) (by decide +kernel)
theorem vy_X9_withWax : gT yX9_withWax cX9_withWax 2 (some .int) 2 := ⟨ws_in 518 (by decide +kernel) (by decide +kernel), ws_in 517 (by decide +kernel) (by decide +kernel), ws_in 56 (by decide +kernel) (by decide +kernel), ⟨by decide, by decide, by decide +kernel⟩, by decide⟩
theorem ml_X2_87 : Cond.methodLink "WaxCloth$Cloth" 87 yX2_rinsed ∈ WS := ws_in 519 (by decide +kernel) (by decide +kernel)
theorem vy_X2_rinsed : gT yX2_rinsed cX2_rinsed 3 (some .int) 1 := ⟨ws_in 521 (by decide +kernel) (by decide +kernel), ws_in 520 (by decide +kernel) (by decide +kernel), ws_in 46 (by decide +kernel) (by decide +kernel), ⟨by decide, by decide, by decide +kernel⟩, by decide⟩
theorem ml_X11_181 : Cond.methodLink "WaxCloth" 181 yX2_rightSet ∈ WS := ws_in 522 (by decide +kernel) (by decide +kernel)
theorem vy_X2_rightSet : gV yX2_rightSet cX2_rightSet 4 (some .int) 1 2 := ⟨⟨TX2, 9, rfl⟩, ws_in 525 (by decide +kernel) (by decide +kernel), ws_in 523 (by decide +kernel) (by decide +kernel), ws_in 524 (by decide +kernel) (by decide +kernel), ws_in 46 (by decide +kernel) (by decide +kernel), ⟨by decide, by decide, by decide +kernel⟩, by decide⟩
theorem ml_X2_109 : Cond.methodLink "WaxCloth$Cloth" 109 yX2_isRight ∈ WS := ws_in 526 (by decide +kernel) (by decide +kernel)
theorem ml_L_49 : Cond.methodLink "WaxClothLaw" 49 yX11_undo ∈ WS := ws_in 527 (by decide +kernel) (by decide +kernel)
theorem vy_X11_undo : gV yX11_undo cX11_undo 1 (some .int) 0 9 := ⟨⟨TX11, 11, rfl⟩, ws_in 530 (by decide +kernel) (by decide +kernel), ws_in 528 (by decide +kernel) (by decide +kernel), ws_in 529 (by decide +kernel) (by decide +kernel), ws_in 43 (by decide +kernel) (by decide +kernel), ⟨by decide, by decide, by decide +kernel⟩, by decide⟩
theorem ml_X11_185 : Cond.methodLink "WaxCloth" 185 yX4_takeBack ∈ WS := ws_in 531 (by decide +kernel) (by decide +kernel)
theorem vy_X4_takeBack : gV yX4_takeBack cX4_takeBack 2 (some .boolean) 1 3 := ⟨⟨TX4, 3, rfl⟩, ws_in 534 (by decide +kernel) (by decide +kernel), ws_in 532 (by decide +kernel) (by decide +kernel), ws_in 533 (by decide +kernel) (by decide +kernel), ws_in 47 (by decide +kernel) (by decide +kernel), ⟨by decide, by decide, by decide +kernel⟩, by decide⟩
theorem ml_L_53 : Cond.methodLink "WaxClothLaw" 53 yX11_wish ∈ WS := ws_in 535 (by decide +kernel) (by decide +kernel)
theorem vy_X11_wish : gV yX11_wish cX11_wish 4 (some .int) 2 9 := ⟨⟨TX11, 11, rfl⟩, ws_in 538 (by decide +kernel) (by decide +kernel), ws_in 536 (by decide +kernel) (by decide +kernel), ws_in 537 (by decide +kernel) (by decide +kernel), ws_in 43 (by decide +kernel) (by decide +kernel), ⟨by decide, by decide, by decide +kernel⟩, by decide⟩
theorem ml_L_57 : Cond.methodLink "WaxClothLaw" 57 yX11_image ∈ WS := ws_in 539 (by decide +kernel) (by decide +kernel)
theorem vy_X11_image : gV yX11_image cX11_image 2 (some .int) 1 9 := ⟨⟨TX11, 11, rfl⟩, ws_in 542 (by decide +kernel) (by decide +kernel), ws_in 540 (by decide +kernel) (by decide +kernel), ws_in 541 (by decide +kernel) (by decide +kernel), ws_in 43 (by decide +kernel) (by decide +kernel), ⟨by decide, by decide, by decide +kernel⟩, by decide⟩
theorem ml_X11_192 : Cond.methodLink "WaxCloth" 192 yX2_stands ∈ WS := ws_in 543 (by decide +kernel) (by decide +kernel)
theorem ml_L_61 : Cond.methodLink "WaxClothLaw" 61 yX11_restore ∈ WS := ws_in 544 (by decide +kernel) (by decide +kernel)
theorem vy_X11_restore : gV yX11_restore cX11_restore 2 (some .int) 1 9 := ⟨⟨TX11, 11, rfl⟩, ws_in 547 (by decide +kernel) (by decide +kernel), ws_in 545 (by decide +kernel) (by decide +kernel), ws_in 546 (by decide +kernel) (by decide +kernel), ws_in 43 (by decide +kernel) (by decide +kernel), ⟨by decide, by decide, by decide +kernel⟩, by decide⟩
theorem ml_L_65 : Cond.methodLink "WaxClothLaw" 65 yX11_plan ∈ WS := ws_in 548 (by decide +kernel) (by decide +kernel)
theorem vy_X11_plan : gV yX11_plan cX11_plan 3 (some .int) 2 9 := ⟨⟨TX11, 11, rfl⟩, ws_in 551 (by decide +kernel) (by decide +kernel), ws_in 549 (by decide +kernel) (by decide +kernel), ws_in 550 (by decide +kernel) (by decide +kernel), ws_in 43 (by decide +kernel) (by decide +kernel), ⟨by decide, by decide, by decide +kernel⟩, by decide⟩
theorem ml_X11_195 : Cond.methodLink "WaxCloth" 195 yX5_search ∈ WS := ws_in 552 (by decide +kernel) (by decide +kernel)
theorem vy_X5_search : gV yX5_search cX5_search 4 none 2 4 := ⟨⟨TX5, 5, rfl⟩, ws_in 555 (by decide +kernel) (by decide +kernel), ws_in 553 (by decide +kernel) (by decide +kernel), ws_in 554 (by decide +kernel) (by decide +kernel), ws_in 49 (by decide +kernel) (by decide +kernel), ⟨by decide, by decide, by decide +kernel⟩, by decide⟩
theorem ml_X5_28 : Cond.methodLink "WaxCloth$Planner" 28 arraycopyName ∈ WS := ws_in 556 (by decide +kernel) (by decide +kernel)
theorem ml_X5_34 : Cond.methodLink "WaxCloth$Planner" 34 yX2_rightCount ∈ WS := ws_in 557 (by decide +kernel) (by decide +kernel)
theorem vy_X2_rightCount : gV yX2_rightCount cX2_rightCount 2 (some .int) 1 2 := ⟨⟨TX2, 9, rfl⟩, ws_in 560 (by decide +kernel) (by decide +kernel), ws_in 558 (by decide +kernel) (by decide +kernel), ws_in 559 (by decide +kernel) (by decide +kernel), ws_in 46 (by decide +kernel) (by decide +kernel), ⟨by decide, by decide, by decide +kernel⟩, by decide⟩
theorem ml_X2_113 : Cond.methodLink "WaxCloth$Cloth" 113 yX2_rightSet ∈ WS := ws_in 561 (by decide +kernel) (by decide +kernel)
theorem ml_X2_117 : Cond.methodLink "WaxCloth$Cloth" 117 yJ6_bitCount_0f7a4 ∈ WS := ws_in 562 (by decide +kernel) (by decide +kernel)
theorem vy_J6_bitCount_0f7a4 : gT yJ6_bitCount_0f7a4 cJ6_bitCount_0f7a4 1 (some .int) 1 := ⟨ws_in 564 (by decide +kernel) (by decide +kernel), ws_in 563 (by decide +kernel) (by decide +kernel), ws_in 58 (by decide +kernel) (by decide +kernel), ⟨by decide, by decide, by decide +kernel⟩, by decide⟩
theorem kk_J6_265 : Cond.constant "java/lang/Integer" 265 (1431655765 : Int32) ∈ WS := ws_in 565 (by decide +kernel) (by decide +kernel)
theorem kk_J6_266 : Cond.constant "java/lang/Integer" 266 (858993459 : Int32) ∈ WS := ws_in 566 (by decide +kernel) (by decide +kernel)
theorem kk_J6_267 : Cond.constant "java/lang/Integer" 267 (252645135 : Int32) ∈ WS := ws_in 567 (by decide +kernel) (by decide +kernel)
theorem ml_X5_48 : Cond.methodLink "WaxCloth$Planner" 48 yX5_extend ∈ WS := ws_in 568 (by decide +kernel) (by decide +kernel)
theorem vy_X5_extend : gV yX5_extend cX5_extend 6 none 3 4 := ⟨⟨TX5, 5, rfl⟩, ws_in 571 (by decide +kernel) (by decide +kernel), ws_in 570 (by decide +kernel) (by decide +kernel), ws_in 9 (by decide +kernel) (by decide +kernel), ws_in 49 (by decide +kernel) (by decide +kernel), ⟨by decide, by decide, by decide +kernel⟩, by decide⟩
theorem ml_X5_52 : Cond.methodLink "WaxCloth$Planner" 52 yX2_doingCount ∈ WS := ws_in 572 (by decide +kernel) (by decide +kernel)
theorem vy_X2_doingCount : gV yX2_doingCount cX2_doingCount 1 (some .int) 0 2 := ⟨⟨TX2, 9, rfl⟩, ws_in 575 (by decide +kernel) (by decide +kernel), ws_in 573 (by decide +kernel) (by decide +kernel), ws_in 574 (by decide +kernel) (by decide +kernel), ws_in 46 (by decide +kernel) (by decide +kernel), ⟨by decide, by decide, by decide +kernel⟩, by decide⟩
theorem ml_X5_56 : Cond.methodLink "WaxCloth$Planner" 56 yX2_nthDoing ∈ WS := ws_in 576 (by decide +kernel) (by decide +kernel)
theorem vy_X2_nthDoing : gV yX2_nthDoing cX2_nthDoing 2 (some .int) 1 2 := ⟨⟨TX2, 9, rfl⟩, ws_in 579 (by decide +kernel) (by decide +kernel), ws_in 577 (by decide +kernel) (by decide +kernel), ws_in 578 (by decide +kernel) (by decide +kernel), ws_in 46 (by decide +kernel) (by decide +kernel), ⟨by decide, by decide, by decide +kernel⟩, by decide⟩
theorem ml_X5_60 : Cond.methodLink "WaxCloth$Planner" 60 yX5_isWaxOnly ∈ WS := ws_in 580 (by decide +kernel) (by decide +kernel)
theorem vy_X5_isWaxOnly : gT yX5_isWaxOnly cX5_isWaxOnly 1 (some .boolean) 1 := ⟨ws_in 582 (by decide +kernel) (by decide +kernel), ws_in 581 (by decide +kernel) (by decide +kernel), ws_in 49 (by decide +kernel) (by decide +kernel), ⟨by decide, by decide, by decide +kernel⟩, by decide⟩
theorem ml_X5_64 : Cond.methodLink "WaxCloth$Planner" 64 yX2_apply ∈ WS := ws_in 583 (by decide +kernel) (by decide +kernel)
theorem ml_X5_68 : Cond.methodLink "WaxCloth$Planner" 68 yX5_judge ∈ WS := ws_in 584 (by decide +kernel) (by decide +kernel)
theorem vy_X5_judge : gV yX5_judge cX5_judge 3 none 2 4 := ⟨⟨TX5, 5, rfl⟩, ws_in 587 (by decide +kernel) (by decide +kernel), ws_in 586 (by decide +kernel) (by decide +kernel), ws_in 10 (by decide +kernel) (by decide +kernel), ws_in 49 (by decide +kernel) (by decide +kernel), ⟨by decide, by decide, by decide +kernel⟩, by decide⟩
theorem ml_L_69 : Cond.methodLink "WaxClothLaw" 69 yX11_rows ∈ WS := ws_in 588 (by decide +kernel) (by decide +kernel)
theorem vy_X11_rows : gV yX11_rows cX11_rows 7 (some .int) 6 9 := ⟨⟨TX11, 11, rfl⟩, ws_in 591 (by decide +kernel) (by decide +kernel), ws_in 589 (by decide +kernel) (by decide +kernel), ws_in 590 (by decide +kernel) (by decide +kernel), ws_in 43 (by decide +kernel) (by decide +kernel), ⟨by decide, by decide, by decide +kernel⟩, by decide⟩
theorem ml_X11_208 : Cond.methodLink "WaxCloth" 208 yX9_isAmount ∈ WS := ws_in 592 (by decide +kernel) (by decide +kernel)
theorem vy_X9_isAmount : gT yX9_isAmount cX9_isAmount 1 (some .boolean) 1 := ⟨ws_in 594 (by decide +kernel) (by decide +kernel), ws_in 593 (by decide +kernel) (by decide +kernel), ws_in 56 (by decide +kernel) (by decide +kernel), ⟨by decide, by decide, by decide +kernel⟩, by decide⟩
theorem ml_X11_211 : Cond.methodLink "WaxCloth" 211 yX9_ofShade ∈ WS := ws_in 595 (by decide +kernel) (by decide +kernel)
theorem vy_X9_ofShade : gT yX9_ofShade cX9_ofShade 3 (some .int) 3 := ⟨ws_in 597 (by decide +kernel) (by decide +kernel), ws_in 596 (by decide +kernel) (by decide +kernel), ws_in 56 (by decide +kernel) (by decide +kernel), ⟨by decide, by decide, by decide +kernel⟩, by decide⟩
theorem ml_X11_215 : Cond.methodLink "WaxCloth" 215 yX0_walk ∈ WS := ws_in 598 (by decide +kernel) (by decide +kernel)
theorem vy_X0_walk : gV yX0_walk cX0_walk 6 none 4 0 := ⟨⟨TX0, 5, rfl⟩, ws_in 601 (by decide +kernel) (by decide +kernel), ws_in 599 (by decide +kernel) (by decide +kernel), ws_in 600 (by decide +kernel) (by decide +kernel), ws_in 50 (by decide +kernel) (by decide +kernel), ⟨by decide, by decide, by decide +kernel⟩, by decide⟩
theorem ml_X0_31 : Cond.methodLink "WaxCloth$Baths" 31 yX0_bathe ∈ WS := ws_in 602 (by decide +kernel) (by decide +kernel)
theorem vy_X0_bathe : gV yX0_bathe cX0_bathe 8 none 6 0 := ⟨⟨TX0, 5, rfl⟩, ws_in 605 (by decide +kernel) (by decide +kernel), ws_in 604 (by decide +kernel) (by decide +kernel), ws_in 11 (by decide +kernel) (by decide +kernel), ws_in 50 (by decide +kernel) (by decide +kernel), ⟨by decide, by decide, by decide +kernel⟩, by decide⟩
theorem ml_X0_35 : Cond.methodLink "WaxCloth$Baths" 35 yX0_note ∈ WS := ws_in 606 (by decide +kernel) (by decide +kernel)
theorem vy_X0_note : gV yX0_note cX0_note 7 none 3 0 := ⟨⟨TX0, 5, rfl⟩, ws_in 609 (by decide +kernel) (by decide +kernel), ws_in 608 (by decide +kernel) (by decide +kernel), ws_in 12 (by decide +kernel) (by decide +kernel), ws_in 50 (by decide +kernel) (by decide +kernel), ⟨by decide, by decide, by decide +kernel⟩, by decide⟩
theorem ml_X0_48 : Cond.methodLink "WaxCloth$Baths" 48 arraycopyName ∈ WS := ws_in 610 (by decide +kernel) (by decide +kernel)
theorem ml_X0_44 : Cond.methodLink "WaxCloth$Baths" 44 yX2_dyed ∈ WS := ws_in 611 (by decide +kernel) (by decide +kernel)
theorem ml_L_74 : Cond.methodLink "WaxClothLaw" 74 yX11_shades ∈ WS := ws_in 612 (by decide +kernel) (by decide +kernel)
theorem vy_X11_shades : gV yX11_shades cX11_shades 3 (some .int) 2 9 := ⟨⟨TX11, 11, rfl⟩, ws_in 615 (by decide +kernel) (by decide +kernel), ws_in 613 (by decide +kernel) (by decide +kernel), ws_in 614 (by decide +kernel) (by decide +kernel), ws_in 43 (by decide +kernel) (by decide +kernel), ⟨by decide, by decide, by decide +kernel⟩, by decide⟩
theorem ml_L_78 : Cond.methodLink "WaxClothLaw" 78 yX11_cracks ∈ WS := ws_in 616 (by decide +kernel) (by decide +kernel)
theorem vy_X11_cracks : gV yX11_cracks cX11_cracks 5 (some .int) 4 9 := ⟨⟨TX11, 11, rfl⟩, ws_in 619 (by decide +kernel) (by decide +kernel), ws_in 617 (by decide +kernel) (by decide +kernel), ws_in 618 (by decide +kernel) (by decide +kernel), ws_in 43 (by decide +kernel) (by decide +kernel), ⟨by decide, by decide, by decide +kernel⟩, by decide⟩
theorem ml_X11_228 : Cond.methodLink "WaxCloth" 228 yX1_crack ∈ WS := ws_in 620 (by decide +kernel) (by decide +kernel)
theorem vy_X1_crack : gV yX1_crack cX1_crack 13 none 4 1 := ⟨⟨TX1, 6, rfl⟩, ws_in 623 (by decide +kernel) (by decide +kernel), ws_in 621 (by decide +kernel) (by decide +kernel), ws_in 622 (by decide +kernel) (by decide +kernel), ws_in 51 (by decide +kernel) (by decide +kernel), ⟨by decide, by decide, by decide +kernel⟩, by decide⟩
theorem ml_X1_25 : Cond.methodLink "WaxCloth$Chances" 25 yX9_waxIn ∈ WS := ws_in 624 (by decide +kernel) (by decide +kernel)
theorem ml_X1_31 : Cond.methodLink "WaxCloth$Chances" 31 yX2_dyed ∈ WS := ws_in 625 (by decide +kernel) (by decide +kernel)
theorem ml_X1_35 : Cond.methodLink "WaxCloth$Chances" 35 yX2_isRight ∈ WS := ws_in 626 (by decide +kernel) (by decide +kernel)
theorem ml_X1_39 : Cond.methodLink "WaxCloth$Chances" 39 yX1_weigh ∈ WS := ws_in 627 (by decide +kernel) (by decide +kernel)
theorem vy_X1_weigh : gV yX1_weigh cX1_weigh 5 none 2 1 := ⟨⟨TX1, 6, rfl⟩, ws_in 630 (by decide +kernel) (by decide +kernel), ws_in 629 (by decide +kernel) (by decide +kernel), ws_in 13 (by decide +kernel) (by decide +kernel), ws_in 51 (by decide +kernel) (by decide +kernel), ⟨by decide, by decide, by decide +kernel⟩, by decide⟩
theorem ml_X1_43 : Cond.methodLink "WaxCloth$Chances" 43 yX1_greatestCommon ∈ WS := ws_in 631 (by decide +kernel) (by decide +kernel)
theorem vy_X1_greatestCommon : gT yX1_greatestCommon cX1_greatestCommon 6 (some .int) 2 := ⟨ws_in 633 (by decide +kernel) (by decide +kernel), ws_in 632 (by decide +kernel) (by decide +kernel), ws_in 51 (by decide +kernel) (by decide +kernel), ⟨by decide, by decide, by decide +kernel⟩, by decide⟩
theorem ml_X1_89 : Cond.methodLink "WaxCloth$Chances" 89 Lib.Math.max.name ∈ WS := ws_in 634 (by decide +kernel) (by decide +kernel)
theorem ml_L_83 : Cond.methodLink "WaxClothLaw" 83 yX11_decades ∈ WS := ws_in 635 (by decide +kernel) (by decide +kernel)
theorem vy_X11_decades : gV yX11_decades cX11_decades 4 (some .int) 3 9 := ⟨⟨TX11, 11, rfl⟩, ws_in 638 (by decide +kernel) (by decide +kernel), ws_in 636 (by decide +kernel) (by decide +kernel), ws_in 637 (by decide +kernel) (by decide +kernel), ws_in 43 (by decide +kernel) (by decide +kernel), ⟨by decide, by decide, by decide +kernel⟩, by decide⟩
theorem kk_X11_237 : Cond.constant "WaxCloth" 237 (999999 : Int32) ∈ WS := ws_in 639 (by decide +kernel) (by decide +kernel)
theorem ml_X11_238 : Cond.methodLink "WaxCloth" 238 yX1_draw ∈ WS := ws_in 640 (by decide +kernel) (by decide +kernel)
theorem vy_X1_draw : gV yX1_draw cX1_draw 8 none 3 1 := ⟨⟨TX1, 6, rfl⟩, ws_in 643 (by decide +kernel) (by decide +kernel), ws_in 641 (by decide +kernel) (by decide +kernel), ws_in 642 (by decide +kernel) (by decide +kernel), ws_in 51 (by decide +kernel) (by decide +kernel), ⟨by decide, by decide, by decide +kernel⟩, by decide⟩
theorem ml_X1_53 : Cond.methodLink "WaxCloth$Chances" 53 arraycopyName ∈ WS := ws_in 644 (by decide +kernel) (by decide +kernel)
theorem kk_X1_62 : Cond.constantLong "WaxCloth$Chances" 62 (16807 : Int64) ∈ WS := ws_in 645 (by decide +kernel) (by decide +kernel)
theorem kk_X1_64 : Cond.constantLong "WaxCloth$Chances" 64 (2147483647 : Int64) ∈ WS := ws_in 646 (by decide +kernel) (by decide +kernel)
theorem kk_X1_66 : Cond.constantLong "WaxCloth$Chances" 66 (4 : Int64) ∈ WS := ws_in 647 (by decide +kernel) (by decide +kernel)
theorem ml_X1_68 : Cond.methodLink "WaxCloth$Chances" 68 yX2_doingCount ∈ WS := ws_in 648 (by decide +kernel) (by decide +kernel)
theorem ml_X1_72 : Cond.methodLink "WaxCloth$Chances" 72 yX2_nthDoing ∈ WS := ws_in 649 (by decide +kernel) (by decide +kernel)
theorem ml_X1_75 : Cond.methodLink "WaxCloth$Chances" 75 yX2_apply ∈ WS := ws_in 650 (by decide +kernel) (by decide +kernel)
theorem ml_X1_79 : Cond.methodLink "WaxCloth$Chances" 79 yX2_rightCount ∈ WS := ws_in 651 (by decide +kernel) (by decide +kernel)
theorem ml_X1_83 : Cond.methodLink "WaxCloth$Chances" 83 yX2_darknessOf ∈ WS := ws_in 652 (by decide +kernel) (by decide +kernel)
theorem vy_X2_darknessOf : gV yX2_darknessOf cX2_darknessOf 4 (some .int) 1 2 := ⟨⟨TX2, 9, rfl⟩, ws_in 655 (by decide +kernel) (by decide +kernel), ws_in 653 (by decide +kernel) (by decide +kernel), ws_in 654 (by decide +kernel) (by decide +kernel), ws_in 46 (by decide +kernel) (by decide +kernel), ⟨by decide, by decide, by decide +kernel⟩, by decide⟩
theorem ml_X2_122 : Cond.methodLink "WaxCloth$Cloth" 122 yX9_darkness ∈ WS := ws_in 656 (by decide +kernel) (by decide +kernel)
theorem ml_L_87 : Cond.methodLink "WaxClothLaw" 87 yX11_sheet ∈ WS := ws_in 657 (by decide +kernel) (by decide +kernel)
theorem vy_X11_sheet : gV yX11_sheet cX11_sheet 4 (some .int) 3 9 := ⟨⟨TX11, 11, rfl⟩, ws_in 660 (by decide +kernel) (by decide +kernel), ws_in 658 (by decide +kernel) (by decide +kernel), ws_in 659 (by decide +kernel) (by decide +kernel), ws_in 43 (by decide +kernel) (by decide +kernel), ⟨by decide, by decide, by decide +kernel⟩, by decide⟩
theorem ml_X11_248 : Cond.methodLink "WaxCloth" 248 yX11_isSheet ∈ WS := ws_in 661 (by decide +kernel) (by decide +kernel)
theorem vy_X11_isSheet : gT yX11_isSheet cX11_isSheet 1 (some .boolean) 1 := ⟨ws_in 663 (by decide +kernel) (by decide +kernel), ws_in 662 (by decide +kernel) (by decide +kernel), ws_in 43 (by decide +kernel) (by decide +kernel), ⟨by decide, by decide, by decide +kernel⟩, by decide⟩
theorem ml_X11_251 : Cond.methodLink "WaxCloth" 251 yX8_isLane ∈ WS := ws_in 664 (by decide +kernel) (by decide +kernel)
theorem vy_X8_isLane : gT yX8_isLane cX8_isLane 1 (some .boolean) 1 := ⟨ws_in 666 (by decide +kernel) (by decide +kernel), ws_in 665 (by decide +kernel) (by decide +kernel), ws_in 48 (by decide +kernel) (by decide +kernel), ⟨by decide, by decide, by decide +kernel⟩, by decide⟩
theorem ml_X11_254 : Cond.methodLink "WaxCloth" 254 yX8_begin ∈ WS := ws_in 667 (by decide +kernel) (by decide +kernel)
theorem vy_X8_begin : gV yX8_begin cX8_begin 4 none 2 7 := ⟨⟨TX8, 3, rfl⟩, ws_in 670 (by decide +kernel) (by decide +kernel), ws_in 668 (by decide +kernel) (by decide +kernel), ws_in 669 (by decide +kernel) (by decide +kernel), ws_in 48 (by decide +kernel) (by decide +kernel), ⟨by decide, by decide, by decide +kernel⟩, by decide⟩
theorem ml_L_91 : Cond.methodLink "WaxClothLaw" 91 yX11_drop ∈ WS := ws_in 671 (by decide +kernel) (by decide +kernel)
theorem vy_X11_drop : gV yX11_drop cX11_drop 2 (some .int) 1 9 := ⟨⟨TX11, 11, rfl⟩, ws_in 674 (by decide +kernel) (by decide +kernel), ws_in 672 (by decide +kernel) (by decide +kernel), ws_in 673 (by decide +kernel) (by decide +kernel), ws_in 43 (by decide +kernel) (by decide +kernel), ⟨by decide, by decide, by decide +kernel⟩, by decide⟩
theorem ml_X11_258 : Cond.methodLink "WaxCloth" 258 yX8_isNothing ∈ WS := ws_in 675 (by decide +kernel) (by decide +kernel)
theorem vy_X8_isNothing : gV yX8_isNothing cX8_isNothing 1 (some .boolean) 0 7 := ⟨⟨TX8, 3, rfl⟩, ws_in 678 (by decide +kernel) (by decide +kernel), ws_in 676 (by decide +kernel) (by decide +kernel), ws_in 677 (by decide +kernel) (by decide +kernel), ws_in 48 (by decide +kernel) (by decide +kernel), ⟨by decide, by decide, by decide +kernel⟩, by decide⟩
theorem ml_X11_261 : Cond.methodLink "WaxCloth" 261 yX8_end ∈ WS := ws_in 679 (by decide +kernel) (by decide +kernel)
theorem vy_X8_end : gV yX8_end cX8_end 1 (some .int) 0 7 := ⟨⟨TX8, 3, rfl⟩, ws_in 682 (by decide +kernel) (by decide +kernel), ws_in 680 (by decide +kernel) (by decide +kernel), ws_in 681 (by decide +kernel) (by decide +kernel), ws_in 48 (by decide +kernel) (by decide +kernel), ⟨by decide, by decide, by decide +kernel⟩, by decide⟩
theorem ml_L_97 : Cond.methodLink "WaxClothLaw" 97 yX11_item ∈ WS := ws_in 683 (by decide +kernel) (by decide +kernel)
theorem vy_X11_item : gV yX11_item cX11_item 7 (some .long) 4 9 := ⟨⟨TX11, 11, rfl⟩, ws_in 686 (by decide +kernel) (by decide +kernel), ws_in 684 (by decide +kernel) (by decide +kernel), ws_in 685 (by decide +kernel) (by decide +kernel), ws_in 43 (by decide +kernel) (by decide +kernel), ⟨by decide, by decide, by decide +kernel⟩, by decide⟩
theorem kk_X11_265 : Cond.constantLong "WaxCloth" 265 (-1 : Int64) ∈ WS := ws_in 687 (by decide +kernel) (by decide +kernel)
theorem ml_X11_267 : Cond.methodLink "WaxCloth" 267 yX8_refusal ∈ WS := ws_in 688 (by decide +kernel) (by decide +kernel)
theorem vy_X8_refusal : gV yX8_refusal cX8_refusal 4 (some .int) 3 7 := ⟨⟨TX8, 3, rfl⟩, ws_in 691 (by decide +kernel) (by decide +kernel), ws_in 689 (by decide +kernel) (by decide +kernel), ws_in 690 (by decide +kernel) (by decide +kernel), ws_in 48 (by decide +kernel) (by decide +kernel), ⟨by decide, by decide, by decide +kernel⟩, by decide⟩
theorem ml_X8_22 : Cond.methodLink "WaxCloth$Sheet" 22 yX8_isNothing ∈ WS := ws_in 692 (by decide +kernel) (by decide +kernel)
theorem ml_X8_26 : Cond.methodLink "WaxCloth$Sheet" 26 yX8_holds ∈ WS := ws_in 693 (by decide +kernel) (by decide +kernel)
theorem vy_X8_holds : gV yX8_holds cX8_holds 3 (some .boolean) 2 7 := ⟨⟨TX8, 3, rfl⟩, ws_in 696 (by decide +kernel) (by decide +kernel), ws_in 694 (by decide +kernel) (by decide +kernel), ws_in 695 (by decide +kernel) (by decide +kernel), ws_in 48 (by decide +kernel) (by decide +kernel), ⟨by decide, by decide, by decide +kernel⟩, by decide⟩
theorem ml_X11_270 : Cond.methodLink "WaxCloth" 270 yX8_put ∈ WS := ws_in 697 (by decide +kernel) (by decide +kernel)
theorem vy_X8_put : gV yX8_put cX8_put 4 (some .long) 2 7 := ⟨⟨TX8, 3, rfl⟩, ws_in 700 (by decide +kernel) (by decide +kernel), ws_in 698 (by decide +kernel) (by decide +kernel), ws_in 699 (by decide +kernel) (by decide +kernel), ws_in 48 (by decide +kernel) (by decide +kernel), ⟨by decide, by decide, by decide +kernel⟩, by decide⟩
theorem ml_L_102 : Cond.methodLink "WaxClothLaw" 102 yX11_copy ∈ WS := ws_in 701 (by decide +kernel) (by decide +kernel)
theorem vy_X11_copy : gV yX11_copy cX11_copy 8 (some .int) 5 9 := ⟨⟨TX11, 11, rfl⟩, ws_in 704 (by decide +kernel) (by decide +kernel), ws_in 702 (by decide +kernel) (by decide +kernel), ws_in 703 (by decide +kernel) (by decide +kernel), ws_in 43 (by decide +kernel) (by decide +kernel), ⟨by decide, by decide, by decide +kernel⟩, by decide⟩
theorem ml_X11_276 : Cond.methodLink "WaxCloth" 276 yX8_holds ∈ WS := ws_in 705 (by decide +kernel) (by decide +kernel)
theorem ml_X11_283 : Cond.methodLink "WaxCloth" 283 arraycopyName ∈ WS := ws_in 706 (by decide +kernel) (by decide +kernel)
theorem ml_L_107 : Cond.methodLink "WaxClothLaw" 107 yX11_log ∈ WS := ws_in 707 (by decide +kernel) (by decide +kernel)
theorem vy_X11_log : gV yX11_log cX11_log 6 (some .int) 3 9 := ⟨⟨TX11, 11, rfl⟩, ws_in 710 (by decide +kernel) (by decide +kernel), ws_in 708 (by decide +kernel) (by decide +kernel), ws_in 709 (by decide +kernel) (by decide +kernel), ws_in 43 (by decide +kernel) (by decide +kernel), ⟨by decide, by decide, by decide +kernel⟩, by decide⟩
theorem ml_L_111 : Cond.methodLink "WaxClothLaw" 111 yX11_ahead ∈ WS := ws_in 711 (by decide +kernel) (by decide +kernel)
theorem vy_X11_ahead : gV yX11_ahead cX11_ahead 9 (some .int) 6 9 := ⟨⟨TX11, 11, rfl⟩, ws_in 714 (by decide +kernel) (by decide +kernel), ws_in 712 (by decide +kernel) (by decide +kernel), ws_in 713 (by decide +kernel) (by decide +kernel), ws_in 43 (by decide +kernel) (by decide +kernel), ⟨by decide, by decide, by decide +kernel⟩, by decide⟩
theorem ml_X11_289 : Cond.methodLink "WaxCloth" 289 yX11_takeDoings ∈ WS := ws_in 715 (by decide +kernel) (by decide +kernel)
theorem vy_X11_takeDoings : gV yX11_takeDoings cX11_takeDoings 9 (some .int) 4 9 := ⟨⟨TX11, 11, rfl⟩, ws_in 718 (by decide +kernel) (by decide +kernel), ws_in 717 (by decide +kernel) (by decide +kernel), ws_in 14 (by decide +kernel) (by decide +kernel), ws_in 43 (by decide +kernel) (by decide +kernel), ⟨by decide, by decide, by decide +kernel⟩, by decide⟩
theorem ml_X11_292 : Cond.methodLink "WaxCloth" 292 yX2_afterRow ∈ WS := ws_in 719 (by decide +kernel) (by decide +kernel)
theorem vy_X2_afterRow : gV yX2_afterRow cX2_afterRow 7 (some .int) 4 2 := ⟨⟨TX2, 9, rfl⟩, ws_in 722 (by decide +kernel) (by decide +kernel), ws_in 720 (by decide +kernel) (by decide +kernel), ws_in 721 (by decide +kernel) (by decide +kernel), ws_in 46 (by decide +kernel) (by decide +kernel), ⟨by decide, by decide, by decide +kernel⟩, by decide⟩
theorem ml_L_115 : Cond.methodLink "WaxClothLaw" 115 yX11_round ∈ WS := ws_in 723 (by decide +kernel) (by decide +kernel)
theorem vy_X11_round : gV yX11_round cX11_round 7 (some .int) 5 9 := ⟨⟨TX11, 11, rfl⟩, ws_in 726 (by decide +kernel) (by decide +kernel), ws_in 724 (by decide +kernel) (by decide +kernel), ws_in 725 (by decide +kernel) (by decide +kernel), ws_in 43 (by decide +kernel) (by decide +kernel), ⟨by decide, by decide, by decide +kernel⟩, by decide⟩
theorem ml_X11_296 : Cond.methodLink "WaxCloth" 296 yX7_measure ∈ WS := ws_in 727 (by decide +kernel) (by decide +kernel)
theorem vy_X7_measure : gV yX7_measure cX7_measure 7 none 3 6 := ⟨⟨TX7, 2, rfl⟩, ws_in 730 (by decide +kernel) (by decide +kernel), ws_in 728 (by decide +kernel) (by decide +kernel), ws_in 729 (by decide +kernel) (by decide +kernel), ws_in 52 (by decide +kernel) (by decide +kernel), ⟨by decide, by decide, by decide +kernel⟩, by decide⟩
theorem ml_X7_21 : Cond.methodLink "WaxCloth$Rounds" 21 yX7_lapOf ∈ WS := ws_in 731 (by decide +kernel) (by decide +kernel)
theorem vy_X7_lapOf : gT yX7_lapOf cX7_lapOf 9 (some .int) 4 := ⟨ws_in 733 (by decide +kernel) (by decide +kernel), ws_in 732 (by decide +kernel) (by decide +kernel), ws_in 52 (by decide +kernel) (by decide +kernel), ⟨by decide, by decide, by decide +kernel⟩, by decide⟩
theorem ml_X7_44 : Cond.methodLink "WaxCloth$Rounds" 44 yX2_afterRow ∈ WS := ws_in 734 (by decide +kernel) (by decide +kernel)
theorem kk_X7_48 : Cond.constant "WaxCloth$Rounds" 48 (100000 : Int32) ∈ WS := ws_in 735 (by decide +kernel) (by decide +kernel)
theorem ml_X7_25 : Cond.methodLink "WaxCloth$Rounds" 25 yX7_leadOf ∈ WS := ws_in 736 (by decide +kernel) (by decide +kernel)
theorem vy_X7_leadOf : gT yX7_leadOf cX7_leadOf 9 (some .int) 5 := ⟨ws_in 738 (by decide +kernel) (by decide +kernel), ws_in 737 (by decide +kernel) (by decide +kernel), ws_in 52 (by decide +kernel) (by decide +kernel), ⟨by decide, by decide, by decide +kernel⟩, by decide⟩
theorem ml_X7_29 : Cond.methodLink "WaxCloth$Rounds" 29 Lib.Math.max.name ∈ WS := ws_in 739 (by decide +kernel) (by decide +kernel)
theorem ml_X7_35 : Cond.methodLink "WaxCloth$Rounds" 35 yX1_greatestCommon ∈ WS := ws_in 740 (by decide +kernel) (by decide +kernel)
theorem ml_L_119 : Cond.methodLink "WaxClothLaw" 119 yX11_kinds ∈ WS := ws_in 741 (by decide +kernel) (by decide +kernel)
theorem vy_X11_kinds : gV yX11_kinds cX11_kinds 8 (some .int) 5 9 := ⟨⟨TX11, 11, rfl⟩, ws_in 744 (by decide +kernel) (by decide +kernel), ws_in 742 (by decide +kernel) (by decide +kernel), ws_in 743 (by decide +kernel) (by decide +kernel), ws_in 43 (by decide +kernel) (by decide +kernel), ⟨by decide, by decide, by decide +kernel⟩, by decide⟩
theorem ml_X11_306 : Cond.methodLink "WaxCloth" 306 yX11_areTriples ∈ WS := ws_in 745 (by decide +kernel) (by decide +kernel)
theorem vy_X11_areTriples : gT yX11_areTriples cX11_areTriples 8 (some .boolean) 3 := ⟨ws_in 747 (by decide +kernel) (by decide +kernel), ws_in 746 (by decide +kernel) (by decide +kernel), ws_in 43 (by decide +kernel) (by decide +kernel), ⟨by decide, by decide, by decide +kernel⟩, by decide⟩
theorem kk_X11_329 : Cond.constantLong "WaxCloth" 329 (9 : Int64) ∈ WS := ws_in 748 (by decide +kernel) (by decide +kernel)
theorem kk_X11_331 : Cond.constantLong "WaxCloth" 331 (3 : Int64) ∈ WS := ws_in 749 (by decide +kernel) (by decide +kernel)
theorem ml_X11_310 : Cond.methodLink "WaxCloth" 310 yX11_kindsByTriples ∈ WS := ws_in 750 (by decide +kernel) (by decide +kernel)
theorem vy_X11_kindsByTriples : gT yX11_kindsByTriples cX11_kindsByTriples 6 (some .int) 3 := ⟨ws_in 752 (by decide +kernel) (by decide +kernel), ws_in 751 (by decide +kernel) (by decide +kernel), ws_in 43 (by decide +kernel) (by decide +kernel), ⟨by decide, by decide, by decide +kernel⟩, by decide⟩
theorem ml_X11_333 : Cond.methodLink "WaxCloth" 333 yX3_thatTake ∈ WS := ws_in 753 (by decide +kernel) (by decide +kernel)
theorem vy_X3_thatTake : gT yX3_thatTake cX3_thatTake 7 (some .int) 4 := ⟨ws_in 755 (by decide +kernel) (by decide +kernel), ws_in 754 (by decide +kernel) (by decide +kernel), ws_in 54 (by decide +kernel) (by decide +kernel), ⟨by decide, by decide, by decide +kernel⟩, by decide⟩
theorem ml_X3_13 : Cond.methodLink "WaxCloth$Kind" 13 yX3_taken ∈ WS := ws_in 756 (by decide +kernel) (by decide +kernel)
theorem ml_X11_314 : Cond.methodLink "WaxCloth" 314 yX3_bestTry ∈ WS := ws_in 757 (by decide +kernel) (by decide +kernel)
theorem vy_X3_bestTry : gT yX3_bestTry cX3_bestTry 6 (some .int) 2 := ⟨ws_in 759 (by decide +kernel) (by decide +kernel), ws_in 758 (by decide +kernel) (by decide +kernel), ws_in 54 (by decide +kernel) (by decide +kernel), ⟨by decide, by decide, by decide +kernel⟩, by decide⟩
theorem ml_X3_17 : Cond.methodLink "WaxCloth$Kind" 17 yX3_greatestPart ∈ WS := ws_in 760 (by decide +kernel) (by decide +kernel)
theorem vy_X3_greatestPart : gT yX3_greatestPart cX3_greatestPart 5 (some .int) 3 := ⟨ws_in 762 (by decide +kernel) (by decide +kernel), ws_in 761 (by decide +kernel) (by decide +kernel), ws_in 54 (by decide +kernel) (by decide +kernel), ⟨by decide, by decide, by decide +kernel⟩, by decide⟩
theorem ml_X3_20 : Cond.methodLink "WaxCloth$Kind" 20 yX3_thatTake ∈ WS := ws_in 763 (by decide +kernel) (by decide +kernel)
theorem ml_X3_24 : Cond.methodLink "WaxCloth$Kind" 24 yJ6_bitCount_0f7a4 ∈ WS := ws_in 764 (by decide +kernel) (by decide +kernel)
theorem ml_X3_30 : Cond.methodLink "WaxCloth$Kind" 30 Lib.Math.max.name ∈ WS := ws_in 765 (by decide +kernel) (by decide +kernel)
theorem ml_L_123 : Cond.methodLink "WaxClothLaw" 123 yX11_wishes ∈ WS := ws_in 766 (by decide +kernel) (by decide +kernel)
theorem vy_X11_wishes : gV yX11_wishes cX11_wishes 7 (some .int) 3 9 := ⟨⟨TX11, 11, rfl⟩, ws_in 769 (by decide +kernel) (by decide +kernel), ws_in 767 (by decide +kernel) (by decide +kernel), ws_in 768 (by decide +kernel) (by decide +kernel), ws_in 43 (by decide +kernel) (by decide +kernel), ⟨by decide, by decide, by decide +kernel⟩, by decide⟩
theorem ml_L_127 : Cond.methodLink "WaxClothLaw" 127 yX11_count ∈ WS := ws_in 770 (by decide +kernel) (by decide +kernel)
theorem vy_X11_count : gV yX11_count cX11_count 2 (some .int) 1 9 := ⟨⟨TX11, 11, rfl⟩, ws_in 773 (by decide +kernel) (by decide +kernel), ws_in 771 (by decide +kernel) (by decide +kernel), ws_in 772 (by decide +kernel) (by decide +kernel), ws_in 43 (by decide +kernel) (by decide +kernel), ⟨by decide, by decide, by decide +kernel⟩, by decide⟩
theorem ml_X11_323 : Cond.methodLink "WaxCloth" 323 yX2_waxedSet ∈ WS := ws_in 774 (by decide +kernel) (by decide +kernel)
theorem vy_X2_waxedSet : gV yX2_waxedSet cX2_waxedSet 3 (some .int) 0 2 := ⟨⟨TX2, 9, rfl⟩, ws_in 777 (by decide +kernel) (by decide +kernel), ws_in 775 (by decide +kernel) (by decide +kernel), ws_in 776 (by decide +kernel) (by decide +kernel), ws_in 46 (by decide +kernel) (by decide +kernel), ⟨by decide, by decide, by decide +kernel⟩, by decide⟩
theorem ml_X11_326 : Cond.methodLink "WaxCloth" 326 yX2_darknessOf ∈ WS := ws_in 778 (by decide +kernel) (by decide +kernel)
theorem fl_X12_7 : gFl "WaxClothModel" 7 10 0 := ⟨RX12, TX12, 22, rfl, by decide, in_X12, ws_in 785 (by decide +kernel) (by decide +kernel)⟩
theorem fl_X12_13 : gFl "WaxClothModel" 13 10 1 := ⟨RX12, TX12, 22, rfl, by decide, in_X12, ws_in 786 (by decide +kernel) (by decide +kernel)⟩
theorem fl_X12_16 : gFl "WaxClothModel" 16 10 2 := ⟨RX12, TX12, 22, rfl, by decide, in_X12, ws_in 787 (by decide +kernel) (by decide +kernel)⟩
theorem fl_X12_19 : gFl "WaxClothModel" 19 10 3 := ⟨RX12, TX12, 22, rfl, by decide, in_X12, ws_in 788 (by decide +kernel) (by decide +kernel)⟩
theorem fl_X12_22 : gFl "WaxClothModel" 22 10 4 := ⟨RX12, TX12, 22, rfl, by decide, in_X12, ws_in 789 (by decide +kernel) (by decide +kernel)⟩
theorem fl_X12_109 : gFl "WaxClothModel" 109 10 5 := ⟨RX12, TX12, 22, rfl, by decide, in_X12, ws_in 790 (by decide +kernel) (by decide +kernel)⟩
theorem fp_X12_109 : gFp "WaxClothModel" 109 10 5 := ⟨RX12, TX12, 22, tyX12, rfl, by decide, in_X12, ws_in 790 (by decide +kernel) (by decide +kernel), tyX12_ok, nmX12, rfl, rfl⟩
theorem fl_X12_25 : gFl "WaxClothModel" 25 10 6 := ⟨RX12, TX12, 22, rfl, by decide, in_X12, ws_in 791 (by decide +kernel) (by decide +kernel)⟩
theorem fl_X12_112 : gFl "WaxClothModel" 112 10 7 := ⟨RX12, TX12, 22, rfl, by decide, in_X12, ws_in 792 (by decide +kernel) (by decide +kernel)⟩
theorem fp_X12_112 : gFp "WaxClothModel" 112 10 7 := ⟨RX12, TX12, 22, tyX12, rfl, by decide, in_X12, ws_in 792 (by decide +kernel) (by decide +kernel), tyX12_ok, nmX12, rfl, rfl⟩
theorem fl_X12_28 : gFl "WaxClothModel" 28 10 8 := ⟨RX12, TX12, 22, rfl, by decide, in_X12, ws_in 793 (by decide +kernel) (by decide +kernel)⟩
theorem fl_X12_31 : gFl "WaxClothModel" 31 10 9 := ⟨RX12, TX12, 22, rfl, by decide, in_X12, ws_in 794 (by decide +kernel) (by decide +kernel)⟩
theorem fl_X12_35 : gFl "WaxClothModel" 35 10 10 := ⟨RX12, TX12, 22, rfl, by decide, in_X12, ws_in 795 (by decide +kernel) (by decide +kernel)⟩
theorem fl_X12_63 : gFl "WaxClothModel" 63 10 11 := ⟨RX12, TX12, 22, rfl, by decide, in_X12, ws_in 796 (by decide +kernel) (by decide +kernel)⟩
theorem fp_X12_63 : gFp "WaxClothModel" 63 10 11 := ⟨RX12, TX12, 22, tyX12, rfl, by decide, in_X12, ws_in 796 (by decide +kernel) (by decide +kernel), tyX12_ok, nmX12, rfl, rfl⟩
theorem fl_X12_38 : gFl "WaxClothModel" 38 10 12 := ⟨RX12, TX12, 22, rfl, by decide, in_X12, ws_in 797 (by decide +kernel) (by decide +kernel)⟩
theorem fl_X12_41 : gFl "WaxClothModel" 41 10 13 := ⟨RX12, TX12, 22, rfl, by decide, in_X12, ws_in 798 (by decide +kernel) (by decide +kernel)⟩
theorem fl_X12_44 : gFl "WaxClothModel" 44 10 14 := ⟨RX12, TX12, 22, rfl, by decide, in_X12, ws_in 799 (by decide +kernel) (by decide +kernel)⟩
theorem fl_X12_67 : gFl "WaxClothModel" 67 10 15 := ⟨RX12, TX12, 22, rfl, by decide, in_X12, ws_in 800 (by decide +kernel) (by decide +kernel)⟩
theorem fp_X12_67 : gFp "WaxClothModel" 67 10 15 := ⟨RX12, TX12, 22, tyX12, rfl, by decide, in_X12, ws_in 800 (by decide +kernel) (by decide +kernel), tyX12_ok, nmX12, rfl, rfl⟩
theorem fl_X12_74 : gFl "WaxClothModel" 74 10 16 := ⟨RX12, TX12, 22, rfl, by decide, in_X12, ws_in 801 (by decide +kernel) (by decide +kernel)⟩
theorem fp_X12_74 : gFp "WaxClothModel" 74 10 16 := ⟨RX12, TX12, 22, tyX12, rfl, by decide, in_X12, ws_in 801 (by decide +kernel) (by decide +kernel), tyX12_ok, nmX12, rfl, rfl⟩
theorem fl_X12_48 : gFl "WaxClothModel" 48 10 17 := ⟨RX12, TX12, 22, rfl, by decide, in_X12, ws_in 802 (by decide +kernel) (by decide +kernel)⟩
theorem fl_X12_51 : gFl "WaxClothModel" 51 10 18 := ⟨RX12, TX12, 22, rfl, by decide, in_X12, ws_in 803 (by decide +kernel) (by decide +kernel)⟩
theorem fl_X12_54 : gFl "WaxClothModel" 54 10 19 := ⟨RX12, TX12, 22, rfl, by decide, in_X12, ws_in 804 (by decide +kernel) (by decide +kernel)⟩
theorem fl_X12_239 : gFl "WaxClothModel" 239 10 20 := ⟨RX12, TX12, 22, rfl, by decide, in_X12, ws_in 805 (by decide +kernel) (by decide +kernel)⟩
theorem fp_X12_239 : gFp "WaxClothModel" 239 10 20 := ⟨RX12, TX12, 22, tyX12, rfl, by decide, in_X12, ws_in 805 (by decide +kernel) (by decide +kernel), tyX12_ok, nmX12, rfl, rfl⟩
theorem fl_X12_242 : gFl "WaxClothModel" 242 10 21 := ⟨RX12, TX12, 22, rfl, by decide, in_X12, ws_in 806 (by decide +kernel) (by decide +kernel)⟩
theorem fp_X12_242 : gFp "WaxClothModel" 242 10 21 := ⟨RX12, TX12, 22, tyX12, rfl, by decide, in_X12, ws_in 806 (by decide +kernel) (by decide +kernel), tyX12_ok, nmX12, rfl, rfl⟩
theorem ml_L_17 : Cond.methodLink "WaxClothLaw" 17 yX12_feed ∈ WS := ws_in 853 (by decide +kernel) (by decide +kernel)
theorem vy_X12_feed : gV yX12_feed cX12_feed 2 (some .int) 1 10 := ⟨⟨TX12, 22, rfl⟩, ws_in 856 (by decide +kernel) (by decide +kernel), ws_in 854 (by decide +kernel) (by decide +kernel), ws_in 855 (by decide +kernel) (by decide +kernel), ws_in 53 (by decide +kernel) (by decide +kernel), ⟨by decide, by decide, by decide +kernel⟩, by decide⟩
theorem kk_X12_57 : Cond.constantLong "WaxClothModel" 57 (255 : Int64) ∈ WS := ws_in 857 (by decide +kernel) (by decide +kernel)
theorem ml_X12_59 : Cond.methodLink "WaxClothModel" 59 yX12_in ∈ WS := ws_in 858 (by decide +kernel) (by decide +kernel)
theorem vy_X12_in : gT yX12_in cX12_in 6 (some .boolean) 3 := ⟨ws_in 860 (by decide +kernel) (by decide +kernel), ws_in 859 (by decide +kernel) (by decide +kernel), ws_in 53 (by decide +kernel) (by decide +kernel), ⟨by decide, by decide, by decide +kernel⟩, by decide⟩
theorem ml_L_22 : Cond.methodLink "WaxClothLaw" 22 yX12_cloth ∈ WS := ws_in 861 (by decide +kernel) (by decide +kernel)
theorem vy_X12_cloth : gV yX12_cloth cX12_cloth 3 (some .int) 0 10 := ⟨⟨TX12, 22, rfl⟩, ws_in 864 (by decide +kernel) (by decide +kernel), ws_in 862 (by decide +kernel) (by decide +kernel), ws_in 863 (by decide +kernel) (by decide +kernel), ws_in 53 (by decide +kernel) (by decide +kernel), ⟨by decide, by decide, by decide +kernel⟩, by decide⟩
theorem ml_X12_102 : Cond.methodLink "WaxClothModel" 102 yX12_reads ∈ WS := ws_in 865 (by decide +kernel) (by decide +kernel)
theorem vy_X12_reads : gV yX12_reads cX12_reads 2 (some .boolean) 0 10 := ⟨⟨TX12, 22, rfl⟩, ws_in 868 (by decide +kernel) (by decide +kernel), ws_in 867 (by decide +kernel) (by decide +kernel), ws_in 15 (by decide +kernel) (by decide +kernel), ws_in 53 (by decide +kernel) (by decide +kernel), ⟨by decide, by decide, by decide +kernel⟩, by decide⟩
theorem ml_X12_85 : Cond.methodLink "WaxClothModel" 85 yX12_eats ∈ WS := ws_in 869 (by decide +kernel) (by decide +kernel)
theorem vy_X12_eats : gV yX12_eats cX12_eats 3 (some .boolean) 1 10 := ⟨⟨TX12, 22, rfl⟩, ws_in 872 (by decide +kernel) (by decide +kernel), ws_in 871 (by decide +kernel) (by decide +kernel), ws_in 16 (by decide +kernel) (by decide +kernel), ws_in 53 (by decide +kernel) (by decide +kernel), ⟨by decide, by decide, by decide +kernel⟩, by decide⟩
theorem ml_X12_70 : Cond.methodLink "WaxClothModel" 70 yX12_here ∈ WS := ws_in 873 (by decide +kernel) (by decide +kernel)
theorem vy_X12_here : gV yX12_here cX12_here 1 (some .int) 0 10 := ⟨⟨TX12, 22, rfl⟩, ws_in 876 (by decide +kernel) (by decide +kernel), ws_in 875 (by decide +kernel) (by decide +kernel), ws_in 17 (by decide +kernel) (by decide +kernel), ws_in 53 (by decide +kernel) (by decide +kernel), ⟨by decide, by decide, by decide +kernel⟩, by decide⟩
theorem ml_X12_89 : Cond.methodLink "WaxClothModel" 89 yX12_readsSquare ∈ WS := ws_in 877 (by decide +kernel) (by decide +kernel)
theorem vy_X12_readsSquare : gV yX12_readsSquare cX12_readsSquare 3 (some .boolean) 0 10 := ⟨⟨TX12, 22, rfl⟩, ws_in 880 (by decide +kernel) (by decide +kernel), ws_in 879 (by decide +kernel) (by decide +kernel), ws_in 18 (by decide +kernel) (by decide +kernel), ws_in 53 (by decide +kernel) (by decide +kernel), ⟨by decide, by decide, by decide +kernel⟩, by decide⟩
theorem ml_X12_77 : Cond.methodLink "WaxClothModel" 77 yX12_kindBy ∈ WS := ws_in 881 (by decide +kernel) (by decide +kernel)
theorem vy_X12_kindBy : gT yX12_kindBy cX12_kindBy 1 (some .int) 1 := ⟨ws_in 883 (by decide +kernel) (by decide +kernel), ws_in 882 (by decide +kernel) (by decide +kernel), ws_in 53 (by decide +kernel) (by decide +kernel), ⟨by decide, by decide, by decide +kernel⟩, by decide⟩
theorem ml_X12_81 : Cond.methodLink "WaxClothModel" 81 yX12_figure ∈ WS := ws_in 884 (by decide +kernel) (by decide +kernel)
theorem vy_X12_figure : gV yX12_figure cX12_figure 3 (some .boolean) 2 10 := ⟨⟨TX12, 22, rfl⟩, ws_in 887 (by decide +kernel) (by decide +kernel), ws_in 886 (by decide +kernel) (by decide +kernel), ws_in 19 (by decide +kernel) (by decide +kernel), ws_in 53 (by decide +kernel) (by decide +kernel), ⟨by decide, by decide, by decide +kernel⟩, by decide⟩
theorem ml_X12_93 : Cond.methodLink "WaxClothModel" 93 yX12_another ∈ WS := ws_in 888 (by decide +kernel) (by decide +kernel)
theorem vy_X12_another : gV yX12_another cX12_another 3 (some .boolean) 2 10 := ⟨⟨TX12, 22, rfl⟩, ws_in 891 (by decide +kernel) (by decide +kernel), ws_in 890 (by decide +kernel) (by decide +kernel), ws_in 20 (by decide +kernel) (by decide +kernel), ws_in 53 (by decide +kernel) (by decide +kernel), ⟨by decide, by decide, by decide +kernel⟩, by decide⟩
theorem ml_X12_96 : Cond.methodLink "WaxClothModel" 96 yX12_readsDye ∈ WS := ws_in 892 (by decide +kernel) (by decide +kernel)
theorem vy_X12_readsDye : gV yX12_readsDye cX12_readsDye 2 (some .boolean) 0 10 := ⟨⟨TX12, 22, rfl⟩, ws_in 895 (by decide +kernel) (by decide +kernel), ws_in 894 (by decide +kernel) (by decide +kernel), ws_in 21 (by decide +kernel) (by decide +kernel), ws_in 53 (by decide +kernel) (by decide +kernel), ⟨by decide, by decide, by decide +kernel⟩, by decide⟩
theorem ml_X12_99 : Cond.methodLink "WaxClothModel" 99 yX12_readsStencil ∈ WS := ws_in 896 (by decide +kernel) (by decide +kernel)
theorem vy_X12_readsStencil : gV yX12_readsStencil cX12_readsStencil 3 (some .boolean) 0 10 := ⟨⟨TX12, 22, rfl⟩, ws_in 899 (by decide +kernel) (by decide +kernel), ws_in 898 (by decide +kernel) (by decide +kernel), ws_in 22 (by decide +kernel) (by decide +kernel), ws_in 53 (by decide +kernel) (by decide +kernel), ⟨by decide, by decide, by decide +kernel⟩, by decide⟩
theorem ml_X12_105 : Cond.methodLink "WaxClothModel" 105 yX12_copies ∈ WS := ws_in 900 (by decide +kernel) (by decide +kernel)
theorem vy_X12_copies : gT yX12_copies cX12_copies 6 none 5 := ⟨ws_in 902 (by decide +kernel) (by decide +kernel), ws_in 901 (by decide +kernel) (by decide +kernel), ws_in 53 (by decide +kernel) (by decide +kernel), ⟨by decide, by decide, by decide +kernel⟩, by decide⟩
theorem ml_L_27 : Cond.methodLink "WaxClothLaw" 27 yX12_square ∈ WS := ws_in 903 (by decide +kernel) (by decide +kernel)
theorem vy_X12_square : gV yX12_square cX12_square 3 (some .int) 2 10 := ⟨⟨TX12, 22, rfl⟩, ws_in 906 (by decide +kernel) (by decide +kernel), ws_in 904 (by decide +kernel) (by decide +kernel), ws_in 905 (by decide +kernel) (by decide +kernel), ws_in 53 (by decide +kernel) (by decide +kernel), ⟨by decide, by decide, by decide +kernel⟩, by decide⟩
theorem ml_X12_161 : Cond.methodLink "WaxClothModel" 161 yX12_isSquare ∈ WS := ws_in 907 (by decide +kernel) (by decide +kernel)
theorem vy_X12_isSquare : gV yX12_isSquare cX12_isSquare 2 (some .boolean) 1 10 := ⟨⟨TX12, 22, rfl⟩, ws_in 910 (by decide +kernel) (by decide +kernel), ws_in 909 (by decide +kernel) (by decide +kernel), ws_in 23 (by decide +kernel) (by decide +kernel), ws_in 53 (by decide +kernel) (by decide +kernel), ⟨by decide, by decide, by decide +kernel⟩, by decide⟩
theorem kk_X12_164 : Cond.constantLong "WaxClothModel" 164 (8 : Int64) ∈ WS := ws_in 911 (by decide +kernel) (by decide +kernel)
theorem ml_X12_115 : Cond.methodLink "WaxClothModel" 115 yX12_hueOf ∈ WS := ws_in 912 (by decide +kernel) (by decide +kernel)
theorem vy_X12_hueOf : gT yX12_hueOf cX12_hueOf 6 (some .int) 2 := ⟨ws_in 914 (by decide +kernel) (by decide +kernel), ws_in 913 (by decide +kernel) (by decide +kernel), ws_in 53 (by decide +kernel) (by decide +kernel), ⟨by decide, by decide, by decide +kernel⟩, by decide⟩
theorem ml_X12_123 : Cond.methodLink "WaxClothModel" 123 yX12_darkOf ∈ WS := ws_in 915 (by decide +kernel) (by decide +kernel)
theorem vy_X12_darkOf : gT yX12_darkOf cX12_darkOf 2 (some .int) 2 := ⟨ws_in 917 (by decide +kernel) (by decide +kernel), ws_in 916 (by decide +kernel) (by decide +kernel), ws_in 53 (by decide +kernel) (by decide +kernel), ⟨by decide, by decide, by decide +kernel⟩, by decide⟩
theorem ml_X12_119 : Cond.methodLink "WaxClothModel" 119 yX12_isRight ∈ WS := ws_in 918 (by decide +kernel) (by decide +kernel)
theorem vy_X12_isRight : gT yX12_isRight cX12_isRight 2 (some .boolean) 2 := ⟨ws_in 920 (by decide +kernel) (by decide +kernel), ws_in 919 (by decide +kernel) (by decide +kernel), ws_in 53 (by decide +kernel) (by decide +kernel), ⟨by decide, by decide, by decide +kernel⟩, by decide⟩
theorem ml_L_31 : Cond.methodLink "WaxClothLaw" 31 yX12_as ∈ WS := ws_in 921 (by decide +kernel) (by decide +kernel)
theorem vy_X12_as : gV yX12_as cX12_as 5 (some .int) 2 10 := ⟨⟨TX12, 22, rfl⟩, ws_in 924 (by decide +kernel) (by decide +kernel), ws_in 922 (by decide +kernel) (by decide +kernel), ws_in 923 (by decide +kernel) (by decide +kernel), ws_in 53 (by decide +kernel) (by decide +kernel), ⟨by decide, by decide, by decide +kernel⟩, by decide⟩
theorem kk_X12_166 : Cond.constantLong "WaxClothModel" 166 (5 : Int64) ∈ WS := ws_in 925 (by decide +kernel) (by decide +kernel)
theorem kk_X12_168 : Cond.constantLong "WaxClothModel" 168 (2 : Int64) ∈ WS := ws_in 926 (by decide +kernel) (by decide +kernel)
theorem kk_X12_170 : Cond.constantLong "WaxClothModel" 170 (3 : Int64) ∈ WS := ws_in 927 (by decide +kernel) (by decide +kernel)
theorem ml_L_35 : Cond.methodLink "WaxClothLaw" 35 yX12_dye ∈ WS := ws_in 928 (by decide +kernel) (by decide +kernel)
theorem vy_X12_dye : gV yX12_dye cX12_dye 3 (some .int) 2 10 := ⟨⟨TX12, 22, rfl⟩, ws_in 931 (by decide +kernel) (by decide +kernel), ws_in 929 (by decide +kernel) (by decide +kernel), ws_in 930 (by decide +kernel) (by decide +kernel), ws_in 53 (by decide +kernel) (by decide +kernel), ⟨by decide, by decide, by decide +kernel⟩, by decide⟩
theorem ml_X12_172 : Cond.methodLink "WaxClothModel" 172 yX12_isDye ∈ WS := ws_in 932 (by decide +kernel) (by decide +kernel)
theorem vy_X12_isDye : gV yX12_isDye cX12_isDye 2 (some .boolean) 1 10 := ⟨⟨TX12, 22, rfl⟩, ws_in 935 (by decide +kernel) (by decide +kernel), ws_in 934 (by decide +kernel) (by decide +kernel), ws_in 24 (by decide +kernel) (by decide +kernel), ws_in 53 (by decide +kernel) (by decide +kernel), ⟨by decide, by decide, by decide +kernel⟩, by decide⟩
theorem ml_L_39 : Cond.methodLink "WaxClothLaw" 39 yX12_stencil ∈ WS := ws_in 936 (by decide +kernel) (by decide +kernel)
theorem vy_X12_stencil : gV yX12_stencil cX12_stencil 2 (some .int) 1 10 := ⟨⟨TX12, 22, rfl⟩, ws_in 939 (by decide +kernel) (by decide +kernel), ws_in 937 (by decide +kernel) (by decide +kernel), ws_in 938 (by decide +kernel) (by decide +kernel), ws_in 53 (by decide +kernel) (by decide +kernel), ⟨by decide, by decide, by decide +kernel⟩, by decide⟩
theorem ml_L_44 : Cond.methodLink "WaxClothLaw" 44 yX12_takes ∈ WS := ws_in 940 (by decide +kernel) (by decide +kernel)
theorem vy_X12_takes : gV yX12_takes cX12_takes 4 (some .int) 3 10 := ⟨⟨TX12, 22, rfl⟩, ws_in 943 (by decide +kernel) (by decide +kernel), ws_in 941 (by decide +kernel) (by decide +kernel), ws_in 942 (by decide +kernel) (by decide +kernel), ws_in 53 (by decide +kernel) (by decide +kernel), ⟨by decide, by decide, by decide +kernel⟩, by decide⟩
theorem ml_X12_137 : Cond.methodLink "WaxClothModel" 137 yX12_takenOn ∈ WS := ws_in 944 (by decide +kernel) (by decide +kernel)
theorem vy_X12_takenOn : gV yX12_takenOn cX12_takenOn 6 (some .int) 4 10 := ⟨⟨TX12, 22, rfl⟩, ws_in 947 (by decide +kernel) (by decide +kernel), ws_in 946 (by decide +kernel) (by decide +kernel), ws_in 25 (by decide +kernel) (by decide +kernel), ws_in 53 (by decide +kernel) (by decide +kernel), ⟨by decide, by decide, by decide +kernel⟩, by decide⟩
theorem ml_X12_130 : Cond.methodLink "WaxClothModel" 130 yX12_takenBy ∈ WS := ws_in 948 (by decide +kernel) (by decide +kernel)
theorem vy_X12_takenBy : gT yX12_takenBy cX12_takenBy 3 (some .int) 3 := ⟨ws_in 950 (by decide +kernel) (by decide +kernel), ws_in 949 (by decide +kernel) (by decide +kernel), ws_in 53 (by decide +kernel) (by decide +kernel), ⟨by decide, by decide, by decide +kernel⟩, by decide⟩
theorem ml_X12_126 : Cond.methodLink "WaxClothModel" 126 yX12_less ∈ WS := ws_in 951 (by decide +kernel) (by decide +kernel)
theorem vy_X12_less : gT yX12_less cX12_less 2 (some .int) 2 := ⟨ws_in 953 (by decide +kernel) (by decide +kernel), ws_in 952 (by decide +kernel) (by decide +kernel), ws_in 53 (by decide +kernel) (by decide +kernel), ⟨by decide, by decide, by decide +kernel⟩, by decide⟩
theorem ml_L_48 : Cond.methodLink "WaxClothLaw" 48 yX12_does ∈ WS := ws_in 954 (by decide +kernel) (by decide +kernel)
theorem vy_X12_does : gV yX12_does cX12_does 3 (some .int) 1 10 := ⟨⟨TX12, 22, rfl⟩, ws_in 957 (by decide +kernel) (by decide +kernel), ws_in 955 (by decide +kernel) (by decide +kernel), ws_in 956 (by decide +kernel) (by decide +kernel), ws_in 53 (by decide +kernel) (by decide +kernel), ⟨by decide, by decide, by decide +kernel⟩, by decide⟩
theorem ml_X12_175 : Cond.methodLink "WaxClothModel" 175 yX12_isDoing ∈ WS := ws_in 958 (by decide +kernel) (by decide +kernel)
theorem vy_X12_isDoing : gV yX12_isDoing cX12_isDoing 3 (some .boolean) 1 10 := ⟨⟨TX12, 22, rfl⟩, ws_in 961 (by decide +kernel) (by decide +kernel), ws_in 960 (by decide +kernel) (by decide +kernel), ws_in 26 (by decide +kernel) (by decide +kernel), ws_in 53 (by decide +kernel) (by decide +kernel), ⟨by decide, by decide, by decide +kernel⟩, by decide⟩
theorem kk_X12_141 : Cond.constantLong "WaxClothModel" 141 (10 : Int64) ∈ WS := ws_in 962 (by decide +kernel) (by decide +kernel)
theorem kk_X12_143 : Cond.constantLong "WaxClothModel" 143 (20 : Int64) ∈ WS := ws_in 963 (by decide +kernel) (by decide +kernel)
theorem kk_X12_145 : Cond.constantLong "WaxClothModel" 145 (21 : Int64) ∈ WS := ws_in 964 (by decide +kernel) (by decide +kernel)
theorem ml_X12_179 : Cond.methodLink "WaxClothModel" 179 yX12_doesAll ∈ WS := ws_in 965 (by decide +kernel) (by decide +kernel)
theorem vy_X12_doesAll : gV yX12_doesAll cX12_doesAll 4 none 2 10 := ⟨⟨TX12, 22, rfl⟩, ws_in 968 (by decide +kernel) (by decide +kernel), ws_in 967 (by decide +kernel) (by decide +kernel), ws_in 27 (by decide +kernel) (by decide +kernel), ws_in 53 (by decide +kernel) (by decide +kernel), ⟨by decide, by decide, by decide +kernel⟩, by decide⟩
theorem ml_X12_158 : Cond.methodLink "WaxClothModel" 158 yX12_doesOn ∈ WS := ws_in 969 (by decide +kernel) (by decide +kernel)
theorem vy_X12_doesOn : gV yX12_doesOn cX12_doesOn 4 none 3 10 := ⟨⟨TX12, 22, rfl⟩, ws_in 972 (by decide +kernel) (by decide +kernel), ws_in 971 (by decide +kernel) (by decide +kernel), ws_in 28 (by decide +kernel) (by decide +kernel), ws_in 53 (by decide +kernel) (by decide +kernel), ⟨by decide, by decide, by decide +kernel⟩, by decide⟩
theorem ml_X12_147 : Cond.methodLink "WaxClothModel" 147 yX12_bathes ∈ WS := ws_in 973 (by decide +kernel) (by decide +kernel)
theorem vy_X12_bathes : gV yX12_bathes cX12_bathes 5 none 3 10 := ⟨⟨TX12, 22, rfl⟩, ws_in 976 (by decide +kernel) (by decide +kernel), ws_in 975 (by decide +kernel) (by decide +kernel), ws_in 29 (by decide +kernel) (by decide +kernel), ws_in 53 (by decide +kernel) (by decide +kernel), ⟨by decide, by decide, by decide +kernel⟩, by decide⟩
theorem ml_X12_134 : Cond.methodLink "WaxClothModel" 134 yX12_cracksOn ∈ WS := ws_in 977 (by decide +kernel) (by decide +kernel)
theorem vy_X12_cracksOn : gT yX12_cracksOn cX12_cracksOn 1 (some .int) 1 := ⟨ws_in 979 (by decide +kernel) (by decide +kernel), ws_in 978 (by decide +kernel) (by decide +kernel), ws_in 53 (by decide +kernel) (by decide +kernel), ⟨by decide, by decide, by decide +kernel⟩, by decide⟩
theorem ml_X12_151 : Cond.methodLink "WaxClothModel" 151 yX12_has ∈ WS := ws_in 980 (by decide +kernel) (by decide +kernel)
theorem vy_X12_has : gT yX12_has cX12_has 2 (some .boolean) 2 := ⟨ws_in 982 (by decide +kernel) (by decide +kernel), ws_in 981 (by decide +kernel) (by decide +kernel), ws_in 53 (by decide +kernel) (by decide +kernel), ⟨by decide, by decide, by decide +kernel⟩, by decide⟩
theorem ml_X12_154 : Cond.methodLink "WaxClothModel" 154 yX12_rinses ∈ WS := ws_in 983 (by decide +kernel) (by decide +kernel)
theorem vy_X12_rinses : gV yX12_rinses cX12_rinses 5 none 2 10 := ⟨⟨TX12, 22, rfl⟩, ws_in 986 (by decide +kernel) (by decide +kernel), ws_in 985 (by decide +kernel) (by decide +kernel), ws_in 30 (by decide +kernel) (by decide +kernel), ws_in 53 (by decide +kernel) (by decide +kernel), ⟨by decide, by decide, by decide +kernel⟩, by decide⟩
theorem ml_X12_182 : Cond.methodLink "WaxClothModel" 182 yX12_rightOn ∈ WS := ws_in 987 (by decide +kernel) (by decide +kernel)
theorem vy_X12_rightOn : gV yX12_rightOn cX12_rightOn 4 (some .int) 1 10 := ⟨⟨TX12, 22, rfl⟩, ws_in 990 (by decide +kernel) (by decide +kernel), ws_in 989 (by decide +kernel) (by decide +kernel), ws_in 31 (by decide +kernel) (by decide +kernel), ws_in 53 (by decide +kernel) (by decide +kernel), ⟨by decide, by decide, by decide +kernel⟩, by decide⟩
theorem ml_L_52 : Cond.methodLink "WaxClothLaw" 52 yX12_undo ∈ WS := ws_in 991 (by decide +kernel) (by decide +kernel)
theorem vy_X12_undo : gV yX12_undo cX12_undo 1 (some .int) 0 10 := ⟨⟨TX12, 22, rfl⟩, ws_in 994 (by decide +kernel) (by decide +kernel), ws_in 992 (by decide +kernel) (by decide +kernel), ws_in 993 (by decide +kernel) (by decide +kernel), ws_in 53 (by decide +kernel) (by decide +kernel), ⟨by decide, by decide, by decide +kernel⟩, by decide⟩
theorem ml_L_56 : Cond.methodLink "WaxClothLaw" 56 yX12_wish ∈ WS := ws_in 995 (by decide +kernel) (by decide +kernel)
theorem vy_X12_wish : gV yX12_wish cX12_wish 4 (some .int) 2 10 := ⟨⟨TX12, 22, rfl⟩, ws_in 998 (by decide +kernel) (by decide +kernel), ws_in 996 (by decide +kernel) (by decide +kernel), ws_in 997 (by decide +kernel) (by decide +kernel), ws_in 53 (by decide +kernel) (by decide +kernel), ⟨by decide, by decide, by decide +kernel⟩, by decide⟩
theorem kk_X12_186 : Cond.constantLong "WaxClothModel" 186 (7 : Int64) ∈ WS := ws_in 999 (by decide +kernel) (by decide +kernel)
theorem ml_L_60 : Cond.methodLink "WaxClothLaw" 60 yX12_image ∈ WS := ws_in 1000 (by decide +kernel) (by decide +kernel)
theorem vy_X12_image : gV yX12_image cX12_image 2 (some .int) 1 10 := ⟨⟨TX12, 22, rfl⟩, ws_in 1003 (by decide +kernel) (by decide +kernel), ws_in 1001 (by decide +kernel) (by decide +kernel), ws_in 1002 (by decide +kernel) (by decide +kernel), ws_in 53 (by decide +kernel) (by decide +kernel), ⟨by decide, by decide, by decide +kernel⟩, by decide⟩
theorem ml_L_64 : Cond.methodLink "WaxClothLaw" 64 yX12_restore ∈ WS := ws_in 1004 (by decide +kernel) (by decide +kernel)
theorem vy_X12_restore : gV yX12_restore cX12_restore 2 (some .int) 1 10 := ⟨⟨TX12, 22, rfl⟩, ws_in 1007 (by decide +kernel) (by decide +kernel), ws_in 1005 (by decide +kernel) (by decide +kernel), ws_in 1006 (by decide +kernel) (by decide +kernel), ws_in 53 (by decide +kernel) (by decide +kernel), ⟨by decide, by decide, by decide +kernel⟩, by decide⟩
theorem ml_L_68 : Cond.methodLink "WaxClothLaw" 68 yX12_plan ∈ WS := ws_in 1008 (by decide +kernel) (by decide +kernel)
theorem vy_X12_plan : gV yX12_plan cX12_plan 11 (some .int) 2 10 := ⟨⟨TX12, 22, rfl⟩, ws_in 1011 (by decide +kernel) (by decide +kernel), ws_in 1009 (by decide +kernel) (by decide +kernel), ws_in 1010 (by decide +kernel) (by decide +kernel), ws_in 53 (by decide +kernel) (by decide +kernel), ⟨by decide, by decide, by decide +kernel⟩, by decide⟩
theorem kk_X12_188 : Cond.constantLong "WaxClothModel" 188 (4 : Int64) ∈ WS := ws_in 1012 (by decide +kernel) (by decide +kernel)
theorem ml_X12_190 : Cond.methodLink "WaxClothModel" 190 yX12_doingsThere ∈ WS := ws_in 1013 (by decide +kernel) (by decide +kernel)
theorem vy_X12_doingsThere : gV yX12_doingsThere cX12_doingsThere 1 (some .int) 0 10 := ⟨⟨TX12, 22, rfl⟩, ws_in 1016 (by decide +kernel) (by decide +kernel), ws_in 1015 (by decide +kernel) (by decide +kernel), ws_in 32 (by decide +kernel) (by decide +kernel), ws_in 53 (by decide +kernel) (by decide +kernel), ⟨by decide, by decide, by decide +kernel⟩, by decide⟩
theorem ml_X12_193 : Cond.methodLink "WaxClothModel" 193 yX12_laysAside ∈ WS := ws_in 1017 (by decide +kernel) (by decide +kernel)
theorem vy_X12_laysAside : gV yX12_laysAside cX12_laysAside 1 none 0 10 := ⟨⟨TX12, 22, rfl⟩, ws_in 1020 (by decide +kernel) (by decide +kernel), ws_in 1019 (by decide +kernel) (by decide +kernel), ws_in 33 (by decide +kernel) (by decide +kernel), ws_in 53 (by decide +kernel) (by decide +kernel), ⟨by decide, by decide, by decide +kernel⟩, by decide⟩
theorem ml_X12_196 : Cond.methodLink "WaxClothModel" 196 yX12_doingOf ∈ WS := ws_in 1021 (by decide +kernel) (by decide +kernel)
theorem vy_X12_doingOf : gV yX12_doingOf cX12_doingOf 4 (some .int) 1 10 := ⟨⟨TX12, 22, rfl⟩, ws_in 1024 (by decide +kernel) (by decide +kernel), ws_in 1023 (by decide +kernel) (by decide +kernel), ws_in 34 (by decide +kernel) (by decide +kernel), ws_in 53 (by decide +kernel) (by decide +kernel), ⟨by decide, by decide, by decide +kernel⟩, by decide⟩
theorem ml_X12_199 : Cond.methodLink "WaxClothModel" 199 yX12_bits ∈ WS := ws_in 1025 (by decide +kernel) (by decide +kernel)
theorem vy_X12_bits : gT yX12_bits cX12_bits 3 (some .int) 1 := ⟨ws_in 1027 (by decide +kernel) (by decide +kernel), ws_in 1026 (by decide +kernel) (by decide +kernel), ws_in 53 (by decide +kernel) (by decide +kernel), ⟨by decide, by decide, by decide +kernel⟩, by decide⟩
theorem ml_L_73 : Cond.methodLink "WaxClothLaw" 73 yX12_rows ∈ WS := ws_in 1028 (by decide +kernel) (by decide +kernel)
theorem vy_X12_rows : gV yX12_rows cX12_rows 11 (some .int) 6 10 := ⟨⟨TX12, 22, rfl⟩, ws_in 1031 (by decide +kernel) (by decide +kernel), ws_in 1029 (by decide +kernel) (by decide +kernel), ws_in 1030 (by decide +kernel) (by decide +kernel), ws_in 53 (by decide +kernel) (by decide +kernel), ⟨by decide, by decide, by decide +kernel⟩, by decide⟩
theorem kk_X12_209 : Cond.constantLong "WaxClothModel" 209 (9 : Int64) ∈ WS := ws_in 1032 (by decide +kernel) (by decide +kernel)
theorem ml_X12_206 : Cond.methodLink "WaxClothModel" 206 yX12_power ∈ WS := ws_in 1033 (by decide +kernel) (by decide +kernel)
theorem vy_X12_power : gT yX12_power cX12_power 4 (some .int) 2 := ⟨ws_in 1035 (by decide +kernel) (by decide +kernel), ws_in 1034 (by decide +kernel) (by decide +kernel), ws_in 53 (by decide +kernel) (by decide +kernel), ⟨by decide, by decide, by decide +kernel⟩, by decide⟩
theorem ml_X12_211 : Cond.methodLink "WaxClothModel" 211 yX12_shadeOf ∈ WS := ws_in 1036 (by decide +kernel) (by decide +kernel)
theorem vy_X12_shadeOf : gV yX12_shadeOf cX12_shadeOf 5 (some .int) 3 10 := ⟨⟨TX12, 22, rfl⟩, ws_in 1039 (by decide +kernel) (by decide +kernel), ws_in 1038 (by decide +kernel) (by decide +kernel), ws_in 35 (by decide +kernel) (by decide +kernel), ws_in 53 (by decide +kernel) (by decide +kernel), ⟨by decide, by decide, by decide +kernel⟩, by decide⟩
theorem ml_X12_202 : Cond.methodLink "WaxClothModel" 202 yX12_whitens ∈ WS := ws_in 1040 (by decide +kernel) (by decide +kernel)
theorem vy_X12_whitens : gV yX12_whitens cX12_whitens 3 none 1 10 := ⟨⟨TX12, 22, rfl⟩, ws_in 1043 (by decide +kernel) (by decide +kernel), ws_in 1042 (by decide +kernel) (by decide +kernel), ws_in 36 (by decide +kernel) (by decide +kernel), ws_in 53 (by decide +kernel) (by decide +kernel), ⟨by decide, by decide, by decide +kernel⟩, by decide⟩
theorem ml_L_77 : Cond.methodLink "WaxClothLaw" 77 yX12_shades ∈ WS := ws_in 1044 (by decide +kernel) (by decide +kernel)
theorem vy_X12_shades : gV yX12_shades cX12_shades 6 (some .int) 2 10 := ⟨⟨TX12, 22, rfl⟩, ws_in 1047 (by decide +kernel) (by decide +kernel), ws_in 1045 (by decide +kernel) (by decide +kernel), ws_in 1046 (by decide +kernel) (by decide +kernel), ws_in 53 (by decide +kernel) (by decide +kernel), ⟨by decide, by decide, by decide +kernel⟩, by decide⟩
theorem ml_L_82 : Cond.methodLink "WaxClothLaw" 82 yX12_cracks ∈ WS := ws_in 1048 (by decide +kernel) (by decide +kernel)
theorem vy_X12_cracks : gV yX12_cracks cX12_cracks 18 (some .int) 4 10 := ⟨⟨TX12, 22, rfl⟩, ws_in 1051 (by decide +kernel) (by decide +kernel), ws_in 1049 (by decide +kernel) (by decide +kernel), ws_in 1050 (by decide +kernel) (by decide +kernel), ws_in 53 (by decide +kernel) (by decide +kernel), ⟨by decide, by decide, by decide +kernel⟩, by decide⟩
theorem ml_L_86 : Cond.methodLink "WaxClothLaw" 86 yX12_decades ∈ WS := ws_in 1052 (by decide +kernel) (by decide +kernel)
theorem vy_X12_decades : gV yX12_decades cX12_decades 8 (some .int) 3 10 := ⟨⟨TX12, 22, rfl⟩, ws_in 1055 (by decide +kernel) (by decide +kernel), ws_in 1053 (by decide +kernel) (by decide +kernel), ws_in 1054 (by decide +kernel) (by decide +kernel), ws_in 53 (by decide +kernel) (by decide +kernel), ⟨by decide, by decide, by decide +kernel⟩, by decide⟩
theorem kk_X12_214 : Cond.constantLong "WaxClothModel" 214 (60 : Int64) ∈ WS := ws_in 1056 (by decide +kernel) (by decide +kernel)
theorem kk_X12_216 : Cond.constantLong "WaxClothModel" 216 (999999 : Int64) ∈ WS := ws_in 1057 (by decide +kernel) (by decide +kernel)
theorem kk_X12_218 : Cond.constantLong "WaxClothModel" 218 (16807 : Int64) ∈ WS := ws_in 1058 (by decide +kernel) (by decide +kernel)
theorem kk_X12_220 : Cond.constantLong "WaxClothModel" 220 (2147483647 : Int64) ∈ WS := ws_in 1059 (by decide +kernel) (by decide +kernel)
theorem ml_X12_222 : Cond.methodLink "WaxClothModel" 222 yX12_darkAll ∈ WS := ws_in 1060 (by decide +kernel) (by decide +kernel)
theorem vy_X12_darkAll : gV yX12_darkAll cX12_darkAll 4 (some .int) 1 10 := ⟨⟨TX12, 22, rfl⟩, ws_in 1063 (by decide +kernel) (by decide +kernel), ws_in 1062 (by decide +kernel) (by decide +kernel), ws_in 37 (by decide +kernel) (by decide +kernel), ws_in 53 (by decide +kernel) (by decide +kernel), ⟨by decide, by decide, by decide +kernel⟩, by decide⟩
theorem ml_L_110 : Cond.methodLink "WaxClothLaw" 110 yX12_log ∈ WS := ws_in 1064 (by decide +kernel) (by decide +kernel)
theorem vy_X12_log : gV yX12_log cX12_log 6 (some .int) 3 10 := ⟨⟨TX12, 22, rfl⟩, ws_in 1067 (by decide +kernel) (by decide +kernel), ws_in 1065 (by decide +kernel) (by decide +kernel), ws_in 1066 (by decide +kernel) (by decide +kernel), ws_in 53 (by decide +kernel) (by decide +kernel), ⟨by decide, by decide, by decide +kernel⟩, by decide⟩
theorem ml_X12_225 : Cond.methodLink "WaxClothModel" 225 yX12_isSheet ∈ WS := ws_in 1068 (by decide +kernel) (by decide +kernel)
theorem vy_X12_isSheet : gT yX12_isSheet cX12_isSheet 2 (some .boolean) 2 := ⟨ws_in 1070 (by decide +kernel) (by decide +kernel), ws_in 1069 (by decide +kernel) (by decide +kernel), ws_in 53 (by decide +kernel) (by decide +kernel), ⟨by decide, by decide, by decide +kernel⟩, by decide⟩
theorem ml_X12_228 : Cond.methodLink "WaxClothModel" 228 yX12_found ∈ WS := ws_in 1071 (by decide +kernel) (by decide +kernel)
theorem vy_X12_found : gV yX12_found cX12_found 5 (some .int) 4 10 := ⟨⟨TX12, 22, rfl⟩, ws_in 1074 (by decide +kernel) (by decide +kernel), ws_in 1073 (by decide +kernel) (by decide +kernel), ws_in 38 (by decide +kernel) (by decide +kernel), ws_in 53 (by decide +kernel) (by decide +kernel), ⟨by decide, by decide, by decide +kernel⟩, by decide⟩
theorem ml_L_114 : Cond.methodLink "WaxClothLaw" 114 yX12_ahead ∈ WS := ws_in 1075 (by decide +kernel) (by decide +kernel)
theorem vy_X12_ahead : gV yX12_ahead cX12_ahead 9 (some .int) 6 10 := ⟨⟨TX12, 22, rfl⟩, ws_in 1078 (by decide +kernel) (by decide +kernel), ws_in 1076 (by decide +kernel) (by decide +kernel), ws_in 1077 (by decide +kernel) (by decide +kernel), ws_in 53 (by decide +kernel) (by decide +kernel), ⟨by decide, by decide, by decide +kernel⟩, by decide⟩
theorem ml_X12_232 : Cond.methodLink "WaxClothModel" 232 yX12_areDoings ∈ WS := ws_in 1079 (by decide +kernel) (by decide +kernel)
theorem vy_X12_areDoings : gV yX12_areDoings cX12_areDoings 6 (some .boolean) 3 10 := ⟨⟨TX12, 22, rfl⟩, ws_in 1082 (by decide +kernel) (by decide +kernel), ws_in 1081 (by decide +kernel) (by decide +kernel), ws_in 39 (by decide +kernel) (by decide +kernel), ws_in 53 (by decide +kernel) (by decide +kernel), ⟨by decide, by decide, by decide +kernel⟩, by decide⟩
theorem ml_L_118 : Cond.methodLink "WaxClothLaw" 118 yX12_round ∈ WS := ws_in 1083 (by decide +kernel) (by decide +kernel)
theorem vy_X12_round : gV yX12_round cX12_round 11 (some .int) 5 10 := ⟨⟨TX12, 22, rfl⟩, ws_in 1086 (by decide +kernel) (by decide +kernel), ws_in 1084 (by decide +kernel) (by decide +kernel), ws_in 1085 (by decide +kernel) (by decide +kernel), ws_in 53 (by decide +kernel) (by decide +kernel), ⟨by decide, by decide, by decide +kernel⟩, by decide⟩
theorem ml_X12_245 : Cond.methodLink "WaxClothModel" 245 yX12_goesRound ∈ WS := ws_in 1087 (by decide +kernel) (by decide +kernel)
theorem vy_X12_goesRound : gV yX12_goesRound cX12_goesRound 7 none 4 10 := ⟨⟨TX12, 22, rfl⟩, ws_in 1090 (by decide +kernel) (by decide +kernel), ws_in 1089 (by decide +kernel) (by decide +kernel), ws_in 40 (by decide +kernel) (by decide +kernel), ws_in 53 (by decide +kernel) (by decide +kernel), ⟨by decide, by decide, by decide +kernel⟩, by decide⟩
theorem ml_X12_236 : Cond.methodLink "WaxClothModel" 236 yX12_codeOf ∈ WS := ws_in 1091 (by decide +kernel) (by decide +kernel)
theorem vy_X12_codeOf : gV yX12_codeOf cX12_codeOf 3 (some .int) 1 10 := ⟨⟨TX12, 22, rfl⟩, ws_in 1094 (by decide +kernel) (by decide +kernel), ws_in 1093 (by decide +kernel) (by decide +kernel), ws_in 41 (by decide +kernel) (by decide +kernel), ws_in 53 (by decide +kernel) (by decide +kernel), ⟨by decide, by decide, by decide +kernel⟩, by decide⟩
theorem ml_L_122 : Cond.methodLink "WaxClothLaw" 122 yX12_kinds ∈ WS := ws_in 1095 (by decide +kernel) (by decide +kernel)
theorem vy_X12_kinds : gV yX12_kinds cX12_kinds 11 (some .int) 5 10 := ⟨⟨TX12, 22, rfl⟩, ws_in 1098 (by decide +kernel) (by decide +kernel), ws_in 1096 (by decide +kernel) (by decide +kernel), ws_in 1097 (by decide +kernel) (by decide +kernel), ws_in 53 (by decide +kernel) (by decide +kernel), ⟨by decide, by decide, by decide +kernel⟩, by decide⟩
theorem kk_X12_249 : Cond.constantLong "WaxClothModel" 249 (-1 : Int64) ∈ WS := ws_in 1099 (by decide +kernel) (by decide +kernel)
theorem ml_X12_251 : Cond.methodLink "WaxClothModel" 251 yX12_tryOf ∈ WS := ws_in 1100 (by decide +kernel) (by decide +kernel)
theorem vy_X12_tryOf : gT yX12_tryOf cX12_tryOf 9 (some .int) 2 := ⟨ws_in 1102 (by decide +kernel) (by decide +kernel), ws_in 1101 (by decide +kernel) (by decide +kernel), ws_in 53 (by decide +kernel) (by decide +kernel), ⟨by decide, by decide, by decide +kernel⟩, by decide⟩
theorem ml_L_126 : Cond.methodLink "WaxClothLaw" 126 yX12_wishes ∈ WS := ws_in 1103 (by decide +kernel) (by decide +kernel)
theorem vy_X12_wishes : gV yX12_wishes cX12_wishes 7 (some .int) 3 10 := ⟨⟨TX12, 22, rfl⟩, ws_in 1106 (by decide +kernel) (by decide +kernel), ws_in 1104 (by decide +kernel) (by decide +kernel), ws_in 1105 (by decide +kernel) (by decide +kernel), ws_in 53 (by decide +kernel) (by decide +kernel), ⟨by decide, by decide, by decide +kernel⟩, by decide⟩
theorem ml_L_130 : Cond.methodLink "WaxClothLaw" 130 yX12_count ∈ WS := ws_in 1107 (by decide +kernel) (by decide +kernel)
theorem vy_X12_count : gV yX12_count cX12_count 4 (some .int) 1 10 := ⟨⟨TX12, 22, rfl⟩, ws_in 1110 (by decide +kernel) (by decide +kernel), ws_in 1108 (by decide +kernel) (by decide +kernel), ws_in 1109 (by decide +kernel) (by decide +kernel), ws_in 53 (by decide +kernel) (by decide +kernel), ⟨by decide, by decide, by decide +kernel⟩, by decide⟩
theorem ml_L_90 : Cond.methodLink "WaxClothLaw" 90 yX12_sheet ∈ WS := ws_in 1111 (by decide +kernel) (by decide +kernel)
theorem vy_X12_sheet : gV yX12_sheet cX12_sheet 5 (some .int) 3 10 := ⟨⟨TX12, 22, rfl⟩, ws_in 1114 (by decide +kernel) (by decide +kernel), ws_in 1112 (by decide +kernel) (by decide +kernel), ws_in 1113 (by decide +kernel) (by decide +kernel), ws_in 53 (by decide +kernel) (by decide +kernel), ⟨by decide, by decide, by decide +kernel⟩, by decide⟩
theorem ml_L_94 : Cond.methodLink "WaxClothLaw" 94 yX12_drop ∈ WS := ws_in 1115 (by decide +kernel) (by decide +kernel)
theorem vy_X12_drop : gV yX12_drop cX12_drop 3 (some .int) 1 10 := ⟨⟨TX12, 22, rfl⟩, ws_in 1118 (by decide +kernel) (by decide +kernel), ws_in 1116 (by decide +kernel) (by decide +kernel), ws_in 1117 (by decide +kernel) (by decide +kernel), ws_in 53 (by decide +kernel) (by decide +kernel), ⟨by decide, by decide, by decide +kernel⟩, by decide⟩
theorem ml_L_101 : Cond.methodLink "WaxClothLaw" 101 yX12_item ∈ WS := ws_in 1119 (by decide +kernel) (by decide +kernel)
theorem vy_X12_item : gV yX12_item cX12_item 7 (some .long) 4 10 := ⟨⟨TX12, 22, rfl⟩, ws_in 1122 (by decide +kernel) (by decide +kernel), ws_in 1120 (by decide +kernel) (by decide +kernel), ws_in 1121 (by decide +kernel) (by decide +kernel), ws_in 53 (by decide +kernel) (by decide +kernel), ⟨by decide, by decide, by decide +kernel⟩, by decide⟩
theorem ml_X12_254 : Cond.methodLink "WaxClothModel" 254 yX12_cut ∈ WS := ws_in 1123 (by decide +kernel) (by decide +kernel)
theorem vy_X12_cut : gT yX12_cut cX12_cut 3 (some .long) 2 := ⟨ws_in 1125 (by decide +kernel) (by decide +kernel), ws_in 1124 (by decide +kernel) (by decide +kernel), ws_in 53 (by decide +kernel) (by decide +kernel), ⟨by decide, by decide, by decide +kernel⟩, by decide⟩
theorem ml_L_106 : Cond.methodLink "WaxClothLaw" 106 yX12_copy ∈ WS := ws_in 1126 (by decide +kernel) (by decide +kernel)
theorem vy_X12_copy : gV yX12_copy cX12_copy 8 (some .int) 5 10 := ⟨⟨TX12, 22, rfl⟩, ws_in 1129 (by decide +kernel) (by decide +kernel), ws_in 1127 (by decide +kernel) (by decide +kernel), ws_in 1128 (by decide +kernel) (by decide +kernel), ws_in 53 (by decide +kernel) (by decide +kernel), ⟨by decide, by decide, by decide +kernel⟩, by decide⟩
theorem kk_L_95 : Cond.constantLong "WaxClothLaw" 95 (4294967295 : Int64) ∈ WS := ws_in 1130 (by decide +kernel) (by decide +kernel)
theorem ac_n : Cond.native arraycopyName ∈ WS := ws_in 388 (by decide +kernel) (by decide +kernel)
theorem ac_s : Cond.static arraycopyName ∈ WS := ws_in 387 (by decide +kernel) (by decide +kernel)
theorem ac_i : Cond.initialized "java/lang/System" ∈ WS := ws_in 55 (by decide +kernel) (by decide +kernel)
theorem mx_s : Cond.static Lib.Math.max.name ∈ WS := ws_in 411 (by decide +kernel) (by decide +kernel)
theorem mn_s : Cond.static Lib.Math.min.name ∈ WS := ws_in 468 (by decide +kernel) (by decide +kernel)
theorem ma_i : Cond.initialized "java/lang/Math" ∈ WS := ws_in 57 (by decide +kernel) (by decide +kernel)
theorem mx_c : Cond.code Lib.Math.max.name Lib.Math.max.code 2 (some .int) ∈ WS := ws_in 412 (by decide +kernel) (by decide +kernel)
theorem mn_c : Cond.code Lib.Math.min.name Lib.Math.min.code 2 (some .int) ∈ WS := ws_in 469 (by decide +kernel) (by decide +kernel)
theorem cp_X2_40 : gCp "WaxCloth$Cloth" 40 := ⟨ml_X2_40, ac_n, ac_s, ac_i⟩
theorem mx_X9_13 : gMx "WaxCloth$State" 13 := ⟨ml_X9_13, mx_s, ma_i, mx_c⟩
theorem mn_X2_69 : gMn "WaxCloth$Cloth" 69 := ⟨ml_X2_69, mn_s, ma_i, mn_c⟩
theorem cp_X4_23 : gCp "WaxCloth$Past" 23 := ⟨ml_X4_23, ac_n, ac_s, ac_i⟩
theorem mn_X4_29 : gMn "WaxCloth$Past" 29 := ⟨ml_X4_29, mn_s, ma_i, mn_c⟩
theorem mx_X2_100 : gMx "WaxCloth$Cloth" 100 := ⟨ml_X2_100, mx_s, ma_i, mx_c⟩
theorem cp_X5_28 : gCp "WaxCloth$Planner" 28 := ⟨ml_X5_28, ac_n, ac_s, ac_i⟩
theorem cp_X0_48 : gCp "WaxCloth$Baths" 48 := ⟨ml_X0_48, ac_n, ac_s, ac_i⟩
theorem mx_X1_89 : gMx "WaxCloth$Chances" 89 := ⟨ml_X1_89, mx_s, ma_i, mx_c⟩
theorem cp_X1_53 : gCp "WaxCloth$Chances" 53 := ⟨ml_X1_53, ac_n, ac_s, ac_i⟩
theorem cp_X11_283 : gCp "WaxCloth" 283 := ⟨ml_X11_283, ac_n, ac_s, ac_i⟩
theorem mx_X7_29 : gMx "WaxCloth$Rounds" 29 := ⟨ml_X7_29, mx_s, ma_i, mx_c⟩
theorem mx_X3_30 : gMx "WaxCloth$Kind" 30 := ⟨ml_X3_30, mx_s, ma_i, mx_c⟩
end
section
theorem dX0_init_0 : decode cX0_init 0 = .ok (.aload_n 0, 1) := by decide +kernel
theorem dX0_init_1 : decode cX0_init 1 = .ok (.invokespecial 3, 3) := by decide +kernel
theorem dX0_init_4 : decode cX0_init 4 = .ok (.aload_n 0, 1) := by decide +kernel
theorem dX0_init_5 : decode cX0_init 5 = .ok (.iconst 5, 1) := by decide +kernel
theorem dX0_init_6 : decode cX0_init 6 = .ok (.newarray .int, 2) := by decide +kernel
theorem dX0_init_8 : decode cX0_init 8 = .ok (.putfield 9, 3) := by decide +kernel
theorem dX0_init_11 : decode cX0_init 11 = .ok (.aload_n 0, 1) := by decide +kernel
theorem dX0_init_12 : decode cX0_init 12 = .ok (.iconst 5, 1) := by decide +kernel
theorem dX0_init_13 : decode cX0_init 13 = .ok (.newarray .int, 2) := by decide +kernel
theorem dX0_init_15 : decode cX0_init 15 = .ok (.putfield 15, 3) := by decide +kernel
theorem dX0_init_18 : decode cX0_init 18 = .ok (.aload_n 0, 1) := by decide +kernel
theorem dX0_init_19 : decode cX0_init 19 = .ok (.bipush 64, 2) := by decide +kernel
theorem dX0_init_21 : decode cX0_init 21 = .ok (.newarray .long, 2) := by decide +kernel
theorem dX0_init_23 : decode cX0_init 23 = .ok (.putfield 20, 3) := by decide +kernel
theorem dX0_init_26 : decode cX0_init 26 = .ok (.return_, 1) := by decide +kernel
theorem dX0_walk_0 : decode cX0_walk 0 = .ok (.aload_n 0, 1) := by decide +kernel
theorem dX0_walk_1 : decode cX0_walk 1 = .ok (.iconst 0, 1) := by decide +kernel
theorem dX0_walk_2 : decode cX0_walk 2 = .ok (.putfield 24, 3) := by decide +kernel
theorem dX0_walk_5 : decode cX0_walk 5 = .ok (.aload_n 0, 1) := by decide +kernel
theorem dX0_walk_6 : decode cX0_walk 6 = .ok (.iconst 0, 1) := by decide +kernel
theorem dX0_walk_7 : decode cX0_walk 7 = .ok (.putfield 28, 3) := by decide +kernel
theorem dX0_walk_10 : decode cX0_walk 10 = .ok (.iconst 0, 1) := by decide +kernel
theorem dX0_walk_11 : decode cX0_walk 11 = .ok (.istore 5, 2) := by decide +kernel
theorem dX0_walk_13 : decode cX0_walk 13 = .ok (.iload 5, 2) := by decide +kernel
theorem dX0_walk_15 : decode cX0_walk 15 = .ok (.aload_n 0, 1) := by decide +kernel
theorem dX0_walk_16 : decode cX0_walk 16 = .ok (.getfield 20, 3) := by decide +kernel
theorem dX0_walk_19 : decode cX0_walk 19 = .ok (.arraylength, 1) := by decide +kernel
theorem dX0_walk_20 : decode cX0_walk 20 = .ok (.if_icmp .ge 17, 3) := by decide +kernel
theorem dX0_walk_23 : decode cX0_walk 23 = .ok (.aload_n 0, 1) := by decide +kernel
theorem dX0_walk_24 : decode cX0_walk 24 = .ok (.getfield 20, 3) := by decide +kernel
theorem dX0_walk_27 : decode cX0_walk 27 = .ok (.iload 5, 2) := by decide +kernel
theorem dX0_walk_29 : decode cX0_walk 29 = .ok (.lconst 0, 1) := by decide +kernel
theorem dX0_walk_30 : decode cX0_walk 30 = .ok (.lastore, 1) := by decide +kernel
theorem dX0_walk_31 : decode cX0_walk 31 = .ok (.iinc 5 1, 3) := by decide +kernel
theorem dX0_walk_34 : decode cX0_walk 34 = .ok (.goto (-21), 3) := by decide +kernel
theorem dX0_walk_37 : decode cX0_walk 37 = .ok (.aload_n 0, 1) := by decide +kernel
theorem dX0_walk_38 : decode cX0_walk 38 = .ok (.aload_n 1, 1) := by decide +kernel
theorem dX0_walk_39 : decode cX0_walk 39 = .ok (.iload_n 2, 1) := by decide +kernel
theorem dX0_walk_40 : decode cX0_walk 40 = .ok (.iconst 0, 1) := by decide +kernel
theorem dX0_walk_41 : decode cX0_walk 41 = .ok (.iconst 0, 1) := by decide +kernel
theorem dX0_walk_42 : decode cX0_walk 42 = .ok (.iload_n 3, 1) := by decide +kernel
theorem dX0_walk_43 : decode cX0_walk 43 = .ok (.iload 4, 2) := by decide +kernel
theorem dX0_walk_45 : decode cX0_walk 45 = .ok (.invokevirtual 31, 3) := by decide +kernel
theorem dX0_walk_48 : decode cX0_walk 48 = .ok (.return_, 1) := by decide +kernel
theorem dX0_bathe_0 : decode cX0_bathe 0 = .ok (.iload 4, 2) := by decide +kernel
theorem dX0_bathe_2 : decode cX0_bathe 2 = .ok (.iload 5, 2) := by decide +kernel
theorem dX0_bathe_4 : decode cX0_bathe 4 = .ok (.if_icmp .ge 9, 3) := by decide +kernel
theorem dX0_bathe_7 : decode cX0_bathe 7 = .ok (.iload 4, 2) := by decide +kernel
theorem dX0_bathe_9 : decode cX0_bathe 9 = .ok (.iconst 5, 1) := by decide +kernel
theorem dX0_bathe_10 : decode cX0_bathe 10 = .ok (.if_icmp .lt 13, 3) := by decide +kernel
theorem dX0_bathe_13 : decode cX0_bathe 13 = .ok (.aload_n 0, 1) := by decide +kernel
theorem dX0_bathe_14 : decode cX0_bathe 14 = .ok (.iload_n 3, 1) := by decide +kernel
theorem dX0_bathe_15 : decode cX0_bathe 15 = .ok (.iload 5, 2) := by decide +kernel
theorem dX0_bathe_17 : decode cX0_bathe 17 = .ok (.iload 6, 2) := by decide +kernel
theorem dX0_bathe_19 : decode cX0_bathe 19 = .ok (.invokevirtual 35, 3) := by decide +kernel
theorem dX0_bathe_22 : decode cX0_bathe 22 = .ok (.return_, 1) := by decide +kernel
theorem dX0_bathe_23 : decode cX0_bathe 23 = .ok (.iconst 0, 1) := by decide +kernel
theorem dX0_bathe_24 : decode cX0_bathe 24 = .ok (.istore 7, 2) := by decide +kernel
theorem dX0_bathe_26 : decode cX0_bathe 26 = .ok (.iload 7, 2) := by decide +kernel
theorem dX0_bathe_28 : decode cX0_bathe 28 = .ok (.aload_n 1, 1) := by decide +kernel
theorem dX0_bathe_29 : decode cX0_bathe 29 = .ok (.getfield 39, 3) := by decide +kernel
theorem dX0_bathe_32 : decode cX0_bathe 32 = .ok (.if_icmp .ge 40, 3) := by decide +kernel
theorem dX0_bathe_35 : decode cX0_bathe 35 = .ok (.aload_n 0, 1) := by decide +kernel
theorem dX0_bathe_36 : decode cX0_bathe 36 = .ok (.getfield 15, 3) := by decide +kernel
theorem dX0_bathe_39 : decode cX0_bathe 39 = .ok (.iload 4, 2) := by decide +kernel
theorem dX0_bathe_41 : decode cX0_bathe 41 = .ok (.iload 7, 2) := by decide +kernel
theorem dX0_bathe_43 : decode cX0_bathe 43 = .ok (.iastore, 1) := by decide +kernel
theorem dX0_bathe_44 : decode cX0_bathe 44 = .ok (.aload_n 0, 1) := by decide +kernel
theorem dX0_bathe_45 : decode cX0_bathe 45 = .ok (.aload_n 1, 1) := by decide +kernel
theorem dX0_bathe_46 : decode cX0_bathe 46 = .ok (.iload_n 2, 1) := by decide +kernel
theorem dX0_bathe_47 : decode cX0_bathe 47 = .ok (.aload_n 1, 1) := by decide +kernel
theorem dX0_bathe_48 : decode cX0_bathe 48 = .ok (.iload_n 2, 1) := by decide +kernel
theorem dX0_bathe_49 : decode cX0_bathe 49 = .ok (.iload_n 3, 1) := by decide +kernel
theorem dX0_bathe_50 : decode cX0_bathe 50 = .ok (.iload 7, 2) := by decide +kernel
theorem dX0_bathe_52 : decode cX0_bathe 52 = .ok (.invokevirtual 44, 3) := by decide +kernel
theorem dX0_bathe_55 : decode cX0_bathe 55 = .ok (.iload 4, 2) := by decide +kernel
theorem dX0_bathe_57 : decode cX0_bathe 57 = .ok (.iconst 1, 1) := by decide +kernel
theorem dX0_bathe_58 : decode cX0_bathe 58 = .ok (.iadd, 1) := by decide +kernel
theorem dX0_bathe_59 : decode cX0_bathe 59 = .ok (.iload 5, 2) := by decide +kernel
theorem dX0_bathe_61 : decode cX0_bathe 61 = .ok (.iload 6, 2) := by decide +kernel
theorem dX0_bathe_63 : decode cX0_bathe 63 = .ok (.invokevirtual 31, 3) := by decide +kernel
theorem dX0_bathe_66 : decode cX0_bathe 66 = .ok (.iinc 7 1, 3) := by decide +kernel
theorem dX0_bathe_69 : decode cX0_bathe 69 = .ok (.goto (-43), 3) := by decide +kernel
theorem dX0_bathe_72 : decode cX0_bathe 72 = .ok (.return_, 1) := by decide +kernel
theorem dX0_note_0 : decode cX0_note 0 = .ok (.lconst 1, 1) := by decide +kernel
theorem dX0_note_1 : decode cX0_note 1 = .ok (.iload_n 1, 1) := by decide +kernel
theorem dX0_note_2 : decode cX0_note 2 = .ok (.bipush 63, 2) := by decide +kernel
theorem dX0_note_4 : decode cX0_note 4 = .ok (.iand, 1) := by decide +kernel
theorem dX0_note_5 : decode cX0_note 5 = .ok (.lshl, 1) := by decide +kernel
theorem dX0_note_6 : decode cX0_note 6 = .ok (.lstore 4, 2) := by decide +kernel
theorem dX0_note_8 : decode cX0_note 8 = .ok (.iload_n 1, 1) := by decide +kernel
theorem dX0_note_9 : decode cX0_note 9 = .ok (.bipush 6, 2) := by decide +kernel
theorem dX0_note_11 : decode cX0_note 11 = .ok (.ishr, 1) := by decide +kernel
theorem dX0_note_12 : decode cX0_note 12 = .ok (.istore 6, 2) := by decide +kernel
theorem dX0_note_14 : decode cX0_note 14 = .ok (.aload_n 0, 1) := by decide +kernel
theorem dX0_note_15 : decode cX0_note 15 = .ok (.getfield 20, 3) := by decide +kernel
theorem dX0_note_18 : decode cX0_note 18 = .ok (.iload 6, 2) := by decide +kernel
theorem dX0_note_20 : decode cX0_note 20 = .ok (.laload, 1) := by decide +kernel
theorem dX0_note_21 : decode cX0_note 21 = .ok (.lload 4, 2) := by decide +kernel
theorem dX0_note_23 : decode cX0_note 23 = .ok (.land, 1) := by decide +kernel
theorem dX0_note_24 : decode cX0_note 24 = .ok (.lconst 0, 1) := by decide +kernel
theorem dX0_note_25 : decode cX0_note 25 = .ok (.lcmp, 1) := by decide +kernel
theorem dX0_note_26 : decode cX0_note 26 = .ok (.ifCond .ne 25, 3) := by decide +kernel
theorem dX0_note_29 : decode cX0_note 29 = .ok (.aload_n 0, 1) := by decide +kernel
theorem dX0_note_30 : decode cX0_note 30 = .ok (.getfield 20, 3) := by decide +kernel
theorem dX0_note_33 : decode cX0_note 33 = .ok (.iload 6, 2) := by decide +kernel
theorem dX0_note_35 : decode cX0_note 35 = .ok (.dup2, 1) := by decide +kernel
theorem dX0_note_36 : decode cX0_note 36 = .ok (.laload, 1) := by decide +kernel
theorem dX0_note_37 : decode cX0_note 37 = .ok (.lload 4, 2) := by decide +kernel
theorem dX0_note_39 : decode cX0_note 39 = .ok (.lor, 1) := by decide +kernel
theorem dX0_note_40 : decode cX0_note 40 = .ok (.lastore, 1) := by decide +kernel
theorem dX0_note_41 : decode cX0_note 41 = .ok (.aload_n 0, 1) := by decide +kernel
theorem dX0_note_42 : decode cX0_note 42 = .ok (.dup, 1) := by decide +kernel
theorem dX0_note_43 : decode cX0_note 43 = .ok (.getfield 28, 3) := by decide +kernel
theorem dX0_note_46 : decode cX0_note 46 = .ok (.iconst 1, 1) := by decide +kernel
theorem dX0_note_47 : decode cX0_note 47 = .ok (.iadd, 1) := by decide +kernel
theorem dX0_note_48 : decode cX0_note 48 = .ok (.putfield 28, 3) := by decide +kernel
theorem dX0_note_51 : decode cX0_note 51 = .ok (.iload_n 1, 1) := by decide +kernel
theorem dX0_note_52 : decode cX0_note 52 = .ok (.iload_n 3, 1) := by decide +kernel
theorem dX0_note_53 : decode cX0_note 53 = .ok (.if_icmp .eq 4, 3) := by decide +kernel
theorem dX0_note_56 : decode cX0_note 56 = .ok (.return_, 1) := by decide +kernel
theorem dX0_note_57 : decode cX0_note 57 = .ok (.aload_n 0, 1) := by decide +kernel
theorem dX0_note_58 : decode cX0_note 58 = .ok (.getfield 24, 3) := by decide +kernel
theorem dX0_note_61 : decode cX0_note 61 = .ok (.ifCond .ne 17, 3) := by decide +kernel
theorem dX0_note_64 : decode cX0_note 64 = .ok (.aload_n 0, 1) := by decide +kernel
theorem dX0_note_65 : decode cX0_note 65 = .ok (.getfield 15, 3) := by decide +kernel
theorem dX0_note_68 : decode cX0_note 68 = .ok (.iconst 0, 1) := by decide +kernel
theorem dX0_note_69 : decode cX0_note 69 = .ok (.aload_n 0, 1) := by decide +kernel
theorem dX0_note_70 : decode cX0_note 70 = .ok (.getfield 9, 3) := by decide +kernel
theorem dX0_note_73 : decode cX0_note 73 = .ok (.iconst 0, 1) := by decide +kernel
theorem dX0_note_74 : decode cX0_note 74 = .ok (.iload_n 2, 1) := by decide +kernel
theorem dX0_note_75 : decode cX0_note 75 = .ok (.invokestatic 48, 3) := by decide +kernel
theorem dX0_note_78 : decode cX0_note 78 = .ok (.aload_n 0, 1) := by decide +kernel
theorem dX0_note_79 : decode cX0_note 79 = .ok (.dup, 1) := by decide +kernel
theorem dX0_note_80 : decode cX0_note 80 = .ok (.getfield 24, 3) := by decide +kernel
theorem dX0_note_83 : decode cX0_note 83 = .ok (.iconst 1, 1) := by decide +kernel
theorem dX0_note_84 : decode cX0_note 84 = .ok (.iadd, 1) := by decide +kernel
theorem dX0_note_85 : decode cX0_note 85 = .ok (.putfield 24, 3) := by decide +kernel
theorem dX0_note_88 : decode cX0_note 88 = .ok (.return_, 1) := by decide +kernel
theorem dX1_init_0 : decode cX1_init 0 = .ok (.aload_n 0, 1) := by decide +kernel
theorem dX1_init_1 : decode cX1_init 1 = .ok (.invokespecial 3, 3) := by decide +kernel
theorem dX1_init_4 : decode cX1_init 4 = .ok (.aload_n 0, 1) := by decide +kernel
theorem dX1_init_5 : decode cX1_init 5 = .ok (.bipush 9, 2) := by decide +kernel
theorem dX1_init_7 : decode cX1_init 7 = .ok (.newarray .int, 2) := by decide +kernel
theorem dX1_init_9 : decode cX1_init 9 = .ok (.putfield 11, 3) := by decide +kernel
theorem dX1_init_12 : decode cX1_init 12 = .ok (.aload_n 0, 1) := by decide +kernel
theorem dX1_init_13 : decode cX1_init 13 = .ok (.bipush 8, 2) := by decide +kernel
theorem dX1_init_15 : decode cX1_init 15 = .ok (.newarray .int, 2) := by decide +kernel
theorem dX1_init_17 : decode cX1_init 17 = .ok (.putfield 17, 3) := by decide +kernel
theorem dX1_init_20 : decode cX1_init 20 = .ok (.return_, 1) := by decide +kernel
theorem dX1_crack_0 : decode cX1_crack 0 = .ok (.iconst 0, 1) := by decide +kernel
theorem dX1_crack_1 : decode cX1_crack 1 = .ok (.istore 5, 2) := by decide +kernel
theorem dX1_crack_3 : decode cX1_crack 3 = .ok (.iload 5, 2) := by decide +kernel
theorem dX1_crack_5 : decode cX1_crack 5 = .ok (.aload_n 0, 1) := by decide +kernel
theorem dX1_crack_6 : decode cX1_crack 6 = .ok (.getfield 11, 3) := by decide +kernel
theorem dX1_crack_9 : decode cX1_crack 9 = .ok (.arraylength, 1) := by decide +kernel
theorem dX1_crack_10 : decode cX1_crack 10 = .ok (.if_icmp .ge 17, 3) := by decide +kernel
theorem dX1_crack_13 : decode cX1_crack 13 = .ok (.aload_n 0, 1) := by decide +kernel
theorem dX1_crack_14 : decode cX1_crack 14 = .ok (.getfield 11, 3) := by decide +kernel
theorem dX1_crack_17 : decode cX1_crack 17 = .ok (.iload 5, 2) := by decide +kernel
theorem dX1_crack_19 : decode cX1_crack 19 = .ok (.iconst 0, 1) := by decide +kernel
theorem dX1_crack_20 : decode cX1_crack 20 = .ok (.iastore, 1) := by decide +kernel
theorem dX1_crack_21 : decode cX1_crack 21 = .ok (.iinc 5 1, 3) := by decide +kernel
theorem dX1_crack_24 : decode cX1_crack 24 = .ok (.goto (-21), 3) := by decide +kernel
theorem dX1_crack_27 : decode cX1_crack 27 = .ok (.aload_n 0, 1) := by decide +kernel
theorem dX1_crack_28 : decode cX1_crack 28 = .ok (.getfield 11, 3) := by decide +kernel
theorem dX1_crack_31 : decode cX1_crack 31 = .ok (.iconst 0, 1) := by decide +kernel
theorem dX1_crack_32 : decode cX1_crack 32 = .ok (.iconst 1, 1) := by decide +kernel
theorem dX1_crack_33 : decode cX1_crack 33 = .ok (.iastore, 1) := by decide +kernel
theorem dX1_crack_34 : decode cX1_crack 34 = .ok (.iconst 1, 1) := by decide +kernel
theorem dX1_crack_35 : decode cX1_crack 35 = .ok (.istore 5, 2) := by decide +kernel
theorem dX1_crack_37 : decode cX1_crack 37 = .ok (.iconst 0, 1) := by decide +kernel
theorem dX1_crack_38 : decode cX1_crack 38 = .ok (.istore 6, 2) := by decide +kernel
theorem dX1_crack_40 : decode cX1_crack 40 = .ok (.iload 6, 2) := by decide +kernel
theorem dX1_crack_42 : decode cX1_crack 42 = .ok (.aload_n 1, 1) := by decide +kernel
theorem dX1_crack_43 : decode cX1_crack 43 = .ok (.getfield 20, 3) := by decide +kernel
theorem dX1_crack_46 : decode cX1_crack 46 = .ok (.if_icmp .ge 131, 3) := by decide +kernel
theorem dX1_crack_49 : decode cX1_crack 49 = .ok (.aload_n 1, 1) := by decide +kernel
theorem dX1_crack_50 : decode cX1_crack 50 = .ok (.getfield 24, 3) := by decide +kernel
theorem dX1_crack_53 : decode cX1_crack 53 = .ok (.iload 6, 2) := by decide +kernel
theorem dX1_crack_55 : decode cX1_crack 55 = .ok (.iaload, 1) := by decide +kernel
theorem dX1_crack_56 : decode cX1_crack 56 = .ok (.istore 7, 2) := by decide +kernel
theorem dX1_crack_58 : decode cX1_crack 58 = .ok (.iload 7, 2) := by decide +kernel
theorem dX1_crack_60 : decode cX1_crack 60 = .ok (.invokestatic 25, 3) := by decide +kernel
theorem dX1_crack_63 : decode cX1_crack 63 = .ok (.ifCond .le 7, 3) := by decide +kernel
theorem dX1_crack_66 : decode cX1_crack 66 = .ok (.iconst 1, 1) := by decide +kernel
theorem dX1_crack_67 : decode cX1_crack 67 = .ok (.goto 4, 3) := by decide +kernel
theorem dX1_crack_70 : decode cX1_crack 70 = .ok (.iconst 0, 1) := by decide +kernel
theorem dX1_crack_71 : decode cX1_crack 71 = .ok (.istore 8, 2) := by decide +kernel
theorem dX1_crack_73 : decode cX1_crack 73 = .ok (.iload 8, 2) := by decide +kernel
theorem dX1_crack_75 : decode cX1_crack 75 = .ok (.ifCond .eq 8, 3) := by decide +kernel
theorem dX1_crack_78 : decode cX1_crack 78 = .ok (.iload 4, 2) := by decide +kernel
theorem dX1_crack_80 : decode cX1_crack 80 = .ok (.goto 4, 3) := by decide +kernel
theorem dX1_crack_83 : decode cX1_crack 83 = .ok (.iconst 1, 1) := by decide +kernel
theorem dX1_crack_84 : decode cX1_crack 84 = .ok (.istore 9, 2) := by decide +kernel
theorem dX1_crack_86 : decode cX1_crack 86 = .ok (.iload 8, 2) := by decide +kernel
theorem dX1_crack_88 : decode cX1_crack 88 = .ok (.ifCond .eq 11, 3) := by decide +kernel
theorem dX1_crack_91 : decode cX1_crack 91 = .ok (.bipush 10, 2) := by decide +kernel
theorem dX1_crack_93 : decode cX1_crack 93 = .ok (.iload 4, 2) := by decide +kernel
theorem dX1_crack_95 : decode cX1_crack 95 = .ok (.isub, 1) := by decide +kernel
theorem dX1_crack_96 : decode cX1_crack 96 = .ok (.goto 4, 3) := by decide +kernel
theorem dX1_crack_99 : decode cX1_crack 99 = .ok (.iconst 0, 1) := by decide +kernel
theorem dX1_crack_100 : decode cX1_crack 100 = .ok (.istore 10, 2) := by decide +kernel
theorem dX1_crack_102 : decode cX1_crack 102 = .ok (.aload_n 1, 1) := by decide +kernel
theorem dX1_crack_103 : decode cX1_crack 103 = .ok (.iload 6, 2) := by decide +kernel
theorem dX1_crack_105 : decode cX1_crack 105 = .ok (.aload_n 1, 1) := by decide +kernel
theorem dX1_crack_106 : decode cX1_crack 106 = .ok (.iload 6, 2) := by decide +kernel
theorem dX1_crack_108 : decode cX1_crack 108 = .ok (.iload 7, 2) := by decide +kernel
theorem dX1_crack_110 : decode cX1_crack 110 = .ok (.iload_n 2, 1) := by decide +kernel
theorem dX1_crack_111 : decode cX1_crack 111 = .ok (.invokevirtual 31, 3) := by decide +kernel
theorem dX1_crack_114 : decode cX1_crack 114 = .ok (.invokevirtual 35, 3) := by decide +kernel
theorem dX1_crack_117 : decode cX1_crack 117 = .ok (.istore 11, 2) := by decide +kernel
theorem dX1_crack_119 : decode cX1_crack 119 = .ok (.aload_n 1, 1) := by decide +kernel
theorem dX1_crack_120 : decode cX1_crack 120 = .ok (.iload 6, 2) := by decide +kernel
theorem dX1_crack_122 : decode cX1_crack 122 = .ok (.iload 7, 2) := by decide +kernel
theorem dX1_crack_124 : decode cX1_crack 124 = .ok (.invokevirtual 35, 3) := by decide +kernel
theorem dX1_crack_127 : decode cX1_crack 127 = .ok (.istore 12, 2) := by decide +kernel
theorem dX1_crack_129 : decode cX1_crack 129 = .ok (.aload_n 0, 1) := by decide +kernel
theorem dX1_crack_130 : decode cX1_crack 130 = .ok (.iload 11, 2) := by decide +kernel
theorem dX1_crack_132 : decode cX1_crack 132 = .ok (.ifCond .eq 8, 3) := by decide +kernel
theorem dX1_crack_135 : decode cX1_crack 135 = .ok (.iload 9, 2) := by decide +kernel
theorem dX1_crack_137 : decode cX1_crack 137 = .ok (.goto 4, 3) := by decide +kernel
theorem dX1_crack_140 : decode cX1_crack 140 = .ok (.iconst 0, 1) := by decide +kernel
theorem dX1_crack_141 : decode cX1_crack 141 = .ok (.iload 12, 2) := by decide +kernel
theorem dX1_crack_143 : decode cX1_crack 143 = .ok (.ifCond .eq 8, 3) := by decide +kernel
theorem dX1_crack_146 : decode cX1_crack 146 = .ok (.iload 10, 2) := by decide +kernel
theorem dX1_crack_148 : decode cX1_crack 148 = .ok (.goto 4, 3) := by decide +kernel
theorem dX1_crack_151 : decode cX1_crack 151 = .ok (.iconst 0, 1) := by decide +kernel
theorem dX1_crack_152 : decode cX1_crack 152 = .ok (.iadd, 1) := by decide +kernel
theorem dX1_crack_153 : decode cX1_crack 153 = .ok (.iload 9, 2) := by decide +kernel
theorem dX1_crack_155 : decode cX1_crack 155 = .ok (.iload 10, 2) := by decide +kernel
theorem dX1_crack_157 : decode cX1_crack 157 = .ok (.iadd, 1) := by decide +kernel
theorem dX1_crack_158 : decode cX1_crack 158 = .ok (.invokevirtual 39, 3) := by decide +kernel
theorem dX1_crack_161 : decode cX1_crack 161 = .ok (.iload 5, 2) := by decide +kernel
theorem dX1_crack_163 : decode cX1_crack 163 = .ok (.iload 9, 2) := by decide +kernel
theorem dX1_crack_165 : decode cX1_crack 165 = .ok (.iload 10, 2) := by decide +kernel
theorem dX1_crack_167 : decode cX1_crack 167 = .ok (.iadd, 1) := by decide +kernel
theorem dX1_crack_168 : decode cX1_crack 168 = .ok (.imul, 1) := by decide +kernel
theorem dX1_crack_169 : decode cX1_crack 169 = .ok (.istore 5, 2) := by decide +kernel
theorem dX1_crack_171 : decode cX1_crack 171 = .ok (.iinc 6 1, 3) := by decide +kernel
theorem dX1_crack_174 : decode cX1_crack 174 = .ok (.goto (-134), 3) := by decide +kernel
theorem dX1_crack_177 : decode cX1_crack 177 = .ok (.iconst 0, 1) := by decide +kernel
theorem dX1_crack_178 : decode cX1_crack 178 = .ok (.istore 6, 2) := by decide +kernel
theorem dX1_crack_180 : decode cX1_crack 180 = .ok (.iload_n 3, 1) := by decide +kernel
theorem dX1_crack_181 : decode cX1_crack 181 = .ok (.istore 7, 2) := by decide +kernel
theorem dX1_crack_183 : decode cX1_crack 183 = .ok (.iload 7, 2) := by decide +kernel
theorem dX1_crack_185 : decode cX1_crack 185 = .ok (.aload_n 0, 1) := by decide +kernel
theorem dX1_crack_186 : decode cX1_crack 186 = .ok (.getfield 11, 3) := by decide +kernel
theorem dX1_crack_189 : decode cX1_crack 189 = .ok (.arraylength, 1) := by decide +kernel
theorem dX1_crack_190 : decode cX1_crack 190 = .ok (.if_icmp .ge 21, 3) := by decide +kernel
theorem dX1_crack_193 : decode cX1_crack 193 = .ok (.iload 6, 2) := by decide +kernel
theorem dX1_crack_195 : decode cX1_crack 195 = .ok (.aload_n 0, 1) := by decide +kernel
theorem dX1_crack_196 : decode cX1_crack 196 = .ok (.getfield 11, 3) := by decide +kernel
theorem dX1_crack_199 : decode cX1_crack 199 = .ok (.iload 7, 2) := by decide +kernel
theorem dX1_crack_201 : decode cX1_crack 201 = .ok (.iaload, 1) := by decide +kernel
theorem dX1_crack_202 : decode cX1_crack 202 = .ok (.iadd, 1) := by decide +kernel
theorem dX1_crack_203 : decode cX1_crack 203 = .ok (.istore 6, 2) := by decide +kernel
theorem dX1_crack_205 : decode cX1_crack 205 = .ok (.iinc 7 1, 3) := by decide +kernel
theorem dX1_crack_208 : decode cX1_crack 208 = .ok (.goto (-25), 3) := by decide +kernel
theorem dX1_crack_211 : decode cX1_crack 211 = .ok (.iload 5, 2) := by decide +kernel
theorem dX1_crack_213 : decode cX1_crack 213 = .ok (.iload 6, 2) := by decide +kernel
theorem dX1_crack_215 : decode cX1_crack 215 = .ok (.invokestatic 43, 3) := by decide +kernel
theorem dX1_crack_218 : decode cX1_crack 218 = .ok (.istore 7, 2) := by decide +kernel
theorem dX1_crack_220 : decode cX1_crack 220 = .ok (.aload_n 0, 1) := by decide +kernel
theorem dX1_crack_221 : decode cX1_crack 221 = .ok (.iload 6, 2) := by decide +kernel
theorem dX1_crack_223 : decode cX1_crack 223 = .ok (.iload 7, 2) := by decide +kernel
theorem dX1_crack_225 : decode cX1_crack 225 = .ok (.idiv, 1) := by decide +kernel
theorem dX1_crack_226 : decode cX1_crack 226 = .ok (.putfield 47, 3) := by decide +kernel
theorem dX1_crack_229 : decode cX1_crack 229 = .ok (.aload_n 0, 1) := by decide +kernel
theorem dX1_crack_230 : decode cX1_crack 230 = .ok (.iload 5, 2) := by decide +kernel
theorem dX1_crack_232 : decode cX1_crack 232 = .ok (.iload 7, 2) := by decide +kernel
theorem dX1_crack_234 : decode cX1_crack 234 = .ok (.idiv, 1) := by decide +kernel
theorem dX1_crack_235 : decode cX1_crack 235 = .ok (.putfield 50, 3) := by decide +kernel
theorem dX1_crack_238 : decode cX1_crack 238 = .ok (.return_, 1) := by decide +kernel
theorem dX1_weigh_0 : decode cX1_weigh 0 = .ok (.aload_n 0, 1) := by decide +kernel
theorem dX1_weigh_1 : decode cX1_weigh 1 = .ok (.getfield 11, 3) := by decide +kernel
theorem dX1_weigh_4 : decode cX1_weigh 4 = .ok (.arraylength, 1) := by decide +kernel
theorem dX1_weigh_5 : decode cX1_weigh 5 = .ok (.iconst 1, 1) := by decide +kernel
theorem dX1_weigh_6 : decode cX1_weigh 6 = .ok (.isub, 1) := by decide +kernel
theorem dX1_weigh_7 : decode cX1_weigh 7 = .ok (.istore_n 3, 1) := by decide +kernel
theorem dX1_weigh_8 : decode cX1_weigh 8 = .ok (.iload_n 3, 1) := by decide +kernel
theorem dX1_weigh_9 : decode cX1_weigh 9 = .ok (.ifCond .lt 48, 3) := by decide +kernel
theorem dX1_weigh_12 : decode cX1_weigh 12 = .ok (.iload_n 3, 1) := by decide +kernel
theorem dX1_weigh_13 : decode cX1_weigh 13 = .ok (.ifCond .le 16, 3) := by decide +kernel
theorem dX1_weigh_16 : decode cX1_weigh 16 = .ok (.aload_n 0, 1) := by decide +kernel
theorem dX1_weigh_17 : decode cX1_weigh 17 = .ok (.getfield 11, 3) := by decide +kernel
theorem dX1_weigh_20 : decode cX1_weigh 20 = .ok (.iload_n 3, 1) := by decide +kernel
theorem dX1_weigh_21 : decode cX1_weigh 21 = .ok (.iconst 1, 1) := by decide +kernel
theorem dX1_weigh_22 : decode cX1_weigh 22 = .ok (.isub, 1) := by decide +kernel
theorem dX1_weigh_23 : decode cX1_weigh 23 = .ok (.iaload, 1) := by decide +kernel
theorem dX1_weigh_24 : decode cX1_weigh 24 = .ok (.iload_n 1, 1) := by decide +kernel
theorem dX1_weigh_25 : decode cX1_weigh 25 = .ok (.imul, 1) := by decide +kernel
theorem dX1_weigh_26 : decode cX1_weigh 26 = .ok (.goto 4, 3) := by decide +kernel
theorem dX1_weigh_29 : decode cX1_weigh 29 = .ok (.iconst 0, 1) := by decide +kernel
theorem dX1_weigh_30 : decode cX1_weigh 30 = .ok (.istore 4, 2) := by decide +kernel
theorem dX1_weigh_32 : decode cX1_weigh 32 = .ok (.aload_n 0, 1) := by decide +kernel
theorem dX1_weigh_33 : decode cX1_weigh 33 = .ok (.getfield 11, 3) := by decide +kernel
theorem dX1_weigh_36 : decode cX1_weigh 36 = .ok (.iload_n 3, 1) := by decide +kernel
theorem dX1_weigh_37 : decode cX1_weigh 37 = .ok (.aload_n 0, 1) := by decide +kernel
theorem dX1_weigh_38 : decode cX1_weigh 38 = .ok (.getfield 11, 3) := by decide +kernel
theorem dX1_weigh_41 : decode cX1_weigh 41 = .ok (.iload_n 3, 1) := by decide +kernel
theorem dX1_weigh_42 : decode cX1_weigh 42 = .ok (.iaload, 1) := by decide +kernel
theorem dX1_weigh_43 : decode cX1_weigh 43 = .ok (.iload_n 2, 1) := by decide +kernel
theorem dX1_weigh_44 : decode cX1_weigh 44 = .ok (.iload_n 1, 1) := by decide +kernel
theorem dX1_weigh_45 : decode cX1_weigh 45 = .ok (.isub, 1) := by decide +kernel
theorem dX1_weigh_46 : decode cX1_weigh 46 = .ok (.imul, 1) := by decide +kernel
theorem dX1_weigh_47 : decode cX1_weigh 47 = .ok (.iload 4, 2) := by decide +kernel
theorem dX1_weigh_49 : decode cX1_weigh 49 = .ok (.iadd, 1) := by decide +kernel
theorem dX1_weigh_50 : decode cX1_weigh 50 = .ok (.iastore, 1) := by decide +kernel
theorem dX1_weigh_51 : decode cX1_weigh 51 = .ok (.iinc 3 (-1), 3) := by decide +kernel
theorem dX1_weigh_54 : decode cX1_weigh 54 = .ok (.goto (-46), 3) := by decide +kernel
theorem dX1_weigh_57 : decode cX1_weigh 57 = .ok (.return_, 1) := by decide +kernel
theorem dX1_draw_0 : decode cX1_draw 0 = .ok (.aload_n 1, 1) := by decide +kernel
theorem dX1_draw_1 : decode cX1_draw 1 = .ok (.getfield 24, 3) := by decide +kernel
theorem dX1_draw_4 : decode cX1_draw 4 = .ok (.iconst 0, 1) := by decide +kernel
theorem dX1_draw_5 : decode cX1_draw 5 = .ok (.aload_n 0, 1) := by decide +kernel
theorem dX1_draw_6 : decode cX1_draw 6 = .ok (.getfield 17, 3) := by decide +kernel
theorem dX1_draw_9 : decode cX1_draw 9 = .ok (.iconst 0, 1) := by decide +kernel
theorem dX1_draw_10 : decode cX1_draw 10 = .ok (.bipush 8, 2) := by decide +kernel
theorem dX1_draw_12 : decode cX1_draw 12 = .ok (.invokestatic 53, 3) := by decide +kernel
theorem dX1_draw_15 : decode cX1_draw 15 = .ok (.aload_n 0, 1) := by decide +kernel
theorem dX1_draw_16 : decode cX1_draw 16 = .ok (.iconst 0, 1) := by decide +kernel
theorem dX1_draw_17 : decode cX1_draw 17 = .ok (.putfield 59, 3) := by decide +kernel
theorem dX1_draw_20 : decode cX1_draw 20 = .ok (.iload_n 3, 1) := by decide +kernel
theorem dX1_draw_21 : decode cX1_draw 21 = .ok (.i2l, 1) := by decide +kernel
theorem dX1_draw_22 : decode cX1_draw 22 = .ok (.lstore 4, 2) := by decide +kernel
theorem dX1_draw_24 : decode cX1_draw 24 = .ok (.iconst 0, 1) := by decide +kernel
theorem dX1_draw_25 : decode cX1_draw 25 = .ok (.istore 6, 2) := by decide +kernel
theorem dX1_draw_27 : decode cX1_draw 27 = .ok (.iload 6, 2) := by decide +kernel
theorem dX1_draw_29 : decode cX1_draw 29 = .ok (.iload_n 2, 1) := by decide +kernel
theorem dX1_draw_30 : decode cX1_draw 30 = .ok (.if_icmp .ge 72, 3) := by decide +kernel
theorem dX1_draw_33 : decode cX1_draw 33 = .ok (.ldc2_w 62, 3) := by decide +kernel
theorem dX1_draw_36 : decode cX1_draw 36 = .ok (.lload 4, 2) := by decide +kernel
theorem dX1_draw_38 : decode cX1_draw 38 = .ok (.lmul, 1) := by decide +kernel
theorem dX1_draw_39 : decode cX1_draw 39 = .ok (.ldc2_w 64, 3) := by decide +kernel
theorem dX1_draw_42 : decode cX1_draw 42 = .ok (.lrem, 1) := by decide +kernel
theorem dX1_draw_43 : decode cX1_draw 43 = .ok (.lstore 4, 2) := by decide +kernel
theorem dX1_draw_45 : decode cX1_draw 45 = .ok (.lload 4, 2) := by decide +kernel
theorem dX1_draw_47 : decode cX1_draw 47 = .ok (.ldc2_w 66, 3) := by decide +kernel
theorem dX1_draw_50 : decode cX1_draw 50 = .ok (.ldiv, 1) := by decide +kernel
theorem dX1_draw_51 : decode cX1_draw 51 = .ok (.aload_n 1, 1) := by decide +kernel
theorem dX1_draw_52 : decode cX1_draw 52 = .ok (.invokevirtual 68, 3) := by decide +kernel
theorem dX1_draw_55 : decode cX1_draw 55 = .ok (.i2l, 1) := by decide +kernel
theorem dX1_draw_56 : decode cX1_draw 56 = .ok (.lrem, 1) := by decide +kernel
theorem dX1_draw_57 : decode cX1_draw 57 = .ok (.l2i, 1) := by decide +kernel
theorem dX1_draw_58 : decode cX1_draw 58 = .ok (.istore 7, 2) := by decide +kernel
theorem dX1_draw_60 : decode cX1_draw 60 = .ok (.aload_n 1, 1) := by decide +kernel
theorem dX1_draw_61 : decode cX1_draw 61 = .ok (.aload_n 1, 1) := by decide +kernel
theorem dX1_draw_62 : decode cX1_draw 62 = .ok (.iload 7, 2) := by decide +kernel
theorem dX1_draw_64 : decode cX1_draw 64 = .ok (.invokevirtual 72, 3) := by decide +kernel
theorem dX1_draw_67 : decode cX1_draw 67 = .ok (.aload_n 0, 1) := by decide +kernel
theorem dX1_draw_68 : decode cX1_draw 68 = .ok (.getfield 17, 3) := by decide +kernel
theorem dX1_draw_71 : decode cX1_draw 71 = .ok (.aload_n 0, 1) := by decide +kernel
theorem dX1_draw_72 : decode cX1_draw 72 = .ok (.getfield 17, 3) := by decide +kernel
theorem dX1_draw_75 : decode cX1_draw 75 = .ok (.invokevirtual 75, 3) := by decide +kernel
theorem dX1_draw_78 : decode cX1_draw 78 = .ok (.pop, 1) := by decide +kernel
theorem dX1_draw_79 : decode cX1_draw 79 = .ok (.aload_n 0, 1) := by decide +kernel
theorem dX1_draw_80 : decode cX1_draw 80 = .ok (.dup, 1) := by decide +kernel
theorem dX1_draw_81 : decode cX1_draw 81 = .ok (.getfield 59, 3) := by decide +kernel
theorem dX1_draw_84 : decode cX1_draw 84 = .ok (.aload_n 1, 1) := by decide +kernel
theorem dX1_draw_85 : decode cX1_draw 85 = .ok (.aload_n 0, 1) := by decide +kernel
theorem dX1_draw_86 : decode cX1_draw 86 = .ok (.getfield 17, 3) := by decide +kernel
theorem dX1_draw_89 : decode cX1_draw 89 = .ok (.invokevirtual 79, 3) := by decide +kernel
theorem dX1_draw_92 : decode cX1_draw 92 = .ok (.iadd, 1) := by decide +kernel
theorem dX1_draw_93 : decode cX1_draw 93 = .ok (.putfield 59, 3) := by decide +kernel
theorem dX1_draw_96 : decode cX1_draw 96 = .ok (.iinc 6 1, 3) := by decide +kernel
theorem dX1_draw_99 : decode cX1_draw 99 = .ok (.goto (-72), 3) := by decide +kernel
theorem dX1_draw_102 : decode cX1_draw 102 = .ok (.aload_n 0, 1) := by decide +kernel
theorem dX1_draw_103 : decode cX1_draw 103 = .ok (.aload_n 1, 1) := by decide +kernel
theorem dX1_draw_104 : decode cX1_draw 104 = .ok (.aload_n 0, 1) := by decide +kernel
theorem dX1_draw_105 : decode cX1_draw 105 = .ok (.getfield 17, 3) := by decide +kernel
theorem dX1_draw_108 : decode cX1_draw 108 = .ok (.invokevirtual 83, 3) := by decide +kernel
theorem dX1_draw_111 : decode cX1_draw 111 = .ok (.putfield 86, 3) := by decide +kernel
theorem dX1_draw_114 : decode cX1_draw 114 = .ok (.return_, 1) := by decide +kernel
theorem dX1_greatestCommon_0 : decode cX1_greatestCommon 0 = .ok (.iload_n 0, 1) := by decide +kernel
theorem dX1_greatestCommon_1 : decode cX1_greatestCommon 1 = .ok (.istore_n 2, 1) := by decide +kernel
theorem dX1_greatestCommon_2 : decode cX1_greatestCommon 2 = .ok (.iload_n 1, 1) := by decide +kernel
theorem dX1_greatestCommon_3 : decode cX1_greatestCommon 3 = .ok (.istore_n 3, 1) := by decide +kernel
theorem dX1_greatestCommon_4 : decode cX1_greatestCommon 4 = .ok (.iconst 0, 1) := by decide +kernel
theorem dX1_greatestCommon_5 : decode cX1_greatestCommon 5 = .ok (.istore 4, 2) := by decide +kernel
theorem dX1_greatestCommon_7 : decode cX1_greatestCommon 7 = .ok (.iload_n 3, 1) := by decide +kernel
theorem dX1_greatestCommon_8 : decode cX1_greatestCommon 8 = .ok (.ifCond .eq 26, 3) := by decide +kernel
theorem dX1_greatestCommon_11 : decode cX1_greatestCommon 11 = .ok (.iload 4, 2) := by decide +kernel
theorem dX1_greatestCommon_13 : decode cX1_greatestCommon 13 = .ok (.bipush 100, 2) := by decide +kernel
theorem dX1_greatestCommon_15 : decode cX1_greatestCommon 15 = .ok (.if_icmp .ge 19, 3) := by decide +kernel
theorem dX1_greatestCommon_18 : decode cX1_greatestCommon 18 = .ok (.iload_n 2, 1) := by decide +kernel
theorem dX1_greatestCommon_19 : decode cX1_greatestCommon 19 = .ok (.iload_n 3, 1) := by decide +kernel
theorem dX1_greatestCommon_20 : decode cX1_greatestCommon 20 = .ok (.irem, 1) := by decide +kernel
theorem dX1_greatestCommon_21 : decode cX1_greatestCommon 21 = .ok (.istore 5, 2) := by decide +kernel
theorem dX1_greatestCommon_23 : decode cX1_greatestCommon 23 = .ok (.iload_n 3, 1) := by decide +kernel
theorem dX1_greatestCommon_24 : decode cX1_greatestCommon 24 = .ok (.istore_n 2, 1) := by decide +kernel
theorem dX1_greatestCommon_25 : decode cX1_greatestCommon 25 = .ok (.iload 5, 2) := by decide +kernel
theorem dX1_greatestCommon_27 : decode cX1_greatestCommon 27 = .ok (.istore_n 3, 1) := by decide +kernel
theorem dX1_greatestCommon_28 : decode cX1_greatestCommon 28 = .ok (.iinc 4 1, 3) := by decide +kernel
theorem dX1_greatestCommon_31 : decode cX1_greatestCommon 31 = .ok (.goto (-24), 3) := by decide +kernel
theorem dX1_greatestCommon_34 : decode cX1_greatestCommon 34 = .ok (.iload_n 2, 1) := by decide +kernel
theorem dX1_greatestCommon_35 : decode cX1_greatestCommon 35 = .ok (.iconst 1, 1) := by decide +kernel
theorem dX1_greatestCommon_36 : decode cX1_greatestCommon 36 = .ok (.invokestatic 89, 3) := by decide +kernel
theorem dX1_greatestCommon_39 : decode cX1_greatestCommon 39 = .ok (.ireturn, 1) := by decide +kernel
theorem dX2_init_0 : decode cX2_init 0 = .ok (.aload_n 0, 1) := by decide +kernel
theorem dX2_init_1 : decode cX2_init 1 = .ok (.invokespecial 1, 3) := by decide +kernel
theorem dX2_init_4 : decode cX2_init 4 = .ok (.aload_n 0, 1) := by decide +kernel
theorem dX2_init_5 : decode cX2_init 5 = .ok (.bipush 8, 2) := by decide +kernel
theorem dX2_init_7 : decode cX2_init 7 = .ok (.newarray .int, 2) := by decide +kernel
theorem dX2_init_9 : decode cX2_init 9 = .ok (.putfield 9, 3) := by decide +kernel
theorem dX2_init_12 : decode cX2_init 12 = .ok (.aload_n 0, 1) := by decide +kernel
theorem dX2_init_13 : decode cX2_init 13 = .ok (.bipush 8, 2) := by decide +kernel
theorem dX2_init_15 : decode cX2_init 15 = .ok (.newarray .int, 2) := by decide +kernel
theorem dX2_init_17 : decode cX2_init 17 = .ok (.putfield 13, 3) := by decide +kernel
theorem dX2_init_20 : decode cX2_init 20 = .ok (.aload_n 0, 1) := by decide +kernel
theorem dX2_init_21 : decode cX2_init 21 = .ok (.bipush 8, 2) := by decide +kernel
theorem dX2_init_23 : decode cX2_init 23 = .ok (.newarray .int, 2) := by decide +kernel
theorem dX2_init_25 : decode cX2_init 25 = .ok (.putfield 16, 3) := by decide +kernel
theorem dX2_init_28 : decode cX2_init 28 = .ok (.aload_n 0, 1) := by decide +kernel
theorem dX2_init_29 : decode cX2_init 29 = .ok (.bipush 12, 2) := by decide +kernel
theorem dX2_init_31 : decode cX2_init 31 = .ok (.newarray .int, 2) := by decide +kernel
theorem dX2_init_33 : decode cX2_init 33 = .ok (.putfield 21, 3) := by decide +kernel
theorem dX2_init_36 : decode cX2_init 36 = .ok (.aload_n 0, 1) := by decide +kernel
theorem dX2_init_37 : decode cX2_init 37 = .ok (.iconst 3, 1) := by decide +kernel
theorem dX2_init_38 : decode cX2_init 38 = .ok (.newarray .int, 2) := by decide +kernel
theorem dX2_init_40 : decode cX2_init 40 = .ok (.putfield 24, 3) := by decide +kernel
theorem dX2_init_43 : decode cX2_init 43 = .ok (.return_, 1) := by decide +kernel
theorem dX2_stands_0 : decode cX2_stands 0 = .ok (.aload_n 0, 1) := by decide +kernel
theorem dX2_stands_1 : decode cX2_stands 1 = .ok (.getfield 27, 3) := by decide +kernel
theorem dX2_stands_4 : decode cX2_stands 4 = .ok (.ifCond .le 7, 3) := by decide +kernel
theorem dX2_stands_7 : decode cX2_stands 7 = .ok (.iconst 1, 1) := by decide +kernel
theorem dX2_stands_8 : decode cX2_stands 8 = .ok (.goto 4, 3) := by decide +kernel
theorem dX2_stands_11 : decode cX2_stands 11 = .ok (.iconst 0, 1) := by decide +kernel
theorem dX2_stands_12 : decode cX2_stands 12 = .ok (.ireturn, 1) := by decide +kernel
theorem dX2_become_0 : decode cX2_become 0 = .ok (.aload_n 0, 1) := by decide +kernel
theorem dX2_become_1 : decode cX2_become 1 = .ok (.aload_n 1, 1) := by decide +kernel
theorem dX2_become_2 : decode cX2_become 2 = .ok (.getfield 27, 3) := by decide +kernel
theorem dX2_become_5 : decode cX2_become 5 = .ok (.putfield 27, 3) := by decide +kernel
theorem dX2_become_8 : decode cX2_become 8 = .ok (.aload_n 0, 1) := by decide +kernel
theorem dX2_become_9 : decode cX2_become 9 = .ok (.aload_n 1, 1) := by decide +kernel
theorem dX2_become_10 : decode cX2_become 10 = .ok (.getfield 31, 3) := by decide +kernel
theorem dX2_become_13 : decode cX2_become 13 = .ok (.putfield 31, 3) := by decide +kernel
theorem dX2_become_16 : decode cX2_become 16 = .ok (.aload_n 0, 1) := by decide +kernel
theorem dX2_become_17 : decode cX2_become 17 = .ok (.aload_n 1, 1) := by decide +kernel
theorem dX2_become_18 : decode cX2_become 18 = .ok (.getfield 34, 3) := by decide +kernel
theorem dX2_become_21 : decode cX2_become 21 = .ok (.putfield 34, 3) := by decide +kernel
theorem dX2_become_24 : decode cX2_become 24 = .ok (.aload_n 0, 1) := by decide +kernel
theorem dX2_become_25 : decode cX2_become 25 = .ok (.aload_n 1, 1) := by decide +kernel
theorem dX2_become_26 : decode cX2_become 26 = .ok (.getfield 37, 3) := by decide +kernel
theorem dX2_become_29 : decode cX2_become 29 = .ok (.putfield 37, 3) := by decide +kernel
theorem dX2_become_32 : decode cX2_become 32 = .ok (.aload_n 1, 1) := by decide +kernel
theorem dX2_become_33 : decode cX2_become 33 = .ok (.getfield 9, 3) := by decide +kernel
theorem dX2_become_36 : decode cX2_become 36 = .ok (.iconst 0, 1) := by decide +kernel
theorem dX2_become_37 : decode cX2_become 37 = .ok (.aload_n 0, 1) := by decide +kernel
theorem dX2_become_38 : decode cX2_become 38 = .ok (.getfield 9, 3) := by decide +kernel
theorem dX2_become_41 : decode cX2_become 41 = .ok (.iconst 0, 1) := by decide +kernel
theorem dX2_become_42 : decode cX2_become 42 = .ok (.bipush 8, 2) := by decide +kernel
theorem dX2_become_44 : decode cX2_become 44 = .ok (.invokestatic 40, 3) := by decide +kernel
theorem dX2_become_47 : decode cX2_become 47 = .ok (.aload_n 1, 1) := by decide +kernel
theorem dX2_become_48 : decode cX2_become 48 = .ok (.getfield 13, 3) := by decide +kernel
theorem dX2_become_51 : decode cX2_become 51 = .ok (.iconst 0, 1) := by decide +kernel
theorem dX2_become_52 : decode cX2_become 52 = .ok (.aload_n 0, 1) := by decide +kernel
theorem dX2_become_53 : decode cX2_become 53 = .ok (.getfield 13, 3) := by decide +kernel
theorem dX2_become_56 : decode cX2_become 56 = .ok (.iconst 0, 1) := by decide +kernel
theorem dX2_become_57 : decode cX2_become 57 = .ok (.bipush 8, 2) := by decide +kernel
theorem dX2_become_59 : decode cX2_become 59 = .ok (.invokestatic 40, 3) := by decide +kernel
theorem dX2_become_62 : decode cX2_become 62 = .ok (.aload_n 1, 1) := by decide +kernel
theorem dX2_become_63 : decode cX2_become 63 = .ok (.getfield 16, 3) := by decide +kernel
theorem dX2_become_66 : decode cX2_become 66 = .ok (.iconst 0, 1) := by decide +kernel
theorem dX2_become_67 : decode cX2_become 67 = .ok (.aload_n 0, 1) := by decide +kernel
theorem dX2_become_68 : decode cX2_become 68 = .ok (.getfield 16, 3) := by decide +kernel
theorem dX2_become_71 : decode cX2_become 71 = .ok (.iconst 0, 1) := by decide +kernel
theorem dX2_become_72 : decode cX2_become 72 = .ok (.bipush 8, 2) := by decide +kernel
theorem dX2_become_74 : decode cX2_become 74 = .ok (.invokestatic 40, 3) := by decide +kernel
theorem dX2_become_77 : decode cX2_become 77 = .ok (.aload_n 1, 1) := by decide +kernel
theorem dX2_become_78 : decode cX2_become 78 = .ok (.getfield 21, 3) := by decide +kernel
theorem dX2_become_81 : decode cX2_become 81 = .ok (.iconst 0, 1) := by decide +kernel
theorem dX2_become_82 : decode cX2_become 82 = .ok (.aload_n 0, 1) := by decide +kernel
theorem dX2_become_83 : decode cX2_become 83 = .ok (.getfield 21, 3) := by decide +kernel
theorem dX2_become_86 : decode cX2_become 86 = .ok (.iconst 0, 1) := by decide +kernel
theorem dX2_become_87 : decode cX2_become 87 = .ok (.bipush 12, 2) := by decide +kernel
theorem dX2_become_89 : decode cX2_become 89 = .ok (.invokestatic 40, 3) := by decide +kernel
theorem dX2_become_92 : decode cX2_become 92 = .ok (.aload_n 1, 1) := by decide +kernel
theorem dX2_become_93 : decode cX2_become 93 = .ok (.getfield 24, 3) := by decide +kernel
theorem dX2_become_96 : decode cX2_become 96 = .ok (.iconst 0, 1) := by decide +kernel
theorem dX2_become_97 : decode cX2_become 97 = .ok (.aload_n 0, 1) := by decide +kernel
theorem dX2_become_98 : decode cX2_become 98 = .ok (.getfield 24, 3) := by decide +kernel
theorem dX2_become_101 : decode cX2_become 101 = .ok (.iconst 0, 1) := by decide +kernel
theorem dX2_become_102 : decode cX2_become 102 = .ok (.iconst 3, 1) := by decide +kernel
theorem dX2_become_103 : decode cX2_become 103 = .ok (.invokestatic 40, 3) := by decide +kernel
theorem dX2_become_106 : decode cX2_become 106 = .ok (.return_, 1) := by decide +kernel
theorem dX2_hasSquare_0 : decode cX2_hasSquare 0 = .ok (.iload_n 1, 1) := by decide +kernel
theorem dX2_hasSquare_1 : decode cX2_hasSquare 1 = .ok (.ifCond .lt 15, 3) := by decide +kernel
theorem dX2_hasSquare_4 : decode cX2_hasSquare 4 = .ok (.iload_n 1, 1) := by decide +kernel
theorem dX2_hasSquare_5 : decode cX2_hasSquare 5 = .ok (.aload_n 0, 1) := by decide +kernel
theorem dX2_hasSquare_6 : decode cX2_hasSquare 6 = .ok (.getfield 27, 3) := by decide +kernel
theorem dX2_hasSquare_9 : decode cX2_hasSquare 9 = .ok (.if_icmp .ge 7, 3) := by decide +kernel
theorem dX2_hasSquare_12 : decode cX2_hasSquare 12 = .ok (.iconst 1, 1) := by decide +kernel
theorem dX2_hasSquare_13 : decode cX2_hasSquare 13 = .ok (.goto 4, 3) := by decide +kernel
theorem dX2_hasSquare_16 : decode cX2_hasSquare 16 = .ok (.iconst 0, 1) := by decide +kernel
theorem dX2_hasSquare_17 : decode cX2_hasSquare 17 = .ok (.ireturn, 1) := by decide +kernel
theorem dX2_hasDye_0 : decode cX2_hasDye 0 = .ok (.iload_n 1, 1) := by decide +kernel
theorem dX2_hasDye_1 : decode cX2_hasDye 1 = .ok (.ifCond .lt 15, 3) := by decide +kernel
theorem dX2_hasDye_4 : decode cX2_hasDye 4 = .ok (.iload_n 1, 1) := by decide +kernel
theorem dX2_hasDye_5 : decode cX2_hasDye 5 = .ok (.aload_n 0, 1) := by decide +kernel
theorem dX2_hasDye_6 : decode cX2_hasDye 6 = .ok (.getfield 31, 3) := by decide +kernel
theorem dX2_hasDye_9 : decode cX2_hasDye 9 = .ok (.if_icmp .ge 7, 3) := by decide +kernel
theorem dX2_hasDye_12 : decode cX2_hasDye 12 = .ok (.iconst 1, 1) := by decide +kernel
theorem dX2_hasDye_13 : decode cX2_hasDye 13 = .ok (.goto 4, 3) := by decide +kernel
theorem dX2_hasDye_16 : decode cX2_hasDye 16 = .ok (.iconst 0, 1) := by decide +kernel
theorem dX2_hasDye_17 : decode cX2_hasDye 17 = .ok (.ireturn, 1) := by decide +kernel
theorem dX2_hasStencil_0 : decode cX2_hasStencil 0 = .ok (.iload_n 1, 1) := by decide +kernel
theorem dX2_hasStencil_1 : decode cX2_hasStencil 1 = .ok (.ifCond .lt 15, 3) := by decide +kernel
theorem dX2_hasStencil_4 : decode cX2_hasStencil 4 = .ok (.iload_n 1, 1) := by decide +kernel
theorem dX2_hasStencil_5 : decode cX2_hasStencil 5 = .ok (.aload_n 0, 1) := by decide +kernel
theorem dX2_hasStencil_6 : decode cX2_hasStencil 6 = .ok (.getfield 34, 3) := by decide +kernel
theorem dX2_hasStencil_9 : decode cX2_hasStencil 9 = .ok (.if_icmp .ge 7, 3) := by decide +kernel
theorem dX2_hasStencil_12 : decode cX2_hasStencil 12 = .ok (.iconst 1, 1) := by decide +kernel
theorem dX2_hasStencil_13 : decode cX2_hasStencil 13 = .ok (.goto 4, 3) := by decide +kernel
theorem dX2_hasStencil_16 : decode cX2_hasStencil 16 = .ok (.iconst 0, 1) := by decide +kernel
theorem dX2_hasStencil_17 : decode cX2_hasStencil 17 = .ok (.ireturn, 1) := by decide +kernel
theorem dX2_hasDoing_0 : decode cX2_hasDoing 0 = .ok (.aload_n 0, 1) := by decide +kernel
theorem dX2_hasDoing_1 : decode cX2_hasDoing 1 = .ok (.invokevirtual 46, 3) := by decide +kernel
theorem dX2_hasDoing_4 : decode cX2_hasDoing 4 = .ok (.ifCond .eq 17, 3) := by decide +kernel
theorem dX2_hasDoing_7 : decode cX2_hasDoing 7 = .ok (.lload_n 1, 1) := by decide +kernel
theorem dX2_hasDoing_8 : decode cX2_hasDoing 8 = .ok (.lconst 0, 1) := by decide +kernel
theorem dX2_hasDoing_9 : decode cX2_hasDoing 9 = .ok (.lcmp, 1) := by decide +kernel
theorem dX2_hasDoing_10 : decode cX2_hasDoing 10 = .ok (.ifCond .lt 11, 3) := by decide +kernel
theorem dX2_hasDoing_13 : decode cX2_hasDoing 13 = .ok (.lload_n 1, 1) := by decide +kernel
theorem dX2_hasDoing_14 : decode cX2_hasDoing 14 = .ok (.ldc2_w 50, 3) := by decide +kernel
theorem dX2_hasDoing_17 : decode cX2_hasDoing 17 = .ok (.lcmp, 1) := by decide +kernel
theorem dX2_hasDoing_18 : decode cX2_hasDoing 18 = .ok (.ifCond .le 5, 3) := by decide +kernel
theorem dX2_hasDoing_21 : decode cX2_hasDoing 21 = .ok (.iconst 0, 1) := by decide +kernel
theorem dX2_hasDoing_22 : decode cX2_hasDoing 22 = .ok (.ireturn, 1) := by decide +kernel
theorem dX2_hasDoing_23 : decode cX2_hasDoing 23 = .ok (.lload_n 1, 1) := by decide +kernel
theorem dX2_hasDoing_24 : decode cX2_hasDoing 24 = .ok (.aload_n 0, 1) := by decide +kernel
theorem dX2_hasDoing_25 : decode cX2_hasDoing 25 = .ok (.getfield 31, 3) := by decide +kernel
theorem dX2_hasDoing_28 : decode cX2_hasDoing 28 = .ok (.i2l, 1) := by decide +kernel
theorem dX2_hasDoing_29 : decode cX2_hasDoing 29 = .ok (.lcmp, 1) := by decide +kernel
theorem dX2_hasDoing_30 : decode cX2_hasDoing 30 = .ok (.ifCond .lt 32, 3) := by decide +kernel
theorem dX2_hasDoing_33 : decode cX2_hasDoing 33 = .ok (.lload_n 1, 1) := by decide +kernel
theorem dX2_hasDoing_34 : decode cX2_hasDoing 34 = .ok (.ldc2_w 52, 3) := by decide +kernel
theorem dX2_hasDoing_37 : decode cX2_hasDoing 37 = .ok (.lcmp, 1) := by decide +kernel
theorem dX2_hasDoing_38 : decode cX2_hasDoing 38 = .ok (.ifCond .ge 24, 3) := by decide +kernel
theorem dX2_hasDoing_41 : decode cX2_hasDoing 41 = .ok (.lload_n 1, 1) := by decide +kernel
theorem dX2_hasDoing_42 : decode cX2_hasDoing 42 = .ok (.ldc2_w 54, 3) := by decide +kernel
theorem dX2_hasDoing_45 : decode cX2_hasDoing 45 = .ok (.lcmp, 1) := by decide +kernel
theorem dX2_hasDoing_46 : decode cX2_hasDoing 46 = .ok (.ifCond .lt 20, 3) := by decide +kernel
theorem dX2_hasDoing_49 : decode cX2_hasDoing 49 = .ok (.lload_n 1, 1) := by decide +kernel
theorem dX2_hasDoing_50 : decode cX2_hasDoing 50 = .ok (.bipush 10, 2) := by decide +kernel
theorem dX2_hasDoing_52 : decode cX2_hasDoing 52 = .ok (.aload_n 0, 1) := by decide +kernel
theorem dX2_hasDoing_53 : decode cX2_hasDoing 53 = .ok (.getfield 34, 3) := by decide +kernel
theorem dX2_hasDoing_56 : decode cX2_hasDoing 56 = .ok (.iadd, 1) := by decide +kernel
theorem dX2_hasDoing_57 : decode cX2_hasDoing 57 = .ok (.i2l, 1) := by decide +kernel
theorem dX2_hasDoing_58 : decode cX2_hasDoing 58 = .ok (.lcmp, 1) := by decide +kernel
theorem dX2_hasDoing_59 : decode cX2_hasDoing 59 = .ok (.ifCond .ge 7, 3) := by decide +kernel
theorem dX2_hasDoing_62 : decode cX2_hasDoing 62 = .ok (.iconst 1, 1) := by decide +kernel
theorem dX2_hasDoing_63 : decode cX2_hasDoing 63 = .ok (.goto 4, 3) := by decide +kernel
theorem dX2_hasDoing_66 : decode cX2_hasDoing 66 = .ok (.iconst 0, 1) := by decide +kernel
theorem dX2_hasDoing_67 : decode cX2_hasDoing 67 = .ok (.ireturn, 1) := by decide +kernel
theorem dX2_doingCount_0 : decode cX2_doingCount 0 = .ok (.aload_n 0, 1) := by decide +kernel
theorem dX2_doingCount_1 : decode cX2_doingCount 1 = .ok (.getfield 31, 3) := by decide +kernel
theorem dX2_doingCount_4 : decode cX2_doingCount 4 = .ok (.aload_n 0, 1) := by decide +kernel
theorem dX2_doingCount_5 : decode cX2_doingCount 5 = .ok (.getfield 34, 3) := by decide +kernel
theorem dX2_doingCount_8 : decode cX2_doingCount 8 = .ok (.iadd, 1) := by decide +kernel
theorem dX2_doingCount_9 : decode cX2_doingCount 9 = .ok (.iconst 2, 1) := by decide +kernel
theorem dX2_doingCount_10 : decode cX2_doingCount 10 = .ok (.iadd, 1) := by decide +kernel
theorem dX2_doingCount_11 : decode cX2_doingCount 11 = .ok (.ireturn, 1) := by decide +kernel
theorem dX2_nthDoing_0 : decode cX2_nthDoing 0 = .ok (.iload_n 1, 1) := by decide +kernel
theorem dX2_nthDoing_1 : decode cX2_nthDoing 1 = .ok (.aload_n 0, 1) := by decide +kernel
theorem dX2_nthDoing_2 : decode cX2_nthDoing 2 = .ok (.getfield 31, 3) := by decide +kernel
theorem dX2_nthDoing_5 : decode cX2_nthDoing 5 = .ok (.if_icmp .ge 5, 3) := by decide +kernel
theorem dX2_nthDoing_8 : decode cX2_nthDoing 8 = .ok (.iload_n 1, 1) := by decide +kernel
theorem dX2_nthDoing_9 : decode cX2_nthDoing 9 = .ok (.ireturn, 1) := by decide +kernel
theorem dX2_nthDoing_10 : decode cX2_nthDoing 10 = .ok (.iload_n 1, 1) := by decide +kernel
theorem dX2_nthDoing_11 : decode cX2_nthDoing 11 = .ok (.aload_n 0, 1) := by decide +kernel
theorem dX2_nthDoing_12 : decode cX2_nthDoing 12 = .ok (.getfield 31, 3) := by decide +kernel
theorem dX2_nthDoing_15 : decode cX2_nthDoing 15 = .ok (.aload_n 0, 1) := by decide +kernel
theorem dX2_nthDoing_16 : decode cX2_nthDoing 16 = .ok (.getfield 34, 3) := by decide +kernel
theorem dX2_nthDoing_19 : decode cX2_nthDoing 19 = .ok (.iadd, 1) := by decide +kernel
theorem dX2_nthDoing_20 : decode cX2_nthDoing 20 = .ok (.if_icmp .ge 15, 3) := by decide +kernel
theorem dX2_nthDoing_23 : decode cX2_nthDoing 23 = .ok (.bipush 10, 2) := by decide +kernel
theorem dX2_nthDoing_25 : decode cX2_nthDoing 25 = .ok (.iload_n 1, 1) := by decide +kernel
theorem dX2_nthDoing_26 : decode cX2_nthDoing 26 = .ok (.iadd, 1) := by decide +kernel
theorem dX2_nthDoing_27 : decode cX2_nthDoing 27 = .ok (.aload_n 0, 1) := by decide +kernel
theorem dX2_nthDoing_28 : decode cX2_nthDoing 28 = .ok (.getfield 31, 3) := by decide +kernel
theorem dX2_nthDoing_31 : decode cX2_nthDoing 31 = .ok (.isub, 1) := by decide +kernel
theorem dX2_nthDoing_32 : decode cX2_nthDoing 32 = .ok (.goto 17, 3) := by decide +kernel
theorem dX2_nthDoing_35 : decode cX2_nthDoing 35 = .ok (.bipush 20, 2) := by decide +kernel
theorem dX2_nthDoing_37 : decode cX2_nthDoing 37 = .ok (.iload_n 1, 1) := by decide +kernel
theorem dX2_nthDoing_38 : decode cX2_nthDoing 38 = .ok (.iadd, 1) := by decide +kernel
theorem dX2_nthDoing_39 : decode cX2_nthDoing 39 = .ok (.aload_n 0, 1) := by decide +kernel
theorem dX2_nthDoing_40 : decode cX2_nthDoing 40 = .ok (.getfield 31, 3) := by decide +kernel
theorem dX2_nthDoing_43 : decode cX2_nthDoing 43 = .ok (.isub, 1) := by decide +kernel
theorem dX2_nthDoing_44 : decode cX2_nthDoing 44 = .ok (.aload_n 0, 1) := by decide +kernel
theorem dX2_nthDoing_45 : decode cX2_nthDoing 45 = .ok (.getfield 34, 3) := by decide +kernel
theorem dX2_nthDoing_48 : decode cX2_nthDoing 48 = .ok (.isub, 1) := by decide +kernel
theorem dX2_nthDoing_49 : decode cX2_nthDoing 49 = .ok (.ireturn, 1) := by decide +kernel
theorem dX2_amountInDye_0 : decode cX2_amountInDye 0 = .ok (.aload_n 0, 1) := by decide +kernel
theorem dX2_amountInDye_1 : decode cX2_amountInDye 1 = .ok (.getfield 21, 3) := by decide +kernel
theorem dX2_amountInDye_4 : decode cX2_amountInDye 4 = .ok (.iload_n 1, 1) := by decide +kernel
theorem dX2_amountInDye_5 : decode cX2_amountInDye 5 = .ok (.iconst 3, 1) := by decide +kernel
theorem dX2_amountInDye_6 : decode cX2_amountInDye 6 = .ok (.imul, 1) := by decide +kernel
theorem dX2_amountInDye_7 : decode cX2_amountInDye 7 = .ok (.iload_n 2, 1) := by decide +kernel
theorem dX2_amountInDye_8 : decode cX2_amountInDye 8 = .ok (.iadd, 1) := by decide +kernel
theorem dX2_amountInDye_9 : decode cX2_amountInDye 9 = .ok (.iaload, 1) := by decide +kernel
theorem dX2_amountInDye_10 : decode cX2_amountInDye 10 = .ok (.ireturn, 1) := by decide +kernel
theorem dX2_gain_0 : decode cX2_gain 0 = .ok (.iload_n 2, 1) := by decide +kernel
theorem dX2_gain_1 : decode cX2_gain 1 = .ok (.iload 4, 2) := by decide +kernel
theorem dX2_gain_3 : decode cX2_gain 3 = .ok (.invokestatic 56, 3) := by decide +kernel
theorem dX2_gain_6 : decode cX2_gain 6 = .ok (.istore 5, 2) := by decide +kernel
theorem dX2_gain_8 : decode cX2_gain 8 = .ok (.aload_n 0, 1) := by decide +kernel
theorem dX2_gain_9 : decode cX2_gain 9 = .ok (.getfield 9, 3) := by decide +kernel
theorem dX2_gain_12 : decode cX2_gain 12 = .ok (.iload_n 1, 1) := by decide +kernel
theorem dX2_gain_13 : decode cX2_gain 13 = .ok (.iaload, 1) := by decide +kernel
theorem dX2_gain_14 : decode cX2_gain 14 = .ok (.aload_n 0, 1) := by decide +kernel
theorem dX2_gain_15 : decode cX2_gain 15 = .ok (.iload_n 3, 1) := by decide +kernel
theorem dX2_gain_16 : decode cX2_gain 16 = .ok (.iload 4, 2) := by decide +kernel
theorem dX2_gain_18 : decode cX2_gain 18 = .ok (.invokevirtual 60, 3) := by decide +kernel
theorem dX2_gain_21 : decode cX2_gain 21 = .ok (.iload 5, 2) := by decide +kernel
theorem dX2_gain_23 : decode cX2_gain 23 = .ok (.invokestatic 63, 3) := by decide +kernel
theorem dX2_gain_26 : decode cX2_gain 26 = .ok (.istore 6, 2) := by decide +kernel
theorem dX2_gain_28 : decode cX2_gain 28 = .ok (.iload 6, 2) := by decide +kernel
theorem dX2_gain_30 : decode cX2_gain 30 = .ok (.bipush 9, 2) := by decide +kernel
theorem dX2_gain_32 : decode cX2_gain 32 = .ok (.iload 5, 2) := by decide +kernel
theorem dX2_gain_34 : decode cX2_gain 34 = .ok (.isub, 1) := by decide +kernel
theorem dX2_gain_35 : decode cX2_gain 35 = .ok (.invokestatic 69, 3) := by decide +kernel
theorem dX2_gain_38 : decode cX2_gain 38 = .ok (.ireturn, 1) := by decide +kernel
theorem dX2_after_0 : decode cX2_after 0 = .ok (.iload_n 3, 1) := by decide +kernel
theorem dX2_after_1 : decode cX2_after 1 = .ok (.bipush 10, 2) := by decide +kernel
theorem dX2_after_3 : decode cX2_after 3 = .ok (.if_icmp .ge 27, 3) := by decide +kernel
theorem dX2_after_6 : decode cX2_after 6 = .ok (.iload_n 2, 1) := by decide +kernel
theorem dX2_after_7 : decode cX2_after 7 = .ok (.invokestatic 74, 3) := by decide +kernel
theorem dX2_after_10 : decode cX2_after 10 = .ok (.ifCond .ne 13, 3) := by decide +kernel
theorem dX2_after_13 : decode cX2_after 13 = .ok (.aload_n 0, 1) := by decide +kernel
theorem dX2_after_14 : decode cX2_after 14 = .ok (.iload_n 1, 1) := by decide +kernel
theorem dX2_after_15 : decode cX2_after 15 = .ok (.iload_n 2, 1) := by decide +kernel
theorem dX2_after_16 : decode cX2_after 16 = .ok (.iload_n 3, 1) := by decide +kernel
theorem dX2_after_17 : decode cX2_after 17 = .ok (.invokevirtual 78, 3) := by decide +kernel
theorem dX2_after_20 : decode cX2_after 20 = .ok (.goto 9, 3) := by decide +kernel
theorem dX2_after_23 : decode cX2_after 23 = .ok (.aload_n 0, 1) := by decide +kernel
theorem dX2_after_24 : decode cX2_after 24 = .ok (.iload_n 1, 1) := by decide +kernel
theorem dX2_after_25 : decode cX2_after 25 = .ok (.iload_n 2, 1) := by decide +kernel
theorem dX2_after_26 : decode cX2_after 26 = .ok (.invokevirtual 81, 3) := by decide +kernel
theorem dX2_after_29 : decode cX2_after 29 = .ok (.ireturn, 1) := by decide +kernel
theorem dX2_after_30 : decode cX2_after 30 = .ok (.iload_n 3, 1) := by decide +kernel
theorem dX2_after_31 : decode cX2_after 31 = .ok (.bipush 20, 2) := by decide +kernel
theorem dX2_after_33 : decode cX2_after 33 = .ok (.if_icmp .ge 41, 3) := by decide +kernel
theorem dX2_after_36 : decode cX2_after 36 = .ok (.aload_n 0, 1) := by decide +kernel
theorem dX2_after_37 : decode cX2_after 37 = .ok (.getfield 24, 3) := by decide +kernel
theorem dX2_after_40 : decode cX2_after 40 = .ok (.iload_n 3, 1) := by decide +kernel
theorem dX2_after_41 : decode cX2_after 41 = .ok (.bipush 10, 2) := by decide +kernel
theorem dX2_after_43 : decode cX2_after 43 = .ok (.isub, 1) := by decide +kernel
theorem dX2_after_44 : decode cX2_after 44 = .ok (.iaload, 1) := by decide +kernel
theorem dX2_after_45 : decode cX2_after 45 = .ok (.iload_n 1, 1) := by decide +kernel
theorem dX2_after_46 : decode cX2_after 46 = .ok (.ishr, 1) := by decide +kernel
theorem dX2_after_47 : decode cX2_after 47 = .ok (.iconst 1, 1) := by decide +kernel
theorem dX2_after_48 : decode cX2_after 48 = .ok (.iand, 1) := by decide +kernel
theorem dX2_after_49 : decode cX2_after 49 = .ok (.ifCond .eq 7, 3) := by decide +kernel
theorem dX2_after_52 : decode cX2_after 52 = .ok (.iconst 1, 1) := by decide +kernel
theorem dX2_after_53 : decode cX2_after 53 = .ok (.goto 4, 3) := by decide +kernel
theorem dX2_after_56 : decode cX2_after 56 = .ok (.iconst 0, 1) := by decide +kernel
theorem dX2_after_57 : decode cX2_after 57 = .ok (.istore 4, 2) := by decide +kernel
theorem dX2_after_59 : decode cX2_after 59 = .ok (.iload 4, 2) := by decide +kernel
theorem dX2_after_61 : decode cX2_after 61 = .ok (.ifCond .eq 11, 3) := by decide +kernel
theorem dX2_after_64 : decode cX2_after 64 = .ok (.iload_n 2, 1) := by decide +kernel
theorem dX2_after_65 : decode cX2_after 65 = .ok (.iconst 3, 1) := by decide +kernel
theorem dX2_after_66 : decode cX2_after 66 = .ok (.invokestatic 84, 3) := by decide +kernel
theorem dX2_after_69 : decode cX2_after 69 = .ok (.goto 4, 3) := by decide +kernel
theorem dX2_after_72 : decode cX2_after 72 = .ok (.iload_n 2, 1) := by decide +kernel
theorem dX2_after_73 : decode cX2_after 73 = .ok (.ireturn, 1) := by decide +kernel
theorem dX2_after_74 : decode cX2_after 74 = .ok (.iload_n 3, 1) := by decide +kernel
theorem dX2_after_75 : decode cX2_after 75 = .ok (.bipush 20, 2) := by decide +kernel
theorem dX2_after_77 : decode cX2_after 77 = .ok (.if_icmp .ne 9, 3) := by decide +kernel
theorem dX2_after_80 : decode cX2_after 80 = .ok (.iload_n 2, 1) := by decide +kernel
theorem dX2_after_81 : decode cX2_after 81 = .ok (.iconst 0, 1) := by decide +kernel
theorem dX2_after_82 : decode cX2_after 82 = .ok (.invokestatic 84, 3) := by decide +kernel
theorem dX2_after_85 : decode cX2_after 85 = .ok (.ireturn, 1) := by decide +kernel
theorem dX2_after_86 : decode cX2_after 86 = .ok (.iload_n 2, 1) := by decide +kernel
theorem dX2_after_87 : decode cX2_after 87 = .ok (.invokestatic 74, 3) := by decide +kernel
theorem dX2_after_90 : decode cX2_after 90 = .ok (.ifCond .ne 10, 3) := by decide +kernel
theorem dX2_after_93 : decode cX2_after 93 = .ok (.iload_n 2, 1) := by decide +kernel
theorem dX2_after_94 : decode cX2_after 94 = .ok (.invokestatic 87, 3) := by decide +kernel
theorem dX2_after_97 : decode cX2_after 97 = .ok (.goto 4, 3) := by decide +kernel
theorem dX2_after_100 : decode cX2_after 100 = .ok (.iload_n 2, 1) := by decide +kernel
theorem dX2_after_101 : decode cX2_after 101 = .ok (.ireturn, 1) := by decide +kernel
theorem dX2_dyed_0 : decode cX2_dyed 0 = .ok (.iload_n 2, 1) := by decide +kernel
theorem dX2_dyed_1 : decode cX2_dyed 1 = .ok (.istore 4, 2) := by decide +kernel
theorem dX2_dyed_3 : decode cX2_dyed 3 = .ok (.iconst 0, 1) := by decide +kernel
theorem dX2_dyed_4 : decode cX2_dyed 4 = .ok (.istore 5, 2) := by decide +kernel
theorem dX2_dyed_6 : decode cX2_dyed 6 = .ok (.iload 5, 2) := by decide +kernel
theorem dX2_dyed_8 : decode cX2_dyed 8 = .ok (.iconst 3, 1) := by decide +kernel
theorem dX2_dyed_9 : decode cX2_dyed 9 = .ok (.if_icmp .ge 27, 3) := by decide +kernel
theorem dX2_dyed_12 : decode cX2_dyed 12 = .ok (.iload 4, 2) := by decide +kernel
theorem dX2_dyed_14 : decode cX2_dyed 14 = .ok (.iload 5, 2) := by decide +kernel
theorem dX2_dyed_16 : decode cX2_dyed 16 = .ok (.aload_n 0, 1) := by decide +kernel
theorem dX2_dyed_17 : decode cX2_dyed 17 = .ok (.iload_n 1, 1) := by decide +kernel
theorem dX2_dyed_18 : decode cX2_dyed 18 = .ok (.iload_n 2, 1) := by decide +kernel
theorem dX2_dyed_19 : decode cX2_dyed 19 = .ok (.iload_n 3, 1) := by decide +kernel
theorem dX2_dyed_20 : decode cX2_dyed 20 = .ok (.iload 5, 2) := by decide +kernel
theorem dX2_dyed_22 : decode cX2_dyed 22 = .ok (.invokevirtual 90, 3) := by decide +kernel
theorem dX2_dyed_25 : decode cX2_dyed 25 = .ok (.invokestatic 94, 3) := by decide +kernel
theorem dX2_dyed_28 : decode cX2_dyed 28 = .ok (.istore 4, 2) := by decide +kernel
theorem dX2_dyed_30 : decode cX2_dyed 30 = .ok (.iinc 5 1, 3) := by decide +kernel
theorem dX2_dyed_33 : decode cX2_dyed 33 = .ok (.goto (-27), 3) := by decide +kernel
theorem dX2_dyed_36 : decode cX2_dyed 36 = .ok (.iload 4, 2) := by decide +kernel
theorem dX2_dyed_38 : decode cX2_dyed 38 = .ok (.ireturn, 1) := by decide +kernel
theorem dX2_cracked_0 : decode cX2_cracked 0 = .ok (.iload_n 2, 1) := by decide +kernel
theorem dX2_cracked_1 : decode cX2_cracked 1 = .ok (.iconst 0, 1) := by decide +kernel
theorem dX2_cracked_2 : decode cX2_cracked 2 = .ok (.iload_n 2, 1) := by decide +kernel
theorem dX2_cracked_3 : decode cX2_cracked 3 = .ok (.invokestatic 74, 3) := by decide +kernel
theorem dX2_cracked_6 : decode cX2_cracked 6 = .ok (.aload_n 0, 1) := by decide +kernel
theorem dX2_cracked_7 : decode cX2_cracked 7 = .ok (.getfield 9, 3) := by decide +kernel
theorem dX2_cracked_10 : decode cX2_cracked 10 = .ok (.iload_n 1, 1) := by decide +kernel
theorem dX2_cracked_11 : decode cX2_cracked 11 = .ok (.iaload, 1) := by decide +kernel
theorem dX2_cracked_12 : decode cX2_cracked 12 = .ok (.invokestatic 97, 3) := by decide +kernel
theorem dX2_cracked_15 : decode cX2_cracked 15 = .ok (.isub, 1) := by decide +kernel
theorem dX2_cracked_16 : decode cX2_cracked 16 = .ok (.invokestatic 100, 3) := by decide +kernel
theorem dX2_cracked_19 : decode cX2_cracked 19 = .ok (.invokestatic 84, 3) := by decide +kernel
theorem dX2_cracked_22 : decode cX2_cracked 22 = .ok (.ireturn, 1) := by decide +kernel
theorem dX2_rinsed_0 : decode cX2_rinsed 0 = .ok (.iload_n 0, 1) := by decide +kernel
theorem dX2_rinsed_1 : decode cX2_rinsed 1 = .ok (.istore_n 1, 1) := by decide +kernel
theorem dX2_rinsed_2 : decode cX2_rinsed 2 = .ok (.iconst 0, 1) := by decide +kernel
theorem dX2_rinsed_3 : decode cX2_rinsed 3 = .ok (.istore_n 2, 1) := by decide +kernel
theorem dX2_rinsed_4 : decode cX2_rinsed 4 = .ok (.iload_n 2, 1) := by decide +kernel
theorem dX2_rinsed_5 : decode cX2_rinsed 5 = .ok (.iconst 3, 1) := by decide +kernel
theorem dX2_rinsed_6 : decode cX2_rinsed 6 = .ok (.if_icmp .ge 28, 3) := by decide +kernel
theorem dX2_rinsed_9 : decode cX2_rinsed 9 = .ok (.iload_n 1, 1) := by decide +kernel
theorem dX2_rinsed_10 : decode cX2_rinsed 10 = .ok (.iload_n 2, 1) := by decide +kernel
theorem dX2_rinsed_11 : decode cX2_rinsed 11 = .ok (.iload_n 0, 1) := by decide +kernel
theorem dX2_rinsed_12 : decode cX2_rinsed 12 = .ok (.iload_n 2, 1) := by decide +kernel
theorem dX2_rinsed_13 : decode cX2_rinsed 13 = .ok (.invokestatic 56, 3) := by decide +kernel
theorem dX2_rinsed_16 : decode cX2_rinsed 16 = .ok (.ifCond .le 7, 3) := by decide +kernel
theorem dX2_rinsed_19 : decode cX2_rinsed 19 = .ok (.iconst (-1), 1) := by decide +kernel
theorem dX2_rinsed_20 : decode cX2_rinsed 20 = .ok (.goto 4, 3) := by decide +kernel
theorem dX2_rinsed_23 : decode cX2_rinsed 23 = .ok (.iconst 0, 1) := by decide +kernel
theorem dX2_rinsed_24 : decode cX2_rinsed 24 = .ok (.invokestatic 94, 3) := by decide +kernel
theorem dX2_rinsed_27 : decode cX2_rinsed 27 = .ok (.istore_n 1, 1) := by decide +kernel
theorem dX2_rinsed_28 : decode cX2_rinsed 28 = .ok (.iinc 2 1, 3) := by decide +kernel
theorem dX2_rinsed_31 : decode cX2_rinsed 31 = .ok (.goto (-27), 3) := by decide +kernel
theorem dX2_rinsed_34 : decode cX2_rinsed 34 = .ok (.iload_n 1, 1) := by decide +kernel
theorem dX2_rinsed_35 : decode cX2_rinsed 35 = .ok (.ireturn, 1) := by decide +kernel
theorem dX2_afterRow_0 : decode cX2_afterRow 0 = .ok (.iload_n 2, 1) := by decide +kernel
theorem dX2_afterRow_1 : decode cX2_afterRow 1 = .ok (.istore 5, 2) := by decide +kernel
theorem dX2_afterRow_3 : decode cX2_afterRow 3 = .ok (.iconst 0, 1) := by decide +kernel
theorem dX2_afterRow_4 : decode cX2_afterRow 4 = .ok (.istore 6, 2) := by decide +kernel
theorem dX2_afterRow_6 : decode cX2_afterRow 6 = .ok (.iload 6, 2) := by decide +kernel
theorem dX2_afterRow_8 : decode cX2_afterRow 8 = .ok (.iload 4, 2) := by decide +kernel
theorem dX2_afterRow_10 : decode cX2_afterRow 10 = .ok (.if_icmp .ge 22, 3) := by decide +kernel
theorem dX2_afterRow_13 : decode cX2_afterRow 13 = .ok (.aload_n 0, 1) := by decide +kernel
theorem dX2_afterRow_14 : decode cX2_afterRow 14 = .ok (.iload_n 1, 1) := by decide +kernel
theorem dX2_afterRow_15 : decode cX2_afterRow 15 = .ok (.iload 5, 2) := by decide +kernel
theorem dX2_afterRow_17 : decode cX2_afterRow 17 = .ok (.aload_n 3, 1) := by decide +kernel
theorem dX2_afterRow_18 : decode cX2_afterRow 18 = .ok (.iload 6, 2) := by decide +kernel
theorem dX2_afterRow_20 : decode cX2_afterRow 20 = .ok (.iaload, 1) := by decide +kernel
theorem dX2_afterRow_21 : decode cX2_afterRow 21 = .ok (.invokevirtual 103, 3) := by decide +kernel
theorem dX2_afterRow_24 : decode cX2_afterRow 24 = .ok (.istore 5, 2) := by decide +kernel
theorem dX2_afterRow_26 : decode cX2_afterRow 26 = .ok (.iinc 6 1, 3) := by decide +kernel
theorem dX2_afterRow_29 : decode cX2_afterRow 29 = .ok (.goto (-23), 3) := by decide +kernel
theorem dX2_afterRow_32 : decode cX2_afterRow 32 = .ok (.iload 5, 2) := by decide +kernel
theorem dX2_afterRow_34 : decode cX2_afterRow 34 = .ok (.ireturn, 1) := by decide +kernel
theorem dX2_apply_0 : decode cX2_apply 0 = .ok (.iconst 0, 1) := by decide +kernel
theorem dX2_apply_1 : decode cX2_apply 1 = .ok (.istore 4, 2) := by decide +kernel
theorem dX2_apply_3 : decode cX2_apply 3 = .ok (.iconst 0, 1) := by decide +kernel
theorem dX2_apply_4 : decode cX2_apply 4 = .ok (.istore 5, 2) := by decide +kernel
theorem dX2_apply_6 : decode cX2_apply 6 = .ok (.iload 5, 2) := by decide +kernel
theorem dX2_apply_8 : decode cX2_apply 8 = .ok (.aload_n 0, 1) := by decide +kernel
theorem dX2_apply_9 : decode cX2_apply 9 = .ok (.getfield 27, 3) := by decide +kernel
theorem dX2_apply_12 : decode cX2_apply 12 = .ok (.if_icmp .ge 47, 3) := by decide +kernel
theorem dX2_apply_15 : decode cX2_apply 15 = .ok (.aload_n 2, 1) := by decide +kernel
theorem dX2_apply_16 : decode cX2_apply 16 = .ok (.iload 5, 2) := by decide +kernel
theorem dX2_apply_18 : decode cX2_apply 18 = .ok (.iaload, 1) := by decide +kernel
theorem dX2_apply_19 : decode cX2_apply 19 = .ok (.istore 6, 2) := by decide +kernel
theorem dX2_apply_21 : decode cX2_apply 21 = .ok (.aload_n 3, 1) := by decide +kernel
theorem dX2_apply_22 : decode cX2_apply 22 = .ok (.iload 5, 2) := by decide +kernel
theorem dX2_apply_24 : decode cX2_apply 24 = .ok (.aload_n 0, 1) := by decide +kernel
theorem dX2_apply_25 : decode cX2_apply 25 = .ok (.iload 5, 2) := by decide +kernel
theorem dX2_apply_27 : decode cX2_apply 27 = .ok (.iload 6, 2) := by decide +kernel
theorem dX2_apply_29 : decode cX2_apply 29 = .ok (.iload_n 1, 1) := by decide +kernel
theorem dX2_apply_30 : decode cX2_apply 30 = .ok (.invokevirtual 103, 3) := by decide +kernel
theorem dX2_apply_33 : decode cX2_apply 33 = .ok (.iastore, 1) := by decide +kernel
theorem dX2_apply_34 : decode cX2_apply 34 = .ok (.iload 4, 2) := by decide +kernel
theorem dX2_apply_36 : decode cX2_apply 36 = .ok (.aload_n 3, 1) := by decide +kernel
theorem dX2_apply_37 : decode cX2_apply 37 = .ok (.iload 5, 2) := by decide +kernel
theorem dX2_apply_39 : decode cX2_apply 39 = .ok (.iaload, 1) := by decide +kernel
theorem dX2_apply_40 : decode cX2_apply 40 = .ok (.iload 6, 2) := by decide +kernel
theorem dX2_apply_42 : decode cX2_apply 42 = .ok (.if_icmp .eq 7, 3) := by decide +kernel
theorem dX2_apply_45 : decode cX2_apply 45 = .ok (.iconst 1, 1) := by decide +kernel
theorem dX2_apply_46 : decode cX2_apply 46 = .ok (.goto 4, 3) := by decide +kernel
theorem dX2_apply_49 : decode cX2_apply 49 = .ok (.iconst 0, 1) := by decide +kernel
theorem dX2_apply_50 : decode cX2_apply 50 = .ok (.ior, 1) := by decide +kernel
theorem dX2_apply_51 : decode cX2_apply 51 = .ok (.istore 4, 2) := by decide +kernel
theorem dX2_apply_53 : decode cX2_apply 53 = .ok (.iinc 5 1, 3) := by decide +kernel
theorem dX2_apply_56 : decode cX2_apply 56 = .ok (.goto (-50), 3) := by decide +kernel
theorem dX2_apply_59 : decode cX2_apply 59 = .ok (.iload 4, 2) := by decide +kernel
theorem dX2_apply_61 : decode cX2_apply 61 = .ok (.ireturn, 1) := by decide +kernel
theorem dX2_isRight_0 : decode cX2_isRight 0 = .ok (.iload_n 2, 1) := by decide +kernel
theorem dX2_isRight_1 : decode cX2_isRight 1 = .ok (.invokestatic 106, 3) := by decide +kernel
theorem dX2_isRight_4 : decode cX2_isRight 4 = .ok (.aload_n 0, 1) := by decide +kernel
theorem dX2_isRight_5 : decode cX2_isRight 5 = .ok (.getfield 13, 3) := by decide +kernel
theorem dX2_isRight_8 : decode cX2_isRight 8 = .ok (.iload_n 1, 1) := by decide +kernel
theorem dX2_isRight_9 : decode cX2_isRight 9 = .ok (.iaload, 1) := by decide +kernel
theorem dX2_isRight_10 : decode cX2_isRight 10 = .ok (.if_icmp .ne 7, 3) := by decide +kernel
theorem dX2_isRight_13 : decode cX2_isRight 13 = .ok (.iconst 1, 1) := by decide +kernel
theorem dX2_isRight_14 : decode cX2_isRight 14 = .ok (.goto 4, 3) := by decide +kernel
theorem dX2_isRight_17 : decode cX2_isRight 17 = .ok (.iconst 0, 1) := by decide +kernel
theorem dX2_isRight_18 : decode cX2_isRight 18 = .ok (.ireturn, 1) := by decide +kernel
theorem dX2_rightSet_0 : decode cX2_rightSet 0 = .ok (.iconst 0, 1) := by decide +kernel
theorem dX2_rightSet_1 : decode cX2_rightSet 1 = .ok (.istore_n 2, 1) := by decide +kernel
theorem dX2_rightSet_2 : decode cX2_rightSet 2 = .ok (.iconst 0, 1) := by decide +kernel
theorem dX2_rightSet_3 : decode cX2_rightSet 3 = .ok (.istore_n 3, 1) := by decide +kernel
theorem dX2_rightSet_4 : decode cX2_rightSet 4 = .ok (.iload_n 3, 1) := by decide +kernel
theorem dX2_rightSet_5 : decode cX2_rightSet 5 = .ok (.aload_n 0, 1) := by decide +kernel
theorem dX2_rightSet_6 : decode cX2_rightSet 6 = .ok (.getfield 27, 3) := by decide +kernel
theorem dX2_rightSet_9 : decode cX2_rightSet 9 = .ok (.if_icmp .ge 26, 3) := by decide +kernel
theorem dX2_rightSet_12 : decode cX2_rightSet 12 = .ok (.aload_n 0, 1) := by decide +kernel
theorem dX2_rightSet_13 : decode cX2_rightSet 13 = .ok (.iload_n 3, 1) := by decide +kernel
theorem dX2_rightSet_14 : decode cX2_rightSet 14 = .ok (.aload_n 1, 1) := by decide +kernel
theorem dX2_rightSet_15 : decode cX2_rightSet 15 = .ok (.iload_n 3, 1) := by decide +kernel
theorem dX2_rightSet_16 : decode cX2_rightSet 16 = .ok (.iaload, 1) := by decide +kernel
theorem dX2_rightSet_17 : decode cX2_rightSet 17 = .ok (.invokevirtual 109, 3) := by decide +kernel
theorem dX2_rightSet_20 : decode cX2_rightSet 20 = .ok (.ifCond .eq 9, 3) := by decide +kernel
theorem dX2_rightSet_23 : decode cX2_rightSet 23 = .ok (.iload_n 2, 1) := by decide +kernel
theorem dX2_rightSet_24 : decode cX2_rightSet 24 = .ok (.iconst 1, 1) := by decide +kernel
theorem dX2_rightSet_25 : decode cX2_rightSet 25 = .ok (.iload_n 3, 1) := by decide +kernel
theorem dX2_rightSet_26 : decode cX2_rightSet 26 = .ok (.ishl, 1) := by decide +kernel
theorem dX2_rightSet_27 : decode cX2_rightSet 27 = .ok (.ior, 1) := by decide +kernel
theorem dX2_rightSet_28 : decode cX2_rightSet 28 = .ok (.istore_n 2, 1) := by decide +kernel
theorem dX2_rightSet_29 : decode cX2_rightSet 29 = .ok (.iinc 3 1, 3) := by decide +kernel
theorem dX2_rightSet_32 : decode cX2_rightSet 32 = .ok (.goto (-28), 3) := by decide +kernel
theorem dX2_rightSet_35 : decode cX2_rightSet 35 = .ok (.iload_n 2, 1) := by decide +kernel
theorem dX2_rightSet_36 : decode cX2_rightSet 36 = .ok (.ireturn, 1) := by decide +kernel
theorem dX2_rightCount_0 : decode cX2_rightCount 0 = .ok (.aload_n 0, 1) := by decide +kernel
theorem dX2_rightCount_1 : decode cX2_rightCount 1 = .ok (.aload_n 1, 1) := by decide +kernel
theorem dX2_rightCount_2 : decode cX2_rightCount 2 = .ok (.invokevirtual 113, 3) := by decide +kernel
theorem dX2_rightCount_5 : decode cX2_rightCount 5 = .ok (.invokestatic 117, 3) := by decide +kernel
theorem dX2_rightCount_8 : decode cX2_rightCount 8 = .ok (.ireturn, 1) := by decide +kernel
theorem dX2_darknessOf_0 : decode cX2_darknessOf 0 = .ok (.iconst 0, 1) := by decide +kernel
theorem dX2_darknessOf_1 : decode cX2_darknessOf 1 = .ok (.istore_n 2, 1) := by decide +kernel
theorem dX2_darknessOf_2 : decode cX2_darknessOf 2 = .ok (.iconst 0, 1) := by decide +kernel
theorem dX2_darknessOf_3 : decode cX2_darknessOf 3 = .ok (.istore_n 3, 1) := by decide +kernel
theorem dX2_darknessOf_4 : decode cX2_darknessOf 4 = .ok (.iload_n 3, 1) := by decide +kernel
theorem dX2_darknessOf_5 : decode cX2_darknessOf 5 = .ok (.aload_n 0, 1) := by decide +kernel
theorem dX2_darknessOf_6 : decode cX2_darknessOf 6 = .ok (.getfield 27, 3) := by decide +kernel
theorem dX2_darknessOf_9 : decode cX2_darknessOf 9 = .ok (.if_icmp .ge 18, 3) := by decide +kernel
theorem dX2_darknessOf_12 : decode cX2_darknessOf 12 = .ok (.iload_n 2, 1) := by decide +kernel
theorem dX2_darknessOf_13 : decode cX2_darknessOf 13 = .ok (.aload_n 1, 1) := by decide +kernel
theorem dX2_darknessOf_14 : decode cX2_darknessOf 14 = .ok (.iload_n 3, 1) := by decide +kernel
theorem dX2_darknessOf_15 : decode cX2_darknessOf 15 = .ok (.iaload, 1) := by decide +kernel
theorem dX2_darknessOf_16 : decode cX2_darknessOf 16 = .ok (.invokestatic 122, 3) := by decide +kernel
theorem dX2_darknessOf_19 : decode cX2_darknessOf 19 = .ok (.iadd, 1) := by decide +kernel
theorem dX2_darknessOf_20 : decode cX2_darknessOf 20 = .ok (.istore_n 2, 1) := by decide +kernel
theorem dX2_darknessOf_21 : decode cX2_darknessOf 21 = .ok (.iinc 3 1, 3) := by decide +kernel
theorem dX2_darknessOf_24 : decode cX2_darknessOf 24 = .ok (.goto (-20), 3) := by decide +kernel
theorem dX2_darknessOf_27 : decode cX2_darknessOf 27 = .ok (.iload_n 2, 1) := by decide +kernel
theorem dX2_darknessOf_28 : decode cX2_darknessOf 28 = .ok (.ireturn, 1) := by decide +kernel
theorem dX2_waxedSet_0 : decode cX2_waxedSet 0 = .ok (.iconst 0, 1) := by decide +kernel
theorem dX2_waxedSet_1 : decode cX2_waxedSet 1 = .ok (.istore_n 1, 1) := by decide +kernel
theorem dX2_waxedSet_2 : decode cX2_waxedSet 2 = .ok (.iconst 0, 1) := by decide +kernel
theorem dX2_waxedSet_3 : decode cX2_waxedSet 3 = .ok (.istore_n 2, 1) := by decide +kernel
theorem dX2_waxedSet_4 : decode cX2_waxedSet 4 = .ok (.iload_n 2, 1) := by decide +kernel
theorem dX2_waxedSet_5 : decode cX2_waxedSet 5 = .ok (.aload_n 0, 1) := by decide +kernel
theorem dX2_waxedSet_6 : decode cX2_waxedSet 6 = .ok (.getfield 27, 3) := by decide +kernel
theorem dX2_waxedSet_9 : decode cX2_waxedSet 9 = .ok (.if_icmp .ge 27, 3) := by decide +kernel
theorem dX2_waxedSet_12 : decode cX2_waxedSet 12 = .ok (.aload_n 0, 1) := by decide +kernel
theorem dX2_waxedSet_13 : decode cX2_waxedSet 13 = .ok (.getfield 16, 3) := by decide +kernel
theorem dX2_waxedSet_16 : decode cX2_waxedSet 16 = .ok (.iload_n 2, 1) := by decide +kernel
theorem dX2_waxedSet_17 : decode cX2_waxedSet 17 = .ok (.iaload, 1) := by decide +kernel
theorem dX2_waxedSet_18 : decode cX2_waxedSet 18 = .ok (.invokestatic 74, 3) := by decide +kernel
theorem dX2_waxedSet_21 : decode cX2_waxedSet 21 = .ok (.ifCond .le 9, 3) := by decide +kernel
theorem dX2_waxedSet_24 : decode cX2_waxedSet 24 = .ok (.iload_n 1, 1) := by decide +kernel
theorem dX2_waxedSet_25 : decode cX2_waxedSet 25 = .ok (.iconst 1, 1) := by decide +kernel
theorem dX2_waxedSet_26 : decode cX2_waxedSet 26 = .ok (.iload_n 2, 1) := by decide +kernel
theorem dX2_waxedSet_27 : decode cX2_waxedSet 27 = .ok (.ishl, 1) := by decide +kernel
theorem dX2_waxedSet_28 : decode cX2_waxedSet 28 = .ok (.ior, 1) := by decide +kernel
theorem dX2_waxedSet_29 : decode cX2_waxedSet 29 = .ok (.istore_n 1, 1) := by decide +kernel
theorem dX2_waxedSet_30 : decode cX2_waxedSet 30 = .ok (.iinc 2 1, 3) := by decide +kernel
theorem dX2_waxedSet_33 : decode cX2_waxedSet 33 = .ok (.goto (-29), 3) := by decide +kernel
theorem dX2_waxedSet_36 : decode cX2_waxedSet 36 = .ok (.iload_n 1, 1) := by decide +kernel
theorem dX2_waxedSet_37 : decode cX2_waxedSet 37 = .ok (.ireturn, 1) := by decide +kernel
theorem dX3_ofLetter_0 : decode cX3_ofLetter 0 = .ok (.iload_n 0, 1) := by decide +kernel
theorem dX3_ofLetter_1 : decode cX3_ofLetter 1 = .ok (.lookupswitch 61 #[(99, 51), (102, 59), (108, 53), (115, 55), (119, 57)], 51) := by decide +kernel
theorem dX3_ofLetter_52 : decode cX3_ofLetter 52 = .ok (.iconst 1, 1) := by decide +kernel
theorem dX3_ofLetter_53 : decode cX3_ofLetter 53 = .ok (.ireturn, 1) := by decide +kernel
theorem dX3_ofLetter_54 : decode cX3_ofLetter 54 = .ok (.iconst 2, 1) := by decide +kernel
theorem dX3_ofLetter_55 : decode cX3_ofLetter 55 = .ok (.ireturn, 1) := by decide +kernel
theorem dX3_ofLetter_56 : decode cX3_ofLetter 56 = .ok (.iconst 3, 1) := by decide +kernel
theorem dX3_ofLetter_57 : decode cX3_ofLetter 57 = .ok (.ireturn, 1) := by decide +kernel
theorem dX3_ofLetter_58 : decode cX3_ofLetter 58 = .ok (.iconst 4, 1) := by decide +kernel
theorem dX3_ofLetter_59 : decode cX3_ofLetter 59 = .ok (.ireturn, 1) := by decide +kernel
theorem dX3_ofLetter_60 : decode cX3_ofLetter 60 = .ok (.iconst 5, 1) := by decide +kernel
theorem dX3_ofLetter_61 : decode cX3_ofLetter 61 = .ok (.ireturn, 1) := by decide +kernel
theorem dX3_ofLetter_62 : decode cX3_ofLetter 62 = .ok (.iconst 0, 1) := by decide +kernel
theorem dX3_ofLetter_63 : decode cX3_ofLetter 63 = .ok (.ireturn, 1) := by decide +kernel
theorem dX3_isUnder_0 : decode cX3_isUnder 0 = .ok (.iload_n 0, 1) := by decide +kernel
theorem dX3_isUnder_1 : decode cX3_isUnder 1 = .ok (.istore_n 2, 1) := by decide +kernel
theorem dX3_isUnder_2 : decode cX3_isUnder 2 = .ok (.iconst 0, 1) := by decide +kernel
theorem dX3_isUnder_3 : decode cX3_isUnder 3 = .ok (.istore_n 3, 1) := by decide +kernel
theorem dX3_isUnder_4 : decode cX3_isUnder 4 = .ok (.iload_n 3, 1) := by decide +kernel
theorem dX3_isUnder_5 : decode cX3_isUnder 5 = .ok (.getstatic 9, 3) := by decide +kernel
theorem dX3_isUnder_8 : decode cX3_isUnder 8 = .ok (.arraylength, 1) := by decide +kernel
theorem dX3_isUnder_9 : decode cX3_isUnder 9 = .ok (.if_icmp .ge 24, 3) := by decide +kernel
theorem dX3_isUnder_12 : decode cX3_isUnder 12 = .ok (.iload_n 2, 1) := by decide +kernel
theorem dX3_isUnder_13 : decode cX3_isUnder 13 = .ok (.ifCond .le 20, 3) := by decide +kernel
theorem dX3_isUnder_16 : decode cX3_isUnder 16 = .ok (.iload_n 2, 1) := by decide +kernel
theorem dX3_isUnder_17 : decode cX3_isUnder 17 = .ok (.iload_n 1, 1) := by decide +kernel
theorem dX3_isUnder_18 : decode cX3_isUnder 18 = .ok (.if_icmp .eq 15, 3) := by decide +kernel
theorem dX3_isUnder_21 : decode cX3_isUnder 21 = .ok (.getstatic 9, 3) := by decide +kernel
theorem dX3_isUnder_24 : decode cX3_isUnder 24 = .ok (.iload_n 2, 1) := by decide +kernel
theorem dX3_isUnder_25 : decode cX3_isUnder 25 = .ok (.iaload, 1) := by decide +kernel
theorem dX3_isUnder_26 : decode cX3_isUnder 26 = .ok (.istore_n 2, 1) := by decide +kernel
theorem dX3_isUnder_27 : decode cX3_isUnder 27 = .ok (.iinc 3 1, 3) := by decide +kernel
theorem dX3_isUnder_30 : decode cX3_isUnder 30 = .ok (.goto (-26), 3) := by decide +kernel
theorem dX3_isUnder_33 : decode cX3_isUnder 33 = .ok (.iload_n 2, 1) := by decide +kernel
theorem dX3_isUnder_34 : decode cX3_isUnder 34 = .ok (.iload_n 1, 1) := by decide +kernel
theorem dX3_isUnder_35 : decode cX3_isUnder 35 = .ok (.if_icmp .ne 7, 3) := by decide +kernel
theorem dX3_isUnder_38 : decode cX3_isUnder 38 = .ok (.iconst 1, 1) := by decide +kernel
theorem dX3_isUnder_39 : decode cX3_isUnder 39 = .ok (.goto 4, 3) := by decide +kernel
theorem dX3_isUnder_42 : decode cX3_isUnder 42 = .ok (.iconst 0, 1) := by decide +kernel
theorem dX3_isUnder_43 : decode cX3_isUnder 43 = .ok (.ireturn, 1) := by decide +kernel
theorem dX3_taken_0 : decode cX3_taken 0 = .ok (.iload_n 0, 1) := by decide +kernel
theorem dX3_taken_1 : decode cX3_taken 1 = .ok (.tableswitch 87 2 5 #[31, 42, 54, 68], 31) := by decide +kernel
theorem dX3_taken_32 : decode cX3_taken 32 = .ok (.iload_n 1, 1) := by decide +kernel
theorem dX3_taken_33 : decode cX3_taken 33 = .ok (.iconst 2, 1) := by decide +kernel
theorem dX3_taken_34 : decode cX3_taken 34 = .ok (.if_icmp .ge 7, 3) := by decide +kernel
theorem dX3_taken_37 : decode cX3_taken 37 = .ok (.iload_n 1, 1) := by decide +kernel
theorem dX3_taken_38 : decode cX3_taken 38 = .ok (.goto 4, 3) := by decide +kernel
theorem dX3_taken_41 : decode cX3_taken 41 = .ok (.iconst 2, 1) := by decide +kernel
theorem dX3_taken_42 : decode cX3_taken 42 = .ok (.ireturn, 1) := by decide +kernel
theorem dX3_taken_43 : decode cX3_taken 43 = .ok (.iload_n 1, 1) := by decide +kernel
theorem dX3_taken_44 : decode cX3_taken 44 = .ok (.ifCond .ne 7, 3) := by decide +kernel
theorem dX3_taken_47 : decode cX3_taken 47 = .ok (.iconst 0, 1) := by decide +kernel
theorem dX3_taken_48 : decode cX3_taken 48 = .ok (.goto 6, 3) := by decide +kernel
theorem dX3_taken_51 : decode cX3_taken 51 = .ok (.iload_n 1, 1) := by decide +kernel
theorem dX3_taken_52 : decode cX3_taken 52 = .ok (.iconst 1, 1) := by decide +kernel
theorem dX3_taken_53 : decode cX3_taken 53 = .ok (.iadd, 1) := by decide +kernel
theorem dX3_taken_54 : decode cX3_taken 54 = .ok (.ireturn, 1) := by decide +kernel
theorem dX3_taken_55 : decode cX3_taken 55 = .ok (.iload_n 1, 1) := by decide +kernel
theorem dX3_taken_56 : decode cX3_taken 56 = .ok (.ifCond .ne 7, 3) := by decide +kernel
theorem dX3_taken_59 : decode cX3_taken 59 = .ok (.iconst 0, 1) := by decide +kernel
theorem dX3_taken_60 : decode cX3_taken 60 = .ok (.goto 8, 3) := by decide +kernel
theorem dX3_taken_63 : decode cX3_taken 63 = .ok (.iload_n 1, 1) := by decide +kernel
theorem dX3_taken_64 : decode cX3_taken 64 = .ok (.iconst 2, 1) := by decide +kernel
theorem dX3_taken_65 : decode cX3_taken 65 = .ok (.idiv, 1) := by decide +kernel
theorem dX3_taken_66 : decode cX3_taken 66 = .ok (.iconst 1, 1) := by decide +kernel
theorem dX3_taken_67 : decode cX3_taken 67 = .ok (.iadd, 1) := by decide +kernel
theorem dX3_taken_68 : decode cX3_taken 68 = .ok (.ireturn, 1) := by decide +kernel
theorem dX3_taken_69 : decode cX3_taken 69 = .ok (.iload_n 1, 1) := by decide +kernel
theorem dX3_taken_70 : decode cX3_taken 70 = .ok (.ifCond .eq 8, 3) := by decide +kernel
theorem dX3_taken_73 : decode cX3_taken 73 = .ok (.iload_n 2, 1) := by decide +kernel
theorem dX3_taken_74 : decode cX3_taken 74 = .ok (.iconst 4, 1) := by decide +kernel
theorem dX3_taken_75 : decode cX3_taken 75 = .ok (.if_icmp .lt 7, 3) := by decide +kernel
theorem dX3_taken_78 : decode cX3_taken 78 = .ok (.iconst 0, 1) := by decide +kernel
theorem dX3_taken_79 : decode cX3_taken 79 = .ok (.goto 8, 3) := by decide +kernel
theorem dX3_taken_82 : decode cX3_taken 82 = .ok (.iload_n 1, 1) := by decide +kernel
theorem dX3_taken_83 : decode cX3_taken 83 = .ok (.iconst 2, 1) := by decide +kernel
theorem dX3_taken_84 : decode cX3_taken 84 = .ok (.idiv, 1) := by decide +kernel
theorem dX3_taken_85 : decode cX3_taken 85 = .ok (.iconst 1, 1) := by decide +kernel
theorem dX3_taken_86 : decode cX3_taken 86 = .ok (.iadd, 1) := by decide +kernel
theorem dX3_taken_87 : decode cX3_taken 87 = .ok (.ireturn, 1) := by decide +kernel
theorem dX3_taken_88 : decode cX3_taken 88 = .ok (.iload_n 1, 1) := by decide +kernel
theorem dX3_taken_89 : decode cX3_taken 89 = .ok (.ireturn, 1) := by decide +kernel
theorem dX3_layersCracked_0 : decode cX3_layersCracked 0 = .ok (.iload_n 0, 1) := by decide +kernel
theorem dX3_layersCracked_1 : decode cX3_layersCracked 1 = .ok (.lookupswitch 31 #[(3, 27), (4, 29)], 27) := by decide +kernel
theorem dX3_layersCracked_28 : decode cX3_layersCracked 28 = .ok (.iconst 2, 1) := by decide +kernel
theorem dX3_layersCracked_29 : decode cX3_layersCracked 29 = .ok (.ireturn, 1) := by decide +kernel
theorem dX3_layersCracked_30 : decode cX3_layersCracked 30 = .ok (.iconst 0, 1) := by decide +kernel
theorem dX3_layersCracked_31 : decode cX3_layersCracked 31 = .ok (.ireturn, 1) := by decide +kernel
theorem dX3_layersCracked_32 : decode cX3_layersCracked 32 = .ok (.iconst 1, 1) := by decide +kernel
theorem dX3_layersCracked_33 : decode cX3_layersCracked 33 = .ok (.ireturn, 1) := by decide +kernel
theorem dX3_thatTake_0 : decode cX3_thatTake 0 = .ok (.iconst 0, 1) := by decide +kernel
theorem dX3_thatTake_1 : decode cX3_thatTake 1 = .ok (.istore 5, 2) := by decide +kernel
theorem dX3_thatTake_3 : decode cX3_thatTake 3 = .ok (.iconst 1, 1) := by decide +kernel
theorem dX3_thatTake_4 : decode cX3_thatTake 4 = .ok (.istore 6, 2) := by decide +kernel
theorem dX3_thatTake_6 : decode cX3_thatTake 6 = .ok (.iload 6, 2) := by decide +kernel
theorem dX3_thatTake_8 : decode cX3_thatTake 8 = .ok (.iconst 5, 1) := by decide +kernel
theorem dX3_thatTake_9 : decode cX3_thatTake 9 = .ok (.if_icmp .gt 40, 3) := by decide +kernel
theorem dX3_thatTake_12 : decode cX3_thatTake 12 = .ok (.iload_n 0, 1) := by decide +kernel
theorem dX3_thatTake_13 : decode cX3_thatTake 13 = .ok (.iload 6, 2) := by decide +kernel
theorem dX3_thatTake_15 : decode cX3_thatTake 15 = .ok (.ishr, 1) := by decide +kernel
theorem dX3_thatTake_16 : decode cX3_thatTake 16 = .ok (.iconst 1, 1) := by decide +kernel
theorem dX3_thatTake_17 : decode cX3_thatTake 17 = .ok (.iand, 1) := by decide +kernel
theorem dX3_thatTake_18 : decode cX3_thatTake 18 = .ok (.ifCond .eq 25, 3) := by decide +kernel
theorem dX3_thatTake_21 : decode cX3_thatTake 21 = .ok (.iload 6, 2) := by decide +kernel
theorem dX3_thatTake_23 : decode cX3_thatTake 23 = .ok (.iload_n 2, 1) := by decide +kernel
theorem dX3_thatTake_24 : decode cX3_thatTake 24 = .ok (.iload_n 1, 1) := by decide +kernel
theorem dX3_thatTake_25 : decode cX3_thatTake 25 = .ok (.invokestatic 13, 3) := by decide +kernel
theorem dX3_thatTake_28 : decode cX3_thatTake 28 = .ok (.i2l, 1) := by decide +kernel
theorem dX3_thatTake_29 : decode cX3_thatTake 29 = .ok (.lload_n 3, 1) := by decide +kernel
theorem dX3_thatTake_30 : decode cX3_thatTake 30 = .ok (.lcmp, 1) := by decide +kernel
theorem dX3_thatTake_31 : decode cX3_thatTake 31 = .ok (.ifCond .ne 12, 3) := by decide +kernel
theorem dX3_thatTake_34 : decode cX3_thatTake 34 = .ok (.iload 5, 2) := by decide +kernel
theorem dX3_thatTake_36 : decode cX3_thatTake 36 = .ok (.iconst 1, 1) := by decide +kernel
theorem dX3_thatTake_37 : decode cX3_thatTake 37 = .ok (.iload 6, 2) := by decide +kernel
theorem dX3_thatTake_39 : decode cX3_thatTake 39 = .ok (.ishl, 1) := by decide +kernel
theorem dX3_thatTake_40 : decode cX3_thatTake 40 = .ok (.ior, 1) := by decide +kernel
theorem dX3_thatTake_41 : decode cX3_thatTake 41 = .ok (.istore 5, 2) := by decide +kernel
theorem dX3_thatTake_43 : decode cX3_thatTake 43 = .ok (.iinc 6 1, 3) := by decide +kernel
theorem dX3_thatTake_46 : decode cX3_thatTake 46 = .ok (.goto (-40), 3) := by decide +kernel
theorem dX3_thatTake_49 : decode cX3_thatTake 49 = .ok (.iload 5, 2) := by decide +kernel
theorem dX3_thatTake_51 : decode cX3_thatTake 51 = .ok (.ireturn, 1) := by decide +kernel
theorem dX3_bestTry_0 : decode cX3_bestTry 0 = .ok (.iconst 1, 1) := by decide +kernel
theorem dX3_bestTry_1 : decode cX3_bestTry 1 = .ok (.istore_n 2, 1) := by decide +kernel
theorem dX3_bestTry_2 : decode cX3_bestTry 2 = .ok (.iload_n 0, 1) := by decide +kernel
theorem dX3_bestTry_3 : decode cX3_bestTry 3 = .ok (.iload_n 1, 1) := by decide +kernel
theorem dX3_bestTry_4 : decode cX3_bestTry 4 = .ok (.iconst 1, 1) := by decide +kernel
theorem dX3_bestTry_5 : decode cX3_bestTry 5 = .ok (.invokestatic 17, 3) := by decide +kernel
theorem dX3_bestTry_8 : decode cX3_bestTry 8 = .ok (.istore_n 3, 1) := by decide +kernel
theorem dX3_bestTry_9 : decode cX3_bestTry 9 = .ok (.iconst 2, 1) := by decide +kernel
theorem dX3_bestTry_10 : decode cX3_bestTry 10 = .ok (.istore 4, 2) := by decide +kernel
theorem dX3_bestTry_12 : decode cX3_bestTry 12 = .ok (.iload 4, 2) := by decide +kernel
theorem dX3_bestTry_14 : decode cX3_bestTry 14 = .ok (.iconst 3, 1) := by decide +kernel
theorem dX3_bestTry_15 : decode cX3_bestTry 15 = .ok (.if_icmp .gt 30, 3) := by decide +kernel
theorem dX3_bestTry_18 : decode cX3_bestTry 18 = .ok (.iload_n 0, 1) := by decide +kernel
theorem dX3_bestTry_19 : decode cX3_bestTry 19 = .ok (.iload_n 1, 1) := by decide +kernel
theorem dX3_bestTry_20 : decode cX3_bestTry 20 = .ok (.iload 4, 2) := by decide +kernel
theorem dX3_bestTry_22 : decode cX3_bestTry 22 = .ok (.invokestatic 17, 3) := by decide +kernel
theorem dX3_bestTry_25 : decode cX3_bestTry 25 = .ok (.istore 5, 2) := by decide +kernel
theorem dX3_bestTry_27 : decode cX3_bestTry 27 = .ok (.iload 5, 2) := by decide +kernel
theorem dX3_bestTry_29 : decode cX3_bestTry 29 = .ok (.iload_n 3, 1) := by decide +kernel
theorem dX3_bestTry_30 : decode cX3_bestTry 30 = .ok (.if_icmp .ge 9, 3) := by decide +kernel
theorem dX3_bestTry_33 : decode cX3_bestTry 33 = .ok (.iload 5, 2) := by decide +kernel
theorem dX3_bestTry_35 : decode cX3_bestTry 35 = .ok (.istore_n 3, 1) := by decide +kernel
theorem dX3_bestTry_36 : decode cX3_bestTry 36 = .ok (.iload 4, 2) := by decide +kernel
theorem dX3_bestTry_38 : decode cX3_bestTry 38 = .ok (.istore_n 2, 1) := by decide +kernel
theorem dX3_bestTry_39 : decode cX3_bestTry 39 = .ok (.iinc 4 1, 3) := by decide +kernel
theorem dX3_bestTry_42 : decode cX3_bestTry 42 = .ok (.goto (-30), 3) := by decide +kernel
theorem dX3_bestTry_45 : decode cX3_bestTry 45 = .ok (.iload_n 2, 1) := by decide +kernel
theorem dX3_bestTry_46 : decode cX3_bestTry 46 = .ok (.ireturn, 1) := by decide +kernel
theorem dX3_greatestPart_0 : decode cX3_greatestPart 0 = .ok (.iconst 0, 1) := by decide +kernel
theorem dX3_greatestPart_1 : decode cX3_greatestPart 1 = .ok (.istore_n 3, 1) := by decide +kernel
theorem dX3_greatestPart_2 : decode cX3_greatestPart 2 = .ok (.iconst 0, 1) := by decide +kernel
theorem dX3_greatestPart_3 : decode cX3_greatestPart 3 = .ok (.istore 4, 2) := by decide +kernel
theorem dX3_greatestPart_5 : decode cX3_greatestPart 5 = .ok (.iload 4, 2) := by decide +kernel
theorem dX3_greatestPart_7 : decode cX3_greatestPart 7 = .ok (.iconst 4, 1) := by decide +kernel
theorem dX3_greatestPart_8 : decode cX3_greatestPart 8 = .ok (.if_icmp .gt 26, 3) := by decide +kernel
theorem dX3_greatestPart_11 : decode cX3_greatestPart 11 = .ok (.iload_n 3, 1) := by decide +kernel
theorem dX3_greatestPart_12 : decode cX3_greatestPart 12 = .ok (.iload_n 0, 1) := by decide +kernel
theorem dX3_greatestPart_13 : decode cX3_greatestPart 13 = .ok (.iload_n 1, 1) := by decide +kernel
theorem dX3_greatestPart_14 : decode cX3_greatestPart 14 = .ok (.iload_n 2, 1) := by decide +kernel
theorem dX3_greatestPart_15 : decode cX3_greatestPart 15 = .ok (.iload 4, 2) := by decide +kernel
theorem dX3_greatestPart_17 : decode cX3_greatestPart 17 = .ok (.i2l, 1) := by decide +kernel
theorem dX3_greatestPart_18 : decode cX3_greatestPart 18 = .ok (.invokestatic 20, 3) := by decide +kernel
theorem dX3_greatestPart_21 : decode cX3_greatestPart 21 = .ok (.invokestatic 24, 3) := by decide +kernel
theorem dX3_greatestPart_24 : decode cX3_greatestPart 24 = .ok (.invokestatic 30, 3) := by decide +kernel
theorem dX3_greatestPart_27 : decode cX3_greatestPart 27 = .ok (.istore_n 3, 1) := by decide +kernel
theorem dX3_greatestPart_28 : decode cX3_greatestPart 28 = .ok (.iinc 4 1, 3) := by decide +kernel
theorem dX3_greatestPart_31 : decode cX3_greatestPart 31 = .ok (.goto (-26), 3) := by decide +kernel
theorem dX3_greatestPart_34 : decode cX3_greatestPart 34 = .ok (.iload_n 3, 1) := by decide +kernel
theorem dX3_greatestPart_35 : decode cX3_greatestPart 35 = .ok (.ireturn, 1) := by decide +kernel
theorem dX4_init_0 : decode cX4_init 0 = .ok (.aload_n 0, 1) := by decide +kernel
theorem dX4_init_1 : decode cX4_init 1 = .ok (.invokespecial 1, 3) := by decide +kernel
theorem dX4_init_4 : decode cX4_init 4 = .ok (.aload_n 0, 1) := by decide +kernel
theorem dX4_init_5 : decode cX4_init 5 = .ok (.bipush 24, 2) := by decide +kernel
theorem dX4_init_7 : decode cX4_init 7 = .ok (.bipush 8, 2) := by decide +kernel
theorem dX4_init_9 : decode cX4_init 9 = .ok (.multianewarray 11 2, 4) := by decide +kernel
theorem dX4_init_13 : decode cX4_init 13 = .ok (.putfield 13, 3) := by decide +kernel
theorem dX4_init_16 : decode cX4_init 16 = .ok (.return_, 1) := by decide +kernel
theorem dX4_forget_0 : decode cX4_forget 0 = .ok (.aload_n 0, 1) := by decide +kernel
theorem dX4_forget_1 : decode cX4_forget 1 = .ok (.iconst 0, 1) := by decide +kernel
theorem dX4_forget_2 : decode cX4_forget 2 = .ok (.putfield 16, 3) := by decide +kernel
theorem dX4_forget_5 : decode cX4_forget 5 = .ok (.return_, 1) := by decide +kernel
theorem dX4_keep_0 : decode cX4_keep 0 = .ok (.aload_n 1, 1) := by decide +kernel
theorem dX4_keep_1 : decode cX4_keep 1 = .ok (.iconst 0, 1) := by decide +kernel
theorem dX4_keep_2 : decode cX4_keep 2 = .ok (.aload_n 0, 1) := by decide +kernel
theorem dX4_keep_3 : decode cX4_keep 3 = .ok (.getfield 13, 3) := by decide +kernel
theorem dX4_keep_6 : decode cX4_keep 6 = .ok (.aload_n 0, 1) := by decide +kernel
theorem dX4_keep_7 : decode cX4_keep 7 = .ok (.getfield 20, 3) := by decide +kernel
theorem dX4_keep_10 : decode cX4_keep 10 = .ok (.aaload, 1) := by decide +kernel
theorem dX4_keep_11 : decode cX4_keep 11 = .ok (.iconst 0, 1) := by decide +kernel
theorem dX4_keep_12 : decode cX4_keep 12 = .ok (.bipush 8, 2) := by decide +kernel
theorem dX4_keep_14 : decode cX4_keep 14 = .ok (.invokestatic 23, 3) := by decide +kernel
theorem dX4_keep_17 : decode cX4_keep 17 = .ok (.aload_n 0, 1) := by decide +kernel
theorem dX4_keep_18 : decode cX4_keep 18 = .ok (.aload_n 0, 1) := by decide +kernel
theorem dX4_keep_19 : decode cX4_keep 19 = .ok (.getfield 20, 3) := by decide +kernel
theorem dX4_keep_22 : decode cX4_keep 22 = .ok (.iconst 1, 1) := by decide +kernel
theorem dX4_keep_23 : decode cX4_keep 23 = .ok (.iadd, 1) := by decide +kernel
theorem dX4_keep_24 : decode cX4_keep 24 = .ok (.bipush 24, 2) := by decide +kernel
theorem dX4_keep_26 : decode cX4_keep 26 = .ok (.irem, 1) := by decide +kernel
theorem dX4_keep_27 : decode cX4_keep 27 = .ok (.putfield 20, 3) := by decide +kernel
theorem dX4_keep_30 : decode cX4_keep 30 = .ok (.aload_n 0, 1) := by decide +kernel
theorem dX4_keep_31 : decode cX4_keep 31 = .ok (.aload_n 0, 1) := by decide +kernel
theorem dX4_keep_32 : decode cX4_keep 32 = .ok (.getfield 16, 3) := by decide +kernel
theorem dX4_keep_35 : decode cX4_keep 35 = .ok (.iconst 1, 1) := by decide +kernel
theorem dX4_keep_36 : decode cX4_keep 36 = .ok (.iadd, 1) := by decide +kernel
theorem dX4_keep_37 : decode cX4_keep 37 = .ok (.bipush 24, 2) := by decide +kernel
theorem dX4_keep_39 : decode cX4_keep 39 = .ok (.invokestatic 29, 3) := by decide +kernel
theorem dX4_keep_42 : decode cX4_keep 42 = .ok (.putfield 16, 3) := by decide +kernel
theorem dX4_keep_45 : decode cX4_keep 45 = .ok (.return_, 1) := by decide +kernel
theorem dX4_takeBack_0 : decode cX4_takeBack 0 = .ok (.aload_n 0, 1) := by decide +kernel
theorem dX4_takeBack_1 : decode cX4_takeBack 1 = .ok (.getfield 16, 3) := by decide +kernel
theorem dX4_takeBack_4 : decode cX4_takeBack 4 = .ok (.ifCond .ne 5, 3) := by decide +kernel
theorem dX4_takeBack_7 : decode cX4_takeBack 7 = .ok (.iconst 0, 1) := by decide +kernel
theorem dX4_takeBack_8 : decode cX4_takeBack 8 = .ok (.ireturn, 1) := by decide +kernel
theorem dX4_takeBack_9 : decode cX4_takeBack 9 = .ok (.aload_n 0, 1) := by decide +kernel
theorem dX4_takeBack_10 : decode cX4_takeBack 10 = .ok (.aload_n 0, 1) := by decide +kernel
theorem dX4_takeBack_11 : decode cX4_takeBack 11 = .ok (.getfield 20, 3) := by decide +kernel
theorem dX4_takeBack_14 : decode cX4_takeBack 14 = .ok (.bipush 24, 2) := by decide +kernel
theorem dX4_takeBack_16 : decode cX4_takeBack 16 = .ok (.iadd, 1) := by decide +kernel
theorem dX4_takeBack_17 : decode cX4_takeBack 17 = .ok (.iconst 1, 1) := by decide +kernel
theorem dX4_takeBack_18 : decode cX4_takeBack 18 = .ok (.isub, 1) := by decide +kernel
theorem dX4_takeBack_19 : decode cX4_takeBack 19 = .ok (.bipush 24, 2) := by decide +kernel
theorem dX4_takeBack_21 : decode cX4_takeBack 21 = .ok (.irem, 1) := by decide +kernel
theorem dX4_takeBack_22 : decode cX4_takeBack 22 = .ok (.putfield 20, 3) := by decide +kernel
theorem dX4_takeBack_25 : decode cX4_takeBack 25 = .ok (.aload_n 0, 1) := by decide +kernel
theorem dX4_takeBack_26 : decode cX4_takeBack 26 = .ok (.dup, 1) := by decide +kernel
theorem dX4_takeBack_27 : decode cX4_takeBack 27 = .ok (.getfield 16, 3) := by decide +kernel
theorem dX4_takeBack_30 : decode cX4_takeBack 30 = .ok (.iconst 1, 1) := by decide +kernel
theorem dX4_takeBack_31 : decode cX4_takeBack 31 = .ok (.isub, 1) := by decide +kernel
theorem dX4_takeBack_32 : decode cX4_takeBack 32 = .ok (.putfield 16, 3) := by decide +kernel
theorem dX4_takeBack_35 : decode cX4_takeBack 35 = .ok (.aload_n 0, 1) := by decide +kernel
theorem dX4_takeBack_36 : decode cX4_takeBack 36 = .ok (.getfield 13, 3) := by decide +kernel
theorem dX4_takeBack_39 : decode cX4_takeBack 39 = .ok (.aload_n 0, 1) := by decide +kernel
theorem dX4_takeBack_40 : decode cX4_takeBack 40 = .ok (.getfield 20, 3) := by decide +kernel
theorem dX4_takeBack_43 : decode cX4_takeBack 43 = .ok (.aaload, 1) := by decide +kernel
theorem dX4_takeBack_44 : decode cX4_takeBack 44 = .ok (.iconst 0, 1) := by decide +kernel
theorem dX4_takeBack_45 : decode cX4_takeBack 45 = .ok (.aload_n 1, 1) := by decide +kernel
theorem dX4_takeBack_46 : decode cX4_takeBack 46 = .ok (.iconst 0, 1) := by decide +kernel
theorem dX4_takeBack_47 : decode cX4_takeBack 47 = .ok (.bipush 8, 2) := by decide +kernel
theorem dX4_takeBack_49 : decode cX4_takeBack 49 = .ok (.invokestatic 23, 3) := by decide +kernel
theorem dX4_takeBack_52 : decode cX4_takeBack 52 = .ok (.iconst 1, 1) := by decide +kernel
theorem dX4_takeBack_53 : decode cX4_takeBack 53 = .ok (.ireturn, 1) := by decide +kernel
theorem dX5_init_0 : decode cX5_init 0 = .ok (.aload_n 0, 1) := by decide +kernel
theorem dX5_init_1 : decode cX5_init 1 = .ok (.invokespecial 3, 3) := by decide +kernel
theorem dX5_init_4 : decode cX5_init 4 = .ok (.aload_n 0, 1) := by decide +kernel
theorem dX5_init_5 : decode cX5_init 5 = .ok (.iconst 4, 1) := by decide +kernel
theorem dX5_init_6 : decode cX5_init 6 = .ok (.newarray .int, 2) := by decide +kernel
theorem dX5_init_8 : decode cX5_init 8 = .ok (.putfield 9, 3) := by decide +kernel
theorem dX5_init_11 : decode cX5_init 11 = .ok (.aload_n 0, 1) := by decide +kernel
theorem dX5_init_12 : decode cX5_init 12 = .ok (.iconst 4, 1) := by decide +kernel
theorem dX5_init_13 : decode cX5_init 13 = .ok (.newarray .int, 2) := by decide +kernel
theorem dX5_init_15 : decode cX5_init 15 = .ok (.putfield 15, 3) := by decide +kernel
theorem dX5_init_18 : decode cX5_init 18 = .ok (.aload_n 0, 1) := by decide +kernel
theorem dX5_init_19 : decode cX5_init 19 = .ok (.iconst 5, 1) := by decide +kernel
theorem dX5_init_20 : decode cX5_init 20 = .ok (.bipush 8, 2) := by decide +kernel
theorem dX5_init_22 : decode cX5_init 22 = .ok (.multianewarray 20 2, 4) := by decide +kernel
theorem dX5_init_26 : decode cX5_init 26 = .ok (.putfield 22, 3) := by decide +kernel
theorem dX5_init_29 : decode cX5_init 29 = .ok (.return_, 1) := by decide +kernel
theorem dX5_search_0 : decode cX5_search 0 = .ok (.aload_n 1, 1) := by decide +kernel
theorem dX5_search_1 : decode cX5_search 1 = .ok (.getfield 25, 3) := by decide +kernel
theorem dX5_search_4 : decode cX5_search 4 = .ok (.iconst 0, 1) := by decide +kernel
theorem dX5_search_5 : decode cX5_search 5 = .ok (.aload_n 0, 1) := by decide +kernel
theorem dX5_search_6 : decode cX5_search 6 = .ok (.getfield 22, 3) := by decide +kernel
theorem dX5_search_9 : decode cX5_search 9 = .ok (.iconst 0, 1) := by decide +kernel
theorem dX5_search_10 : decode cX5_search 10 = .ok (.aaload, 1) := by decide +kernel
theorem dX5_search_11 : decode cX5_search 11 = .ok (.iconst 0, 1) := by decide +kernel
theorem dX5_search_12 : decode cX5_search 12 = .ok (.bipush 8, 2) := by decide +kernel
theorem dX5_search_14 : decode cX5_search 14 = .ok (.invokestatic 28, 3) := by decide +kernel
theorem dX5_search_17 : decode cX5_search 17 = .ok (.aload_n 0, 1) := by decide +kernel
theorem dX5_search_18 : decode cX5_search 18 = .ok (.aload_n 1, 1) := by decide +kernel
theorem dX5_search_19 : decode cX5_search 19 = .ok (.aload_n 1, 1) := by decide +kernel
theorem dX5_search_20 : decode cX5_search 20 = .ok (.getfield 25, 3) := by decide +kernel
theorem dX5_search_23 : decode cX5_search 23 = .ok (.invokevirtual 34, 3) := by decide +kernel
theorem dX5_search_26 : decode cX5_search 26 = .ok (.putfield 38, 3) := by decide +kernel
theorem dX5_search_29 : decode cX5_search 29 = .ok (.aload_n 0, 1) := by decide +kernel
theorem dX5_search_30 : decode cX5_search 30 = .ok (.iconst 0, 1) := by decide +kernel
theorem dX5_search_31 : decode cX5_search 31 = .ok (.putfield 42, 3) := by decide +kernel
theorem dX5_search_34 : decode cX5_search 34 = .ok (.iconst 1, 1) := by decide +kernel
theorem dX5_search_35 : decode cX5_search 35 = .ok (.istore_n 3, 1) := by decide +kernel
theorem dX5_search_36 : decode cX5_search 36 = .ok (.iload_n 3, 1) := by decide +kernel
theorem dX5_search_37 : decode cX5_search 37 = .ok (.iload_n 2, 1) := by decide +kernel
theorem dX5_search_38 : decode cX5_search 38 = .ok (.if_icmp .gt 27, 3) := by decide +kernel
theorem dX5_search_41 : decode cX5_search 41 = .ok (.aload_n 0, 1) := by decide +kernel
theorem dX5_search_42 : decode cX5_search 42 = .ok (.getfield 38, 3) := by decide +kernel
theorem dX5_search_45 : decode cX5_search 45 = .ok (.aload_n 1, 1) := by decide +kernel
theorem dX5_search_46 : decode cX5_search 46 = .ok (.getfield 45, 3) := by decide +kernel
theorem dX5_search_49 : decode cX5_search 49 = .ok (.if_icmp .ge 16, 3) := by decide +kernel
theorem dX5_search_52 : decode cX5_search 52 = .ok (.aload_n 0, 1) := by decide +kernel
theorem dX5_search_53 : decode cX5_search 53 = .ok (.aload_n 1, 1) := by decide +kernel
theorem dX5_search_54 : decode cX5_search 54 = .ok (.iconst 0, 1) := by decide +kernel
theorem dX5_search_55 : decode cX5_search 55 = .ok (.iload_n 3, 1) := by decide +kernel
theorem dX5_search_56 : decode cX5_search 56 = .ok (.invokevirtual 48, 3) := by decide +kernel
theorem dX5_search_59 : decode cX5_search 59 = .ok (.iinc 3 1, 3) := by decide +kernel
theorem dX5_search_62 : decode cX5_search 62 = .ok (.goto (-26), 3) := by decide +kernel
theorem dX5_search_65 : decode cX5_search 65 = .ok (.return_, 1) := by decide +kernel
theorem dX5_extend_0 : decode cX5_extend 0 = .ok (.iload_n 2, 1) := by decide +kernel
theorem dX5_extend_1 : decode cX5_extend 1 = .ok (.iconst 4, 1) := by decide +kernel
theorem dX5_extend_2 : decode cX5_extend 2 = .ok (.if_icmp .lt 4, 3) := by decide +kernel
theorem dX5_extend_5 : decode cX5_extend 5 = .ok (.return_, 1) := by decide +kernel
theorem dX5_extend_6 : decode cX5_extend 6 = .ok (.iload_n 2, 1) := by decide +kernel
theorem dX5_extend_7 : decode cX5_extend 7 = .ok (.iconst 1, 1) := by decide +kernel
theorem dX5_extend_8 : decode cX5_extend 8 = .ok (.iadd, 1) := by decide +kernel
theorem dX5_extend_9 : decode cX5_extend 9 = .ok (.iload_n 3, 1) := by decide +kernel
theorem dX5_extend_10 : decode cX5_extend 10 = .ok (.if_icmp .ne 7, 3) := by decide +kernel
theorem dX5_extend_13 : decode cX5_extend 13 = .ok (.iconst 1, 1) := by decide +kernel
theorem dX5_extend_14 : decode cX5_extend 14 = .ok (.goto 4, 3) := by decide +kernel
theorem dX5_extend_17 : decode cX5_extend 17 = .ok (.iconst 0, 1) := by decide +kernel
theorem dX5_extend_18 : decode cX5_extend 18 = .ok (.istore 4, 2) := by decide +kernel
theorem dX5_extend_20 : decode cX5_extend 20 = .ok (.iconst 0, 1) := by decide +kernel
theorem dX5_extend_21 : decode cX5_extend 21 = .ok (.istore 5, 2) := by decide +kernel
theorem dX5_extend_23 : decode cX5_extend 23 = .ok (.iload 5, 2) := by decide +kernel
theorem dX5_extend_25 : decode cX5_extend 25 = .ok (.aload_n 1, 1) := by decide +kernel
theorem dX5_extend_26 : decode cX5_extend 26 = .ok (.invokevirtual 52, 3) := by decide +kernel
theorem dX5_extend_29 : decode cX5_extend 29 = .ok (.if_icmp .ge 103, 3) := by decide +kernel
theorem dX5_extend_32 : decode cX5_extend 32 = .ok (.aload_n 0, 1) := by decide +kernel
theorem dX5_extend_33 : decode cX5_extend 33 = .ok (.getfield 15, 3) := by decide +kernel
theorem dX5_extend_36 : decode cX5_extend 36 = .ok (.iload_n 2, 1) := by decide +kernel
theorem dX5_extend_37 : decode cX5_extend 37 = .ok (.aload_n 1, 1) := by decide +kernel
theorem dX5_extend_38 : decode cX5_extend 38 = .ok (.iload 5, 2) := by decide +kernel
theorem dX5_extend_40 : decode cX5_extend 40 = .ok (.invokevirtual 56, 3) := by decide +kernel
theorem dX5_extend_43 : decode cX5_extend 43 = .ok (.iastore, 1) := by decide +kernel
theorem dX5_extend_44 : decode cX5_extend 44 = .ok (.iload 4, 2) := by decide +kernel
theorem dX5_extend_46 : decode cX5_extend 46 = .ok (.ifCond .eq 18, 3) := by decide +kernel
theorem dX5_extend_49 : decode cX5_extend 49 = .ok (.aload_n 0, 1) := by decide +kernel
theorem dX5_extend_50 : decode cX5_extend 50 = .ok (.getfield 15, 3) := by decide +kernel
theorem dX5_extend_53 : decode cX5_extend 53 = .ok (.iload_n 2, 1) := by decide +kernel
theorem dX5_extend_54 : decode cX5_extend 54 = .ok (.iaload, 1) := by decide +kernel
theorem dX5_extend_55 : decode cX5_extend 55 = .ok (.invokestatic 60, 3) := by decide +kernel
theorem dX5_extend_58 : decode cX5_extend 58 = .ok (.ifCond .eq 6, 3) := by decide +kernel
theorem dX5_extend_61 : decode cX5_extend 61 = .ok (.goto 65, 3) := by decide +kernel
theorem dX5_extend_64 : decode cX5_extend 64 = .ok (.aload_n 1, 1) := by decide +kernel
theorem dX5_extend_65 : decode cX5_extend 65 = .ok (.aload_n 0, 1) := by decide +kernel
theorem dX5_extend_66 : decode cX5_extend 66 = .ok (.getfield 15, 3) := by decide +kernel
theorem dX5_extend_69 : decode cX5_extend 69 = .ok (.iload_n 2, 1) := by decide +kernel
theorem dX5_extend_70 : decode cX5_extend 70 = .ok (.iaload, 1) := by decide +kernel
theorem dX5_extend_71 : decode cX5_extend 71 = .ok (.aload_n 0, 1) := by decide +kernel
theorem dX5_extend_72 : decode cX5_extend 72 = .ok (.getfield 22, 3) := by decide +kernel
theorem dX5_extend_75 : decode cX5_extend 75 = .ok (.iload_n 2, 1) := by decide +kernel
theorem dX5_extend_76 : decode cX5_extend 76 = .ok (.aaload, 1) := by decide +kernel
theorem dX5_extend_77 : decode cX5_extend 77 = .ok (.aload_n 0, 1) := by decide +kernel
theorem dX5_extend_78 : decode cX5_extend 78 = .ok (.getfield 22, 3) := by decide +kernel
theorem dX5_extend_81 : decode cX5_extend 81 = .ok (.iload_n 2, 1) := by decide +kernel
theorem dX5_extend_82 : decode cX5_extend 82 = .ok (.iconst 1, 1) := by decide +kernel
theorem dX5_extend_83 : decode cX5_extend 83 = .ok (.iadd, 1) := by decide +kernel
theorem dX5_extend_84 : decode cX5_extend 84 = .ok (.aaload, 1) := by decide +kernel
theorem dX5_extend_85 : decode cX5_extend 85 = .ok (.invokevirtual 64, 3) := by decide +kernel
theorem dX5_extend_88 : decode cX5_extend 88 = .ok (.ifCond .ne 6, 3) := by decide +kernel
theorem dX5_extend_91 : decode cX5_extend 91 = .ok (.goto 35, 3) := by decide +kernel
theorem dX5_extend_94 : decode cX5_extend 94 = .ok (.iload 4, 2) := by decide +kernel
theorem dX5_extend_96 : decode cX5_extend 96 = .ok (.ifCond .eq 21, 3) := by decide +kernel
theorem dX5_extend_99 : decode cX5_extend 99 = .ok (.aload_n 0, 1) := by decide +kernel
theorem dX5_extend_100 : decode cX5_extend 100 = .ok (.aload_n 1, 1) := by decide +kernel
theorem dX5_extend_101 : decode cX5_extend 101 = .ok (.aload_n 0, 1) := by decide +kernel
theorem dX5_extend_102 : decode cX5_extend 102 = .ok (.getfield 22, 3) := by decide +kernel
theorem dX5_extend_105 : decode cX5_extend 105 = .ok (.iload_n 3, 1) := by decide +kernel
theorem dX5_extend_106 : decode cX5_extend 106 = .ok (.aaload, 1) := by decide +kernel
theorem dX5_extend_107 : decode cX5_extend 107 = .ok (.invokevirtual 34, 3) := by decide +kernel
theorem dX5_extend_110 : decode cX5_extend 110 = .ok (.iload_n 3, 1) := by decide +kernel
theorem dX5_extend_111 : decode cX5_extend 111 = .ok (.invokevirtual 68, 3) := by decide +kernel
theorem dX5_extend_114 : decode cX5_extend 114 = .ok (.goto 12, 3) := by decide +kernel
theorem dX5_extend_117 : decode cX5_extend 117 = .ok (.aload_n 0, 1) := by decide +kernel
theorem dX5_extend_118 : decode cX5_extend 118 = .ok (.aload_n 1, 1) := by decide +kernel
theorem dX5_extend_119 : decode cX5_extend 119 = .ok (.iload_n 2, 1) := by decide +kernel
theorem dX5_extend_120 : decode cX5_extend 120 = .ok (.iconst 1, 1) := by decide +kernel
theorem dX5_extend_121 : decode cX5_extend 121 = .ok (.iadd, 1) := by decide +kernel
theorem dX5_extend_122 : decode cX5_extend 122 = .ok (.iload_n 3, 1) := by decide +kernel
theorem dX5_extend_123 : decode cX5_extend 123 = .ok (.invokevirtual 48, 3) := by decide +kernel
theorem dX5_extend_126 : decode cX5_extend 126 = .ok (.iinc 5 1, 3) := by decide +kernel
theorem dX5_extend_129 : decode cX5_extend 129 = .ok (.goto (-106), 3) := by decide +kernel
theorem dX5_extend_132 : decode cX5_extend 132 = .ok (.return_, 1) := by decide +kernel
end
section
theorem dX5_isWaxOnly_0 : decode cX5_isWaxOnly 0 = .ok (.iload_n 0, 1) := by decide +kernel
theorem dX5_isWaxOnly_1 : decode cX5_isWaxOnly 1 = .ok (.bipush 10, 2) := by decide +kernel
theorem dX5_isWaxOnly_3 : decode cX5_isWaxOnly 3 = .ok (.if_icmp .lt 13, 3) := by decide +kernel
theorem dX5_isWaxOnly_6 : decode cX5_isWaxOnly 6 = .ok (.iload_n 0, 1) := by decide +kernel
theorem dX5_isWaxOnly_7 : decode cX5_isWaxOnly 7 = .ok (.bipush 20, 2) := by decide +kernel
theorem dX5_isWaxOnly_9 : decode cX5_isWaxOnly 9 = .ok (.if_icmp .gt 7, 3) := by decide +kernel
theorem dX5_isWaxOnly_12 : decode cX5_isWaxOnly 12 = .ok (.iconst 1, 1) := by decide +kernel
theorem dX5_isWaxOnly_13 : decode cX5_isWaxOnly 13 = .ok (.goto 4, 3) := by decide +kernel
theorem dX5_isWaxOnly_16 : decode cX5_isWaxOnly 16 = .ok (.iconst 0, 1) := by decide +kernel
theorem dX5_isWaxOnly_17 : decode cX5_isWaxOnly 17 = .ok (.ireturn, 1) := by decide +kernel
theorem dX5_judge_0 : decode cX5_judge 0 = .ok (.iload_n 1, 1) := by decide +kernel
theorem dX5_judge_1 : decode cX5_judge 1 = .ok (.aload_n 0, 1) := by decide +kernel
theorem dX5_judge_2 : decode cX5_judge 2 = .ok (.getfield 38, 3) := by decide +kernel
theorem dX5_judge_5 : decode cX5_judge 5 = .ok (.if_icmp .gt 4, 3) := by decide +kernel
theorem dX5_judge_8 : decode cX5_judge 8 = .ok (.return_, 1) := by decide +kernel
theorem dX5_judge_9 : decode cX5_judge 9 = .ok (.aload_n 0, 1) := by decide +kernel
theorem dX5_judge_10 : decode cX5_judge 10 = .ok (.iload_n 1, 1) := by decide +kernel
theorem dX5_judge_11 : decode cX5_judge 11 = .ok (.putfield 38, 3) := by decide +kernel
theorem dX5_judge_14 : decode cX5_judge 14 = .ok (.aload_n 0, 1) := by decide +kernel
theorem dX5_judge_15 : decode cX5_judge 15 = .ok (.iload_n 2, 1) := by decide +kernel
theorem dX5_judge_16 : decode cX5_judge 16 = .ok (.putfield 42, 3) := by decide +kernel
theorem dX5_judge_19 : decode cX5_judge 19 = .ok (.aload_n 0, 1) := by decide +kernel
theorem dX5_judge_20 : decode cX5_judge 20 = .ok (.getfield 15, 3) := by decide +kernel
theorem dX5_judge_23 : decode cX5_judge 23 = .ok (.iconst 0, 1) := by decide +kernel
theorem dX5_judge_24 : decode cX5_judge 24 = .ok (.aload_n 0, 1) := by decide +kernel
theorem dX5_judge_25 : decode cX5_judge 25 = .ok (.getfield 9, 3) := by decide +kernel
theorem dX5_judge_28 : decode cX5_judge 28 = .ok (.iconst 0, 1) := by decide +kernel
theorem dX5_judge_29 : decode cX5_judge 29 = .ok (.iload_n 2, 1) := by decide +kernel
theorem dX5_judge_30 : decode cX5_judge 30 = .ok (.invokestatic 28, 3) := by decide +kernel
theorem dX5_judge_33 : decode cX5_judge 33 = .ok (.return_, 1) := by decide +kernel
theorem dX6_init_0 : decode cX6_init 0 = .ok (.aload_n 0, 1) := by decide +kernel
theorem dX6_init_1 : decode cX6_init 1 = .ok (.invokespecial 1, 3) := by decide +kernel
theorem dX6_init_4 : decode cX6_init 4 = .ok (.aload_n 0, 1) := by decide +kernel
theorem dX6_init_5 : decode cX6_init 5 = .ok (.new 7, 3) := by decide +kernel
theorem dX6_init_8 : decode cX6_init 8 = .ok (.dup, 1) := by decide +kernel
theorem dX6_init_9 : decode cX6_init 9 = .ok (.invokespecial 9, 3) := by decide +kernel
theorem dX6_init_12 : decode cX6_init 12 = .ok (.putfield 10, 3) := by decide +kernel
theorem dX6_init_15 : decode cX6_init 15 = .ok (.aload_n 0, 1) := by decide +kernel
theorem dX6_init_16 : decode cX6_init 16 = .ok (.aload_n 1, 1) := by decide +kernel
theorem dX6_init_17 : decode cX6_init 17 = .ok (.putfield 16, 3) := by decide +kernel
theorem dX6_init_20 : decode cX6_init 20 = .ok (.return_, 1) := by decide +kernel
theorem dX6_read_0 : decode cX6_read 0 = .ok (.aload_n 0, 1) := by decide +kernel
theorem dX6_read_1 : decode cX6_read 1 = .ok (.iconst 0, 1) := by decide +kernel
theorem dX6_read_2 : decode cX6_read 2 = .ok (.putfield 20, 3) := by decide +kernel
theorem dX6_read_5 : decode cX6_read 5 = .ok (.aload_n 0, 1) := by decide +kernel
theorem dX6_read_6 : decode cX6_read 6 = .ok (.bipush 119, 2) := by decide +kernel
theorem dX6_read_8 : decode cX6_read 8 = .ok (.invokevirtual 24, 3) := by decide +kernel
theorem dX6_read_11 : decode cX6_read 11 = .ok (.ifCond .eq 28, 3) := by decide +kernel
theorem dX6_read_14 : decode cX6_read 14 = .ok (.aload_n 0, 1) := by decide +kernel
theorem dX6_read_15 : decode cX6_read 15 = .ok (.invokevirtual 28, 3) := by decide +kernel
theorem dX6_read_18 : decode cX6_read 18 = .ok (.ifCond .eq 21, 3) := by decide +kernel
theorem dX6_read_21 : decode cX6_read 21 = .ok (.aload_n 0, 1) := by decide +kernel
theorem dX6_read_22 : decode cX6_read 22 = .ok (.invokevirtual 32, 3) := by decide +kernel
theorem dX6_read_25 : decode cX6_read 25 = .ok (.ifCond .eq 14, 3) := by decide +kernel
theorem dX6_read_28 : decode cX6_read 28 = .ok (.aload_n 0, 1) := by decide +kernel
theorem dX6_read_29 : decode cX6_read 29 = .ok (.invokevirtual 35, 3) := by decide +kernel
theorem dX6_read_32 : decode cX6_read 32 = .ok (.ifCond .eq 7, 3) := by decide +kernel
theorem dX6_read_35 : decode cX6_read 35 = .ok (.iconst 1, 1) := by decide +kernel
theorem dX6_read_36 : decode cX6_read 36 = .ok (.goto 4, 3) := by decide +kernel
theorem dX6_read_39 : decode cX6_read 39 = .ok (.iconst 0, 1) := by decide +kernel
theorem dX6_read_40 : decode cX6_read 40 = .ok (.ireturn, 1) := by decide +kernel
theorem dX6_sign_0 : decode cX6_sign 0 = .ok (.aload_n 0, 1) := by decide +kernel
theorem dX6_sign_1 : decode cX6_sign 1 = .ok (.getfield 16, 3) := by decide +kernel
theorem dX6_sign_4 : decode cX6_sign 4 = .ok (.aload_n 0, 1) := by decide +kernel
theorem dX6_sign_5 : decode cX6_sign 5 = .ok (.getfield 20, 3) := by decide +kernel
theorem dX6_sign_8 : decode cX6_sign 8 = .ok (.invokevirtual 38, 3) := by decide +kernel
theorem dX6_sign_11 : decode cX6_sign 11 = .ok (.iload_n 1, 1) := by decide +kernel
theorem dX6_sign_12 : decode cX6_sign 12 = .ok (.if_icmp .eq 5, 3) := by decide +kernel
theorem dX6_sign_15 : decode cX6_sign 15 = .ok (.iconst 0, 1) := by decide +kernel
theorem dX6_sign_16 : decode cX6_sign 16 = .ok (.ireturn, 1) := by decide +kernel
theorem dX6_sign_17 : decode cX6_sign 17 = .ok (.aload_n 0, 1) := by decide +kernel
theorem dX6_sign_18 : decode cX6_sign 18 = .ok (.dup, 1) := by decide +kernel
theorem dX6_sign_19 : decode cX6_sign 19 = .ok (.getfield 20, 3) := by decide +kernel
theorem dX6_sign_22 : decode cX6_sign 22 = .ok (.iconst 1, 1) := by decide +kernel
theorem dX6_sign_23 : decode cX6_sign 23 = .ok (.iadd, 1) := by decide +kernel
theorem dX6_sign_24 : decode cX6_sign 24 = .ok (.putfield 20, 3) := by decide +kernel
theorem dX6_sign_27 : decode cX6_sign 27 = .ok (.iconst 1, 1) := by decide +kernel
theorem dX6_sign_28 : decode cX6_sign 28 = .ok (.ireturn, 1) := by decide +kernel
theorem dX6_figure_0 : decode cX6_figure 0 = .ok (.aload_n 0, 1) := by decide +kernel
theorem dX6_figure_1 : decode cX6_figure 1 = .ok (.getfield 16, 3) := by decide +kernel
theorem dX6_figure_4 : decode cX6_figure 4 = .ok (.aload_n 0, 1) := by decide +kernel
theorem dX6_figure_5 : decode cX6_figure 5 = .ok (.getfield 20, 3) := by decide +kernel
theorem dX6_figure_8 : decode cX6_figure 8 = .ok (.invokevirtual 38, 3) := by decide +kernel
theorem dX6_figure_11 : decode cX6_figure 11 = .ok (.bipush 48, 2) := by decide +kernel
theorem dX6_figure_13 : decode cX6_figure 13 = .ok (.isub, 1) := by decide +kernel
theorem dX6_figure_14 : decode cX6_figure 14 = .ok (.istore_n 3, 1) := by decide +kernel
theorem dX6_figure_15 : decode cX6_figure 15 = .ok (.iload_n 3, 1) := by decide +kernel
theorem dX6_figure_16 : decode cX6_figure 16 = .ok (.iload_n 1, 1) := by decide +kernel
theorem dX6_figure_17 : decode cX6_figure 17 = .ok (.if_icmp .lt 8, 3) := by decide +kernel
theorem dX6_figure_20 : decode cX6_figure 20 = .ok (.iload_n 3, 1) := by decide +kernel
theorem dX6_figure_21 : decode cX6_figure 21 = .ok (.iload_n 2, 1) := by decide +kernel
theorem dX6_figure_22 : decode cX6_figure 22 = .ok (.if_icmp .le 5, 3) := by decide +kernel
theorem dX6_figure_25 : decode cX6_figure 25 = .ok (.iconst (-1), 1) := by decide +kernel
theorem dX6_figure_26 : decode cX6_figure 26 = .ok (.ireturn, 1) := by decide +kernel
theorem dX6_figure_27 : decode cX6_figure 27 = .ok (.aload_n 0, 1) := by decide +kernel
theorem dX6_figure_28 : decode cX6_figure 28 = .ok (.dup, 1) := by decide +kernel
theorem dX6_figure_29 : decode cX6_figure 29 = .ok (.getfield 20, 3) := by decide +kernel
theorem dX6_figure_32 : decode cX6_figure 32 = .ok (.iconst 1, 1) := by decide +kernel
theorem dX6_figure_33 : decode cX6_figure 33 = .ok (.iadd, 1) := by decide +kernel
theorem dX6_figure_34 : decode cX6_figure 34 = .ok (.putfield 20, 3) := by decide +kernel
theorem dX6_figure_37 : decode cX6_figure 37 = .ok (.iload_n 3, 1) := by decide +kernel
theorem dX6_figure_38 : decode cX6_figure 38 = .ok (.ireturn, 1) := by decide +kernel
theorem dX6_readSquares_0 : decode cX6_readSquares 0 = .ok (.iconst 0, 1) := by decide +kernel
theorem dX6_readSquares_1 : decode cX6_readSquares 1 = .ok (.istore_n 1, 1) := by decide +kernel
theorem dX6_readSquares_2 : decode cX6_readSquares 2 = .ok (.iload_n 1, 1) := by decide +kernel
theorem dX6_readSquares_3 : decode cX6_readSquares 3 = .ok (.bipush 8, 2) := by decide +kernel
theorem dX6_readSquares_5 : decode cX6_readSquares 5 = .ok (.if_icmp .ge 49, 3) := by decide +kernel
theorem dX6_readSquares_8 : decode cX6_readSquares 8 = .ok (.aload_n 0, 1) := by decide +kernel
theorem dX6_readSquares_9 : decode cX6_readSquares 9 = .ok (.iload_n 1, 1) := by decide +kernel
theorem dX6_readSquares_10 : decode cX6_readSquares 10 = .ok (.invokevirtual 44, 3) := by decide +kernel
theorem dX6_readSquares_13 : decode cX6_readSquares 13 = .ok (.ifCond .ne 5, 3) := by decide +kernel
theorem dX6_readSquares_16 : decode cX6_readSquares 16 = .ok (.iconst 0, 1) := by decide +kernel
theorem dX6_readSquares_17 : decode cX6_readSquares 17 = .ok (.ireturn, 1) := by decide +kernel
theorem dX6_readSquares_18 : decode cX6_readSquares 18 = .ok (.aload_n 0, 1) := by decide +kernel
theorem dX6_readSquares_19 : decode cX6_readSquares 19 = .ok (.getfield 10, 3) := by decide +kernel
theorem dX6_readSquares_22 : decode cX6_readSquares 22 = .ok (.iload_n 1, 1) := by decide +kernel
theorem dX6_readSquares_23 : decode cX6_readSquares 23 = .ok (.iconst 1, 1) := by decide +kernel
theorem dX6_readSquares_24 : decode cX6_readSquares 24 = .ok (.iadd, 1) := by decide +kernel
theorem dX6_readSquares_25 : decode cX6_readSquares 25 = .ok (.putfield 47, 3) := by decide +kernel
theorem dX6_readSquares_28 : decode cX6_readSquares 28 = .ok (.iload_n 1, 1) := by decide +kernel
theorem dX6_readSquares_29 : decode cX6_readSquares 29 = .ok (.iconst 1, 1) := by decide +kernel
theorem dX6_readSquares_30 : decode cX6_readSquares 30 = .ok (.iadd, 1) := by decide +kernel
theorem dX6_readSquares_31 : decode cX6_readSquares 31 = .ok (.bipush 8, 2) := by decide +kernel
theorem dX6_readSquares_33 : decode cX6_readSquares 33 = .ok (.if_icmp .eq 21, 3) := by decide +kernel
theorem dX6_readSquares_36 : decode cX6_readSquares 36 = .ok (.aload_n 0, 1) := by decide +kernel
theorem dX6_readSquares_37 : decode cX6_readSquares 37 = .ok (.bipush 44, 2) := by decide +kernel
theorem dX6_readSquares_39 : decode cX6_readSquares 39 = .ok (.invokevirtual 24, 3) := by decide +kernel
theorem dX6_readSquares_42 : decode cX6_readSquares 42 = .ok (.ifCond .ne 6, 3) := by decide +kernel
theorem dX6_readSquares_45 : decode cX6_readSquares 45 = .ok (.goto 9, 3) := by decide +kernel
theorem dX6_readSquares_48 : decode cX6_readSquares 48 = .ok (.iinc 1 1, 3) := by decide +kernel
theorem dX6_readSquares_51 : decode cX6_readSquares 51 = .ok (.goto (-49), 3) := by decide +kernel
theorem dX6_readSquares_54 : decode cX6_readSquares 54 = .ok (.aload_n 0, 1) := by decide +kernel
theorem dX6_readSquares_55 : decode cX6_readSquares 55 = .ok (.bipush 59, 2) := by decide +kernel
theorem dX6_readSquares_57 : decode cX6_readSquares 57 = .ok (.invokevirtual 24, 3) := by decide +kernel
theorem dX6_readSquares_60 : decode cX6_readSquares 60 = .ok (.ireturn, 1) := by decide +kernel
theorem dX6_readSquare_0 : decode cX6_readSquare 0 = .ok (.aload_n 0, 1) := by decide +kernel
theorem dX6_readSquare_1 : decode cX6_readSquare 1 = .ok (.getfield 16, 3) := by decide +kernel
theorem dX6_readSquare_4 : decode cX6_readSquare 4 = .ok (.aload_n 0, 1) := by decide +kernel
theorem dX6_readSquare_5 : decode cX6_readSquare 5 = .ok (.getfield 20, 3) := by decide +kernel
theorem dX6_readSquare_8 : decode cX6_readSquare 8 = .ok (.invokevirtual 38, 3) := by decide +kernel
theorem dX6_readSquare_11 : decode cX6_readSquare 11 = .ok (.invokestatic 50, 3) := by decide +kernel
theorem dX6_readSquare_14 : decode cX6_readSquare 14 = .ok (.istore_n 2, 1) := by decide +kernel
theorem dX6_readSquare_15 : decode cX6_readSquare 15 = .ok (.iload_n 2, 1) := by decide +kernel
theorem dX6_readSquare_16 : decode cX6_readSquare 16 = .ok (.ifCond .ne 5, 3) := by decide +kernel
theorem dX6_readSquare_19 : decode cX6_readSquare 19 = .ok (.iconst 0, 1) := by decide +kernel
theorem dX6_readSquare_20 : decode cX6_readSquare 20 = .ok (.ireturn, 1) := by decide +kernel
theorem dX6_readSquare_21 : decode cX6_readSquare 21 = .ok (.aload_n 0, 1) := by decide +kernel
theorem dX6_readSquare_22 : decode cX6_readSquare 22 = .ok (.dup, 1) := by decide +kernel
theorem dX6_readSquare_23 : decode cX6_readSquare 23 = .ok (.getfield 20, 3) := by decide +kernel
theorem dX6_readSquare_26 : decode cX6_readSquare 26 = .ok (.iconst 1, 1) := by decide +kernel
theorem dX6_readSquare_27 : decode cX6_readSquare 27 = .ok (.iadd, 1) := by decide +kernel
theorem dX6_readSquare_28 : decode cX6_readSquare 28 = .ok (.putfield 20, 3) := by decide +kernel
theorem dX6_readSquare_31 : decode cX6_readSquare 31 = .ok (.aload_n 0, 1) := by decide +kernel
theorem dX6_readSquare_32 : decode cX6_readSquare 32 = .ok (.iconst 0, 1) := by decide +kernel
theorem dX6_readSquare_33 : decode cX6_readSquare 33 = .ok (.bipush 7, 2) := by decide +kernel
theorem dX6_readSquare_35 : decode cX6_readSquare 35 = .ok (.invokevirtual 57, 3) := by decide +kernel
theorem dX6_readSquare_38 : decode cX6_readSquare 38 = .ok (.istore_n 3, 1) := by decide +kernel
theorem dX6_readSquare_39 : decode cX6_readSquare 39 = .ok (.iload_n 3, 1) := by decide +kernel
theorem dX6_readSquare_40 : decode cX6_readSquare 40 = .ok (.iconst (-1), 1) := by decide +kernel
theorem dX6_readSquare_41 : decode cX6_readSquare 41 = .ok (.if_icmp .ne 5, 3) := by decide +kernel
theorem dX6_readSquare_44 : decode cX6_readSquare 44 = .ok (.iconst 0, 1) := by decide +kernel
theorem dX6_readSquare_45 : decode cX6_readSquare 45 = .ok (.ireturn, 1) := by decide +kernel
theorem dX6_readSquare_46 : decode cX6_readSquare 46 = .ok (.aload_n 0, 1) := by decide +kernel
theorem dX6_readSquare_47 : decode cX6_readSquare 47 = .ok (.getfield 10, 3) := by decide +kernel
theorem dX6_readSquare_50 : decode cX6_readSquare 50 = .ok (.getfield 61, 3) := by decide +kernel
theorem dX6_readSquare_53 : decode cX6_readSquare 53 = .ok (.iload_n 1, 1) := by decide +kernel
theorem dX6_readSquare_54 : decode cX6_readSquare 54 = .ok (.iload_n 2, 1) := by decide +kernel
theorem dX6_readSquare_55 : decode cX6_readSquare 55 = .ok (.iastore, 1) := by decide +kernel
theorem dX6_readSquare_56 : decode cX6_readSquare 56 = .ok (.aload_n 0, 1) := by decide +kernel
theorem dX6_readSquare_57 : decode cX6_readSquare 57 = .ok (.getfield 10, 3) := by decide +kernel
theorem dX6_readSquare_60 : decode cX6_readSquare 60 = .ok (.getfield 65, 3) := by decide +kernel
theorem dX6_readSquare_63 : decode cX6_readSquare 63 = .ok (.iload_n 1, 1) := by decide +kernel
theorem dX6_readSquare_64 : decode cX6_readSquare 64 = .ok (.iload_n 3, 1) := by decide +kernel
theorem dX6_readSquare_65 : decode cX6_readSquare 65 = .ok (.iastore, 1) := by decide +kernel
theorem dX6_readSquare_66 : decode cX6_readSquare 66 = .ok (.iconst 1, 1) := by decide +kernel
theorem dX6_readSquare_67 : decode cX6_readSquare 67 = .ok (.ireturn, 1) := by decide +kernel
theorem dX6_readDyes_0 : decode cX6_readDyes 0 = .ok (.iconst 0, 1) := by decide +kernel
theorem dX6_readDyes_1 : decode cX6_readDyes 1 = .ok (.istore_n 1, 1) := by decide +kernel
theorem dX6_readDyes_2 : decode cX6_readDyes 2 = .ok (.iload_n 1, 1) := by decide +kernel
theorem dX6_readDyes_3 : decode cX6_readDyes 3 = .ok (.iconst 4, 1) := by decide +kernel
theorem dX6_readDyes_4 : decode cX6_readDyes 4 = .ok (.if_icmp .ge 48, 3) := by decide +kernel
theorem dX6_readDyes_7 : decode cX6_readDyes 7 = .ok (.aload_n 0, 1) := by decide +kernel
theorem dX6_readDyes_8 : decode cX6_readDyes 8 = .ok (.iload_n 1, 1) := by decide +kernel
theorem dX6_readDyes_9 : decode cX6_readDyes 9 = .ok (.invokevirtual 68, 3) := by decide +kernel
theorem dX6_readDyes_12 : decode cX6_readDyes 12 = .ok (.ifCond .ne 5, 3) := by decide +kernel
theorem dX6_readDyes_15 : decode cX6_readDyes 15 = .ok (.iconst 0, 1) := by decide +kernel
theorem dX6_readDyes_16 : decode cX6_readDyes 16 = .ok (.ireturn, 1) := by decide +kernel
theorem dX6_readDyes_17 : decode cX6_readDyes 17 = .ok (.aload_n 0, 1) := by decide +kernel
theorem dX6_readDyes_18 : decode cX6_readDyes 18 = .ok (.getfield 10, 3) := by decide +kernel
theorem dX6_readDyes_21 : decode cX6_readDyes 21 = .ok (.iload_n 1, 1) := by decide +kernel
theorem dX6_readDyes_22 : decode cX6_readDyes 22 = .ok (.iconst 1, 1) := by decide +kernel
theorem dX6_readDyes_23 : decode cX6_readDyes 23 = .ok (.iadd, 1) := by decide +kernel
theorem dX6_readDyes_24 : decode cX6_readDyes 24 = .ok (.putfield 71, 3) := by decide +kernel
theorem dX6_readDyes_27 : decode cX6_readDyes 27 = .ok (.iload_n 1, 1) := by decide +kernel
theorem dX6_readDyes_28 : decode cX6_readDyes 28 = .ok (.iconst 1, 1) := by decide +kernel
theorem dX6_readDyes_29 : decode cX6_readDyes 29 = .ok (.iadd, 1) := by decide +kernel
theorem dX6_readDyes_30 : decode cX6_readDyes 30 = .ok (.iconst 4, 1) := by decide +kernel
theorem dX6_readDyes_31 : decode cX6_readDyes 31 = .ok (.if_icmp .eq 21, 3) := by decide +kernel
theorem dX6_readDyes_34 : decode cX6_readDyes 34 = .ok (.aload_n 0, 1) := by decide +kernel
theorem dX6_readDyes_35 : decode cX6_readDyes 35 = .ok (.bipush 44, 2) := by decide +kernel
theorem dX6_readDyes_37 : decode cX6_readDyes 37 = .ok (.invokevirtual 24, 3) := by decide +kernel
theorem dX6_readDyes_40 : decode cX6_readDyes 40 = .ok (.ifCond .ne 6, 3) := by decide +kernel
theorem dX6_readDyes_43 : decode cX6_readDyes 43 = .ok (.goto 9, 3) := by decide +kernel
theorem dX6_readDyes_46 : decode cX6_readDyes 46 = .ok (.iinc 1 1, 3) := by decide +kernel
theorem dX6_readDyes_49 : decode cX6_readDyes 49 = .ok (.goto (-47), 3) := by decide +kernel
theorem dX6_readDyes_52 : decode cX6_readDyes 52 = .ok (.aload_n 0, 1) := by decide +kernel
theorem dX6_readDyes_53 : decode cX6_readDyes 53 = .ok (.bipush 59, 2) := by decide +kernel
theorem dX6_readDyes_55 : decode cX6_readDyes 55 = .ok (.invokevirtual 24, 3) := by decide +kernel
theorem dX6_readDyes_58 : decode cX6_readDyes 58 = .ok (.ireturn, 1) := by decide +kernel
theorem dX6_readDye_0 : decode cX6_readDye 0 = .ok (.iconst 0, 1) := by decide +kernel
theorem dX6_readDye_1 : decode cX6_readDye 1 = .ok (.istore_n 2, 1) := by decide +kernel
theorem dX6_readDye_2 : decode cX6_readDye 2 = .ok (.iload_n 2, 1) := by decide +kernel
theorem dX6_readDye_3 : decode cX6_readDye 3 = .ok (.iconst 3, 1) := by decide +kernel
theorem dX6_readDye_4 : decode cX6_readDye 4 = .ok (.if_icmp .ge 37, 3) := by decide +kernel
theorem dX6_readDye_7 : decode cX6_readDye 7 = .ok (.aload_n 0, 1) := by decide +kernel
theorem dX6_readDye_8 : decode cX6_readDye 8 = .ok (.iconst 0, 1) := by decide +kernel
theorem dX6_readDye_9 : decode cX6_readDye 9 = .ok (.iconst 3, 1) := by decide +kernel
theorem dX6_readDye_10 : decode cX6_readDye 10 = .ok (.invokevirtual 57, 3) := by decide +kernel
theorem dX6_readDye_13 : decode cX6_readDye 13 = .ok (.istore_n 3, 1) := by decide +kernel
theorem dX6_readDye_14 : decode cX6_readDye 14 = .ok (.iload_n 3, 1) := by decide +kernel
theorem dX6_readDye_15 : decode cX6_readDye 15 = .ok (.iconst (-1), 1) := by decide +kernel
theorem dX6_readDye_16 : decode cX6_readDye 16 = .ok (.if_icmp .ne 5, 3) := by decide +kernel
theorem dX6_readDye_19 : decode cX6_readDye 19 = .ok (.iconst 0, 1) := by decide +kernel
theorem dX6_readDye_20 : decode cX6_readDye 20 = .ok (.ireturn, 1) := by decide +kernel
theorem dX6_readDye_21 : decode cX6_readDye 21 = .ok (.aload_n 0, 1) := by decide +kernel
theorem dX6_readDye_22 : decode cX6_readDye 22 = .ok (.getfield 10, 3) := by decide +kernel
theorem dX6_readDye_25 : decode cX6_readDye 25 = .ok (.getfield 74, 3) := by decide +kernel
theorem dX6_readDye_28 : decode cX6_readDye 28 = .ok (.iload_n 1, 1) := by decide +kernel
theorem dX6_readDye_29 : decode cX6_readDye 29 = .ok (.iconst 3, 1) := by decide +kernel
theorem dX6_readDye_30 : decode cX6_readDye 30 = .ok (.imul, 1) := by decide +kernel
theorem dX6_readDye_31 : decode cX6_readDye 31 = .ok (.iload_n 2, 1) := by decide +kernel
theorem dX6_readDye_32 : decode cX6_readDye 32 = .ok (.iadd, 1) := by decide +kernel
theorem dX6_readDye_33 : decode cX6_readDye 33 = .ok (.iload_n 3, 1) := by decide +kernel
theorem dX6_readDye_34 : decode cX6_readDye 34 = .ok (.iastore, 1) := by decide +kernel
theorem dX6_readDye_35 : decode cX6_readDye 35 = .ok (.iinc 2 1, 3) := by decide +kernel
theorem dX6_readDye_38 : decode cX6_readDye 38 = .ok (.goto (-36), 3) := by decide +kernel
theorem dX6_readDye_41 : decode cX6_readDye 41 = .ok (.iconst 1, 1) := by decide +kernel
theorem dX6_readDye_42 : decode cX6_readDye 42 = .ok (.ireturn, 1) := by decide +kernel
theorem dX6_readStencils_0 : decode cX6_readStencils 0 = .ok (.iconst 0, 1) := by decide +kernel
theorem dX6_readStencils_1 : decode cX6_readStencils 1 = .ok (.istore_n 1, 1) := by decide +kernel
theorem dX6_readStencils_2 : decode cX6_readStencils 2 = .ok (.iload_n 1, 1) := by decide +kernel
theorem dX6_readStencils_3 : decode cX6_readStencils 3 = .ok (.iconst 3, 1) := by decide +kernel
theorem dX6_readStencils_4 : decode cX6_readStencils 4 = .ok (.if_icmp .ge 59, 3) := by decide +kernel
theorem dX6_readStencils_7 : decode cX6_readStencils 7 = .ok (.aload_n 0, 1) := by decide +kernel
theorem dX6_readStencils_8 : decode cX6_readStencils 8 = .ok (.invokevirtual 77, 3) := by decide +kernel
theorem dX6_readStencils_11 : decode cX6_readStencils 11 = .ok (.istore_n 2, 1) := by decide +kernel
theorem dX6_readStencils_12 : decode cX6_readStencils 12 = .ok (.iload_n 2, 1) := by decide +kernel
theorem dX6_readStencils_13 : decode cX6_readStencils 13 = .ok (.ifCond .ne 5, 3) := by decide +kernel
theorem dX6_readStencils_16 : decode cX6_readStencils 16 = .ok (.iconst 0, 1) := by decide +kernel
theorem dX6_readStencils_17 : decode cX6_readStencils 17 = .ok (.ireturn, 1) := by decide +kernel
theorem dX6_readStencils_18 : decode cX6_readStencils 18 = .ok (.aload_n 0, 1) := by decide +kernel
theorem dX6_readStencils_19 : decode cX6_readStencils 19 = .ok (.getfield 10, 3) := by decide +kernel
theorem dX6_readStencils_22 : decode cX6_readStencils 22 = .ok (.getfield 81, 3) := by decide +kernel
theorem dX6_readStencils_25 : decode cX6_readStencils 25 = .ok (.iload_n 1, 1) := by decide +kernel
theorem dX6_readStencils_26 : decode cX6_readStencils 26 = .ok (.iload_n 2, 1) := by decide +kernel
theorem dX6_readStencils_27 : decode cX6_readStencils 27 = .ok (.iastore, 1) := by decide +kernel
theorem dX6_readStencils_28 : decode cX6_readStencils 28 = .ok (.aload_n 0, 1) := by decide +kernel
theorem dX6_readStencils_29 : decode cX6_readStencils 29 = .ok (.getfield 10, 3) := by decide +kernel
theorem dX6_readStencils_32 : decode cX6_readStencils 32 = .ok (.iload_n 1, 1) := by decide +kernel
theorem dX6_readStencils_33 : decode cX6_readStencils 33 = .ok (.iconst 1, 1) := by decide +kernel
theorem dX6_readStencils_34 : decode cX6_readStencils 34 = .ok (.iadd, 1) := by decide +kernel
theorem dX6_readStencils_35 : decode cX6_readStencils 35 = .ok (.putfield 84, 3) := by decide +kernel
theorem dX6_readStencils_38 : decode cX6_readStencils 38 = .ok (.iload_n 1, 1) := by decide +kernel
theorem dX6_readStencils_39 : decode cX6_readStencils 39 = .ok (.iconst 1, 1) := by decide +kernel
theorem dX6_readStencils_40 : decode cX6_readStencils 40 = .ok (.iadd, 1) := by decide +kernel
theorem dX6_readStencils_41 : decode cX6_readStencils 41 = .ok (.iconst 3, 1) := by decide +kernel
theorem dX6_readStencils_42 : decode cX6_readStencils 42 = .ok (.if_icmp .eq 21, 3) := by decide +kernel
theorem dX6_readStencils_45 : decode cX6_readStencils 45 = .ok (.aload_n 0, 1) := by decide +kernel
theorem dX6_readStencils_46 : decode cX6_readStencils 46 = .ok (.bipush 44, 2) := by decide +kernel
theorem dX6_readStencils_48 : decode cX6_readStencils 48 = .ok (.invokevirtual 24, 3) := by decide +kernel
theorem dX6_readStencils_51 : decode cX6_readStencils 51 = .ok (.ifCond .ne 6, 3) := by decide +kernel
theorem dX6_readStencils_54 : decode cX6_readStencils 54 = .ok (.goto 9, 3) := by decide +kernel
theorem dX6_readStencils_57 : decode cX6_readStencils 57 = .ok (.iinc 1 1, 3) := by decide +kernel
theorem dX6_readStencils_60 : decode cX6_readStencils 60 = .ok (.goto (-58), 3) := by decide +kernel
theorem dX6_readStencils_63 : decode cX6_readStencils 63 = .ok (.aload_n 0, 1) := by decide +kernel
theorem dX6_readStencils_64 : decode cX6_readStencils 64 = .ok (.getfield 16, 3) := by decide +kernel
theorem dX6_readStencils_67 : decode cX6_readStencils 67 = .ok (.aload_n 0, 1) := by decide +kernel
theorem dX6_readStencils_68 : decode cX6_readStencils 68 = .ok (.getfield 20, 3) := by decide +kernel
theorem dX6_readStencils_71 : decode cX6_readStencils 71 = .ok (.invokevirtual 38, 3) := by decide +kernel
theorem dX6_readStencils_74 : decode cX6_readStencils 74 = .ok (.iconst (-1), 1) := by decide +kernel
theorem dX6_readStencils_75 : decode cX6_readStencils 75 = .ok (.if_icmp .ne 7, 3) := by decide +kernel
theorem dX6_readStencils_78 : decode cX6_readStencils 78 = .ok (.iconst 1, 1) := by decide +kernel
theorem dX6_readStencils_79 : decode cX6_readStencils 79 = .ok (.goto 4, 3) := by decide +kernel
theorem dX6_readStencils_82 : decode cX6_readStencils 82 = .ok (.iconst 0, 1) := by decide +kernel
theorem dX6_readStencils_83 : decode cX6_readStencils 83 = .ok (.ireturn, 1) := by decide +kernel
theorem dX6_readStencil_0 : decode cX6_readStencil 0 = .ok (.iconst 0, 1) := by decide +kernel
theorem dX6_readStencil_1 : decode cX6_readStencil 1 = .ok (.istore_n 1, 1) := by decide +kernel
theorem dX6_readStencil_2 : decode cX6_readStencil 2 = .ok (.iconst 0, 1) := by decide +kernel
theorem dX6_readStencil_3 : decode cX6_readStencil 3 = .ok (.istore_n 2, 1) := by decide +kernel
theorem dX6_readStencil_4 : decode cX6_readStencil 4 = .ok (.iconst 0, 1) := by decide +kernel
theorem dX6_readStencil_5 : decode cX6_readStencil 5 = .ok (.istore_n 3, 1) := by decide +kernel
theorem dX6_readStencil_6 : decode cX6_readStencil 6 = .ok (.iload_n 3, 1) := by decide +kernel
theorem dX6_readStencil_7 : decode cX6_readStencil 7 = .ok (.bipush 8, 2) := by decide +kernel
theorem dX6_readStencil_9 : decode cX6_readStencil 9 = .ok (.if_icmp .ge 46, 3) := by decide +kernel
theorem dX6_readStencil_12 : decode cX6_readStencil 12 = .ok (.aload_n 0, 1) := by decide +kernel
theorem dX6_readStencil_13 : decode cX6_readStencil 13 = .ok (.iload_n 2, 1) := by decide +kernel
theorem dX6_readStencil_14 : decode cX6_readStencil 14 = .ok (.aload_n 0, 1) := by decide +kernel
theorem dX6_readStencil_15 : decode cX6_readStencil 15 = .ok (.getfield 10, 3) := by decide +kernel
theorem dX6_readStencil_18 : decode cX6_readStencil 18 = .ok (.getfield 47, 3) := by decide +kernel
theorem dX6_readStencil_21 : decode cX6_readStencil 21 = .ok (.iconst 1, 1) := by decide +kernel
theorem dX6_readStencil_22 : decode cX6_readStencil 22 = .ok (.isub, 1) := by decide +kernel
theorem dX6_readStencil_23 : decode cX6_readStencil 23 = .ok (.invokevirtual 57, 3) := by decide +kernel
theorem dX6_readStencil_26 : decode cX6_readStencil 26 = .ok (.istore 4, 2) := by decide +kernel
theorem dX6_readStencil_28 : decode cX6_readStencil 28 = .ok (.iload 4, 2) := by decide +kernel
theorem dX6_readStencil_30 : decode cX6_readStencil 30 = .ok (.iconst (-1), 1) := by decide +kernel
theorem dX6_readStencil_31 : decode cX6_readStencil 31 = .ok (.if_icmp .ne 6, 3) := by decide +kernel
theorem dX6_readStencil_34 : decode cX6_readStencil 34 = .ok (.goto 21, 3) := by decide +kernel
theorem dX6_readStencil_37 : decode cX6_readStencil 37 = .ok (.iload_n 1, 1) := by decide +kernel
theorem dX6_readStencil_38 : decode cX6_readStencil 38 = .ok (.iconst 1, 1) := by decide +kernel
theorem dX6_readStencil_39 : decode cX6_readStencil 39 = .ok (.iload 4, 2) := by decide +kernel
theorem dX6_readStencil_41 : decode cX6_readStencil 41 = .ok (.ishl, 1) := by decide +kernel
theorem dX6_readStencil_42 : decode cX6_readStencil 42 = .ok (.ior, 1) := by decide +kernel
theorem dX6_readStencil_43 : decode cX6_readStencil 43 = .ok (.istore_n 1, 1) := by decide +kernel
theorem dX6_readStencil_44 : decode cX6_readStencil 44 = .ok (.iload 4, 2) := by decide +kernel
theorem dX6_readStencil_46 : decode cX6_readStencil 46 = .ok (.iconst 1, 1) := by decide +kernel
theorem dX6_readStencil_47 : decode cX6_readStencil 47 = .ok (.iadd, 1) := by decide +kernel
theorem dX6_readStencil_48 : decode cX6_readStencil 48 = .ok (.istore_n 2, 1) := by decide +kernel
theorem dX6_readStencil_49 : decode cX6_readStencil 49 = .ok (.iinc 3 1, 3) := by decide +kernel
theorem dX6_readStencil_52 : decode cX6_readStencil 52 = .ok (.goto (-46), 3) := by decide +kernel
theorem dX6_readStencil_55 : decode cX6_readStencil 55 = .ok (.iload_n 1, 1) := by decide +kernel
theorem dX6_readStencil_56 : decode cX6_readStencil 56 = .ok (.ireturn, 1) := by decide +kernel
theorem dX7_init_0 : decode cX7_init 0 = .ok (.aload_n 0, 1) := by decide +kernel
theorem dX7_init_1 : decode cX7_init 1 = .ok (.invokespecial 1, 3) := by decide +kernel
theorem dX7_init_4 : decode cX7_init 4 = .ok (.return_, 1) := by decide +kernel
theorem dX7_measure_0 : decode cX7_measure 0 = .ok (.aload_n 0, 1) := by decide +kernel
theorem dX7_measure_1 : decode cX7_measure 1 = .ok (.iconst 0, 1) := by decide +kernel
theorem dX7_measure_2 : decode cX7_measure 2 = .ok (.putfield 7, 3) := by decide +kernel
theorem dX7_measure_5 : decode cX7_measure 5 = .ok (.aload_n 0, 1) := by decide +kernel
theorem dX7_measure_6 : decode cX7_measure 6 = .ok (.iconst 1, 1) := by decide +kernel
theorem dX7_measure_7 : decode cX7_measure 7 = .ok (.putfield 13, 3) := by decide +kernel
theorem dX7_measure_10 : decode cX7_measure 10 = .ok (.iconst 0, 1) := by decide +kernel
theorem dX7_measure_11 : decode cX7_measure 11 = .ok (.istore 4, 2) := by decide +kernel
theorem dX7_measure_13 : decode cX7_measure 13 = .ok (.iload 4, 2) := by decide +kernel
theorem dX7_measure_15 : decode cX7_measure 15 = .ok (.aload_n 1, 1) := by decide +kernel
theorem dX7_measure_16 : decode cX7_measure 16 = .ok (.getfield 16, 3) := by decide +kernel
theorem dX7_measure_19 : decode cX7_measure 19 = .ok (.if_icmp .ge 65, 3) := by decide +kernel
theorem dX7_measure_22 : decode cX7_measure 22 = .ok (.aload_n 1, 1) := by decide +kernel
theorem dX7_measure_23 : decode cX7_measure 23 = .ok (.iload 4, 2) := by decide +kernel
theorem dX7_measure_25 : decode cX7_measure 25 = .ok (.aload_n 2, 1) := by decide +kernel
theorem dX7_measure_26 : decode cX7_measure 26 = .ok (.iload_n 3, 1) := by decide +kernel
theorem dX7_measure_27 : decode cX7_measure 27 = .ok (.invokestatic 21, 3) := by decide +kernel
theorem dX7_measure_30 : decode cX7_measure 30 = .ok (.istore 5, 2) := by decide +kernel
theorem dX7_measure_32 : decode cX7_measure 32 = .ok (.aload_n 1, 1) := by decide +kernel
theorem dX7_measure_33 : decode cX7_measure 33 = .ok (.iload 4, 2) := by decide +kernel
theorem dX7_measure_35 : decode cX7_measure 35 = .ok (.aload_n 2, 1) := by decide +kernel
theorem dX7_measure_36 : decode cX7_measure 36 = .ok (.iload_n 3, 1) := by decide +kernel
theorem dX7_measure_37 : decode cX7_measure 37 = .ok (.iload 5, 2) := by decide +kernel
theorem dX7_measure_39 : decode cX7_measure 39 = .ok (.invokestatic 25, 3) := by decide +kernel
theorem dX7_measure_42 : decode cX7_measure 42 = .ok (.istore 6, 2) := by decide +kernel
theorem dX7_measure_44 : decode cX7_measure 44 = .ok (.aload_n 0, 1) := by decide +kernel
theorem dX7_measure_45 : decode cX7_measure 45 = .ok (.aload_n 0, 1) := by decide +kernel
theorem dX7_measure_46 : decode cX7_measure 46 = .ok (.getfield 7, 3) := by decide +kernel
theorem dX7_measure_49 : decode cX7_measure 49 = .ok (.iload 6, 2) := by decide +kernel
theorem dX7_measure_51 : decode cX7_measure 51 = .ok (.invokestatic 29, 3) := by decide +kernel
theorem dX7_measure_54 : decode cX7_measure 54 = .ok (.putfield 7, 3) := by decide +kernel
theorem dX7_measure_57 : decode cX7_measure 57 = .ok (.aload_n 0, 1) := by decide +kernel
theorem dX7_measure_58 : decode cX7_measure 58 = .ok (.aload_n 0, 1) := by decide +kernel
theorem dX7_measure_59 : decode cX7_measure 59 = .ok (.getfield 13, 3) := by decide +kernel
theorem dX7_measure_62 : decode cX7_measure 62 = .ok (.iload 5, 2) := by decide +kernel
theorem dX7_measure_64 : decode cX7_measure 64 = .ok (.aload_n 0, 1) := by decide +kernel
theorem dX7_measure_65 : decode cX7_measure 65 = .ok (.getfield 13, 3) := by decide +kernel
theorem dX7_measure_68 : decode cX7_measure 68 = .ok (.invokestatic 35, 3) := by decide +kernel
theorem dX7_measure_71 : decode cX7_measure 71 = .ok (.idiv, 1) := by decide +kernel
theorem dX7_measure_72 : decode cX7_measure 72 = .ok (.iload 5, 2) := by decide +kernel
theorem dX7_measure_74 : decode cX7_measure 74 = .ok (.imul, 1) := by decide +kernel
theorem dX7_measure_75 : decode cX7_measure 75 = .ok (.putfield 13, 3) := by decide +kernel
theorem dX7_measure_78 : decode cX7_measure 78 = .ok (.iinc 4 1, 3) := by decide +kernel
theorem dX7_measure_81 : decode cX7_measure 81 = .ok (.goto (-68), 3) := by decide +kernel
theorem dX7_measure_84 : decode cX7_measure 84 = .ok (.return_, 1) := by decide +kernel
theorem dX7_lapOf_0 : decode cX7_lapOf 0 = .ok (.aload_n 0, 1) := by decide +kernel
theorem dX7_lapOf_1 : decode cX7_lapOf 1 = .ok (.getfield 40, 3) := by decide +kernel
theorem dX7_lapOf_4 : decode cX7_lapOf 4 = .ok (.iload_n 1, 1) := by decide +kernel
theorem dX7_lapOf_5 : decode cX7_lapOf 5 = .ok (.iaload, 1) := by decide +kernel
theorem dX7_lapOf_6 : decode cX7_lapOf 6 = .ok (.istore 4, 2) := by decide +kernel
theorem dX7_lapOf_8 : decode cX7_lapOf 8 = .ok (.aload_n 0, 1) := by decide +kernel
theorem dX7_lapOf_9 : decode cX7_lapOf 9 = .ok (.iload_n 1, 1) := by decide +kernel
theorem dX7_lapOf_10 : decode cX7_lapOf 10 = .ok (.iload 4, 2) := by decide +kernel
theorem dX7_lapOf_12 : decode cX7_lapOf 12 = .ok (.aload_n 2, 1) := by decide +kernel
theorem dX7_lapOf_13 : decode cX7_lapOf 13 = .ok (.iload_n 3, 1) := by decide +kernel
theorem dX7_lapOf_14 : decode cX7_lapOf 14 = .ok (.invokevirtual 44, 3) := by decide +kernel
theorem dX7_lapOf_17 : decode cX7_lapOf 17 = .ok (.istore 5, 2) := by decide +kernel
theorem dX7_lapOf_19 : decode cX7_lapOf 19 = .ok (.iconst 1, 1) := by decide +kernel
theorem dX7_lapOf_20 : decode cX7_lapOf 20 = .ok (.istore 6, 2) := by decide +kernel
theorem dX7_lapOf_22 : decode cX7_lapOf 22 = .ok (.iconst 1, 1) := by decide +kernel
theorem dX7_lapOf_23 : decode cX7_lapOf 23 = .ok (.istore 7, 2) := by decide +kernel
theorem dX7_lapOf_25 : decode cX7_lapOf 25 = .ok (.iconst 0, 1) := by decide +kernel
theorem dX7_lapOf_26 : decode cX7_lapOf 26 = .ok (.istore 8, 2) := by decide +kernel
theorem dX7_lapOf_28 : decode cX7_lapOf 28 = .ok (.iload 5, 2) := by decide +kernel
theorem dX7_lapOf_30 : decode cX7_lapOf 30 = .ok (.iload 4, 2) := by decide +kernel
theorem dX7_lapOf_32 : decode cX7_lapOf 32 = .ok (.if_icmp .eq 50, 3) := by decide +kernel
theorem dX7_lapOf_35 : decode cX7_lapOf 35 = .ok (.iload 8, 2) := by decide +kernel
theorem dX7_lapOf_37 : decode cX7_lapOf 37 = .ok (.ldc 48, 2) := by decide +kernel
theorem dX7_lapOf_39 : decode cX7_lapOf 39 = .ok (.if_icmp .ge 43, 3) := by decide +kernel
theorem dX7_lapOf_42 : decode cX7_lapOf 42 = .ok (.iload 6, 2) := by decide +kernel
theorem dX7_lapOf_44 : decode cX7_lapOf 44 = .ok (.iload 7, 2) := by decide +kernel
theorem dX7_lapOf_46 : decode cX7_lapOf 46 = .ok (.if_icmp .ne 16, 3) := by decide +kernel
theorem dX7_lapOf_49 : decode cX7_lapOf 49 = .ok (.iload 5, 2) := by decide +kernel
theorem dX7_lapOf_51 : decode cX7_lapOf 51 = .ok (.istore 4, 2) := by decide +kernel
theorem dX7_lapOf_53 : decode cX7_lapOf 53 = .ok (.iload 7, 2) := by decide +kernel
theorem dX7_lapOf_55 : decode cX7_lapOf 55 = .ok (.iconst 2, 1) := by decide +kernel
theorem dX7_lapOf_56 : decode cX7_lapOf 56 = .ok (.imul, 1) := by decide +kernel
theorem dX7_lapOf_57 : decode cX7_lapOf 57 = .ok (.istore 7, 2) := by decide +kernel
theorem dX7_lapOf_59 : decode cX7_lapOf 59 = .ok (.iconst 0, 1) := by decide +kernel
theorem dX7_lapOf_60 : decode cX7_lapOf 60 = .ok (.istore 6, 2) := by decide +kernel
theorem dX7_lapOf_62 : decode cX7_lapOf 62 = .ok (.aload_n 0, 1) := by decide +kernel
theorem dX7_lapOf_63 : decode cX7_lapOf 63 = .ok (.iload_n 1, 1) := by decide +kernel
theorem dX7_lapOf_64 : decode cX7_lapOf 64 = .ok (.iload 5, 2) := by decide +kernel
theorem dX7_lapOf_66 : decode cX7_lapOf 66 = .ok (.aload_n 2, 1) := by decide +kernel
theorem dX7_lapOf_67 : decode cX7_lapOf 67 = .ok (.iload_n 3, 1) := by decide +kernel
theorem dX7_lapOf_68 : decode cX7_lapOf 68 = .ok (.invokevirtual 44, 3) := by decide +kernel
theorem dX7_lapOf_71 : decode cX7_lapOf 71 = .ok (.istore 5, 2) := by decide +kernel
theorem dX7_lapOf_73 : decode cX7_lapOf 73 = .ok (.iinc 6 1, 3) := by decide +kernel
theorem dX7_lapOf_76 : decode cX7_lapOf 76 = .ok (.iinc 8 1, 3) := by decide +kernel
theorem dX7_lapOf_79 : decode cX7_lapOf 79 = .ok (.goto (-51), 3) := by decide +kernel
theorem dX7_lapOf_82 : decode cX7_lapOf 82 = .ok (.iload 6, 2) := by decide +kernel
theorem dX7_lapOf_84 : decode cX7_lapOf 84 = .ok (.ireturn, 1) := by decide +kernel
theorem dX7_leadOf_0 : decode cX7_leadOf 0 = .ok (.aload_n 0, 1) := by decide +kernel
theorem dX7_leadOf_1 : decode cX7_leadOf 1 = .ok (.getfield 40, 3) := by decide +kernel
theorem dX7_leadOf_4 : decode cX7_leadOf 4 = .ok (.iload_n 1, 1) := by decide +kernel
theorem dX7_leadOf_5 : decode cX7_leadOf 5 = .ok (.iaload, 1) := by decide +kernel
theorem dX7_leadOf_6 : decode cX7_leadOf 6 = .ok (.istore 5, 2) := by decide +kernel
theorem dX7_leadOf_8 : decode cX7_leadOf 8 = .ok (.iload 5, 2) := by decide +kernel
theorem dX7_leadOf_10 : decode cX7_leadOf 10 = .ok (.istore 6, 2) := by decide +kernel
theorem dX7_leadOf_12 : decode cX7_leadOf 12 = .ok (.iconst 0, 1) := by decide +kernel
theorem dX7_leadOf_13 : decode cX7_leadOf 13 = .ok (.istore 7, 2) := by decide +kernel
theorem dX7_leadOf_15 : decode cX7_leadOf 15 = .ok (.iload 7, 2) := by decide +kernel
theorem dX7_leadOf_17 : decode cX7_leadOf 17 = .ok (.iload 4, 2) := by decide +kernel
theorem dX7_leadOf_19 : decode cX7_leadOf 19 = .ok (.if_icmp .ge 20, 3) := by decide +kernel
theorem dX7_leadOf_22 : decode cX7_leadOf 22 = .ok (.aload_n 0, 1) := by decide +kernel
theorem dX7_leadOf_23 : decode cX7_leadOf 23 = .ok (.iload_n 1, 1) := by decide +kernel
theorem dX7_leadOf_24 : decode cX7_leadOf 24 = .ok (.iload 6, 2) := by decide +kernel
theorem dX7_leadOf_26 : decode cX7_leadOf 26 = .ok (.aload_n 2, 1) := by decide +kernel
theorem dX7_leadOf_27 : decode cX7_leadOf 27 = .ok (.iload_n 3, 1) := by decide +kernel
theorem dX7_leadOf_28 : decode cX7_leadOf 28 = .ok (.invokevirtual 44, 3) := by decide +kernel
theorem dX7_leadOf_31 : decode cX7_leadOf 31 = .ok (.istore 6, 2) := by decide +kernel
theorem dX7_leadOf_33 : decode cX7_leadOf 33 = .ok (.iinc 7 1, 3) := by decide +kernel
theorem dX7_leadOf_36 : decode cX7_leadOf 36 = .ok (.goto (-21), 3) := by decide +kernel
theorem dX7_leadOf_39 : decode cX7_leadOf 39 = .ok (.iconst 0, 1) := by decide +kernel
theorem dX7_leadOf_40 : decode cX7_leadOf 40 = .ok (.istore 7, 2) := by decide +kernel
theorem dX7_leadOf_42 : decode cX7_leadOf 42 = .ok (.iconst 0, 1) := by decide +kernel
theorem dX7_leadOf_43 : decode cX7_leadOf 43 = .ok (.istore 8, 2) := by decide +kernel
theorem dX7_leadOf_45 : decode cX7_leadOf 45 = .ok (.iload 6, 2) := by decide +kernel
theorem dX7_leadOf_47 : decode cX7_leadOf 47 = .ok (.iload 5, 2) := by decide +kernel
theorem dX7_leadOf_49 : decode cX7_leadOf 49 = .ok (.if_icmp .eq 41, 3) := by decide +kernel
theorem dX7_leadOf_52 : decode cX7_leadOf 52 = .ok (.iload 8, 2) := by decide +kernel
theorem dX7_leadOf_54 : decode cX7_leadOf 54 = .ok (.ldc 48, 2) := by decide +kernel
theorem dX7_leadOf_56 : decode cX7_leadOf 56 = .ok (.if_icmp .ge 34, 3) := by decide +kernel
theorem dX7_leadOf_59 : decode cX7_leadOf 59 = .ok (.aload_n 0, 1) := by decide +kernel
theorem dX7_leadOf_60 : decode cX7_leadOf 60 = .ok (.iload_n 1, 1) := by decide +kernel
theorem dX7_leadOf_61 : decode cX7_leadOf 61 = .ok (.iload 6, 2) := by decide +kernel
theorem dX7_leadOf_63 : decode cX7_leadOf 63 = .ok (.aload_n 2, 1) := by decide +kernel
theorem dX7_leadOf_64 : decode cX7_leadOf 64 = .ok (.iload_n 3, 1) := by decide +kernel
theorem dX7_leadOf_65 : decode cX7_leadOf 65 = .ok (.invokevirtual 44, 3) := by decide +kernel
theorem dX7_leadOf_68 : decode cX7_leadOf 68 = .ok (.istore 6, 2) := by decide +kernel
theorem dX7_leadOf_70 : decode cX7_leadOf 70 = .ok (.aload_n 0, 1) := by decide +kernel
theorem dX7_leadOf_71 : decode cX7_leadOf 71 = .ok (.iload_n 1, 1) := by decide +kernel
theorem dX7_leadOf_72 : decode cX7_leadOf 72 = .ok (.iload 5, 2) := by decide +kernel
theorem dX7_leadOf_74 : decode cX7_leadOf 74 = .ok (.aload_n 2, 1) := by decide +kernel
theorem dX7_leadOf_75 : decode cX7_leadOf 75 = .ok (.iload_n 3, 1) := by decide +kernel
theorem dX7_leadOf_76 : decode cX7_leadOf 76 = .ok (.invokevirtual 44, 3) := by decide +kernel
theorem dX7_leadOf_79 : decode cX7_leadOf 79 = .ok (.istore 5, 2) := by decide +kernel
theorem dX7_leadOf_81 : decode cX7_leadOf 81 = .ok (.iinc 7 1, 3) := by decide +kernel
theorem dX7_leadOf_84 : decode cX7_leadOf 84 = .ok (.iinc 8 1, 3) := by decide +kernel
theorem dX7_leadOf_87 : decode cX7_leadOf 87 = .ok (.goto (-42), 3) := by decide +kernel
theorem dX7_leadOf_90 : decode cX7_leadOf 90 = .ok (.iload 7, 2) := by decide +kernel
theorem dX7_leadOf_92 : decode cX7_leadOf 92 = .ok (.ireturn, 1) := by decide +kernel
theorem dX8_init_0 : decode cX8_init 0 = .ok (.aload_n 0, 1) := by decide +kernel
theorem dX8_init_1 : decode cX8_init 1 = .ok (.invokespecial 3, 3) := by decide +kernel
theorem dX8_init_4 : decode cX8_init 4 = .ok (.aload_n 0, 1) := by decide +kernel
theorem dX8_init_5 : decode cX8_init 5 = .ok (.iconst (-1), 1) := by decide +kernel
theorem dX8_init_6 : decode cX8_init 6 = .ok (.putfield 11, 3) := by decide +kernel
theorem dX8_init_9 : decode cX8_init 9 = .ok (.aload_n 0, 1) := by decide +kernel
theorem dX8_init_10 : decode cX8_init 10 = .ok (.bipush 24, 2) := by decide +kernel
theorem dX8_init_12 : decode cX8_init 12 = .ok (.newarray .long, 2) := by decide +kernel
theorem dX8_init_14 : decode cX8_init 14 = .ok (.putfield 15, 3) := by decide +kernel
theorem dX8_init_17 : decode cX8_init 17 = .ok (.return_, 1) := by decide +kernel
theorem dX8_isLane_0 : decode cX8_isLane 0 = .ok (.iload_n 0, 1) := by decide +kernel
theorem dX8_isLane_1 : decode cX8_isLane 1 = .ok (.ifCond .lt 12, 3) := by decide +kernel
theorem dX8_isLane_4 : decode cX8_isLane 4 = .ok (.iload_n 0, 1) := by decide +kernel
theorem dX8_isLane_5 : decode cX8_isLane 5 = .ok (.iconst 3, 1) := by decide +kernel
theorem dX8_isLane_6 : decode cX8_isLane 6 = .ok (.if_icmp .gt 7, 3) := by decide +kernel
theorem dX8_isLane_9 : decode cX8_isLane 9 = .ok (.iconst 1, 1) := by decide +kernel
theorem dX8_isLane_10 : decode cX8_isLane 10 = .ok (.goto 4, 3) := by decide +kernel
theorem dX8_isLane_13 : decode cX8_isLane 13 = .ok (.iconst 0, 1) := by decide +kernel
theorem dX8_isLane_14 : decode cX8_isLane 14 = .ok (.ireturn, 1) := by decide +kernel
theorem dX8_isNothing_0 : decode cX8_isNothing 0 = .ok (.aload_n 0, 1) := by decide +kernel
theorem dX8_isNothing_1 : decode cX8_isNothing 1 = .ok (.getfield 11, 3) := by decide +kernel
theorem dX8_isNothing_4 : decode cX8_isNothing 4 = .ok (.iconst (-1), 1) := by decide +kernel
theorem dX8_isNothing_5 : decode cX8_isNothing 5 = .ok (.if_icmp .ne 7, 3) := by decide +kernel
theorem dX8_isNothing_8 : decode cX8_isNothing 8 = .ok (.iconst 1, 1) := by decide +kernel
theorem dX8_isNothing_9 : decode cX8_isNothing 9 = .ok (.goto 4, 3) := by decide +kernel
theorem dX8_isNothing_12 : decode cX8_isNothing 12 = .ok (.iconst 0, 1) := by decide +kernel
theorem dX8_isNothing_13 : decode cX8_isNothing 13 = .ok (.ireturn, 1) := by decide +kernel
theorem dX8_begin_0 : decode cX8_begin 0 = .ok (.aload_n 0, 1) := by decide +kernel
theorem dX8_begin_1 : decode cX8_begin 1 = .ok (.iload_n 1, 1) := by decide +kernel
theorem dX8_begin_2 : decode cX8_begin 2 = .ok (.putfield 11, 3) := by decide +kernel
theorem dX8_begin_5 : decode cX8_begin 5 = .ok (.aload_n 0, 1) := by decide +kernel
theorem dX8_begin_6 : decode cX8_begin 6 = .ok (.iload_n 2, 1) := by decide +kernel
theorem dX8_begin_7 : decode cX8_begin 7 = .ok (.putfield 19, 3) := by decide +kernel
theorem dX8_begin_10 : decode cX8_begin 10 = .ok (.iconst 0, 1) := by decide +kernel
theorem dX8_begin_11 : decode cX8_begin 11 = .ok (.istore_n 3, 1) := by decide +kernel
theorem dX8_begin_12 : decode cX8_begin 12 = .ok (.iload_n 3, 1) := by decide +kernel
theorem dX8_begin_13 : decode cX8_begin 13 = .ok (.bipush 24, 2) := by decide +kernel
theorem dX8_begin_15 : decode cX8_begin 15 = .ok (.if_icmp .ge 16, 3) := by decide +kernel
theorem dX8_begin_18 : decode cX8_begin 18 = .ok (.aload_n 0, 1) := by decide +kernel
theorem dX8_begin_19 : decode cX8_begin 19 = .ok (.getfield 15, 3) := by decide +kernel
theorem dX8_begin_22 : decode cX8_begin 22 = .ok (.iload_n 3, 1) := by decide +kernel
theorem dX8_begin_23 : decode cX8_begin 23 = .ok (.lconst 0, 1) := by decide +kernel
theorem dX8_begin_24 : decode cX8_begin 24 = .ok (.lastore, 1) := by decide +kernel
theorem dX8_begin_25 : decode cX8_begin 25 = .ok (.iinc 3 1, 3) := by decide +kernel
theorem dX8_begin_28 : decode cX8_begin 28 = .ok (.goto (-16), 3) := by decide +kernel
theorem dX8_begin_31 : decode cX8_begin 31 = .ok (.return_, 1) := by decide +kernel
theorem dX8_end_0 : decode cX8_end 0 = .ok (.aload_n 0, 1) := by decide +kernel
theorem dX8_end_1 : decode cX8_end 1 = .ok (.iconst (-1), 1) := by decide +kernel
theorem dX8_end_2 : decode cX8_end 2 = .ok (.putfield 11, 3) := by decide +kernel
theorem dX8_end_5 : decode cX8_end 5 = .ok (.aload_n 0, 1) := by decide +kernel
theorem dX8_end_6 : decode cX8_end 6 = .ok (.getfield 19, 3) := by decide +kernel
theorem dX8_end_9 : decode cX8_end 9 = .ok (.ireturn, 1) := by decide +kernel
theorem dX8_holds_0 : decode cX8_holds 0 = .ok (.iload_n 1, 1) := by decide +kernel
theorem dX8_holds_1 : decode cX8_holds 1 = .ok (.ifCond .lt 29, 3) := by decide +kernel
theorem dX8_holds_4 : decode cX8_holds 4 = .ok (.iload_n 2, 1) := by decide +kernel
theorem dX8_holds_5 : decode cX8_holds 5 = .ok (.ifCond .lt 25, 3) := by decide +kernel
theorem dX8_holds_8 : decode cX8_holds 8 = .ok (.iload_n 2, 1) := by decide +kernel
theorem dX8_holds_9 : decode cX8_holds 9 = .ok (.aload_n 0, 1) := by decide +kernel
theorem dX8_holds_10 : decode cX8_holds 10 = .ok (.getfield 19, 3) := by decide +kernel
theorem dX8_holds_13 : decode cX8_holds 13 = .ok (.if_icmp .gt 17, 3) := by decide +kernel
theorem dX8_holds_16 : decode cX8_holds 16 = .ok (.iload_n 1, 1) := by decide +kernel
theorem dX8_holds_17 : decode cX8_holds 17 = .ok (.aload_n 0, 1) := by decide +kernel
theorem dX8_holds_18 : decode cX8_holds 18 = .ok (.getfield 19, 3) := by decide +kernel
theorem dX8_holds_21 : decode cX8_holds 21 = .ok (.iload_n 2, 1) := by decide +kernel
theorem dX8_holds_22 : decode cX8_holds 22 = .ok (.isub, 1) := by decide +kernel
theorem dX8_holds_23 : decode cX8_holds 23 = .ok (.if_icmp .gt 7, 3) := by decide +kernel
theorem dX8_holds_26 : decode cX8_holds 26 = .ok (.iconst 1, 1) := by decide +kernel
theorem dX8_holds_27 : decode cX8_holds 27 = .ok (.goto 4, 3) := by decide +kernel
theorem dX8_holds_30 : decode cX8_holds 30 = .ok (.iconst 0, 1) := by decide +kernel
theorem dX8_holds_31 : decode cX8_holds 31 = .ok (.ireturn, 1) := by decide +kernel
theorem dX8_refusal_0 : decode cX8_refusal 0 = .ok (.aload_n 0, 1) := by decide +kernel
theorem dX8_refusal_1 : decode cX8_refusal 1 = .ok (.invokevirtual 22, 3) := by decide +kernel
theorem dX8_refusal_4 : decode cX8_refusal 4 = .ok (.ifCond .eq 6, 3) := by decide +kernel
theorem dX8_refusal_7 : decode cX8_refusal 7 = .ok (.bipush (-11), 2) := by decide +kernel
theorem dX8_refusal_9 : decode cX8_refusal 9 = .ok (.ireturn, 1) := by decide +kernel
theorem dX8_refusal_10 : decode cX8_refusal 10 = .ok (.aload_n 0, 1) := by decide +kernel
theorem dX8_refusal_11 : decode cX8_refusal 11 = .ok (.getfield 11, 3) := by decide +kernel
theorem dX8_refusal_14 : decode cX8_refusal 14 = .ok (.iload_n 1, 1) := by decide +kernel
theorem dX8_refusal_15 : decode cX8_refusal 15 = .ok (.if_icmp .eq 6, 3) := by decide +kernel
theorem dX8_refusal_18 : decode cX8_refusal 18 = .ok (.bipush (-12), 2) := by decide +kernel
theorem dX8_refusal_20 : decode cX8_refusal 20 = .ok (.ireturn, 1) := by decide +kernel
theorem dX8_refusal_21 : decode cX8_refusal 21 = .ok (.aload_n 0, 1) := by decide +kernel
theorem dX8_refusal_22 : decode cX8_refusal 22 = .ok (.iload_n 2, 1) := by decide +kernel
theorem dX8_refusal_23 : decode cX8_refusal 23 = .ok (.iload_n 3, 1) := by decide +kernel
theorem dX8_refusal_24 : decode cX8_refusal 24 = .ok (.invokevirtual 26, 3) := by decide +kernel
theorem dX8_refusal_27 : decode cX8_refusal 27 = .ok (.ifCond .eq 7, 3) := by decide +kernel
theorem dX8_refusal_30 : decode cX8_refusal 30 = .ok (.iconst 0, 1) := by decide +kernel
theorem dX8_refusal_31 : decode cX8_refusal 31 = .ok (.goto 5, 3) := by decide +kernel
theorem dX8_refusal_34 : decode cX8_refusal 34 = .ok (.bipush (-13), 2) := by decide +kernel
theorem dX8_refusal_36 : decode cX8_refusal 36 = .ok (.ireturn, 1) := by decide +kernel
theorem dX8_put_0 : decode cX8_put 0 = .ok (.aload_n 0, 1) := by decide +kernel
theorem dX8_put_1 : decode cX8_put 1 = .ok (.getfield 11, 3) := by decide +kernel
theorem dX8_put_4 : decode cX8_put 4 = .ok (.tableswitch 66 0 2 #[28, 41, 54], 28) := by decide +kernel
theorem dX8_put_32 : decode cX8_put 32 = .ok (.aload_n 0, 1) := by decide +kernel
theorem dX8_put_33 : decode cX8_put 33 = .ok (.getfield 15, 3) := by decide +kernel
theorem dX8_put_36 : decode cX8_put 36 = .ok (.iload_n 1, 1) := by decide +kernel
theorem dX8_put_37 : decode cX8_put 37 = .ok (.lload_n 2, 1) := by decide +kernel
theorem dX8_put_38 : decode cX8_put 38 = .ok (.l2i, 1) := by decide +kernel
theorem dX8_put_39 : decode cX8_put 39 = .ok (.i2b, 1) := by decide +kernel
theorem dX8_put_40 : decode cX8_put 40 = .ok (.i2l, 1) := by decide +kernel
theorem dX8_put_41 : decode cX8_put 41 = .ok (.lastore, 1) := by decide +kernel
theorem dX8_put_42 : decode cX8_put 42 = .ok (.goto 35, 3) := by decide +kernel
theorem dX8_put_45 : decode cX8_put 45 = .ok (.aload_n 0, 1) := by decide +kernel
theorem dX8_put_46 : decode cX8_put 46 = .ok (.getfield 15, 3) := by decide +kernel
theorem dX8_put_49 : decode cX8_put 49 = .ok (.iload_n 1, 1) := by decide +kernel
theorem dX8_put_50 : decode cX8_put 50 = .ok (.lload_n 2, 1) := by decide +kernel
theorem dX8_put_51 : decode cX8_put 51 = .ok (.l2i, 1) := by decide +kernel
theorem dX8_put_52 : decode cX8_put 52 = .ok (.i2s, 1) := by decide +kernel
theorem dX8_put_53 : decode cX8_put 53 = .ok (.i2l, 1) := by decide +kernel
theorem dX8_put_54 : decode cX8_put 54 = .ok (.lastore, 1) := by decide +kernel
theorem dX8_put_55 : decode cX8_put 55 = .ok (.goto 22, 3) := by decide +kernel
theorem dX8_put_58 : decode cX8_put 58 = .ok (.aload_n 0, 1) := by decide +kernel
theorem dX8_put_59 : decode cX8_put 59 = .ok (.getfield 15, 3) := by decide +kernel
theorem dX8_put_62 : decode cX8_put 62 = .ok (.iload_n 1, 1) := by decide +kernel
theorem dX8_put_63 : decode cX8_put 63 = .ok (.lload_n 2, 1) := by decide +kernel
theorem dX8_put_64 : decode cX8_put 64 = .ok (.l2i, 1) := by decide +kernel
theorem dX8_put_65 : decode cX8_put 65 = .ok (.i2l, 1) := by decide +kernel
theorem dX8_put_66 : decode cX8_put 66 = .ok (.lastore, 1) := by decide +kernel
theorem dX8_put_67 : decode cX8_put 67 = .ok (.goto 10, 3) := by decide +kernel
theorem dX8_put_70 : decode cX8_put 70 = .ok (.aload_n 0, 1) := by decide +kernel
theorem dX8_put_71 : decode cX8_put 71 = .ok (.getfield 15, 3) := by decide +kernel
theorem dX8_put_74 : decode cX8_put 74 = .ok (.iload_n 1, 1) := by decide +kernel
theorem dX8_put_75 : decode cX8_put 75 = .ok (.lload_n 2, 1) := by decide +kernel
theorem dX8_put_76 : decode cX8_put 76 = .ok (.lastore, 1) := by decide +kernel
theorem dX8_put_77 : decode cX8_put 77 = .ok (.aload_n 0, 1) := by decide +kernel
theorem dX8_put_78 : decode cX8_put 78 = .ok (.getfield 15, 3) := by decide +kernel
theorem dX8_put_81 : decode cX8_put 81 = .ok (.iload_n 1, 1) := by decide +kernel
theorem dX8_put_82 : decode cX8_put 82 = .ok (.laload, 1) := by decide +kernel
theorem dX8_put_83 : decode cX8_put 83 = .ok (.lreturn, 1) := by decide +kernel
theorem dX9_isColour_0 : decode cX9_isColour 0 = .ok (.iload_n 0, 1) := by decide +kernel
theorem dX9_isColour_1 : decode cX9_isColour 1 = .ok (.ifCond .lt 12, 3) := by decide +kernel
theorem dX9_isColour_4 : decode cX9_isColour 4 = .ok (.iload_n 0, 1) := by decide +kernel
theorem dX9_isColour_5 : decode cX9_isColour 5 = .ok (.iconst 3, 1) := by decide +kernel
theorem dX9_isColour_6 : decode cX9_isColour 6 = .ok (.if_icmp .ge 7, 3) := by decide +kernel
theorem dX9_isColour_9 : decode cX9_isColour 9 = .ok (.iconst 1, 1) := by decide +kernel
theorem dX9_isColour_10 : decode cX9_isColour 10 = .ok (.goto 4, 3) := by decide +kernel
theorem dX9_isColour_13 : decode cX9_isColour 13 = .ok (.iconst 0, 1) := by decide +kernel
theorem dX9_isColour_14 : decode cX9_isColour 14 = .ok (.ireturn, 1) := by decide +kernel
theorem dX9_isAmount_0 : decode cX9_isAmount 0 = .ok (.iload_n 0, 1) := by decide +kernel
theorem dX9_isAmount_1 : decode cX9_isAmount 1 = .ok (.ifCond .lt 13, 3) := by decide +kernel
theorem dX9_isAmount_4 : decode cX9_isAmount 4 = .ok (.iload_n 0, 1) := by decide +kernel
theorem dX9_isAmount_5 : decode cX9_isAmount 5 = .ok (.bipush 9, 2) := by decide +kernel
theorem dX9_isAmount_7 : decode cX9_isAmount 7 = .ok (.if_icmp .gt 7, 3) := by decide +kernel
theorem dX9_isAmount_10 : decode cX9_isAmount 10 = .ok (.iconst 1, 1) := by decide +kernel
theorem dX9_isAmount_11 : decode cX9_isAmount 11 = .ok (.goto 4, 3) := by decide +kernel
theorem dX9_isAmount_14 : decode cX9_isAmount 14 = .ok (.iconst 0, 1) := by decide +kernel
theorem dX9_isAmount_15 : decode cX9_isAmount 15 = .ok (.ireturn, 1) := by decide +kernel
theorem dX9_ofShade_0 : decode cX9_ofShade 0 = .ok (.iload_n 0, 1) := by decide +kernel
theorem dX9_ofShade_1 : decode cX9_ofShade 1 = .ok (.iload_n 1, 1) := by decide +kernel
theorem dX9_ofShade_2 : decode cX9_ofShade 2 = .ok (.iconst 4, 1) := by decide +kernel
theorem dX9_ofShade_3 : decode cX9_ofShade 3 = .ok (.ishl, 1) := by decide +kernel
theorem dX9_ofShade_4 : decode cX9_ofShade 4 = .ok (.ior, 1) := by decide +kernel
theorem dX9_ofShade_5 : decode cX9_ofShade 5 = .ok (.iload_n 2, 1) := by decide +kernel
theorem dX9_ofShade_6 : decode cX9_ofShade 6 = .ok (.bipush 8, 2) := by decide +kernel
theorem dX9_ofShade_8 : decode cX9_ofShade 8 = .ok (.ishl, 1) := by decide +kernel
theorem dX9_ofShade_9 : decode cX9_ofShade 9 = .ok (.ior, 1) := by decide +kernel
theorem dX9_ofShade_10 : decode cX9_ofShade 10 = .ok (.ireturn, 1) := by decide +kernel
theorem dX9_amountOf_0 : decode cX9_amountOf 0 = .ok (.iload_n 0, 1) := by decide +kernel
theorem dX9_amountOf_1 : decode cX9_amountOf 1 = .ok (.iload_n 1, 1) := by decide +kernel
theorem dX9_amountOf_2 : decode cX9_amountOf 2 = .ok (.iconst 4, 1) := by decide +kernel
theorem dX9_amountOf_3 : decode cX9_amountOf 3 = .ok (.imul, 1) := by decide +kernel
theorem dX9_amountOf_4 : decode cX9_amountOf 4 = .ok (.ishr, 1) := by decide +kernel
theorem dX9_amountOf_5 : decode cX9_amountOf 5 = .ok (.bipush 15, 2) := by decide +kernel
theorem dX9_amountOf_7 : decode cX9_amountOf 7 = .ok (.iand, 1) := by decide +kernel
theorem dX9_amountOf_8 : decode cX9_amountOf 8 = .ok (.ireturn, 1) := by decide +kernel
theorem dX9_withMore_0 : decode cX9_withMore 0 = .ok (.iload_n 0, 1) := by decide +kernel
theorem dX9_withMore_1 : decode cX9_withMore 1 = .ok (.iload_n 2, 1) := by decide +kernel
theorem dX9_withMore_2 : decode cX9_withMore 2 = .ok (.iload_n 1, 1) := by decide +kernel
theorem dX9_withMore_3 : decode cX9_withMore 3 = .ok (.iconst 4, 1) := by decide +kernel
theorem dX9_withMore_4 : decode cX9_withMore 4 = .ok (.imul, 1) := by decide +kernel
theorem dX9_withMore_5 : decode cX9_withMore 5 = .ok (.ishl, 1) := by decide +kernel
theorem dX9_withMore_6 : decode cX9_withMore 6 = .ok (.iadd, 1) := by decide +kernel
theorem dX9_withMore_7 : decode cX9_withMore 7 = .ok (.ireturn, 1) := by decide +kernel
theorem dX9_waxIn_0 : decode cX9_waxIn 0 = .ok (.iload_n 0, 1) := by decide +kernel
theorem dX9_waxIn_1 : decode cX9_waxIn 1 = .ok (.bipush 12, 2) := by decide +kernel
theorem dX9_waxIn_3 : decode cX9_waxIn 3 = .ok (.ishr, 1) := by decide +kernel
theorem dX9_waxIn_4 : decode cX9_waxIn 4 = .ok (.ireturn, 1) := by decide +kernel
theorem dX9_withWax_0 : decode cX9_withWax 0 = .ok (.iload_n 0, 1) := by decide +kernel
theorem dX9_withWax_1 : decode cX9_withWax 1 = .ok (.sipush 4095, 3) := by decide +kernel
theorem dX9_withWax_4 : decode cX9_withWax 4 = .ok (.iand, 1) := by decide +kernel
theorem dX9_withWax_5 : decode cX9_withWax 5 = .ok (.iload_n 1, 1) := by decide +kernel
theorem dX9_withWax_6 : decode cX9_withWax 6 = .ok (.bipush 12, 2) := by decide +kernel
theorem dX9_withWax_8 : decode cX9_withWax 8 = .ok (.ishl, 1) := by decide +kernel
theorem dX9_withWax_9 : decode cX9_withWax 9 = .ok (.ior, 1) := by decide +kernel
theorem dX9_withWax_10 : decode cX9_withWax 10 = .ok (.ireturn, 1) := by decide +kernel
theorem dX9_hueOf_0 : decode cX9_hueOf 0 = .ok (.iload_n 0, 1) := by decide +kernel
theorem dX9_hueOf_1 : decode cX9_hueOf 1 = .ok (.iconst 0, 1) := by decide +kernel
theorem dX9_hueOf_2 : decode cX9_hueOf 2 = .ok (.invokestatic 9, 3) := by decide +kernel
theorem dX9_hueOf_5 : decode cX9_hueOf 5 = .ok (.iload_n 0, 1) := by decide +kernel
theorem dX9_hueOf_6 : decode cX9_hueOf 6 = .ok (.iconst 1, 1) := by decide +kernel
theorem dX9_hueOf_7 : decode cX9_hueOf 7 = .ok (.invokestatic 9, 3) := by decide +kernel
theorem dX9_hueOf_10 : decode cX9_hueOf 10 = .ok (.iload_n 0, 1) := by decide +kernel
theorem dX9_hueOf_11 : decode cX9_hueOf 11 = .ok (.iconst 2, 1) := by decide +kernel
theorem dX9_hueOf_12 : decode cX9_hueOf 12 = .ok (.invokestatic 9, 3) := by decide +kernel
theorem dX9_hueOf_15 : decode cX9_hueOf 15 = .ok (.invokestatic 13, 3) := by decide +kernel
theorem dX9_hueOf_18 : decode cX9_hueOf 18 = .ok (.invokestatic 13, 3) := by decide +kernel
theorem dX9_hueOf_21 : decode cX9_hueOf 21 = .ok (.istore_n 1, 1) := by decide +kernel
theorem dX9_hueOf_22 : decode cX9_hueOf 22 = .ok (.iconst 0, 1) := by decide +kernel
theorem dX9_hueOf_23 : decode cX9_hueOf 23 = .ok (.istore_n 2, 1) := by decide +kernel
theorem dX9_hueOf_24 : decode cX9_hueOf 24 = .ok (.iconst 0, 1) := by decide +kernel
theorem dX9_hueOf_25 : decode cX9_hueOf 25 = .ok (.istore_n 3, 1) := by decide +kernel
theorem dX9_hueOf_26 : decode cX9_hueOf 26 = .ok (.iload_n 3, 1) := by decide +kernel
theorem dX9_hueOf_27 : decode cX9_hueOf 27 = .ok (.iconst 3, 1) := by decide +kernel
theorem dX9_hueOf_28 : decode cX9_hueOf 28 = .ok (.if_icmp .ge 35, 3) := by decide +kernel
theorem dX9_hueOf_31 : decode cX9_hueOf 31 = .ok (.iload_n 0, 1) := by decide +kernel
theorem dX9_hueOf_32 : decode cX9_hueOf 32 = .ok (.iload_n 3, 1) := by decide +kernel
theorem dX9_hueOf_33 : decode cX9_hueOf 33 = .ok (.invokestatic 9, 3) := by decide +kernel
theorem dX9_hueOf_36 : decode cX9_hueOf 36 = .ok (.istore 4, 2) := by decide +kernel
theorem dX9_hueOf_38 : decode cX9_hueOf 38 = .ok (.iload 4, 2) := by decide +kernel
theorem dX9_hueOf_40 : decode cX9_hueOf 40 = .ok (.ifCond .le 17, 3) := by decide +kernel
theorem dX9_hueOf_43 : decode cX9_hueOf 43 = .ok (.iconst 2, 1) := by decide +kernel
theorem dX9_hueOf_44 : decode cX9_hueOf 44 = .ok (.iload 4, 2) := by decide +kernel
theorem dX9_hueOf_46 : decode cX9_hueOf 46 = .ok (.imul, 1) := by decide +kernel
theorem dX9_hueOf_47 : decode cX9_hueOf 47 = .ok (.iload_n 1, 1) := by decide +kernel
theorem dX9_hueOf_48 : decode cX9_hueOf 48 = .ok (.if_icmp .lt 9, 3) := by decide +kernel
theorem dX9_hueOf_51 : decode cX9_hueOf 51 = .ok (.iload_n 2, 1) := by decide +kernel
theorem dX9_hueOf_52 : decode cX9_hueOf 52 = .ok (.iconst 1, 1) := by decide +kernel
theorem dX9_hueOf_53 : decode cX9_hueOf 53 = .ok (.iload_n 3, 1) := by decide +kernel
theorem dX9_hueOf_54 : decode cX9_hueOf 54 = .ok (.ishl, 1) := by decide +kernel
theorem dX9_hueOf_55 : decode cX9_hueOf 55 = .ok (.ior, 1) := by decide +kernel
theorem dX9_hueOf_56 : decode cX9_hueOf 56 = .ok (.istore_n 2, 1) := by decide +kernel
theorem dX9_hueOf_57 : decode cX9_hueOf 57 = .ok (.iinc 3 1, 3) := by decide +kernel
theorem dX9_hueOf_60 : decode cX9_hueOf 60 = .ok (.goto (-34), 3) := by decide +kernel
theorem dX9_hueOf_63 : decode cX9_hueOf 63 = .ok (.iload_n 2, 1) := by decide +kernel
theorem dX9_hueOf_64 : decode cX9_hueOf 64 = .ok (.ireturn, 1) := by decide +kernel
theorem dX9_darkness_0 : decode cX9_darkness 0 = .ok (.iload_n 0, 1) := by decide +kernel
theorem dX9_darkness_1 : decode cX9_darkness 1 = .ok (.iconst 0, 1) := by decide +kernel
theorem dX9_darkness_2 : decode cX9_darkness 2 = .ok (.invokestatic 9, 3) := by decide +kernel
theorem dX9_darkness_5 : decode cX9_darkness 5 = .ok (.iload_n 0, 1) := by decide +kernel
theorem dX9_darkness_6 : decode cX9_darkness 6 = .ok (.iconst 1, 1) := by decide +kernel
theorem dX9_darkness_7 : decode cX9_darkness 7 = .ok (.invokestatic 9, 3) := by decide +kernel
theorem dX9_darkness_10 : decode cX9_darkness 10 = .ok (.iadd, 1) := by decide +kernel
theorem dX9_darkness_11 : decode cX9_darkness 11 = .ok (.iload_n 0, 1) := by decide +kernel
theorem dX9_darkness_12 : decode cX9_darkness 12 = .ok (.iconst 2, 1) := by decide +kernel
theorem dX9_darkness_13 : decode cX9_darkness 13 = .ok (.invokestatic 9, 3) := by decide +kernel
theorem dX9_darkness_16 : decode cX9_darkness 16 = .ok (.iadd, 1) := by decide +kernel
theorem dX9_darkness_17 : decode cX9_darkness 17 = .ok (.ireturn, 1) := by decide +kernel
theorem dX10_init_0 : decode cX10_init 0 = .ok (.aload_n 0, 1) := by decide +kernel
theorem dX10_init_1 : decode cX10_init 1 = .ok (.invokespecial 1, 3) := by decide +kernel
theorem dX10_init_4 : decode cX10_init 4 = .ok (.aload_n 0, 1) := by decide +kernel
theorem dX10_init_5 : decode cX10_init 5 = .ok (.bipush 80, 2) := by decide +kernel
theorem dX10_init_7 : decode cX10_init 7 = .ok (.newarray .int, 2) := by decide +kernel
theorem dX10_init_9 : decode cX10_init 9 = .ok (.putfield 9, 3) := by decide +kernel
theorem dX10_init_12 : decode cX10_init 12 = .ok (.return_, 1) := by decide +kernel
theorem dX10_put_0 : decode cX10_put 0 = .ok (.aload_n 0, 1) := by decide +kernel
theorem dX10_put_1 : decode cX10_put 1 = .ok (.getfield 13, 3) := by decide +kernel
theorem dX10_put_4 : decode cX10_put 4 = .ok (.bipush 80, 2) := by decide +kernel
theorem dX10_put_6 : decode cX10_put 6 = .ok (.if_icmp .lt 5, 3) := by decide +kernel
theorem dX10_put_9 : decode cX10_put 9 = .ok (.iconst 0, 1) := by decide +kernel
theorem dX10_put_10 : decode cX10_put 10 = .ok (.ireturn, 1) := by decide +kernel
theorem dX10_put_11 : decode cX10_put 11 = .ok (.aload_n 0, 1) := by decide +kernel
theorem dX10_put_12 : decode cX10_put 12 = .ok (.getfield 9, 3) := by decide +kernel
theorem dX10_put_15 : decode cX10_put 15 = .ok (.aload_n 0, 1) := by decide +kernel
theorem dX10_put_16 : decode cX10_put 16 = .ok (.dup, 1) := by decide +kernel
theorem dX10_put_17 : decode cX10_put 17 = .ok (.getfield 13, 3) := by decide +kernel
theorem dX10_put_20 : decode cX10_put 20 = .ok (.dup_x1, 1) := by decide +kernel
theorem dX10_put_21 : decode cX10_put 21 = .ok (.iconst 1, 1) := by decide +kernel
theorem dX10_put_22 : decode cX10_put 22 = .ok (.iadd, 1) := by decide +kernel
theorem dX10_put_23 : decode cX10_put 23 = .ok (.putfield 13, 3) := by decide +kernel
theorem dX10_put_26 : decode cX10_put 26 = .ok (.iload_n 1, 1) := by decide +kernel
theorem dX10_put_27 : decode cX10_put 27 = .ok (.iastore, 1) := by decide +kernel
theorem dX10_put_28 : decode cX10_put 28 = .ok (.iconst 1, 1) := by decide +kernel
theorem dX10_put_29 : decode cX10_put 29 = .ok (.ireturn, 1) := by decide +kernel
theorem dX10_at_0 : decode cX10_at 0 = .ok (.iload_n 1, 1) := by decide +kernel
theorem dX10_at_1 : decode cX10_at 1 = .ok (.ifCond .lt 20, 3) := by decide +kernel
theorem dX10_at_4 : decode cX10_at 4 = .ok (.iload_n 1, 1) := by decide +kernel
theorem dX10_at_5 : decode cX10_at 5 = .ok (.aload_n 0, 1) := by decide +kernel
theorem dX10_at_6 : decode cX10_at 6 = .ok (.getfield 13, 3) := by decide +kernel
theorem dX10_at_9 : decode cX10_at 9 = .ok (.if_icmp .ge 12, 3) := by decide +kernel
theorem dX10_at_12 : decode cX10_at 12 = .ok (.aload_n 0, 1) := by decide +kernel
theorem dX10_at_13 : decode cX10_at 13 = .ok (.getfield 9, 3) := by decide +kernel
theorem dX10_at_16 : decode cX10_at 16 = .ok (.iload_n 1, 1) := by decide +kernel
theorem dX10_at_17 : decode cX10_at 17 = .ok (.iaload, 1) := by decide +kernel
theorem dX10_at_18 : decode cX10_at 18 = .ok (.goto 4, 3) := by decide +kernel
theorem dX10_at_21 : decode cX10_at 21 = .ok (.iconst (-1), 1) := by decide +kernel
theorem dX10_at_22 : decode cX10_at 22 = .ok (.ireturn, 1) := by decide +kernel
theorem dX11_init_0 : decode cX11_init 0 = .ok (.aload_n 0, 1) := by decide +kernel
theorem dX11_init_1 : decode cX11_init 1 = .ok (.invokespecial 1, 3) := by decide +kernel
theorem dX11_init_4 : decode cX11_init 4 = .ok (.aload_n 0, 1) := by decide +kernel
theorem dX11_init_5 : decode cX11_init 5 = .ok (.new 7, 3) := by decide +kernel
theorem dX11_init_8 : decode cX11_init 8 = .ok (.dup, 1) := by decide +kernel
theorem dX11_init_9 : decode cX11_init 9 = .ok (.invokespecial 9, 3) := by decide +kernel
theorem dX11_init_12 : decode cX11_init 12 = .ok (.putfield 10, 3) := by decide +kernel
theorem dX11_init_15 : decode cX11_init 15 = .ok (.aload_n 0, 1) := by decide +kernel
theorem dX11_init_16 : decode cX11_init 16 = .ok (.new 16, 3) := by decide +kernel
theorem dX11_init_19 : decode cX11_init 19 = .ok (.dup, 1) := by decide +kernel
theorem dX11_init_20 : decode cX11_init 20 = .ok (.aload_n 0, 1) := by decide +kernel
theorem dX11_init_21 : decode cX11_init 21 = .ok (.getfield 10, 3) := by decide +kernel
theorem dX11_init_24 : decode cX11_init 24 = .ok (.invokespecial 18, 3) := by decide +kernel
theorem dX11_init_27 : decode cX11_init 27 = .ok (.putfield 21, 3) := by decide +kernel
theorem dX11_init_30 : decode cX11_init 30 = .ok (.aload_n 0, 1) := by decide +kernel
theorem dX11_init_31 : decode cX11_init 31 = .ok (.new 25, 3) := by decide +kernel
theorem dX11_init_34 : decode cX11_init 34 = .ok (.dup, 1) := by decide +kernel
theorem dX11_init_35 : decode cX11_init 35 = .ok (.invokespecial 27, 3) := by decide +kernel
theorem dX11_init_38 : decode cX11_init 38 = .ok (.putfield 28, 3) := by decide +kernel
theorem dX11_init_41 : decode cX11_init 41 = .ok (.aload_n 0, 1) := by decide +kernel
theorem dX11_init_42 : decode cX11_init 42 = .ok (.new 32, 3) := by decide +kernel
theorem dX11_init_45 : decode cX11_init 45 = .ok (.dup, 1) := by decide +kernel
theorem dX11_init_46 : decode cX11_init 46 = .ok (.invokespecial 34, 3) := by decide +kernel
theorem dX11_init_49 : decode cX11_init 49 = .ok (.putfield 35, 3) := by decide +kernel
theorem dX11_init_52 : decode cX11_init 52 = .ok (.aload_n 0, 1) := by decide +kernel
theorem dX11_init_53 : decode cX11_init 53 = .ok (.iconst 2, 1) := by decide +kernel
theorem dX11_init_54 : decode cX11_init 54 = .ok (.anewarray 25, 3) := by decide +kernel
theorem dX11_init_57 : decode cX11_init 57 = .ok (.putfield 39, 3) := by decide +kernel
theorem dX11_init_60 : decode cX11_init 60 = .ok (.iconst 0, 1) := by decide +kernel
theorem dX11_init_61 : decode cX11_init 61 = .ok (.istore_n 1, 1) := by decide +kernel
theorem dX11_init_62 : decode cX11_init 62 = .ok (.iload_n 1, 1) := by decide +kernel
theorem dX11_init_63 : decode cX11_init 63 = .ok (.iconst 2, 1) := by decide +kernel
theorem dX11_init_64 : decode cX11_init 64 = .ok (.if_icmp .ge 22, 3) := by decide +kernel
theorem dX11_init_67 : decode cX11_init 67 = .ok (.aload_n 0, 1) := by decide +kernel
theorem dX11_init_68 : decode cX11_init 68 = .ok (.getfield 39, 3) := by decide +kernel
theorem dX11_init_71 : decode cX11_init 71 = .ok (.iload_n 1, 1) := by decide +kernel
theorem dX11_init_72 : decode cX11_init 72 = .ok (.new 25, 3) := by decide +kernel
theorem dX11_init_75 : decode cX11_init 75 = .ok (.dup, 1) := by decide +kernel
theorem dX11_init_76 : decode cX11_init 76 = .ok (.invokespecial 27, 3) := by decide +kernel
theorem dX11_init_79 : decode cX11_init 79 = .ok (.aastore, 1) := by decide +kernel
theorem dX11_init_80 : decode cX11_init 80 = .ok (.iinc 1 1, 3) := by decide +kernel
theorem dX11_init_83 : decode cX11_init 83 = .ok (.goto (-21), 3) := by decide +kernel
theorem dX11_init_86 : decode cX11_init 86 = .ok (.aload_n 0, 1) := by decide +kernel
theorem dX11_init_87 : decode cX11_init 87 = .ok (.iconst 4, 1) := by decide +kernel
theorem dX11_init_88 : decode cX11_init 88 = .ok (.anewarray 43, 3) := by decide +kernel
theorem dX11_init_91 : decode cX11_init 91 = .ok (.putfield 45, 3) := by decide +kernel
theorem dX11_init_94 : decode cX11_init 94 = .ok (.iconst 0, 1) := by decide +kernel
theorem dX11_init_95 : decode cX11_init 95 = .ok (.istore_n 1, 1) := by decide +kernel
theorem dX11_init_96 : decode cX11_init 96 = .ok (.iload_n 1, 1) := by decide +kernel
theorem dX11_init_97 : decode cX11_init 97 = .ok (.iconst 4, 1) := by decide +kernel
theorem dX11_init_98 : decode cX11_init 98 = .ok (.if_icmp .ge 22, 3) := by decide +kernel
theorem dX11_init_101 : decode cX11_init 101 = .ok (.aload_n 0, 1) := by decide +kernel
theorem dX11_init_102 : decode cX11_init 102 = .ok (.getfield 45, 3) := by decide +kernel
theorem dX11_init_105 : decode cX11_init 105 = .ok (.iload_n 1, 1) := by decide +kernel
theorem dX11_init_106 : decode cX11_init 106 = .ok (.new 43, 3) := by decide +kernel
theorem dX11_init_109 : decode cX11_init 109 = .ok (.dup, 1) := by decide +kernel
theorem dX11_init_110 : decode cX11_init 110 = .ok (.invokespecial 49, 3) := by decide +kernel
theorem dX11_init_113 : decode cX11_init 113 = .ok (.aastore, 1) := by decide +kernel
theorem dX11_init_114 : decode cX11_init 114 = .ok (.iinc 1 1, 3) := by decide +kernel
theorem dX11_init_117 : decode cX11_init 117 = .ok (.goto (-21), 3) := by decide +kernel
theorem dX11_init_120 : decode cX11_init 120 = .ok (.aload_n 0, 1) := by decide +kernel
theorem dX11_init_121 : decode cX11_init 121 = .ok (.new 50, 3) := by decide +kernel
theorem dX11_init_124 : decode cX11_init 124 = .ok (.dup, 1) := by decide +kernel
theorem dX11_init_125 : decode cX11_init 125 = .ok (.invokespecial 52, 3) := by decide +kernel
theorem dX11_init_128 : decode cX11_init 128 = .ok (.putfield 53, 3) := by decide +kernel
theorem dX11_init_131 : decode cX11_init 131 = .ok (.aload_n 0, 1) := by decide +kernel
theorem dX11_init_132 : decode cX11_init 132 = .ok (.new 57, 3) := by decide +kernel
theorem dX11_init_135 : decode cX11_init 135 = .ok (.dup, 1) := by decide +kernel
theorem dX11_init_136 : decode cX11_init 136 = .ok (.invokespecial 59, 3) := by decide +kernel
theorem dX11_init_139 : decode cX11_init 139 = .ok (.putfield 60, 3) := by decide +kernel
theorem dX11_init_142 : decode cX11_init 142 = .ok (.aload_n 0, 1) := by decide +kernel
theorem dX11_init_143 : decode cX11_init 143 = .ok (.new 64, 3) := by decide +kernel
theorem dX11_init_146 : decode cX11_init 146 = .ok (.dup, 1) := by decide +kernel
theorem dX11_init_147 : decode cX11_init 147 = .ok (.invokespecial 66, 3) := by decide +kernel
theorem dX11_init_150 : decode cX11_init 150 = .ok (.putfield 67, 3) := by decide +kernel
theorem dX11_init_153 : decode cX11_init 153 = .ok (.aload_n 0, 1) := by decide +kernel
theorem dX11_init_154 : decode cX11_init 154 = .ok (.new 71, 3) := by decide +kernel
theorem dX11_init_157 : decode cX11_init 157 = .ok (.dup, 1) := by decide +kernel
theorem dX11_init_158 : decode cX11_init 158 = .ok (.invokespecial 73, 3) := by decide +kernel
theorem dX11_init_161 : decode cX11_init 161 = .ok (.putfield 74, 3) := by decide +kernel
theorem dX11_init_164 : decode cX11_init 164 = .ok (.aload_n 0, 1) := by decide +kernel
theorem dX11_init_165 : decode cX11_init 165 = .ok (.bipush 20, 2) := by decide +kernel
theorem dX11_init_167 : decode cX11_init 167 = .ok (.newarray .int, 2) := by decide +kernel
theorem dX11_init_169 : decode cX11_init 169 = .ok (.putfield 78, 3) := by decide +kernel
theorem dX11_init_172 : decode cX11_init 172 = .ok (.return_, 1) := by decide +kernel
theorem dX11_feed_0 : decode cX11_feed 0 = .ok (.iload_n 1, 1) := by decide +kernel
theorem dX11_feed_1 : decode cX11_feed 1 = .ok (.ifCond .lt 10, 3) := by decide +kernel
theorem dX11_feed_4 : decode cX11_feed 4 = .ok (.iload_n 1, 1) := by decide +kernel
theorem dX11_feed_5 : decode cX11_feed 5 = .ok (.sipush 255, 3) := by decide +kernel
theorem dX11_feed_8 : decode cX11_feed 8 = .ok (.if_icmp .le 5, 3) := by decide +kernel
theorem dX11_feed_11 : decode cX11_feed 11 = .ok (.iconst (-1), 1) := by decide +kernel
theorem dX11_feed_12 : decode cX11_feed 12 = .ok (.ireturn, 1) := by decide +kernel
theorem dX11_feed_13 : decode cX11_feed 13 = .ok (.aload_n 0, 1) := by decide +kernel
theorem dX11_feed_14 : decode cX11_feed 14 = .ok (.getfield 10, 3) := by decide +kernel
theorem dX11_feed_17 : decode cX11_feed 17 = .ok (.iload_n 1, 1) := by decide +kernel
theorem dX11_feed_18 : decode cX11_feed 18 = .ok (.invokevirtual 82, 3) := by decide +kernel
theorem dX11_feed_21 : decode cX11_feed 21 = .ok (.ifCond .eq 13, 3) := by decide +kernel
theorem dX11_feed_24 : decode cX11_feed 24 = .ok (.aload_n 0, 1) := by decide +kernel
theorem dX11_feed_25 : decode cX11_feed 25 = .ok (.getfield 10, 3) := by decide +kernel
theorem dX11_feed_28 : decode cX11_feed 28 = .ok (.getfield 86, 3) := by decide +kernel
theorem dX11_feed_31 : decode cX11_feed 31 = .ok (.goto 5, 3) := by decide +kernel
theorem dX11_feed_34 : decode cX11_feed 34 = .ok (.bipush (-3), 2) := by decide +kernel
theorem dX11_feed_36 : decode cX11_feed 36 = .ok (.ireturn, 1) := by decide +kernel
theorem dX11_cloth_0 : decode cX11_cloth 0 = .ok (.aload_n 0, 1) := by decide +kernel
theorem dX11_cloth_1 : decode cX11_cloth 1 = .ok (.getfield 21, 3) := by decide +kernel
theorem dX11_cloth_4 : decode cX11_cloth 4 = .ok (.invokevirtual 90, 3) := by decide +kernel
theorem dX11_cloth_7 : decode cX11_cloth 7 = .ok (.istore_n 1, 1) := by decide +kernel
theorem dX11_cloth_8 : decode cX11_cloth 8 = .ok (.aload_n 0, 1) := by decide +kernel
theorem dX11_cloth_9 : decode cX11_cloth 9 = .ok (.getfield 10, 3) := by decide +kernel
theorem dX11_cloth_12 : decode cX11_cloth 12 = .ok (.iconst 0, 1) := by decide +kernel
theorem dX11_cloth_13 : decode cX11_cloth 13 = .ok (.putfield 86, 3) := by decide +kernel
theorem dX11_cloth_16 : decode cX11_cloth 16 = .ok (.iload_n 1, 1) := by decide +kernel
theorem dX11_cloth_17 : decode cX11_cloth 17 = .ok (.ifCond .ne 14, 3) := by decide +kernel
theorem dX11_cloth_20 : decode cX11_cloth 20 = .ok (.bipush (-100), 2) := by decide +kernel
theorem dX11_cloth_22 : decode cX11_cloth 22 = .ok (.aload_n 0, 1) := by decide +kernel
theorem dX11_cloth_23 : decode cX11_cloth 23 = .ok (.getfield 21, 3) := by decide +kernel
theorem dX11_cloth_26 : decode cX11_cloth 26 = .ok (.getfield 94, 3) := by decide +kernel
theorem dX11_cloth_29 : decode cX11_cloth 29 = .ok (.isub, 1) := by decide +kernel
theorem dX11_cloth_30 : decode cX11_cloth 30 = .ok (.ireturn, 1) := by decide +kernel
theorem dX11_cloth_31 : decode cX11_cloth 31 = .ok (.aload_n 0, 1) := by decide +kernel
theorem dX11_cloth_32 : decode cX11_cloth 32 = .ok (.getfield 28, 3) := by decide +kernel
theorem dX11_cloth_35 : decode cX11_cloth 35 = .ok (.aload_n 0, 1) := by decide +kernel
theorem dX11_cloth_36 : decode cX11_cloth 36 = .ok (.getfield 21, 3) := by decide +kernel
theorem dX11_cloth_39 : decode cX11_cloth 39 = .ok (.getfield 97, 3) := by decide +kernel
theorem dX11_cloth_42 : decode cX11_cloth 42 = .ok (.invokevirtual 100, 3) := by decide +kernel
theorem dX11_cloth_45 : decode cX11_cloth 45 = .ok (.aload_n 0, 1) := by decide +kernel
theorem dX11_cloth_46 : decode cX11_cloth 46 = .ok (.getfield 35, 3) := by decide +kernel
theorem dX11_cloth_49 : decode cX11_cloth 49 = .ok (.invokevirtual 104, 3) := by decide +kernel
theorem dX11_cloth_52 : decode cX11_cloth 52 = .ok (.aload_n 0, 1) := by decide +kernel
theorem dX11_cloth_53 : decode cX11_cloth 53 = .ok (.getfield 28, 3) := by decide +kernel
theorem dX11_cloth_56 : decode cX11_cloth 56 = .ok (.getfield 107, 3) := by decide +kernel
theorem dX11_cloth_59 : decode cX11_cloth 59 = .ok (.ireturn, 1) := by decide +kernel
theorem dX11_square_0 : decode cX11_square 0 = .ok (.aload_n 0, 1) := by decide +kernel
theorem dX11_square_1 : decode cX11_square 1 = .ok (.getfield 28, 3) := by decide +kernel
theorem dX11_square_4 : decode cX11_square 4 = .ok (.iload_n 1, 1) := by decide +kernel
theorem dX11_square_5 : decode cX11_square 5 = .ok (.invokevirtual 110, 3) := by decide +kernel
theorem dX11_square_8 : decode cX11_square 8 = .ok (.ifCond .ne 5, 3) := by decide +kernel
theorem dX11_square_11 : decode cX11_square 11 = .ok (.iconst (-1), 1) := by decide +kernel
theorem dX11_square_12 : decode cX11_square 12 = .ok (.ireturn, 1) := by decide +kernel
theorem dX11_square_13 : decode cX11_square 13 = .ok (.aload_n 0, 1) := by decide +kernel
theorem dX11_square_14 : decode cX11_square 14 = .ok (.getfield 28, 3) := by decide +kernel
theorem dX11_square_17 : decode cX11_square 17 = .ok (.getfield 113, 3) := by decide +kernel
theorem dX11_square_20 : decode cX11_square 20 = .ok (.iload_n 1, 1) := by decide +kernel
theorem dX11_square_21 : decode cX11_square 21 = .ok (.iaload, 1) := by decide +kernel
theorem dX11_square_22 : decode cX11_square 22 = .ok (.istore_n 3, 1) := by decide +kernel
theorem dX11_square_23 : decode cX11_square 23 = .ok (.iload_n 2, 1) := by decide +kernel
theorem dX11_square_24 : decode cX11_square 24 = .ok (.tableswitch 114 0 8 #[52, 62, 72, 77, 82, 87, 105, 105, 105], 52) := by decide +kernel
theorem dX11_square_76 : decode cX11_square 76 = .ok (.aload_n 0, 1) := by decide +kernel
theorem dX11_square_77 : decode cX11_square 77 = .ok (.getfield 28, 3) := by decide +kernel
theorem dX11_square_80 : decode cX11_square 80 = .ok (.getfield 116, 3) := by decide +kernel
theorem dX11_square_83 : decode cX11_square 83 = .ok (.iload_n 1, 1) := by decide +kernel
theorem dX11_square_84 : decode cX11_square 84 = .ok (.iaload, 1) := by decide +kernel
theorem dX11_square_85 : decode cX11_square 85 = .ok (.ireturn, 1) := by decide +kernel
theorem dX11_square_86 : decode cX11_square 86 = .ok (.aload_n 0, 1) := by decide +kernel
theorem dX11_square_87 : decode cX11_square 87 = .ok (.getfield 28, 3) := by decide +kernel
theorem dX11_square_90 : decode cX11_square 90 = .ok (.getfield 119, 3) := by decide +kernel
theorem dX11_square_93 : decode cX11_square 93 = .ok (.iload_n 1, 1) := by decide +kernel
theorem dX11_square_94 : decode cX11_square 94 = .ok (.iaload, 1) := by decide +kernel
theorem dX11_square_95 : decode cX11_square 95 = .ok (.ireturn, 1) := by decide +kernel
theorem dX11_square_96 : decode cX11_square 96 = .ok (.iload_n 3, 1) := by decide +kernel
theorem dX11_square_97 : decode cX11_square 97 = .ok (.invokestatic 122, 3) := by decide +kernel
theorem dX11_square_100 : decode cX11_square 100 = .ok (.ireturn, 1) := by decide +kernel
theorem dX11_square_101 : decode cX11_square 101 = .ok (.iload_n 3, 1) := by decide +kernel
theorem dX11_square_102 : decode cX11_square 102 = .ok (.invokestatic 128, 3) := by decide +kernel
theorem dX11_square_105 : decode cX11_square 105 = .ok (.ireturn, 1) := by decide +kernel
theorem dX11_square_106 : decode cX11_square 106 = .ok (.iload_n 3, 1) := by decide +kernel
theorem dX11_square_107 : decode cX11_square 107 = .ok (.invokestatic 131, 3) := by decide +kernel
theorem dX11_square_110 : decode cX11_square 110 = .ok (.ireturn, 1) := by decide +kernel
theorem dX11_square_111 : decode cX11_square 111 = .ok (.aload_n 0, 1) := by decide +kernel
theorem dX11_square_112 : decode cX11_square 112 = .ok (.getfield 28, 3) := by decide +kernel
theorem dX11_square_115 : decode cX11_square 115 = .ok (.iload_n 1, 1) := by decide +kernel
theorem dX11_square_116 : decode cX11_square 116 = .ok (.iload_n 3, 1) := by decide +kernel
theorem dX11_square_117 : decode cX11_square 117 = .ok (.invokevirtual 134, 3) := by decide +kernel
theorem dX11_square_120 : decode cX11_square 120 = .ok (.ifCond .eq 7, 3) := by decide +kernel
theorem dX11_square_123 : decode cX11_square 123 = .ok (.iconst 1, 1) := by decide +kernel
theorem dX11_square_124 : decode cX11_square 124 = .ok (.goto 4, 3) := by decide +kernel
theorem dX11_square_127 : decode cX11_square 127 = .ok (.iconst 0, 1) := by decide +kernel
theorem dX11_square_128 : decode cX11_square 128 = .ok (.ireturn, 1) := by decide +kernel
theorem dX11_square_129 : decode cX11_square 129 = .ok (.iload_n 3, 1) := by decide +kernel
theorem dX11_square_130 : decode cX11_square 130 = .ok (.iload_n 2, 1) := by decide +kernel
theorem dX11_square_131 : decode cX11_square 131 = .ok (.bipush 6, 2) := by decide +kernel
theorem dX11_square_133 : decode cX11_square 133 = .ok (.isub, 1) := by decide +kernel
theorem dX11_square_134 : decode cX11_square 134 = .ok (.invokestatic 138, 3) := by decide +kernel
theorem dX11_square_137 : decode cX11_square 137 = .ok (.ireturn, 1) := by decide +kernel
theorem dX11_square_138 : decode cX11_square 138 = .ok (.iconst (-1), 1) := by decide +kernel
theorem dX11_square_139 : decode cX11_square 139 = .ok (.ireturn, 1) := by decide +kernel
theorem dX11_as_0 : decode cX11_as 0 = .ok (.aload_n 0, 1) := by decide +kernel
theorem dX11_as_1 : decode cX11_as 1 = .ok (.getfield 28, 3) := by decide +kernel
theorem dX11_as_4 : decode cX11_as 4 = .ok (.iload_n 1, 1) := by decide +kernel
theorem dX11_as_5 : decode cX11_as 5 = .ok (.invokevirtual 110, 3) := by decide +kernel
theorem dX11_as_8 : decode cX11_as 8 = .ok (.ifCond .eq 12, 3) := by decide +kernel
theorem dX11_as_11 : decode cX11_as 11 = .ok (.iload_n 2, 1) := by decide +kernel
theorem dX11_as_12 : decode cX11_as 12 = .ok (.ifCond .lt 8, 3) := by decide +kernel
theorem dX11_as_15 : decode cX11_as 15 = .ok (.iload_n 2, 1) := by decide +kernel
theorem dX11_as_16 : decode cX11_as 16 = .ok (.iconst 5, 1) := by decide +kernel
theorem dX11_as_17 : decode cX11_as 17 = .ok (.if_icmp .le 5, 3) := by decide +kernel
theorem dX11_as_20 : decode cX11_as 20 = .ok (.iconst (-1), 1) := by decide +kernel
theorem dX11_as_21 : decode cX11_as 21 = .ok (.ireturn, 1) := by decide +kernel
theorem dX11_as_22 : decode cX11_as 22 = .ok (.aload_n 0, 1) := by decide +kernel
theorem dX11_as_23 : decode cX11_as 23 = .ok (.getfield 28, 3) := by decide +kernel
theorem dX11_as_26 : decode cX11_as 26 = .ok (.getfield 116, 3) := by decide +kernel
theorem dX11_as_29 : decode cX11_as 29 = .ok (.iload_n 1, 1) := by decide +kernel
theorem dX11_as_30 : decode cX11_as 30 = .ok (.iaload, 1) := by decide +kernel
theorem dX11_as_31 : decode cX11_as 31 = .ok (.iload_n 2, 1) := by decide +kernel
theorem dX11_as_32 : decode cX11_as 32 = .ok (.invokestatic 144, 3) := by decide +kernel
theorem dX11_as_35 : decode cX11_as 35 = .ok (.ifCond .eq 7, 3) := by decide +kernel
theorem dX11_as_38 : decode cX11_as 38 = .ok (.iload_n 1, 1) := by decide +kernel
theorem dX11_as_39 : decode cX11_as 39 = .ok (.goto 5, 3) := by decide +kernel
theorem dX11_as_42 : decode cX11_as 42 = .ok (.bipush (-12), 2) := by decide +kernel
theorem dX11_as_44 : decode cX11_as 44 = .ok (.ireturn, 1) := by decide +kernel
theorem dX11_dye_0 : decode cX11_dye 0 = .ok (.aload_n 0, 1) := by decide +kernel
theorem dX11_dye_1 : decode cX11_dye 1 = .ok (.getfield 28, 3) := by decide +kernel
theorem dX11_dye_4 : decode cX11_dye 4 = .ok (.iload_n 1, 1) := by decide +kernel
theorem dX11_dye_5 : decode cX11_dye 5 = .ok (.invokevirtual 147, 3) := by decide +kernel
theorem dX11_dye_8 : decode cX11_dye 8 = .ok (.ifCond .eq 10, 3) := by decide +kernel
theorem dX11_dye_11 : decode cX11_dye 11 = .ok (.iload_n 2, 1) := by decide +kernel
theorem dX11_dye_12 : decode cX11_dye 12 = .ok (.invokestatic 150, 3) := by decide +kernel
theorem dX11_dye_15 : decode cX11_dye 15 = .ok (.ifCond .ne 5, 3) := by decide +kernel
theorem dX11_dye_18 : decode cX11_dye 18 = .ok (.iconst (-1), 1) := by decide +kernel
theorem dX11_dye_19 : decode cX11_dye 19 = .ok (.ireturn, 1) := by decide +kernel
theorem dX11_dye_20 : decode cX11_dye 20 = .ok (.aload_n 0, 1) := by decide +kernel
theorem dX11_dye_21 : decode cX11_dye 21 = .ok (.getfield 28, 3) := by decide +kernel
theorem dX11_dye_24 : decode cX11_dye 24 = .ok (.iload_n 1, 1) := by decide +kernel
theorem dX11_dye_25 : decode cX11_dye 25 = .ok (.iload_n 2, 1) := by decide +kernel
theorem dX11_dye_26 : decode cX11_dye 26 = .ok (.invokevirtual 153, 3) := by decide +kernel
theorem dX11_dye_29 : decode cX11_dye 29 = .ok (.ireturn, 1) := by decide +kernel
theorem dX11_stencil_0 : decode cX11_stencil 0 = .ok (.aload_n 0, 1) := by decide +kernel
theorem dX11_stencil_1 : decode cX11_stencil 1 = .ok (.getfield 28, 3) := by decide +kernel
theorem dX11_stencil_4 : decode cX11_stencil 4 = .ok (.iload_n 1, 1) := by decide +kernel
theorem dX11_stencil_5 : decode cX11_stencil 5 = .ok (.invokevirtual 156, 3) := by decide +kernel
theorem dX11_stencil_8 : decode cX11_stencil 8 = .ok (.ifCond .eq 15, 3) := by decide +kernel
theorem dX11_stencil_11 : decode cX11_stencil 11 = .ok (.aload_n 0, 1) := by decide +kernel
theorem dX11_stencil_12 : decode cX11_stencil 12 = .ok (.getfield 28, 3) := by decide +kernel
theorem dX11_stencil_15 : decode cX11_stencil 15 = .ok (.getfield 159, 3) := by decide +kernel
theorem dX11_stencil_18 : decode cX11_stencil 18 = .ok (.iload_n 1, 1) := by decide +kernel
theorem dX11_stencil_19 : decode cX11_stencil 19 = .ok (.iaload, 1) := by decide +kernel
theorem dX11_stencil_20 : decode cX11_stencil 20 = .ok (.goto 4, 3) := by decide +kernel
theorem dX11_stencil_23 : decode cX11_stencil 23 = .ok (.iconst (-1), 1) := by decide +kernel
theorem dX11_stencil_24 : decode cX11_stencil 24 = .ok (.ireturn, 1) := by decide +kernel
theorem dX11_takes_0 : decode cX11_takes 0 = .ok (.aload_n 0, 1) := by decide +kernel
theorem dX11_takes_1 : decode cX11_takes 1 = .ok (.getfield 28, 3) := by decide +kernel
theorem dX11_takes_4 : decode cX11_takes 4 = .ok (.iload_n 1, 1) := by decide +kernel
theorem dX11_takes_5 : decode cX11_takes 5 = .ok (.invokevirtual 110, 3) := by decide +kernel
theorem dX11_takes_8 : decode cX11_takes 8 = .ok (.ifCond .eq 21, 3) := by decide +kernel
theorem dX11_takes_11 : decode cX11_takes 11 = .ok (.aload_n 0, 1) := by decide +kernel
theorem dX11_takes_12 : decode cX11_takes 12 = .ok (.getfield 28, 3) := by decide +kernel
theorem dX11_takes_15 : decode cX11_takes 15 = .ok (.iload_n 2, 1) := by decide +kernel
theorem dX11_takes_16 : decode cX11_takes 16 = .ok (.invokevirtual 147, 3) := by decide +kernel
theorem dX11_takes_19 : decode cX11_takes 19 = .ok (.ifCond .eq 10, 3) := by decide +kernel
theorem dX11_takes_22 : decode cX11_takes 22 = .ok (.iload_n 3, 1) := by decide +kernel
theorem dX11_takes_23 : decode cX11_takes 23 = .ok (.invokestatic 150, 3) := by decide +kernel
theorem dX11_takes_26 : decode cX11_takes 26 = .ok (.ifCond .ne 5, 3) := by decide +kernel
theorem dX11_takes_29 : decode cX11_takes 29 = .ok (.iconst (-1), 1) := by decide +kernel
theorem dX11_takes_30 : decode cX11_takes 30 = .ok (.ireturn, 1) := by decide +kernel
theorem dX11_takes_31 : decode cX11_takes 31 = .ok (.aload_n 0, 1) := by decide +kernel
theorem dX11_takes_32 : decode cX11_takes 32 = .ok (.getfield 28, 3) := by decide +kernel
theorem dX11_takes_35 : decode cX11_takes 35 = .ok (.getfield 113, 3) := by decide +kernel
theorem dX11_takes_38 : decode cX11_takes 38 = .ok (.iload_n 1, 1) := by decide +kernel
theorem dX11_takes_39 : decode cX11_takes 39 = .ok (.iaload, 1) := by decide +kernel
theorem dX11_takes_40 : decode cX11_takes 40 = .ok (.istore 4, 2) := by decide +kernel
theorem dX11_takes_42 : decode cX11_takes 42 = .ok (.iload 4, 2) := by decide +kernel
theorem dX11_takes_44 : decode cX11_takes 44 = .ok (.invokestatic 122, 3) := by decide +kernel
theorem dX11_takes_47 : decode cX11_takes 47 = .ok (.ifCond .le 7, 3) := by decide +kernel
theorem dX11_takes_50 : decode cX11_takes 50 = .ok (.iconst 0, 1) := by decide +kernel
theorem dX11_takes_51 : decode cX11_takes 51 = .ok (.goto 15, 3) := by decide +kernel
theorem dX11_takes_54 : decode cX11_takes 54 = .ok (.aload_n 0, 1) := by decide +kernel
theorem dX11_takes_55 : decode cX11_takes 55 = .ok (.getfield 28, 3) := by decide +kernel
theorem dX11_takes_58 : decode cX11_takes 58 = .ok (.iload_n 1, 1) := by decide +kernel
theorem dX11_takes_59 : decode cX11_takes 59 = .ok (.iload 4, 2) := by decide +kernel
theorem dX11_takes_61 : decode cX11_takes 61 = .ok (.iload_n 2, 1) := by decide +kernel
theorem dX11_takes_62 : decode cX11_takes 62 = .ok (.iload_n 3, 1) := by decide +kernel
theorem dX11_takes_63 : decode cX11_takes 63 = .ok (.invokevirtual 162, 3) := by decide +kernel
theorem dX11_takes_66 : decode cX11_takes 66 = .ok (.ireturn, 1) := by decide +kernel
theorem dX11_does_0 : decode cX11_does 0 = .ok (.aload_n 0, 1) := by decide +kernel
theorem dX11_does_1 : decode cX11_does 1 = .ok (.getfield 28, 3) := by decide +kernel
theorem dX11_does_4 : decode cX11_does 4 = .ok (.iload_n 1, 1) := by decide +kernel
theorem dX11_does_5 : decode cX11_does 5 = .ok (.i2l, 1) := by decide +kernel
theorem dX11_does_6 : decode cX11_does 6 = .ok (.invokevirtual 166, 3) := by decide +kernel
theorem dX11_does_9 : decode cX11_does 9 = .ok (.ifCond .ne 5, 3) := by decide +kernel
theorem dX11_does_12 : decode cX11_does 12 = .ok (.iconst (-1), 1) := by decide +kernel
theorem dX11_does_13 : decode cX11_does 13 = .ok (.ireturn, 1) := by decide +kernel
theorem dX11_does_14 : decode cX11_does 14 = .ok (.aload_n 0, 1) := by decide +kernel
theorem dX11_does_15 : decode cX11_does 15 = .ok (.getfield 28, 3) := by decide +kernel
theorem dX11_does_18 : decode cX11_does 18 = .ok (.getfield 170, 3) := by decide +kernel
theorem dX11_does_21 : decode cX11_does 21 = .ok (.sipush 9999, 3) := by decide +kernel
theorem dX11_does_24 : decode cX11_does 24 = .ok (.if_icmp .lt 6, 3) := by decide +kernel
theorem dX11_does_27 : decode cX11_does 27 = .ok (.bipush (-3), 2) := by decide +kernel
theorem dX11_does_29 : decode cX11_does 29 = .ok (.ireturn, 1) := by decide +kernel
theorem dX11_does_30 : decode cX11_does 30 = .ok (.aload_n 0, 1) := by decide +kernel
theorem dX11_does_31 : decode cX11_does 31 = .ok (.getfield 35, 3) := by decide +kernel
theorem dX11_does_34 : decode cX11_does 34 = .ok (.aload_n 0, 1) := by decide +kernel
theorem dX11_does_35 : decode cX11_does 35 = .ok (.getfield 28, 3) := by decide +kernel
theorem dX11_does_38 : decode cX11_does 38 = .ok (.getfield 113, 3) := by decide +kernel
theorem dX11_does_41 : decode cX11_does 41 = .ok (.invokevirtual 173, 3) := by decide +kernel
theorem dX11_does_44 : decode cX11_does 44 = .ok (.aload_n 0, 1) := by decide +kernel
theorem dX11_does_45 : decode cX11_does 45 = .ok (.getfield 28, 3) := by decide +kernel
theorem dX11_does_48 : decode cX11_does 48 = .ok (.iload_n 1, 1) := by decide +kernel
theorem dX11_does_49 : decode cX11_does 49 = .ok (.aload_n 0, 1) := by decide +kernel
theorem dX11_does_50 : decode cX11_does 50 = .ok (.getfield 28, 3) := by decide +kernel
theorem dX11_does_53 : decode cX11_does 53 = .ok (.getfield 113, 3) := by decide +kernel
theorem dX11_does_56 : decode cX11_does 56 = .ok (.aload_n 0, 1) := by decide +kernel
theorem dX11_does_57 : decode cX11_does 57 = .ok (.getfield 28, 3) := by decide +kernel
theorem dX11_does_60 : decode cX11_does 60 = .ok (.getfield 113, 3) := by decide +kernel
theorem dX11_does_63 : decode cX11_does 63 = .ok (.invokevirtual 177, 3) := by decide +kernel
theorem dX11_does_66 : decode cX11_does 66 = .ok (.pop, 1) := by decide +kernel
theorem dX11_does_67 : decode cX11_does 67 = .ok (.aload_n 0, 1) := by decide +kernel
theorem dX11_does_68 : decode cX11_does 68 = .ok (.getfield 28, 3) := by decide +kernel
theorem dX11_does_71 : decode cX11_does 71 = .ok (.dup, 1) := by decide +kernel
theorem dX11_does_72 : decode cX11_does 72 = .ok (.getfield 170, 3) := by decide +kernel
theorem dX11_does_75 : decode cX11_does 75 = .ok (.iconst 1, 1) := by decide +kernel
theorem dX11_does_76 : decode cX11_does 76 = .ok (.iadd, 1) := by decide +kernel
theorem dX11_does_77 : decode cX11_does 77 = .ok (.putfield 170, 3) := by decide +kernel
theorem dX11_does_80 : decode cX11_does 80 = .ok (.aload_n 0, 1) := by decide +kernel
theorem dX11_does_81 : decode cX11_does 81 = .ok (.getfield 28, 3) := by decide +kernel
theorem dX11_does_84 : decode cX11_does 84 = .ok (.aload_n 0, 1) := by decide +kernel
theorem dX11_does_85 : decode cX11_does 85 = .ok (.getfield 28, 3) := by decide +kernel
theorem dX11_does_88 : decode cX11_does 88 = .ok (.getfield 113, 3) := by decide +kernel
theorem dX11_does_91 : decode cX11_does 91 = .ok (.invokevirtual 181, 3) := by decide +kernel
theorem dX11_does_94 : decode cX11_does 94 = .ok (.ireturn, 1) := by decide +kernel
theorem dX11_undo_0 : decode cX11_undo 0 = .ok (.aload_n 0, 1) := by decide +kernel
theorem dX11_undo_1 : decode cX11_undo 1 = .ok (.getfield 35, 3) := by decide +kernel
theorem dX11_undo_4 : decode cX11_undo 4 = .ok (.aload_n 0, 1) := by decide +kernel
theorem dX11_undo_5 : decode cX11_undo 5 = .ok (.getfield 28, 3) := by decide +kernel
theorem dX11_undo_8 : decode cX11_undo 8 = .ok (.getfield 113, 3) := by decide +kernel
theorem dX11_undo_11 : decode cX11_undo 11 = .ok (.invokevirtual 185, 3) := by decide +kernel
theorem dX11_undo_14 : decode cX11_undo 14 = .ok (.ifCond .ne 6, 3) := by decide +kernel
theorem dX11_undo_17 : decode cX11_undo 17 = .ok (.bipush (-4), 2) := by decide +kernel
theorem dX11_undo_19 : decode cX11_undo 19 = .ok (.ireturn, 1) := by decide +kernel
theorem dX11_undo_20 : decode cX11_undo 20 = .ok (.aload_n 0, 1) := by decide +kernel
theorem dX11_undo_21 : decode cX11_undo 21 = .ok (.getfield 28, 3) := by decide +kernel
theorem dX11_undo_24 : decode cX11_undo 24 = .ok (.dup, 1) := by decide +kernel
theorem dX11_undo_25 : decode cX11_undo 25 = .ok (.getfield 170, 3) := by decide +kernel
theorem dX11_undo_28 : decode cX11_undo 28 = .ok (.iconst 1, 1) := by decide +kernel
theorem dX11_undo_29 : decode cX11_undo 29 = .ok (.isub, 1) := by decide +kernel
theorem dX11_undo_30 : decode cX11_undo 30 = .ok (.putfield 170, 3) := by decide +kernel
theorem dX11_undo_33 : decode cX11_undo 33 = .ok (.aload_n 0, 1) := by decide +kernel
theorem dX11_undo_34 : decode cX11_undo 34 = .ok (.getfield 35, 3) := by decide +kernel
theorem dX11_undo_37 : decode cX11_undo 37 = .ok (.getfield 189, 3) := by decide +kernel
theorem dX11_undo_40 : decode cX11_undo 40 = .ok (.ireturn, 1) := by decide +kernel
theorem dX11_wish_0 : decode cX11_wish 0 = .ok (.aload_n 0, 1) := by decide +kernel
theorem dX11_wish_1 : decode cX11_wish 1 = .ok (.getfield 28, 3) := by decide +kernel
theorem dX11_wish_4 : decode cX11_wish 4 = .ok (.iload_n 1, 1) := by decide +kernel
theorem dX11_wish_5 : decode cX11_wish 5 = .ok (.invokevirtual 110, 3) := by decide +kernel
theorem dX11_wish_8 : decode cX11_wish 8 = .ok (.ifCond .eq 13, 3) := by decide +kernel
theorem dX11_wish_11 : decode cX11_wish 11 = .ok (.iload_n 2, 1) := by decide +kernel
theorem dX11_wish_12 : decode cX11_wish 12 = .ok (.ifCond .lt 9, 3) := by decide +kernel
theorem dX11_wish_15 : decode cX11_wish 15 = .ok (.iload_n 2, 1) := by decide +kernel
theorem dX11_wish_16 : decode cX11_wish 16 = .ok (.bipush 7, 2) := by decide +kernel
theorem dX11_wish_18 : decode cX11_wish 18 = .ok (.if_icmp .le 5, 3) := by decide +kernel
theorem dX11_wish_21 : decode cX11_wish 21 = .ok (.iconst (-1), 1) := by decide +kernel
theorem dX11_wish_22 : decode cX11_wish 22 = .ok (.ireturn, 1) := by decide +kernel
theorem dX11_wish_23 : decode cX11_wish 23 = .ok (.aload_n 0, 1) := by decide +kernel
theorem dX11_wish_24 : decode cX11_wish 24 = .ok (.getfield 28, 3) := by decide +kernel
theorem dX11_wish_27 : decode cX11_wish 27 = .ok (.getfield 119, 3) := by decide +kernel
theorem dX11_wish_30 : decode cX11_wish 30 = .ok (.iload_n 1, 1) := by decide +kernel
theorem dX11_wish_31 : decode cX11_wish 31 = .ok (.iaload, 1) := by decide +kernel
theorem dX11_wish_32 : decode cX11_wish 32 = .ok (.istore_n 3, 1) := by decide +kernel
theorem dX11_wish_33 : decode cX11_wish 33 = .ok (.aload_n 0, 1) := by decide +kernel
theorem dX11_wish_34 : decode cX11_wish 34 = .ok (.getfield 28, 3) := by decide +kernel
theorem dX11_wish_37 : decode cX11_wish 37 = .ok (.getfield 119, 3) := by decide +kernel
theorem dX11_wish_40 : decode cX11_wish 40 = .ok (.iload_n 1, 1) := by decide +kernel
theorem dX11_wish_41 : decode cX11_wish 41 = .ok (.iload_n 2, 1) := by decide +kernel
theorem dX11_wish_42 : decode cX11_wish 42 = .ok (.iastore, 1) := by decide +kernel
theorem dX11_wish_43 : decode cX11_wish 43 = .ok (.iload_n 3, 1) := by decide +kernel
theorem dX11_wish_44 : decode cX11_wish 44 = .ok (.ireturn, 1) := by decide +kernel
theorem dX11_image_0 : decode cX11_image 0 = .ok (.iload_n 1, 1) := by decide +kernel
theorem dX11_image_1 : decode cX11_image 1 = .ok (.ifCond .lt 8, 3) := by decide +kernel
theorem dX11_image_4 : decode cX11_image 4 = .ok (.iload_n 1, 1) := by decide +kernel
theorem dX11_image_5 : decode cX11_image 5 = .ok (.iconst 2, 1) := by decide +kernel
theorem dX11_image_6 : decode cX11_image 6 = .ok (.if_icmp .lt 5, 3) := by decide +kernel
theorem dX11_image_9 : decode cX11_image 9 = .ok (.iconst (-1), 1) := by decide +kernel
theorem dX11_image_10 : decode cX11_image 10 = .ok (.ireturn, 1) := by decide +kernel
theorem dX11_image_11 : decode cX11_image 11 = .ok (.aload_n 0, 1) := by decide +kernel
theorem dX11_image_12 : decode cX11_image 12 = .ok (.getfield 28, 3) := by decide +kernel
theorem dX11_image_15 : decode cX11_image 15 = .ok (.invokevirtual 192, 3) := by decide +kernel
theorem dX11_image_18 : decode cX11_image 18 = .ok (.ifCond .ne 6, 3) := by decide +kernel
theorem dX11_image_21 : decode cX11_image 21 = .ok (.bipush (-2), 2) := by decide +kernel
theorem dX11_image_23 : decode cX11_image 23 = .ok (.ireturn, 1) := by decide +kernel
theorem dX11_image_24 : decode cX11_image 24 = .ok (.aload_n 0, 1) := by decide +kernel
theorem dX11_image_25 : decode cX11_image 25 = .ok (.getfield 39, 3) := by decide +kernel
theorem dX11_image_28 : decode cX11_image 28 = .ok (.iload_n 1, 1) := by decide +kernel
theorem dX11_image_29 : decode cX11_image 29 = .ok (.aaload, 1) := by decide +kernel
theorem dX11_image_30 : decode cX11_image 30 = .ok (.aload_n 0, 1) := by decide +kernel
theorem dX11_image_31 : decode cX11_image 31 = .ok (.getfield 28, 3) := by decide +kernel
theorem dX11_image_34 : decode cX11_image 34 = .ok (.invokevirtual 100, 3) := by decide +kernel
theorem dX11_image_37 : decode cX11_image 37 = .ok (.aload_n 0, 1) := by decide +kernel
theorem dX11_image_38 : decode cX11_image 38 = .ok (.getfield 28, 3) := by decide +kernel
theorem dX11_image_41 : decode cX11_image 41 = .ok (.getfield 170, 3) := by decide +kernel
theorem dX11_image_44 : decode cX11_image 44 = .ok (.ireturn, 1) := by decide +kernel
theorem dX11_restore_0 : decode cX11_restore 0 = .ok (.iload_n 1, 1) := by decide +kernel
theorem dX11_restore_1 : decode cX11_restore 1 = .ok (.ifCond .lt 8, 3) := by decide +kernel
theorem dX11_restore_4 : decode cX11_restore 4 = .ok (.iload_n 1, 1) := by decide +kernel
theorem dX11_restore_5 : decode cX11_restore 5 = .ok (.iconst 2, 1) := by decide +kernel
theorem dX11_restore_6 : decode cX11_restore 6 = .ok (.if_icmp .lt 5, 3) := by decide +kernel
theorem dX11_restore_9 : decode cX11_restore 9 = .ok (.iconst (-1), 1) := by decide +kernel
theorem dX11_restore_10 : decode cX11_restore 10 = .ok (.ireturn, 1) := by decide +kernel
theorem dX11_restore_11 : decode cX11_restore 11 = .ok (.aload_n 0, 1) := by decide +kernel
theorem dX11_restore_12 : decode cX11_restore 12 = .ok (.getfield 39, 3) := by decide +kernel
theorem dX11_restore_15 : decode cX11_restore 15 = .ok (.iload_n 1, 1) := by decide +kernel
theorem dX11_restore_16 : decode cX11_restore 16 = .ok (.aaload, 1) := by decide +kernel
theorem dX11_restore_17 : decode cX11_restore 17 = .ok (.invokevirtual 192, 3) := by decide +kernel
theorem dX11_restore_20 : decode cX11_restore 20 = .ok (.ifCond .ne 6, 3) := by decide +kernel
theorem dX11_restore_23 : decode cX11_restore 23 = .ok (.bipush (-2), 2) := by decide +kernel
theorem dX11_restore_25 : decode cX11_restore 25 = .ok (.ireturn, 1) := by decide +kernel
theorem dX11_restore_26 : decode cX11_restore 26 = .ok (.aload_n 0, 1) := by decide +kernel
theorem dX11_restore_27 : decode cX11_restore 27 = .ok (.getfield 28, 3) := by decide +kernel
theorem dX11_restore_30 : decode cX11_restore 30 = .ok (.aload_n 0, 1) := by decide +kernel
theorem dX11_restore_31 : decode cX11_restore 31 = .ok (.getfield 39, 3) := by decide +kernel
theorem dX11_restore_34 : decode cX11_restore 34 = .ok (.iload_n 1, 1) := by decide +kernel
theorem dX11_restore_35 : decode cX11_restore 35 = .ok (.aaload, 1) := by decide +kernel
theorem dX11_restore_36 : decode cX11_restore 36 = .ok (.invokevirtual 100, 3) := by decide +kernel
theorem dX11_restore_39 : decode cX11_restore 39 = .ok (.aload_n 0, 1) := by decide +kernel
theorem dX11_restore_40 : decode cX11_restore 40 = .ok (.getfield 35, 3) := by decide +kernel
theorem dX11_restore_43 : decode cX11_restore 43 = .ok (.invokevirtual 104, 3) := by decide +kernel
theorem dX11_restore_46 : decode cX11_restore 46 = .ok (.aload_n 0, 1) := by decide +kernel
theorem dX11_restore_47 : decode cX11_restore 47 = .ok (.getfield 28, 3) := by decide +kernel
theorem dX11_restore_50 : decode cX11_restore 50 = .ok (.getfield 170, 3) := by decide +kernel
theorem dX11_restore_53 : decode cX11_restore 53 = .ok (.ireturn, 1) := by decide +kernel
theorem dX11_plan_0 : decode cX11_plan 0 = .ok (.iload_n 1, 1) := by decide +kernel
theorem dX11_plan_1 : decode cX11_plan 1 = .ok (.ifCond .lt 14, 3) := by decide +kernel
theorem dX11_plan_4 : decode cX11_plan 4 = .ok (.iload_n 1, 1) := by decide +kernel
theorem dX11_plan_5 : decode cX11_plan 5 = .ok (.iconst 4, 1) := by decide +kernel
theorem dX11_plan_6 : decode cX11_plan 6 = .ok (.if_icmp .gt 9, 3) := by decide +kernel
theorem dX11_plan_9 : decode cX11_plan 9 = .ok (.iload_n 2, 1) := by decide +kernel
theorem dX11_plan_10 : decode cX11_plan 10 = .ok (.bipush (-2), 2) := by decide +kernel
theorem dX11_plan_12 : decode cX11_plan 12 = .ok (.if_icmp .ge 5, 3) := by decide +kernel
theorem dX11_plan_15 : decode cX11_plan 15 = .ok (.iconst (-1), 1) := by decide +kernel
theorem dX11_plan_16 : decode cX11_plan 16 = .ok (.ireturn, 1) := by decide +kernel
theorem dX11_plan_17 : decode cX11_plan 17 = .ok (.aload_n 0, 1) := by decide +kernel
theorem dX11_plan_18 : decode cX11_plan 18 = .ok (.getfield 28, 3) := by decide +kernel
theorem dX11_plan_21 : decode cX11_plan 21 = .ok (.invokevirtual 192, 3) := by decide +kernel
theorem dX11_plan_24 : decode cX11_plan 24 = .ok (.ifCond .ne 6, 3) := by decide +kernel
theorem dX11_plan_27 : decode cX11_plan 27 = .ok (.bipush (-2), 2) := by decide +kernel
theorem dX11_plan_29 : decode cX11_plan 29 = .ok (.ireturn, 1) := by decide +kernel
theorem dX11_plan_30 : decode cX11_plan 30 = .ok (.aload_n 0, 1) := by decide +kernel
theorem dX11_plan_31 : decode cX11_plan 31 = .ok (.getfield 53, 3) := by decide +kernel
theorem dX11_plan_34 : decode cX11_plan 34 = .ok (.aload_n 0, 1) := by decide +kernel
theorem dX11_plan_35 : decode cX11_plan 35 = .ok (.getfield 28, 3) := by decide +kernel
theorem dX11_plan_38 : decode cX11_plan 38 = .ok (.iload_n 1, 1) := by decide +kernel
theorem dX11_plan_39 : decode cX11_plan 39 = .ok (.invokevirtual 195, 3) := by decide +kernel
theorem dX11_plan_42 : decode cX11_plan 42 = .ok (.iload_n 2, 1) := by decide +kernel
theorem dX11_plan_43 : decode cX11_plan 43 = .ok (.bipush (-2), 2) := by decide +kernel
theorem dX11_plan_45 : decode cX11_plan 45 = .ok (.if_icmp .ne 11, 3) := by decide +kernel
theorem dX11_plan_48 : decode cX11_plan 48 = .ok (.aload_n 0, 1) := by decide +kernel
theorem dX11_plan_49 : decode cX11_plan 49 = .ok (.getfield 53, 3) := by decide +kernel
theorem dX11_plan_52 : decode cX11_plan 52 = .ok (.getfield 199, 3) := by decide +kernel
theorem dX11_plan_55 : decode cX11_plan 55 = .ok (.ireturn, 1) := by decide +kernel
theorem dX11_plan_56 : decode cX11_plan 56 = .ok (.iload_n 2, 1) := by decide +kernel
theorem dX11_plan_57 : decode cX11_plan 57 = .ok (.iconst (-1), 1) := by decide +kernel
theorem dX11_plan_58 : decode cX11_plan 58 = .ok (.if_icmp .ne 11, 3) := by decide +kernel
theorem dX11_plan_61 : decode cX11_plan 61 = .ok (.aload_n 0, 1) := by decide +kernel
theorem dX11_plan_62 : decode cX11_plan 62 = .ok (.getfield 53, 3) := by decide +kernel
theorem dX11_plan_65 : decode cX11_plan 65 = .ok (.getfield 202, 3) := by decide +kernel
theorem dX11_plan_68 : decode cX11_plan 68 = .ok (.ireturn, 1) := by decide +kernel
theorem dX11_plan_69 : decode cX11_plan 69 = .ok (.iload_n 2, 1) := by decide +kernel
theorem dX11_plan_70 : decode cX11_plan 70 = .ok (.aload_n 0, 1) := by decide +kernel
theorem dX11_plan_71 : decode cX11_plan 71 = .ok (.getfield 53, 3) := by decide +kernel
theorem dX11_plan_74 : decode cX11_plan 74 = .ok (.getfield 202, 3) := by decide +kernel
theorem dX11_plan_77 : decode cX11_plan 77 = .ok (.if_icmp .ge 15, 3) := by decide +kernel
theorem dX11_plan_80 : decode cX11_plan 80 = .ok (.aload_n 0, 1) := by decide +kernel
theorem dX11_plan_81 : decode cX11_plan 81 = .ok (.getfield 53, 3) := by decide +kernel
theorem dX11_plan_84 : decode cX11_plan 84 = .ok (.getfield 205, 3) := by decide +kernel
theorem dX11_plan_87 : decode cX11_plan 87 = .ok (.iload_n 2, 1) := by decide +kernel
theorem dX11_plan_88 : decode cX11_plan 88 = .ok (.iaload, 1) := by decide +kernel
theorem dX11_plan_89 : decode cX11_plan 89 = .ok (.goto 5, 3) := by decide +kernel
theorem dX11_plan_92 : decode cX11_plan 92 = .ok (.bipush (-4), 2) := by decide +kernel
theorem dX11_plan_94 : decode cX11_plan 94 = .ok (.ireturn, 1) := by decide +kernel
end
section
theorem dX11_rows_0 : decode cX11_rows 0 = .ok (.aload_n 0, 1) := by decide +kernel
theorem dX11_rows_1 : decode cX11_rows 1 = .ok (.getfield 28, 3) := by decide +kernel
theorem dX11_rows_4 : decode cX11_rows 4 = .ok (.iload_n 1, 1) := by decide +kernel
theorem dX11_rows_5 : decode cX11_rows 5 = .ok (.invokevirtual 110, 3) := by decide +kernel
theorem dX11_rows_8 : decode cX11_rows 8 = .ok (.ifCond .eq 20, 3) := by decide +kernel
theorem dX11_rows_11 : decode cX11_rows 11 = .ok (.iload 5, 2) := by decide +kernel
theorem dX11_rows_13 : decode cX11_rows 13 = .ok (.ifCond .lt 15, 3) := by decide +kernel
theorem dX11_rows_16 : decode cX11_rows 16 = .ok (.iload 5, 2) := by decide +kernel
theorem dX11_rows_18 : decode cX11_rows 18 = .ok (.iconst 5, 1) := by decide +kernel
theorem dX11_rows_19 : decode cX11_rows 19 = .ok (.if_icmp .gt 9, 3) := by decide +kernel
theorem dX11_rows_22 : decode cX11_rows 22 = .ok (.iload 6, 2) := by decide +kernel
theorem dX11_rows_24 : decode cX11_rows 24 = .ok (.iconst (-1), 1) := by decide +kernel
theorem dX11_rows_25 : decode cX11_rows 25 = .ok (.if_icmp .ge 5, 3) := by decide +kernel
theorem dX11_rows_28 : decode cX11_rows 28 = .ok (.iconst (-1), 1) := by decide +kernel
theorem dX11_rows_29 : decode cX11_rows 29 = .ok (.ireturn, 1) := by decide +kernel
theorem dX11_rows_30 : decode cX11_rows 30 = .ok (.iload_n 2, 1) := by decide +kernel
theorem dX11_rows_31 : decode cX11_rows 31 = .ok (.invokestatic 208, 3) := by decide +kernel
theorem dX11_rows_34 : decode cX11_rows 34 = .ok (.ifCond .eq 18, 3) := by decide +kernel
theorem dX11_rows_37 : decode cX11_rows 37 = .ok (.iload_n 3, 1) := by decide +kernel
theorem dX11_rows_38 : decode cX11_rows 38 = .ok (.invokestatic 208, 3) := by decide +kernel
theorem dX11_rows_41 : decode cX11_rows 41 = .ok (.ifCond .eq 11, 3) := by decide +kernel
theorem dX11_rows_44 : decode cX11_rows 44 = .ok (.iload 4, 2) := by decide +kernel
theorem dX11_rows_46 : decode cX11_rows 46 = .ok (.invokestatic 208, 3) := by decide +kernel
theorem dX11_rows_49 : decode cX11_rows 49 = .ok (.ifCond .ne 5, 3) := by decide +kernel
theorem dX11_rows_52 : decode cX11_rows 52 = .ok (.iconst (-1), 1) := by decide +kernel
theorem dX11_rows_53 : decode cX11_rows 53 = .ok (.ireturn, 1) := by decide +kernel
theorem dX11_rows_54 : decode cX11_rows 54 = .ok (.aload_n 0, 1) := by decide +kernel
theorem dX11_rows_55 : decode cX11_rows 55 = .ok (.getfield 60, 3) := by decide +kernel
theorem dX11_rows_58 : decode cX11_rows 58 = .ok (.aload_n 0, 1) := by decide +kernel
theorem dX11_rows_59 : decode cX11_rows 59 = .ok (.getfield 28, 3) := by decide +kernel
theorem dX11_rows_62 : decode cX11_rows 62 = .ok (.iload_n 1, 1) := by decide +kernel
theorem dX11_rows_63 : decode cX11_rows 63 = .ok (.iload 5, 2) := by decide +kernel
theorem dX11_rows_65 : decode cX11_rows 65 = .ok (.iload_n 2, 1) := by decide +kernel
theorem dX11_rows_66 : decode cX11_rows 66 = .ok (.iload_n 3, 1) := by decide +kernel
theorem dX11_rows_67 : decode cX11_rows 67 = .ok (.iload 4, 2) := by decide +kernel
theorem dX11_rows_69 : decode cX11_rows 69 = .ok (.invokestatic 211, 3) := by decide +kernel
theorem dX11_rows_72 : decode cX11_rows 72 = .ok (.invokevirtual 215, 3) := by decide +kernel
theorem dX11_rows_75 : decode cX11_rows 75 = .ok (.iload 6, 2) := by decide +kernel
theorem dX11_rows_77 : decode cX11_rows 77 = .ok (.iconst (-1), 1) := by decide +kernel
theorem dX11_rows_78 : decode cX11_rows 78 = .ok (.if_icmp .ne 11, 3) := by decide +kernel
theorem dX11_rows_81 : decode cX11_rows 81 = .ok (.aload_n 0, 1) := by decide +kernel
theorem dX11_rows_82 : decode cX11_rows 82 = .ok (.getfield 60, 3) := by decide +kernel
theorem dX11_rows_85 : decode cX11_rows 85 = .ok (.getfield 219, 3) := by decide +kernel
theorem dX11_rows_88 : decode cX11_rows 88 = .ok (.ireturn, 1) := by decide +kernel
theorem dX11_rows_89 : decode cX11_rows 89 = .ok (.aload_n 0, 1) := by decide +kernel
theorem dX11_rows_90 : decode cX11_rows 90 = .ok (.getfield 60, 3) := by decide +kernel
theorem dX11_rows_93 : decode cX11_rows 93 = .ok (.getfield 219, 3) := by decide +kernel
theorem dX11_rows_96 : decode cX11_rows 96 = .ok (.ifCond .le 23, 3) := by decide +kernel
theorem dX11_rows_99 : decode cX11_rows 99 = .ok (.iload 6, 2) := by decide +kernel
theorem dX11_rows_101 : decode cX11_rows 101 = .ok (.iload 5, 2) := by decide +kernel
theorem dX11_rows_103 : decode cX11_rows 103 = .ok (.if_icmp .ge 16, 3) := by decide +kernel
theorem dX11_rows_106 : decode cX11_rows 106 = .ok (.aload_n 0, 1) := by decide +kernel
theorem dX11_rows_107 : decode cX11_rows 107 = .ok (.getfield 60, 3) := by decide +kernel
theorem dX11_rows_110 : decode cX11_rows 110 = .ok (.getfield 222, 3) := by decide +kernel
theorem dX11_rows_113 : decode cX11_rows 113 = .ok (.iload 6, 2) := by decide +kernel
theorem dX11_rows_115 : decode cX11_rows 115 = .ok (.iaload, 1) := by decide +kernel
theorem dX11_rows_116 : decode cX11_rows 116 = .ok (.goto 5, 3) := by decide +kernel
theorem dX11_rows_119 : decode cX11_rows 119 = .ok (.bipush (-4), 2) := by decide +kernel
theorem dX11_rows_121 : decode cX11_rows 121 = .ok (.ireturn, 1) := by decide +kernel
theorem dX11_shades_0 : decode cX11_shades 0 = .ok (.aload_n 0, 1) := by decide +kernel
theorem dX11_shades_1 : decode cX11_shades 1 = .ok (.getfield 28, 3) := by decide +kernel
theorem dX11_shades_4 : decode cX11_shades 4 = .ok (.iload_n 1, 1) := by decide +kernel
theorem dX11_shades_5 : decode cX11_shades 5 = .ok (.invokevirtual 110, 3) := by decide +kernel
theorem dX11_shades_8 : decode cX11_shades 8 = .ok (.ifCond .eq 12, 3) := by decide +kernel
theorem dX11_shades_11 : decode cX11_shades 11 = .ok (.iload_n 2, 1) := by decide +kernel
theorem dX11_shades_12 : decode cX11_shades 12 = .ok (.ifCond .lt 8, 3) := by decide +kernel
theorem dX11_shades_15 : decode cX11_shades 15 = .ok (.iload_n 2, 1) := by decide +kernel
theorem dX11_shades_16 : decode cX11_shades 16 = .ok (.iconst 5, 1) := by decide +kernel
theorem dX11_shades_17 : decode cX11_shades 17 = .ok (.if_icmp .le 5, 3) := by decide +kernel
theorem dX11_shades_20 : decode cX11_shades 20 = .ok (.iconst (-1), 1) := by decide +kernel
theorem dX11_shades_21 : decode cX11_shades 21 = .ok (.ireturn, 1) := by decide +kernel
theorem dX11_shades_22 : decode cX11_shades 22 = .ok (.aload_n 0, 1) := by decide +kernel
theorem dX11_shades_23 : decode cX11_shades 23 = .ok (.getfield 60, 3) := by decide +kernel
theorem dX11_shades_26 : decode cX11_shades 26 = .ok (.aload_n 0, 1) := by decide +kernel
theorem dX11_shades_27 : decode cX11_shades 27 = .ok (.getfield 28, 3) := by decide +kernel
theorem dX11_shades_30 : decode cX11_shades 30 = .ok (.iload_n 1, 1) := by decide +kernel
theorem dX11_shades_31 : decode cX11_shades 31 = .ok (.iload_n 2, 1) := by decide +kernel
theorem dX11_shades_32 : decode cX11_shades 32 = .ok (.iconst 0, 1) := by decide +kernel
theorem dX11_shades_33 : decode cX11_shades 33 = .ok (.invokevirtual 215, 3) := by decide +kernel
theorem dX11_shades_36 : decode cX11_shades 36 = .ok (.aload_n 0, 1) := by decide +kernel
theorem dX11_shades_37 : decode cX11_shades 37 = .ok (.getfield 60, 3) := by decide +kernel
theorem dX11_shades_40 : decode cX11_shades 40 = .ok (.getfield 225, 3) := by decide +kernel
theorem dX11_shades_43 : decode cX11_shades 43 = .ok (.ireturn, 1) := by decide +kernel
theorem dX11_cracks_0 : decode cX11_cracks 0 = .ok (.aload_n 0, 1) := by decide +kernel
theorem dX11_cracks_1 : decode cX11_cracks 1 = .ok (.getfield 28, 3) := by decide +kernel
theorem dX11_cracks_4 : decode cX11_cracks 4 = .ok (.iload_n 1, 1) := by decide +kernel
theorem dX11_cracks_5 : decode cX11_cracks 5 = .ok (.invokevirtual 147, 3) := by decide +kernel
theorem dX11_cracks_8 : decode cX11_cracks 8 = .ok (.ifCond .eq 13, 3) := by decide +kernel
theorem dX11_cracks_11 : decode cX11_cracks 11 = .ok (.iload_n 2, 1) := by decide +kernel
theorem dX11_cracks_12 : decode cX11_cracks 12 = .ok (.ifCond .lt 9, 3) := by decide +kernel
theorem dX11_cracks_15 : decode cX11_cracks 15 = .ok (.iload_n 2, 1) := by decide +kernel
theorem dX11_cracks_16 : decode cX11_cracks 16 = .ok (.bipush 8, 2) := by decide +kernel
theorem dX11_cracks_18 : decode cX11_cracks 18 = .ok (.if_icmp .le 5, 3) := by decide +kernel
theorem dX11_cracks_21 : decode cX11_cracks 21 = .ok (.iconst (-1), 1) := by decide +kernel
theorem dX11_cracks_22 : decode cX11_cracks 22 = .ok (.ireturn, 1) := by decide +kernel
theorem dX11_cracks_23 : decode cX11_cracks 23 = .ok (.iload_n 3, 1) := by decide +kernel
theorem dX11_cracks_24 : decode cX11_cracks 24 = .ok (.ifCond .lt 20, 3) := by decide +kernel
theorem dX11_cracks_27 : decode cX11_cracks 27 = .ok (.iload_n 3, 1) := by decide +kernel
theorem dX11_cracks_28 : decode cX11_cracks 28 = .ok (.bipush 10, 2) := by decide +kernel
theorem dX11_cracks_30 : decode cX11_cracks 30 = .ok (.if_icmp .gt 14, 3) := by decide +kernel
theorem dX11_cracks_33 : decode cX11_cracks 33 = .ok (.iload 4, 2) := by decide +kernel
theorem dX11_cracks_35 : decode cX11_cracks 35 = .ok (.ifCond .lt 9, 3) := by decide +kernel
theorem dX11_cracks_38 : decode cX11_cracks 38 = .ok (.iload 4, 2) := by decide +kernel
theorem dX11_cracks_40 : decode cX11_cracks 40 = .ok (.iconst 1, 1) := by decide +kernel
theorem dX11_cracks_41 : decode cX11_cracks 41 = .ok (.if_icmp .le 5, 3) := by decide +kernel
theorem dX11_cracks_44 : decode cX11_cracks 44 = .ok (.iconst (-1), 1) := by decide +kernel
theorem dX11_cracks_45 : decode cX11_cracks 45 = .ok (.ireturn, 1) := by decide +kernel
theorem dX11_cracks_46 : decode cX11_cracks 46 = .ok (.aload_n 0, 1) := by decide +kernel
theorem dX11_cracks_47 : decode cX11_cracks 47 = .ok (.getfield 67, 3) := by decide +kernel
theorem dX11_cracks_50 : decode cX11_cracks 50 = .ok (.aload_n 0, 1) := by decide +kernel
theorem dX11_cracks_51 : decode cX11_cracks 51 = .ok (.getfield 28, 3) := by decide +kernel
theorem dX11_cracks_54 : decode cX11_cracks 54 = .ok (.iload_n 1, 1) := by decide +kernel
theorem dX11_cracks_55 : decode cX11_cracks 55 = .ok (.iload_n 2, 1) := by decide +kernel
theorem dX11_cracks_56 : decode cX11_cracks 56 = .ok (.iload_n 3, 1) := by decide +kernel
theorem dX11_cracks_57 : decode cX11_cracks 57 = .ok (.invokevirtual 228, 3) := by decide +kernel
theorem dX11_cracks_60 : decode cX11_cracks 60 = .ok (.iload 4, 2) := by decide +kernel
theorem dX11_cracks_62 : decode cX11_cracks 62 = .ok (.ifCond .ne 13, 3) := by decide +kernel
theorem dX11_cracks_65 : decode cX11_cracks 65 = .ok (.aload_n 0, 1) := by decide +kernel
theorem dX11_cracks_66 : decode cX11_cracks 66 = .ok (.getfield 67, 3) := by decide +kernel
theorem dX11_cracks_69 : decode cX11_cracks 69 = .ok (.getfield 231, 3) := by decide +kernel
theorem dX11_cracks_72 : decode cX11_cracks 72 = .ok (.goto 10, 3) := by decide +kernel
theorem dX11_cracks_75 : decode cX11_cracks 75 = .ok (.aload_n 0, 1) := by decide +kernel
theorem dX11_cracks_76 : decode cX11_cracks 76 = .ok (.getfield 67, 3) := by decide +kernel
theorem dX11_cracks_79 : decode cX11_cracks 79 = .ok (.getfield 234, 3) := by decide +kernel
theorem dX11_cracks_82 : decode cX11_cracks 82 = .ok (.ireturn, 1) := by decide +kernel
theorem dX11_decades_0 : decode cX11_decades 0 = .ok (.iload_n 1, 1) := by decide +kernel
theorem dX11_decades_1 : decode cX11_decades 1 = .ok (.ifCond .lt 29, 3) := by decide +kernel
theorem dX11_decades_4 : decode cX11_decades 4 = .ok (.iload_n 1, 1) := by decide +kernel
theorem dX11_decades_5 : decode cX11_decades 5 = .ok (.bipush 60, 2) := by decide +kernel
theorem dX11_decades_7 : decode cX11_decades 7 = .ok (.if_icmp .gt 23, 3) := by decide +kernel
theorem dX11_decades_10 : decode cX11_decades 10 = .ok (.iload_n 2, 1) := by decide +kernel
theorem dX11_decades_11 : decode cX11_decades 11 = .ok (.iconst 1, 1) := by decide +kernel
theorem dX11_decades_12 : decode cX11_decades 12 = .ok (.if_icmp .lt 18, 3) := by decide +kernel
theorem dX11_decades_15 : decode cX11_decades 15 = .ok (.iload_n 2, 1) := by decide +kernel
theorem dX11_decades_16 : decode cX11_decades 16 = .ok (.ldc 237, 2) := by decide +kernel
theorem dX11_decades_18 : decode cX11_decades 18 = .ok (.if_icmp .gt 12, 3) := by decide +kernel
theorem dX11_decades_21 : decode cX11_decades 21 = .ok (.iload_n 3, 1) := by decide +kernel
theorem dX11_decades_22 : decode cX11_decades 22 = .ok (.ifCond .lt 8, 3) := by decide +kernel
theorem dX11_decades_25 : decode cX11_decades 25 = .ok (.iload_n 3, 1) := by decide +kernel
theorem dX11_decades_26 : decode cX11_decades 26 = .ok (.iconst 1, 1) := by decide +kernel
theorem dX11_decades_27 : decode cX11_decades 27 = .ok (.if_icmp .le 5, 3) := by decide +kernel
theorem dX11_decades_30 : decode cX11_decades 30 = .ok (.iconst (-1), 1) := by decide +kernel
theorem dX11_decades_31 : decode cX11_decades 31 = .ok (.ireturn, 1) := by decide +kernel
theorem dX11_decades_32 : decode cX11_decades 32 = .ok (.aload_n 0, 1) := by decide +kernel
theorem dX11_decades_33 : decode cX11_decades 33 = .ok (.getfield 28, 3) := by decide +kernel
theorem dX11_decades_36 : decode cX11_decades 36 = .ok (.invokevirtual 192, 3) := by decide +kernel
theorem dX11_decades_39 : decode cX11_decades 39 = .ok (.ifCond .ne 6, 3) := by decide +kernel
theorem dX11_decades_42 : decode cX11_decades 42 = .ok (.bipush (-2), 2) := by decide +kernel
theorem dX11_decades_44 : decode cX11_decades 44 = .ok (.ireturn, 1) := by decide +kernel
theorem dX11_decades_45 : decode cX11_decades 45 = .ok (.aload_n 0, 1) := by decide +kernel
theorem dX11_decades_46 : decode cX11_decades 46 = .ok (.getfield 67, 3) := by decide +kernel
theorem dX11_decades_49 : decode cX11_decades 49 = .ok (.aload_n 0, 1) := by decide +kernel
theorem dX11_decades_50 : decode cX11_decades 50 = .ok (.getfield 28, 3) := by decide +kernel
theorem dX11_decades_53 : decode cX11_decades 53 = .ok (.iload_n 1, 1) := by decide +kernel
theorem dX11_decades_54 : decode cX11_decades 54 = .ok (.iload_n 2, 1) := by decide +kernel
theorem dX11_decades_55 : decode cX11_decades 55 = .ok (.invokevirtual 238, 3) := by decide +kernel
theorem dX11_decades_58 : decode cX11_decades 58 = .ok (.iload_n 3, 1) := by decide +kernel
theorem dX11_decades_59 : decode cX11_decades 59 = .ok (.ifCond .ne 13, 3) := by decide +kernel
theorem dX11_decades_62 : decode cX11_decades 62 = .ok (.aload_n 0, 1) := by decide +kernel
theorem dX11_decades_63 : decode cX11_decades 63 = .ok (.getfield 67, 3) := by decide +kernel
theorem dX11_decades_66 : decode cX11_decades 66 = .ok (.getfield 242, 3) := by decide +kernel
theorem dX11_decades_69 : decode cX11_decades 69 = .ok (.goto 10, 3) := by decide +kernel
theorem dX11_decades_72 : decode cX11_decades 72 = .ok (.aload_n 0, 1) := by decide +kernel
theorem dX11_decades_73 : decode cX11_decades 73 = .ok (.getfield 67, 3) := by decide +kernel
theorem dX11_decades_76 : decode cX11_decades 76 = .ok (.getfield 245, 3) := by decide +kernel
theorem dX11_decades_79 : decode cX11_decades 79 = .ok (.ireturn, 1) := by decide +kernel
theorem dX11_sheet_0 : decode cX11_sheet 0 = .ok (.iload_n 1, 1) := by decide +kernel
theorem dX11_sheet_1 : decode cX11_sheet 1 = .ok (.invokestatic 248, 3) := by decide +kernel
theorem dX11_sheet_4 : decode cX11_sheet 4 = .ok (.ifCond .eq 16, 3) := by decide +kernel
theorem dX11_sheet_7 : decode cX11_sheet 7 = .ok (.iload_n 2, 1) := by decide +kernel
theorem dX11_sheet_8 : decode cX11_sheet 8 = .ok (.invokestatic 251, 3) := by decide +kernel
theorem dX11_sheet_11 : decode cX11_sheet 11 = .ok (.ifCond .eq 9, 3) := by decide +kernel
theorem dX11_sheet_14 : decode cX11_sheet 14 = .ok (.iload_n 3, 1) := by decide +kernel
theorem dX11_sheet_15 : decode cX11_sheet 15 = .ok (.bipush 24, 2) := by decide +kernel
theorem dX11_sheet_17 : decode cX11_sheet 17 = .ok (.if_icmp .le 5, 3) := by decide +kernel
theorem dX11_sheet_20 : decode cX11_sheet 20 = .ok (.iconst (-1), 1) := by decide +kernel
theorem dX11_sheet_21 : decode cX11_sheet 21 = .ok (.ireturn, 1) := by decide +kernel
theorem dX11_sheet_22 : decode cX11_sheet 22 = .ok (.iload_n 3, 1) := by decide +kernel
theorem dX11_sheet_23 : decode cX11_sheet 23 = .ok (.ifCond .ge 6, 3) := by decide +kernel
theorem dX11_sheet_26 : decode cX11_sheet 26 = .ok (.bipush (-14), 2) := by decide +kernel
theorem dX11_sheet_28 : decode cX11_sheet 28 = .ok (.ireturn, 1) := by decide +kernel
theorem dX11_sheet_29 : decode cX11_sheet 29 = .ok (.aload_n 0, 1) := by decide +kernel
theorem dX11_sheet_30 : decode cX11_sheet 30 = .ok (.getfield 45, 3) := by decide +kernel
theorem dX11_sheet_33 : decode cX11_sheet 33 = .ok (.iload_n 1, 1) := by decide +kernel
theorem dX11_sheet_34 : decode cX11_sheet 34 = .ok (.aaload, 1) := by decide +kernel
theorem dX11_sheet_35 : decode cX11_sheet 35 = .ok (.iload_n 2, 1) := by decide +kernel
theorem dX11_sheet_36 : decode cX11_sheet 36 = .ok (.iload_n 3, 1) := by decide +kernel
theorem dX11_sheet_37 : decode cX11_sheet 37 = .ok (.invokevirtual 254, 3) := by decide +kernel
theorem dX11_sheet_40 : decode cX11_sheet 40 = .ok (.iload_n 3, 1) := by decide +kernel
theorem dX11_sheet_41 : decode cX11_sheet 41 = .ok (.ireturn, 1) := by decide +kernel
theorem dX11_drop_0 : decode cX11_drop 0 = .ok (.iload_n 1, 1) := by decide +kernel
theorem dX11_drop_1 : decode cX11_drop 1 = .ok (.invokestatic 248, 3) := by decide +kernel
theorem dX11_drop_4 : decode cX11_drop 4 = .ok (.ifCond .ne 5, 3) := by decide +kernel
theorem dX11_drop_7 : decode cX11_drop 7 = .ok (.iconst (-1), 1) := by decide +kernel
theorem dX11_drop_8 : decode cX11_drop 8 = .ok (.ireturn, 1) := by decide +kernel
theorem dX11_drop_9 : decode cX11_drop 9 = .ok (.aload_n 0, 1) := by decide +kernel
theorem dX11_drop_10 : decode cX11_drop 10 = .ok (.getfield 45, 3) := by decide +kernel
theorem dX11_drop_13 : decode cX11_drop 13 = .ok (.iload_n 1, 1) := by decide +kernel
theorem dX11_drop_14 : decode cX11_drop 14 = .ok (.aaload, 1) := by decide +kernel
theorem dX11_drop_15 : decode cX11_drop 15 = .ok (.invokevirtual 258, 3) := by decide +kernel
theorem dX11_drop_18 : decode cX11_drop 18 = .ok (.ifCond .eq 6, 3) := by decide +kernel
theorem dX11_drop_21 : decode cX11_drop 21 = .ok (.bipush (-11), 2) := by decide +kernel
theorem dX11_drop_23 : decode cX11_drop 23 = .ok (.ireturn, 1) := by decide +kernel
theorem dX11_drop_24 : decode cX11_drop 24 = .ok (.aload_n 0, 1) := by decide +kernel
theorem dX11_drop_25 : decode cX11_drop 25 = .ok (.getfield 45, 3) := by decide +kernel
theorem dX11_drop_28 : decode cX11_drop 28 = .ok (.iload_n 1, 1) := by decide +kernel
theorem dX11_drop_29 : decode cX11_drop 29 = .ok (.aaload, 1) := by decide +kernel
theorem dX11_drop_30 : decode cX11_drop 30 = .ok (.invokevirtual 261, 3) := by decide +kernel
theorem dX11_drop_33 : decode cX11_drop 33 = .ok (.ireturn, 1) := by decide +kernel
theorem dX11_item_0 : decode cX11_item 0 = .ok (.iload_n 1, 1) := by decide +kernel
theorem dX11_item_1 : decode cX11_item 1 = .ok (.invokestatic 248, 3) := by decide +kernel
theorem dX11_item_4 : decode cX11_item 4 = .ok (.ifCond .eq 10, 3) := by decide +kernel
theorem dX11_item_7 : decode cX11_item 7 = .ok (.iload_n 2, 1) := by decide +kernel
theorem dX11_item_8 : decode cX11_item 8 = .ok (.invokestatic 251, 3) := by decide +kernel
theorem dX11_item_11 : decode cX11_item 11 = .ok (.ifCond .ne 7, 3) := by decide +kernel
theorem dX11_item_14 : decode cX11_item 14 = .ok (.ldc2_w 265, 3) := by decide +kernel
theorem dX11_item_17 : decode cX11_item 17 = .ok (.lreturn, 1) := by decide +kernel
theorem dX11_item_18 : decode cX11_item 18 = .ok (.aload_n 0, 1) := by decide +kernel
theorem dX11_item_19 : decode cX11_item 19 = .ok (.getfield 45, 3) := by decide +kernel
theorem dX11_item_22 : decode cX11_item 22 = .ok (.iload_n 1, 1) := by decide +kernel
theorem dX11_item_23 : decode cX11_item 23 = .ok (.aaload, 1) := by decide +kernel
theorem dX11_item_24 : decode cX11_item 24 = .ok (.iload_n 2, 1) := by decide +kernel
theorem dX11_item_25 : decode cX11_item 25 = .ok (.iload_n 3, 1) := by decide +kernel
theorem dX11_item_26 : decode cX11_item 26 = .ok (.iconst 1, 1) := by decide +kernel
theorem dX11_item_27 : decode cX11_item 27 = .ok (.invokevirtual 267, 3) := by decide +kernel
theorem dX11_item_30 : decode cX11_item 30 = .ok (.istore 6, 2) := by decide +kernel
theorem dX11_item_32 : decode cX11_item 32 = .ok (.iload 6, 2) := by decide +kernel
theorem dX11_item_34 : decode cX11_item 34 = .ok (.ifCond .eq 7, 3) := by decide +kernel
theorem dX11_item_37 : decode cX11_item 37 = .ok (.iload 6, 2) := by decide +kernel
theorem dX11_item_39 : decode cX11_item 39 = .ok (.i2l, 1) := by decide +kernel
theorem dX11_item_40 : decode cX11_item 40 = .ok (.lreturn, 1) := by decide +kernel
theorem dX11_item_41 : decode cX11_item 41 = .ok (.aload_n 0, 1) := by decide +kernel
theorem dX11_item_42 : decode cX11_item 42 = .ok (.getfield 45, 3) := by decide +kernel
theorem dX11_item_45 : decode cX11_item 45 = .ok (.iload_n 1, 1) := by decide +kernel
theorem dX11_item_46 : decode cX11_item 46 = .ok (.aaload, 1) := by decide +kernel
theorem dX11_item_47 : decode cX11_item 47 = .ok (.iload_n 3, 1) := by decide +kernel
theorem dX11_item_48 : decode cX11_item 48 = .ok (.lload 4, 2) := by decide +kernel
theorem dX11_item_50 : decode cX11_item 50 = .ok (.invokevirtual 270, 3) := by decide +kernel
theorem dX11_item_53 : decode cX11_item 53 = .ok (.lreturn, 1) := by decide +kernel
theorem dX11_copy_0 : decode cX11_copy 0 = .ok (.iload_n 1, 1) := by decide +kernel
theorem dX11_copy_1 : decode cX11_copy 1 = .ok (.invokestatic 248, 3) := by decide +kernel
theorem dX11_copy_4 : decode cX11_copy 4 = .ok (.ifCond .eq 10, 3) := by decide +kernel
theorem dX11_copy_7 : decode cX11_copy 7 = .ok (.iload_n 3, 1) := by decide +kernel
theorem dX11_copy_8 : decode cX11_copy 8 = .ok (.invokestatic 248, 3) := by decide +kernel
theorem dX11_copy_11 : decode cX11_copy 11 = .ok (.ifCond .ne 5, 3) := by decide +kernel
theorem dX11_copy_14 : decode cX11_copy 14 = .ok (.iconst (-1), 1) := by decide +kernel
theorem dX11_copy_15 : decode cX11_copy 15 = .ok (.ireturn, 1) := by decide +kernel
theorem dX11_copy_16 : decode cX11_copy 16 = .ok (.aload_n 0, 1) := by decide +kernel
theorem dX11_copy_17 : decode cX11_copy 17 = .ok (.getfield 45, 3) := by decide +kernel
theorem dX11_copy_20 : decode cX11_copy 20 = .ok (.iload_n 1, 1) := by decide +kernel
theorem dX11_copy_21 : decode cX11_copy 21 = .ok (.aaload, 1) := by decide +kernel
theorem dX11_copy_22 : decode cX11_copy 22 = .ok (.astore 6, 2) := by decide +kernel
theorem dX11_copy_24 : decode cX11_copy 24 = .ok (.aload_n 0, 1) := by decide +kernel
theorem dX11_copy_25 : decode cX11_copy 25 = .ok (.getfield 45, 3) := by decide +kernel
theorem dX11_copy_28 : decode cX11_copy 28 = .ok (.iload_n 3, 1) := by decide +kernel
theorem dX11_copy_29 : decode cX11_copy 29 = .ok (.aaload, 1) := by decide +kernel
theorem dX11_copy_30 : decode cX11_copy 30 = .ok (.astore 7, 2) := by decide +kernel
theorem dX11_copy_32 : decode cX11_copy 32 = .ok (.aload 6, 2) := by decide +kernel
theorem dX11_copy_34 : decode cX11_copy 34 = .ok (.invokevirtual 258, 3) := by decide +kernel
theorem dX11_copy_37 : decode cX11_copy 37 = .ok (.ifCond .ne 11, 3) := by decide +kernel
theorem dX11_copy_40 : decode cX11_copy 40 = .ok (.aload 7, 2) := by decide +kernel
theorem dX11_copy_42 : decode cX11_copy 42 = .ok (.invokevirtual 258, 3) := by decide +kernel
theorem dX11_copy_45 : decode cX11_copy 45 = .ok (.ifCond .eq 6, 3) := by decide +kernel
theorem dX11_copy_48 : decode cX11_copy 48 = .ok (.bipush (-11), 2) := by decide +kernel
theorem dX11_copy_50 : decode cX11_copy 50 = .ok (.ireturn, 1) := by decide +kernel
theorem dX11_copy_51 : decode cX11_copy 51 = .ok (.aload 6, 2) := by decide +kernel
theorem dX11_copy_53 : decode cX11_copy 53 = .ok (.getfield 273, 3) := by decide +kernel
theorem dX11_copy_56 : decode cX11_copy 56 = .ok (.aload 7, 2) := by decide +kernel
theorem dX11_copy_58 : decode cX11_copy 58 = .ok (.getfield 273, 3) := by decide +kernel
theorem dX11_copy_61 : decode cX11_copy 61 = .ok (.if_icmp .eq 6, 3) := by decide +kernel
theorem dX11_copy_64 : decode cX11_copy 64 = .ok (.bipush (-12), 2) := by decide +kernel
theorem dX11_copy_66 : decode cX11_copy 66 = .ok (.ireturn, 1) := by decide +kernel
theorem dX11_copy_67 : decode cX11_copy 67 = .ok (.aload 6, 2) := by decide +kernel
theorem dX11_copy_69 : decode cX11_copy 69 = .ok (.iload_n 2, 1) := by decide +kernel
theorem dX11_copy_70 : decode cX11_copy 70 = .ok (.iload 5, 2) := by decide +kernel
theorem dX11_copy_72 : decode cX11_copy 72 = .ok (.invokevirtual 276, 3) := by decide +kernel
theorem dX11_copy_75 : decode cX11_copy 75 = .ok (.ifCond .eq 15, 3) := by decide +kernel
theorem dX11_copy_78 : decode cX11_copy 78 = .ok (.aload 7, 2) := by decide +kernel
theorem dX11_copy_80 : decode cX11_copy 80 = .ok (.iload 4, 2) := by decide +kernel
theorem dX11_copy_82 : decode cX11_copy 82 = .ok (.iload 5, 2) := by decide +kernel
theorem dX11_copy_84 : decode cX11_copy 84 = .ok (.invokevirtual 276, 3) := by decide +kernel
theorem dX11_copy_87 : decode cX11_copy 87 = .ok (.ifCond .ne 6, 3) := by decide +kernel
theorem dX11_copy_90 : decode cX11_copy 90 = .ok (.bipush (-13), 2) := by decide +kernel
theorem dX11_copy_92 : decode cX11_copy 92 = .ok (.ireturn, 1) := by decide +kernel
theorem dX11_copy_93 : decode cX11_copy 93 = .ok (.aload 6, 2) := by decide +kernel
theorem dX11_copy_95 : decode cX11_copy 95 = .ok (.getfield 279, 3) := by decide +kernel
theorem dX11_copy_98 : decode cX11_copy 98 = .ok (.iload_n 2, 1) := by decide +kernel
theorem dX11_copy_99 : decode cX11_copy 99 = .ok (.aload 7, 2) := by decide +kernel
theorem dX11_copy_101 : decode cX11_copy 101 = .ok (.getfield 279, 3) := by decide +kernel
theorem dX11_copy_104 : decode cX11_copy 104 = .ok (.iload 4, 2) := by decide +kernel
theorem dX11_copy_106 : decode cX11_copy 106 = .ok (.iload 5, 2) := by decide +kernel
theorem dX11_copy_108 : decode cX11_copy 108 = .ok (.invokestatic 283, 3) := by decide +kernel
theorem dX11_copy_111 : decode cX11_copy 111 = .ok (.iload 5, 2) := by decide +kernel
theorem dX11_copy_113 : decode cX11_copy 113 = .ok (.ireturn, 1) := by decide +kernel
theorem dX11_log_0 : decode cX11_log 0 = .ok (.aload_n 0, 1) := by decide +kernel
theorem dX11_log_1 : decode cX11_log 1 = .ok (.getfield 28, 3) := by decide +kernel
theorem dX11_log_4 : decode cX11_log 4 = .ok (.invokevirtual 192, 3) := by decide +kernel
theorem dX11_log_7 : decode cX11_log 7 = .ok (.ifCond .eq 17, 3) := by decide +kernel
theorem dX11_log_10 : decode cX11_log 10 = .ok (.iload_n 1, 1) := by decide +kernel
theorem dX11_log_11 : decode cX11_log 11 = .ok (.invokestatic 248, 3) := by decide +kernel
theorem dX11_log_14 : decode cX11_log 14 = .ok (.ifCond .eq 10, 3) := by decide +kernel
theorem dX11_log_17 : decode cX11_log 17 = .ok (.iload_n 2, 1) := by decide +kernel
theorem dX11_log_18 : decode cX11_log 18 = .ok (.invokestatic 251, 3) := by decide +kernel
theorem dX11_log_21 : decode cX11_log 21 = .ok (.ifCond .ne 5, 3) := by decide +kernel
theorem dX11_log_24 : decode cX11_log 24 = .ok (.iconst (-1), 1) := by decide +kernel
theorem dX11_log_25 : decode cX11_log 25 = .ok (.ireturn, 1) := by decide +kernel
theorem dX11_log_26 : decode cX11_log 26 = .ok (.aload_n 0, 1) := by decide +kernel
theorem dX11_log_27 : decode cX11_log 27 = .ok (.getfield 45, 3) := by decide +kernel
theorem dX11_log_30 : decode cX11_log 30 = .ok (.iload_n 1, 1) := by decide +kernel
theorem dX11_log_31 : decode cX11_log 31 = .ok (.aaload, 1) := by decide +kernel
theorem dX11_log_32 : decode cX11_log 32 = .ok (.iload_n 2, 1) := by decide +kernel
theorem dX11_log_33 : decode cX11_log 33 = .ok (.iload_n 3, 1) := by decide +kernel
theorem dX11_log_34 : decode cX11_log 34 = .ok (.aload_n 0, 1) := by decide +kernel
theorem dX11_log_35 : decode cX11_log 35 = .ok (.getfield 28, 3) := by decide +kernel
theorem dX11_log_38 : decode cX11_log 38 = .ok (.getfield 107, 3) := by decide +kernel
theorem dX11_log_41 : decode cX11_log 41 = .ok (.invokevirtual 267, 3) := by decide +kernel
theorem dX11_log_44 : decode cX11_log 44 = .ok (.istore 4, 2) := by decide +kernel
theorem dX11_log_46 : decode cX11_log 46 = .ok (.iload 4, 2) := by decide +kernel
theorem dX11_log_48 : decode cX11_log 48 = .ok (.ifCond .eq 6, 3) := by decide +kernel
theorem dX11_log_51 : decode cX11_log 51 = .ok (.iload 4, 2) := by decide +kernel
theorem dX11_log_53 : decode cX11_log 53 = .ok (.ireturn, 1) := by decide +kernel
theorem dX11_log_54 : decode cX11_log 54 = .ok (.iconst 0, 1) := by decide +kernel
theorem dX11_log_55 : decode cX11_log 55 = .ok (.istore 5, 2) := by decide +kernel
theorem dX11_log_57 : decode cX11_log 57 = .ok (.iload 5, 2) := by decide +kernel
theorem dX11_log_59 : decode cX11_log 59 = .ok (.aload_n 0, 1) := by decide +kernel
theorem dX11_log_60 : decode cX11_log 60 = .ok (.getfield 28, 3) := by decide +kernel
theorem dX11_log_63 : decode cX11_log 63 = .ok (.getfield 107, 3) := by decide +kernel
theorem dX11_log_66 : decode cX11_log 66 = .ok (.if_icmp .ge 37, 3) := by decide +kernel
theorem dX11_log_69 : decode cX11_log 69 = .ok (.aload_n 0, 1) := by decide +kernel
theorem dX11_log_70 : decode cX11_log 70 = .ok (.getfield 45, 3) := by decide +kernel
theorem dX11_log_73 : decode cX11_log 73 = .ok (.iload_n 1, 1) := by decide +kernel
theorem dX11_log_74 : decode cX11_log 74 = .ok (.aaload, 1) := by decide +kernel
theorem dX11_log_75 : decode cX11_log 75 = .ok (.iload_n 3, 1) := by decide +kernel
theorem dX11_log_76 : decode cX11_log 76 = .ok (.iload 5, 2) := by decide +kernel
theorem dX11_log_78 : decode cX11_log 78 = .ok (.iadd, 1) := by decide +kernel
theorem dX11_log_79 : decode cX11_log 79 = .ok (.aload_n 0, 1) := by decide +kernel
theorem dX11_log_80 : decode cX11_log 80 = .ok (.getfield 28, 3) := by decide +kernel
theorem dX11_log_83 : decode cX11_log 83 = .ok (.getfield 113, 3) := by decide +kernel
theorem dX11_log_86 : decode cX11_log 86 = .ok (.iload 5, 2) := by decide +kernel
theorem dX11_log_88 : decode cX11_log 88 = .ok (.iaload, 1) := by decide +kernel
theorem dX11_log_89 : decode cX11_log 89 = .ok (.invokestatic 128, 3) := by decide +kernel
theorem dX11_log_92 : decode cX11_log 92 = .ok (.i2l, 1) := by decide +kernel
theorem dX11_log_93 : decode cX11_log 93 = .ok (.invokevirtual 270, 3) := by decide +kernel
theorem dX11_log_96 : decode cX11_log 96 = .ok (.pop2, 1) := by decide +kernel
theorem dX11_log_97 : decode cX11_log 97 = .ok (.iinc 5 1, 3) := by decide +kernel
theorem dX11_log_100 : decode cX11_log 100 = .ok (.goto (-43), 3) := by decide +kernel
theorem dX11_log_103 : decode cX11_log 103 = .ok (.aload_n 0, 1) := by decide +kernel
theorem dX11_log_104 : decode cX11_log 104 = .ok (.getfield 28, 3) := by decide +kernel
theorem dX11_log_107 : decode cX11_log 107 = .ok (.getfield 107, 3) := by decide +kernel
theorem dX11_log_110 : decode cX11_log 110 = .ok (.ireturn, 1) := by decide +kernel
theorem dX11_ahead_0 : decode cX11_ahead 0 = .ok (.aload_n 0, 1) := by decide +kernel
theorem dX11_ahead_1 : decode cX11_ahead 1 = .ok (.getfield 28, 3) := by decide +kernel
theorem dX11_ahead_4 : decode cX11_ahead 4 = .ok (.iload_n 1, 1) := by decide +kernel
theorem dX11_ahead_5 : decode cX11_ahead 5 = .ok (.invokevirtual 110, 3) := by decide +kernel
theorem dX11_ahead_8 : decode cX11_ahead 8 = .ok (.ifCond .eq 19, 3) := by decide +kernel
theorem dX11_ahead_11 : decode cX11_ahead 11 = .ok (.iload 5, 2) := by decide +kernel
theorem dX11_ahead_13 : decode cX11_ahead 13 = .ok (.ifCond .lt 14, 3) := by decide +kernel
theorem dX11_ahead_16 : decode cX11_ahead 16 = .ok (.iload 6, 2) := by decide +kernel
theorem dX11_ahead_18 : decode cX11_ahead 18 = .ok (.ifCond .lt 9, 3) := by decide +kernel
theorem dX11_ahead_21 : decode cX11_ahead 21 = .ok (.iload 6, 2) := by decide +kernel
theorem dX11_ahead_23 : decode cX11_ahead 23 = .ok (.iconst 2, 1) := by decide +kernel
theorem dX11_ahead_24 : decode cX11_ahead 24 = .ok (.if_icmp .le 5, 3) := by decide +kernel
theorem dX11_ahead_27 : decode cX11_ahead 27 = .ok (.iconst (-1), 1) := by decide +kernel
theorem dX11_ahead_28 : decode cX11_ahead 28 = .ok (.ireturn, 1) := by decide +kernel
theorem dX11_ahead_29 : decode cX11_ahead 29 = .ok (.aload_n 0, 1) := by decide +kernel
theorem dX11_ahead_30 : decode cX11_ahead 30 = .ok (.iload_n 2, 1) := by decide +kernel
theorem dX11_ahead_31 : decode cX11_ahead 31 = .ok (.iload_n 3, 1) := by decide +kernel
theorem dX11_ahead_32 : decode cX11_ahead 32 = .ok (.iload 4, 2) := by decide +kernel
theorem dX11_ahead_34 : decode cX11_ahead 34 = .ok (.iload 5, 2) := by decide +kernel
theorem dX11_ahead_36 : decode cX11_ahead 36 = .ok (.invokevirtual 289, 3) := by decide +kernel
theorem dX11_ahead_39 : decode cX11_ahead 39 = .ok (.istore 7, 2) := by decide +kernel
theorem dX11_ahead_41 : decode cX11_ahead 41 = .ok (.iload 7, 2) := by decide +kernel
theorem dX11_ahead_43 : decode cX11_ahead 43 = .ok (.ifCond .eq 6, 3) := by decide +kernel
theorem dX11_ahead_46 : decode cX11_ahead 46 = .ok (.iload 7, 2) := by decide +kernel
theorem dX11_ahead_48 : decode cX11_ahead 48 = .ok (.ireturn, 1) := by decide +kernel
theorem dX11_ahead_49 : decode cX11_ahead 49 = .ok (.aload_n 0, 1) := by decide +kernel
theorem dX11_ahead_50 : decode cX11_ahead 50 = .ok (.getfield 28, 3) := by decide +kernel
theorem dX11_ahead_53 : decode cX11_ahead 53 = .ok (.iload_n 1, 1) := by decide +kernel
theorem dX11_ahead_54 : decode cX11_ahead 54 = .ok (.aload_n 0, 1) := by decide +kernel
theorem dX11_ahead_55 : decode cX11_ahead 55 = .ok (.getfield 28, 3) := by decide +kernel
theorem dX11_ahead_58 : decode cX11_ahead 58 = .ok (.getfield 113, 3) := by decide +kernel
theorem dX11_ahead_61 : decode cX11_ahead 61 = .ok (.iload_n 1, 1) := by decide +kernel
theorem dX11_ahead_62 : decode cX11_ahead 62 = .ok (.iaload, 1) := by decide +kernel
theorem dX11_ahead_63 : decode cX11_ahead 63 = .ok (.aload_n 0, 1) := by decide +kernel
theorem dX11_ahead_64 : decode cX11_ahead 64 = .ok (.getfield 78, 3) := by decide +kernel
theorem dX11_ahead_67 : decode cX11_ahead 67 = .ok (.iload 5, 2) := by decide +kernel
theorem dX11_ahead_69 : decode cX11_ahead 69 = .ok (.invokevirtual 292, 3) := by decide +kernel
theorem dX11_ahead_72 : decode cX11_ahead 72 = .ok (.istore 8, 2) := by decide +kernel
theorem dX11_ahead_74 : decode cX11_ahead 74 = .ok (.iload 6, 2) := by decide +kernel
theorem dX11_ahead_76 : decode cX11_ahead 76 = .ok (.lookupswitch 40 #[(0, 28), (1, 34)], 28) := by decide +kernel
theorem dX11_ahead_104 : decode cX11_ahead 104 = .ok (.iload 8, 2) := by decide +kernel
theorem dX11_ahead_106 : decode cX11_ahead 106 = .ok (.invokestatic 128, 3) := by decide +kernel
theorem dX11_ahead_109 : decode cX11_ahead 109 = .ok (.ireturn, 1) := by decide +kernel
theorem dX11_ahead_110 : decode cX11_ahead 110 = .ok (.iload 8, 2) := by decide +kernel
theorem dX11_ahead_112 : decode cX11_ahead 112 = .ok (.invokestatic 131, 3) := by decide +kernel
theorem dX11_ahead_115 : decode cX11_ahead 115 = .ok (.ireturn, 1) := by decide +kernel
theorem dX11_ahead_116 : decode cX11_ahead 116 = .ok (.iload 8, 2) := by decide +kernel
theorem dX11_ahead_118 : decode cX11_ahead 118 = .ok (.invokestatic 122, 3) := by decide +kernel
theorem dX11_ahead_121 : decode cX11_ahead 121 = .ok (.ireturn, 1) := by decide +kernel
theorem dX11_round_0 : decode cX11_round 0 = .ok (.aload_n 0, 1) := by decide +kernel
theorem dX11_round_1 : decode cX11_round 1 = .ok (.getfield 28, 3) := by decide +kernel
theorem dX11_round_4 : decode cX11_round 4 = .ok (.invokevirtual 192, 3) := by decide +kernel
theorem dX11_round_7 : decode cX11_round 7 = .ok (.ifCond .eq 20, 3) := by decide +kernel
theorem dX11_round_10 : decode cX11_round 10 = .ok (.iload 4, 2) := by decide +kernel
theorem dX11_round_12 : decode cX11_round 12 = .ok (.iconst 1, 1) := by decide +kernel
theorem dX11_round_13 : decode cX11_round 13 = .ok (.if_icmp .lt 14, 3) := by decide +kernel
theorem dX11_round_16 : decode cX11_round 16 = .ok (.iload 5, 2) := by decide +kernel
theorem dX11_round_18 : decode cX11_round 18 = .ok (.ifCond .lt 9, 3) := by decide +kernel
theorem dX11_round_21 : decode cX11_round 21 = .ok (.iload 5, 2) := by decide +kernel
theorem dX11_round_23 : decode cX11_round 23 = .ok (.iconst 1, 1) := by decide +kernel
theorem dX11_round_24 : decode cX11_round 24 = .ok (.if_icmp .le 5, 3) := by decide +kernel
theorem dX11_round_27 : decode cX11_round 27 = .ok (.iconst (-1), 1) := by decide +kernel
theorem dX11_round_28 : decode cX11_round 28 = .ok (.ireturn, 1) := by decide +kernel
theorem dX11_round_29 : decode cX11_round 29 = .ok (.aload_n 0, 1) := by decide +kernel
theorem dX11_round_30 : decode cX11_round 30 = .ok (.iload_n 1, 1) := by decide +kernel
theorem dX11_round_31 : decode cX11_round 31 = .ok (.iload_n 2, 1) := by decide +kernel
theorem dX11_round_32 : decode cX11_round 32 = .ok (.iload_n 3, 1) := by decide +kernel
theorem dX11_round_33 : decode cX11_round 33 = .ok (.iload 4, 2) := by decide +kernel
theorem dX11_round_35 : decode cX11_round 35 = .ok (.invokevirtual 289, 3) := by decide +kernel
theorem dX11_round_38 : decode cX11_round 38 = .ok (.istore 6, 2) := by decide +kernel
theorem dX11_round_40 : decode cX11_round 40 = .ok (.iload 6, 2) := by decide +kernel
theorem dX11_round_42 : decode cX11_round 42 = .ok (.ifCond .eq 6, 3) := by decide +kernel
theorem dX11_round_45 : decode cX11_round 45 = .ok (.iload 6, 2) := by decide +kernel
theorem dX11_round_47 : decode cX11_round 47 = .ok (.ireturn, 1) := by decide +kernel
theorem dX11_round_48 : decode cX11_round 48 = .ok (.aload_n 0, 1) := by decide +kernel
theorem dX11_round_49 : decode cX11_round 49 = .ok (.getfield 74, 3) := by decide +kernel
theorem dX11_round_52 : decode cX11_round 52 = .ok (.aload_n 0, 1) := by decide +kernel
theorem dX11_round_53 : decode cX11_round 53 = .ok (.getfield 28, 3) := by decide +kernel
theorem dX11_round_56 : decode cX11_round 56 = .ok (.aload_n 0, 1) := by decide +kernel
theorem dX11_round_57 : decode cX11_round 57 = .ok (.getfield 78, 3) := by decide +kernel
theorem dX11_round_60 : decode cX11_round 60 = .ok (.iload 4, 2) := by decide +kernel
theorem dX11_round_62 : decode cX11_round 62 = .ok (.invokevirtual 296, 3) := by decide +kernel
theorem dX11_round_65 : decode cX11_round 65 = .ok (.iload 5, 2) := by decide +kernel
theorem dX11_round_67 : decode cX11_round 67 = .ok (.ifCond .ne 13, 3) := by decide +kernel
theorem dX11_round_70 : decode cX11_round 70 = .ok (.aload_n 0, 1) := by decide +kernel
theorem dX11_round_71 : decode cX11_round 71 = .ok (.getfield 74, 3) := by decide +kernel
theorem dX11_round_74 : decode cX11_round 74 = .ok (.getfield 300, 3) := by decide +kernel
theorem dX11_round_77 : decode cX11_round 77 = .ok (.goto 10, 3) := by decide +kernel
theorem dX11_round_80 : decode cX11_round 80 = .ok (.aload_n 0, 1) := by decide +kernel
theorem dX11_round_81 : decode cX11_round 81 = .ok (.getfield 74, 3) := by decide +kernel
theorem dX11_round_84 : decode cX11_round 84 = .ok (.getfield 303, 3) := by decide +kernel
theorem dX11_round_87 : decode cX11_round 87 = .ok (.ireturn, 1) := by decide +kernel
theorem dX11_kinds_0 : decode cX11_kinds 0 = .ok (.iload_n 1, 1) := by decide +kernel
theorem dX11_kinds_1 : decode cX11_kinds 1 = .ok (.invokestatic 248, 3) := by decide +kernel
theorem dX11_kinds_4 : decode cX11_kinds 4 = .ok (.ifCond .eq 23, 3) := by decide +kernel
theorem dX11_kinds_7 : decode cX11_kinds 7 = .ok (.iload_n 2, 1) := by decide +kernel
theorem dX11_kinds_8 : decode cX11_kinds 8 = .ok (.invokestatic 251, 3) := by decide +kernel
theorem dX11_kinds_11 : decode cX11_kinds 11 = .ok (.ifCond .eq 16, 3) := by decide +kernel
theorem dX11_kinds_14 : decode cX11_kinds 14 = .ok (.iload 4, 2) := by decide +kernel
theorem dX11_kinds_16 : decode cX11_kinds 16 = .ok (.iconst 1, 1) := by decide +kernel
theorem dX11_kinds_17 : decode cX11_kinds 17 = .ok (.if_icmp .lt 10, 3) := by decide +kernel
theorem dX11_kinds_20 : decode cX11_kinds 20 = .ok (.iload 4, 2) := by decide +kernel
theorem dX11_kinds_22 : decode cX11_kinds 22 = .ok (.bipush 7, 2) := by decide +kernel
theorem dX11_kinds_24 : decode cX11_kinds 24 = .ok (.if_icmp .le 5, 3) := by decide +kernel
theorem dX11_kinds_27 : decode cX11_kinds 27 = .ok (.iconst (-1), 1) := by decide +kernel
theorem dX11_kinds_28 : decode cX11_kinds 28 = .ok (.ireturn, 1) := by decide +kernel
theorem dX11_kinds_29 : decode cX11_kinds 29 = .ok (.iload 5, 2) := by decide +kernel
theorem dX11_kinds_31 : decode cX11_kinds 31 = .ok (.iconst (-1), 1) := by decide +kernel
theorem dX11_kinds_32 : decode cX11_kinds 32 = .ok (.if_icmp .lt 10, 3) := by decide +kernel
theorem dX11_kinds_35 : decode cX11_kinds 35 = .ok (.iload 5, 2) := by decide +kernel
theorem dX11_kinds_37 : decode cX11_kinds 37 = .ok (.bipush 9, 2) := by decide +kernel
theorem dX11_kinds_39 : decode cX11_kinds 39 = .ok (.if_icmp .le 5, 3) := by decide +kernel
theorem dX11_kinds_42 : decode cX11_kinds 42 = .ok (.iconst (-1), 1) := by decide +kernel
theorem dX11_kinds_43 : decode cX11_kinds 43 = .ok (.ireturn, 1) := by decide +kernel
theorem dX11_kinds_44 : decode cX11_kinds 44 = .ok (.aload_n 0, 1) := by decide +kernel
theorem dX11_kinds_45 : decode cX11_kinds 45 = .ok (.getfield 45, 3) := by decide +kernel
theorem dX11_kinds_48 : decode cX11_kinds 48 = .ok (.iload_n 1, 1) := by decide +kernel
theorem dX11_kinds_49 : decode cX11_kinds 49 = .ok (.aaload, 1) := by decide +kernel
theorem dX11_kinds_50 : decode cX11_kinds 50 = .ok (.iload_n 2, 1) := by decide +kernel
theorem dX11_kinds_51 : decode cX11_kinds 51 = .ok (.iload_n 3, 1) := by decide +kernel
theorem dX11_kinds_52 : decode cX11_kinds 52 = .ok (.iload 4, 2) := by decide +kernel
theorem dX11_kinds_54 : decode cX11_kinds 54 = .ok (.iconst 3, 1) := by decide +kernel
theorem dX11_kinds_55 : decode cX11_kinds 55 = .ok (.imul, 1) := by decide +kernel
theorem dX11_kinds_56 : decode cX11_kinds 56 = .ok (.invokevirtual 267, 3) := by decide +kernel
theorem dX11_kinds_59 : decode cX11_kinds 59 = .ok (.istore 6, 2) := by decide +kernel
theorem dX11_kinds_61 : decode cX11_kinds 61 = .ok (.iload 6, 2) := by decide +kernel
theorem dX11_kinds_63 : decode cX11_kinds 63 = .ok (.ifCond .eq 6, 3) := by decide +kernel
theorem dX11_kinds_66 : decode cX11_kinds 66 = .ok (.iload 6, 2) := by decide +kernel
theorem dX11_kinds_68 : decode cX11_kinds 68 = .ok (.ireturn, 1) := by decide +kernel
theorem dX11_kinds_69 : decode cX11_kinds 69 = .ok (.aload_n 0, 1) := by decide +kernel
theorem dX11_kinds_70 : decode cX11_kinds 70 = .ok (.getfield 45, 3) := by decide +kernel
theorem dX11_kinds_73 : decode cX11_kinds 73 = .ok (.iload_n 1, 1) := by decide +kernel
theorem dX11_kinds_74 : decode cX11_kinds 74 = .ok (.aaload, 1) := by decide +kernel
theorem dX11_kinds_75 : decode cX11_kinds 75 = .ok (.iload_n 3, 1) := by decide +kernel
theorem dX11_kinds_76 : decode cX11_kinds 76 = .ok (.iload 4, 2) := by decide +kernel
theorem dX11_kinds_78 : decode cX11_kinds 78 = .ok (.invokestatic 306, 3) := by decide +kernel
theorem dX11_kinds_81 : decode cX11_kinds 81 = .ok (.ifCond .ne 6, 3) := by decide +kernel
theorem dX11_kinds_84 : decode cX11_kinds 84 = .ok (.bipush (-2), 2) := by decide +kernel
theorem dX11_kinds_86 : decode cX11_kinds 86 = .ok (.ireturn, 1) := by decide +kernel
theorem dX11_kinds_87 : decode cX11_kinds 87 = .ok (.aload_n 0, 1) := by decide +kernel
theorem dX11_kinds_88 : decode cX11_kinds 88 = .ok (.getfield 45, 3) := by decide +kernel
theorem dX11_kinds_91 : decode cX11_kinds 91 = .ok (.iload_n 1, 1) := by decide +kernel
theorem dX11_kinds_92 : decode cX11_kinds 92 = .ok (.aaload, 1) := by decide +kernel
theorem dX11_kinds_93 : decode cX11_kinds 93 = .ok (.iload_n 3, 1) := by decide +kernel
theorem dX11_kinds_94 : decode cX11_kinds 94 = .ok (.iload 4, 2) := by decide +kernel
theorem dX11_kinds_96 : decode cX11_kinds 96 = .ok (.invokestatic 310, 3) := by decide +kernel
theorem dX11_kinds_99 : decode cX11_kinds 99 = .ok (.istore 7, 2) := by decide +kernel
theorem dX11_kinds_101 : decode cX11_kinds 101 = .ok (.iload 5, 2) := by decide +kernel
theorem dX11_kinds_103 : decode cX11_kinds 103 = .ok (.iconst (-1), 1) := by decide +kernel
theorem dX11_kinds_104 : decode cX11_kinds 104 = .ok (.if_icmp .ne 6, 3) := by decide +kernel
theorem dX11_kinds_107 : decode cX11_kinds 107 = .ok (.iload 7, 2) := by decide +kernel
theorem dX11_kinds_109 : decode cX11_kinds 109 = .ok (.ireturn, 1) := by decide +kernel
theorem dX11_kinds_110 : decode cX11_kinds 110 = .ok (.iload 7, 2) := by decide +kernel
theorem dX11_kinds_112 : decode cX11_kinds 112 = .ok (.ifCond .ne 8, 3) := by decide +kernel
theorem dX11_kinds_115 : decode cX11_kinds 115 = .ok (.bipush (-4), 2) := by decide +kernel
theorem dX11_kinds_117 : decode cX11_kinds 117 = .ok (.goto 10, 3) := by decide +kernel
theorem dX11_kinds_120 : decode cX11_kinds 120 = .ok (.iload 7, 2) := by decide +kernel
theorem dX11_kinds_122 : decode cX11_kinds 122 = .ok (.iload 5, 2) := by decide +kernel
theorem dX11_kinds_124 : decode cX11_kinds 124 = .ok (.invokestatic 314, 3) := by decide +kernel
theorem dX11_kinds_127 : decode cX11_kinds 127 = .ok (.ireturn, 1) := by decide +kernel
theorem dX11_wishes_0 : decode cX11_wishes 0 = .ok (.aload_n 0, 1) := by decide +kernel
theorem dX11_wishes_1 : decode cX11_wishes 1 = .ok (.getfield 28, 3) := by decide +kernel
theorem dX11_wishes_4 : decode cX11_wishes 4 = .ok (.invokevirtual 192, 3) := by decide +kernel
theorem dX11_wishes_7 : decode cX11_wishes 7 = .ok (.ifCond .eq 17, 3) := by decide +kernel
theorem dX11_wishes_10 : decode cX11_wishes 10 = .ok (.iload_n 1, 1) := by decide +kernel
theorem dX11_wishes_11 : decode cX11_wishes 11 = .ok (.invokestatic 248, 3) := by decide +kernel
theorem dX11_wishes_14 : decode cX11_wishes 14 = .ok (.ifCond .eq 10, 3) := by decide +kernel
theorem dX11_wishes_17 : decode cX11_wishes 17 = .ok (.iload_n 2, 1) := by decide +kernel
theorem dX11_wishes_18 : decode cX11_wishes 18 = .ok (.invokestatic 251, 3) := by decide +kernel
theorem dX11_wishes_21 : decode cX11_wishes 21 = .ok (.ifCond .ne 5, 3) := by decide +kernel
theorem dX11_wishes_24 : decode cX11_wishes 24 = .ok (.iconst (-1), 1) := by decide +kernel
theorem dX11_wishes_25 : decode cX11_wishes 25 = .ok (.ireturn, 1) := by decide +kernel
theorem dX11_wishes_26 : decode cX11_wishes 26 = .ok (.aload_n 0, 1) := by decide +kernel
theorem dX11_wishes_27 : decode cX11_wishes 27 = .ok (.getfield 45, 3) := by decide +kernel
theorem dX11_wishes_30 : decode cX11_wishes 30 = .ok (.iload_n 1, 1) := by decide +kernel
theorem dX11_wishes_31 : decode cX11_wishes 31 = .ok (.aaload, 1) := by decide +kernel
theorem dX11_wishes_32 : decode cX11_wishes 32 = .ok (.iload_n 2, 1) := by decide +kernel
theorem dX11_wishes_33 : decode cX11_wishes 33 = .ok (.iload_n 3, 1) := by decide +kernel
theorem dX11_wishes_34 : decode cX11_wishes 34 = .ok (.aload_n 0, 1) := by decide +kernel
theorem dX11_wishes_35 : decode cX11_wishes 35 = .ok (.getfield 28, 3) := by decide +kernel
theorem dX11_wishes_38 : decode cX11_wishes 38 = .ok (.getfield 107, 3) := by decide +kernel
theorem dX11_wishes_41 : decode cX11_wishes 41 = .ok (.invokevirtual 267, 3) := by decide +kernel
theorem dX11_wishes_44 : decode cX11_wishes 44 = .ok (.istore 4, 2) := by decide +kernel
theorem dX11_wishes_46 : decode cX11_wishes 46 = .ok (.iload 4, 2) := by decide +kernel
theorem dX11_wishes_48 : decode cX11_wishes 48 = .ok (.ifCond .eq 6, 3) := by decide +kernel
theorem dX11_wishes_51 : decode cX11_wishes 51 = .ok (.iload 4, 2) := by decide +kernel
theorem dX11_wishes_53 : decode cX11_wishes 53 = .ok (.ireturn, 1) := by decide +kernel
theorem dX11_wishes_54 : decode cX11_wishes 54 = .ok (.iconst 0, 1) := by decide +kernel
theorem dX11_wishes_55 : decode cX11_wishes 55 = .ok (.istore 5, 2) := by decide +kernel
theorem dX11_wishes_57 : decode cX11_wishes 57 = .ok (.iconst 0, 1) := by decide +kernel
theorem dX11_wishes_58 : decode cX11_wishes 58 = .ok (.istore 6, 2) := by decide +kernel
theorem dX11_wishes_60 : decode cX11_wishes 60 = .ok (.iload 6, 2) := by decide +kernel
theorem dX11_wishes_62 : decode cX11_wishes 62 = .ok (.aload_n 0, 1) := by decide +kernel
theorem dX11_wishes_63 : decode cX11_wishes 63 = .ok (.getfield 28, 3) := by decide +kernel
theorem dX11_wishes_66 : decode cX11_wishes 66 = .ok (.getfield 107, 3) := by decide +kernel
theorem dX11_wishes_69 : decode cX11_wishes 69 = .ok (.if_icmp .ge 50, 3) := by decide +kernel
theorem dX11_wishes_72 : decode cX11_wishes 72 = .ok (.aload_n 0, 1) := by decide +kernel
theorem dX11_wishes_73 : decode cX11_wishes 73 = .ok (.getfield 45, 3) := by decide +kernel
theorem dX11_wishes_76 : decode cX11_wishes 76 = .ok (.iload_n 1, 1) := by decide +kernel
theorem dX11_wishes_77 : decode cX11_wishes 77 = .ok (.aaload, 1) := by decide +kernel
theorem dX11_wishes_78 : decode cX11_wishes 78 = .ok (.getfield 279, 3) := by decide +kernel
theorem dX11_wishes_81 : decode cX11_wishes 81 = .ok (.iload_n 3, 1) := by decide +kernel
theorem dX11_wishes_82 : decode cX11_wishes 82 = .ok (.iload 6, 2) := by decide +kernel
theorem dX11_wishes_84 : decode cX11_wishes 84 = .ok (.iadd, 1) := by decide +kernel
theorem dX11_wishes_85 : decode cX11_wishes 85 = .ok (.laload, 1) := by decide +kernel
theorem dX11_wishes_86 : decode cX11_wishes 86 = .ok (.aload_n 0, 1) := by decide +kernel
theorem dX11_wishes_87 : decode cX11_wishes 87 = .ok (.getfield 28, 3) := by decide +kernel
theorem dX11_wishes_90 : decode cX11_wishes 90 = .ok (.getfield 113, 3) := by decide +kernel
theorem dX11_wishes_93 : decode cX11_wishes 93 = .ok (.iload 6, 2) := by decide +kernel
theorem dX11_wishes_95 : decode cX11_wishes 95 = .ok (.iaload, 1) := by decide +kernel
theorem dX11_wishes_96 : decode cX11_wishes 96 = .ok (.invokestatic 128, 3) := by decide +kernel
theorem dX11_wishes_99 : decode cX11_wishes 99 = .ok (.i2l, 1) := by decide +kernel
theorem dX11_wishes_100 : decode cX11_wishes 100 = .ok (.lcmp, 1) := by decide +kernel
theorem dX11_wishes_101 : decode cX11_wishes 101 = .ok (.ifCond .ne 12, 3) := by decide +kernel
theorem dX11_wishes_104 : decode cX11_wishes 104 = .ok (.iload 5, 2) := by decide +kernel
theorem dX11_wishes_106 : decode cX11_wishes 106 = .ok (.iconst 1, 1) := by decide +kernel
theorem dX11_wishes_107 : decode cX11_wishes 107 = .ok (.iload 6, 2) := by decide +kernel
theorem dX11_wishes_109 : decode cX11_wishes 109 = .ok (.ishl, 1) := by decide +kernel
theorem dX11_wishes_110 : decode cX11_wishes 110 = .ok (.ior, 1) := by decide +kernel
theorem dX11_wishes_111 : decode cX11_wishes 111 = .ok (.istore 5, 2) := by decide +kernel
theorem dX11_wishes_113 : decode cX11_wishes 113 = .ok (.iinc 6 1, 3) := by decide +kernel
theorem dX11_wishes_116 : decode cX11_wishes 116 = .ok (.goto (-56), 3) := by decide +kernel
theorem dX11_wishes_119 : decode cX11_wishes 119 = .ok (.iload 5, 2) := by decide +kernel
theorem dX11_wishes_121 : decode cX11_wishes 121 = .ok (.ireturn, 1) := by decide +kernel
theorem dX11_count_0 : decode cX11_count 0 = .ok (.iload_n 1, 1) := by decide +kernel
theorem dX11_count_1 : decode cX11_count 1 = .ok (.tableswitch 137 0 8 #[51, 59, 67, 75, 83, 98, 106, 121, 129], 51) := by decide +kernel
theorem dX11_count_52 : decode cX11_count 52 = .ok (.aload_n 0, 1) := by decide +kernel
theorem dX11_count_53 : decode cX11_count 53 = .ok (.getfield 28, 3) := by decide +kernel
theorem dX11_count_56 : decode cX11_count 56 = .ok (.getfield 107, 3) := by decide +kernel
theorem dX11_count_59 : decode cX11_count 59 = .ok (.ireturn, 1) := by decide +kernel
theorem dX11_count_60 : decode cX11_count 60 = .ok (.aload_n 0, 1) := by decide +kernel
theorem dX11_count_61 : decode cX11_count 61 = .ok (.getfield 28, 3) := by decide +kernel
theorem dX11_count_64 : decode cX11_count 64 = .ok (.getfield 317, 3) := by decide +kernel
theorem dX11_count_67 : decode cX11_count 67 = .ok (.ireturn, 1) := by decide +kernel
theorem dX11_count_68 : decode cX11_count 68 = .ok (.aload_n 0, 1) := by decide +kernel
theorem dX11_count_69 : decode cX11_count 69 = .ok (.getfield 28, 3) := by decide +kernel
theorem dX11_count_72 : decode cX11_count 72 = .ok (.getfield 320, 3) := by decide +kernel
theorem dX11_count_75 : decode cX11_count 75 = .ok (.ireturn, 1) := by decide +kernel
theorem dX11_count_76 : decode cX11_count 76 = .ok (.aload_n 0, 1) := by decide +kernel
theorem dX11_count_77 : decode cX11_count 77 = .ok (.getfield 28, 3) := by decide +kernel
theorem dX11_count_80 : decode cX11_count 80 = .ok (.getfield 170, 3) := by decide +kernel
theorem dX11_count_83 : decode cX11_count 83 = .ok (.ireturn, 1) := by decide +kernel
theorem dX11_count_84 : decode cX11_count 84 = .ok (.aload_n 0, 1) := by decide +kernel
theorem dX11_count_85 : decode cX11_count 85 = .ok (.getfield 28, 3) := by decide +kernel
theorem dX11_count_88 : decode cX11_count 88 = .ok (.aload_n 0, 1) := by decide +kernel
theorem dX11_count_89 : decode cX11_count 89 = .ok (.getfield 28, 3) := by decide +kernel
theorem dX11_count_92 : decode cX11_count 92 = .ok (.getfield 113, 3) := by decide +kernel
theorem dX11_count_95 : decode cX11_count 95 = .ok (.invokevirtual 181, 3) := by decide +kernel
theorem dX11_count_98 : decode cX11_count 98 = .ok (.ireturn, 1) := by decide +kernel
theorem dX11_count_99 : decode cX11_count 99 = .ok (.aload_n 0, 1) := by decide +kernel
theorem dX11_count_100 : decode cX11_count 100 = .ok (.getfield 28, 3) := by decide +kernel
theorem dX11_count_103 : decode cX11_count 103 = .ok (.invokevirtual 323, 3) := by decide +kernel
theorem dX11_count_106 : decode cX11_count 106 = .ok (.ireturn, 1) := by decide +kernel
theorem dX11_count_107 : decode cX11_count 107 = .ok (.aload_n 0, 1) := by decide +kernel
theorem dX11_count_108 : decode cX11_count 108 = .ok (.getfield 28, 3) := by decide +kernel
theorem dX11_count_111 : decode cX11_count 111 = .ok (.aload_n 0, 1) := by decide +kernel
theorem dX11_count_112 : decode cX11_count 112 = .ok (.getfield 28, 3) := by decide +kernel
theorem dX11_count_115 : decode cX11_count 115 = .ok (.getfield 113, 3) := by decide +kernel
theorem dX11_count_118 : decode cX11_count 118 = .ok (.invokevirtual 326, 3) := by decide +kernel
theorem dX11_count_121 : decode cX11_count 121 = .ok (.ireturn, 1) := by decide +kernel
theorem dX11_count_122 : decode cX11_count 122 = .ok (.aload_n 0, 1) := by decide +kernel
theorem dX11_count_123 : decode cX11_count 123 = .ok (.getfield 35, 3) := by decide +kernel
theorem dX11_count_126 : decode cX11_count 126 = .ok (.getfield 189, 3) := by decide +kernel
theorem dX11_count_129 : decode cX11_count 129 = .ok (.ireturn, 1) := by decide +kernel
theorem dX11_count_130 : decode cX11_count 130 = .ok (.aload_n 0, 1) := by decide +kernel
theorem dX11_count_131 : decode cX11_count 131 = .ok (.getfield 10, 3) := by decide +kernel
theorem dX11_count_134 : decode cX11_count 134 = .ok (.getfield 86, 3) := by decide +kernel
theorem dX11_count_137 : decode cX11_count 137 = .ok (.ireturn, 1) := by decide +kernel
theorem dX11_count_138 : decode cX11_count 138 = .ok (.iconst (-1), 1) := by decide +kernel
theorem dX11_count_139 : decode cX11_count 139 = .ok (.ireturn, 1) := by decide +kernel
theorem dX11_isSheet_0 : decode cX11_isSheet 0 = .ok (.iload_n 0, 1) := by decide +kernel
theorem dX11_isSheet_1 : decode cX11_isSheet 1 = .ok (.ifCond .lt 12, 3) := by decide +kernel
theorem dX11_isSheet_4 : decode cX11_isSheet 4 = .ok (.iload_n 0, 1) := by decide +kernel
theorem dX11_isSheet_5 : decode cX11_isSheet 5 = .ok (.iconst 4, 1) := by decide +kernel
theorem dX11_isSheet_6 : decode cX11_isSheet 6 = .ok (.if_icmp .ge 7, 3) := by decide +kernel
theorem dX11_isSheet_9 : decode cX11_isSheet 9 = .ok (.iconst 1, 1) := by decide +kernel
theorem dX11_isSheet_10 : decode cX11_isSheet 10 = .ok (.goto 4, 3) := by decide +kernel
theorem dX11_isSheet_13 : decode cX11_isSheet 13 = .ok (.iconst 0, 1) := by decide +kernel
theorem dX11_isSheet_14 : decode cX11_isSheet 14 = .ok (.ireturn, 1) := by decide +kernel
theorem dX11_takeDoings_0 : decode cX11_takeDoings 0 = .ok (.iload_n 1, 1) := by decide +kernel
theorem dX11_takeDoings_1 : decode cX11_takeDoings 1 = .ok (.invokestatic 248, 3) := by decide +kernel
theorem dX11_takeDoings_4 : decode cX11_takeDoings 4 = .ok (.ifCond .eq 17, 3) := by decide +kernel
theorem dX11_takeDoings_7 : decode cX11_takeDoings 7 = .ok (.iload_n 2, 1) := by decide +kernel
theorem dX11_takeDoings_8 : decode cX11_takeDoings 8 = .ok (.invokestatic 251, 3) := by decide +kernel
theorem dX11_takeDoings_11 : decode cX11_takeDoings 11 = .ok (.ifCond .eq 10, 3) := by decide +kernel
theorem dX11_takeDoings_14 : decode cX11_takeDoings 14 = .ok (.iload 4, 2) := by decide +kernel
theorem dX11_takeDoings_16 : decode cX11_takeDoings 16 = .ok (.bipush 20, 2) := by decide +kernel
theorem dX11_takeDoings_18 : decode cX11_takeDoings 18 = .ok (.if_icmp .le 5, 3) := by decide +kernel
theorem dX11_takeDoings_21 : decode cX11_takeDoings 21 = .ok (.iconst (-1), 1) := by decide +kernel
theorem dX11_takeDoings_22 : decode cX11_takeDoings 22 = .ok (.ireturn, 1) := by decide +kernel
theorem dX11_takeDoings_23 : decode cX11_takeDoings 23 = .ok (.aload_n 0, 1) := by decide +kernel
theorem dX11_takeDoings_24 : decode cX11_takeDoings 24 = .ok (.getfield 45, 3) := by decide +kernel
theorem dX11_takeDoings_27 : decode cX11_takeDoings 27 = .ok (.iload_n 1, 1) := by decide +kernel
theorem dX11_takeDoings_28 : decode cX11_takeDoings 28 = .ok (.aaload, 1) := by decide +kernel
theorem dX11_takeDoings_29 : decode cX11_takeDoings 29 = .ok (.iload_n 2, 1) := by decide +kernel
theorem dX11_takeDoings_30 : decode cX11_takeDoings 30 = .ok (.iload_n 3, 1) := by decide +kernel
theorem dX11_takeDoings_31 : decode cX11_takeDoings 31 = .ok (.iload 4, 2) := by decide +kernel
theorem dX11_takeDoings_33 : decode cX11_takeDoings 33 = .ok (.invokevirtual 267, 3) := by decide +kernel
theorem dX11_takeDoings_36 : decode cX11_takeDoings 36 = .ok (.istore 5, 2) := by decide +kernel
theorem dX11_takeDoings_38 : decode cX11_takeDoings 38 = .ok (.iload 5, 2) := by decide +kernel
theorem dX11_takeDoings_40 : decode cX11_takeDoings 40 = .ok (.ifCond .eq 6, 3) := by decide +kernel
theorem dX11_takeDoings_43 : decode cX11_takeDoings 43 = .ok (.iload 5, 2) := by decide +kernel
theorem dX11_takeDoings_45 : decode cX11_takeDoings 45 = .ok (.ireturn, 1) := by decide +kernel
theorem dX11_takeDoings_46 : decode cX11_takeDoings 46 = .ok (.iconst 0, 1) := by decide +kernel
theorem dX11_takeDoings_47 : decode cX11_takeDoings 47 = .ok (.istore 6, 2) := by decide +kernel
theorem dX11_takeDoings_49 : decode cX11_takeDoings 49 = .ok (.iload 6, 2) := by decide +kernel
theorem dX11_takeDoings_51 : decode cX11_takeDoings 51 = .ok (.iload 4, 2) := by decide +kernel
theorem dX11_takeDoings_53 : decode cX11_takeDoings 53 = .ok (.if_icmp .ge 50, 3) := by decide +kernel
theorem dX11_takeDoings_56 : decode cX11_takeDoings 56 = .ok (.aload_n 0, 1) := by decide +kernel
theorem dX11_takeDoings_57 : decode cX11_takeDoings 57 = .ok (.getfield 45, 3) := by decide +kernel
theorem dX11_takeDoings_60 : decode cX11_takeDoings 60 = .ok (.iload_n 1, 1) := by decide +kernel
theorem dX11_takeDoings_61 : decode cX11_takeDoings 61 = .ok (.aaload, 1) := by decide +kernel
theorem dX11_takeDoings_62 : decode cX11_takeDoings 62 = .ok (.getfield 279, 3) := by decide +kernel
theorem dX11_takeDoings_65 : decode cX11_takeDoings 65 = .ok (.iload_n 3, 1) := by decide +kernel
theorem dX11_takeDoings_66 : decode cX11_takeDoings 66 = .ok (.iload 6, 2) := by decide +kernel
theorem dX11_takeDoings_68 : decode cX11_takeDoings 68 = .ok (.iadd, 1) := by decide +kernel
theorem dX11_takeDoings_69 : decode cX11_takeDoings 69 = .ok (.laload, 1) := by decide +kernel
theorem dX11_takeDoings_70 : decode cX11_takeDoings 70 = .ok (.lstore 7, 2) := by decide +kernel
theorem dX11_takeDoings_72 : decode cX11_takeDoings 72 = .ok (.aload_n 0, 1) := by decide +kernel
theorem dX11_takeDoings_73 : decode cX11_takeDoings 73 = .ok (.getfield 28, 3) := by decide +kernel
theorem dX11_takeDoings_76 : decode cX11_takeDoings 76 = .ok (.lload 7, 2) := by decide +kernel
theorem dX11_takeDoings_78 : decode cX11_takeDoings 78 = .ok (.invokevirtual 166, 3) := by decide +kernel
theorem dX11_takeDoings_81 : decode cX11_takeDoings 81 = .ok (.ifCond .ne 6, 3) := by decide +kernel
theorem dX11_takeDoings_84 : decode cX11_takeDoings 84 = .ok (.bipush (-2), 2) := by decide +kernel
theorem dX11_takeDoings_86 : decode cX11_takeDoings 86 = .ok (.ireturn, 1) := by decide +kernel
theorem dX11_takeDoings_87 : decode cX11_takeDoings 87 = .ok (.aload_n 0, 1) := by decide +kernel
theorem dX11_takeDoings_88 : decode cX11_takeDoings 88 = .ok (.getfield 78, 3) := by decide +kernel
theorem dX11_takeDoings_91 : decode cX11_takeDoings 91 = .ok (.iload 6, 2) := by decide +kernel
theorem dX11_takeDoings_93 : decode cX11_takeDoings 93 = .ok (.lload 7, 2) := by decide +kernel
theorem dX11_takeDoings_95 : decode cX11_takeDoings 95 = .ok (.l2i, 1) := by decide +kernel
theorem dX11_takeDoings_96 : decode cX11_takeDoings 96 = .ok (.iastore, 1) := by decide +kernel
theorem dX11_takeDoings_97 : decode cX11_takeDoings 97 = .ok (.iinc 6 1, 3) := by decide +kernel
theorem dX11_takeDoings_100 : decode cX11_takeDoings 100 = .ok (.goto (-51), 3) := by decide +kernel
theorem dX11_takeDoings_103 : decode cX11_takeDoings 103 = .ok (.iconst 0, 1) := by decide +kernel
theorem dX11_takeDoings_104 : decode cX11_takeDoings 104 = .ok (.ireturn, 1) := by decide +kernel
theorem dX11_areTriples_0 : decode cX11_areTriples 0 = .ok (.iconst 0, 1) := by decide +kernel
theorem dX11_areTriples_1 : decode cX11_areTriples 1 = .ok (.istore_n 3, 1) := by decide +kernel
theorem dX11_areTriples_2 : decode cX11_areTriples 2 = .ok (.iload_n 3, 1) := by decide +kernel
theorem dX11_areTriples_3 : decode cX11_areTriples 3 = .ok (.iload_n 2, 1) := by decide +kernel
theorem dX11_areTriples_4 : decode cX11_areTriples 4 = .ok (.if_icmp .ge 69, 3) := by decide +kernel
theorem dX11_areTriples_7 : decode cX11_areTriples 7 = .ok (.aload_n 0, 1) := by decide +kernel
theorem dX11_areTriples_8 : decode cX11_areTriples 8 = .ok (.getfield 279, 3) := by decide +kernel
theorem dX11_areTriples_11 : decode cX11_areTriples 11 = .ok (.iload_n 1, 1) := by decide +kernel
theorem dX11_areTriples_12 : decode cX11_areTriples 12 = .ok (.iload_n 3, 1) := by decide +kernel
theorem dX11_areTriples_13 : decode cX11_areTriples 13 = .ok (.iconst 3, 1) := by decide +kernel
theorem dX11_areTriples_14 : decode cX11_areTriples 14 = .ok (.imul, 1) := by decide +kernel
theorem dX11_areTriples_15 : decode cX11_areTriples 15 = .ok (.iadd, 1) := by decide +kernel
theorem dX11_areTriples_16 : decode cX11_areTriples 16 = .ok (.laload, 1) := by decide +kernel
theorem dX11_areTriples_17 : decode cX11_areTriples 17 = .ok (.lstore 4, 2) := by decide +kernel
theorem dX11_areTriples_19 : decode cX11_areTriples 19 = .ok (.aload_n 0, 1) := by decide +kernel
theorem dX11_areTriples_20 : decode cX11_areTriples 20 = .ok (.getfield 279, 3) := by decide +kernel
theorem dX11_areTriples_23 : decode cX11_areTriples 23 = .ok (.iload_n 1, 1) := by decide +kernel
theorem dX11_areTriples_24 : decode cX11_areTriples 24 = .ok (.iload_n 3, 1) := by decide +kernel
theorem dX11_areTriples_25 : decode cX11_areTriples 25 = .ok (.iconst 3, 1) := by decide +kernel
theorem dX11_areTriples_26 : decode cX11_areTriples 26 = .ok (.imul, 1) := by decide +kernel
theorem dX11_areTriples_27 : decode cX11_areTriples 27 = .ok (.iadd, 1) := by decide +kernel
theorem dX11_areTriples_28 : decode cX11_areTriples 28 = .ok (.iconst 1, 1) := by decide +kernel
theorem dX11_areTriples_29 : decode cX11_areTriples 29 = .ok (.iadd, 1) := by decide +kernel
theorem dX11_areTriples_30 : decode cX11_areTriples 30 = .ok (.laload, 1) := by decide +kernel
theorem dX11_areTriples_31 : decode cX11_areTriples 31 = .ok (.lstore 6, 2) := by decide +kernel
theorem dX11_areTriples_33 : decode cX11_areTriples 33 = .ok (.lload 4, 2) := by decide +kernel
theorem dX11_areTriples_35 : decode cX11_areTriples 35 = .ok (.lconst 0, 1) := by decide +kernel
theorem dX11_areTriples_36 : decode cX11_areTriples 36 = .ok (.lcmp, 1) := by decide +kernel
theorem dX11_areTriples_37 : decode cX11_areTriples 37 = .ok (.ifCond .lt 28, 3) := by decide +kernel
theorem dX11_areTriples_40 : decode cX11_areTriples 40 = .ok (.lload 4, 2) := by decide +kernel
theorem dX11_areTriples_42 : decode cX11_areTriples 42 = .ok (.ldc2_w 329, 3) := by decide +kernel
theorem dX11_areTriples_45 : decode cX11_areTriples 45 = .ok (.lcmp, 1) := by decide +kernel
theorem dX11_areTriples_46 : decode cX11_areTriples 46 = .ok (.ifCond .gt 19, 3) := by decide +kernel
theorem dX11_areTriples_49 : decode cX11_areTriples 49 = .ok (.lload 6, 2) := by decide +kernel
theorem dX11_areTriples_51 : decode cX11_areTriples 51 = .ok (.lconst 0, 1) := by decide +kernel
theorem dX11_areTriples_52 : decode cX11_areTriples 52 = .ok (.lcmp, 1) := by decide +kernel
theorem dX11_areTriples_53 : decode cX11_areTriples 53 = .ok (.ifCond .lt 12, 3) := by decide +kernel
theorem dX11_areTriples_56 : decode cX11_areTriples 56 = .ok (.lload 6, 2) := by decide +kernel
theorem dX11_areTriples_58 : decode cX11_areTriples 58 = .ok (.ldc2_w 331, 3) := by decide +kernel
theorem dX11_areTriples_61 : decode cX11_areTriples 61 = .ok (.lcmp, 1) := by decide +kernel
theorem dX11_areTriples_62 : decode cX11_areTriples 62 = .ok (.ifCond .le 5, 3) := by decide +kernel
theorem dX11_areTriples_65 : decode cX11_areTriples 65 = .ok (.iconst 0, 1) := by decide +kernel
theorem dX11_areTriples_66 : decode cX11_areTriples 66 = .ok (.ireturn, 1) := by decide +kernel
theorem dX11_areTriples_67 : decode cX11_areTriples 67 = .ok (.iinc 3 1, 3) := by decide +kernel
theorem dX11_areTriples_70 : decode cX11_areTriples 70 = .ok (.goto (-68), 3) := by decide +kernel
theorem dX11_areTriples_73 : decode cX11_areTriples 73 = .ok (.iconst 1, 1) := by decide +kernel
theorem dX11_areTriples_74 : decode cX11_areTriples 74 = .ok (.ireturn, 1) := by decide +kernel
theorem dX11_kindsByTriples_0 : decode cX11_kindsByTriples 0 = .ok (.bipush 62, 2) := by decide +kernel
theorem dX11_kindsByTriples_2 : decode cX11_kindsByTriples 2 = .ok (.istore_n 3, 1) := by decide +kernel
theorem dX11_kindsByTriples_3 : decode cX11_kindsByTriples 3 = .ok (.iconst 0, 1) := by decide +kernel
theorem dX11_kindsByTriples_4 : decode cX11_kindsByTriples 4 = .ok (.istore 4, 2) := by decide +kernel
theorem dX11_kindsByTriples_6 : decode cX11_kindsByTriples 6 = .ok (.iload 4, 2) := by decide +kernel
theorem dX11_kindsByTriples_8 : decode cX11_kindsByTriples 8 = .ok (.iload_n 2, 1) := by decide +kernel
theorem dX11_kindsByTriples_9 : decode cX11_kindsByTriples 9 = .ok (.if_icmp .ge 49, 3) := by decide +kernel
theorem dX11_kindsByTriples_12 : decode cX11_kindsByTriples 12 = .ok (.iload_n 1, 1) := by decide +kernel
theorem dX11_kindsByTriples_13 : decode cX11_kindsByTriples 13 = .ok (.iload 4, 2) := by decide +kernel
theorem dX11_kindsByTriples_15 : decode cX11_kindsByTriples 15 = .ok (.iconst 3, 1) := by decide +kernel
theorem dX11_kindsByTriples_16 : decode cX11_kindsByTriples 16 = .ok (.imul, 1) := by decide +kernel
theorem dX11_kindsByTriples_17 : decode cX11_kindsByTriples 17 = .ok (.iadd, 1) := by decide +kernel
theorem dX11_kindsByTriples_18 : decode cX11_kindsByTriples 18 = .ok (.istore 5, 2) := by decide +kernel
theorem dX11_kindsByTriples_20 : decode cX11_kindsByTriples 20 = .ok (.iload_n 3, 1) := by decide +kernel
theorem dX11_kindsByTriples_21 : decode cX11_kindsByTriples 21 = .ok (.aload_n 0, 1) := by decide +kernel
theorem dX11_kindsByTriples_22 : decode cX11_kindsByTriples 22 = .ok (.getfield 279, 3) := by decide +kernel
theorem dX11_kindsByTriples_25 : decode cX11_kindsByTriples 25 = .ok (.iload 5, 2) := by decide +kernel
theorem dX11_kindsByTriples_27 : decode cX11_kindsByTriples 27 = .ok (.laload, 1) := by decide +kernel
theorem dX11_kindsByTriples_28 : decode cX11_kindsByTriples 28 = .ok (.l2i, 1) := by decide +kernel
theorem dX11_kindsByTriples_29 : decode cX11_kindsByTriples 29 = .ok (.aload_n 0, 1) := by decide +kernel
theorem dX11_kindsByTriples_30 : decode cX11_kindsByTriples 30 = .ok (.getfield 279, 3) := by decide +kernel
theorem dX11_kindsByTriples_33 : decode cX11_kindsByTriples 33 = .ok (.iload 5, 2) := by decide +kernel
theorem dX11_kindsByTriples_35 : decode cX11_kindsByTriples 35 = .ok (.iconst 1, 1) := by decide +kernel
theorem dX11_kindsByTriples_36 : decode cX11_kindsByTriples 36 = .ok (.iadd, 1) := by decide +kernel
theorem dX11_kindsByTriples_37 : decode cX11_kindsByTriples 37 = .ok (.laload, 1) := by decide +kernel
theorem dX11_kindsByTriples_38 : decode cX11_kindsByTriples 38 = .ok (.l2i, 1) := by decide +kernel
theorem dX11_kindsByTriples_39 : decode cX11_kindsByTriples 39 = .ok (.aload_n 0, 1) := by decide +kernel
theorem dX11_kindsByTriples_40 : decode cX11_kindsByTriples 40 = .ok (.getfield 279, 3) := by decide +kernel
theorem dX11_kindsByTriples_43 : decode cX11_kindsByTriples 43 = .ok (.iload 5, 2) := by decide +kernel
theorem dX11_kindsByTriples_45 : decode cX11_kindsByTriples 45 = .ok (.iconst 2, 1) := by decide +kernel
theorem dX11_kindsByTriples_46 : decode cX11_kindsByTriples 46 = .ok (.iadd, 1) := by decide +kernel
theorem dX11_kindsByTriples_47 : decode cX11_kindsByTriples 47 = .ok (.laload, 1) := by decide +kernel
theorem dX11_kindsByTriples_48 : decode cX11_kindsByTriples 48 = .ok (.invokestatic 333, 3) := by decide +kernel
theorem dX11_kindsByTriples_51 : decode cX11_kindsByTriples 51 = .ok (.istore_n 3, 1) := by decide +kernel
theorem dX11_kindsByTriples_52 : decode cX11_kindsByTriples 52 = .ok (.iinc 4 1, 3) := by decide +kernel
theorem dX11_kindsByTriples_55 : decode cX11_kindsByTriples 55 = .ok (.goto (-49), 3) := by decide +kernel
theorem dX11_kindsByTriples_58 : decode cX11_kindsByTriples 58 = .ok (.iload_n 3, 1) := by decide +kernel
theorem dX11_kindsByTriples_59 : decode cX11_kindsByTriples 59 = .ok (.ireturn, 1) := by decide +kernel
theorem dX12_init_0 : decode cX12_init 0 = .ok (.aload_n 0, 1) := by decide +kernel
theorem dX12_init_1 : decode cX12_init 1 = .ok (.invokespecial 1, 3) := by decide +kernel
theorem dX12_init_4 : decode cX12_init 4 = .ok (.aload_n 0, 1) := by decide +kernel
theorem dX12_init_5 : decode cX12_init 5 = .ok (.bipush 26, 2) := by decide +kernel
theorem dX12_init_7 : decode cX12_init 7 = .ok (.newarray .int, 2) := by decide +kernel
theorem dX12_init_9 : decode cX12_init 9 = .ok (.putfield 7, 3) := by decide +kernel
theorem dX12_init_12 : decode cX12_init 12 = .ok (.aload_n 0, 1) := by decide +kernel
theorem dX12_init_13 : decode cX12_init 13 = .ok (.bipush 26, 2) := by decide +kernel
theorem dX12_init_15 : decode cX12_init 15 = .ok (.newarray .int, 2) := by decide +kernel
theorem dX12_init_17 : decode cX12_init 17 = .ok (.putfield 13, 3) := by decide +kernel
theorem dX12_init_20 : decode cX12_init 20 = .ok (.aload_n 0, 1) := by decide +kernel
theorem dX12_init_21 : decode cX12_init 21 = .ok (.bipush 8, 2) := by decide +kernel
theorem dX12_init_23 : decode cX12_init 23 = .ok (.newarray .int, 2) := by decide +kernel
theorem dX12_init_25 : decode cX12_init 25 = .ok (.putfield 16, 3) := by decide +kernel
theorem dX12_init_28 : decode cX12_init 28 = .ok (.aload_n 0, 1) := by decide +kernel
theorem dX12_init_29 : decode cX12_init 29 = .ok (.bipush 40, 2) := by decide +kernel
theorem dX12_init_31 : decode cX12_init 31 = .ok (.newarray .int, 2) := by decide +kernel
theorem dX12_init_33 : decode cX12_init 33 = .ok (.putfield 19, 3) := by decide +kernel
theorem dX12_init_36 : decode cX12_init 36 = .ok (.aload_n 0, 1) := by decide +kernel
theorem dX12_init_37 : decode cX12_init 37 = .ok (.bipush 40, 2) := by decide +kernel
theorem dX12_init_39 : decode cX12_init 39 = .ok (.newarray .int, 2) := by decide +kernel
theorem dX12_init_41 : decode cX12_init 41 = .ok (.putfield 22, 3) := by decide +kernel
theorem dX12_init_44 : decode cX12_init 44 = .ok (.aload_n 0, 1) := by decide +kernel
theorem dX12_init_45 : decode cX12_init 45 = .ok (.sipush 768, 3) := by decide +kernel
theorem dX12_init_48 : decode cX12_init 48 = .ok (.newarray .int, 2) := by decide +kernel
theorem dX12_init_50 : decode cX12_init 50 = .ok (.putfield 25, 3) := by decide +kernel
theorem dX12_init_53 : decode cX12_init 53 = .ok (.aload_n 0, 1) := by decide +kernel
theorem dX12_init_54 : decode cX12_init 54 = .ok (.sipush 134, 3) := by decide +kernel
theorem dX12_init_57 : decode cX12_init 57 = .ok (.newarray .int, 2) := by decide +kernel
theorem dX12_init_59 : decode cX12_init 59 = .ok (.putfield 28, 3) := by decide +kernel
theorem dX12_init_62 : decode cX12_init 62 = .ok (.aload_n 0, 1) := by decide +kernel
theorem dX12_init_63 : decode cX12_init 63 = .ok (.iconst 2, 1) := by decide +kernel
theorem dX12_init_64 : decode cX12_init 64 = .ok (.newarray .boolean, 2) := by decide +kernel
theorem dX12_init_66 : decode cX12_init 66 = .ok (.putfield 31, 3) := by decide +kernel
theorem dX12_init_69 : decode cX12_init 69 = .ok (.aload_n 0, 1) := by decide +kernel
theorem dX12_init_70 : decode cX12_init 70 = .ok (.bipush 80, 2) := by decide +kernel
theorem dX12_init_72 : decode cX12_init 72 = .ok (.newarray .int, 2) := by decide +kernel
theorem dX12_init_74 : decode cX12_init 74 = .ok (.putfield 35, 3) := by decide +kernel
theorem dX12_init_77 : decode cX12_init 77 = .ok (.aload_n 0, 1) := by decide +kernel
theorem dX12_init_78 : decode cX12_init 78 = .ok (.iconst 4, 1) := by decide +kernel
theorem dX12_init_79 : decode cX12_init 79 = .ok (.newarray .int, 2) := by decide +kernel
theorem dX12_init_81 : decode cX12_init 81 = .ok (.putfield 38, 3) := by decide +kernel
theorem dX12_init_84 : decode cX12_init 84 = .ok (.aload_n 0, 1) := by decide +kernel
theorem dX12_init_85 : decode cX12_init 85 = .ok (.iconst 4, 1) := by decide +kernel
theorem dX12_init_86 : decode cX12_init 86 = .ok (.newarray .int, 2) := by decide +kernel
theorem dX12_init_88 : decode cX12_init 88 = .ok (.putfield 41, 3) := by decide +kernel
theorem dX12_init_91 : decode cX12_init 91 = .ok (.aload_n 0, 1) := by decide +kernel
theorem dX12_init_92 : decode cX12_init 92 = .ok (.bipush 96, 2) := by decide +kernel
theorem dX12_init_94 : decode cX12_init 94 = .ok (.newarray .long, 2) := by decide +kernel
theorem dX12_init_96 : decode cX12_init 96 = .ok (.putfield 44, 3) := by decide +kernel
theorem dX12_init_99 : decode cX12_init 99 = .ok (.aload_n 0, 1) := by decide +kernel
theorem dX12_init_100 : decode cX12_init 100 = .ok (.sipush 1000, 3) := by decide +kernel
theorem dX12_init_103 : decode cX12_init 103 = .ok (.newarray .boolean, 2) := by decide +kernel
theorem dX12_init_105 : decode cX12_init 105 = .ok (.putfield 48, 3) := by decide +kernel
theorem dX12_init_108 : decode cX12_init 108 = .ok (.aload_n 0, 1) := by decide +kernel
theorem dX12_init_109 : decode cX12_init 109 = .ok (.bipush 10, 2) := by decide +kernel
theorem dX12_init_111 : decode cX12_init 111 = .ok (.newarray .long, 2) := by decide +kernel
theorem dX12_init_113 : decode cX12_init 113 = .ok (.putfield 51, 3) := by decide +kernel
theorem dX12_init_116 : decode cX12_init 116 = .ok (.aload_n 0, 1) := by decide +kernel
theorem dX12_init_117 : decode cX12_init 117 = .ok (.sipush 4000, 3) := by decide +kernel
theorem dX12_init_120 : decode cX12_init 120 = .ok (.newarray .int, 2) := by decide +kernel
theorem dX12_init_122 : decode cX12_init 122 = .ok (.putfield 54, 3) := by decide +kernel
theorem dX12_init_125 : decode cX12_init 125 = .ok (.iconst 0, 1) := by decide +kernel
theorem dX12_init_126 : decode cX12_init 126 = .ok (.istore_n 1, 1) := by decide +kernel
theorem dX12_init_127 : decode cX12_init 127 = .ok (.iload_n 1, 1) := by decide +kernel
theorem dX12_init_128 : decode cX12_init 128 = .ok (.iconst 4, 1) := by decide +kernel
theorem dX12_init_129 : decode cX12_init 129 = .ok (.if_icmp .ge 16, 3) := by decide +kernel
theorem dX12_init_132 : decode cX12_init 132 = .ok (.aload_n 0, 1) := by decide +kernel
theorem dX12_init_133 : decode cX12_init 133 = .ok (.getfield 38, 3) := by decide +kernel
theorem dX12_init_136 : decode cX12_init 136 = .ok (.iload_n 1, 1) := by decide +kernel
theorem dX12_init_137 : decode cX12_init 137 = .ok (.iconst (-1), 1) := by decide +kernel
theorem dX12_init_138 : decode cX12_init 138 = .ok (.iastore, 1) := by decide +kernel
theorem dX12_init_139 : decode cX12_init 139 = .ok (.iinc 1 1, 3) := by decide +kernel
theorem dX12_init_142 : decode cX12_init 142 = .ok (.goto (-15), 3) := by decide +kernel
theorem dX12_init_145 : decode cX12_init 145 = .ok (.return_, 1) := by decide +kernel
theorem dX12_in_0 : decode cX12_in 0 = .ok (.lload_n 0, 1) := by decide +kernel
theorem dX12_in_1 : decode cX12_in 1 = .ok (.lload_n 2, 1) := by decide +kernel
theorem dX12_in_2 : decode cX12_in 2 = .ok (.lcmp, 1) := by decide +kernel
theorem dX12_in_3 : decode cX12_in 3 = .ok (.ifCond .lt 14, 3) := by decide +kernel
theorem dX12_in_6 : decode cX12_in 6 = .ok (.lload_n 0, 1) := by decide +kernel
theorem dX12_in_7 : decode cX12_in 7 = .ok (.lload 4, 2) := by decide +kernel
theorem dX12_in_9 : decode cX12_in 9 = .ok (.lcmp, 1) := by decide +kernel
theorem dX12_in_10 : decode cX12_in 10 = .ok (.ifCond .gt 7, 3) := by decide +kernel
theorem dX12_in_13 : decode cX12_in 13 = .ok (.iconst 1, 1) := by decide +kernel
theorem dX12_in_14 : decode cX12_in 14 = .ok (.goto 4, 3) := by decide +kernel
theorem dX12_in_17 : decode cX12_in 17 = .ok (.iconst 0, 1) := by decide +kernel
theorem dX12_in_18 : decode cX12_in 18 = .ok (.ireturn, 1) := by decide +kernel
theorem dX12_has_0 : decode cX12_has 0 = .ok (.iload_n 0, 1) := by decide +kernel
theorem dX12_has_1 : decode cX12_has 1 = .ok (.iload_n 1, 1) := by decide +kernel
theorem dX12_has_2 : decode cX12_has 2 = .ok (.ishr, 1) := by decide +kernel
theorem dX12_has_3 : decode cX12_has 3 = .ok (.iconst 1, 1) := by decide +kernel
theorem dX12_has_4 : decode cX12_has 4 = .ok (.iand, 1) := by decide +kernel
theorem dX12_has_5 : decode cX12_has 5 = .ok (.iconst 1, 1) := by decide +kernel
theorem dX12_has_6 : decode cX12_has 6 = .ok (.if_icmp .ne 7, 3) := by decide +kernel
theorem dX12_has_9 : decode cX12_has 9 = .ok (.iconst 1, 1) := by decide +kernel
theorem dX12_has_10 : decode cX12_has 10 = .ok (.goto 4, 3) := by decide +kernel
theorem dX12_has_13 : decode cX12_has 13 = .ok (.iconst 0, 1) := by decide +kernel
theorem dX12_has_14 : decode cX12_has 14 = .ok (.ireturn, 1) := by decide +kernel
theorem dX12_bits_0 : decode cX12_bits 0 = .ok (.iconst 0, 1) := by decide +kernel
theorem dX12_bits_1 : decode cX12_bits 1 = .ok (.istore_n 1, 1) := by decide +kernel
theorem dX12_bits_2 : decode cX12_bits 2 = .ok (.iload_n 0, 1) := by decide +kernel
theorem dX12_bits_3 : decode cX12_bits 3 = .ok (.istore_n 2, 1) := by decide +kernel
theorem dX12_bits_4 : decode cX12_bits 4 = .ok (.iload_n 2, 1) := by decide +kernel
theorem dX12_bits_5 : decode cX12_bits 5 = .ok (.ifCond .eq 15, 3) := by decide +kernel
theorem dX12_bits_8 : decode cX12_bits 8 = .ok (.iinc 1 1, 3) := by decide +kernel
theorem dX12_bits_11 : decode cX12_bits 11 = .ok (.iload_n 2, 1) := by decide +kernel
theorem dX12_bits_12 : decode cX12_bits 12 = .ok (.iload_n 2, 1) := by decide +kernel
theorem dX12_bits_13 : decode cX12_bits 13 = .ok (.iconst 1, 1) := by decide +kernel
theorem dX12_bits_14 : decode cX12_bits 14 = .ok (.isub, 1) := by decide +kernel
theorem dX12_bits_15 : decode cX12_bits 15 = .ok (.iand, 1) := by decide +kernel
theorem dX12_bits_16 : decode cX12_bits 16 = .ok (.istore_n 2, 1) := by decide +kernel
theorem dX12_bits_17 : decode cX12_bits 17 = .ok (.goto (-13), 3) := by decide +kernel
theorem dX12_bits_20 : decode cX12_bits 20 = .ok (.iload_n 1, 1) := by decide +kernel
theorem dX12_bits_21 : decode cX12_bits 21 = .ok (.ireturn, 1) := by decide +kernel
theorem dX12_copies_0 : decode cX12_copies 0 = .ok (.iconst 0, 1) := by decide +kernel
theorem dX12_copies_1 : decode cX12_copies 1 = .ok (.istore 5, 2) := by decide +kernel
theorem dX12_copies_3 : decode cX12_copies 3 = .ok (.iload 5, 2) := by decide +kernel
theorem dX12_copies_5 : decode cX12_copies 5 = .ok (.iload 4, 2) := by decide +kernel
theorem dX12_copies_7 : decode cX12_copies 7 = .ok (.if_icmp .ge 21, 3) := by decide +kernel
theorem dX12_copies_10 : decode cX12_copies 10 = .ok (.aload_n 2, 1) := by decide +kernel
theorem dX12_copies_11 : decode cX12_copies 11 = .ok (.iload_n 3, 1) := by decide +kernel
theorem dX12_copies_12 : decode cX12_copies 12 = .ok (.iload 5, 2) := by decide +kernel
theorem dX12_copies_14 : decode cX12_copies 14 = .ok (.iadd, 1) := by decide +kernel
theorem dX12_copies_15 : decode cX12_copies 15 = .ok (.aload_n 0, 1) := by decide +kernel
theorem dX12_copies_16 : decode cX12_copies 16 = .ok (.iload_n 1, 1) := by decide +kernel
theorem dX12_copies_17 : decode cX12_copies 17 = .ok (.iload 5, 2) := by decide +kernel
theorem dX12_copies_19 : decode cX12_copies 19 = .ok (.iadd, 1) := by decide +kernel
theorem dX12_copies_20 : decode cX12_copies 20 = .ok (.iaload, 1) := by decide +kernel
theorem dX12_copies_21 : decode cX12_copies 21 = .ok (.iastore, 1) := by decide +kernel
theorem dX12_copies_22 : decode cX12_copies 22 = .ok (.iinc 5 1, 3) := by decide +kernel
theorem dX12_copies_25 : decode cX12_copies 25 = .ok (.goto (-22), 3) := by decide +kernel
theorem dX12_copies_28 : decode cX12_copies 28 = .ok (.return_, 1) := by decide +kernel
theorem dX12_less_0 : decode cX12_less 0 = .ok (.iload_n 0, 1) := by decide +kernel
theorem dX12_less_1 : decode cX12_less 1 = .ok (.iload_n 1, 1) := by decide +kernel
theorem dX12_less_2 : decode cX12_less 2 = .ok (.if_icmp .ge 7, 3) := by decide +kernel
theorem dX12_less_5 : decode cX12_less 5 = .ok (.iload_n 0, 1) := by decide +kernel
theorem dX12_less_6 : decode cX12_less 6 = .ok (.goto 4, 3) := by decide +kernel
theorem dX12_less_9 : decode cX12_less 9 = .ok (.iload_n 1, 1) := by decide +kernel
theorem dX12_less_10 : decode cX12_less 10 = .ok (.ireturn, 1) := by decide +kernel
theorem dX12_feed_0 : decode cX12_feed 0 = .ok (.iload_n 1, 1) := by decide +kernel
theorem dX12_feed_1 : decode cX12_feed 1 = .ok (.i2l, 1) := by decide +kernel
theorem dX12_feed_2 : decode cX12_feed 2 = .ok (.lconst 0, 1) := by decide +kernel
theorem dX12_feed_3 : decode cX12_feed 3 = .ok (.ldc2_w 57, 3) := by decide +kernel
theorem dX12_feed_6 : decode cX12_feed 6 = .ok (.invokestatic 59, 3) := by decide +kernel
theorem dX12_feed_9 : decode cX12_feed 9 = .ok (.ifCond .ne 5, 3) := by decide +kernel
theorem dX12_feed_12 : decode cX12_feed 12 = .ok (.iconst (-1), 1) := by decide +kernel
theorem dX12_feed_13 : decode cX12_feed 13 = .ok (.ireturn, 1) := by decide +kernel
theorem dX12_feed_14 : decode cX12_feed 14 = .ok (.aload_n 0, 1) := by decide +kernel
theorem dX12_feed_15 : decode cX12_feed 15 = .ok (.getfield 63, 3) := by decide +kernel
theorem dX12_feed_18 : decode cX12_feed 18 = .ok (.bipush 80, 2) := by decide +kernel
theorem dX12_feed_20 : decode cX12_feed 20 = .ok (.if_icmp .ne 6, 3) := by decide +kernel
theorem dX12_feed_23 : decode cX12_feed 23 = .ok (.bipush (-3), 2) := by decide +kernel
theorem dX12_feed_25 : decode cX12_feed 25 = .ok (.ireturn, 1) := by decide +kernel
theorem dX12_feed_26 : decode cX12_feed 26 = .ok (.aload_n 0, 1) := by decide +kernel
theorem dX12_feed_27 : decode cX12_feed 27 = .ok (.getfield 35, 3) := by decide +kernel
theorem dX12_feed_30 : decode cX12_feed 30 = .ok (.aload_n 0, 1) := by decide +kernel
theorem dX12_feed_31 : decode cX12_feed 31 = .ok (.getfield 63, 3) := by decide +kernel
theorem dX12_feed_34 : decode cX12_feed 34 = .ok (.iload_n 1, 1) := by decide +kernel
theorem dX12_feed_35 : decode cX12_feed 35 = .ok (.iastore, 1) := by decide +kernel
theorem dX12_feed_36 : decode cX12_feed 36 = .ok (.aload_n 0, 1) := by decide +kernel
theorem dX12_feed_37 : decode cX12_feed 37 = .ok (.dup, 1) := by decide +kernel
theorem dX12_feed_38 : decode cX12_feed 38 = .ok (.getfield 63, 3) := by decide +kernel
theorem dX12_feed_41 : decode cX12_feed 41 = .ok (.iconst 1, 1) := by decide +kernel
theorem dX12_feed_42 : decode cX12_feed 42 = .ok (.iadd, 1) := by decide +kernel
theorem dX12_feed_43 : decode cX12_feed 43 = .ok (.putfield 63, 3) := by decide +kernel
theorem dX12_feed_46 : decode cX12_feed 46 = .ok (.aload_n 0, 1) := by decide +kernel
theorem dX12_feed_47 : decode cX12_feed 47 = .ok (.getfield 63, 3) := by decide +kernel
theorem dX12_feed_50 : decode cX12_feed 50 = .ok (.ireturn, 1) := by decide +kernel
theorem dX12_here_0 : decode cX12_here 0 = .ok (.aload_n 0, 1) := by decide +kernel
theorem dX12_here_1 : decode cX12_here 1 = .ok (.getfield 67, 3) := by decide +kernel
theorem dX12_here_4 : decode cX12_here 4 = .ok (.aload_n 0, 1) := by decide +kernel
theorem dX12_here_5 : decode cX12_here 5 = .ok (.getfield 63, 3) := by decide +kernel
theorem dX12_here_8 : decode cX12_here 8 = .ok (.if_icmp .ge 15, 3) := by decide +kernel
theorem dX12_here_11 : decode cX12_here 11 = .ok (.aload_n 0, 1) := by decide +kernel
theorem dX12_here_12 : decode cX12_here 12 = .ok (.getfield 35, 3) := by decide +kernel
theorem dX12_here_15 : decode cX12_here 15 = .ok (.aload_n 0, 1) := by decide +kernel
theorem dX12_here_16 : decode cX12_here 16 = .ok (.getfield 67, 3) := by decide +kernel
theorem dX12_here_19 : decode cX12_here 19 = .ok (.iaload, 1) := by decide +kernel
theorem dX12_here_20 : decode cX12_here 20 = .ok (.goto 4, 3) := by decide +kernel
theorem dX12_here_23 : decode cX12_here 23 = .ok (.iconst (-1), 1) := by decide +kernel
theorem dX12_here_24 : decode cX12_here 24 = .ok (.ireturn, 1) := by decide +kernel
theorem dX12_eats_0 : decode cX12_eats 0 = .ok (.aload_n 0, 1) := by decide +kernel
theorem dX12_eats_1 : decode cX12_eats 1 = .ok (.invokevirtual 70, 3) := by decide +kernel
theorem dX12_eats_4 : decode cX12_eats 4 = .ok (.iload_n 1, 1) := by decide +kernel
theorem dX12_eats_5 : decode cX12_eats 5 = .ok (.if_icmp .ne 7, 3) := by decide +kernel
theorem dX12_eats_8 : decode cX12_eats 8 = .ok (.iconst 1, 1) := by decide +kernel
theorem dX12_eats_9 : decode cX12_eats 9 = .ok (.goto 4, 3) := by decide +kernel
theorem dX12_eats_12 : decode cX12_eats 12 = .ok (.iconst 0, 1) := by decide +kernel
theorem dX12_eats_13 : decode cX12_eats 13 = .ok (.istore_n 2, 1) := by decide +kernel
theorem dX12_eats_14 : decode cX12_eats 14 = .ok (.aload_n 0, 1) := by decide +kernel
theorem dX12_eats_15 : decode cX12_eats 15 = .ok (.dup, 1) := by decide +kernel
theorem dX12_eats_16 : decode cX12_eats 16 = .ok (.getfield 67, 3) := by decide +kernel
theorem dX12_eats_19 : decode cX12_eats 19 = .ok (.iload_n 2, 1) := by decide +kernel
theorem dX12_eats_20 : decode cX12_eats 20 = .ok (.ifCond .eq 7, 3) := by decide +kernel
theorem dX12_eats_23 : decode cX12_eats 23 = .ok (.iconst 1, 1) := by decide +kernel
theorem dX12_eats_24 : decode cX12_eats 24 = .ok (.goto 4, 3) := by decide +kernel
theorem dX12_eats_27 : decode cX12_eats 27 = .ok (.iconst 0, 1) := by decide +kernel
theorem dX12_eats_28 : decode cX12_eats 28 = .ok (.iadd, 1) := by decide +kernel
theorem dX12_eats_29 : decode cX12_eats 29 = .ok (.putfield 67, 3) := by decide +kernel
theorem dX12_eats_32 : decode cX12_eats 32 = .ok (.iload_n 2, 1) := by decide +kernel
theorem dX12_eats_33 : decode cX12_eats 33 = .ok (.ireturn, 1) := by decide +kernel
theorem dX12_figure_0 : decode cX12_figure 0 = .ok (.aload_n 0, 1) := by decide +kernel
theorem dX12_figure_1 : decode cX12_figure 1 = .ok (.invokevirtual 70, 3) := by decide +kernel
theorem dX12_figure_4 : decode cX12_figure 4 = .ok (.bipush 48, 2) := by decide +kernel
theorem dX12_figure_6 : decode cX12_figure 6 = .ok (.isub, 1) := by decide +kernel
theorem dX12_figure_7 : decode cX12_figure 7 = .ok (.i2l, 1) := by decide +kernel
theorem dX12_figure_8 : decode cX12_figure 8 = .ok (.iload_n 1, 1) := by decide +kernel
theorem dX12_figure_9 : decode cX12_figure 9 = .ok (.i2l, 1) := by decide +kernel
theorem dX12_figure_10 : decode cX12_figure 10 = .ok (.iload_n 2, 1) := by decide +kernel
theorem dX12_figure_11 : decode cX12_figure 11 = .ok (.i2l, 1) := by decide +kernel
theorem dX12_figure_12 : decode cX12_figure 12 = .ok (.invokestatic 59, 3) := by decide +kernel
theorem dX12_figure_15 : decode cX12_figure 15 = .ok (.ifCond .ne 5, 3) := by decide +kernel
theorem dX12_figure_18 : decode cX12_figure 18 = .ok (.iconst 0, 1) := by decide +kernel
theorem dX12_figure_19 : decode cX12_figure 19 = .ok (.ireturn, 1) := by decide +kernel
theorem dX12_figure_20 : decode cX12_figure 20 = .ok (.aload_n 0, 1) := by decide +kernel
theorem dX12_figure_21 : decode cX12_figure 21 = .ok (.aload_n 0, 1) := by decide +kernel
theorem dX12_figure_22 : decode cX12_figure 22 = .ok (.invokevirtual 70, 3) := by decide +kernel
theorem dX12_figure_25 : decode cX12_figure 25 = .ok (.bipush 48, 2) := by decide +kernel
theorem dX12_figure_27 : decode cX12_figure 27 = .ok (.isub, 1) := by decide +kernel
theorem dX12_figure_28 : decode cX12_figure 28 = .ok (.putfield 74, 3) := by decide +kernel
theorem dX12_figure_31 : decode cX12_figure 31 = .ok (.aload_n 0, 1) := by decide +kernel
theorem dX12_figure_32 : decode cX12_figure 32 = .ok (.dup, 1) := by decide +kernel
theorem dX12_figure_33 : decode cX12_figure 33 = .ok (.getfield 67, 3) := by decide +kernel
theorem dX12_figure_36 : decode cX12_figure 36 = .ok (.iconst 1, 1) := by decide +kernel
theorem dX12_figure_37 : decode cX12_figure 37 = .ok (.iadd, 1) := by decide +kernel
theorem dX12_figure_38 : decode cX12_figure 38 = .ok (.putfield 67, 3) := by decide +kernel
theorem dX12_figure_41 : decode cX12_figure 41 = .ok (.iconst 1, 1) := by decide +kernel
theorem dX12_figure_42 : decode cX12_figure 42 = .ok (.ireturn, 1) := by decide +kernel
theorem dX12_kindBy_0 : decode cX12_kindBy 0 = .ok (.iload_n 0, 1) := by decide +kernel
theorem dX12_kindBy_1 : decode cX12_kindBy 1 = .ok (.lookupswitch 61 #[(99, 51), (102, 59), (108, 53), (115, 55), (119, 57)], 51) := by decide +kernel
theorem dX12_kindBy_52 : decode cX12_kindBy 52 = .ok (.iconst 1, 1) := by decide +kernel
theorem dX12_kindBy_53 : decode cX12_kindBy 53 = .ok (.ireturn, 1) := by decide +kernel
theorem dX12_kindBy_54 : decode cX12_kindBy 54 = .ok (.iconst 2, 1) := by decide +kernel
theorem dX12_kindBy_55 : decode cX12_kindBy 55 = .ok (.ireturn, 1) := by decide +kernel
theorem dX12_kindBy_56 : decode cX12_kindBy 56 = .ok (.iconst 3, 1) := by decide +kernel
theorem dX12_kindBy_57 : decode cX12_kindBy 57 = .ok (.ireturn, 1) := by decide +kernel
theorem dX12_kindBy_58 : decode cX12_kindBy 58 = .ok (.iconst 4, 1) := by decide +kernel
theorem dX12_kindBy_59 : decode cX12_kindBy 59 = .ok (.ireturn, 1) := by decide +kernel
theorem dX12_kindBy_60 : decode cX12_kindBy 60 = .ok (.iconst 5, 1) := by decide +kernel
theorem dX12_kindBy_61 : decode cX12_kindBy 61 = .ok (.ireturn, 1) := by decide +kernel
theorem dX12_kindBy_62 : decode cX12_kindBy 62 = .ok (.iconst 0, 1) := by decide +kernel
theorem dX12_kindBy_63 : decode cX12_kindBy 63 = .ok (.ireturn, 1) := by decide +kernel
theorem dX12_readsSquare_0 : decode cX12_readsSquare 0 = .ok (.aload_n 0, 1) := by decide +kernel
theorem dX12_readsSquare_1 : decode cX12_readsSquare 1 = .ok (.getfield 13, 3) := by decide +kernel
theorem dX12_readsSquare_4 : decode cX12_readsSquare 4 = .ok (.iconst 0, 1) := by decide +kernel
theorem dX12_readsSquare_5 : decode cX12_readsSquare 5 = .ok (.iaload, 1) := by decide +kernel
theorem dX12_readsSquare_6 : decode cX12_readsSquare 6 = .ok (.istore_n 1, 1) := by decide +kernel
theorem dX12_readsSquare_7 : decode cX12_readsSquare 7 = .ok (.aload_n 0, 1) := by decide +kernel
theorem dX12_readsSquare_8 : decode cX12_readsSquare 8 = .ok (.invokevirtual 70, 3) := by decide +kernel
theorem dX12_readsSquare_11 : decode cX12_readsSquare 11 = .ok (.invokestatic 77, 3) := by decide +kernel
theorem dX12_readsSquare_14 : decode cX12_readsSquare 14 = .ok (.istore_n 2, 1) := by decide +kernel
theorem dX12_readsSquare_15 : decode cX12_readsSquare 15 = .ok (.iload_n 2, 1) := by decide +kernel
theorem dX12_readsSquare_16 : decode cX12_readsSquare 16 = .ok (.ifCond .ne 5, 3) := by decide +kernel
theorem dX12_readsSquare_19 : decode cX12_readsSquare 19 = .ok (.iconst 0, 1) := by decide +kernel
theorem dX12_readsSquare_20 : decode cX12_readsSquare 20 = .ok (.ireturn, 1) := by decide +kernel
theorem dX12_readsSquare_21 : decode cX12_readsSquare 21 = .ok (.aload_n 0, 1) := by decide +kernel
theorem dX12_readsSquare_22 : decode cX12_readsSquare 22 = .ok (.dup, 1) := by decide +kernel
theorem dX12_readsSquare_23 : decode cX12_readsSquare 23 = .ok (.getfield 67, 3) := by decide +kernel
theorem dX12_readsSquare_26 : decode cX12_readsSquare 26 = .ok (.iconst 1, 1) := by decide +kernel
theorem dX12_readsSquare_27 : decode cX12_readsSquare 27 = .ok (.iadd, 1) := by decide +kernel
theorem dX12_readsSquare_28 : decode cX12_readsSquare 28 = .ok (.putfield 67, 3) := by decide +kernel
theorem dX12_readsSquare_31 : decode cX12_readsSquare 31 = .ok (.aload_n 0, 1) := by decide +kernel
theorem dX12_readsSquare_32 : decode cX12_readsSquare 32 = .ok (.getfield 13, 3) := by decide +kernel
theorem dX12_readsSquare_35 : decode cX12_readsSquare 35 = .ok (.iconst 3, 1) := by decide +kernel
theorem dX12_readsSquare_36 : decode cX12_readsSquare 36 = .ok (.iload_n 1, 1) := by decide +kernel
theorem dX12_readsSquare_37 : decode cX12_readsSquare 37 = .ok (.iadd, 1) := by decide +kernel
theorem dX12_readsSquare_38 : decode cX12_readsSquare 38 = .ok (.iload_n 2, 1) := by decide +kernel
theorem dX12_readsSquare_39 : decode cX12_readsSquare 39 = .ok (.iastore, 1) := by decide +kernel
theorem dX12_readsSquare_40 : decode cX12_readsSquare 40 = .ok (.aload_n 0, 1) := by decide +kernel
theorem dX12_readsSquare_41 : decode cX12_readsSquare 41 = .ok (.iconst 0, 1) := by decide +kernel
theorem dX12_readsSquare_42 : decode cX12_readsSquare 42 = .ok (.bipush 7, 2) := by decide +kernel
theorem dX12_readsSquare_44 : decode cX12_readsSquare 44 = .ok (.invokevirtual 81, 3) := by decide +kernel
theorem dX12_readsSquare_47 : decode cX12_readsSquare 47 = .ok (.ifCond .ne 5, 3) := by decide +kernel
theorem dX12_readsSquare_50 : decode cX12_readsSquare 50 = .ok (.iconst 0, 1) := by decide +kernel
theorem dX12_readsSquare_51 : decode cX12_readsSquare 51 = .ok (.ireturn, 1) := by decide +kernel
theorem dX12_readsSquare_52 : decode cX12_readsSquare 52 = .ok (.aload_n 0, 1) := by decide +kernel
theorem dX12_readsSquare_53 : decode cX12_readsSquare 53 = .ok (.getfield 16, 3) := by decide +kernel
theorem dX12_readsSquare_56 : decode cX12_readsSquare 56 = .ok (.iload_n 1, 1) := by decide +kernel
theorem dX12_readsSquare_57 : decode cX12_readsSquare 57 = .ok (.aload_n 0, 1) := by decide +kernel
theorem dX12_readsSquare_58 : decode cX12_readsSquare 58 = .ok (.getfield 74, 3) := by decide +kernel
theorem dX12_readsSquare_61 : decode cX12_readsSquare 61 = .ok (.iastore, 1) := by decide +kernel
theorem dX12_readsSquare_62 : decode cX12_readsSquare 62 = .ok (.aload_n 0, 1) := by decide +kernel
theorem dX12_readsSquare_63 : decode cX12_readsSquare 63 = .ok (.getfield 13, 3) := by decide +kernel
theorem dX12_readsSquare_66 : decode cX12_readsSquare 66 = .ok (.iconst 0, 1) := by decide +kernel
theorem dX12_readsSquare_67 : decode cX12_readsSquare 67 = .ok (.dup2, 1) := by decide +kernel
theorem dX12_readsSquare_68 : decode cX12_readsSquare 68 = .ok (.iaload, 1) := by decide +kernel
theorem dX12_readsSquare_69 : decode cX12_readsSquare 69 = .ok (.iconst 1, 1) := by decide +kernel
theorem dX12_readsSquare_70 : decode cX12_readsSquare 70 = .ok (.iadd, 1) := by decide +kernel
theorem dX12_readsSquare_71 : decode cX12_readsSquare 71 = .ok (.iastore, 1) := by decide +kernel
theorem dX12_readsSquare_72 : decode cX12_readsSquare 72 = .ok (.iconst 1, 1) := by decide +kernel
theorem dX12_readsSquare_73 : decode cX12_readsSquare 73 = .ok (.ireturn, 1) := by decide +kernel
theorem dX12_readsDye_0 : decode cX12_readsDye 0 = .ok (.iconst 0, 1) := by decide +kernel
theorem dX12_readsDye_1 : decode cX12_readsDye 1 = .ok (.istore_n 1, 1) := by decide +kernel
theorem dX12_readsDye_2 : decode cX12_readsDye 2 = .ok (.iload_n 1, 1) := by decide +kernel
theorem dX12_readsDye_3 : decode cX12_readsDye 3 = .ok (.iconst 3, 1) := by decide +kernel
theorem dX12_readsDye_4 : decode cX12_readsDye 4 = .ok (.if_icmp .ge 42, 3) := by decide +kernel
theorem dX12_readsDye_7 : decode cX12_readsDye 7 = .ok (.aload_n 0, 1) := by decide +kernel
theorem dX12_readsDye_8 : decode cX12_readsDye 8 = .ok (.iconst 0, 1) := by decide +kernel
theorem dX12_readsDye_9 : decode cX12_readsDye 9 = .ok (.iconst 3, 1) := by decide +kernel
theorem dX12_readsDye_10 : decode cX12_readsDye 10 = .ok (.invokevirtual 81, 3) := by decide +kernel
theorem dX12_readsDye_13 : decode cX12_readsDye 13 = .ok (.ifCond .ne 5, 3) := by decide +kernel
theorem dX12_readsDye_16 : decode cX12_readsDye 16 = .ok (.iconst 0, 1) := by decide +kernel
theorem dX12_readsDye_17 : decode cX12_readsDye 17 = .ok (.ireturn, 1) := by decide +kernel
theorem dX12_readsDye_18 : decode cX12_readsDye 18 = .ok (.aload_n 0, 1) := by decide +kernel
theorem dX12_readsDye_19 : decode cX12_readsDye 19 = .ok (.getfield 13, 3) := by decide +kernel
theorem dX12_readsDye_22 : decode cX12_readsDye 22 = .ok (.bipush 11, 2) := by decide +kernel
theorem dX12_readsDye_24 : decode cX12_readsDye 24 = .ok (.iconst 3, 1) := by decide +kernel
theorem dX12_readsDye_25 : decode cX12_readsDye 25 = .ok (.aload_n 0, 1) := by decide +kernel
theorem dX12_readsDye_26 : decode cX12_readsDye 26 = .ok (.getfield 13, 3) := by decide +kernel
theorem dX12_readsDye_29 : decode cX12_readsDye 29 = .ok (.iconst 1, 1) := by decide +kernel
theorem dX12_readsDye_30 : decode cX12_readsDye 30 = .ok (.iaload, 1) := by decide +kernel
theorem dX12_readsDye_31 : decode cX12_readsDye 31 = .ok (.imul, 1) := by decide +kernel
theorem dX12_readsDye_32 : decode cX12_readsDye 32 = .ok (.iadd, 1) := by decide +kernel
theorem dX12_readsDye_33 : decode cX12_readsDye 33 = .ok (.iload_n 1, 1) := by decide +kernel
theorem dX12_readsDye_34 : decode cX12_readsDye 34 = .ok (.iadd, 1) := by decide +kernel
theorem dX12_readsDye_35 : decode cX12_readsDye 35 = .ok (.aload_n 0, 1) := by decide +kernel
theorem dX12_readsDye_36 : decode cX12_readsDye 36 = .ok (.getfield 74, 3) := by decide +kernel
theorem dX12_readsDye_39 : decode cX12_readsDye 39 = .ok (.iastore, 1) := by decide +kernel
theorem dX12_readsDye_40 : decode cX12_readsDye 40 = .ok (.iinc 1 1, 3) := by decide +kernel
theorem dX12_readsDye_43 : decode cX12_readsDye 43 = .ok (.goto (-41), 3) := by decide +kernel
theorem dX12_readsDye_46 : decode cX12_readsDye 46 = .ok (.aload_n 0, 1) := by decide +kernel
theorem dX12_readsDye_47 : decode cX12_readsDye 47 = .ok (.getfield 13, 3) := by decide +kernel
theorem dX12_readsDye_50 : decode cX12_readsDye 50 = .ok (.iconst 1, 1) := by decide +kernel
theorem dX12_readsDye_51 : decode cX12_readsDye 51 = .ok (.dup2, 1) := by decide +kernel
theorem dX12_readsDye_52 : decode cX12_readsDye 52 = .ok (.iaload, 1) := by decide +kernel
theorem dX12_readsDye_53 : decode cX12_readsDye 53 = .ok (.iconst 1, 1) := by decide +kernel
theorem dX12_readsDye_54 : decode cX12_readsDye 54 = .ok (.iadd, 1) := by decide +kernel
theorem dX12_readsDye_55 : decode cX12_readsDye 55 = .ok (.iastore, 1) := by decide +kernel
theorem dX12_readsDye_56 : decode cX12_readsDye 56 = .ok (.iconst 1, 1) := by decide +kernel
theorem dX12_readsDye_57 : decode cX12_readsDye 57 = .ok (.ireturn, 1) := by decide +kernel
theorem dX12_readsStencil_0 : decode cX12_readsStencil 0 = .ok (.iconst (-1), 1) := by decide +kernel
theorem dX12_readsStencil_1 : decode cX12_readsStencil 1 = .ok (.istore_n 1, 1) := by decide +kernel
theorem dX12_readsStencil_2 : decode cX12_readsStencil 2 = .ok (.iconst 0, 1) := by decide +kernel
theorem dX12_readsStencil_3 : decode cX12_readsStencil 3 = .ok (.istore_n 2, 1) := by decide +kernel
theorem dX12_readsStencil_4 : decode cX12_readsStencil 4 = .ok (.aload_n 0, 1) := by decide +kernel
theorem dX12_readsStencil_5 : decode cX12_readsStencil 5 = .ok (.iload_n 1, 1) := by decide +kernel
theorem dX12_readsStencil_6 : decode cX12_readsStencil 6 = .ok (.iconst 1, 1) := by decide +kernel
theorem dX12_readsStencil_7 : decode cX12_readsStencil 7 = .ok (.iadd, 1) := by decide +kernel
theorem dX12_readsStencil_8 : decode cX12_readsStencil 8 = .ok (.aload_n 0, 1) := by decide +kernel
theorem dX12_readsStencil_9 : decode cX12_readsStencil 9 = .ok (.getfield 13, 3) := by decide +kernel
theorem dX12_readsStencil_12 : decode cX12_readsStencil 12 = .ok (.iconst 0, 1) := by decide +kernel
theorem dX12_readsStencil_13 : decode cX12_readsStencil 13 = .ok (.iaload, 1) := by decide +kernel
theorem dX12_readsStencil_14 : decode cX12_readsStencil 14 = .ok (.iconst 1, 1) := by decide +kernel
theorem dX12_readsStencil_15 : decode cX12_readsStencil 15 = .ok (.isub, 1) := by decide +kernel
theorem dX12_readsStencil_16 : decode cX12_readsStencil 16 = .ok (.invokevirtual 81, 3) := by decide +kernel
theorem dX12_readsStencil_19 : decode cX12_readsStencil 19 = .ok (.ifCond .eq 17, 3) := by decide +kernel
theorem dX12_readsStencil_22 : decode cX12_readsStencil 22 = .ok (.aload_n 0, 1) := by decide +kernel
theorem dX12_readsStencil_23 : decode cX12_readsStencil 23 = .ok (.getfield 74, 3) := by decide +kernel
theorem dX12_readsStencil_26 : decode cX12_readsStencil 26 = .ok (.istore_n 1, 1) := by decide +kernel
theorem dX12_readsStencil_27 : decode cX12_readsStencil 27 = .ok (.iload_n 2, 1) := by decide +kernel
theorem dX12_readsStencil_28 : decode cX12_readsStencil 28 = .ok (.iconst 1, 1) := by decide +kernel
theorem dX12_readsStencil_29 : decode cX12_readsStencil 29 = .ok (.iload_n 1, 1) := by decide +kernel
theorem dX12_readsStencil_30 : decode cX12_readsStencil 30 = .ok (.ishl, 1) := by decide +kernel
theorem dX12_readsStencil_31 : decode cX12_readsStencil 31 = .ok (.ior, 1) := by decide +kernel
theorem dX12_readsStencil_32 : decode cX12_readsStencil 32 = .ok (.istore_n 2, 1) := by decide +kernel
theorem dX12_readsStencil_33 : decode cX12_readsStencil 33 = .ok (.goto (-29), 3) := by decide +kernel
theorem dX12_readsStencil_36 : decode cX12_readsStencil 36 = .ok (.aload_n 0, 1) := by decide +kernel
theorem dX12_readsStencil_37 : decode cX12_readsStencil 37 = .ok (.getfield 13, 3) := by decide +kernel
theorem dX12_readsStencil_40 : decode cX12_readsStencil 40 = .ok (.bipush 23, 2) := by decide +kernel
theorem dX12_readsStencil_42 : decode cX12_readsStencil 42 = .ok (.aload_n 0, 1) := by decide +kernel
theorem dX12_readsStencil_43 : decode cX12_readsStencil 43 = .ok (.getfield 13, 3) := by decide +kernel
theorem dX12_readsStencil_46 : decode cX12_readsStencil 46 = .ok (.iconst 2, 1) := by decide +kernel
theorem dX12_readsStencil_47 : decode cX12_readsStencil 47 = .ok (.iaload, 1) := by decide +kernel
theorem dX12_readsStencil_48 : decode cX12_readsStencil 48 = .ok (.iadd, 1) := by decide +kernel
theorem dX12_readsStencil_49 : decode cX12_readsStencil 49 = .ok (.iload_n 2, 1) := by decide +kernel
theorem dX12_readsStencil_50 : decode cX12_readsStencil 50 = .ok (.iastore, 1) := by decide +kernel
theorem dX12_readsStencil_51 : decode cX12_readsStencil 51 = .ok (.aload_n 0, 1) := by decide +kernel
theorem dX12_readsStencil_52 : decode cX12_readsStencil 52 = .ok (.getfield 13, 3) := by decide +kernel
theorem dX12_readsStencil_55 : decode cX12_readsStencil 55 = .ok (.iconst 2, 1) := by decide +kernel
theorem dX12_readsStencil_56 : decode cX12_readsStencil 56 = .ok (.dup2, 1) := by decide +kernel
theorem dX12_readsStencil_57 : decode cX12_readsStencil 57 = .ok (.iaload, 1) := by decide +kernel
theorem dX12_readsStencil_58 : decode cX12_readsStencil 58 = .ok (.iconst 1, 1) := by decide +kernel
theorem dX12_readsStencil_59 : decode cX12_readsStencil 59 = .ok (.iadd, 1) := by decide +kernel
theorem dX12_readsStencil_60 : decode cX12_readsStencil 60 = .ok (.iastore, 1) := by decide +kernel
theorem dX12_readsStencil_61 : decode cX12_readsStencil 61 = .ok (.iload_n 2, 1) := by decide +kernel
theorem dX12_readsStencil_62 : decode cX12_readsStencil 62 = .ok (.ifCond .eq 7, 3) := by decide +kernel
theorem dX12_readsStencil_65 : decode cX12_readsStencil 65 = .ok (.iconst 1, 1) := by decide +kernel
theorem dX12_readsStencil_66 : decode cX12_readsStencil 66 = .ok (.goto 4, 3) := by decide +kernel
theorem dX12_readsStencil_69 : decode cX12_readsStencil 69 = .ok (.iconst 0, 1) := by decide +kernel
theorem dX12_readsStencil_70 : decode cX12_readsStencil 70 = .ok (.ireturn, 1) := by decide +kernel
theorem dX12_another_0 : decode cX12_another 0 = .ok (.aload_n 0, 1) := by decide +kernel
theorem dX12_another_1 : decode cX12_another 1 = .ok (.getfield 13, 3) := by decide +kernel
theorem dX12_another_4 : decode cX12_another 4 = .ok (.iload_n 1, 1) := by decide +kernel
theorem dX12_another_5 : decode cX12_another 5 = .ok (.iaload, 1) := by decide +kernel
theorem dX12_another_6 : decode cX12_another 6 = .ok (.iload_n 2, 1) := by decide +kernel
theorem dX12_another_7 : decode cX12_another 7 = .ok (.if_icmp .ge 16, 3) := by decide +kernel
theorem dX12_another_10 : decode cX12_another 10 = .ok (.aload_n 0, 1) := by decide +kernel
theorem dX12_another_11 : decode cX12_another 11 = .ok (.bipush 44, 2) := by decide +kernel
theorem dX12_another_13 : decode cX12_another 13 = .ok (.invokevirtual 85, 3) := by decide +kernel
theorem dX12_another_16 : decode cX12_another 16 = .ok (.ifCond .eq 7, 3) := by decide +kernel
theorem dX12_another_19 : decode cX12_another 19 = .ok (.iconst 1, 1) := by decide +kernel
theorem dX12_another_20 : decode cX12_another 20 = .ok (.goto 4, 3) := by decide +kernel
theorem dX12_another_23 : decode cX12_another 23 = .ok (.iconst 0, 1) := by decide +kernel
theorem dX12_another_24 : decode cX12_another 24 = .ok (.ireturn, 1) := by decide +kernel
theorem dX12_reads_0 : decode cX12_reads 0 = .ok (.iconst 0, 1) := by decide +kernel
theorem dX12_reads_1 : decode cX12_reads 1 = .ok (.istore_n 1, 1) := by decide +kernel
theorem dX12_reads_2 : decode cX12_reads 2 = .ok (.iload_n 1, 1) := by decide +kernel
theorem dX12_reads_3 : decode cX12_reads 3 = .ok (.bipush 26, 2) := by decide +kernel
theorem dX12_reads_5 : decode cX12_reads 5 = .ok (.if_icmp .ge 16, 3) := by decide +kernel
theorem dX12_reads_8 : decode cX12_reads 8 = .ok (.aload_n 0, 1) := by decide +kernel
theorem dX12_reads_9 : decode cX12_reads 9 = .ok (.getfield 13, 3) := by decide +kernel
theorem dX12_reads_12 : decode cX12_reads 12 = .ok (.iload_n 1, 1) := by decide +kernel
theorem dX12_reads_13 : decode cX12_reads 13 = .ok (.iconst 0, 1) := by decide +kernel
theorem dX12_reads_14 : decode cX12_reads 14 = .ok (.iastore, 1) := by decide +kernel
theorem dX12_reads_15 : decode cX12_reads 15 = .ok (.iinc 1 1, 3) := by decide +kernel
theorem dX12_reads_18 : decode cX12_reads 18 = .ok (.goto (-16), 3) := by decide +kernel
theorem dX12_reads_21 : decode cX12_reads 21 = .ok (.aload_n 0, 1) := by decide +kernel
theorem dX12_reads_22 : decode cX12_reads 22 = .ok (.iconst 0, 1) := by decide +kernel
theorem dX12_reads_23 : decode cX12_reads 23 = .ok (.putfield 67, 3) := by decide +kernel
theorem dX12_reads_26 : decode cX12_reads 26 = .ok (.aload_n 0, 1) := by decide +kernel
theorem dX12_reads_27 : decode cX12_reads 27 = .ok (.bipush 119, 2) := by decide +kernel
theorem dX12_reads_29 : decode cX12_reads 29 = .ok (.invokevirtual 85, 3) := by decide +kernel
theorem dX12_reads_32 : decode cX12_reads 32 = .ok (.ifCond .eq 10, 3) := by decide +kernel
theorem dX12_reads_35 : decode cX12_reads 35 = .ok (.aload_n 0, 1) := by decide +kernel
theorem dX12_reads_36 : decode cX12_reads 36 = .ok (.invokevirtual 89, 3) := by decide +kernel
theorem dX12_reads_39 : decode cX12_reads 39 = .ok (.ifCond .ne 5, 3) := by decide +kernel
theorem dX12_reads_42 : decode cX12_reads 42 = .ok (.iconst 0, 1) := by decide +kernel
theorem dX12_reads_43 : decode cX12_reads 43 = .ok (.ireturn, 1) := by decide +kernel
theorem dX12_reads_44 : decode cX12_reads 44 = .ok (.aload_n 0, 1) := by decide +kernel
theorem dX12_reads_45 : decode cX12_reads 45 = .ok (.iconst 0, 1) := by decide +kernel
theorem dX12_reads_46 : decode cX12_reads 46 = .ok (.bipush 8, 2) := by decide +kernel
theorem dX12_reads_48 : decode cX12_reads 48 = .ok (.invokevirtual 93, 3) := by decide +kernel
theorem dX12_reads_51 : decode cX12_reads 51 = .ok (.ifCond .eq 12, 3) := by decide +kernel
theorem dX12_reads_54 : decode cX12_reads 54 = .ok (.aload_n 0, 1) := by decide +kernel
theorem dX12_reads_55 : decode cX12_reads 55 = .ok (.invokevirtual 89, 3) := by decide +kernel
theorem dX12_reads_58 : decode cX12_reads 58 = .ok (.ifCond .ne (-14), 3) := by decide +kernel
theorem dX12_reads_61 : decode cX12_reads 61 = .ok (.iconst 0, 1) := by decide +kernel
theorem dX12_reads_62 : decode cX12_reads 62 = .ok (.ireturn, 1) := by decide +kernel
theorem dX12_reads_63 : decode cX12_reads 63 = .ok (.aload_n 0, 1) := by decide +kernel
theorem dX12_reads_64 : decode cX12_reads 64 = .ok (.bipush 59, 2) := by decide +kernel
theorem dX12_reads_66 : decode cX12_reads 66 = .ok (.invokevirtual 85, 3) := by decide +kernel
theorem dX12_reads_69 : decode cX12_reads 69 = .ok (.ifCond .eq 10, 3) := by decide +kernel
theorem dX12_reads_72 : decode cX12_reads 72 = .ok (.aload_n 0, 1) := by decide +kernel
theorem dX12_reads_73 : decode cX12_reads 73 = .ok (.invokevirtual 96, 3) := by decide +kernel
theorem dX12_reads_76 : decode cX12_reads 76 = .ok (.ifCond .ne 5, 3) := by decide +kernel
theorem dX12_reads_79 : decode cX12_reads 79 = .ok (.iconst 0, 1) := by decide +kernel
theorem dX12_reads_80 : decode cX12_reads 80 = .ok (.ireturn, 1) := by decide +kernel
theorem dX12_reads_81 : decode cX12_reads 81 = .ok (.aload_n 0, 1) := by decide +kernel
theorem dX12_reads_82 : decode cX12_reads 82 = .ok (.iconst 1, 1) := by decide +kernel
theorem dX12_reads_83 : decode cX12_reads 83 = .ok (.iconst 4, 1) := by decide +kernel
theorem dX12_reads_84 : decode cX12_reads 84 = .ok (.invokevirtual 93, 3) := by decide +kernel
theorem dX12_reads_87 : decode cX12_reads 87 = .ok (.ifCond .eq 12, 3) := by decide +kernel
theorem dX12_reads_90 : decode cX12_reads 90 = .ok (.aload_n 0, 1) := by decide +kernel
theorem dX12_reads_91 : decode cX12_reads 91 = .ok (.invokevirtual 96, 3) := by decide +kernel
theorem dX12_reads_94 : decode cX12_reads 94 = .ok (.ifCond .ne (-13), 3) := by decide +kernel
theorem dX12_reads_97 : decode cX12_reads 97 = .ok (.iconst 0, 1) := by decide +kernel
theorem dX12_reads_98 : decode cX12_reads 98 = .ok (.ireturn, 1) := by decide +kernel
theorem dX12_reads_99 : decode cX12_reads 99 = .ok (.aload_n 0, 1) := by decide +kernel
theorem dX12_reads_100 : decode cX12_reads 100 = .ok (.bipush 59, 2) := by decide +kernel
theorem dX12_reads_102 : decode cX12_reads 102 = .ok (.invokevirtual 85, 3) := by decide +kernel
theorem dX12_reads_105 : decode cX12_reads 105 = .ok (.ifCond .eq 10, 3) := by decide +kernel
theorem dX12_reads_108 : decode cX12_reads 108 = .ok (.aload_n 0, 1) := by decide +kernel
theorem dX12_reads_109 : decode cX12_reads 109 = .ok (.invokevirtual 99, 3) := by decide +kernel
theorem dX12_reads_112 : decode cX12_reads 112 = .ok (.ifCond .ne 5, 3) := by decide +kernel
theorem dX12_reads_115 : decode cX12_reads 115 = .ok (.iconst 0, 1) := by decide +kernel
theorem dX12_reads_116 : decode cX12_reads 116 = .ok (.ireturn, 1) := by decide +kernel
theorem dX12_reads_117 : decode cX12_reads 117 = .ok (.aload_n 0, 1) := by decide +kernel
theorem dX12_reads_118 : decode cX12_reads 118 = .ok (.iconst 2, 1) := by decide +kernel
theorem dX12_reads_119 : decode cX12_reads 119 = .ok (.iconst 3, 1) := by decide +kernel
theorem dX12_reads_120 : decode cX12_reads 120 = .ok (.invokevirtual 93, 3) := by decide +kernel
theorem dX12_reads_123 : decode cX12_reads 123 = .ok (.ifCond .eq 12, 3) := by decide +kernel
theorem dX12_reads_126 : decode cX12_reads 126 = .ok (.aload_n 0, 1) := by decide +kernel
theorem dX12_reads_127 : decode cX12_reads 127 = .ok (.invokevirtual 99, 3) := by decide +kernel
theorem dX12_reads_130 : decode cX12_reads 130 = .ok (.ifCond .ne (-13), 3) := by decide +kernel
theorem dX12_reads_133 : decode cX12_reads 133 = .ok (.iconst 0, 1) := by decide +kernel
theorem dX12_reads_134 : decode cX12_reads 134 = .ok (.ireturn, 1) := by decide +kernel
theorem dX12_reads_135 : decode cX12_reads 135 = .ok (.aload_n 0, 1) := by decide +kernel
theorem dX12_reads_136 : decode cX12_reads 136 = .ok (.getfield 67, 3) := by decide +kernel
theorem dX12_reads_139 : decode cX12_reads 139 = .ok (.aload_n 0, 1) := by decide +kernel
theorem dX12_reads_140 : decode cX12_reads 140 = .ok (.getfield 63, 3) := by decide +kernel
theorem dX12_reads_143 : decode cX12_reads 143 = .ok (.if_icmp .ne 7, 3) := by decide +kernel
theorem dX12_reads_146 : decode cX12_reads 146 = .ok (.iconst 1, 1) := by decide +kernel
theorem dX12_reads_147 : decode cX12_reads 147 = .ok (.goto 4, 3) := by decide +kernel
theorem dX12_reads_150 : decode cX12_reads 150 = .ok (.iconst 0, 1) := by decide +kernel
theorem dX12_reads_151 : decode cX12_reads 151 = .ok (.ireturn, 1) := by decide +kernel
end
section
theorem dX12_cloth_0 : decode cX12_cloth 0 = .ok (.aload_n 0, 1) := by decide +kernel
theorem dX12_cloth_1 : decode cX12_cloth 1 = .ok (.invokevirtual 102, 3) := by decide +kernel
theorem dX12_cloth_4 : decode cX12_cloth 4 = .ok (.istore_n 1, 1) := by decide +kernel
theorem dX12_cloth_5 : decode cX12_cloth 5 = .ok (.aload_n 0, 1) := by decide +kernel
theorem dX12_cloth_6 : decode cX12_cloth 6 = .ok (.iconst 0, 1) := by decide +kernel
theorem dX12_cloth_7 : decode cX12_cloth 7 = .ok (.putfield 63, 3) := by decide +kernel
theorem dX12_cloth_10 : decode cX12_cloth 10 = .ok (.iload_n 1, 1) := by decide +kernel
theorem dX12_cloth_11 : decode cX12_cloth 11 = .ok (.ifCond .ne 11, 3) := by decide +kernel
theorem dX12_cloth_14 : decode cX12_cloth 14 = .ok (.bipush (-100), 2) := by decide +kernel
theorem dX12_cloth_16 : decode cX12_cloth 16 = .ok (.aload_n 0, 1) := by decide +kernel
theorem dX12_cloth_17 : decode cX12_cloth 17 = .ok (.getfield 67, 3) := by decide +kernel
theorem dX12_cloth_20 : decode cX12_cloth 20 = .ok (.isub, 1) := by decide +kernel
theorem dX12_cloth_21 : decode cX12_cloth 21 = .ok (.ireturn, 1) := by decide +kernel
theorem dX12_cloth_22 : decode cX12_cloth 22 = .ok (.aload_n 0, 1) := by decide +kernel
theorem dX12_cloth_23 : decode cX12_cloth 23 = .ok (.getfield 13, 3) := by decide +kernel
theorem dX12_cloth_26 : decode cX12_cloth 26 = .ok (.iconst 0, 1) := by decide +kernel
theorem dX12_cloth_27 : decode cX12_cloth 27 = .ok (.aload_n 0, 1) := by decide +kernel
theorem dX12_cloth_28 : decode cX12_cloth 28 = .ok (.getfield 7, 3) := by decide +kernel
theorem dX12_cloth_31 : decode cX12_cloth 31 = .ok (.iconst 0, 1) := by decide +kernel
theorem dX12_cloth_32 : decode cX12_cloth 32 = .ok (.bipush 26, 2) := by decide +kernel
theorem dX12_cloth_34 : decode cX12_cloth 34 = .ok (.invokestatic 105, 3) := by decide +kernel
theorem dX12_cloth_37 : decode cX12_cloth 37 = .ok (.iconst 0, 1) := by decide +kernel
theorem dX12_cloth_38 : decode cX12_cloth 38 = .ok (.istore_n 2, 1) := by decide +kernel
theorem dX12_cloth_39 : decode cX12_cloth 39 = .ok (.iload_n 2, 1) := by decide +kernel
theorem dX12_cloth_40 : decode cX12_cloth 40 = .ok (.bipush 32, 2) := by decide +kernel
theorem dX12_cloth_42 : decode cX12_cloth 42 = .ok (.if_icmp .ge 16, 3) := by decide +kernel
theorem dX12_cloth_45 : decode cX12_cloth 45 = .ok (.aload_n 0, 1) := by decide +kernel
theorem dX12_cloth_46 : decode cX12_cloth 46 = .ok (.getfield 19, 3) := by decide +kernel
theorem dX12_cloth_49 : decode cX12_cloth 49 = .ok (.iload_n 2, 1) := by decide +kernel
theorem dX12_cloth_50 : decode cX12_cloth 50 = .ok (.iconst 0, 1) := by decide +kernel
theorem dX12_cloth_51 : decode cX12_cloth 51 = .ok (.iastore, 1) := by decide +kernel
theorem dX12_cloth_52 : decode cX12_cloth 52 = .ok (.iinc 2 1, 3) := by decide +kernel
theorem dX12_cloth_55 : decode cX12_cloth 55 = .ok (.goto (-16), 3) := by decide +kernel
theorem dX12_cloth_58 : decode cX12_cloth 58 = .ok (.aload_n 0, 1) := by decide +kernel
theorem dX12_cloth_59 : decode cX12_cloth 59 = .ok (.getfield 16, 3) := by decide +kernel
theorem dX12_cloth_62 : decode cX12_cloth 62 = .ok (.iconst 0, 1) := by decide +kernel
theorem dX12_cloth_63 : decode cX12_cloth 63 = .ok (.aload_n 0, 1) := by decide +kernel
theorem dX12_cloth_64 : decode cX12_cloth 64 = .ok (.getfield 19, 3) := by decide +kernel
theorem dX12_cloth_67 : decode cX12_cloth 67 = .ok (.bipush 32, 2) := by decide +kernel
theorem dX12_cloth_69 : decode cX12_cloth 69 = .ok (.bipush 8, 2) := by decide +kernel
theorem dX12_cloth_71 : decode cX12_cloth 71 = .ok (.invokestatic 105, 3) := by decide +kernel
theorem dX12_cloth_74 : decode cX12_cloth 74 = .ok (.aload_n 0, 1) := by decide +kernel
theorem dX12_cloth_75 : decode cX12_cloth 75 = .ok (.iconst 0, 1) := by decide +kernel
theorem dX12_cloth_76 : decode cX12_cloth 76 = .ok (.putfield 109, 3) := by decide +kernel
theorem dX12_cloth_79 : decode cX12_cloth 79 = .ok (.aload_n 0, 1) := by decide +kernel
theorem dX12_cloth_80 : decode cX12_cloth 80 = .ok (.iconst 0, 1) := by decide +kernel
theorem dX12_cloth_81 : decode cX12_cloth 81 = .ok (.putfield 112, 3) := by decide +kernel
theorem dX12_cloth_84 : decode cX12_cloth 84 = .ok (.aload_n 0, 1) := by decide +kernel
theorem dX12_cloth_85 : decode cX12_cloth 85 = .ok (.getfield 7, 3) := by decide +kernel
theorem dX12_cloth_88 : decode cX12_cloth 88 = .ok (.iconst 0, 1) := by decide +kernel
theorem dX12_cloth_89 : decode cX12_cloth 89 = .ok (.iaload, 1) := by decide +kernel
theorem dX12_cloth_90 : decode cX12_cloth 90 = .ok (.ireturn, 1) := by decide +kernel
theorem dX12_isSquare_0 : decode cX12_isSquare 0 = .ok (.iload_n 1, 1) := by decide +kernel
theorem dX12_isSquare_1 : decode cX12_isSquare 1 = .ok (.i2l, 1) := by decide +kernel
theorem dX12_isSquare_2 : decode cX12_isSquare 2 = .ok (.lconst 0, 1) := by decide +kernel
theorem dX12_isSquare_3 : decode cX12_isSquare 3 = .ok (.aload_n 0, 1) := by decide +kernel
theorem dX12_isSquare_4 : decode cX12_isSquare 4 = .ok (.getfield 7, 3) := by decide +kernel
theorem dX12_isSquare_7 : decode cX12_isSquare 7 = .ok (.iconst 0, 1) := by decide +kernel
theorem dX12_isSquare_8 : decode cX12_isSquare 8 = .ok (.iaload, 1) := by decide +kernel
theorem dX12_isSquare_9 : decode cX12_isSquare 9 = .ok (.iconst 1, 1) := by decide +kernel
theorem dX12_isSquare_10 : decode cX12_isSquare 10 = .ok (.isub, 1) := by decide +kernel
theorem dX12_isSquare_11 : decode cX12_isSquare 11 = .ok (.i2l, 1) := by decide +kernel
theorem dX12_isSquare_12 : decode cX12_isSquare 12 = .ok (.invokestatic 59, 3) := by decide +kernel
theorem dX12_isSquare_15 : decode cX12_isSquare 15 = .ok (.ireturn, 1) := by decide +kernel
theorem dX12_isDye_0 : decode cX12_isDye 0 = .ok (.iload_n 1, 1) := by decide +kernel
theorem dX12_isDye_1 : decode cX12_isDye 1 = .ok (.i2l, 1) := by decide +kernel
theorem dX12_isDye_2 : decode cX12_isDye 2 = .ok (.lconst 0, 1) := by decide +kernel
theorem dX12_isDye_3 : decode cX12_isDye 3 = .ok (.aload_n 0, 1) := by decide +kernel
theorem dX12_isDye_4 : decode cX12_isDye 4 = .ok (.getfield 7, 3) := by decide +kernel
theorem dX12_isDye_7 : decode cX12_isDye 7 = .ok (.iconst 1, 1) := by decide +kernel
theorem dX12_isDye_8 : decode cX12_isDye 8 = .ok (.iaload, 1) := by decide +kernel
theorem dX12_isDye_9 : decode cX12_isDye 9 = .ok (.iconst 1, 1) := by decide +kernel
theorem dX12_isDye_10 : decode cX12_isDye 10 = .ok (.isub, 1) := by decide +kernel
theorem dX12_isDye_11 : decode cX12_isDye 11 = .ok (.i2l, 1) := by decide +kernel
theorem dX12_isDye_12 : decode cX12_isDye 12 = .ok (.invokestatic 59, 3) := by decide +kernel
theorem dX12_isDye_15 : decode cX12_isDye 15 = .ok (.ireturn, 1) := by decide +kernel
theorem dX12_hueOf_0 : decode cX12_hueOf 0 = .ok (.iconst 0, 1) := by decide +kernel
theorem dX12_hueOf_1 : decode cX12_hueOf 1 = .ok (.istore_n 2, 1) := by decide +kernel
theorem dX12_hueOf_2 : decode cX12_hueOf 2 = .ok (.iconst 0, 1) := by decide +kernel
theorem dX12_hueOf_3 : decode cX12_hueOf 3 = .ok (.istore_n 3, 1) := by decide +kernel
theorem dX12_hueOf_4 : decode cX12_hueOf 4 = .ok (.iload_n 3, 1) := by decide +kernel
theorem dX12_hueOf_5 : decode cX12_hueOf 5 = .ok (.iconst 3, 1) := by decide +kernel
theorem dX12_hueOf_6 : decode cX12_hueOf 6 = .ok (.if_icmp .ge 33, 3) := by decide +kernel
theorem dX12_hueOf_9 : decode cX12_hueOf 9 = .ok (.aload_n 0, 1) := by decide +kernel
theorem dX12_hueOf_10 : decode cX12_hueOf 10 = .ok (.iconst 0, 1) := by decide +kernel
theorem dX12_hueOf_11 : decode cX12_hueOf 11 = .ok (.iconst 3, 1) := by decide +kernel
theorem dX12_hueOf_12 : decode cX12_hueOf 12 = .ok (.iload_n 1, 1) := by decide +kernel
theorem dX12_hueOf_13 : decode cX12_hueOf 13 = .ok (.imul, 1) := by decide +kernel
theorem dX12_hueOf_14 : decode cX12_hueOf 14 = .ok (.iadd, 1) := by decide +kernel
theorem dX12_hueOf_15 : decode cX12_hueOf 15 = .ok (.iload_n 3, 1) := by decide +kernel
theorem dX12_hueOf_16 : decode cX12_hueOf 16 = .ok (.iadd, 1) := by decide +kernel
theorem dX12_hueOf_17 : decode cX12_hueOf 17 = .ok (.iaload, 1) := by decide +kernel
theorem dX12_hueOf_18 : decode cX12_hueOf 18 = .ok (.istore 4, 2) := by decide +kernel
theorem dX12_hueOf_20 : decode cX12_hueOf 20 = .ok (.iload 4, 2) := by decide +kernel
theorem dX12_hueOf_22 : decode cX12_hueOf 22 = .ok (.iload_n 2, 1) := by decide +kernel
theorem dX12_hueOf_23 : decode cX12_hueOf 23 = .ok (.if_icmp .le 8, 3) := by decide +kernel
theorem dX12_hueOf_26 : decode cX12_hueOf 26 = .ok (.iload 4, 2) := by decide +kernel
theorem dX12_hueOf_28 : decode cX12_hueOf 28 = .ok (.goto 4, 3) := by decide +kernel
theorem dX12_hueOf_31 : decode cX12_hueOf 31 = .ok (.iload_n 2, 1) := by decide +kernel
theorem dX12_hueOf_32 : decode cX12_hueOf 32 = .ok (.istore_n 2, 1) := by decide +kernel
theorem dX12_hueOf_33 : decode cX12_hueOf 33 = .ok (.iinc 3 1, 3) := by decide +kernel
theorem dX12_hueOf_36 : decode cX12_hueOf 36 = .ok (.goto (-32), 3) := by decide +kernel
theorem dX12_hueOf_39 : decode cX12_hueOf 39 = .ok (.iconst 0, 1) := by decide +kernel
theorem dX12_hueOf_40 : decode cX12_hueOf 40 = .ok (.istore_n 3, 1) := by decide +kernel
theorem dX12_hueOf_41 : decode cX12_hueOf 41 = .ok (.iconst 0, 1) := by decide +kernel
theorem dX12_hueOf_42 : decode cX12_hueOf 42 = .ok (.istore 4, 2) := by decide +kernel
theorem dX12_hueOf_44 : decode cX12_hueOf 44 = .ok (.iload 4, 2) := by decide +kernel
theorem dX12_hueOf_46 : decode cX12_hueOf 46 = .ok (.iconst 3, 1) := by decide +kernel
theorem dX12_hueOf_47 : decode cX12_hueOf 47 = .ok (.if_icmp .ge 45, 3) := by decide +kernel
theorem dX12_hueOf_50 : decode cX12_hueOf 50 = .ok (.aload_n 0, 1) := by decide +kernel
theorem dX12_hueOf_51 : decode cX12_hueOf 51 = .ok (.iconst 0, 1) := by decide +kernel
theorem dX12_hueOf_52 : decode cX12_hueOf 52 = .ok (.iconst 3, 1) := by decide +kernel
theorem dX12_hueOf_53 : decode cX12_hueOf 53 = .ok (.iload_n 1, 1) := by decide +kernel
theorem dX12_hueOf_54 : decode cX12_hueOf 54 = .ok (.imul, 1) := by decide +kernel
theorem dX12_hueOf_55 : decode cX12_hueOf 55 = .ok (.iadd, 1) := by decide +kernel
theorem dX12_hueOf_56 : decode cX12_hueOf 56 = .ok (.iload 4, 2) := by decide +kernel
theorem dX12_hueOf_58 : decode cX12_hueOf 58 = .ok (.iadd, 1) := by decide +kernel
theorem dX12_hueOf_59 : decode cX12_hueOf 59 = .ok (.iaload, 1) := by decide +kernel
theorem dX12_hueOf_60 : decode cX12_hueOf 60 = .ok (.istore 5, 2) := by decide +kernel
theorem dX12_hueOf_62 : decode cX12_hueOf 62 = .ok (.iload_n 3, 1) := by decide +kernel
theorem dX12_hueOf_63 : decode cX12_hueOf 63 = .ok (.iload 5, 2) := by decide +kernel
theorem dX12_hueOf_65 : decode cX12_hueOf 65 = .ok (.ifCond .le 18, 3) := by decide +kernel
theorem dX12_hueOf_68 : decode cX12_hueOf 68 = .ok (.iconst 2, 1) := by decide +kernel
theorem dX12_hueOf_69 : decode cX12_hueOf 69 = .ok (.iload 5, 2) := by decide +kernel
theorem dX12_hueOf_71 : decode cX12_hueOf 71 = .ok (.imul, 1) := by decide +kernel
theorem dX12_hueOf_72 : decode cX12_hueOf 72 = .ok (.iload_n 2, 1) := by decide +kernel
theorem dX12_hueOf_73 : decode cX12_hueOf 73 = .ok (.if_icmp .lt 10, 3) := by decide +kernel
theorem dX12_hueOf_76 : decode cX12_hueOf 76 = .ok (.iconst 1, 1) := by decide +kernel
theorem dX12_hueOf_77 : decode cX12_hueOf 77 = .ok (.iload 4, 2) := by decide +kernel
theorem dX12_hueOf_79 : decode cX12_hueOf 79 = .ok (.ishl, 1) := by decide +kernel
theorem dX12_hueOf_80 : decode cX12_hueOf 80 = .ok (.goto 4, 3) := by decide +kernel
theorem dX12_hueOf_83 : decode cX12_hueOf 83 = .ok (.iconst 0, 1) := by decide +kernel
theorem dX12_hueOf_84 : decode cX12_hueOf 84 = .ok (.ior, 1) := by decide +kernel
theorem dX12_hueOf_85 : decode cX12_hueOf 85 = .ok (.istore_n 3, 1) := by decide +kernel
theorem dX12_hueOf_86 : decode cX12_hueOf 86 = .ok (.iinc 4 1, 3) := by decide +kernel
theorem dX12_hueOf_89 : decode cX12_hueOf 89 = .ok (.goto (-45), 3) := by decide +kernel
theorem dX12_hueOf_92 : decode cX12_hueOf 92 = .ok (.iload_n 3, 1) := by decide +kernel
theorem dX12_hueOf_93 : decode cX12_hueOf 93 = .ok (.ireturn, 1) := by decide +kernel
theorem dX12_darkOf_0 : decode cX12_darkOf 0 = .ok (.aload_n 0, 1) := by decide +kernel
theorem dX12_darkOf_1 : decode cX12_darkOf 1 = .ok (.iconst 0, 1) := by decide +kernel
theorem dX12_darkOf_2 : decode cX12_darkOf 2 = .ok (.iconst 3, 1) := by decide +kernel
theorem dX12_darkOf_3 : decode cX12_darkOf 3 = .ok (.iload_n 1, 1) := by decide +kernel
theorem dX12_darkOf_4 : decode cX12_darkOf 4 = .ok (.imul, 1) := by decide +kernel
theorem dX12_darkOf_5 : decode cX12_darkOf 5 = .ok (.iadd, 1) := by decide +kernel
theorem dX12_darkOf_6 : decode cX12_darkOf 6 = .ok (.iaload, 1) := by decide +kernel
theorem dX12_darkOf_7 : decode cX12_darkOf 7 = .ok (.aload_n 0, 1) := by decide +kernel
theorem dX12_darkOf_8 : decode cX12_darkOf 8 = .ok (.iconst 0, 1) := by decide +kernel
theorem dX12_darkOf_9 : decode cX12_darkOf 9 = .ok (.iconst 3, 1) := by decide +kernel
theorem dX12_darkOf_10 : decode cX12_darkOf 10 = .ok (.iload_n 1, 1) := by decide +kernel
theorem dX12_darkOf_11 : decode cX12_darkOf 11 = .ok (.imul, 1) := by decide +kernel
theorem dX12_darkOf_12 : decode cX12_darkOf 12 = .ok (.iadd, 1) := by decide +kernel
theorem dX12_darkOf_13 : decode cX12_darkOf 13 = .ok (.iconst 1, 1) := by decide +kernel
theorem dX12_darkOf_14 : decode cX12_darkOf 14 = .ok (.iadd, 1) := by decide +kernel
theorem dX12_darkOf_15 : decode cX12_darkOf 15 = .ok (.iaload, 1) := by decide +kernel
theorem dX12_darkOf_16 : decode cX12_darkOf 16 = .ok (.iadd, 1) := by decide +kernel
theorem dX12_darkOf_17 : decode cX12_darkOf 17 = .ok (.aload_n 0, 1) := by decide +kernel
theorem dX12_darkOf_18 : decode cX12_darkOf 18 = .ok (.iconst 0, 1) := by decide +kernel
theorem dX12_darkOf_19 : decode cX12_darkOf 19 = .ok (.iconst 3, 1) := by decide +kernel
theorem dX12_darkOf_20 : decode cX12_darkOf 20 = .ok (.iload_n 1, 1) := by decide +kernel
theorem dX12_darkOf_21 : decode cX12_darkOf 21 = .ok (.imul, 1) := by decide +kernel
theorem dX12_darkOf_22 : decode cX12_darkOf 22 = .ok (.iadd, 1) := by decide +kernel
theorem dX12_darkOf_23 : decode cX12_darkOf 23 = .ok (.iconst 2, 1) := by decide +kernel
theorem dX12_darkOf_24 : decode cX12_darkOf 24 = .ok (.iadd, 1) := by decide +kernel
theorem dX12_darkOf_25 : decode cX12_darkOf 25 = .ok (.iaload, 1) := by decide +kernel
theorem dX12_darkOf_26 : decode cX12_darkOf 26 = .ok (.iadd, 1) := by decide +kernel
theorem dX12_darkOf_27 : decode cX12_darkOf 27 = .ok (.ireturn, 1) := by decide +kernel
theorem dX12_isRight_0 : decode cX12_isRight 0 = .ok (.aload_n 0, 1) := by decide +kernel
theorem dX12_isRight_1 : decode cX12_isRight 1 = .ok (.iload_n 1, 1) := by decide +kernel
theorem dX12_isRight_2 : decode cX12_isRight 2 = .ok (.invokestatic 115, 3) := by decide +kernel
theorem dX12_isRight_5 : decode cX12_isRight 5 = .ok (.aload_n 0, 1) := by decide +kernel
theorem dX12_isRight_6 : decode cX12_isRight 6 = .ok (.bipush 32, 2) := by decide +kernel
theorem dX12_isRight_8 : decode cX12_isRight 8 = .ok (.iload_n 1, 1) := by decide +kernel
theorem dX12_isRight_9 : decode cX12_isRight 9 = .ok (.iadd, 1) := by decide +kernel
theorem dX12_isRight_10 : decode cX12_isRight 10 = .ok (.iaload, 1) := by decide +kernel
theorem dX12_isRight_11 : decode cX12_isRight 11 = .ok (.if_icmp .ne 7, 3) := by decide +kernel
theorem dX12_isRight_14 : decode cX12_isRight 14 = .ok (.iconst 1, 1) := by decide +kernel
theorem dX12_isRight_15 : decode cX12_isRight 15 = .ok (.goto 4, 3) := by decide +kernel
theorem dX12_isRight_18 : decode cX12_isRight 18 = .ok (.iconst 0, 1) := by decide +kernel
theorem dX12_isRight_19 : decode cX12_isRight 19 = .ok (.ireturn, 1) := by decide +kernel
theorem dX12_rightOn_0 : decode cX12_rightOn 0 = .ok (.iconst 0, 1) := by decide +kernel
theorem dX12_rightOn_1 : decode cX12_rightOn 1 = .ok (.istore_n 2, 1) := by decide +kernel
theorem dX12_rightOn_2 : decode cX12_rightOn 2 = .ok (.iconst 0, 1) := by decide +kernel
theorem dX12_rightOn_3 : decode cX12_rightOn 3 = .ok (.istore_n 3, 1) := by decide +kernel
theorem dX12_rightOn_4 : decode cX12_rightOn 4 = .ok (.iload_n 3, 1) := by decide +kernel
theorem dX12_rightOn_5 : decode cX12_rightOn 5 = .ok (.aload_n 0, 1) := by decide +kernel
theorem dX12_rightOn_6 : decode cX12_rightOn 6 = .ok (.getfield 7, 3) := by decide +kernel
theorem dX12_rightOn_9 : decode cX12_rightOn 9 = .ok (.iconst 0, 1) := by decide +kernel
theorem dX12_rightOn_10 : decode cX12_rightOn 10 = .ok (.iaload, 1) := by decide +kernel
theorem dX12_rightOn_11 : decode cX12_rightOn 11 = .ok (.if_icmp .ge 27, 3) := by decide +kernel
theorem dX12_rightOn_14 : decode cX12_rightOn 14 = .ok (.iload_n 2, 1) := by decide +kernel
theorem dX12_rightOn_15 : decode cX12_rightOn 15 = .ok (.aload_n 1, 1) := by decide +kernel
theorem dX12_rightOn_16 : decode cX12_rightOn 16 = .ok (.iload_n 3, 1) := by decide +kernel
theorem dX12_rightOn_17 : decode cX12_rightOn 17 = .ok (.invokestatic 119, 3) := by decide +kernel
theorem dX12_rightOn_20 : decode cX12_rightOn 20 = .ok (.ifCond .eq 9, 3) := by decide +kernel
theorem dX12_rightOn_23 : decode cX12_rightOn 23 = .ok (.iconst 1, 1) := by decide +kernel
theorem dX12_rightOn_24 : decode cX12_rightOn 24 = .ok (.iload_n 3, 1) := by decide +kernel
theorem dX12_rightOn_25 : decode cX12_rightOn 25 = .ok (.ishl, 1) := by decide +kernel
theorem dX12_rightOn_26 : decode cX12_rightOn 26 = .ok (.goto 4, 3) := by decide +kernel
theorem dX12_rightOn_29 : decode cX12_rightOn 29 = .ok (.iconst 0, 1) := by decide +kernel
theorem dX12_rightOn_30 : decode cX12_rightOn 30 = .ok (.ior, 1) := by decide +kernel
theorem dX12_rightOn_31 : decode cX12_rightOn 31 = .ok (.istore_n 2, 1) := by decide +kernel
theorem dX12_rightOn_32 : decode cX12_rightOn 32 = .ok (.iinc 3 1, 3) := by decide +kernel
theorem dX12_rightOn_35 : decode cX12_rightOn 35 = .ok (.goto (-31), 3) := by decide +kernel
theorem dX12_rightOn_38 : decode cX12_rightOn 38 = .ok (.iload_n 2, 1) := by decide +kernel
theorem dX12_rightOn_39 : decode cX12_rightOn 39 = .ok (.ireturn, 1) := by decide +kernel
theorem dX12_darkAll_0 : decode cX12_darkAll 0 = .ok (.iconst 0, 1) := by decide +kernel
theorem dX12_darkAll_1 : decode cX12_darkAll 1 = .ok (.istore_n 2, 1) := by decide +kernel
theorem dX12_darkAll_2 : decode cX12_darkAll 2 = .ok (.iconst 0, 1) := by decide +kernel
theorem dX12_darkAll_3 : decode cX12_darkAll 3 = .ok (.istore_n 3, 1) := by decide +kernel
theorem dX12_darkAll_4 : decode cX12_darkAll 4 = .ok (.iload_n 3, 1) := by decide +kernel
theorem dX12_darkAll_5 : decode cX12_darkAll 5 = .ok (.aload_n 0, 1) := by decide +kernel
theorem dX12_darkAll_6 : decode cX12_darkAll 6 = .ok (.getfield 7, 3) := by decide +kernel
theorem dX12_darkAll_9 : decode cX12_darkAll 9 = .ok (.iconst 0, 1) := by decide +kernel
theorem dX12_darkAll_10 : decode cX12_darkAll 10 = .ok (.iaload, 1) := by decide +kernel
theorem dX12_darkAll_11 : decode cX12_darkAll 11 = .ok (.if_icmp .ge 17, 3) := by decide +kernel
theorem dX12_darkAll_14 : decode cX12_darkAll 14 = .ok (.iload_n 2, 1) := by decide +kernel
theorem dX12_darkAll_15 : decode cX12_darkAll 15 = .ok (.aload_n 1, 1) := by decide +kernel
theorem dX12_darkAll_16 : decode cX12_darkAll 16 = .ok (.iload_n 3, 1) := by decide +kernel
theorem dX12_darkAll_17 : decode cX12_darkAll 17 = .ok (.invokestatic 123, 3) := by decide +kernel
theorem dX12_darkAll_20 : decode cX12_darkAll 20 = .ok (.iadd, 1) := by decide +kernel
theorem dX12_darkAll_21 : decode cX12_darkAll 21 = .ok (.istore_n 2, 1) := by decide +kernel
theorem dX12_darkAll_22 : decode cX12_darkAll 22 = .ok (.iinc 3 1, 3) := by decide +kernel
theorem dX12_darkAll_25 : decode cX12_darkAll 25 = .ok (.goto (-21), 3) := by decide +kernel
theorem dX12_darkAll_28 : decode cX12_darkAll 28 = .ok (.iload_n 2, 1) := by decide +kernel
theorem dX12_darkAll_29 : decode cX12_darkAll 29 = .ok (.ireturn, 1) := by decide +kernel
theorem dX12_takenBy_0 : decode cX12_takenBy 0 = .ok (.iload_n 0, 1) := by decide +kernel
theorem dX12_takenBy_1 : decode cX12_takenBy 1 = .ok (.tableswitch 82 2 5 #[31, 37, 49, 63], 31) := by decide +kernel
theorem dX12_takenBy_32 : decode cX12_takenBy 32 = .ok (.iload_n 2, 1) := by decide +kernel
theorem dX12_takenBy_33 : decode cX12_takenBy 33 = .ok (.iconst 2, 1) := by decide +kernel
theorem dX12_takenBy_34 : decode cX12_takenBy 34 = .ok (.invokestatic 126, 3) := by decide +kernel
theorem dX12_takenBy_37 : decode cX12_takenBy 37 = .ok (.ireturn, 1) := by decide +kernel
theorem dX12_takenBy_38 : decode cX12_takenBy 38 = .ok (.iload_n 2, 1) := by decide +kernel
theorem dX12_takenBy_39 : decode cX12_takenBy 39 = .ok (.ifCond .ne 7, 3) := by decide +kernel
theorem dX12_takenBy_42 : decode cX12_takenBy 42 = .ok (.iconst 0, 1) := by decide +kernel
theorem dX12_takenBy_43 : decode cX12_takenBy 43 = .ok (.goto 6, 3) := by decide +kernel
theorem dX12_takenBy_46 : decode cX12_takenBy 46 = .ok (.iload_n 2, 1) := by decide +kernel
theorem dX12_takenBy_47 : decode cX12_takenBy 47 = .ok (.iconst 1, 1) := by decide +kernel
theorem dX12_takenBy_48 : decode cX12_takenBy 48 = .ok (.iadd, 1) := by decide +kernel
theorem dX12_takenBy_49 : decode cX12_takenBy 49 = .ok (.ireturn, 1) := by decide +kernel
theorem dX12_takenBy_50 : decode cX12_takenBy 50 = .ok (.iload_n 2, 1) := by decide +kernel
theorem dX12_takenBy_51 : decode cX12_takenBy 51 = .ok (.ifCond .ne 7, 3) := by decide +kernel
theorem dX12_takenBy_54 : decode cX12_takenBy 54 = .ok (.iconst 0, 1) := by decide +kernel
theorem dX12_takenBy_55 : decode cX12_takenBy 55 = .ok (.goto 8, 3) := by decide +kernel
theorem dX12_takenBy_58 : decode cX12_takenBy 58 = .ok (.iload_n 2, 1) := by decide +kernel
theorem dX12_takenBy_59 : decode cX12_takenBy 59 = .ok (.iconst 2, 1) := by decide +kernel
theorem dX12_takenBy_60 : decode cX12_takenBy 60 = .ok (.idiv, 1) := by decide +kernel
theorem dX12_takenBy_61 : decode cX12_takenBy 61 = .ok (.iconst 1, 1) := by decide +kernel
theorem dX12_takenBy_62 : decode cX12_takenBy 62 = .ok (.iadd, 1) := by decide +kernel
theorem dX12_takenBy_63 : decode cX12_takenBy 63 = .ok (.ireturn, 1) := by decide +kernel
theorem dX12_takenBy_64 : decode cX12_takenBy 64 = .ok (.iload_n 2, 1) := by decide +kernel
theorem dX12_takenBy_65 : decode cX12_takenBy 65 = .ok (.ifCond .eq 8, 3) := by decide +kernel
theorem dX12_takenBy_68 : decode cX12_takenBy 68 = .ok (.iload_n 1, 1) := by decide +kernel
theorem dX12_takenBy_69 : decode cX12_takenBy 69 = .ok (.iconst 4, 1) := by decide +kernel
theorem dX12_takenBy_70 : decode cX12_takenBy 70 = .ok (.if_icmp .lt 7, 3) := by decide +kernel
theorem dX12_takenBy_73 : decode cX12_takenBy 73 = .ok (.iconst 0, 1) := by decide +kernel
theorem dX12_takenBy_74 : decode cX12_takenBy 74 = .ok (.goto 8, 3) := by decide +kernel
theorem dX12_takenBy_77 : decode cX12_takenBy 77 = .ok (.iload_n 2, 1) := by decide +kernel
theorem dX12_takenBy_78 : decode cX12_takenBy 78 = .ok (.iconst 2, 1) := by decide +kernel
theorem dX12_takenBy_79 : decode cX12_takenBy 79 = .ok (.idiv, 1) := by decide +kernel
theorem dX12_takenBy_80 : decode cX12_takenBy 80 = .ok (.iconst 1, 1) := by decide +kernel
theorem dX12_takenBy_81 : decode cX12_takenBy 81 = .ok (.iadd, 1) := by decide +kernel
theorem dX12_takenBy_82 : decode cX12_takenBy 82 = .ok (.ireturn, 1) := by decide +kernel
theorem dX12_takenBy_83 : decode cX12_takenBy 83 = .ok (.iload_n 2, 1) := by decide +kernel
theorem dX12_takenBy_84 : decode cX12_takenBy 84 = .ok (.ireturn, 1) := by decide +kernel
theorem dX12_takenOn_0 : decode cX12_takenOn 0 = .ok (.aload_n 1, 1) := by decide +kernel
theorem dX12_takenOn_1 : decode cX12_takenOn 1 = .ok (.iconst 0, 1) := by decide +kernel
theorem dX12_takenOn_2 : decode cX12_takenOn 2 = .ok (.iconst 3, 1) := by decide +kernel
theorem dX12_takenOn_3 : decode cX12_takenOn 3 = .ok (.iload_n 2, 1) := by decide +kernel
theorem dX12_takenOn_4 : decode cX12_takenOn 4 = .ok (.imul, 1) := by decide +kernel
theorem dX12_takenOn_5 : decode cX12_takenOn 5 = .ok (.iadd, 1) := by decide +kernel
theorem dX12_takenOn_6 : decode cX12_takenOn 6 = .ok (.iload 4, 2) := by decide +kernel
theorem dX12_takenOn_8 : decode cX12_takenOn 8 = .ok (.iadd, 1) := by decide +kernel
theorem dX12_takenOn_9 : decode cX12_takenOn 9 = .ok (.iaload, 1) := by decide +kernel
theorem dX12_takenOn_10 : decode cX12_takenOn 10 = .ok (.istore 5, 2) := by decide +kernel
theorem dX12_takenOn_12 : decode cX12_takenOn 12 = .ok (.aload_n 1, 1) := by decide +kernel
theorem dX12_takenOn_13 : decode cX12_takenOn 13 = .ok (.bipush 24, 2) := by decide +kernel
theorem dX12_takenOn_15 : decode cX12_takenOn 15 = .ok (.iload_n 2, 1) := by decide +kernel
theorem dX12_takenOn_16 : decode cX12_takenOn 16 = .ok (.iadd, 1) := by decide +kernel
theorem dX12_takenOn_17 : decode cX12_takenOn 17 = .ok (.iaload, 1) := by decide +kernel
theorem dX12_takenOn_18 : decode cX12_takenOn 18 = .ok (.ifCond .le 7, 3) := by decide +kernel
theorem dX12_takenOn_21 : decode cX12_takenOn 21 = .ok (.iconst 0, 1) := by decide +kernel
theorem dX12_takenOn_22 : decode cX12_takenOn 22 = .ok (.goto 38, 3) := by decide +kernel
theorem dX12_takenOn_25 : decode cX12_takenOn 25 = .ok (.bipush 9, 2) := by decide +kernel
theorem dX12_takenOn_27 : decode cX12_takenOn 27 = .ok (.iload 5, 2) := by decide +kernel
theorem dX12_takenOn_29 : decode cX12_takenOn 29 = .ok (.isub, 1) := by decide +kernel
theorem dX12_takenOn_30 : decode cX12_takenOn 30 = .ok (.aload_n 0, 1) := by decide +kernel
theorem dX12_takenOn_31 : decode cX12_takenOn 31 = .ok (.getfield 7, 3) := by decide +kernel
theorem dX12_takenOn_34 : decode cX12_takenOn 34 = .ok (.iconst 3, 1) := by decide +kernel
theorem dX12_takenOn_35 : decode cX12_takenOn 35 = .ok (.iload_n 2, 1) := by decide +kernel
theorem dX12_takenOn_36 : decode cX12_takenOn 36 = .ok (.iadd, 1) := by decide +kernel
theorem dX12_takenOn_37 : decode cX12_takenOn 37 = .ok (.iaload, 1) := by decide +kernel
theorem dX12_takenOn_38 : decode cX12_takenOn 38 = .ok (.iload 5, 2) := by decide +kernel
theorem dX12_takenOn_40 : decode cX12_takenOn 40 = .ok (.aload_n 0, 1) := by decide +kernel
theorem dX12_takenOn_41 : decode cX12_takenOn 41 = .ok (.getfield 7, 3) := by decide +kernel
theorem dX12_takenOn_44 : decode cX12_takenOn 44 = .ok (.bipush 11, 2) := by decide +kernel
theorem dX12_takenOn_46 : decode cX12_takenOn 46 = .ok (.iconst 3, 1) := by decide +kernel
theorem dX12_takenOn_47 : decode cX12_takenOn 47 = .ok (.iload_n 3, 1) := by decide +kernel
theorem dX12_takenOn_48 : decode cX12_takenOn 48 = .ok (.imul, 1) := by decide +kernel
theorem dX12_takenOn_49 : decode cX12_takenOn 49 = .ok (.iadd, 1) := by decide +kernel
theorem dX12_takenOn_50 : decode cX12_takenOn 50 = .ok (.iload 4, 2) := by decide +kernel
theorem dX12_takenOn_52 : decode cX12_takenOn 52 = .ok (.iadd, 1) := by decide +kernel
theorem dX12_takenOn_53 : decode cX12_takenOn 53 = .ok (.iaload, 1) := by decide +kernel
theorem dX12_takenOn_54 : decode cX12_takenOn 54 = .ok (.invokestatic 130, 3) := by decide +kernel
theorem dX12_takenOn_57 : decode cX12_takenOn 57 = .ok (.invokestatic 126, 3) := by decide +kernel
theorem dX12_takenOn_60 : decode cX12_takenOn 60 = .ok (.ireturn, 1) := by decide +kernel
theorem dX12_cracksOn_0 : decode cX12_cracksOn 0 = .ok (.iload_n 0, 1) := by decide +kernel
theorem dX12_cracksOn_1 : decode cX12_cracksOn 1 = .ok (.iconst 3, 1) := by decide +kernel
theorem dX12_cracksOn_2 : decode cX12_cracksOn 2 = .ok (.if_icmp .ne 7, 3) := by decide +kernel
theorem dX12_cracksOn_5 : decode cX12_cracksOn 5 = .ok (.iconst 2, 1) := by decide +kernel
theorem dX12_cracksOn_6 : decode cX12_cracksOn 6 = .ok (.goto 13, 3) := by decide +kernel
theorem dX12_cracksOn_9 : decode cX12_cracksOn 9 = .ok (.iload_n 0, 1) := by decide +kernel
theorem dX12_cracksOn_10 : decode cX12_cracksOn 10 = .ok (.iconst 4, 1) := by decide +kernel
theorem dX12_cracksOn_11 : decode cX12_cracksOn 11 = .ok (.if_icmp .ne 7, 3) := by decide +kernel
theorem dX12_cracksOn_14 : decode cX12_cracksOn 14 = .ok (.iconst 0, 1) := by decide +kernel
theorem dX12_cracksOn_15 : decode cX12_cracksOn 15 = .ok (.goto 4, 3) := by decide +kernel
theorem dX12_cracksOn_18 : decode cX12_cracksOn 18 = .ok (.iconst 1, 1) := by decide +kernel
theorem dX12_cracksOn_19 : decode cX12_cracksOn 19 = .ok (.ireturn, 1) := by decide +kernel
theorem dX12_bathes_0 : decode cX12_bathes 0 = .ok (.aload_n 1, 1) := by decide +kernel
theorem dX12_bathes_1 : decode cX12_bathes 1 = .ok (.bipush 24, 2) := by decide +kernel
theorem dX12_bathes_3 : decode cX12_bathes 3 = .ok (.iload_n 2, 1) := by decide +kernel
theorem dX12_bathes_4 : decode cX12_bathes 4 = .ok (.iadd, 1) := by decide +kernel
theorem dX12_bathes_5 : decode cX12_bathes 5 = .ok (.iaload, 1) := by decide +kernel
theorem dX12_bathes_6 : decode cX12_bathes 6 = .ok (.ifCond .le 41, 3) := by decide +kernel
theorem dX12_bathes_9 : decode cX12_bathes 9 = .ok (.aload_n 1, 1) := by decide +kernel
theorem dX12_bathes_10 : decode cX12_bathes 10 = .ok (.bipush 24, 2) := by decide +kernel
theorem dX12_bathes_12 : decode cX12_bathes 12 = .ok (.iload_n 2, 1) := by decide +kernel
theorem dX12_bathes_13 : decode cX12_bathes 13 = .ok (.iadd, 1) := by decide +kernel
theorem dX12_bathes_14 : decode cX12_bathes 14 = .ok (.iaload, 1) := by decide +kernel
theorem dX12_bathes_15 : decode cX12_bathes 15 = .ok (.aload_n 0, 1) := by decide +kernel
theorem dX12_bathes_16 : decode cX12_bathes 16 = .ok (.getfield 7, 3) := by decide +kernel
theorem dX12_bathes_19 : decode cX12_bathes 19 = .ok (.iconst 3, 1) := by decide +kernel
theorem dX12_bathes_20 : decode cX12_bathes 20 = .ok (.iload_n 2, 1) := by decide +kernel
theorem dX12_bathes_21 : decode cX12_bathes 21 = .ok (.iadd, 1) := by decide +kernel
theorem dX12_bathes_22 : decode cX12_bathes 22 = .ok (.iaload, 1) := by decide +kernel
theorem dX12_bathes_23 : decode cX12_bathes 23 = .ok (.invokestatic 134, 3) := by decide +kernel
theorem dX12_bathes_26 : decode cX12_bathes 26 = .ok (.isub, 1) := by decide +kernel
theorem dX12_bathes_27 : decode cX12_bathes 27 = .ok (.istore 4, 2) := by decide +kernel
theorem dX12_bathes_29 : decode cX12_bathes 29 = .ok (.aload_n 1, 1) := by decide +kernel
theorem dX12_bathes_30 : decode cX12_bathes 30 = .ok (.bipush 24, 2) := by decide +kernel
theorem dX12_bathes_32 : decode cX12_bathes 32 = .ok (.iload_n 2, 1) := by decide +kernel
theorem dX12_bathes_33 : decode cX12_bathes 33 = .ok (.iadd, 1) := by decide +kernel
theorem dX12_bathes_34 : decode cX12_bathes 34 = .ok (.iload 4, 2) := by decide +kernel
theorem dX12_bathes_36 : decode cX12_bathes 36 = .ok (.ifCond .ge 7, 3) := by decide +kernel
theorem dX12_bathes_39 : decode cX12_bathes 39 = .ok (.iconst 0, 1) := by decide +kernel
theorem dX12_bathes_40 : decode cX12_bathes 40 = .ok (.goto 5, 3) := by decide +kernel
theorem dX12_bathes_43 : decode cX12_bathes 43 = .ok (.iload 4, 2) := by decide +kernel
theorem dX12_bathes_45 : decode cX12_bathes 45 = .ok (.iastore, 1) := by decide +kernel
theorem dX12_bathes_46 : decode cX12_bathes 46 = .ok (.return_, 1) := by decide +kernel
theorem dX12_bathes_47 : decode cX12_bathes 47 = .ok (.iconst 0, 1) := by decide +kernel
theorem dX12_bathes_48 : decode cX12_bathes 48 = .ok (.istore 4, 2) := by decide +kernel
theorem dX12_bathes_50 : decode cX12_bathes 50 = .ok (.iload 4, 2) := by decide +kernel
theorem dX12_bathes_52 : decode cX12_bathes 52 = .ok (.iconst 3, 1) := by decide +kernel
theorem dX12_bathes_53 : decode cX12_bathes 53 = .ok (.if_icmp .ge 31, 3) := by decide +kernel
theorem dX12_bathes_56 : decode cX12_bathes 56 = .ok (.aload_n 1, 1) := by decide +kernel
theorem dX12_bathes_57 : decode cX12_bathes 57 = .ok (.iconst 0, 1) := by decide +kernel
theorem dX12_bathes_58 : decode cX12_bathes 58 = .ok (.iconst 3, 1) := by decide +kernel
theorem dX12_bathes_59 : decode cX12_bathes 59 = .ok (.iload_n 2, 1) := by decide +kernel
theorem dX12_bathes_60 : decode cX12_bathes 60 = .ok (.imul, 1) := by decide +kernel
theorem dX12_bathes_61 : decode cX12_bathes 61 = .ok (.iadd, 1) := by decide +kernel
theorem dX12_bathes_62 : decode cX12_bathes 62 = .ok (.iload 4, 2) := by decide +kernel
theorem dX12_bathes_64 : decode cX12_bathes 64 = .ok (.iadd, 1) := by decide +kernel
theorem dX12_bathes_65 : decode cX12_bathes 65 = .ok (.dup2, 1) := by decide +kernel
theorem dX12_bathes_66 : decode cX12_bathes 66 = .ok (.iaload, 1) := by decide +kernel
theorem dX12_bathes_67 : decode cX12_bathes 67 = .ok (.aload_n 0, 1) := by decide +kernel
theorem dX12_bathes_68 : decode cX12_bathes 68 = .ok (.aload_n 1, 1) := by decide +kernel
theorem dX12_bathes_69 : decode cX12_bathes 69 = .ok (.iload_n 2, 1) := by decide +kernel
theorem dX12_bathes_70 : decode cX12_bathes 70 = .ok (.iload_n 3, 1) := by decide +kernel
theorem dX12_bathes_71 : decode cX12_bathes 71 = .ok (.iload 4, 2) := by decide +kernel
theorem dX12_bathes_73 : decode cX12_bathes 73 = .ok (.invokevirtual 137, 3) := by decide +kernel
theorem dX12_bathes_76 : decode cX12_bathes 76 = .ok (.iadd, 1) := by decide +kernel
theorem dX12_bathes_77 : decode cX12_bathes 77 = .ok (.iastore, 1) := by decide +kernel
theorem dX12_bathes_78 : decode cX12_bathes 78 = .ok (.iinc 4 1, 3) := by decide +kernel
theorem dX12_bathes_81 : decode cX12_bathes 81 = .ok (.goto (-31), 3) := by decide +kernel
theorem dX12_bathes_84 : decode cX12_bathes 84 = .ok (.return_, 1) := by decide +kernel
theorem dX12_rinses_0 : decode cX12_rinses 0 = .ok (.iconst 0, 1) := by decide +kernel
theorem dX12_rinses_1 : decode cX12_rinses 1 = .ok (.istore_n 3, 1) := by decide +kernel
theorem dX12_rinses_2 : decode cX12_rinses 2 = .ok (.iload_n 3, 1) := by decide +kernel
theorem dX12_rinses_3 : decode cX12_rinses 3 = .ok (.iconst 3, 1) := by decide +kernel
theorem dX12_rinses_4 : decode cX12_rinses 4 = .ok (.if_icmp .ge 46, 3) := by decide +kernel
theorem dX12_rinses_7 : decode cX12_rinses 7 = .ok (.iconst 0, 1) := by decide +kernel
theorem dX12_rinses_8 : decode cX12_rinses 8 = .ok (.iconst 3, 1) := by decide +kernel
theorem dX12_rinses_9 : decode cX12_rinses 9 = .ok (.iload_n 2, 1) := by decide +kernel
theorem dX12_rinses_10 : decode cX12_rinses 10 = .ok (.imul, 1) := by decide +kernel
theorem dX12_rinses_11 : decode cX12_rinses 11 = .ok (.iadd, 1) := by decide +kernel
theorem dX12_rinses_12 : decode cX12_rinses 12 = .ok (.iload_n 3, 1) := by decide +kernel
theorem dX12_rinses_13 : decode cX12_rinses 13 = .ok (.iadd, 1) := by decide +kernel
theorem dX12_rinses_14 : decode cX12_rinses 14 = .ok (.istore 4, 2) := by decide +kernel
theorem dX12_rinses_16 : decode cX12_rinses 16 = .ok (.aload_n 1, 1) := by decide +kernel
theorem dX12_rinses_17 : decode cX12_rinses 17 = .ok (.iload 4, 2) := by decide +kernel
theorem dX12_rinses_19 : decode cX12_rinses 19 = .ok (.dup2, 1) := by decide +kernel
theorem dX12_rinses_20 : decode cX12_rinses 20 = .ok (.iaload, 1) := by decide +kernel
theorem dX12_rinses_21 : decode cX12_rinses 21 = .ok (.aload_n 1, 1) := by decide +kernel
theorem dX12_rinses_22 : decode cX12_rinses 22 = .ok (.iload 4, 2) := by decide +kernel
theorem dX12_rinses_24 : decode cX12_rinses 24 = .ok (.iaload, 1) := by decide +kernel
theorem dX12_rinses_25 : decode cX12_rinses 25 = .ok (.ifCond .le 16, 3) := by decide +kernel
theorem dX12_rinses_28 : decode cX12_rinses 28 = .ok (.aload_n 1, 1) := by decide +kernel
theorem dX12_rinses_29 : decode cX12_rinses 29 = .ok (.bipush 24, 2) := by decide +kernel
theorem dX12_rinses_31 : decode cX12_rinses 31 = .ok (.iload_n 2, 1) := by decide +kernel
theorem dX12_rinses_32 : decode cX12_rinses 32 = .ok (.iadd, 1) := by decide +kernel
theorem dX12_rinses_33 : decode cX12_rinses 33 = .ok (.iaload, 1) := by decide +kernel
theorem dX12_rinses_34 : decode cX12_rinses 34 = .ok (.ifCond .ne 7, 3) := by decide +kernel
theorem dX12_rinses_37 : decode cX12_rinses 37 = .ok (.iconst 1, 1) := by decide +kernel
theorem dX12_rinses_38 : decode cX12_rinses 38 = .ok (.goto 4, 3) := by decide +kernel
theorem dX12_rinses_41 : decode cX12_rinses 41 = .ok (.iconst 0, 1) := by decide +kernel
theorem dX12_rinses_42 : decode cX12_rinses 42 = .ok (.isub, 1) := by decide +kernel
theorem dX12_rinses_43 : decode cX12_rinses 43 = .ok (.iastore, 1) := by decide +kernel
theorem dX12_rinses_44 : decode cX12_rinses 44 = .ok (.iinc 3 1, 3) := by decide +kernel
theorem dX12_rinses_47 : decode cX12_rinses 47 = .ok (.goto (-45), 3) := by decide +kernel
theorem dX12_rinses_50 : decode cX12_rinses 50 = .ok (.return_, 1) := by decide +kernel
theorem dX12_isDoing_0 : decode cX12_isDoing 0 = .ok (.lload_n 1, 1) := by decide +kernel
theorem dX12_isDoing_1 : decode cX12_isDoing 1 = .ok (.lconst 0, 1) := by decide +kernel
theorem dX12_isDoing_2 : decode cX12_isDoing 2 = .ok (.aload_n 0, 1) := by decide +kernel
theorem dX12_isDoing_3 : decode cX12_isDoing 3 = .ok (.getfield 7, 3) := by decide +kernel
theorem dX12_isDoing_6 : decode cX12_isDoing 6 = .ok (.iconst 1, 1) := by decide +kernel
theorem dX12_isDoing_7 : decode cX12_isDoing 7 = .ok (.iaload, 1) := by decide +kernel
theorem dX12_isDoing_8 : decode cX12_isDoing 8 = .ok (.iconst 1, 1) := by decide +kernel
theorem dX12_isDoing_9 : decode cX12_isDoing 9 = .ok (.isub, 1) := by decide +kernel
theorem dX12_isDoing_10 : decode cX12_isDoing 10 = .ok (.i2l, 1) := by decide +kernel
theorem dX12_isDoing_11 : decode cX12_isDoing 11 = .ok (.invokestatic 59, 3) := by decide +kernel
theorem dX12_isDoing_14 : decode cX12_isDoing 14 = .ok (.ifCond .ne 45, 3) := by decide +kernel
theorem dX12_isDoing_17 : decode cX12_isDoing 17 = .ok (.lload_n 1, 1) := by decide +kernel
theorem dX12_isDoing_18 : decode cX12_isDoing 18 = .ok (.ldc2_w 141, 3) := by decide +kernel
theorem dX12_isDoing_21 : decode cX12_isDoing 21 = .ok (.bipush 9, 2) := by decide +kernel
theorem dX12_isDoing_23 : decode cX12_isDoing 23 = .ok (.aload_n 0, 1) := by decide +kernel
theorem dX12_isDoing_24 : decode cX12_isDoing 24 = .ok (.getfield 7, 3) := by decide +kernel
theorem dX12_isDoing_27 : decode cX12_isDoing 27 = .ok (.iconst 2, 1) := by decide +kernel
theorem dX12_isDoing_28 : decode cX12_isDoing 28 = .ok (.iaload, 1) := by decide +kernel
theorem dX12_isDoing_29 : decode cX12_isDoing 29 = .ok (.iadd, 1) := by decide +kernel
theorem dX12_isDoing_30 : decode cX12_isDoing 30 = .ok (.i2l, 1) := by decide +kernel
theorem dX12_isDoing_31 : decode cX12_isDoing 31 = .ok (.invokestatic 59, 3) := by decide +kernel
theorem dX12_isDoing_34 : decode cX12_isDoing 34 = .ok (.ifCond .ne 25, 3) := by decide +kernel
theorem dX12_isDoing_37 : decode cX12_isDoing 37 = .ok (.lload_n 1, 1) := by decide +kernel
theorem dX12_isDoing_38 : decode cX12_isDoing 38 = .ok (.ldc2_w 143, 3) := by decide +kernel
theorem dX12_isDoing_41 : decode cX12_isDoing 41 = .ok (.ldc2_w 145, 3) := by decide +kernel
theorem dX12_isDoing_44 : decode cX12_isDoing 44 = .ok (.invokestatic 59, 3) := by decide +kernel
theorem dX12_isDoing_47 : decode cX12_isDoing 47 = .ok (.ifCond .eq 16, 3) := by decide +kernel
theorem dX12_isDoing_50 : decode cX12_isDoing 50 = .ok (.aload_n 0, 1) := by decide +kernel
theorem dX12_isDoing_51 : decode cX12_isDoing 51 = .ok (.getfield 7, 3) := by decide +kernel
theorem dX12_isDoing_54 : decode cX12_isDoing 54 = .ok (.iconst 0, 1) := by decide +kernel
theorem dX12_isDoing_55 : decode cX12_isDoing 55 = .ok (.iaload, 1) := by decide +kernel
theorem dX12_isDoing_56 : decode cX12_isDoing 56 = .ok (.ifCond .le 7, 3) := by decide +kernel
theorem dX12_isDoing_59 : decode cX12_isDoing 59 = .ok (.iconst 1, 1) := by decide +kernel
theorem dX12_isDoing_60 : decode cX12_isDoing 60 = .ok (.goto 4, 3) := by decide +kernel
theorem dX12_isDoing_63 : decode cX12_isDoing 63 = .ok (.iconst 0, 1) := by decide +kernel
theorem dX12_isDoing_64 : decode cX12_isDoing 64 = .ok (.ireturn, 1) := by decide +kernel
theorem dX12_doesOn_0 : decode cX12_doesOn 0 = .ok (.iload_n 3, 1) := by decide +kernel
theorem dX12_doesOn_1 : decode cX12_doesOn 1 = .ok (.iconst 4, 1) := by decide +kernel
theorem dX12_doesOn_2 : decode cX12_doesOn 2 = .ok (.if_icmp .ge 13, 3) := by decide +kernel
theorem dX12_doesOn_5 : decode cX12_doesOn 5 = .ok (.aload_n 0, 1) := by decide +kernel
theorem dX12_doesOn_6 : decode cX12_doesOn 6 = .ok (.aload_n 1, 1) := by decide +kernel
theorem dX12_doesOn_7 : decode cX12_doesOn 7 = .ok (.iload_n 2, 1) := by decide +kernel
theorem dX12_doesOn_8 : decode cX12_doesOn 8 = .ok (.iload_n 3, 1) := by decide +kernel
theorem dX12_doesOn_9 : decode cX12_doesOn 9 = .ok (.invokevirtual 147, 3) := by decide +kernel
theorem dX12_doesOn_12 : decode cX12_doesOn 12 = .ok (.goto 69, 3) := by decide +kernel
theorem dX12_doesOn_15 : decode cX12_doesOn 15 = .ok (.iload_n 3, 1) := by decide +kernel
theorem dX12_doesOn_16 : decode cX12_doesOn 16 = .ok (.bipush 20, 2) := by decide +kernel
theorem dX12_doesOn_18 : decode cX12_doesOn 18 = .ok (.if_icmp .ge 41, 3) := by decide +kernel
theorem dX12_doesOn_21 : decode cX12_doesOn 21 = .ok (.aload_n 1, 1) := by decide +kernel
theorem dX12_doesOn_22 : decode cX12_doesOn 22 = .ok (.bipush 24, 2) := by decide +kernel
theorem dX12_doesOn_24 : decode cX12_doesOn 24 = .ok (.iload_n 2, 1) := by decide +kernel
theorem dX12_doesOn_25 : decode cX12_doesOn 25 = .ok (.iadd, 1) := by decide +kernel
theorem dX12_doesOn_26 : decode cX12_doesOn 26 = .ok (.aload_n 0, 1) := by decide +kernel
theorem dX12_doesOn_27 : decode cX12_doesOn 27 = .ok (.getfield 7, 3) := by decide +kernel
theorem dX12_doesOn_30 : decode cX12_doesOn 30 = .ok (.bipush 23, 2) := by decide +kernel
theorem dX12_doesOn_32 : decode cX12_doesOn 32 = .ok (.iload_n 3, 1) := by decide +kernel
theorem dX12_doesOn_33 : decode cX12_doesOn 33 = .ok (.iadd, 1) := by decide +kernel
theorem dX12_doesOn_34 : decode cX12_doesOn 34 = .ok (.bipush 10, 2) := by decide +kernel
theorem dX12_doesOn_36 : decode cX12_doesOn 36 = .ok (.isub, 1) := by decide +kernel
theorem dX12_doesOn_37 : decode cX12_doesOn 37 = .ok (.iaload, 1) := by decide +kernel
theorem dX12_doesOn_38 : decode cX12_doesOn 38 = .ok (.iload_n 2, 1) := by decide +kernel
theorem dX12_doesOn_39 : decode cX12_doesOn 39 = .ok (.invokestatic 151, 3) := by decide +kernel
theorem dX12_doesOn_42 : decode cX12_doesOn 42 = .ok (.ifCond .eq 7, 3) := by decide +kernel
theorem dX12_doesOn_45 : decode cX12_doesOn 45 = .ok (.iconst 3, 1) := by decide +kernel
theorem dX12_doesOn_46 : decode cX12_doesOn 46 = .ok (.goto 9, 3) := by decide +kernel
theorem dX12_doesOn_49 : decode cX12_doesOn 49 = .ok (.aload_n 1, 1) := by decide +kernel
theorem dX12_doesOn_50 : decode cX12_doesOn 50 = .ok (.bipush 24, 2) := by decide +kernel
theorem dX12_doesOn_52 : decode cX12_doesOn 52 = .ok (.iload_n 2, 1) := by decide +kernel
theorem dX12_doesOn_53 : decode cX12_doesOn 53 = .ok (.iadd, 1) := by decide +kernel
theorem dX12_doesOn_54 : decode cX12_doesOn 54 = .ok (.iaload, 1) := by decide +kernel
theorem dX12_doesOn_55 : decode cX12_doesOn 55 = .ok (.iastore, 1) := by decide +kernel
theorem dX12_doesOn_56 : decode cX12_doesOn 56 = .ok (.goto 25, 3) := by decide +kernel
theorem dX12_doesOn_59 : decode cX12_doesOn 59 = .ok (.iload_n 3, 1) := by decide +kernel
theorem dX12_doesOn_60 : decode cX12_doesOn 60 = .ok (.bipush 20, 2) := by decide +kernel
theorem dX12_doesOn_62 : decode cX12_doesOn 62 = .ok (.if_icmp .ne 13, 3) := by decide +kernel
theorem dX12_doesOn_65 : decode cX12_doesOn 65 = .ok (.aload_n 1, 1) := by decide +kernel
theorem dX12_doesOn_66 : decode cX12_doesOn 66 = .ok (.bipush 24, 2) := by decide +kernel
theorem dX12_doesOn_68 : decode cX12_doesOn 68 = .ok (.iload_n 2, 1) := by decide +kernel
theorem dX12_doesOn_69 : decode cX12_doesOn 69 = .ok (.iadd, 1) := by decide +kernel
theorem dX12_doesOn_70 : decode cX12_doesOn 70 = .ok (.iconst 0, 1) := by decide +kernel
theorem dX12_doesOn_71 : decode cX12_doesOn 71 = .ok (.iastore, 1) := by decide +kernel
theorem dX12_doesOn_72 : decode cX12_doesOn 72 = .ok (.goto 9, 3) := by decide +kernel
theorem dX12_doesOn_75 : decode cX12_doesOn 75 = .ok (.aload_n 0, 1) := by decide +kernel
theorem dX12_doesOn_76 : decode cX12_doesOn 76 = .ok (.aload_n 1, 1) := by decide +kernel
theorem dX12_doesOn_77 : decode cX12_doesOn 77 = .ok (.iload_n 2, 1) := by decide +kernel
theorem dX12_doesOn_78 : decode cX12_doesOn 78 = .ok (.invokevirtual 154, 3) := by decide +kernel
theorem dX12_doesOn_81 : decode cX12_doesOn 81 = .ok (.return_, 1) := by decide +kernel
theorem dX12_doesAll_0 : decode cX12_doesAll 0 = .ok (.iconst 0, 1) := by decide +kernel
theorem dX12_doesAll_1 : decode cX12_doesAll 1 = .ok (.istore_n 3, 1) := by decide +kernel
theorem dX12_doesAll_2 : decode cX12_doesAll 2 = .ok (.iload_n 3, 1) := by decide +kernel
theorem dX12_doesAll_3 : decode cX12_doesAll 3 = .ok (.aload_n 0, 1) := by decide +kernel
theorem dX12_doesAll_4 : decode cX12_doesAll 4 = .ok (.getfield 7, 3) := by decide +kernel
theorem dX12_doesAll_7 : decode cX12_doesAll 7 = .ok (.iconst 0, 1) := by decide +kernel
theorem dX12_doesAll_8 : decode cX12_doesAll 8 = .ok (.iaload, 1) := by decide +kernel
theorem dX12_doesAll_9 : decode cX12_doesAll 9 = .ok (.if_icmp .ge 16, 3) := by decide +kernel
theorem dX12_doesAll_12 : decode cX12_doesAll 12 = .ok (.aload_n 0, 1) := by decide +kernel
theorem dX12_doesAll_13 : decode cX12_doesAll 13 = .ok (.aload_n 1, 1) := by decide +kernel
theorem dX12_doesAll_14 : decode cX12_doesAll 14 = .ok (.iload_n 3, 1) := by decide +kernel
theorem dX12_doesAll_15 : decode cX12_doesAll 15 = .ok (.iload_n 2, 1) := by decide +kernel
theorem dX12_doesAll_16 : decode cX12_doesAll 16 = .ok (.invokevirtual 158, 3) := by decide +kernel
theorem dX12_doesAll_19 : decode cX12_doesAll 19 = .ok (.iinc 3 1, 3) := by decide +kernel
theorem dX12_doesAll_22 : decode cX12_doesAll 22 = .ok (.goto (-20), 3) := by decide +kernel
theorem dX12_doesAll_25 : decode cX12_doesAll 25 = .ok (.return_, 1) := by decide +kernel
theorem dX12_square_0 : decode cX12_square 0 = .ok (.aload_n 0, 1) := by decide +kernel
theorem dX12_square_1 : decode cX12_square 1 = .ok (.iload_n 1, 1) := by decide +kernel
theorem dX12_square_2 : decode cX12_square 2 = .ok (.invokevirtual 161, 3) := by decide +kernel
theorem dX12_square_5 : decode cX12_square 5 = .ok (.ifCond .eq 15, 3) := by decide +kernel
theorem dX12_square_8 : decode cX12_square 8 = .ok (.iload_n 2, 1) := by decide +kernel
theorem dX12_square_9 : decode cX12_square 9 = .ok (.i2l, 1) := by decide +kernel
theorem dX12_square_10 : decode cX12_square 10 = .ok (.lconst 0, 1) := by decide +kernel
theorem dX12_square_11 : decode cX12_square 11 = .ok (.ldc2_w 164, 3) := by decide +kernel
theorem dX12_square_14 : decode cX12_square 14 = .ok (.invokestatic 59, 3) := by decide +kernel
theorem dX12_square_17 : decode cX12_square 17 = .ok (.ifCond .ne 5, 3) := by decide +kernel
theorem dX12_square_20 : decode cX12_square 20 = .ok (.iconst (-1), 1) := by decide +kernel
theorem dX12_square_21 : decode cX12_square 21 = .ok (.ireturn, 1) := by decide +kernel
theorem dX12_square_22 : decode cX12_square 22 = .ok (.iload_n 2, 1) := by decide +kernel
theorem dX12_square_23 : decode cX12_square 23 = .ok (.tableswitch 101 0 5 #[37, 46, 56, 66, 75, 84], 37) := by decide +kernel
theorem dX12_square_60 : decode cX12_square 60 = .ok (.aload_n 0, 1) := by decide +kernel
theorem dX12_square_61 : decode cX12_square 61 = .ok (.getfield 7, 3) := by decide +kernel
theorem dX12_square_64 : decode cX12_square 64 = .ok (.iconst 3, 1) := by decide +kernel
theorem dX12_square_65 : decode cX12_square 65 = .ok (.iload_n 1, 1) := by decide +kernel
theorem dX12_square_66 : decode cX12_square 66 = .ok (.iadd, 1) := by decide +kernel
theorem dX12_square_67 : decode cX12_square 67 = .ok (.iaload, 1) := by decide +kernel
theorem dX12_square_68 : decode cX12_square 68 = .ok (.ireturn, 1) := by decide +kernel
theorem dX12_square_69 : decode cX12_square 69 = .ok (.aload_n 0, 1) := by decide +kernel
theorem dX12_square_70 : decode cX12_square 70 = .ok (.getfield 19, 3) := by decide +kernel
theorem dX12_square_73 : decode cX12_square 73 = .ok (.bipush 32, 2) := by decide +kernel
theorem dX12_square_75 : decode cX12_square 75 = .ok (.iload_n 1, 1) := by decide +kernel
theorem dX12_square_76 : decode cX12_square 76 = .ok (.iadd, 1) := by decide +kernel
theorem dX12_square_77 : decode cX12_square 77 = .ok (.iaload, 1) := by decide +kernel
theorem dX12_square_78 : decode cX12_square 78 = .ok (.ireturn, 1) := by decide +kernel
theorem dX12_square_79 : decode cX12_square 79 = .ok (.aload_n 0, 1) := by decide +kernel
theorem dX12_square_80 : decode cX12_square 80 = .ok (.getfield 19, 3) := by decide +kernel
theorem dX12_square_83 : decode cX12_square 83 = .ok (.bipush 24, 2) := by decide +kernel
theorem dX12_square_85 : decode cX12_square 85 = .ok (.iload_n 1, 1) := by decide +kernel
theorem dX12_square_86 : decode cX12_square 86 = .ok (.iadd, 1) := by decide +kernel
theorem dX12_square_87 : decode cX12_square 87 = .ok (.iaload, 1) := by decide +kernel
theorem dX12_square_88 : decode cX12_square 88 = .ok (.ireturn, 1) := by decide +kernel
theorem dX12_square_89 : decode cX12_square 89 = .ok (.aload_n 0, 1) := by decide +kernel
theorem dX12_square_90 : decode cX12_square 90 = .ok (.getfield 19, 3) := by decide +kernel
theorem dX12_square_93 : decode cX12_square 93 = .ok (.iload_n 1, 1) := by decide +kernel
theorem dX12_square_94 : decode cX12_square 94 = .ok (.invokestatic 115, 3) := by decide +kernel
theorem dX12_square_97 : decode cX12_square 97 = .ok (.ireturn, 1) := by decide +kernel
theorem dX12_square_98 : decode cX12_square 98 = .ok (.aload_n 0, 1) := by decide +kernel
theorem dX12_square_99 : decode cX12_square 99 = .ok (.getfield 19, 3) := by decide +kernel
theorem dX12_square_102 : decode cX12_square 102 = .ok (.iload_n 1, 1) := by decide +kernel
theorem dX12_square_103 : decode cX12_square 103 = .ok (.invokestatic 123, 3) := by decide +kernel
theorem dX12_square_106 : decode cX12_square 106 = .ok (.ireturn, 1) := by decide +kernel
theorem dX12_square_107 : decode cX12_square 107 = .ok (.aload_n 0, 1) := by decide +kernel
theorem dX12_square_108 : decode cX12_square 108 = .ok (.getfield 19, 3) := by decide +kernel
theorem dX12_square_111 : decode cX12_square 111 = .ok (.iload_n 1, 1) := by decide +kernel
theorem dX12_square_112 : decode cX12_square 112 = .ok (.invokestatic 119, 3) := by decide +kernel
theorem dX12_square_115 : decode cX12_square 115 = .ok (.ifCond .eq 7, 3) := by decide +kernel
theorem dX12_square_118 : decode cX12_square 118 = .ok (.iconst 1, 1) := by decide +kernel
theorem dX12_square_119 : decode cX12_square 119 = .ok (.goto 4, 3) := by decide +kernel
theorem dX12_square_122 : decode cX12_square 122 = .ok (.iconst 0, 1) := by decide +kernel
theorem dX12_square_123 : decode cX12_square 123 = .ok (.ireturn, 1) := by decide +kernel
theorem dX12_square_124 : decode cX12_square 124 = .ok (.aload_n 0, 1) := by decide +kernel
theorem dX12_square_125 : decode cX12_square 125 = .ok (.getfield 19, 3) := by decide +kernel
theorem dX12_square_128 : decode cX12_square 128 = .ok (.iconst 0, 1) := by decide +kernel
theorem dX12_square_129 : decode cX12_square 129 = .ok (.iconst 3, 1) := by decide +kernel
theorem dX12_square_130 : decode cX12_square 130 = .ok (.iload_n 1, 1) := by decide +kernel
theorem dX12_square_131 : decode cX12_square 131 = .ok (.imul, 1) := by decide +kernel
theorem dX12_square_132 : decode cX12_square 132 = .ok (.iadd, 1) := by decide +kernel
theorem dX12_square_133 : decode cX12_square 133 = .ok (.iload_n 2, 1) := by decide +kernel
theorem dX12_square_134 : decode cX12_square 134 = .ok (.iadd, 1) := by decide +kernel
theorem dX12_square_135 : decode cX12_square 135 = .ok (.bipush 6, 2) := by decide +kernel
theorem dX12_square_137 : decode cX12_square 137 = .ok (.isub, 1) := by decide +kernel
theorem dX12_square_138 : decode cX12_square 138 = .ok (.iaload, 1) := by decide +kernel
theorem dX12_square_139 : decode cX12_square 139 = .ok (.ireturn, 1) := by decide +kernel
theorem dX12_as_0 : decode cX12_as 0 = .ok (.aload_n 0, 1) := by decide +kernel
theorem dX12_as_1 : decode cX12_as 1 = .ok (.iload_n 1, 1) := by decide +kernel
theorem dX12_as_2 : decode cX12_as 2 = .ok (.invokevirtual 161, 3) := by decide +kernel
theorem dX12_as_5 : decode cX12_as 5 = .ok (.ifCond .eq 15, 3) := by decide +kernel
theorem dX12_as_8 : decode cX12_as 8 = .ok (.iload_n 2, 1) := by decide +kernel
theorem dX12_as_9 : decode cX12_as 9 = .ok (.i2l, 1) := by decide +kernel
theorem dX12_as_10 : decode cX12_as 10 = .ok (.lconst 0, 1) := by decide +kernel
theorem dX12_as_11 : decode cX12_as 11 = .ok (.ldc2_w 166, 3) := by decide +kernel
theorem dX12_as_14 : decode cX12_as 14 = .ok (.invokestatic 59, 3) := by decide +kernel
theorem dX12_as_17 : decode cX12_as 17 = .ok (.ifCond .ne 5, 3) := by decide +kernel
theorem dX12_as_20 : decode cX12_as 20 = .ok (.iconst (-1), 1) := by decide +kernel
theorem dX12_as_21 : decode cX12_as 21 = .ok (.ireturn, 1) := by decide +kernel
theorem dX12_as_22 : decode cX12_as 22 = .ok (.aload_n 0, 1) := by decide +kernel
theorem dX12_as_23 : decode cX12_as 23 = .ok (.getfield 7, 3) := by decide +kernel
theorem dX12_as_26 : decode cX12_as 26 = .ok (.iconst 3, 1) := by decide +kernel
theorem dX12_as_27 : decode cX12_as 27 = .ok (.iload_n 1, 1) := by decide +kernel
theorem dX12_as_28 : decode cX12_as 28 = .ok (.iadd, 1) := by decide +kernel
theorem dX12_as_29 : decode cX12_as 29 = .ok (.iaload, 1) := by decide +kernel
theorem dX12_as_30 : decode cX12_as 30 = .ok (.istore_n 3, 1) := by decide +kernel
theorem dX12_as_31 : decode cX12_as 31 = .ok (.iload_n 2, 1) := by decide +kernel
theorem dX12_as_32 : decode cX12_as 32 = .ok (.ifCond .eq 37, 3) := by decide +kernel
theorem dX12_as_35 : decode cX12_as 35 = .ok (.iload_n 2, 1) := by decide +kernel
theorem dX12_as_36 : decode cX12_as 36 = .ok (.iload_n 3, 1) := by decide +kernel
theorem dX12_as_37 : decode cX12_as 37 = .ok (.if_icmp .eq 32, 3) := by decide +kernel
theorem dX12_as_40 : decode cX12_as 40 = .ok (.iload_n 2, 1) := by decide +kernel
theorem dX12_as_41 : decode cX12_as 41 = .ok (.iconst 1, 1) := by decide +kernel
theorem dX12_as_42 : decode cX12_as 42 = .ok (.if_icmp .ne 17, 3) := by decide +kernel
theorem dX12_as_45 : decode cX12_as 45 = .ok (.iload_n 3, 1) := by decide +kernel
theorem dX12_as_46 : decode cX12_as 46 = .ok (.i2l, 1) := by decide +kernel
theorem dX12_as_47 : decode cX12_as 47 = .ok (.ldc2_w 168, 3) := by decide +kernel
theorem dX12_as_50 : decode cX12_as 50 = .ok (.ldc2_w 170, 3) := by decide +kernel
theorem dX12_as_53 : decode cX12_as 53 = .ok (.invokestatic 59, 3) := by decide +kernel
theorem dX12_as_56 : decode cX12_as 56 = .ok (.ifCond .ne 13, 3) := by decide +kernel
theorem dX12_as_59 : decode cX12_as 59 = .ok (.iload_n 2, 1) := by decide +kernel
theorem dX12_as_60 : decode cX12_as 60 = .ok (.iconst 4, 1) := by decide +kernel
theorem dX12_as_61 : decode cX12_as 61 = .ok (.if_icmp .ne 12, 3) := by decide +kernel
theorem dX12_as_64 : decode cX12_as 64 = .ok (.iload_n 3, 1) := by decide +kernel
theorem dX12_as_65 : decode cX12_as 65 = .ok (.iconst 5, 1) := by decide +kernel
theorem dX12_as_66 : decode cX12_as 66 = .ok (.if_icmp .ne 7, 3) := by decide +kernel
theorem dX12_as_69 : decode cX12_as 69 = .ok (.iconst 1, 1) := by decide +kernel
theorem dX12_as_70 : decode cX12_as 70 = .ok (.goto 4, 3) := by decide +kernel
theorem dX12_as_73 : decode cX12_as 73 = .ok (.iconst 0, 1) := by decide +kernel
theorem dX12_as_74 : decode cX12_as 74 = .ok (.istore 4, 2) := by decide +kernel
theorem dX12_as_76 : decode cX12_as 76 = .ok (.iload 4, 2) := by decide +kernel
theorem dX12_as_78 : decode cX12_as 78 = .ok (.ifCond .eq 7, 3) := by decide +kernel
theorem dX12_as_81 : decode cX12_as 81 = .ok (.iload_n 1, 1) := by decide +kernel
theorem dX12_as_82 : decode cX12_as 82 = .ok (.goto 5, 3) := by decide +kernel
theorem dX12_as_85 : decode cX12_as 85 = .ok (.bipush (-12), 2) := by decide +kernel
theorem dX12_as_87 : decode cX12_as 87 = .ok (.ireturn, 1) := by decide +kernel
theorem dX12_dye_0 : decode cX12_dye 0 = .ok (.aload_n 0, 1) := by decide +kernel
theorem dX12_dye_1 : decode cX12_dye 1 = .ok (.iload_n 1, 1) := by decide +kernel
theorem dX12_dye_2 : decode cX12_dye 2 = .ok (.invokevirtual 172, 3) := by decide +kernel
theorem dX12_dye_5 : decode cX12_dye 5 = .ok (.ifCond .eq 31, 3) := by decide +kernel
theorem dX12_dye_8 : decode cX12_dye 8 = .ok (.iload_n 2, 1) := by decide +kernel
theorem dX12_dye_9 : decode cX12_dye 9 = .ok (.i2l, 1) := by decide +kernel
theorem dX12_dye_10 : decode cX12_dye 10 = .ok (.lconst 0, 1) := by decide +kernel
theorem dX12_dye_11 : decode cX12_dye 11 = .ok (.ldc2_w 168, 3) := by decide +kernel
theorem dX12_dye_14 : decode cX12_dye 14 = .ok (.invokestatic 59, 3) := by decide +kernel
theorem dX12_dye_17 : decode cX12_dye 17 = .ok (.ifCond .eq 19, 3) := by decide +kernel
theorem dX12_dye_20 : decode cX12_dye 20 = .ok (.aload_n 0, 1) := by decide +kernel
theorem dX12_dye_21 : decode cX12_dye 21 = .ok (.getfield 7, 3) := by decide +kernel
theorem dX12_dye_24 : decode cX12_dye 24 = .ok (.bipush 11, 2) := by decide +kernel
theorem dX12_dye_26 : decode cX12_dye 26 = .ok (.iconst 3, 1) := by decide +kernel
theorem dX12_dye_27 : decode cX12_dye 27 = .ok (.iload_n 1, 1) := by decide +kernel
theorem dX12_dye_28 : decode cX12_dye 28 = .ok (.imul, 1) := by decide +kernel
theorem dX12_dye_29 : decode cX12_dye 29 = .ok (.iadd, 1) := by decide +kernel
theorem dX12_dye_30 : decode cX12_dye 30 = .ok (.iload_n 2, 1) := by decide +kernel
theorem dX12_dye_31 : decode cX12_dye 31 = .ok (.iadd, 1) := by decide +kernel
theorem dX12_dye_32 : decode cX12_dye 32 = .ok (.iaload, 1) := by decide +kernel
theorem dX12_dye_33 : decode cX12_dye 33 = .ok (.goto 4, 3) := by decide +kernel
theorem dX12_dye_36 : decode cX12_dye 36 = .ok (.iconst (-1), 1) := by decide +kernel
theorem dX12_dye_37 : decode cX12_dye 37 = .ok (.ireturn, 1) := by decide +kernel
theorem dX12_stencil_0 : decode cX12_stencil 0 = .ok (.iload_n 1, 1) := by decide +kernel
theorem dX12_stencil_1 : decode cX12_stencil 1 = .ok (.i2l, 1) := by decide +kernel
theorem dX12_stencil_2 : decode cX12_stencil 2 = .ok (.lconst 0, 1) := by decide +kernel
theorem dX12_stencil_3 : decode cX12_stencil 3 = .ok (.aload_n 0, 1) := by decide +kernel
theorem dX12_stencil_4 : decode cX12_stencil 4 = .ok (.getfield 7, 3) := by decide +kernel
theorem dX12_stencil_7 : decode cX12_stencil 7 = .ok (.iconst 2, 1) := by decide +kernel
theorem dX12_stencil_8 : decode cX12_stencil 8 = .ok (.iaload, 1) := by decide +kernel
theorem dX12_stencil_9 : decode cX12_stencil 9 = .ok (.iconst 1, 1) := by decide +kernel
theorem dX12_stencil_10 : decode cX12_stencil 10 = .ok (.isub, 1) := by decide +kernel
theorem dX12_stencil_11 : decode cX12_stencil 11 = .ok (.i2l, 1) := by decide +kernel
theorem dX12_stencil_12 : decode cX12_stencil 12 = .ok (.invokestatic 59, 3) := by decide +kernel
theorem dX12_stencil_15 : decode cX12_stencil 15 = .ok (.ifCond .eq 15, 3) := by decide +kernel
theorem dX12_stencil_18 : decode cX12_stencil 18 = .ok (.aload_n 0, 1) := by decide +kernel
theorem dX12_stencil_19 : decode cX12_stencil 19 = .ok (.getfield 7, 3) := by decide +kernel
theorem dX12_stencil_22 : decode cX12_stencil 22 = .ok (.bipush 23, 2) := by decide +kernel
theorem dX12_stencil_24 : decode cX12_stencil 24 = .ok (.iload_n 1, 1) := by decide +kernel
theorem dX12_stencil_25 : decode cX12_stencil 25 = .ok (.iadd, 1) := by decide +kernel
theorem dX12_stencil_26 : decode cX12_stencil 26 = .ok (.iaload, 1) := by decide +kernel
theorem dX12_stencil_27 : decode cX12_stencil 27 = .ok (.goto 4, 3) := by decide +kernel
theorem dX12_stencil_30 : decode cX12_stencil 30 = .ok (.iconst (-1), 1) := by decide +kernel
theorem dX12_stencil_31 : decode cX12_stencil 31 = .ok (.ireturn, 1) := by decide +kernel
theorem dX12_takes_0 : decode cX12_takes 0 = .ok (.aload_n 0, 1) := by decide +kernel
theorem dX12_takes_1 : decode cX12_takes 1 = .ok (.iload_n 1, 1) := by decide +kernel
theorem dX12_takes_2 : decode cX12_takes 2 = .ok (.invokevirtual 161, 3) := by decide +kernel
theorem dX12_takes_5 : decode cX12_takes 5 = .ok (.ifCond .eq 37, 3) := by decide +kernel
theorem dX12_takes_8 : decode cX12_takes 8 = .ok (.aload_n 0, 1) := by decide +kernel
theorem dX12_takes_9 : decode cX12_takes 9 = .ok (.iload_n 2, 1) := by decide +kernel
theorem dX12_takes_10 : decode cX12_takes 10 = .ok (.invokevirtual 172, 3) := by decide +kernel
theorem dX12_takes_13 : decode cX12_takes 13 = .ok (.ifCond .eq 29, 3) := by decide +kernel
theorem dX12_takes_16 : decode cX12_takes 16 = .ok (.iload_n 3, 1) := by decide +kernel
theorem dX12_takes_17 : decode cX12_takes 17 = .ok (.i2l, 1) := by decide +kernel
theorem dX12_takes_18 : decode cX12_takes 18 = .ok (.lconst 0, 1) := by decide +kernel
theorem dX12_takes_19 : decode cX12_takes 19 = .ok (.ldc2_w 168, 3) := by decide +kernel
theorem dX12_takes_22 : decode cX12_takes 22 = .ok (.invokestatic 59, 3) := by decide +kernel
theorem dX12_takes_25 : decode cX12_takes 25 = .ok (.ifCond .eq 17, 3) := by decide +kernel
theorem dX12_takes_28 : decode cX12_takes 28 = .ok (.aload_n 0, 1) := by decide +kernel
theorem dX12_takes_29 : decode cX12_takes 29 = .ok (.aload_n 0, 1) := by decide +kernel
theorem dX12_takes_30 : decode cX12_takes 30 = .ok (.getfield 19, 3) := by decide +kernel
theorem dX12_takes_33 : decode cX12_takes 33 = .ok (.iload_n 1, 1) := by decide +kernel
theorem dX12_takes_34 : decode cX12_takes 34 = .ok (.iload_n 2, 1) := by decide +kernel
theorem dX12_takes_35 : decode cX12_takes 35 = .ok (.iload_n 3, 1) := by decide +kernel
theorem dX12_takes_36 : decode cX12_takes 36 = .ok (.invokevirtual 137, 3) := by decide +kernel
theorem dX12_takes_39 : decode cX12_takes 39 = .ok (.goto 4, 3) := by decide +kernel
theorem dX12_takes_42 : decode cX12_takes 42 = .ok (.iconst (-1), 1) := by decide +kernel
theorem dX12_takes_43 : decode cX12_takes 43 = .ok (.ireturn, 1) := by decide +kernel
theorem dX12_does_0 : decode cX12_does 0 = .ok (.aload_n 0, 1) := by decide +kernel
theorem dX12_does_1 : decode cX12_does 1 = .ok (.iload_n 1, 1) := by decide +kernel
theorem dX12_does_2 : decode cX12_does 2 = .ok (.i2l, 1) := by decide +kernel
theorem dX12_does_3 : decode cX12_does 3 = .ok (.invokevirtual 175, 3) := by decide +kernel
theorem dX12_does_6 : decode cX12_does 6 = .ok (.ifCond .ne 5, 3) := by decide +kernel
theorem dX12_does_9 : decode cX12_does 9 = .ok (.iconst (-1), 1) := by decide +kernel
theorem dX12_does_10 : decode cX12_does 10 = .ok (.ireturn, 1) := by decide +kernel
theorem dX12_does_11 : decode cX12_does 11 = .ok (.aload_n 0, 1) := by decide +kernel
theorem dX12_does_12 : decode cX12_does 12 = .ok (.getfield 109, 3) := by decide +kernel
theorem dX12_does_15 : decode cX12_does 15 = .ok (.sipush 9999, 3) := by decide +kernel
theorem dX12_does_18 : decode cX12_does 18 = .ok (.if_icmp .ne 6, 3) := by decide +kernel
theorem dX12_does_21 : decode cX12_does 21 = .ok (.bipush (-3), 2) := by decide +kernel
theorem dX12_does_23 : decode cX12_does 23 = .ok (.ireturn, 1) := by decide +kernel
theorem dX12_does_24 : decode cX12_does 24 = .ok (.aload_n 0, 1) := by decide +kernel
theorem dX12_does_25 : decode cX12_does 25 = .ok (.getfield 112, 3) := by decide +kernel
theorem dX12_does_28 : decode cX12_does 28 = .ok (.bipush 24, 2) := by decide +kernel
theorem dX12_does_30 : decode cX12_does 30 = .ok (.if_icmp .ne 43, 3) := by decide +kernel
theorem dX12_does_33 : decode cX12_does 33 = .ok (.iconst 0, 1) := by decide +kernel
theorem dX12_does_34 : decode cX12_does 34 = .ok (.istore_n 2, 1) := by decide +kernel
theorem dX12_does_35 : decode cX12_does 35 = .ok (.iload_n 2, 1) := by decide +kernel
theorem dX12_does_36 : decode cX12_does 36 = .ok (.sipush 736, 3) := by decide +kernel
theorem dX12_does_39 : decode cX12_does 39 = .ok (.if_icmp .ge 24, 3) := by decide +kernel
theorem dX12_does_42 : decode cX12_does 42 = .ok (.aload_n 0, 1) := by decide +kernel
theorem dX12_does_43 : decode cX12_does 43 = .ok (.getfield 25, 3) := by decide +kernel
theorem dX12_does_46 : decode cX12_does 46 = .ok (.iload_n 2, 1) := by decide +kernel
theorem dX12_does_47 : decode cX12_does 47 = .ok (.aload_n 0, 1) := by decide +kernel
theorem dX12_does_48 : decode cX12_does 48 = .ok (.getfield 25, 3) := by decide +kernel
theorem dX12_does_51 : decode cX12_does 51 = .ok (.iload_n 2, 1) := by decide +kernel
theorem dX12_does_52 : decode cX12_does 52 = .ok (.bipush 32, 2) := by decide +kernel
theorem dX12_does_54 : decode cX12_does 54 = .ok (.iadd, 1) := by decide +kernel
theorem dX12_does_55 : decode cX12_does 55 = .ok (.iaload, 1) := by decide +kernel
theorem dX12_does_56 : decode cX12_does 56 = .ok (.iastore, 1) := by decide +kernel
theorem dX12_does_57 : decode cX12_does 57 = .ok (.iinc 2 1, 3) := by decide +kernel
theorem dX12_does_60 : decode cX12_does 60 = .ok (.goto (-25), 3) := by decide +kernel
theorem dX12_does_63 : decode cX12_does 63 = .ok (.aload_n 0, 1) := by decide +kernel
theorem dX12_does_64 : decode cX12_does 64 = .ok (.dup, 1) := by decide +kernel
theorem dX12_does_65 : decode cX12_does 65 = .ok (.getfield 112, 3) := by decide +kernel
theorem dX12_does_68 : decode cX12_does 68 = .ok (.iconst 1, 1) := by decide +kernel
theorem dX12_does_69 : decode cX12_does 69 = .ok (.isub, 1) := by decide +kernel
theorem dX12_does_70 : decode cX12_does 70 = .ok (.putfield 112, 3) := by decide +kernel
theorem dX12_does_73 : decode cX12_does 73 = .ok (.aload_n 0, 1) := by decide +kernel
theorem dX12_does_74 : decode cX12_does 74 = .ok (.getfield 19, 3) := by decide +kernel
theorem dX12_does_77 : decode cX12_does 77 = .ok (.iconst 0, 1) := by decide +kernel
theorem dX12_does_78 : decode cX12_does 78 = .ok (.aload_n 0, 1) := by decide +kernel
theorem dX12_does_79 : decode cX12_does 79 = .ok (.getfield 25, 3) := by decide +kernel
theorem dX12_does_82 : decode cX12_does 82 = .ok (.bipush 32, 2) := by decide +kernel
theorem dX12_does_84 : decode cX12_does 84 = .ok (.aload_n 0, 1) := by decide +kernel
theorem dX12_does_85 : decode cX12_does 85 = .ok (.getfield 112, 3) := by decide +kernel
theorem dX12_does_88 : decode cX12_does 88 = .ok (.imul, 1) := by decide +kernel
theorem dX12_does_89 : decode cX12_does 89 = .ok (.bipush 32, 2) := by decide +kernel
theorem dX12_does_91 : decode cX12_does 91 = .ok (.invokestatic 105, 3) := by decide +kernel
theorem dX12_does_94 : decode cX12_does 94 = .ok (.aload_n 0, 1) := by decide +kernel
theorem dX12_does_95 : decode cX12_does 95 = .ok (.dup, 1) := by decide +kernel
theorem dX12_does_96 : decode cX12_does 96 = .ok (.getfield 112, 3) := by decide +kernel
theorem dX12_does_99 : decode cX12_does 99 = .ok (.iconst 1, 1) := by decide +kernel
theorem dX12_does_100 : decode cX12_does 100 = .ok (.iadd, 1) := by decide +kernel
theorem dX12_does_101 : decode cX12_does 101 = .ok (.putfield 112, 3) := by decide +kernel
theorem dX12_does_104 : decode cX12_does 104 = .ok (.aload_n 0, 1) := by decide +kernel
theorem dX12_does_105 : decode cX12_does 105 = .ok (.dup, 1) := by decide +kernel
theorem dX12_does_106 : decode cX12_does 106 = .ok (.getfield 109, 3) := by decide +kernel
theorem dX12_does_109 : decode cX12_does 109 = .ok (.iconst 1, 1) := by decide +kernel
theorem dX12_does_110 : decode cX12_does 110 = .ok (.iadd, 1) := by decide +kernel
theorem dX12_does_111 : decode cX12_does 111 = .ok (.putfield 109, 3) := by decide +kernel
theorem dX12_does_114 : decode cX12_does 114 = .ok (.aload_n 0, 1) := by decide +kernel
theorem dX12_does_115 : decode cX12_does 115 = .ok (.aload_n 0, 1) := by decide +kernel
theorem dX12_does_116 : decode cX12_does 116 = .ok (.getfield 19, 3) := by decide +kernel
theorem dX12_does_119 : decode cX12_does 119 = .ok (.iload_n 1, 1) := by decide +kernel
theorem dX12_does_120 : decode cX12_does 120 = .ok (.invokevirtual 179, 3) := by decide +kernel
theorem dX12_does_123 : decode cX12_does 123 = .ok (.aload_n 0, 1) := by decide +kernel
theorem dX12_does_124 : decode cX12_does 124 = .ok (.aload_n 0, 1) := by decide +kernel
theorem dX12_does_125 : decode cX12_does 125 = .ok (.getfield 19, 3) := by decide +kernel
theorem dX12_does_128 : decode cX12_does 128 = .ok (.invokevirtual 182, 3) := by decide +kernel
theorem dX12_does_131 : decode cX12_does 131 = .ok (.ireturn, 1) := by decide +kernel
theorem dX12_undo_0 : decode cX12_undo 0 = .ok (.aload_n 0, 1) := by decide +kernel
theorem dX12_undo_1 : decode cX12_undo 1 = .ok (.getfield 112, 3) := by decide +kernel
theorem dX12_undo_4 : decode cX12_undo 4 = .ok (.ifCond .ne 6, 3) := by decide +kernel
theorem dX12_undo_7 : decode cX12_undo 7 = .ok (.bipush (-4), 2) := by decide +kernel
theorem dX12_undo_9 : decode cX12_undo 9 = .ok (.ireturn, 1) := by decide +kernel
theorem dX12_undo_10 : decode cX12_undo 10 = .ok (.aload_n 0, 1) := by decide +kernel
theorem dX12_undo_11 : decode cX12_undo 11 = .ok (.dup, 1) := by decide +kernel
theorem dX12_undo_12 : decode cX12_undo 12 = .ok (.getfield 112, 3) := by decide +kernel
theorem dX12_undo_15 : decode cX12_undo 15 = .ok (.iconst 1, 1) := by decide +kernel
theorem dX12_undo_16 : decode cX12_undo 16 = .ok (.isub, 1) := by decide +kernel
theorem dX12_undo_17 : decode cX12_undo 17 = .ok (.putfield 112, 3) := by decide +kernel
theorem dX12_undo_20 : decode cX12_undo 20 = .ok (.aload_n 0, 1) := by decide +kernel
theorem dX12_undo_21 : decode cX12_undo 21 = .ok (.dup, 1) := by decide +kernel
theorem dX12_undo_22 : decode cX12_undo 22 = .ok (.getfield 109, 3) := by decide +kernel
theorem dX12_undo_25 : decode cX12_undo 25 = .ok (.iconst 1, 1) := by decide +kernel
theorem dX12_undo_26 : decode cX12_undo 26 = .ok (.isub, 1) := by decide +kernel
theorem dX12_undo_27 : decode cX12_undo 27 = .ok (.putfield 109, 3) := by decide +kernel
theorem dX12_undo_30 : decode cX12_undo 30 = .ok (.aload_n 0, 1) := by decide +kernel
theorem dX12_undo_31 : decode cX12_undo 31 = .ok (.getfield 25, 3) := by decide +kernel
theorem dX12_undo_34 : decode cX12_undo 34 = .ok (.bipush 32, 2) := by decide +kernel
theorem dX12_undo_36 : decode cX12_undo 36 = .ok (.aload_n 0, 1) := by decide +kernel
theorem dX12_undo_37 : decode cX12_undo 37 = .ok (.getfield 112, 3) := by decide +kernel
theorem dX12_undo_40 : decode cX12_undo 40 = .ok (.imul, 1) := by decide +kernel
theorem dX12_undo_41 : decode cX12_undo 41 = .ok (.aload_n 0, 1) := by decide +kernel
theorem dX12_undo_42 : decode cX12_undo 42 = .ok (.getfield 19, 3) := by decide +kernel
theorem dX12_undo_45 : decode cX12_undo 45 = .ok (.iconst 0, 1) := by decide +kernel
theorem dX12_undo_46 : decode cX12_undo 46 = .ok (.bipush 32, 2) := by decide +kernel
theorem dX12_undo_48 : decode cX12_undo 48 = .ok (.invokestatic 105, 3) := by decide +kernel
theorem dX12_undo_51 : decode cX12_undo 51 = .ok (.aload_n 0, 1) := by decide +kernel
theorem dX12_undo_52 : decode cX12_undo 52 = .ok (.getfield 112, 3) := by decide +kernel
theorem dX12_undo_55 : decode cX12_undo 55 = .ok (.ireturn, 1) := by decide +kernel
theorem dX12_wish_0 : decode cX12_wish 0 = .ok (.aload_n 0, 1) := by decide +kernel
theorem dX12_wish_1 : decode cX12_wish 1 = .ok (.iload_n 1, 1) := by decide +kernel
theorem dX12_wish_2 : decode cX12_wish 2 = .ok (.invokevirtual 161, 3) := by decide +kernel
theorem dX12_wish_5 : decode cX12_wish 5 = .ok (.ifCond .eq 15, 3) := by decide +kernel
theorem dX12_wish_8 : decode cX12_wish 8 = .ok (.iload_n 2, 1) := by decide +kernel
theorem dX12_wish_9 : decode cX12_wish 9 = .ok (.i2l, 1) := by decide +kernel
theorem dX12_wish_10 : decode cX12_wish 10 = .ok (.lconst 0, 1) := by decide +kernel
theorem dX12_wish_11 : decode cX12_wish 11 = .ok (.ldc2_w 186, 3) := by decide +kernel
theorem dX12_wish_14 : decode cX12_wish 14 = .ok (.invokestatic 59, 3) := by decide +kernel
theorem dX12_wish_17 : decode cX12_wish 17 = .ok (.ifCond .ne 5, 3) := by decide +kernel
theorem dX12_wish_20 : decode cX12_wish 20 = .ok (.iconst (-1), 1) := by decide +kernel
theorem dX12_wish_21 : decode cX12_wish 21 = .ok (.ireturn, 1) := by decide +kernel
theorem dX12_wish_22 : decode cX12_wish 22 = .ok (.aload_n 0, 1) := by decide +kernel
theorem dX12_wish_23 : decode cX12_wish 23 = .ok (.getfield 19, 3) := by decide +kernel
theorem dX12_wish_26 : decode cX12_wish 26 = .ok (.bipush 32, 2) := by decide +kernel
theorem dX12_wish_28 : decode cX12_wish 28 = .ok (.iload_n 1, 1) := by decide +kernel
theorem dX12_wish_29 : decode cX12_wish 29 = .ok (.iadd, 1) := by decide +kernel
theorem dX12_wish_30 : decode cX12_wish 30 = .ok (.iaload, 1) := by decide +kernel
theorem dX12_wish_31 : decode cX12_wish 31 = .ok (.istore_n 3, 1) := by decide +kernel
theorem dX12_wish_32 : decode cX12_wish 32 = .ok (.aload_n 0, 1) := by decide +kernel
theorem dX12_wish_33 : decode cX12_wish 33 = .ok (.getfield 19, 3) := by decide +kernel
theorem dX12_wish_36 : decode cX12_wish 36 = .ok (.bipush 32, 2) := by decide +kernel
theorem dX12_wish_38 : decode cX12_wish 38 = .ok (.iload_n 1, 1) := by decide +kernel
theorem dX12_wish_39 : decode cX12_wish 39 = .ok (.iadd, 1) := by decide +kernel
theorem dX12_wish_40 : decode cX12_wish 40 = .ok (.iload_n 2, 1) := by decide +kernel
theorem dX12_wish_41 : decode cX12_wish 41 = .ok (.iastore, 1) := by decide +kernel
theorem dX12_wish_42 : decode cX12_wish 42 = .ok (.iload_n 3, 1) := by decide +kernel
theorem dX12_wish_43 : decode cX12_wish 43 = .ok (.ireturn, 1) := by decide +kernel
theorem dX12_image_0 : decode cX12_image 0 = .ok (.iload_n 1, 1) := by decide +kernel
theorem dX12_image_1 : decode cX12_image 1 = .ok (.i2l, 1) := by decide +kernel
theorem dX12_image_2 : decode cX12_image 2 = .ok (.lconst 0, 1) := by decide +kernel
theorem dX12_image_3 : decode cX12_image 3 = .ok (.lconst 1, 1) := by decide +kernel
theorem dX12_image_4 : decode cX12_image 4 = .ok (.invokestatic 59, 3) := by decide +kernel
theorem dX12_image_7 : decode cX12_image 7 = .ok (.ifCond .ne 5, 3) := by decide +kernel
theorem dX12_image_10 : decode cX12_image 10 = .ok (.iconst (-1), 1) := by decide +kernel
theorem dX12_image_11 : decode cX12_image 11 = .ok (.ireturn, 1) := by decide +kernel
theorem dX12_image_12 : decode cX12_image 12 = .ok (.aload_n 0, 1) := by decide +kernel
theorem dX12_image_13 : decode cX12_image 13 = .ok (.getfield 7, 3) := by decide +kernel
theorem dX12_image_16 : decode cX12_image 16 = .ok (.iconst 0, 1) := by decide +kernel
theorem dX12_image_17 : decode cX12_image 17 = .ok (.iaload, 1) := by decide +kernel
theorem dX12_image_18 : decode cX12_image 18 = .ok (.ifCond .ne 6, 3) := by decide +kernel
theorem dX12_image_21 : decode cX12_image 21 = .ok (.bipush (-2), 2) := by decide +kernel
theorem dX12_image_23 : decode cX12_image 23 = .ok (.ireturn, 1) := by decide +kernel
theorem dX12_image_24 : decode cX12_image 24 = .ok (.aload_n 0, 1) := by decide +kernel
theorem dX12_image_25 : decode cX12_image 25 = .ok (.getfield 7, 3) := by decide +kernel
theorem dX12_image_28 : decode cX12_image 28 = .ok (.iconst 0, 1) := by decide +kernel
theorem dX12_image_29 : decode cX12_image 29 = .ok (.aload_n 0, 1) := by decide +kernel
theorem dX12_image_30 : decode cX12_image 30 = .ok (.getfield 28, 3) := by decide +kernel
theorem dX12_image_33 : decode cX12_image 33 = .ok (.bipush 67, 2) := by decide +kernel
theorem dX12_image_35 : decode cX12_image 35 = .ok (.iload_n 1, 1) := by decide +kernel
theorem dX12_image_36 : decode cX12_image 36 = .ok (.imul, 1) := by decide +kernel
theorem dX12_image_37 : decode cX12_image 37 = .ok (.bipush 26, 2) := by decide +kernel
theorem dX12_image_39 : decode cX12_image 39 = .ok (.invokestatic 105, 3) := by decide +kernel
theorem dX12_image_42 : decode cX12_image 42 = .ok (.aload_n 0, 1) := by decide +kernel
theorem dX12_image_43 : decode cX12_image 43 = .ok (.getfield 19, 3) := by decide +kernel
theorem dX12_image_46 : decode cX12_image 46 = .ok (.iconst 0, 1) := by decide +kernel
theorem dX12_image_47 : decode cX12_image 47 = .ok (.aload_n 0, 1) := by decide +kernel
theorem dX12_image_48 : decode cX12_image 48 = .ok (.getfield 28, 3) := by decide +kernel
theorem dX12_image_51 : decode cX12_image 51 = .ok (.bipush 67, 2) := by decide +kernel
theorem dX12_image_53 : decode cX12_image 53 = .ok (.iload_n 1, 1) := by decide +kernel
theorem dX12_image_54 : decode cX12_image 54 = .ok (.imul, 1) := by decide +kernel
theorem dX12_image_55 : decode cX12_image 55 = .ok (.bipush 26, 2) := by decide +kernel
theorem dX12_image_57 : decode cX12_image 57 = .ok (.iadd, 1) := by decide +kernel
theorem dX12_image_58 : decode cX12_image 58 = .ok (.bipush 40, 2) := by decide +kernel
theorem dX12_image_60 : decode cX12_image 60 = .ok (.invokestatic 105, 3) := by decide +kernel
theorem dX12_image_63 : decode cX12_image 63 = .ok (.aload_n 0, 1) := by decide +kernel
theorem dX12_image_64 : decode cX12_image 64 = .ok (.getfield 28, 3) := by decide +kernel
theorem dX12_image_67 : decode cX12_image 67 = .ok (.bipush 67, 2) := by decide +kernel
theorem dX12_image_69 : decode cX12_image 69 = .ok (.iload_n 1, 1) := by decide +kernel
theorem dX12_image_70 : decode cX12_image 70 = .ok (.imul, 1) := by decide +kernel
theorem dX12_image_71 : decode cX12_image 71 = .ok (.bipush 26, 2) := by decide +kernel
theorem dX12_image_73 : decode cX12_image 73 = .ok (.iadd, 1) := by decide +kernel
theorem dX12_image_74 : decode cX12_image 74 = .ok (.bipush 40, 2) := by decide +kernel
theorem dX12_image_76 : decode cX12_image 76 = .ok (.iadd, 1) := by decide +kernel
theorem dX12_image_77 : decode cX12_image 77 = .ok (.aload_n 0, 1) := by decide +kernel
theorem dX12_image_78 : decode cX12_image 78 = .ok (.getfield 109, 3) := by decide +kernel
theorem dX12_image_81 : decode cX12_image 81 = .ok (.iastore, 1) := by decide +kernel
theorem dX12_image_82 : decode cX12_image 82 = .ok (.aload_n 0, 1) := by decide +kernel
theorem dX12_image_83 : decode cX12_image 83 = .ok (.getfield 31, 3) := by decide +kernel
theorem dX12_image_86 : decode cX12_image 86 = .ok (.iload_n 1, 1) := by decide +kernel
theorem dX12_image_87 : decode cX12_image 87 = .ok (.iconst 1, 1) := by decide +kernel
theorem dX12_image_88 : decode cX12_image 88 = .ok (.bastore, 1) := by decide +kernel
theorem dX12_image_89 : decode cX12_image 89 = .ok (.aload_n 0, 1) := by decide +kernel
theorem dX12_image_90 : decode cX12_image 90 = .ok (.getfield 109, 3) := by decide +kernel
theorem dX12_image_93 : decode cX12_image 93 = .ok (.ireturn, 1) := by decide +kernel
theorem dX12_restore_0 : decode cX12_restore 0 = .ok (.iload_n 1, 1) := by decide +kernel
theorem dX12_restore_1 : decode cX12_restore 1 = .ok (.i2l, 1) := by decide +kernel
theorem dX12_restore_2 : decode cX12_restore 2 = .ok (.lconst 0, 1) := by decide +kernel
theorem dX12_restore_3 : decode cX12_restore 3 = .ok (.lconst 1, 1) := by decide +kernel
theorem dX12_restore_4 : decode cX12_restore 4 = .ok (.invokestatic 59, 3) := by decide +kernel
theorem dX12_restore_7 : decode cX12_restore 7 = .ok (.ifCond .ne 5, 3) := by decide +kernel
theorem dX12_restore_10 : decode cX12_restore 10 = .ok (.iconst (-1), 1) := by decide +kernel
theorem dX12_restore_11 : decode cX12_restore 11 = .ok (.ireturn, 1) := by decide +kernel
theorem dX12_restore_12 : decode cX12_restore 12 = .ok (.aload_n 0, 1) := by decide +kernel
theorem dX12_restore_13 : decode cX12_restore 13 = .ok (.getfield 31, 3) := by decide +kernel
theorem dX12_restore_16 : decode cX12_restore 16 = .ok (.iload_n 1, 1) := by decide +kernel
theorem dX12_restore_17 : decode cX12_restore 17 = .ok (.baload, 1) := by decide +kernel
theorem dX12_restore_18 : decode cX12_restore 18 = .ok (.ifCond .ne 6, 3) := by decide +kernel
theorem dX12_restore_21 : decode cX12_restore 21 = .ok (.bipush (-2), 2) := by decide +kernel
theorem dX12_restore_23 : decode cX12_restore 23 = .ok (.ireturn, 1) := by decide +kernel
theorem dX12_restore_24 : decode cX12_restore 24 = .ok (.aload_n 0, 1) := by decide +kernel
theorem dX12_restore_25 : decode cX12_restore 25 = .ok (.getfield 28, 3) := by decide +kernel
theorem dX12_restore_28 : decode cX12_restore 28 = .ok (.bipush 67, 2) := by decide +kernel
theorem dX12_restore_30 : decode cX12_restore 30 = .ok (.iload_n 1, 1) := by decide +kernel
theorem dX12_restore_31 : decode cX12_restore 31 = .ok (.imul, 1) := by decide +kernel
theorem dX12_restore_32 : decode cX12_restore 32 = .ok (.aload_n 0, 1) := by decide +kernel
theorem dX12_restore_33 : decode cX12_restore 33 = .ok (.getfield 7, 3) := by decide +kernel
theorem dX12_restore_36 : decode cX12_restore 36 = .ok (.iconst 0, 1) := by decide +kernel
theorem dX12_restore_37 : decode cX12_restore 37 = .ok (.bipush 26, 2) := by decide +kernel
theorem dX12_restore_39 : decode cX12_restore 39 = .ok (.invokestatic 105, 3) := by decide +kernel
theorem dX12_restore_42 : decode cX12_restore 42 = .ok (.aload_n 0, 1) := by decide +kernel
theorem dX12_restore_43 : decode cX12_restore 43 = .ok (.getfield 28, 3) := by decide +kernel
theorem dX12_restore_46 : decode cX12_restore 46 = .ok (.bipush 67, 2) := by decide +kernel
theorem dX12_restore_48 : decode cX12_restore 48 = .ok (.iload_n 1, 1) := by decide +kernel
theorem dX12_restore_49 : decode cX12_restore 49 = .ok (.imul, 1) := by decide +kernel
theorem dX12_restore_50 : decode cX12_restore 50 = .ok (.bipush 26, 2) := by decide +kernel
theorem dX12_restore_52 : decode cX12_restore 52 = .ok (.iadd, 1) := by decide +kernel
theorem dX12_restore_53 : decode cX12_restore 53 = .ok (.aload_n 0, 1) := by decide +kernel
theorem dX12_restore_54 : decode cX12_restore 54 = .ok (.getfield 19, 3) := by decide +kernel
theorem dX12_restore_57 : decode cX12_restore 57 = .ok (.iconst 0, 1) := by decide +kernel
theorem dX12_restore_58 : decode cX12_restore 58 = .ok (.bipush 40, 2) := by decide +kernel
theorem dX12_restore_60 : decode cX12_restore 60 = .ok (.invokestatic 105, 3) := by decide +kernel
theorem dX12_restore_63 : decode cX12_restore 63 = .ok (.aload_n 0, 1) := by decide +kernel
theorem dX12_restore_64 : decode cX12_restore 64 = .ok (.aload_n 0, 1) := by decide +kernel
theorem dX12_restore_65 : decode cX12_restore 65 = .ok (.getfield 28, 3) := by decide +kernel
theorem dX12_restore_68 : decode cX12_restore 68 = .ok (.bipush 67, 2) := by decide +kernel
theorem dX12_restore_70 : decode cX12_restore 70 = .ok (.iload_n 1, 1) := by decide +kernel
theorem dX12_restore_71 : decode cX12_restore 71 = .ok (.imul, 1) := by decide +kernel
theorem dX12_restore_72 : decode cX12_restore 72 = .ok (.bipush 26, 2) := by decide +kernel
theorem dX12_restore_74 : decode cX12_restore 74 = .ok (.iadd, 1) := by decide +kernel
theorem dX12_restore_75 : decode cX12_restore 75 = .ok (.bipush 40, 2) := by decide +kernel
theorem dX12_restore_77 : decode cX12_restore 77 = .ok (.iadd, 1) := by decide +kernel
theorem dX12_restore_78 : decode cX12_restore 78 = .ok (.iaload, 1) := by decide +kernel
theorem dX12_restore_79 : decode cX12_restore 79 = .ok (.putfield 109, 3) := by decide +kernel
theorem dX12_restore_82 : decode cX12_restore 82 = .ok (.aload_n 0, 1) := by decide +kernel
theorem dX12_restore_83 : decode cX12_restore 83 = .ok (.iconst 0, 1) := by decide +kernel
theorem dX12_restore_84 : decode cX12_restore 84 = .ok (.putfield 112, 3) := by decide +kernel
theorem dX12_restore_87 : decode cX12_restore 87 = .ok (.aload_n 0, 1) := by decide +kernel
theorem dX12_restore_88 : decode cX12_restore 88 = .ok (.getfield 109, 3) := by decide +kernel
theorem dX12_restore_91 : decode cX12_restore 91 = .ok (.ireturn, 1) := by decide +kernel
theorem dX12_laysAside_0 : decode cX12_laysAside 0 = .ok (.aload_n 0, 1) := by decide +kernel
theorem dX12_laysAside_1 : decode cX12_laysAside 1 = .ok (.getfield 19, 3) := by decide +kernel
theorem dX12_laysAside_4 : decode cX12_laysAside 4 = .ok (.iconst 0, 1) := by decide +kernel
theorem dX12_laysAside_5 : decode cX12_laysAside 5 = .ok (.aload_n 0, 1) := by decide +kernel
theorem dX12_laysAside_6 : decode cX12_laysAside 6 = .ok (.getfield 22, 3) := by decide +kernel
theorem dX12_laysAside_9 : decode cX12_laysAside 9 = .ok (.iconst 0, 1) := by decide +kernel
theorem dX12_laysAside_10 : decode cX12_laysAside 10 = .ok (.bipush 40, 2) := by decide +kernel
theorem dX12_laysAside_12 : decode cX12_laysAside 12 = .ok (.invokestatic 105, 3) := by decide +kernel
theorem dX12_laysAside_15 : decode cX12_laysAside 15 = .ok (.return_, 1) := by decide +kernel
theorem dX12_doingsThere_0 : decode cX12_doingsThere 0 = .ok (.aload_n 0, 1) := by decide +kernel
theorem dX12_doingsThere_1 : decode cX12_doingsThere 1 = .ok (.getfield 7, 3) := by decide +kernel
theorem dX12_doingsThere_4 : decode cX12_doingsThere 4 = .ok (.iconst 1, 1) := by decide +kernel
theorem dX12_doingsThere_5 : decode cX12_doingsThere 5 = .ok (.iaload, 1) := by decide +kernel
theorem dX12_doingsThere_6 : decode cX12_doingsThere 6 = .ok (.aload_n 0, 1) := by decide +kernel
theorem dX12_doingsThere_7 : decode cX12_doingsThere 7 = .ok (.getfield 7, 3) := by decide +kernel
theorem dX12_doingsThere_10 : decode cX12_doingsThere 10 = .ok (.iconst 2, 1) := by decide +kernel
theorem dX12_doingsThere_11 : decode cX12_doingsThere 11 = .ok (.iaload, 1) := by decide +kernel
theorem dX12_doingsThere_12 : decode cX12_doingsThere 12 = .ok (.iadd, 1) := by decide +kernel
theorem dX12_doingsThere_13 : decode cX12_doingsThere 13 = .ok (.iconst 2, 1) := by decide +kernel
theorem dX12_doingsThere_14 : decode cX12_doingsThere 14 = .ok (.iadd, 1) := by decide +kernel
theorem dX12_doingsThere_15 : decode cX12_doingsThere 15 = .ok (.ireturn, 1) := by decide +kernel
theorem dX12_doingOf_0 : decode cX12_doingOf 0 = .ok (.aload_n 0, 1) := by decide +kernel
theorem dX12_doingOf_1 : decode cX12_doingOf 1 = .ok (.getfield 7, 3) := by decide +kernel
theorem dX12_doingOf_4 : decode cX12_doingOf 4 = .ok (.iconst 1, 1) := by decide +kernel
theorem dX12_doingOf_5 : decode cX12_doingOf 5 = .ok (.iaload, 1) := by decide +kernel
theorem dX12_doingOf_6 : decode cX12_doingOf 6 = .ok (.istore_n 2, 1) := by decide +kernel
theorem dX12_doingOf_7 : decode cX12_doingOf 7 = .ok (.aload_n 0, 1) := by decide +kernel
theorem dX12_doingOf_8 : decode cX12_doingOf 8 = .ok (.getfield 7, 3) := by decide +kernel
theorem dX12_doingOf_11 : decode cX12_doingOf 11 = .ok (.iconst 2, 1) := by decide +kernel
theorem dX12_doingOf_12 : decode cX12_doingOf 12 = .ok (.iaload, 1) := by decide +kernel
theorem dX12_doingOf_13 : decode cX12_doingOf 13 = .ok (.istore_n 3, 1) := by decide +kernel
theorem dX12_doingOf_14 : decode cX12_doingOf 14 = .ok (.iload_n 1, 1) := by decide +kernel
theorem dX12_doingOf_15 : decode cX12_doingOf 15 = .ok (.iload_n 2, 1) := by decide +kernel
theorem dX12_doingOf_16 : decode cX12_doingOf 16 = .ok (.if_icmp .ge 7, 3) := by decide +kernel
theorem dX12_doingOf_19 : decode cX12_doingOf 19 = .ok (.iload_n 1, 1) := by decide +kernel
theorem dX12_doingOf_20 : decode cX12_doingOf 20 = .ok (.goto 27, 3) := by decide +kernel
theorem dX12_doingOf_23 : decode cX12_doingOf 23 = .ok (.iload_n 1, 1) := by decide +kernel
theorem dX12_doingOf_24 : decode cX12_doingOf 24 = .ok (.iload_n 2, 1) := by decide +kernel
theorem dX12_doingOf_25 : decode cX12_doingOf 25 = .ok (.iload_n 3, 1) := by decide +kernel
theorem dX12_doingOf_26 : decode cX12_doingOf 26 = .ok (.iadd, 1) := by decide +kernel
theorem dX12_doingOf_27 : decode cX12_doingOf 27 = .ok (.if_icmp .ge 12, 3) := by decide +kernel
theorem dX12_doingOf_30 : decode cX12_doingOf 30 = .ok (.bipush 10, 2) := by decide +kernel
theorem dX12_doingOf_32 : decode cX12_doingOf 32 = .ok (.iload_n 1, 1) := by decide +kernel
theorem dX12_doingOf_33 : decode cX12_doingOf 33 = .ok (.iadd, 1) := by decide +kernel
theorem dX12_doingOf_34 : decode cX12_doingOf 34 = .ok (.iload_n 2, 1) := by decide +kernel
theorem dX12_doingOf_35 : decode cX12_doingOf 35 = .ok (.isub, 1) := by decide +kernel
theorem dX12_doingOf_36 : decode cX12_doingOf 36 = .ok (.goto 11, 3) := by decide +kernel
theorem dX12_doingOf_39 : decode cX12_doingOf 39 = .ok (.bipush 20, 2) := by decide +kernel
theorem dX12_doingOf_41 : decode cX12_doingOf 41 = .ok (.iload_n 1, 1) := by decide +kernel
theorem dX12_doingOf_42 : decode cX12_doingOf 42 = .ok (.iadd, 1) := by decide +kernel
theorem dX12_doingOf_43 : decode cX12_doingOf 43 = .ok (.iload_n 2, 1) := by decide +kernel
theorem dX12_doingOf_44 : decode cX12_doingOf 44 = .ok (.isub, 1) := by decide +kernel
theorem dX12_doingOf_45 : decode cX12_doingOf 45 = .ok (.iload_n 3, 1) := by decide +kernel
theorem dX12_doingOf_46 : decode cX12_doingOf 46 = .ok (.isub, 1) := by decide +kernel
theorem dX12_doingOf_47 : decode cX12_doingOf 47 = .ok (.ireturn, 1) := by decide +kernel
theorem dX12_plan_0 : decode cX12_plan 0 = .ok (.iload_n 1, 1) := by decide +kernel
theorem dX12_plan_1 : decode cX12_plan 1 = .ok (.i2l, 1) := by decide +kernel
theorem dX12_plan_2 : decode cX12_plan 2 = .ok (.lconst 0, 1) := by decide +kernel
theorem dX12_plan_3 : decode cX12_plan 3 = .ok (.ldc2_w 188, 3) := by decide +kernel
theorem dX12_plan_6 : decode cX12_plan 6 = .ok (.invokestatic 59, 3) := by decide +kernel
theorem dX12_plan_9 : decode cX12_plan 9 = .ok (.ifCond .eq 9, 3) := by decide +kernel
theorem dX12_plan_12 : decode cX12_plan 12 = .ok (.iload_n 2, 1) := by decide +kernel
theorem dX12_plan_13 : decode cX12_plan 13 = .ok (.bipush (-2), 2) := by decide +kernel
theorem dX12_plan_15 : decode cX12_plan 15 = .ok (.if_icmp .ge 5, 3) := by decide +kernel
theorem dX12_plan_18 : decode cX12_plan 18 = .ok (.iconst (-1), 1) := by decide +kernel
theorem dX12_plan_19 : decode cX12_plan 19 = .ok (.ireturn, 1) := by decide +kernel
theorem dX12_plan_20 : decode cX12_plan 20 = .ok (.aload_n 0, 1) := by decide +kernel
theorem dX12_plan_21 : decode cX12_plan 21 = .ok (.getfield 7, 3) := by decide +kernel
theorem dX12_plan_24 : decode cX12_plan 24 = .ok (.iconst 0, 1) := by decide +kernel
theorem dX12_plan_25 : decode cX12_plan 25 = .ok (.iaload, 1) := by decide +kernel
theorem dX12_plan_26 : decode cX12_plan 26 = .ok (.ifCond .ne 6, 3) := by decide +kernel
theorem dX12_plan_29 : decode cX12_plan 29 = .ok (.bipush (-2), 2) := by decide +kernel
theorem dX12_plan_31 : decode cX12_plan 31 = .ok (.ireturn, 1) := by decide +kernel
theorem dX12_plan_32 : decode cX12_plan 32 = .ok (.aload_n 0, 1) := by decide +kernel
theorem dX12_plan_33 : decode cX12_plan 33 = .ok (.invokevirtual 190, 3) := by decide +kernel
theorem dX12_plan_36 : decode cX12_plan 36 = .ok (.istore_n 3, 1) := by decide +kernel
theorem dX12_plan_37 : decode cX12_plan 37 = .ok (.iconst (-1), 1) := by decide +kernel
theorem dX12_plan_38 : decode cX12_plan 38 = .ok (.istore 4, 2) := by decide +kernel
theorem dX12_plan_40 : decode cX12_plan 40 = .ok (.iconst 0, 1) := by decide +kernel
theorem dX12_plan_41 : decode cX12_plan 41 = .ok (.istore 5, 2) := by decide +kernel
theorem dX12_plan_43 : decode cX12_plan 43 = .ok (.iconst 0, 1) := by decide +kernel
theorem dX12_plan_44 : decode cX12_plan 44 = .ok (.istore 6, 2) := by decide +kernel
theorem dX12_plan_46 : decode cX12_plan 46 = .ok (.iconst 1, 1) := by decide +kernel
theorem dX12_plan_47 : decode cX12_plan 47 = .ok (.istore 7, 2) := by decide +kernel
theorem dX12_plan_49 : decode cX12_plan 49 = .ok (.iconst 0, 1) := by decide +kernel
theorem dX12_plan_50 : decode cX12_plan 50 = .ok (.istore 8, 2) := by decide +kernel
theorem dX12_plan_52 : decode cX12_plan 52 = .ok (.iload 8, 2) := by decide +kernel
theorem dX12_plan_54 : decode cX12_plan 54 = .ok (.iload_n 1, 1) := by decide +kernel
theorem dX12_plan_55 : decode cX12_plan 55 = .ok (.if_icmp .gt 106, 3) := by decide +kernel
theorem dX12_plan_58 : decode cX12_plan 58 = .ok (.iconst 0, 1) := by decide +kernel
theorem dX12_plan_59 : decode cX12_plan 59 = .ok (.istore 9, 2) := by decide +kernel
theorem dX12_plan_61 : decode cX12_plan 61 = .ok (.iload 9, 2) := by decide +kernel
theorem dX12_plan_63 : decode cX12_plan 63 = .ok (.iload 7, 2) := by decide +kernel
theorem dX12_plan_65 : decode cX12_plan 65 = .ok (.if_icmp .ge 84, 3) := by decide +kernel
theorem dX12_plan_68 : decode cX12_plan 68 = .ok (.aload_n 0, 1) := by decide +kernel
theorem dX12_plan_69 : decode cX12_plan 69 = .ok (.invokevirtual 193, 3) := by decide +kernel
theorem dX12_plan_72 : decode cX12_plan 72 = .ok (.iload 7, 2) := by decide +kernel
theorem dX12_plan_74 : decode cX12_plan 74 = .ok (.iload_n 3, 1) := by decide +kernel
theorem dX12_plan_75 : decode cX12_plan 75 = .ok (.idiv, 1) := by decide +kernel
theorem dX12_plan_76 : decode cX12_plan 76 = .ok (.istore 10, 2) := by decide +kernel
theorem dX12_plan_78 : decode cX12_plan 78 = .ok (.iload 10, 2) := by decide +kernel
theorem dX12_plan_80 : decode cX12_plan 80 = .ok (.ifCond .le 31, 3) := by decide +kernel
theorem dX12_plan_83 : decode cX12_plan 83 = .ok (.aload_n 0, 1) := by decide +kernel
theorem dX12_plan_84 : decode cX12_plan 84 = .ok (.aload_n 0, 1) := by decide +kernel
theorem dX12_plan_85 : decode cX12_plan 85 = .ok (.getfield 22, 3) := by decide +kernel
theorem dX12_plan_88 : decode cX12_plan 88 = .ok (.aload_n 0, 1) := by decide +kernel
theorem dX12_plan_89 : decode cX12_plan 89 = .ok (.iload 9, 2) := by decide +kernel
theorem dX12_plan_91 : decode cX12_plan 91 = .ok (.iload 10, 2) := by decide +kernel
theorem dX12_plan_93 : decode cX12_plan 93 = .ok (.idiv, 1) := by decide +kernel
theorem dX12_plan_94 : decode cX12_plan 94 = .ok (.iload_n 3, 1) := by decide +kernel
theorem dX12_plan_95 : decode cX12_plan 95 = .ok (.irem, 1) := by decide +kernel
theorem dX12_plan_96 : decode cX12_plan 96 = .ok (.invokevirtual 196, 3) := by decide +kernel
theorem dX12_plan_99 : decode cX12_plan 99 = .ok (.invokevirtual 179, 3) := by decide +kernel
theorem dX12_plan_102 : decode cX12_plan 102 = .ok (.iload 10, 2) := by decide +kernel
theorem dX12_plan_104 : decode cX12_plan 104 = .ok (.iload_n 3, 1) := by decide +kernel
theorem dX12_plan_105 : decode cX12_plan 105 = .ok (.idiv, 1) := by decide +kernel
theorem dX12_plan_106 : decode cX12_plan 106 = .ok (.istore 10, 2) := by decide +kernel
theorem dX12_plan_108 : decode cX12_plan 108 = .ok (.goto (-30), 3) := by decide +kernel
theorem dX12_plan_111 : decode cX12_plan 111 = .ok (.aload_n 0, 1) := by decide +kernel
theorem dX12_plan_112 : decode cX12_plan 112 = .ok (.aload_n 0, 1) := by decide +kernel
theorem dX12_plan_113 : decode cX12_plan 113 = .ok (.getfield 22, 3) := by decide +kernel
theorem dX12_plan_116 : decode cX12_plan 116 = .ok (.invokevirtual 182, 3) := by decide +kernel
theorem dX12_plan_119 : decode cX12_plan 119 = .ok (.invokestatic 199, 3) := by decide +kernel
theorem dX12_plan_122 : decode cX12_plan 122 = .ok (.istore 10, 2) := by decide +kernel
theorem dX12_plan_124 : decode cX12_plan 124 = .ok (.iload 10, 2) := by decide +kernel
theorem dX12_plan_126 : decode cX12_plan 126 = .ok (.iload 4, 2) := by decide +kernel
theorem dX12_plan_128 : decode cX12_plan 128 = .ok (.if_icmp .le 15, 3) := by decide +kernel
theorem dX12_plan_131 : decode cX12_plan 131 = .ok (.iload 10, 2) := by decide +kernel
theorem dX12_plan_133 : decode cX12_plan 133 = .ok (.istore 4, 2) := by decide +kernel
theorem dX12_plan_135 : decode cX12_plan 135 = .ok (.iload 9, 2) := by decide +kernel
theorem dX12_plan_137 : decode cX12_plan 137 = .ok (.istore 5, 2) := by decide +kernel
theorem dX12_plan_139 : decode cX12_plan 139 = .ok (.iload 8, 2) := by decide +kernel
theorem dX12_plan_141 : decode cX12_plan 141 = .ok (.istore 6, 2) := by decide +kernel
theorem dX12_plan_143 : decode cX12_plan 143 = .ok (.iinc 9 1, 3) := by decide +kernel
theorem dX12_plan_146 : decode cX12_plan 146 = .ok (.goto (-85), 3) := by decide +kernel
theorem dX12_plan_149 : decode cX12_plan 149 = .ok (.iload 7, 2) := by decide +kernel
theorem dX12_plan_151 : decode cX12_plan 151 = .ok (.iload_n 3, 1) := by decide +kernel
theorem dX12_plan_152 : decode cX12_plan 152 = .ok (.imul, 1) := by decide +kernel
theorem dX12_plan_153 : decode cX12_plan 153 = .ok (.istore 7, 2) := by decide +kernel
theorem dX12_plan_155 : decode cX12_plan 155 = .ok (.iinc 8 1, 3) := by decide +kernel
theorem dX12_plan_158 : decode cX12_plan 158 = .ok (.goto (-106), 3) := by decide +kernel
theorem dX12_plan_161 : decode cX12_plan 161 = .ok (.iload_n 2, 1) := by decide +kernel
theorem dX12_plan_162 : decode cX12_plan 162 = .ok (.ifCond .ge 17, 3) := by decide +kernel
theorem dX12_plan_165 : decode cX12_plan 165 = .ok (.iload_n 2, 1) := by decide +kernel
theorem dX12_plan_166 : decode cX12_plan 166 = .ok (.bipush (-2), 2) := by decide +kernel
theorem dX12_plan_168 : decode cX12_plan 168 = .ok (.if_icmp .ne 8, 3) := by decide +kernel
theorem dX12_plan_171 : decode cX12_plan 171 = .ok (.iload 4, 2) := by decide +kernel
theorem dX12_plan_173 : decode cX12_plan 173 = .ok (.goto 5, 3) := by decide +kernel
theorem dX12_plan_176 : decode cX12_plan 176 = .ok (.iload 6, 2) := by decide +kernel
theorem dX12_plan_178 : decode cX12_plan 178 = .ok (.ireturn, 1) := by decide +kernel
theorem dX12_plan_179 : decode cX12_plan 179 = .ok (.iload_n 2, 1) := by decide +kernel
theorem dX12_plan_180 : decode cX12_plan 180 = .ok (.iload 6, 2) := by decide +kernel
theorem dX12_plan_182 : decode cX12_plan 182 = .ok (.if_icmp .lt 6, 3) := by decide +kernel
theorem dX12_plan_185 : decode cX12_plan 185 = .ok (.bipush (-4), 2) := by decide +kernel
theorem dX12_plan_187 : decode cX12_plan 187 = .ok (.ireturn, 1) := by decide +kernel
theorem dX12_plan_188 : decode cX12_plan 188 = .ok (.iload 6, 2) := by decide +kernel
theorem dX12_plan_190 : decode cX12_plan 190 = .ok (.iconst 1, 1) := by decide +kernel
theorem dX12_plan_191 : decode cX12_plan 191 = .ok (.isub, 1) := by decide +kernel
theorem dX12_plan_192 : decode cX12_plan 192 = .ok (.istore 8, 2) := by decide +kernel
theorem dX12_plan_194 : decode cX12_plan 194 = .ok (.iload 8, 2) := by decide +kernel
theorem dX12_plan_196 : decode cX12_plan 196 = .ok (.iload_n 2, 1) := by decide +kernel
theorem dX12_plan_197 : decode cX12_plan 197 = .ok (.if_icmp .le 15, 3) := by decide +kernel
theorem dX12_plan_200 : decode cX12_plan 200 = .ok (.iload 5, 2) := by decide +kernel
theorem dX12_plan_202 : decode cX12_plan 202 = .ok (.iload_n 3, 1) := by decide +kernel
theorem dX12_plan_203 : decode cX12_plan 203 = .ok (.idiv, 1) := by decide +kernel
theorem dX12_plan_204 : decode cX12_plan 204 = .ok (.istore 5, 2) := by decide +kernel
theorem dX12_plan_206 : decode cX12_plan 206 = .ok (.iinc 8 (-1), 3) := by decide +kernel
theorem dX12_plan_209 : decode cX12_plan 209 = .ok (.goto (-15), 3) := by decide +kernel
theorem dX12_plan_212 : decode cX12_plan 212 = .ok (.aload_n 0, 1) := by decide +kernel
theorem dX12_plan_213 : decode cX12_plan 213 = .ok (.iload 5, 2) := by decide +kernel
theorem dX12_plan_215 : decode cX12_plan 215 = .ok (.iload_n 3, 1) := by decide +kernel
theorem dX12_plan_216 : decode cX12_plan 216 = .ok (.irem, 1) := by decide +kernel
theorem dX12_plan_217 : decode cX12_plan 217 = .ok (.invokevirtual 196, 3) := by decide +kernel
theorem dX12_plan_220 : decode cX12_plan 220 = .ok (.ireturn, 1) := by decide +kernel
theorem dX12_whitens_0 : decode cX12_whitens 0 = .ok (.iconst 0, 1) := by decide +kernel
theorem dX12_whitens_1 : decode cX12_whitens 1 = .ok (.istore_n 2, 1) := by decide +kernel
theorem dX12_whitens_2 : decode cX12_whitens 2 = .ok (.iload_n 2, 1) := by decide +kernel
theorem dX12_whitens_3 : decode cX12_whitens 3 = .ok (.iconst 3, 1) := by decide +kernel
theorem dX12_whitens_4 : decode cX12_whitens 4 = .ok (.if_icmp .ge 22, 3) := by decide +kernel
theorem dX12_whitens_7 : decode cX12_whitens 7 = .ok (.aload_n 0, 1) := by decide +kernel
theorem dX12_whitens_8 : decode cX12_whitens 8 = .ok (.getfield 22, 3) := by decide +kernel
theorem dX12_whitens_11 : decode cX12_whitens 11 = .ok (.iconst 0, 1) := by decide +kernel
theorem dX12_whitens_12 : decode cX12_whitens 12 = .ok (.iconst 3, 1) := by decide +kernel
theorem dX12_whitens_13 : decode cX12_whitens 13 = .ok (.iload_n 1, 1) := by decide +kernel
theorem dX12_whitens_14 : decode cX12_whitens 14 = .ok (.imul, 1) := by decide +kernel
theorem dX12_whitens_15 : decode cX12_whitens 15 = .ok (.iadd, 1) := by decide +kernel
theorem dX12_whitens_16 : decode cX12_whitens 16 = .ok (.iload_n 2, 1) := by decide +kernel
theorem dX12_whitens_17 : decode cX12_whitens 17 = .ok (.iadd, 1) := by decide +kernel
theorem dX12_whitens_18 : decode cX12_whitens 18 = .ok (.iconst 0, 1) := by decide +kernel
theorem dX12_whitens_19 : decode cX12_whitens 19 = .ok (.iastore, 1) := by decide +kernel
theorem dX12_whitens_20 : decode cX12_whitens 20 = .ok (.iinc 2 1, 3) := by decide +kernel
theorem dX12_whitens_23 : decode cX12_whitens 23 = .ok (.goto (-21), 3) := by decide +kernel
theorem dX12_whitens_26 : decode cX12_whitens 26 = .ok (.aload_n 0, 1) := by decide +kernel
theorem dX12_whitens_27 : decode cX12_whitens 27 = .ok (.getfield 22, 3) := by decide +kernel
theorem dX12_whitens_30 : decode cX12_whitens 30 = .ok (.bipush 24, 2) := by decide +kernel
theorem dX12_whitens_32 : decode cX12_whitens 32 = .ok (.iload_n 1, 1) := by decide +kernel
theorem dX12_whitens_33 : decode cX12_whitens 33 = .ok (.iadd, 1) := by decide +kernel
theorem dX12_whitens_34 : decode cX12_whitens 34 = .ok (.iconst 0, 1) := by decide +kernel
theorem dX12_whitens_35 : decode cX12_whitens 35 = .ok (.iastore, 1) := by decide +kernel
theorem dX12_whitens_36 : decode cX12_whitens 36 = .ok (.return_, 1) := by decide +kernel
theorem dX12_power_0 : decode cX12_power 0 = .ok (.iconst 1, 1) := by decide +kernel
theorem dX12_power_1 : decode cX12_power 1 = .ok (.istore_n 2, 1) := by decide +kernel
theorem dX12_power_2 : decode cX12_power 2 = .ok (.iconst 0, 1) := by decide +kernel
theorem dX12_power_3 : decode cX12_power 3 = .ok (.istore_n 3, 1) := by decide +kernel
theorem dX12_power_4 : decode cX12_power 4 = .ok (.iload_n 3, 1) := by decide +kernel
theorem dX12_power_5 : decode cX12_power 5 = .ok (.iload_n 1, 1) := by decide +kernel
theorem dX12_power_6 : decode cX12_power 6 = .ok (.if_icmp .ge 13, 3) := by decide +kernel
theorem dX12_power_9 : decode cX12_power 9 = .ok (.iload_n 2, 1) := by decide +kernel
theorem dX12_power_10 : decode cX12_power 10 = .ok (.iload_n 0, 1) := by decide +kernel
theorem dX12_power_11 : decode cX12_power 11 = .ok (.imul, 1) := by decide +kernel
theorem dX12_power_12 : decode cX12_power 12 = .ok (.istore_n 2, 1) := by decide +kernel
theorem dX12_power_13 : decode cX12_power 13 = .ok (.iinc 3 1, 3) := by decide +kernel
theorem dX12_power_16 : decode cX12_power 16 = .ok (.goto (-12), 3) := by decide +kernel
theorem dX12_power_19 : decode cX12_power 19 = .ok (.iload_n 2, 1) := by decide +kernel
theorem dX12_power_20 : decode cX12_power 20 = .ok (.ireturn, 1) := by decide +kernel
theorem dX12_shadeOf_0 : decode cX12_shadeOf 0 = .ok (.aload_n 0, 1) := by decide +kernel
theorem dX12_shadeOf_1 : decode cX12_shadeOf 1 = .ok (.iload_n 1, 1) := by decide +kernel
theorem dX12_shadeOf_2 : decode cX12_shadeOf 2 = .ok (.invokevirtual 202, 3) := by decide +kernel
theorem dX12_shadeOf_5 : decode cX12_shadeOf 5 = .ok (.iload_n 3, 1) := by decide +kernel
theorem dX12_shadeOf_6 : decode cX12_shadeOf 6 = .ok (.iconst 1, 1) := by decide +kernel
theorem dX12_shadeOf_7 : decode cX12_shadeOf 7 = .ok (.isub, 1) := by decide +kernel
theorem dX12_shadeOf_8 : decode cX12_shadeOf 8 = .ok (.istore 4, 2) := by decide +kernel
theorem dX12_shadeOf_10 : decode cX12_shadeOf 10 = .ok (.iload 4, 2) := by decide +kernel
theorem dX12_shadeOf_12 : decode cX12_shadeOf 12 = .ok (.ifCond .lt 38, 3) := by decide +kernel
theorem dX12_shadeOf_15 : decode cX12_shadeOf 15 = .ok (.aload_n 0, 1) := by decide +kernel
theorem dX12_shadeOf_16 : decode cX12_shadeOf 16 = .ok (.aload_n 0, 1) := by decide +kernel
theorem dX12_shadeOf_17 : decode cX12_shadeOf 17 = .ok (.getfield 22, 3) := by decide +kernel
theorem dX12_shadeOf_20 : decode cX12_shadeOf 20 = .ok (.iload_n 1, 1) := by decide +kernel
theorem dX12_shadeOf_21 : decode cX12_shadeOf 21 = .ok (.iload_n 2, 1) := by decide +kernel
theorem dX12_shadeOf_22 : decode cX12_shadeOf 22 = .ok (.aload_n 0, 1) := by decide +kernel
theorem dX12_shadeOf_23 : decode cX12_shadeOf 23 = .ok (.getfield 7, 3) := by decide +kernel
theorem dX12_shadeOf_26 : decode cX12_shadeOf 26 = .ok (.iconst 1, 1) := by decide +kernel
theorem dX12_shadeOf_27 : decode cX12_shadeOf 27 = .ok (.iaload, 1) := by decide +kernel
theorem dX12_shadeOf_28 : decode cX12_shadeOf 28 = .ok (.iload 4, 2) := by decide +kernel
theorem dX12_shadeOf_30 : decode cX12_shadeOf 30 = .ok (.invokestatic 206, 3) := by decide +kernel
theorem dX12_shadeOf_33 : decode cX12_shadeOf 33 = .ok (.idiv, 1) := by decide +kernel
theorem dX12_shadeOf_34 : decode cX12_shadeOf 34 = .ok (.aload_n 0, 1) := by decide +kernel
theorem dX12_shadeOf_35 : decode cX12_shadeOf 35 = .ok (.getfield 7, 3) := by decide +kernel
theorem dX12_shadeOf_38 : decode cX12_shadeOf 38 = .ok (.iconst 1, 1) := by decide +kernel
theorem dX12_shadeOf_39 : decode cX12_shadeOf 39 = .ok (.iaload, 1) := by decide +kernel
theorem dX12_shadeOf_40 : decode cX12_shadeOf 40 = .ok (.irem, 1) := by decide +kernel
theorem dX12_shadeOf_41 : decode cX12_shadeOf 41 = .ok (.invokevirtual 147, 3) := by decide +kernel
theorem dX12_shadeOf_44 : decode cX12_shadeOf 44 = .ok (.iinc 4 (-1), 3) := by decide +kernel
theorem dX12_shadeOf_47 : decode cX12_shadeOf 47 = .ok (.goto (-37), 3) := by decide +kernel
theorem dX12_shadeOf_50 : decode cX12_shadeOf 50 = .ok (.iconst 0, 1) := by decide +kernel
theorem dX12_shadeOf_51 : decode cX12_shadeOf 51 = .ok (.iconst 3, 1) := by decide +kernel
theorem dX12_shadeOf_52 : decode cX12_shadeOf 52 = .ok (.iload_n 1, 1) := by decide +kernel
theorem dX12_shadeOf_53 : decode cX12_shadeOf 53 = .ok (.imul, 1) := by decide +kernel
theorem dX12_shadeOf_54 : decode cX12_shadeOf 54 = .ok (.iadd, 1) := by decide +kernel
theorem dX12_shadeOf_55 : decode cX12_shadeOf 55 = .ok (.istore 4, 2) := by decide +kernel
theorem dX12_shadeOf_57 : decode cX12_shadeOf 57 = .ok (.bipush 100, 2) := by decide +kernel
theorem dX12_shadeOf_59 : decode cX12_shadeOf 59 = .ok (.aload_n 0, 1) := by decide +kernel
theorem dX12_shadeOf_60 : decode cX12_shadeOf 60 = .ok (.getfield 22, 3) := by decide +kernel
theorem dX12_shadeOf_63 : decode cX12_shadeOf 63 = .ok (.iload 4, 2) := by decide +kernel
theorem dX12_shadeOf_65 : decode cX12_shadeOf 65 = .ok (.iaload, 1) := by decide +kernel
theorem dX12_shadeOf_66 : decode cX12_shadeOf 66 = .ok (.imul, 1) := by decide +kernel
theorem dX12_shadeOf_67 : decode cX12_shadeOf 67 = .ok (.bipush 10, 2) := by decide +kernel
theorem dX12_shadeOf_69 : decode cX12_shadeOf 69 = .ok (.aload_n 0, 1) := by decide +kernel
theorem dX12_shadeOf_70 : decode cX12_shadeOf 70 = .ok (.getfield 22, 3) := by decide +kernel
theorem dX12_shadeOf_73 : decode cX12_shadeOf 73 = .ok (.iload 4, 2) := by decide +kernel
theorem dX12_shadeOf_75 : decode cX12_shadeOf 75 = .ok (.iconst 1, 1) := by decide +kernel
theorem dX12_shadeOf_76 : decode cX12_shadeOf 76 = .ok (.iadd, 1) := by decide +kernel
theorem dX12_shadeOf_77 : decode cX12_shadeOf 77 = .ok (.iaload, 1) := by decide +kernel
theorem dX12_shadeOf_78 : decode cX12_shadeOf 78 = .ok (.imul, 1) := by decide +kernel
theorem dX12_shadeOf_79 : decode cX12_shadeOf 79 = .ok (.iadd, 1) := by decide +kernel
theorem dX12_shadeOf_80 : decode cX12_shadeOf 80 = .ok (.aload_n 0, 1) := by decide +kernel
theorem dX12_shadeOf_81 : decode cX12_shadeOf 81 = .ok (.getfield 22, 3) := by decide +kernel
theorem dX12_shadeOf_84 : decode cX12_shadeOf 84 = .ok (.iload 4, 2) := by decide +kernel
theorem dX12_shadeOf_86 : decode cX12_shadeOf 86 = .ok (.iconst 2, 1) := by decide +kernel
theorem dX12_shadeOf_87 : decode cX12_shadeOf 87 = .ok (.iadd, 1) := by decide +kernel
theorem dX12_shadeOf_88 : decode cX12_shadeOf 88 = .ok (.iaload, 1) := by decide +kernel
theorem dX12_shadeOf_89 : decode cX12_shadeOf 89 = .ok (.iadd, 1) := by decide +kernel
theorem dX12_shadeOf_90 : decode cX12_shadeOf 90 = .ok (.ireturn, 1) := by decide +kernel
end
section
theorem dX12_rows_0 : decode cX12_rows 0 = .ok (.aload_n 0, 1) := by decide +kernel
theorem dX12_rows_1 : decode cX12_rows 1 = .ok (.iload_n 1, 1) := by decide +kernel
theorem dX12_rows_2 : decode cX12_rows 2 = .ok (.invokevirtual 161, 3) := by decide +kernel
theorem dX12_rows_5 : decode cX12_rows 5 = .ok (.ifCond .eq 59, 3) := by decide +kernel
theorem dX12_rows_8 : decode cX12_rows 8 = .ok (.iload_n 2, 1) := by decide +kernel
theorem dX12_rows_9 : decode cX12_rows 9 = .ok (.i2l, 1) := by decide +kernel
theorem dX12_rows_10 : decode cX12_rows 10 = .ok (.lconst 0, 1) := by decide +kernel
theorem dX12_rows_11 : decode cX12_rows 11 = .ok (.ldc2_w 209, 3) := by decide +kernel
theorem dX12_rows_14 : decode cX12_rows 14 = .ok (.invokestatic 59, 3) := by decide +kernel
theorem dX12_rows_17 : decode cX12_rows 17 = .ok (.ifCond .eq 47, 3) := by decide +kernel
theorem dX12_rows_20 : decode cX12_rows 20 = .ok (.iload_n 3, 1) := by decide +kernel
theorem dX12_rows_21 : decode cX12_rows 21 = .ok (.i2l, 1) := by decide +kernel
theorem dX12_rows_22 : decode cX12_rows 22 = .ok (.lconst 0, 1) := by decide +kernel
theorem dX12_rows_23 : decode cX12_rows 23 = .ok (.ldc2_w 209, 3) := by decide +kernel
theorem dX12_rows_26 : decode cX12_rows 26 = .ok (.invokestatic 59, 3) := by decide +kernel
theorem dX12_rows_29 : decode cX12_rows 29 = .ok (.ifCond .eq 35, 3) := by decide +kernel
theorem dX12_rows_32 : decode cX12_rows 32 = .ok (.iload 4, 2) := by decide +kernel
theorem dX12_rows_34 : decode cX12_rows 34 = .ok (.i2l, 1) := by decide +kernel
theorem dX12_rows_35 : decode cX12_rows 35 = .ok (.lconst 0, 1) := by decide +kernel
theorem dX12_rows_36 : decode cX12_rows 36 = .ok (.ldc2_w 209, 3) := by decide +kernel
theorem dX12_rows_39 : decode cX12_rows 39 = .ok (.invokestatic 59, 3) := by decide +kernel
theorem dX12_rows_42 : decode cX12_rows 42 = .ok (.ifCond .eq 22, 3) := by decide +kernel
theorem dX12_rows_45 : decode cX12_rows 45 = .ok (.iload 5, 2) := by decide +kernel
theorem dX12_rows_47 : decode cX12_rows 47 = .ok (.i2l, 1) := by decide +kernel
theorem dX12_rows_48 : decode cX12_rows 48 = .ok (.lconst 0, 1) := by decide +kernel
theorem dX12_rows_49 : decode cX12_rows 49 = .ok (.ldc2_w 166, 3) := by decide +kernel
theorem dX12_rows_52 : decode cX12_rows 52 = .ok (.invokestatic 59, 3) := by decide +kernel
theorem dX12_rows_55 : decode cX12_rows 55 = .ok (.ifCond .eq 9, 3) := by decide +kernel
theorem dX12_rows_58 : decode cX12_rows 58 = .ok (.iload 6, 2) := by decide +kernel
theorem dX12_rows_60 : decode cX12_rows 60 = .ok (.iconst (-1), 1) := by decide +kernel
theorem dX12_rows_61 : decode cX12_rows 61 = .ok (.if_icmp .ge 5, 3) := by decide +kernel
theorem dX12_rows_64 : decode cX12_rows 64 = .ok (.iconst (-1), 1) := by decide +kernel
theorem dX12_rows_65 : decode cX12_rows 65 = .ok (.ireturn, 1) := by decide +kernel
theorem dX12_rows_66 : decode cX12_rows 66 = .ok (.bipush 100, 2) := by decide +kernel
theorem dX12_rows_68 : decode cX12_rows 68 = .ok (.iload_n 2, 1) := by decide +kernel
theorem dX12_rows_69 : decode cX12_rows 69 = .ok (.imul, 1) := by decide +kernel
theorem dX12_rows_70 : decode cX12_rows 70 = .ok (.bipush 10, 2) := by decide +kernel
theorem dX12_rows_72 : decode cX12_rows 72 = .ok (.iload_n 3, 1) := by decide +kernel
theorem dX12_rows_73 : decode cX12_rows 73 = .ok (.imul, 1) := by decide +kernel
theorem dX12_rows_74 : decode cX12_rows 74 = .ok (.iadd, 1) := by decide +kernel
theorem dX12_rows_75 : decode cX12_rows 75 = .ok (.iload 4, 2) := by decide +kernel
theorem dX12_rows_77 : decode cX12_rows 77 = .ok (.iadd, 1) := by decide +kernel
theorem dX12_rows_78 : decode cX12_rows 78 = .ok (.istore 7, 2) := by decide +kernel
theorem dX12_rows_80 : decode cX12_rows 80 = .ok (.iconst 0, 1) := by decide +kernel
theorem dX12_rows_81 : decode cX12_rows 81 = .ok (.istore 8, 2) := by decide +kernel
theorem dX12_rows_83 : decode cX12_rows 83 = .ok (.bipush (-4), 2) := by decide +kernel
theorem dX12_rows_85 : decode cX12_rows 85 = .ok (.istore 9, 2) := by decide +kernel
theorem dX12_rows_87 : decode cX12_rows 87 = .ok (.aload_n 0, 1) := by decide +kernel
theorem dX12_rows_88 : decode cX12_rows 88 = .ok (.getfield 7, 3) := by decide +kernel
theorem dX12_rows_91 : decode cX12_rows 91 = .ok (.iconst 1, 1) := by decide +kernel
theorem dX12_rows_92 : decode cX12_rows 92 = .ok (.iaload, 1) := by decide +kernel
theorem dX12_rows_93 : decode cX12_rows 93 = .ok (.iload 5, 2) := by decide +kernel
theorem dX12_rows_95 : decode cX12_rows 95 = .ok (.invokestatic 206, 3) := by decide +kernel
theorem dX12_rows_98 : decode cX12_rows 98 = .ok (.iconst 1, 1) := by decide +kernel
theorem dX12_rows_99 : decode cX12_rows 99 = .ok (.isub, 1) := by decide +kernel
theorem dX12_rows_100 : decode cX12_rows 100 = .ok (.istore 10, 2) := by decide +kernel
theorem dX12_rows_102 : decode cX12_rows 102 = .ok (.iload 10, 2) := by decide +kernel
theorem dX12_rows_104 : decode cX12_rows 104 = .ok (.ifCond .lt 30, 3) := by decide +kernel
theorem dX12_rows_107 : decode cX12_rows 107 = .ok (.aload_n 0, 1) := by decide +kernel
theorem dX12_rows_108 : decode cX12_rows 108 = .ok (.iload_n 1, 1) := by decide +kernel
theorem dX12_rows_109 : decode cX12_rows 109 = .ok (.iload 10, 2) := by decide +kernel
theorem dX12_rows_111 : decode cX12_rows 111 = .ok (.iload 5, 2) := by decide +kernel
theorem dX12_rows_113 : decode cX12_rows 113 = .ok (.invokevirtual 211, 3) := by decide +kernel
theorem dX12_rows_116 : decode cX12_rows 116 = .ok (.iload 7, 2) := by decide +kernel
theorem dX12_rows_118 : decode cX12_rows 118 = .ok (.if_icmp .ne 10, 3) := by decide +kernel
theorem dX12_rows_121 : decode cX12_rows 121 = .ok (.iinc 8 1, 3) := by decide +kernel
theorem dX12_rows_124 : decode cX12_rows 124 = .ok (.iload 10, 2) := by decide +kernel
theorem dX12_rows_126 : decode cX12_rows 126 = .ok (.istore 9, 2) := by decide +kernel
theorem dX12_rows_128 : decode cX12_rows 128 = .ok (.iinc 10 (-1), 3) := by decide +kernel
theorem dX12_rows_131 : decode cX12_rows 131 = .ok (.goto (-29), 3) := by decide +kernel
theorem dX12_rows_134 : decode cX12_rows 134 = .ok (.iload 6, 2) := by decide +kernel
theorem dX12_rows_136 : decode cX12_rows 136 = .ok (.ifCond .ge 6, 3) := by decide +kernel
theorem dX12_rows_139 : decode cX12_rows 139 = .ok (.iload 8, 2) := by decide +kernel
theorem dX12_rows_141 : decode cX12_rows 141 = .ok (.ireturn, 1) := by decide +kernel
theorem dX12_rows_142 : decode cX12_rows 142 = .ok (.iload 9, 2) := by decide +kernel
theorem dX12_rows_144 : decode cX12_rows 144 = .ok (.bipush (-4), 2) := by decide +kernel
theorem dX12_rows_146 : decode cX12_rows 146 = .ok (.if_icmp .eq 10, 3) := by decide +kernel
theorem dX12_rows_149 : decode cX12_rows 149 = .ok (.iload 6, 2) := by decide +kernel
theorem dX12_rows_151 : decode cX12_rows 151 = .ok (.iload 5, 2) := by decide +kernel
theorem dX12_rows_153 : decode cX12_rows 153 = .ok (.if_icmp .lt 6, 3) := by decide +kernel
theorem dX12_rows_156 : decode cX12_rows 156 = .ok (.bipush (-4), 2) := by decide +kernel
theorem dX12_rows_158 : decode cX12_rows 158 = .ok (.ireturn, 1) := by decide +kernel
theorem dX12_rows_159 : decode cX12_rows 159 = .ok (.iload 5, 2) := by decide +kernel
theorem dX12_rows_161 : decode cX12_rows 161 = .ok (.iconst 1, 1) := by decide +kernel
theorem dX12_rows_162 : decode cX12_rows 162 = .ok (.isub, 1) := by decide +kernel
theorem dX12_rows_163 : decode cX12_rows 163 = .ok (.istore 10, 2) := by decide +kernel
theorem dX12_rows_165 : decode cX12_rows 165 = .ok (.iload 10, 2) := by decide +kernel
theorem dX12_rows_167 : decode cX12_rows 167 = .ok (.iload 6, 2) := by decide +kernel
theorem dX12_rows_169 : decode cX12_rows 169 = .ok (.if_icmp .le 20, 3) := by decide +kernel
theorem dX12_rows_172 : decode cX12_rows 172 = .ok (.iload 9, 2) := by decide +kernel
theorem dX12_rows_174 : decode cX12_rows 174 = .ok (.aload_n 0, 1) := by decide +kernel
theorem dX12_rows_175 : decode cX12_rows 175 = .ok (.getfield 7, 3) := by decide +kernel
theorem dX12_rows_178 : decode cX12_rows 178 = .ok (.iconst 1, 1) := by decide +kernel
theorem dX12_rows_179 : decode cX12_rows 179 = .ok (.iaload, 1) := by decide +kernel
theorem dX12_rows_180 : decode cX12_rows 180 = .ok (.idiv, 1) := by decide +kernel
theorem dX12_rows_181 : decode cX12_rows 181 = .ok (.istore 9, 2) := by decide +kernel
theorem dX12_rows_183 : decode cX12_rows 183 = .ok (.iinc 10 (-1), 3) := by decide +kernel
theorem dX12_rows_186 : decode cX12_rows 186 = .ok (.goto (-21), 3) := by decide +kernel
theorem dX12_rows_189 : decode cX12_rows 189 = .ok (.iload 9, 2) := by decide +kernel
theorem dX12_rows_191 : decode cX12_rows 191 = .ok (.aload_n 0, 1) := by decide +kernel
theorem dX12_rows_192 : decode cX12_rows 192 = .ok (.getfield 7, 3) := by decide +kernel
theorem dX12_rows_195 : decode cX12_rows 195 = .ok (.iconst 1, 1) := by decide +kernel
theorem dX12_rows_196 : decode cX12_rows 196 = .ok (.iaload, 1) := by decide +kernel
theorem dX12_rows_197 : decode cX12_rows 197 = .ok (.irem, 1) := by decide +kernel
theorem dX12_rows_198 : decode cX12_rows 198 = .ok (.ireturn, 1) := by decide +kernel
theorem dX12_shades_0 : decode cX12_shades 0 = .ok (.aload_n 0, 1) := by decide +kernel
theorem dX12_shades_1 : decode cX12_shades 1 = .ok (.iload_n 1, 1) := by decide +kernel
theorem dX12_shades_2 : decode cX12_shades 2 = .ok (.invokevirtual 161, 3) := by decide +kernel
theorem dX12_shades_5 : decode cX12_shades 5 = .ok (.ifCond .eq 15, 3) := by decide +kernel
theorem dX12_shades_8 : decode cX12_shades 8 = .ok (.iload_n 2, 1) := by decide +kernel
theorem dX12_shades_9 : decode cX12_shades 9 = .ok (.i2l, 1) := by decide +kernel
theorem dX12_shades_10 : decode cX12_shades 10 = .ok (.lconst 0, 1) := by decide +kernel
theorem dX12_shades_11 : decode cX12_shades 11 = .ok (.ldc2_w 166, 3) := by decide +kernel
theorem dX12_shades_14 : decode cX12_shades 14 = .ok (.invokestatic 59, 3) := by decide +kernel
theorem dX12_shades_17 : decode cX12_shades 17 = .ok (.ifCond .ne 5, 3) := by decide +kernel
theorem dX12_shades_20 : decode cX12_shades 20 = .ok (.iconst (-1), 1) := by decide +kernel
theorem dX12_shades_21 : decode cX12_shades 21 = .ok (.ireturn, 1) := by decide +kernel
theorem dX12_shades_22 : decode cX12_shades 22 = .ok (.iconst 0, 1) := by decide +kernel
theorem dX12_shades_23 : decode cX12_shades 23 = .ok (.istore_n 3, 1) := by decide +kernel
theorem dX12_shades_24 : decode cX12_shades 24 = .ok (.iload_n 3, 1) := by decide +kernel
theorem dX12_shades_25 : decode cX12_shades 25 = .ok (.sipush 1000, 3) := by decide +kernel
theorem dX12_shades_28 : decode cX12_shades 28 = .ok (.if_icmp .ge 16, 3) := by decide +kernel
theorem dX12_shades_31 : decode cX12_shades 31 = .ok (.aload_n 0, 1) := by decide +kernel
theorem dX12_shades_32 : decode cX12_shades 32 = .ok (.getfield 48, 3) := by decide +kernel
theorem dX12_shades_35 : decode cX12_shades 35 = .ok (.iload_n 3, 1) := by decide +kernel
theorem dX12_shades_36 : decode cX12_shades 36 = .ok (.iconst 0, 1) := by decide +kernel
theorem dX12_shades_37 : decode cX12_shades 37 = .ok (.bastore, 1) := by decide +kernel
theorem dX12_shades_38 : decode cX12_shades 38 = .ok (.iinc 3 1, 3) := by decide +kernel
theorem dX12_shades_41 : decode cX12_shades 41 = .ok (.goto (-17), 3) := by decide +kernel
theorem dX12_shades_44 : decode cX12_shades 44 = .ok (.iconst 0, 1) := by decide +kernel
theorem dX12_shades_45 : decode cX12_shades 45 = .ok (.istore_n 3, 1) := by decide +kernel
theorem dX12_shades_46 : decode cX12_shades 46 = .ok (.aload_n 0, 1) := by decide +kernel
theorem dX12_shades_47 : decode cX12_shades 47 = .ok (.getfield 7, 3) := by decide +kernel
theorem dX12_shades_50 : decode cX12_shades 50 = .ok (.iconst 1, 1) := by decide +kernel
theorem dX12_shades_51 : decode cX12_shades 51 = .ok (.iaload, 1) := by decide +kernel
theorem dX12_shades_52 : decode cX12_shades 52 = .ok (.iload_n 2, 1) := by decide +kernel
theorem dX12_shades_53 : decode cX12_shades 53 = .ok (.invokestatic 206, 3) := by decide +kernel
theorem dX12_shades_56 : decode cX12_shades 56 = .ok (.iconst 1, 1) := by decide +kernel
theorem dX12_shades_57 : decode cX12_shades 57 = .ok (.isub, 1) := by decide +kernel
theorem dX12_shades_58 : decode cX12_shades 58 = .ok (.istore 4, 2) := by decide +kernel
theorem dX12_shades_60 : decode cX12_shades 60 = .ok (.iload 4, 2) := by decide +kernel
theorem dX12_shades_62 : decode cX12_shades 62 = .ok (.ifCond .lt 45, 3) := by decide +kernel
theorem dX12_shades_65 : decode cX12_shades 65 = .ok (.aload_n 0, 1) := by decide +kernel
theorem dX12_shades_66 : decode cX12_shades 66 = .ok (.iload_n 1, 1) := by decide +kernel
theorem dX12_shades_67 : decode cX12_shades 67 = .ok (.iload 4, 2) := by decide +kernel
theorem dX12_shades_69 : decode cX12_shades 69 = .ok (.iload_n 2, 1) := by decide +kernel
theorem dX12_shades_70 : decode cX12_shades 70 = .ok (.invokevirtual 211, 3) := by decide +kernel
theorem dX12_shades_73 : decode cX12_shades 73 = .ok (.istore 5, 2) := by decide +kernel
theorem dX12_shades_75 : decode cX12_shades 75 = .ok (.iload_n 3, 1) := by decide +kernel
theorem dX12_shades_76 : decode cX12_shades 76 = .ok (.aload_n 0, 1) := by decide +kernel
theorem dX12_shades_77 : decode cX12_shades 77 = .ok (.getfield 48, 3) := by decide +kernel
theorem dX12_shades_80 : decode cX12_shades 80 = .ok (.iload 5, 2) := by decide +kernel
theorem dX12_shades_82 : decode cX12_shades 82 = .ok (.baload, 1) := by decide +kernel
theorem dX12_shades_83 : decode cX12_shades 83 = .ok (.ifCond .eq 7, 3) := by decide +kernel
theorem dX12_shades_86 : decode cX12_shades 86 = .ok (.iconst 0, 1) := by decide +kernel
theorem dX12_shades_87 : decode cX12_shades 87 = .ok (.goto 4, 3) := by decide +kernel
theorem dX12_shades_90 : decode cX12_shades 90 = .ok (.iconst 1, 1) := by decide +kernel
theorem dX12_shades_91 : decode cX12_shades 91 = .ok (.iadd, 1) := by decide +kernel
theorem dX12_shades_92 : decode cX12_shades 92 = .ok (.istore_n 3, 1) := by decide +kernel
theorem dX12_shades_93 : decode cX12_shades 93 = .ok (.aload_n 0, 1) := by decide +kernel
theorem dX12_shades_94 : decode cX12_shades 94 = .ok (.getfield 48, 3) := by decide +kernel
theorem dX12_shades_97 : decode cX12_shades 97 = .ok (.iload 5, 2) := by decide +kernel
theorem dX12_shades_99 : decode cX12_shades 99 = .ok (.iconst 1, 1) := by decide +kernel
theorem dX12_shades_100 : decode cX12_shades 100 = .ok (.bastore, 1) := by decide +kernel
theorem dX12_shades_101 : decode cX12_shades 101 = .ok (.iinc 4 (-1), 3) := by decide +kernel
theorem dX12_shades_104 : decode cX12_shades 104 = .ok (.goto (-44), 3) := by decide +kernel
theorem dX12_shades_107 : decode cX12_shades 107 = .ok (.iload_n 3, 1) := by decide +kernel
theorem dX12_shades_108 : decode cX12_shades 108 = .ok (.ireturn, 1) := by decide +kernel
theorem dX12_cracks_0 : decode cX12_cracks 0 = .ok (.aload_n 0, 1) := by decide +kernel
theorem dX12_cracks_1 : decode cX12_cracks 1 = .ok (.iload_n 1, 1) := by decide +kernel
theorem dX12_cracks_2 : decode cX12_cracks 2 = .ok (.invokevirtual 172, 3) := by decide +kernel
theorem dX12_cracks_5 : decode cX12_cracks 5 = .ok (.ifCond .eq 38, 3) := by decide +kernel
theorem dX12_cracks_8 : decode cX12_cracks 8 = .ok (.iload_n 2, 1) := by decide +kernel
theorem dX12_cracks_9 : decode cX12_cracks 9 = .ok (.i2l, 1) := by decide +kernel
theorem dX12_cracks_10 : decode cX12_cracks 10 = .ok (.lconst 0, 1) := by decide +kernel
theorem dX12_cracks_11 : decode cX12_cracks 11 = .ok (.ldc2_w 164, 3) := by decide +kernel
theorem dX12_cracks_14 : decode cX12_cracks 14 = .ok (.invokestatic 59, 3) := by decide +kernel
theorem dX12_cracks_17 : decode cX12_cracks 17 = .ok (.ifCond .eq 26, 3) := by decide +kernel
theorem dX12_cracks_20 : decode cX12_cracks 20 = .ok (.iload_n 3, 1) := by decide +kernel
theorem dX12_cracks_21 : decode cX12_cracks 21 = .ok (.i2l, 1) := by decide +kernel
theorem dX12_cracks_22 : decode cX12_cracks 22 = .ok (.lconst 0, 1) := by decide +kernel
theorem dX12_cracks_23 : decode cX12_cracks 23 = .ok (.ldc2_w 141, 3) := by decide +kernel
theorem dX12_cracks_26 : decode cX12_cracks 26 = .ok (.invokestatic 59, 3) := by decide +kernel
theorem dX12_cracks_29 : decode cX12_cracks 29 = .ok (.ifCond .eq 14, 3) := by decide +kernel
theorem dX12_cracks_32 : decode cX12_cracks 32 = .ok (.iload 4, 2) := by decide +kernel
theorem dX12_cracks_34 : decode cX12_cracks 34 = .ok (.i2l, 1) := by decide +kernel
theorem dX12_cracks_35 : decode cX12_cracks 35 = .ok (.lconst 0, 1) := by decide +kernel
theorem dX12_cracks_36 : decode cX12_cracks 36 = .ok (.lconst 1, 1) := by decide +kernel
theorem dX12_cracks_37 : decode cX12_cracks 37 = .ok (.invokestatic 59, 3) := by decide +kernel
theorem dX12_cracks_40 : decode cX12_cracks 40 = .ok (.ifCond .ne 5, 3) := by decide +kernel
theorem dX12_cracks_43 : decode cX12_cracks 43 = .ok (.iconst (-1), 1) := by decide +kernel
theorem dX12_cracks_44 : decode cX12_cracks 44 = .ok (.ireturn, 1) := by decide +kernel
theorem dX12_cracks_45 : decode cX12_cracks 45 = .ok (.iconst 0, 1) := by decide +kernel
theorem dX12_cracks_46 : decode cX12_cracks 46 = .ok (.istore 5, 2) := by decide +kernel
theorem dX12_cracks_48 : decode cX12_cracks 48 = .ok (.iload 5, 2) := by decide +kernel
theorem dX12_cracks_50 : decode cX12_cracks 50 = .ok (.bipush 10, 2) := by decide +kernel
theorem dX12_cracks_52 : decode cX12_cracks 52 = .ok (.if_icmp .ge 26, 3) := by decide +kernel
theorem dX12_cracks_55 : decode cX12_cracks 55 = .ok (.aload_n 0, 1) := by decide +kernel
theorem dX12_cracks_56 : decode cX12_cracks 56 = .ok (.getfield 51, 3) := by decide +kernel
theorem dX12_cracks_59 : decode cX12_cracks 59 = .ok (.iload 5, 2) := by decide +kernel
theorem dX12_cracks_61 : decode cX12_cracks 61 = .ok (.iload 5, 2) := by decide +kernel
theorem dX12_cracks_63 : decode cX12_cracks 63 = .ok (.ifCond .ne 7, 3) := by decide +kernel
theorem dX12_cracks_66 : decode cX12_cracks 66 = .ok (.lconst 1, 1) := by decide +kernel
theorem dX12_cracks_67 : decode cX12_cracks 67 = .ok (.goto 4, 3) := by decide +kernel
theorem dX12_cracks_70 : decode cX12_cracks 70 = .ok (.lconst 0, 1) := by decide +kernel
theorem dX12_cracks_71 : decode cX12_cracks 71 = .ok (.lastore, 1) := by decide +kernel
theorem dX12_cracks_72 : decode cX12_cracks 72 = .ok (.iinc 5 1, 3) := by decide +kernel
theorem dX12_cracks_75 : decode cX12_cracks 75 = .ok (.goto (-27), 3) := by decide +kernel
theorem dX12_cracks_78 : decode cX12_cracks 78 = .ok (.aload_n 0, 1) := by decide +kernel
theorem dX12_cracks_79 : decode cX12_cracks 79 = .ok (.invokevirtual 193, 3) := by decide +kernel
theorem dX12_cracks_82 : decode cX12_cracks 82 = .ok (.lconst 1, 1) := by decide +kernel
theorem dX12_cracks_83 : decode cX12_cracks 83 = .ok (.lstore 5, 2) := by decide +kernel
theorem dX12_cracks_85 : decode cX12_cracks 85 = .ok (.iconst 0, 1) := by decide +kernel
theorem dX12_cracks_86 : decode cX12_cracks 86 = .ok (.istore 7, 2) := by decide +kernel
theorem dX12_cracks_88 : decode cX12_cracks 88 = .ok (.iload 7, 2) := by decide +kernel
theorem dX12_cracks_90 : decode cX12_cracks 90 = .ok (.aload_n 0, 1) := by decide +kernel
theorem dX12_cracks_91 : decode cX12_cracks 91 = .ok (.getfield 7, 3) := by decide +kernel
theorem dX12_cracks_94 : decode cX12_cracks 94 = .ok (.iconst 0, 1) := by decide +kernel
theorem dX12_cracks_95 : decode cX12_cracks 95 = .ok (.iaload, 1) := by decide +kernel
theorem dX12_cracks_96 : decode cX12_cracks 96 = .ok (.if_icmp .ge 219, 3) := by decide +kernel
theorem dX12_cracks_99 : decode cX12_cracks 99 = .ok (.aload_n 0, 1) := by decide +kernel
theorem dX12_cracks_100 : decode cX12_cracks 100 = .ok (.getfield 19, 3) := by decide +kernel
theorem dX12_cracks_103 : decode cX12_cracks 103 = .ok (.bipush 24, 2) := by decide +kernel
theorem dX12_cracks_105 : decode cX12_cracks 105 = .ok (.iload 7, 2) := by decide +kernel
theorem dX12_cracks_107 : decode cX12_cracks 107 = .ok (.iadd, 1) := by decide +kernel
theorem dX12_cracks_108 : decode cX12_cracks 108 = .ok (.iaload, 1) := by decide +kernel
theorem dX12_cracks_109 : decode cX12_cracks 109 = .ok (.ifCond .le 7, 3) := by decide +kernel
theorem dX12_cracks_112 : decode cX12_cracks 112 = .ok (.iconst 1, 1) := by decide +kernel
theorem dX12_cracks_113 : decode cX12_cracks 113 = .ok (.goto 4, 3) := by decide +kernel
theorem dX12_cracks_116 : decode cX12_cracks 116 = .ok (.iconst 0, 1) := by decide +kernel
theorem dX12_cracks_117 : decode cX12_cracks 117 = .ok (.istore 8, 2) := by decide +kernel
theorem dX12_cracks_119 : decode cX12_cracks 119 = .ok (.aload_n 0, 1) := by decide +kernel
theorem dX12_cracks_120 : decode cX12_cracks 120 = .ok (.aload_n 0, 1) := by decide +kernel
theorem dX12_cracks_121 : decode cX12_cracks 121 = .ok (.getfield 22, 3) := by decide +kernel
theorem dX12_cracks_124 : decode cX12_cracks 124 = .ok (.iload 7, 2) := by decide +kernel
theorem dX12_cracks_126 : decode cX12_cracks 126 = .ok (.iload_n 1, 1) := by decide +kernel
theorem dX12_cracks_127 : decode cX12_cracks 127 = .ok (.invokevirtual 147, 3) := by decide +kernel
theorem dX12_cracks_130 : decode cX12_cracks 130 = .ok (.aload_n 0, 1) := by decide +kernel
theorem dX12_cracks_131 : decode cX12_cracks 131 = .ok (.getfield 22, 3) := by decide +kernel
theorem dX12_cracks_134 : decode cX12_cracks 134 = .ok (.iload 7, 2) := by decide +kernel
theorem dX12_cracks_136 : decode cX12_cracks 136 = .ok (.invokestatic 119, 3) := by decide +kernel
theorem dX12_cracks_139 : decode cX12_cracks 139 = .ok (.istore 9, 2) := by decide +kernel
theorem dX12_cracks_141 : decode cX12_cracks 141 = .ok (.aload_n 0, 1) := by decide +kernel
theorem dX12_cracks_142 : decode cX12_cracks 142 = .ok (.getfield 22, 3) := by decide +kernel
theorem dX12_cracks_145 : decode cX12_cracks 145 = .ok (.bipush 24, 2) := by decide +kernel
theorem dX12_cracks_147 : decode cX12_cracks 147 = .ok (.iload 7, 2) := by decide +kernel
theorem dX12_cracks_149 : decode cX12_cracks 149 = .ok (.iadd, 1) := by decide +kernel
theorem dX12_cracks_150 : decode cX12_cracks 150 = .ok (.iconst 0, 1) := by decide +kernel
theorem dX12_cracks_151 : decode cX12_cracks 151 = .ok (.iastore, 1) := by decide +kernel
theorem dX12_cracks_152 : decode cX12_cracks 152 = .ok (.iload 8, 2) := by decide +kernel
theorem dX12_cracks_154 : decode cX12_cracks 154 = .ok (.ifCond .eq 14, 3) := by decide +kernel
theorem dX12_cracks_157 : decode cX12_cracks 157 = .ok (.aload_n 0, 1) := by decide +kernel
theorem dX12_cracks_158 : decode cX12_cracks 158 = .ok (.aload_n 0, 1) := by decide +kernel
theorem dX12_cracks_159 : decode cX12_cracks 159 = .ok (.getfield 22, 3) := by decide +kernel
theorem dX12_cracks_162 : decode cX12_cracks 162 = .ok (.iload 7, 2) := by decide +kernel
theorem dX12_cracks_164 : decode cX12_cracks 164 = .ok (.iload_n 1, 1) := by decide +kernel
theorem dX12_cracks_165 : decode cX12_cracks 165 = .ok (.invokevirtual 147, 3) := by decide +kernel
theorem dX12_cracks_168 : decode cX12_cracks 168 = .ok (.aload_n 0, 1) := by decide +kernel
theorem dX12_cracks_169 : decode cX12_cracks 169 = .ok (.getfield 22, 3) := by decide +kernel
theorem dX12_cracks_172 : decode cX12_cracks 172 = .ok (.iload 7, 2) := by decide +kernel
theorem dX12_cracks_174 : decode cX12_cracks 174 = .ok (.invokestatic 119, 3) := by decide +kernel
theorem dX12_cracks_177 : decode cX12_cracks 177 = .ok (.istore 10, 2) := by decide +kernel
theorem dX12_cracks_179 : decode cX12_cracks 179 = .ok (.iload 8, 2) := by decide +kernel
theorem dX12_cracks_181 : decode cX12_cracks 181 = .ok (.ifCond .eq 8, 3) := by decide +kernel
theorem dX12_cracks_184 : decode cX12_cracks 184 = .ok (.iload_n 3, 1) := by decide +kernel
theorem dX12_cracks_185 : decode cX12_cracks 185 = .ok (.i2l, 1) := by decide +kernel
theorem dX12_cracks_186 : decode cX12_cracks 186 = .ok (.goto 4, 3) := by decide +kernel
theorem dX12_cracks_189 : decode cX12_cracks 189 = .ok (.lconst 0, 1) := by decide +kernel
theorem dX12_cracks_190 : decode cX12_cracks 190 = .ok (.lstore 11, 2) := by decide +kernel
theorem dX12_cracks_192 : decode cX12_cracks 192 = .ok (.iload 8, 2) := by decide +kernel
theorem dX12_cracks_194 : decode cX12_cracks 194 = .ok (.ifCond .eq 11, 3) := by decide +kernel
theorem dX12_cracks_197 : decode cX12_cracks 197 = .ok (.bipush 10, 2) := by decide +kernel
theorem dX12_cracks_199 : decode cX12_cracks 199 = .ok (.iload_n 3, 1) := by decide +kernel
theorem dX12_cracks_200 : decode cX12_cracks 200 = .ok (.isub, 1) := by decide +kernel
theorem dX12_cracks_201 : decode cX12_cracks 201 = .ok (.i2l, 1) := by decide +kernel
theorem dX12_cracks_202 : decode cX12_cracks 202 = .ok (.goto 4, 3) := by decide +kernel
theorem dX12_cracks_205 : decode cX12_cracks 205 = .ok (.lconst 1, 1) := by decide +kernel
theorem dX12_cracks_206 : decode cX12_cracks 206 = .ok (.lstore 13, 2) := by decide +kernel
theorem dX12_cracks_208 : decode cX12_cracks 208 = .ok (.bipush 8, 2) := by decide +kernel
theorem dX12_cracks_210 : decode cX12_cracks 210 = .ok (.istore 15, 2) := by decide +kernel
theorem dX12_cracks_212 : decode cX12_cracks 212 = .ok (.iload 15, 2) := by decide +kernel
theorem dX12_cracks_214 : decode cX12_cracks 214 = .ok (.ifCond .lt 78, 3) := by decide +kernel
theorem dX12_cracks_217 : decode cX12_cracks 217 = .ok (.aload_n 0, 1) := by decide +kernel
theorem dX12_cracks_218 : decode cX12_cracks 218 = .ok (.getfield 51, 3) := by decide +kernel
theorem dX12_cracks_221 : decode cX12_cracks 221 = .ok (.iload 15, 2) := by decide +kernel
theorem dX12_cracks_223 : decode cX12_cracks 223 = .ok (.laload, 1) := by decide +kernel
theorem dX12_cracks_224 : decode cX12_cracks 224 = .ok (.lstore 16, 2) := by decide +kernel
theorem dX12_cracks_226 : decode cX12_cracks 226 = .ok (.aload_n 0, 1) := by decide +kernel
theorem dX12_cracks_227 : decode cX12_cracks 227 = .ok (.getfield 51, 3) := by decide +kernel
theorem dX12_cracks_230 : decode cX12_cracks 230 = .ok (.iload 15, 2) := by decide +kernel
theorem dX12_cracks_232 : decode cX12_cracks 232 = .ok (.lconst 0, 1) := by decide +kernel
theorem dX12_cracks_233 : decode cX12_cracks 233 = .ok (.lastore, 1) := by decide +kernel
theorem dX12_cracks_234 : decode cX12_cracks 234 = .ok (.aload_n 0, 1) := by decide +kernel
theorem dX12_cracks_235 : decode cX12_cracks 235 = .ok (.getfield 51, 3) := by decide +kernel
theorem dX12_cracks_238 : decode cX12_cracks 238 = .ok (.iload 15, 2) := by decide +kernel
theorem dX12_cracks_240 : decode cX12_cracks 240 = .ok (.iload 9, 2) := by decide +kernel
theorem dX12_cracks_242 : decode cX12_cracks 242 = .ok (.ifCond .eq 7, 3) := by decide +kernel
theorem dX12_cracks_245 : decode cX12_cracks 245 = .ok (.iconst 1, 1) := by decide +kernel
theorem dX12_cracks_246 : decode cX12_cracks 246 = .ok (.goto 4, 3) := by decide +kernel
theorem dX12_cracks_249 : decode cX12_cracks 249 = .ok (.iconst 0, 1) := by decide +kernel
theorem dX12_cracks_250 : decode cX12_cracks 250 = .ok (.iadd, 1) := by decide +kernel
theorem dX12_cracks_251 : decode cX12_cracks 251 = .ok (.dup2, 1) := by decide +kernel
theorem dX12_cracks_252 : decode cX12_cracks 252 = .ok (.laload, 1) := by decide +kernel
theorem dX12_cracks_253 : decode cX12_cracks 253 = .ok (.lload 16, 2) := by decide +kernel
theorem dX12_cracks_255 : decode cX12_cracks 255 = .ok (.lload 13, 2) := by decide +kernel
theorem dX12_cracks_257 : decode cX12_cracks 257 = .ok (.lmul, 1) := by decide +kernel
theorem dX12_cracks_258 : decode cX12_cracks 258 = .ok (.ladd, 1) := by decide +kernel
theorem dX12_cracks_259 : decode cX12_cracks 259 = .ok (.lastore, 1) := by decide +kernel
theorem dX12_cracks_260 : decode cX12_cracks 260 = .ok (.aload_n 0, 1) := by decide +kernel
theorem dX12_cracks_261 : decode cX12_cracks 261 = .ok (.getfield 51, 3) := by decide +kernel
theorem dX12_cracks_264 : decode cX12_cracks 264 = .ok (.iload 15, 2) := by decide +kernel
theorem dX12_cracks_266 : decode cX12_cracks 266 = .ok (.iload 10, 2) := by decide +kernel
theorem dX12_cracks_268 : decode cX12_cracks 268 = .ok (.ifCond .eq 7, 3) := by decide +kernel
theorem dX12_cracks_271 : decode cX12_cracks 271 = .ok (.iconst 1, 1) := by decide +kernel
theorem dX12_cracks_272 : decode cX12_cracks 272 = .ok (.goto 4, 3) := by decide +kernel
theorem dX12_cracks_275 : decode cX12_cracks 275 = .ok (.iconst 0, 1) := by decide +kernel
theorem dX12_cracks_276 : decode cX12_cracks 276 = .ok (.iadd, 1) := by decide +kernel
theorem dX12_cracks_277 : decode cX12_cracks 277 = .ok (.dup2, 1) := by decide +kernel
theorem dX12_cracks_278 : decode cX12_cracks 278 = .ok (.laload, 1) := by decide +kernel
theorem dX12_cracks_279 : decode cX12_cracks 279 = .ok (.lload 16, 2) := by decide +kernel
theorem dX12_cracks_281 : decode cX12_cracks 281 = .ok (.lload 11, 2) := by decide +kernel
theorem dX12_cracks_283 : decode cX12_cracks 283 = .ok (.lmul, 1) := by decide +kernel
theorem dX12_cracks_284 : decode cX12_cracks 284 = .ok (.ladd, 1) := by decide +kernel
theorem dX12_cracks_285 : decode cX12_cracks 285 = .ok (.lastore, 1) := by decide +kernel
theorem dX12_cracks_286 : decode cX12_cracks 286 = .ok (.iinc 15 (-1), 3) := by decide +kernel
theorem dX12_cracks_289 : decode cX12_cracks 289 = .ok (.goto (-77), 3) := by decide +kernel
theorem dX12_cracks_292 : decode cX12_cracks 292 = .ok (.lload 5, 2) := by decide +kernel
theorem dX12_cracks_294 : decode cX12_cracks 294 = .ok (.iload 8, 2) := by decide +kernel
theorem dX12_cracks_296 : decode cX12_cracks 296 = .ok (.ifCond .eq 9, 3) := by decide +kernel
theorem dX12_cracks_299 : decode cX12_cracks 299 = .ok (.ldc2_w 141, 3) := by decide +kernel
theorem dX12_cracks_302 : decode cX12_cracks 302 = .ok (.goto 4, 3) := by decide +kernel
theorem dX12_cracks_305 : decode cX12_cracks 305 = .ok (.lconst 1, 1) := by decide +kernel
theorem dX12_cracks_306 : decode cX12_cracks 306 = .ok (.lmul, 1) := by decide +kernel
theorem dX12_cracks_307 : decode cX12_cracks 307 = .ok (.lstore 5, 2) := by decide +kernel
theorem dX12_cracks_309 : decode cX12_cracks 309 = .ok (.iinc 7 1, 3) := by decide +kernel
theorem dX12_cracks_312 : decode cX12_cracks 312 = .ok (.goto (-224), 3) := by decide +kernel
theorem dX12_cracks_315 : decode cX12_cracks 315 = .ok (.lconst 0, 1) := by decide +kernel
theorem dX12_cracks_316 : decode cX12_cracks 316 = .ok (.lstore 7, 2) := by decide +kernel
theorem dX12_cracks_318 : decode cX12_cracks 318 = .ok (.iload_n 2, 1) := by decide +kernel
theorem dX12_cracks_319 : decode cX12_cracks 319 = .ok (.istore 9, 2) := by decide +kernel
theorem dX12_cracks_321 : decode cX12_cracks 321 = .ok (.iload 9, 2) := by decide +kernel
theorem dX12_cracks_323 : decode cX12_cracks 323 = .ok (.bipush 9, 2) := by decide +kernel
theorem dX12_cracks_325 : decode cX12_cracks 325 = .ok (.if_icmp .ge 21, 3) := by decide +kernel
theorem dX12_cracks_328 : decode cX12_cracks 328 = .ok (.lload 7, 2) := by decide +kernel
theorem dX12_cracks_330 : decode cX12_cracks 330 = .ok (.aload_n 0, 1) := by decide +kernel
theorem dX12_cracks_331 : decode cX12_cracks 331 = .ok (.getfield 51, 3) := by decide +kernel
theorem dX12_cracks_334 : decode cX12_cracks 334 = .ok (.iload 9, 2) := by decide +kernel
theorem dX12_cracks_336 : decode cX12_cracks 336 = .ok (.laload, 1) := by decide +kernel
theorem dX12_cracks_337 : decode cX12_cracks 337 = .ok (.ladd, 1) := by decide +kernel
theorem dX12_cracks_338 : decode cX12_cracks 338 = .ok (.lstore 7, 2) := by decide +kernel
theorem dX12_cracks_340 : decode cX12_cracks 340 = .ok (.iinc 9 1, 3) := by decide +kernel
theorem dX12_cracks_343 : decode cX12_cracks 343 = .ok (.goto (-22), 3) := by decide +kernel
theorem dX12_cracks_346 : decode cX12_cracks 346 = .ok (.lload 7, 2) := by decide +kernel
theorem dX12_cracks_348 : decode cX12_cracks 348 = .ok (.lstore 9, 2) := by decide +kernel
theorem dX12_cracks_350 : decode cX12_cracks 350 = .ok (.lload 5, 2) := by decide +kernel
theorem dX12_cracks_352 : decode cX12_cracks 352 = .ok (.lstore 11, 2) := by decide +kernel
theorem dX12_cracks_354 : decode cX12_cracks 354 = .ok (.lload 11, 2) := by decide +kernel
theorem dX12_cracks_356 : decode cX12_cracks 356 = .ok (.lconst 0, 1) := by decide +kernel
theorem dX12_cracks_357 : decode cX12_cracks 357 = .ok (.lcmp, 1) := by decide +kernel
theorem dX12_cracks_358 : decode cX12_cracks 358 = .ok (.ifCond .eq 21, 3) := by decide +kernel
theorem dX12_cracks_361 : decode cX12_cracks 361 = .ok (.lload 9, 2) := by decide +kernel
theorem dX12_cracks_363 : decode cX12_cracks 363 = .ok (.lload 11, 2) := by decide +kernel
theorem dX12_cracks_365 : decode cX12_cracks 365 = .ok (.lrem, 1) := by decide +kernel
theorem dX12_cracks_366 : decode cX12_cracks 366 = .ok (.lstore 13, 2) := by decide +kernel
theorem dX12_cracks_368 : decode cX12_cracks 368 = .ok (.lload 11, 2) := by decide +kernel
theorem dX12_cracks_370 : decode cX12_cracks 370 = .ok (.lstore 9, 2) := by decide +kernel
theorem dX12_cracks_372 : decode cX12_cracks 372 = .ok (.lload 13, 2) := by decide +kernel
theorem dX12_cracks_374 : decode cX12_cracks 374 = .ok (.lstore 11, 2) := by decide +kernel
theorem dX12_cracks_376 : decode cX12_cracks 376 = .ok (.goto (-22), 3) := by decide +kernel
theorem dX12_cracks_379 : decode cX12_cracks 379 = .ok (.iload 4, 2) := by decide +kernel
theorem dX12_cracks_381 : decode cX12_cracks 381 = .ok (.ifCond .ne 8, 3) := by decide +kernel
theorem dX12_cracks_384 : decode cX12_cracks 384 = .ok (.lload 7, 2) := by decide +kernel
theorem dX12_cracks_386 : decode cX12_cracks 386 = .ok (.goto 5, 3) := by decide +kernel
theorem dX12_cracks_389 : decode cX12_cracks 389 = .ok (.lload 5, 2) := by decide +kernel
theorem dX12_cracks_391 : decode cX12_cracks 391 = .ok (.lload 9, 2) := by decide +kernel
theorem dX12_cracks_393 : decode cX12_cracks 393 = .ok (.ldiv, 1) := by decide +kernel
theorem dX12_cracks_394 : decode cX12_cracks 394 = .ok (.l2i, 1) := by decide +kernel
theorem dX12_cracks_395 : decode cX12_cracks 395 = .ok (.ireturn, 1) := by decide +kernel
theorem dX12_decades_0 : decode cX12_decades 0 = .ok (.iload_n 1, 1) := by decide +kernel
theorem dX12_decades_1 : decode cX12_decades 1 = .ok (.i2l, 1) := by decide +kernel
theorem dX12_decades_2 : decode cX12_decades 2 = .ok (.lconst 0, 1) := by decide +kernel
theorem dX12_decades_3 : decode cX12_decades 3 = .ok (.ldc2_w 214, 3) := by decide +kernel
theorem dX12_decades_6 : decode cX12_decades 6 = .ok (.invokestatic 59, 3) := by decide +kernel
theorem dX12_decades_9 : decode cX12_decades 9 = .ok (.ifCond .eq 25, 3) := by decide +kernel
theorem dX12_decades_12 : decode cX12_decades 12 = .ok (.iload_n 2, 1) := by decide +kernel
theorem dX12_decades_13 : decode cX12_decades 13 = .ok (.i2l, 1) := by decide +kernel
theorem dX12_decades_14 : decode cX12_decades 14 = .ok (.lconst 1, 1) := by decide +kernel
theorem dX12_decades_15 : decode cX12_decades 15 = .ok (.ldc2_w 216, 3) := by decide +kernel
theorem dX12_decades_18 : decode cX12_decades 18 = .ok (.invokestatic 59, 3) := by decide +kernel
theorem dX12_decades_21 : decode cX12_decades 21 = .ok (.ifCond .eq 13, 3) := by decide +kernel
theorem dX12_decades_24 : decode cX12_decades 24 = .ok (.iload_n 3, 1) := by decide +kernel
theorem dX12_decades_25 : decode cX12_decades 25 = .ok (.i2l, 1) := by decide +kernel
theorem dX12_decades_26 : decode cX12_decades 26 = .ok (.lconst 0, 1) := by decide +kernel
theorem dX12_decades_27 : decode cX12_decades 27 = .ok (.lconst 1, 1) := by decide +kernel
theorem dX12_decades_28 : decode cX12_decades 28 = .ok (.invokestatic 59, 3) := by decide +kernel
theorem dX12_decades_31 : decode cX12_decades 31 = .ok (.ifCond .ne 5, 3) := by decide +kernel
theorem dX12_decades_34 : decode cX12_decades 34 = .ok (.iconst (-1), 1) := by decide +kernel
theorem dX12_decades_35 : decode cX12_decades 35 = .ok (.ireturn, 1) := by decide +kernel
theorem dX12_decades_36 : decode cX12_decades 36 = .ok (.aload_n 0, 1) := by decide +kernel
theorem dX12_decades_37 : decode cX12_decades 37 = .ok (.getfield 7, 3) := by decide +kernel
theorem dX12_decades_40 : decode cX12_decades 40 = .ok (.iconst 0, 1) := by decide +kernel
theorem dX12_decades_41 : decode cX12_decades 41 = .ok (.iaload, 1) := by decide +kernel
theorem dX12_decades_42 : decode cX12_decades 42 = .ok (.ifCond .ne 6, 3) := by decide +kernel
theorem dX12_decades_45 : decode cX12_decades 45 = .ok (.bipush (-2), 2) := by decide +kernel
theorem dX12_decades_47 : decode cX12_decades 47 = .ok (.ireturn, 1) := by decide +kernel
theorem dX12_decades_48 : decode cX12_decades 48 = .ok (.aload_n 0, 1) := by decide +kernel
theorem dX12_decades_49 : decode cX12_decades 49 = .ok (.invokevirtual 193, 3) := by decide +kernel
theorem dX12_decades_52 : decode cX12_decades 52 = .ok (.iload_n 2, 1) := by decide +kernel
theorem dX12_decades_53 : decode cX12_decades 53 = .ok (.i2l, 1) := by decide +kernel
theorem dX12_decades_54 : decode cX12_decades 54 = .ok (.lstore 4, 2) := by decide +kernel
theorem dX12_decades_56 : decode cX12_decades 56 = .ok (.iconst 0, 1) := by decide +kernel
theorem dX12_decades_57 : decode cX12_decades 57 = .ok (.istore 6, 2) := by decide +kernel
theorem dX12_decades_59 : decode cX12_decades 59 = .ok (.iconst 0, 1) := by decide +kernel
theorem dX12_decades_60 : decode cX12_decades 60 = .ok (.istore 7, 2) := by decide +kernel
theorem dX12_decades_62 : decode cX12_decades 62 = .ok (.iload 7, 2) := by decide +kernel
theorem dX12_decades_64 : decode cX12_decades 64 = .ok (.iload_n 1, 1) := by decide +kernel
theorem dX12_decades_65 : decode cX12_decades 65 = .ok (.if_icmp .ge 62, 3) := by decide +kernel
theorem dX12_decades_68 : decode cX12_decades 68 = .ok (.ldc2_w 218, 3) := by decide +kernel
theorem dX12_decades_71 : decode cX12_decades 71 = .ok (.lload 4, 2) := by decide +kernel
theorem dX12_decades_73 : decode cX12_decades 73 = .ok (.lmul, 1) := by decide +kernel
theorem dX12_decades_74 : decode cX12_decades 74 = .ok (.ldc2_w 220, 3) := by decide +kernel
theorem dX12_decades_77 : decode cX12_decades 77 = .ok (.lrem, 1) := by decide +kernel
theorem dX12_decades_78 : decode cX12_decades 78 = .ok (.lstore 4, 2) := by decide +kernel
theorem dX12_decades_80 : decode cX12_decades 80 = .ok (.aload_n 0, 1) := by decide +kernel
theorem dX12_decades_81 : decode cX12_decades 81 = .ok (.aload_n 0, 1) := by decide +kernel
theorem dX12_decades_82 : decode cX12_decades 82 = .ok (.getfield 22, 3) := by decide +kernel
theorem dX12_decades_85 : decode cX12_decades 85 = .ok (.aload_n 0, 1) := by decide +kernel
theorem dX12_decades_86 : decode cX12_decades 86 = .ok (.lload 4, 2) := by decide +kernel
theorem dX12_decades_88 : decode cX12_decades 88 = .ok (.ldc2_w 188, 3) := by decide +kernel
theorem dX12_decades_91 : decode cX12_decades 91 = .ok (.ldiv, 1) := by decide +kernel
theorem dX12_decades_92 : decode cX12_decades 92 = .ok (.aload_n 0, 1) := by decide +kernel
theorem dX12_decades_93 : decode cX12_decades 93 = .ok (.invokevirtual 190, 3) := by decide +kernel
theorem dX12_decades_96 : decode cX12_decades 96 = .ok (.i2l, 1) := by decide +kernel
theorem dX12_decades_97 : decode cX12_decades 97 = .ok (.lrem, 1) := by decide +kernel
theorem dX12_decades_98 : decode cX12_decades 98 = .ok (.l2i, 1) := by decide +kernel
theorem dX12_decades_99 : decode cX12_decades 99 = .ok (.invokevirtual 196, 3) := by decide +kernel
theorem dX12_decades_102 : decode cX12_decades 102 = .ok (.invokevirtual 179, 3) := by decide +kernel
theorem dX12_decades_105 : decode cX12_decades 105 = .ok (.iload 6, 2) := by decide +kernel
theorem dX12_decades_107 : decode cX12_decades 107 = .ok (.aload_n 0, 1) := by decide +kernel
theorem dX12_decades_108 : decode cX12_decades 108 = .ok (.aload_n 0, 1) := by decide +kernel
theorem dX12_decades_109 : decode cX12_decades 109 = .ok (.getfield 22, 3) := by decide +kernel
theorem dX12_decades_112 : decode cX12_decades 112 = .ok (.invokevirtual 182, 3) := by decide +kernel
theorem dX12_decades_115 : decode cX12_decades 115 = .ok (.invokestatic 199, 3) := by decide +kernel
theorem dX12_decades_118 : decode cX12_decades 118 = .ok (.iadd, 1) := by decide +kernel
theorem dX12_decades_119 : decode cX12_decades 119 = .ok (.istore 6, 2) := by decide +kernel
theorem dX12_decades_121 : decode cX12_decades 121 = .ok (.iinc 7 1, 3) := by decide +kernel
theorem dX12_decades_124 : decode cX12_decades 124 = .ok (.goto (-62), 3) := by decide +kernel
theorem dX12_decades_127 : decode cX12_decades 127 = .ok (.iload_n 3, 1) := by decide +kernel
theorem dX12_decades_128 : decode cX12_decades 128 = .ok (.ifCond .ne 14, 3) := by decide +kernel
theorem dX12_decades_131 : decode cX12_decades 131 = .ok (.aload_n 0, 1) := by decide +kernel
theorem dX12_decades_132 : decode cX12_decades 132 = .ok (.aload_n 0, 1) := by decide +kernel
theorem dX12_decades_133 : decode cX12_decades 133 = .ok (.getfield 22, 3) := by decide +kernel
theorem dX12_decades_136 : decode cX12_decades 136 = .ok (.invokevirtual 222, 3) := by decide +kernel
theorem dX12_decades_139 : decode cX12_decades 139 = .ok (.goto 5, 3) := by decide +kernel
theorem dX12_decades_142 : decode cX12_decades 142 = .ok (.iload 6, 2) := by decide +kernel
theorem dX12_decades_144 : decode cX12_decades 144 = .ok (.ireturn, 1) := by decide +kernel
theorem dX12_isSheet_0 : decode cX12_isSheet 0 = .ok (.iload_n 0, 1) := by decide +kernel
theorem dX12_isSheet_1 : decode cX12_isSheet 1 = .ok (.i2l, 1) := by decide +kernel
theorem dX12_isSheet_2 : decode cX12_isSheet 2 = .ok (.lconst 0, 1) := by decide +kernel
theorem dX12_isSheet_3 : decode cX12_isSheet 3 = .ok (.ldc2_w 170, 3) := by decide +kernel
theorem dX12_isSheet_6 : decode cX12_isSheet 6 = .ok (.invokestatic 59, 3) := by decide +kernel
theorem dX12_isSheet_9 : decode cX12_isSheet 9 = .ok (.ifCond .eq 19, 3) := by decide +kernel
theorem dX12_isSheet_12 : decode cX12_isSheet 12 = .ok (.iload_n 1, 1) := by decide +kernel
theorem dX12_isSheet_13 : decode cX12_isSheet 13 = .ok (.i2l, 1) := by decide +kernel
theorem dX12_isSheet_14 : decode cX12_isSheet 14 = .ok (.lconst 0, 1) := by decide +kernel
theorem dX12_isSheet_15 : decode cX12_isSheet 15 = .ok (.ldc2_w 170, 3) := by decide +kernel
theorem dX12_isSheet_18 : decode cX12_isSheet 18 = .ok (.invokestatic 59, 3) := by decide +kernel
theorem dX12_isSheet_21 : decode cX12_isSheet 21 = .ok (.ifCond .eq 7, 3) := by decide +kernel
theorem dX12_isSheet_24 : decode cX12_isSheet 24 = .ok (.iconst 1, 1) := by decide +kernel
theorem dX12_isSheet_25 : decode cX12_isSheet 25 = .ok (.goto 4, 3) := by decide +kernel
theorem dX12_isSheet_28 : decode cX12_isSheet 28 = .ok (.iconst 0, 1) := by decide +kernel
theorem dX12_isSheet_29 : decode cX12_isSheet 29 = .ok (.ireturn, 1) := by decide +kernel
theorem dX12_found_0 : decode cX12_found 0 = .ok (.aload_n 0, 1) := by decide +kernel
theorem dX12_found_1 : decode cX12_found 1 = .ok (.getfield 38, 3) := by decide +kernel
theorem dX12_found_4 : decode cX12_found 4 = .ok (.iload_n 1, 1) := by decide +kernel
theorem dX12_found_5 : decode cX12_found 5 = .ok (.iaload, 1) := by decide +kernel
theorem dX12_found_6 : decode cX12_found 6 = .ok (.ifCond .ge 6, 3) := by decide +kernel
theorem dX12_found_9 : decode cX12_found 9 = .ok (.bipush (-11), 2) := by decide +kernel
theorem dX12_found_11 : decode cX12_found 11 = .ok (.ireturn, 1) := by decide +kernel
theorem dX12_found_12 : decode cX12_found 12 = .ok (.aload_n 0, 1) := by decide +kernel
theorem dX12_found_13 : decode cX12_found 13 = .ok (.getfield 41, 3) := by decide +kernel
theorem dX12_found_16 : decode cX12_found 16 = .ok (.iload_n 1, 1) := by decide +kernel
theorem dX12_found_17 : decode cX12_found 17 = .ok (.iaload, 1) := by decide +kernel
theorem dX12_found_18 : decode cX12_found 18 = .ok (.iload_n 2, 1) := by decide +kernel
theorem dX12_found_19 : decode cX12_found 19 = .ok (.if_icmp .eq 6, 3) := by decide +kernel
theorem dX12_found_22 : decode cX12_found 22 = .ok (.bipush (-12), 2) := by decide +kernel
theorem dX12_found_24 : decode cX12_found 24 = .ok (.ireturn, 1) := by decide +kernel
theorem dX12_found_25 : decode cX12_found 25 = .ok (.iload_n 3, 1) := by decide +kernel
theorem dX12_found_26 : decode cX12_found 26 = .ok (.ifCond .lt 20, 3) := by decide +kernel
theorem dX12_found_29 : decode cX12_found 29 = .ok (.iload_n 3, 1) := by decide +kernel
theorem dX12_found_30 : decode cX12_found 30 = .ok (.i2l, 1) := by decide +kernel
theorem dX12_found_31 : decode cX12_found 31 = .ok (.iload 4, 2) := by decide +kernel
theorem dX12_found_33 : decode cX12_found 33 = .ok (.i2l, 1) := by decide +kernel
theorem dX12_found_34 : decode cX12_found 34 = .ok (.ladd, 1) := by decide +kernel
theorem dX12_found_35 : decode cX12_found 35 = .ok (.aload_n 0, 1) := by decide +kernel
theorem dX12_found_36 : decode cX12_found 36 = .ok (.getfield 38, 3) := by decide +kernel
theorem dX12_found_39 : decode cX12_found 39 = .ok (.iload_n 1, 1) := by decide +kernel
theorem dX12_found_40 : decode cX12_found 40 = .ok (.iaload, 1) := by decide +kernel
theorem dX12_found_41 : decode cX12_found 41 = .ok (.i2l, 1) := by decide +kernel
theorem dX12_found_42 : decode cX12_found 42 = .ok (.lcmp, 1) := by decide +kernel
theorem dX12_found_43 : decode cX12_found 43 = .ok (.ifCond .le 8, 3) := by decide +kernel
theorem dX12_found_46 : decode cX12_found 46 = .ok (.bipush (-13), 2) := by decide +kernel
theorem dX12_found_48 : decode cX12_found 48 = .ok (.goto 4, 3) := by decide +kernel
theorem dX12_found_51 : decode cX12_found 51 = .ok (.iconst 0, 1) := by decide +kernel
theorem dX12_found_52 : decode cX12_found 52 = .ok (.ireturn, 1) := by decide +kernel
theorem dX12_cut_0 : decode cX12_cut 0 = .ok (.iload_n 0, 1) := by decide +kernel
theorem dX12_cut_1 : decode cX12_cut 1 = .ok (.ifCond .ne 10, 3) := by decide +kernel
theorem dX12_cut_4 : decode cX12_cut 4 = .ok (.lload_n 1, 1) := by decide +kernel
theorem dX12_cut_5 : decode cX12_cut 5 = .ok (.l2i, 1) := by decide +kernel
theorem dX12_cut_6 : decode cX12_cut 6 = .ok (.i2b, 1) := by decide +kernel
theorem dX12_cut_7 : decode cX12_cut 7 = .ok (.i2l, 1) := by decide +kernel
theorem dX12_cut_8 : decode cX12_cut 8 = .ok (.goto 27, 3) := by decide +kernel
theorem dX12_cut_11 : decode cX12_cut 11 = .ok (.iload_n 0, 1) := by decide +kernel
theorem dX12_cut_12 : decode cX12_cut 12 = .ok (.iconst 1, 1) := by decide +kernel
theorem dX12_cut_13 : decode cX12_cut 13 = .ok (.if_icmp .ne 10, 3) := by decide +kernel
theorem dX12_cut_16 : decode cX12_cut 16 = .ok (.lload_n 1, 1) := by decide +kernel
theorem dX12_cut_17 : decode cX12_cut 17 = .ok (.l2i, 1) := by decide +kernel
theorem dX12_cut_18 : decode cX12_cut 18 = .ok (.i2s, 1) := by decide +kernel
theorem dX12_cut_19 : decode cX12_cut 19 = .ok (.i2l, 1) := by decide +kernel
theorem dX12_cut_20 : decode cX12_cut 20 = .ok (.goto 15, 3) := by decide +kernel
theorem dX12_cut_23 : decode cX12_cut 23 = .ok (.iload_n 0, 1) := by decide +kernel
theorem dX12_cut_24 : decode cX12_cut 24 = .ok (.iconst 2, 1) := by decide +kernel
theorem dX12_cut_25 : decode cX12_cut 25 = .ok (.if_icmp .ne 9, 3) := by decide +kernel
theorem dX12_cut_28 : decode cX12_cut 28 = .ok (.lload_n 1, 1) := by decide +kernel
theorem dX12_cut_29 : decode cX12_cut 29 = .ok (.l2i, 1) := by decide +kernel
theorem dX12_cut_30 : decode cX12_cut 30 = .ok (.i2l, 1) := by decide +kernel
theorem dX12_cut_31 : decode cX12_cut 31 = .ok (.goto 4, 3) := by decide +kernel
theorem dX12_cut_34 : decode cX12_cut 34 = .ok (.lload_n 1, 1) := by decide +kernel
theorem dX12_cut_35 : decode cX12_cut 35 = .ok (.lreturn, 1) := by decide +kernel
theorem dX12_log_0 : decode cX12_log 0 = .ok (.aload_n 0, 1) := by decide +kernel
theorem dX12_log_1 : decode cX12_log 1 = .ok (.getfield 7, 3) := by decide +kernel
theorem dX12_log_4 : decode cX12_log 4 = .ok (.iconst 0, 1) := by decide +kernel
theorem dX12_log_5 : decode cX12_log 5 = .ok (.iaload, 1) := by decide +kernel
theorem dX12_log_6 : decode cX12_log 6 = .ok (.ifCond .eq 11, 3) := by decide +kernel
theorem dX12_log_9 : decode cX12_log 9 = .ok (.iload_n 1, 1) := by decide +kernel
theorem dX12_log_10 : decode cX12_log 10 = .ok (.iload_n 2, 1) := by decide +kernel
theorem dX12_log_11 : decode cX12_log 11 = .ok (.invokestatic 225, 3) := by decide +kernel
theorem dX12_log_14 : decode cX12_log 14 = .ok (.ifCond .ne 5, 3) := by decide +kernel
theorem dX12_log_17 : decode cX12_log 17 = .ok (.iconst (-1), 1) := by decide +kernel
theorem dX12_log_18 : decode cX12_log 18 = .ok (.ireturn, 1) := by decide +kernel
theorem dX12_log_19 : decode cX12_log 19 = .ok (.aload_n 0, 1) := by decide +kernel
theorem dX12_log_20 : decode cX12_log 20 = .ok (.iload_n 1, 1) := by decide +kernel
theorem dX12_log_21 : decode cX12_log 21 = .ok (.iload_n 2, 1) := by decide +kernel
theorem dX12_log_22 : decode cX12_log 22 = .ok (.iload_n 3, 1) := by decide +kernel
theorem dX12_log_23 : decode cX12_log 23 = .ok (.aload_n 0, 1) := by decide +kernel
theorem dX12_log_24 : decode cX12_log 24 = .ok (.getfield 7, 3) := by decide +kernel
theorem dX12_log_27 : decode cX12_log 27 = .ok (.iconst 0, 1) := by decide +kernel
theorem dX12_log_28 : decode cX12_log 28 = .ok (.iaload, 1) := by decide +kernel
theorem dX12_log_29 : decode cX12_log 29 = .ok (.invokevirtual 228, 3) := by decide +kernel
theorem dX12_log_32 : decode cX12_log 32 = .ok (.istore 4, 2) := by decide +kernel
theorem dX12_log_34 : decode cX12_log 34 = .ok (.iload 4, 2) := by decide +kernel
theorem dX12_log_36 : decode cX12_log 36 = .ok (.ifCond .ge 6, 3) := by decide +kernel
theorem dX12_log_39 : decode cX12_log 39 = .ok (.iload 4, 2) := by decide +kernel
theorem dX12_log_41 : decode cX12_log 41 = .ok (.ireturn, 1) := by decide +kernel
theorem dX12_log_42 : decode cX12_log 42 = .ok (.iconst 0, 1) := by decide +kernel
theorem dX12_log_43 : decode cX12_log 43 = .ok (.istore 5, 2) := by decide +kernel
theorem dX12_log_45 : decode cX12_log 45 = .ok (.iload 5, 2) := by decide +kernel
theorem dX12_log_47 : decode cX12_log 47 = .ok (.aload_n 0, 1) := by decide +kernel
theorem dX12_log_48 : decode cX12_log 48 = .ok (.getfield 7, 3) := by decide +kernel
theorem dX12_log_51 : decode cX12_log 51 = .ok (.iconst 0, 1) := by decide +kernel
theorem dX12_log_52 : decode cX12_log 52 = .ok (.iaload, 1) := by decide +kernel
theorem dX12_log_53 : decode cX12_log 53 = .ok (.if_icmp .ge 33, 3) := by decide +kernel
theorem dX12_log_56 : decode cX12_log 56 = .ok (.aload_n 0, 1) := by decide +kernel
theorem dX12_log_57 : decode cX12_log 57 = .ok (.getfield 44, 3) := by decide +kernel
theorem dX12_log_60 : decode cX12_log 60 = .ok (.bipush 24, 2) := by decide +kernel
theorem dX12_log_62 : decode cX12_log 62 = .ok (.iload_n 1, 1) := by decide +kernel
theorem dX12_log_63 : decode cX12_log 63 = .ok (.imul, 1) := by decide +kernel
theorem dX12_log_64 : decode cX12_log 64 = .ok (.iload_n 3, 1) := by decide +kernel
theorem dX12_log_65 : decode cX12_log 65 = .ok (.iadd, 1) := by decide +kernel
theorem dX12_log_66 : decode cX12_log 66 = .ok (.iload 5, 2) := by decide +kernel
theorem dX12_log_68 : decode cX12_log 68 = .ok (.iadd, 1) := by decide +kernel
theorem dX12_log_69 : decode cX12_log 69 = .ok (.aload_n 0, 1) := by decide +kernel
theorem dX12_log_70 : decode cX12_log 70 = .ok (.getfield 19, 3) := by decide +kernel
theorem dX12_log_73 : decode cX12_log 73 = .ok (.iload 5, 2) := by decide +kernel
theorem dX12_log_75 : decode cX12_log 75 = .ok (.invokestatic 115, 3) := by decide +kernel
theorem dX12_log_78 : decode cX12_log 78 = .ok (.i2l, 1) := by decide +kernel
theorem dX12_log_79 : decode cX12_log 79 = .ok (.lastore, 1) := by decide +kernel
theorem dX12_log_80 : decode cX12_log 80 = .ok (.iinc 5 1, 3) := by decide +kernel
theorem dX12_log_83 : decode cX12_log 83 = .ok (.goto (-38), 3) := by decide +kernel
theorem dX12_log_86 : decode cX12_log 86 = .ok (.aload_n 0, 1) := by decide +kernel
theorem dX12_log_87 : decode cX12_log 87 = .ok (.getfield 7, 3) := by decide +kernel
theorem dX12_log_90 : decode cX12_log 90 = .ok (.iconst 0, 1) := by decide +kernel
theorem dX12_log_91 : decode cX12_log 91 = .ok (.iaload, 1) := by decide +kernel
theorem dX12_log_92 : decode cX12_log 92 = .ok (.ireturn, 1) := by decide +kernel
theorem dX12_areDoings_0 : decode cX12_areDoings 0 = .ok (.iconst 1, 1) := by decide +kernel
theorem dX12_areDoings_1 : decode cX12_areDoings 1 = .ok (.istore 4, 2) := by decide +kernel
theorem dX12_areDoings_3 : decode cX12_areDoings 3 = .ok (.iconst 0, 1) := by decide +kernel
theorem dX12_areDoings_4 : decode cX12_areDoings 4 = .ok (.istore 5, 2) := by decide +kernel
theorem dX12_areDoings_6 : decode cX12_areDoings 6 = .ok (.iload 5, 2) := by decide +kernel
theorem dX12_areDoings_8 : decode cX12_areDoings 8 = .ok (.iload_n 3, 1) := by decide +kernel
theorem dX12_areDoings_9 : decode cX12_areDoings 9 = .ok (.if_icmp .ge 42, 3) := by decide +kernel
theorem dX12_areDoings_12 : decode cX12_areDoings 12 = .ok (.iload 4, 2) := by decide +kernel
theorem dX12_areDoings_14 : decode cX12_areDoings 14 = .ok (.ifCond .eq 28, 3) := by decide +kernel
theorem dX12_areDoings_17 : decode cX12_areDoings 17 = .ok (.aload_n 0, 1) := by decide +kernel
theorem dX12_areDoings_18 : decode cX12_areDoings 18 = .ok (.aload_n 0, 1) := by decide +kernel
theorem dX12_areDoings_19 : decode cX12_areDoings 19 = .ok (.getfield 44, 3) := by decide +kernel
theorem dX12_areDoings_22 : decode cX12_areDoings 22 = .ok (.bipush 24, 2) := by decide +kernel
theorem dX12_areDoings_24 : decode cX12_areDoings 24 = .ok (.iload_n 1, 1) := by decide +kernel
theorem dX12_areDoings_25 : decode cX12_areDoings 25 = .ok (.imul, 1) := by decide +kernel
theorem dX12_areDoings_26 : decode cX12_areDoings 26 = .ok (.iload_n 2, 1) := by decide +kernel
theorem dX12_areDoings_27 : decode cX12_areDoings 27 = .ok (.iadd, 1) := by decide +kernel
theorem dX12_areDoings_28 : decode cX12_areDoings 28 = .ok (.iload 5, 2) := by decide +kernel
theorem dX12_areDoings_30 : decode cX12_areDoings 30 = .ok (.iadd, 1) := by decide +kernel
theorem dX12_areDoings_31 : decode cX12_areDoings 31 = .ok (.laload, 1) := by decide +kernel
theorem dX12_areDoings_32 : decode cX12_areDoings 32 = .ok (.invokevirtual 175, 3) := by decide +kernel
theorem dX12_areDoings_35 : decode cX12_areDoings 35 = .ok (.ifCond .eq 7, 3) := by decide +kernel
theorem dX12_areDoings_38 : decode cX12_areDoings 38 = .ok (.iconst 1, 1) := by decide +kernel
theorem dX12_areDoings_39 : decode cX12_areDoings 39 = .ok (.goto 4, 3) := by decide +kernel
theorem dX12_areDoings_42 : decode cX12_areDoings 42 = .ok (.iconst 0, 1) := by decide +kernel
theorem dX12_areDoings_43 : decode cX12_areDoings 43 = .ok (.istore 4, 2) := by decide +kernel
theorem dX12_areDoings_45 : decode cX12_areDoings 45 = .ok (.iinc 5 1, 3) := by decide +kernel
theorem dX12_areDoings_48 : decode cX12_areDoings 48 = .ok (.goto (-42), 3) := by decide +kernel
theorem dX12_areDoings_51 : decode cX12_areDoings 51 = .ok (.iload 4, 2) := by decide +kernel
theorem dX12_areDoings_53 : decode cX12_areDoings 53 = .ok (.ireturn, 1) := by decide +kernel
theorem dX12_ahead_0 : decode cX12_ahead 0 = .ok (.aload_n 0, 1) := by decide +kernel
theorem dX12_ahead_1 : decode cX12_ahead 1 = .ok (.iload_n 1, 1) := by decide +kernel
theorem dX12_ahead_2 : decode cX12_ahead 2 = .ok (.invokevirtual 161, 3) := by decide +kernel
theorem dX12_ahead_5 : decode cX12_ahead 5 = .ok (.ifCond .eq 37, 3) := by decide +kernel
theorem dX12_ahead_8 : decode cX12_ahead 8 = .ok (.iload_n 2, 1) := by decide +kernel
theorem dX12_ahead_9 : decode cX12_ahead 9 = .ok (.iload_n 3, 1) := by decide +kernel
theorem dX12_ahead_10 : decode cX12_ahead 10 = .ok (.invokestatic 225, 3) := by decide +kernel
theorem dX12_ahead_13 : decode cX12_ahead 13 = .ok (.ifCond .eq 29, 3) := by decide +kernel
theorem dX12_ahead_16 : decode cX12_ahead 16 = .ok (.iload 5, 2) := by decide +kernel
theorem dX12_ahead_18 : decode cX12_ahead 18 = .ok (.i2l, 1) := by decide +kernel
theorem dX12_ahead_19 : decode cX12_ahead 19 = .ok (.lconst 0, 1) := by decide +kernel
theorem dX12_ahead_20 : decode cX12_ahead 20 = .ok (.ldc2_w 143, 3) := by decide +kernel
theorem dX12_ahead_23 : decode cX12_ahead 23 = .ok (.invokestatic 59, 3) := by decide +kernel
theorem dX12_ahead_26 : decode cX12_ahead 26 = .ok (.ifCond .eq 16, 3) := by decide +kernel
theorem dX12_ahead_29 : decode cX12_ahead 29 = .ok (.iload 6, 2) := by decide +kernel
theorem dX12_ahead_31 : decode cX12_ahead 31 = .ok (.i2l, 1) := by decide +kernel
theorem dX12_ahead_32 : decode cX12_ahead 32 = .ok (.lconst 0, 1) := by decide +kernel
theorem dX12_ahead_33 : decode cX12_ahead 33 = .ok (.ldc2_w 168, 3) := by decide +kernel
theorem dX12_ahead_36 : decode cX12_ahead 36 = .ok (.invokestatic 59, 3) := by decide +kernel
theorem dX12_ahead_39 : decode cX12_ahead 39 = .ok (.ifCond .ne 5, 3) := by decide +kernel
theorem dX12_ahead_42 : decode cX12_ahead 42 = .ok (.iconst (-1), 1) := by decide +kernel
theorem dX12_ahead_43 : decode cX12_ahead 43 = .ok (.ireturn, 1) := by decide +kernel
theorem dX12_ahead_44 : decode cX12_ahead 44 = .ok (.aload_n 0, 1) := by decide +kernel
theorem dX12_ahead_45 : decode cX12_ahead 45 = .ok (.iload_n 2, 1) := by decide +kernel
theorem dX12_ahead_46 : decode cX12_ahead 46 = .ok (.iload_n 3, 1) := by decide +kernel
theorem dX12_ahead_47 : decode cX12_ahead 47 = .ok (.iload 4, 2) := by decide +kernel
theorem dX12_ahead_49 : decode cX12_ahead 49 = .ok (.iload 5, 2) := by decide +kernel
theorem dX12_ahead_51 : decode cX12_ahead 51 = .ok (.invokevirtual 228, 3) := by decide +kernel
theorem dX12_ahead_54 : decode cX12_ahead 54 = .ok (.istore 7, 2) := by decide +kernel
theorem dX12_ahead_56 : decode cX12_ahead 56 = .ok (.iload 7, 2) := by decide +kernel
theorem dX12_ahead_58 : decode cX12_ahead 58 = .ok (.ifCond .ge 6, 3) := by decide +kernel
theorem dX12_ahead_61 : decode cX12_ahead 61 = .ok (.iload 7, 2) := by decide +kernel
theorem dX12_ahead_63 : decode cX12_ahead 63 = .ok (.ireturn, 1) := by decide +kernel
theorem dX12_ahead_64 : decode cX12_ahead 64 = .ok (.aload_n 0, 1) := by decide +kernel
theorem dX12_ahead_65 : decode cX12_ahead 65 = .ok (.iload_n 2, 1) := by decide +kernel
theorem dX12_ahead_66 : decode cX12_ahead 66 = .ok (.iload 4, 2) := by decide +kernel
theorem dX12_ahead_68 : decode cX12_ahead 68 = .ok (.iload 5, 2) := by decide +kernel
theorem dX12_ahead_70 : decode cX12_ahead 70 = .ok (.invokevirtual 232, 3) := by decide +kernel
theorem dX12_ahead_73 : decode cX12_ahead 73 = .ok (.ifCond .ne 6, 3) := by decide +kernel
theorem dX12_ahead_76 : decode cX12_ahead 76 = .ok (.bipush (-2), 2) := by decide +kernel
theorem dX12_ahead_78 : decode cX12_ahead 78 = .ok (.ireturn, 1) := by decide +kernel
theorem dX12_ahead_79 : decode cX12_ahead 79 = .ok (.aload_n 0, 1) := by decide +kernel
theorem dX12_ahead_80 : decode cX12_ahead 80 = .ok (.invokevirtual 193, 3) := by decide +kernel
theorem dX12_ahead_83 : decode cX12_ahead 83 = .ok (.iconst 0, 1) := by decide +kernel
theorem dX12_ahead_84 : decode cX12_ahead 84 = .ok (.istore 8, 2) := by decide +kernel
theorem dX12_ahead_86 : decode cX12_ahead 86 = .ok (.iload 8, 2) := by decide +kernel
theorem dX12_ahead_88 : decode cX12_ahead 88 = .ok (.iload 5, 2) := by decide +kernel
theorem dX12_ahead_90 : decode cX12_ahead 90 = .ok (.if_icmp .ge 34, 3) := by decide +kernel
theorem dX12_ahead_93 : decode cX12_ahead 93 = .ok (.aload_n 0, 1) := by decide +kernel
theorem dX12_ahead_94 : decode cX12_ahead 94 = .ok (.aload_n 0, 1) := by decide +kernel
theorem dX12_ahead_95 : decode cX12_ahead 95 = .ok (.getfield 22, 3) := by decide +kernel
theorem dX12_ahead_98 : decode cX12_ahead 98 = .ok (.iload_n 1, 1) := by decide +kernel
theorem dX12_ahead_99 : decode cX12_ahead 99 = .ok (.aload_n 0, 1) := by decide +kernel
theorem dX12_ahead_100 : decode cX12_ahead 100 = .ok (.getfield 44, 3) := by decide +kernel
theorem dX12_ahead_103 : decode cX12_ahead 103 = .ok (.bipush 24, 2) := by decide +kernel
theorem dX12_ahead_105 : decode cX12_ahead 105 = .ok (.iload_n 2, 1) := by decide +kernel
theorem dX12_ahead_106 : decode cX12_ahead 106 = .ok (.imul, 1) := by decide +kernel
theorem dX12_ahead_107 : decode cX12_ahead 107 = .ok (.iload 4, 2) := by decide +kernel
theorem dX12_ahead_109 : decode cX12_ahead 109 = .ok (.iadd, 1) := by decide +kernel
theorem dX12_ahead_110 : decode cX12_ahead 110 = .ok (.iload 8, 2) := by decide +kernel
theorem dX12_ahead_112 : decode cX12_ahead 112 = .ok (.iadd, 1) := by decide +kernel
theorem dX12_ahead_113 : decode cX12_ahead 113 = .ok (.laload, 1) := by decide +kernel
theorem dX12_ahead_114 : decode cX12_ahead 114 = .ok (.l2i, 1) := by decide +kernel
theorem dX12_ahead_115 : decode cX12_ahead 115 = .ok (.invokevirtual 158, 3) := by decide +kernel
theorem dX12_ahead_118 : decode cX12_ahead 118 = .ok (.iinc 8 1, 3) := by decide +kernel
theorem dX12_ahead_121 : decode cX12_ahead 121 = .ok (.goto (-35), 3) := by decide +kernel
theorem dX12_ahead_124 : decode cX12_ahead 124 = .ok (.iload 6, 2) := by decide +kernel
theorem dX12_ahead_126 : decode cX12_ahead 126 = .ok (.ifCond .ne 14, 3) := by decide +kernel
theorem dX12_ahead_129 : decode cX12_ahead 129 = .ok (.aload_n 0, 1) := by decide +kernel
theorem dX12_ahead_130 : decode cX12_ahead 130 = .ok (.getfield 22, 3) := by decide +kernel
theorem dX12_ahead_133 : decode cX12_ahead 133 = .ok (.iload_n 1, 1) := by decide +kernel
theorem dX12_ahead_134 : decode cX12_ahead 134 = .ok (.invokestatic 115, 3) := by decide +kernel
theorem dX12_ahead_137 : decode cX12_ahead 137 = .ok (.goto 29, 3) := by decide +kernel
theorem dX12_ahead_140 : decode cX12_ahead 140 = .ok (.iload 6, 2) := by decide +kernel
theorem dX12_ahead_142 : decode cX12_ahead 142 = .ok (.iconst 1, 1) := by decide +kernel
theorem dX12_ahead_143 : decode cX12_ahead 143 = .ok (.if_icmp .ne 14, 3) := by decide +kernel
theorem dX12_ahead_146 : decode cX12_ahead 146 = .ok (.aload_n 0, 1) := by decide +kernel
theorem dX12_ahead_147 : decode cX12_ahead 147 = .ok (.getfield 22, 3) := by decide +kernel
theorem dX12_ahead_150 : decode cX12_ahead 150 = .ok (.iload_n 1, 1) := by decide +kernel
theorem dX12_ahead_151 : decode cX12_ahead 151 = .ok (.invokestatic 123, 3) := by decide +kernel
theorem dX12_ahead_154 : decode cX12_ahead 154 = .ok (.goto 12, 3) := by decide +kernel
theorem dX12_ahead_157 : decode cX12_ahead 157 = .ok (.aload_n 0, 1) := by decide +kernel
theorem dX12_ahead_158 : decode cX12_ahead 158 = .ok (.getfield 22, 3) := by decide +kernel
theorem dX12_ahead_161 : decode cX12_ahead 161 = .ok (.bipush 24, 2) := by decide +kernel
theorem dX12_ahead_163 : decode cX12_ahead 163 = .ok (.iload_n 1, 1) := by decide +kernel
theorem dX12_ahead_164 : decode cX12_ahead 164 = .ok (.iadd, 1) := by decide +kernel
theorem dX12_ahead_165 : decode cX12_ahead 165 = .ok (.iaload, 1) := by decide +kernel
theorem dX12_ahead_166 : decode cX12_ahead 166 = .ok (.ireturn, 1) := by decide +kernel
theorem dX12_codeOf_0 : decode cX12_codeOf 0 = .ok (.iconst 0, 1) := by decide +kernel
theorem dX12_codeOf_1 : decode cX12_codeOf 1 = .ok (.iconst 3, 1) := by decide +kernel
theorem dX12_codeOf_2 : decode cX12_codeOf 2 = .ok (.iload_n 1, 1) := by decide +kernel
theorem dX12_codeOf_3 : decode cX12_codeOf 3 = .ok (.imul, 1) := by decide +kernel
theorem dX12_codeOf_4 : decode cX12_codeOf 4 = .ok (.iadd, 1) := by decide +kernel
theorem dX12_codeOf_5 : decode cX12_codeOf 5 = .ok (.istore_n 2, 1) := by decide +kernel
theorem dX12_codeOf_6 : decode cX12_codeOf 6 = .ok (.iconst 4, 1) := by decide +kernel
theorem dX12_codeOf_7 : decode cX12_codeOf 7 = .ok (.bipush 100, 2) := by decide +kernel
theorem dX12_codeOf_9 : decode cX12_codeOf 9 = .ok (.aload_n 0, 1) := by decide +kernel
theorem dX12_codeOf_10 : decode cX12_codeOf 10 = .ok (.getfield 22, 3) := by decide +kernel
theorem dX12_codeOf_13 : decode cX12_codeOf 13 = .ok (.iload_n 2, 1) := by decide +kernel
theorem dX12_codeOf_14 : decode cX12_codeOf 14 = .ok (.iaload, 1) := by decide +kernel
theorem dX12_codeOf_15 : decode cX12_codeOf 15 = .ok (.imul, 1) := by decide +kernel
theorem dX12_codeOf_16 : decode cX12_codeOf 16 = .ok (.bipush 10, 2) := by decide +kernel
theorem dX12_codeOf_18 : decode cX12_codeOf 18 = .ok (.aload_n 0, 1) := by decide +kernel
theorem dX12_codeOf_19 : decode cX12_codeOf 19 = .ok (.getfield 22, 3) := by decide +kernel
theorem dX12_codeOf_22 : decode cX12_codeOf 22 = .ok (.iload_n 2, 1) := by decide +kernel
theorem dX12_codeOf_23 : decode cX12_codeOf 23 = .ok (.iconst 1, 1) := by decide +kernel
theorem dX12_codeOf_24 : decode cX12_codeOf 24 = .ok (.iadd, 1) := by decide +kernel
theorem dX12_codeOf_25 : decode cX12_codeOf 25 = .ok (.iaload, 1) := by decide +kernel
theorem dX12_codeOf_26 : decode cX12_codeOf 26 = .ok (.imul, 1) := by decide +kernel
theorem dX12_codeOf_27 : decode cX12_codeOf 27 = .ok (.iadd, 1) := by decide +kernel
theorem dX12_codeOf_28 : decode cX12_codeOf 28 = .ok (.aload_n 0, 1) := by decide +kernel
theorem dX12_codeOf_29 : decode cX12_codeOf 29 = .ok (.getfield 22, 3) := by decide +kernel
theorem dX12_codeOf_32 : decode cX12_codeOf 32 = .ok (.iload_n 2, 1) := by decide +kernel
theorem dX12_codeOf_33 : decode cX12_codeOf 33 = .ok (.iconst 2, 1) := by decide +kernel
theorem dX12_codeOf_34 : decode cX12_codeOf 34 = .ok (.iadd, 1) := by decide +kernel
theorem dX12_codeOf_35 : decode cX12_codeOf 35 = .ok (.iaload, 1) := by decide +kernel
theorem dX12_codeOf_36 : decode cX12_codeOf 36 = .ok (.iadd, 1) := by decide +kernel
theorem dX12_codeOf_37 : decode cX12_codeOf 37 = .ok (.imul, 1) := by decide +kernel
theorem dX12_codeOf_38 : decode cX12_codeOf 38 = .ok (.aload_n 0, 1) := by decide +kernel
theorem dX12_codeOf_39 : decode cX12_codeOf 39 = .ok (.getfield 22, 3) := by decide +kernel
theorem dX12_codeOf_42 : decode cX12_codeOf 42 = .ok (.bipush 24, 2) := by decide +kernel
theorem dX12_codeOf_44 : decode cX12_codeOf 44 = .ok (.iload_n 1, 1) := by decide +kernel
theorem dX12_codeOf_45 : decode cX12_codeOf 45 = .ok (.iadd, 1) := by decide +kernel
theorem dX12_codeOf_46 : decode cX12_codeOf 46 = .ok (.iaload, 1) := by decide +kernel
theorem dX12_codeOf_47 : decode cX12_codeOf 47 = .ok (.iadd, 1) := by decide +kernel
theorem dX12_codeOf_48 : decode cX12_codeOf 48 = .ok (.ireturn, 1) := by decide +kernel
theorem dX12_goesRound_0 : decode cX12_goesRound 0 = .ok (.iconst 0, 1) := by decide +kernel
theorem dX12_goesRound_1 : decode cX12_goesRound 1 = .ok (.istore 5, 2) := by decide +kernel
theorem dX12_goesRound_3 : decode cX12_goesRound 3 = .ok (.iload 5, 2) := by decide +kernel
theorem dX12_goesRound_5 : decode cX12_goesRound 5 = .ok (.sipush 4000, 3) := by decide +kernel
theorem dX12_goesRound_8 : decode cX12_goesRound 8 = .ok (.if_icmp .ge 17, 3) := by decide +kernel
theorem dX12_goesRound_11 : decode cX12_goesRound 11 = .ok (.aload_n 0, 1) := by decide +kernel
theorem dX12_goesRound_12 : decode cX12_goesRound 12 = .ok (.getfield 54, 3) := by decide +kernel
theorem dX12_goesRound_15 : decode cX12_goesRound 15 = .ok (.iload 5, 2) := by decide +kernel
theorem dX12_goesRound_17 : decode cX12_goesRound 17 = .ok (.iconst 0, 1) := by decide +kernel
theorem dX12_goesRound_18 : decode cX12_goesRound 18 = .ok (.iastore, 1) := by decide +kernel
theorem dX12_goesRound_19 : decode cX12_goesRound 19 = .ok (.iinc 5 1, 3) := by decide +kernel
theorem dX12_goesRound_22 : decode cX12_goesRound 22 = .ok (.goto (-19), 3) := by decide +kernel
theorem dX12_goesRound_25 : decode cX12_goesRound 25 = .ok (.iconst 0, 1) := by decide +kernel
theorem dX12_goesRound_26 : decode cX12_goesRound 26 = .ok (.istore 5, 2) := by decide +kernel
theorem dX12_goesRound_28 : decode cX12_goesRound 28 = .ok (.aload_n 0, 1) := by decide +kernel
theorem dX12_goesRound_29 : decode cX12_goesRound 29 = .ok (.getfield 54, 3) := by decide +kernel
theorem dX12_goesRound_32 : decode cX12_goesRound 32 = .ok (.aload_n 0, 1) := by decide +kernel
theorem dX12_goesRound_33 : decode cX12_goesRound 33 = .ok (.iload_n 1, 1) := by decide +kernel
theorem dX12_goesRound_34 : decode cX12_goesRound 34 = .ok (.invokevirtual 236, 3) := by decide +kernel
theorem dX12_goesRound_37 : decode cX12_goesRound 37 = .ok (.iaload, 1) := by decide +kernel
theorem dX12_goesRound_38 : decode cX12_goesRound 38 = .ok (.ifCond .ne 61, 3) := by decide +kernel
theorem dX12_goesRound_41 : decode cX12_goesRound 41 = .ok (.iinc 5 1, 3) := by decide +kernel
theorem dX12_goesRound_44 : decode cX12_goesRound 44 = .ok (.aload_n 0, 1) := by decide +kernel
theorem dX12_goesRound_45 : decode cX12_goesRound 45 = .ok (.getfield 54, 3) := by decide +kernel
theorem dX12_goesRound_48 : decode cX12_goesRound 48 = .ok (.aload_n 0, 1) := by decide +kernel
theorem dX12_goesRound_49 : decode cX12_goesRound 49 = .ok (.iload_n 1, 1) := by decide +kernel
theorem dX12_goesRound_50 : decode cX12_goesRound 50 = .ok (.invokevirtual 236, 3) := by decide +kernel
theorem dX12_goesRound_53 : decode cX12_goesRound 53 = .ok (.iload 5, 2) := by decide +kernel
theorem dX12_goesRound_55 : decode cX12_goesRound 55 = .ok (.iastore, 1) := by decide +kernel
theorem dX12_goesRound_56 : decode cX12_goesRound 56 = .ok (.iconst 0, 1) := by decide +kernel
theorem dX12_goesRound_57 : decode cX12_goesRound 57 = .ok (.istore 6, 2) := by decide +kernel
theorem dX12_goesRound_59 : decode cX12_goesRound 59 = .ok (.iload 6, 2) := by decide +kernel
theorem dX12_goesRound_61 : decode cX12_goesRound 61 = .ok (.iload 4, 2) := by decide +kernel
theorem dX12_goesRound_63 : decode cX12_goesRound 63 = .ok (.if_icmp .ge 33, 3) := by decide +kernel
theorem dX12_goesRound_66 : decode cX12_goesRound 66 = .ok (.aload_n 0, 1) := by decide +kernel
theorem dX12_goesRound_67 : decode cX12_goesRound 67 = .ok (.aload_n 0, 1) := by decide +kernel
theorem dX12_goesRound_68 : decode cX12_goesRound 68 = .ok (.getfield 22, 3) := by decide +kernel
theorem dX12_goesRound_71 : decode cX12_goesRound 71 = .ok (.iload_n 1, 1) := by decide +kernel
theorem dX12_goesRound_72 : decode cX12_goesRound 72 = .ok (.aload_n 0, 1) := by decide +kernel
theorem dX12_goesRound_73 : decode cX12_goesRound 73 = .ok (.getfield 44, 3) := by decide +kernel
theorem dX12_goesRound_76 : decode cX12_goesRound 76 = .ok (.bipush 24, 2) := by decide +kernel
theorem dX12_goesRound_78 : decode cX12_goesRound 78 = .ok (.iload_n 2, 1) := by decide +kernel
theorem dX12_goesRound_79 : decode cX12_goesRound 79 = .ok (.imul, 1) := by decide +kernel
theorem dX12_goesRound_80 : decode cX12_goesRound 80 = .ok (.iload_n 3, 1) := by decide +kernel
theorem dX12_goesRound_81 : decode cX12_goesRound 81 = .ok (.iadd, 1) := by decide +kernel
theorem dX12_goesRound_82 : decode cX12_goesRound 82 = .ok (.iload 6, 2) := by decide +kernel
theorem dX12_goesRound_84 : decode cX12_goesRound 84 = .ok (.iadd, 1) := by decide +kernel
theorem dX12_goesRound_85 : decode cX12_goesRound 85 = .ok (.laload, 1) := by decide +kernel
theorem dX12_goesRound_86 : decode cX12_goesRound 86 = .ok (.l2i, 1) := by decide +kernel
theorem dX12_goesRound_87 : decode cX12_goesRound 87 = .ok (.invokevirtual 158, 3) := by decide +kernel
theorem dX12_goesRound_90 : decode cX12_goesRound 90 = .ok (.iinc 6 1, 3) := by decide +kernel
theorem dX12_goesRound_93 : decode cX12_goesRound 93 = .ok (.goto (-34), 3) := by decide +kernel
theorem dX12_goesRound_96 : decode cX12_goesRound 96 = .ok (.goto (-68), 3) := by decide +kernel
theorem dX12_goesRound_99 : decode cX12_goesRound 99 = .ok (.aload_n 0, 1) := by decide +kernel
theorem dX12_goesRound_100 : decode cX12_goesRound 100 = .ok (.aload_n 0, 1) := by decide +kernel
theorem dX12_goesRound_101 : decode cX12_goesRound 101 = .ok (.getfield 54, 3) := by decide +kernel
theorem dX12_goesRound_104 : decode cX12_goesRound 104 = .ok (.aload_n 0, 1) := by decide +kernel
theorem dX12_goesRound_105 : decode cX12_goesRound 105 = .ok (.iload_n 1, 1) := by decide +kernel
theorem dX12_goesRound_106 : decode cX12_goesRound 106 = .ok (.invokevirtual 236, 3) := by decide +kernel
theorem dX12_goesRound_109 : decode cX12_goesRound 109 = .ok (.iaload, 1) := by decide +kernel
theorem dX12_goesRound_110 : decode cX12_goesRound 110 = .ok (.iconst 1, 1) := by decide +kernel
theorem dX12_goesRound_111 : decode cX12_goesRound 111 = .ok (.isub, 1) := by decide +kernel
theorem dX12_goesRound_112 : decode cX12_goesRound 112 = .ok (.putfield 239, 3) := by decide +kernel
theorem dX12_goesRound_115 : decode cX12_goesRound 115 = .ok (.aload_n 0, 1) := by decide +kernel
theorem dX12_goesRound_116 : decode cX12_goesRound 116 = .ok (.iload 5, 2) := by decide +kernel
theorem dX12_goesRound_118 : decode cX12_goesRound 118 = .ok (.aload_n 0, 1) := by decide +kernel
theorem dX12_goesRound_119 : decode cX12_goesRound 119 = .ok (.getfield 239, 3) := by decide +kernel
theorem dX12_goesRound_122 : decode cX12_goesRound 122 = .ok (.isub, 1) := by decide +kernel
theorem dX12_goesRound_123 : decode cX12_goesRound 123 = .ok (.putfield 242, 3) := by decide +kernel
theorem dX12_goesRound_126 : decode cX12_goesRound 126 = .ok (.return_, 1) := by decide +kernel
theorem dX12_round_0 : decode cX12_round 0 = .ok (.aload_n 0, 1) := by decide +kernel
theorem dX12_round_1 : decode cX12_round 1 = .ok (.getfield 7, 3) := by decide +kernel
theorem dX12_round_4 : decode cX12_round 4 = .ok (.iconst 0, 1) := by decide +kernel
theorem dX12_round_5 : decode cX12_round 5 = .ok (.iaload, 1) := by decide +kernel
theorem dX12_round_6 : decode cX12_round 6 = .ok (.ifCond .eq 35, 3) := by decide +kernel
theorem dX12_round_9 : decode cX12_round 9 = .ok (.iload_n 1, 1) := by decide +kernel
theorem dX12_round_10 : decode cX12_round 10 = .ok (.iload_n 2, 1) := by decide +kernel
theorem dX12_round_11 : decode cX12_round 11 = .ok (.invokestatic 225, 3) := by decide +kernel
theorem dX12_round_14 : decode cX12_round 14 = .ok (.ifCond .eq 27, 3) := by decide +kernel
theorem dX12_round_17 : decode cX12_round 17 = .ok (.iload 4, 2) := by decide +kernel
theorem dX12_round_19 : decode cX12_round 19 = .ok (.i2l, 1) := by decide +kernel
theorem dX12_round_20 : decode cX12_round 20 = .ok (.lconst 1, 1) := by decide +kernel
theorem dX12_round_21 : decode cX12_round 21 = .ok (.ldc2_w 143, 3) := by decide +kernel
theorem dX12_round_24 : decode cX12_round 24 = .ok (.invokestatic 59, 3) := by decide +kernel
theorem dX12_round_27 : decode cX12_round 27 = .ok (.ifCond .eq 14, 3) := by decide +kernel
theorem dX12_round_30 : decode cX12_round 30 = .ok (.iload 5, 2) := by decide +kernel
theorem dX12_round_32 : decode cX12_round 32 = .ok (.i2l, 1) := by decide +kernel
theorem dX12_round_33 : decode cX12_round 33 = .ok (.lconst 0, 1) := by decide +kernel
theorem dX12_round_34 : decode cX12_round 34 = .ok (.lconst 1, 1) := by decide +kernel
theorem dX12_round_35 : decode cX12_round 35 = .ok (.invokestatic 59, 3) := by decide +kernel
theorem dX12_round_38 : decode cX12_round 38 = .ok (.ifCond .ne 5, 3) := by decide +kernel
theorem dX12_round_41 : decode cX12_round 41 = .ok (.iconst (-1), 1) := by decide +kernel
theorem dX12_round_42 : decode cX12_round 42 = .ok (.ireturn, 1) := by decide +kernel
theorem dX12_round_43 : decode cX12_round 43 = .ok (.aload_n 0, 1) := by decide +kernel
theorem dX12_round_44 : decode cX12_round 44 = .ok (.iload_n 1, 1) := by decide +kernel
theorem dX12_round_45 : decode cX12_round 45 = .ok (.iload_n 2, 1) := by decide +kernel
theorem dX12_round_46 : decode cX12_round 46 = .ok (.iload_n 3, 1) := by decide +kernel
theorem dX12_round_47 : decode cX12_round 47 = .ok (.iload 4, 2) := by decide +kernel
theorem dX12_round_49 : decode cX12_round 49 = .ok (.invokevirtual 228, 3) := by decide +kernel
theorem dX12_round_52 : decode cX12_round 52 = .ok (.istore 6, 2) := by decide +kernel
theorem dX12_round_54 : decode cX12_round 54 = .ok (.iload 6, 2) := by decide +kernel
theorem dX12_round_56 : decode cX12_round 56 = .ok (.ifCond .ge 6, 3) := by decide +kernel
theorem dX12_round_59 : decode cX12_round 59 = .ok (.iload 6, 2) := by decide +kernel
theorem dX12_round_61 : decode cX12_round 61 = .ok (.ireturn, 1) := by decide +kernel
theorem dX12_round_62 : decode cX12_round 62 = .ok (.aload_n 0, 1) := by decide +kernel
theorem dX12_round_63 : decode cX12_round 63 = .ok (.iload_n 1, 1) := by decide +kernel
theorem dX12_round_64 : decode cX12_round 64 = .ok (.iload_n 3, 1) := by decide +kernel
theorem dX12_round_65 : decode cX12_round 65 = .ok (.iload 4, 2) := by decide +kernel
theorem dX12_round_67 : decode cX12_round 67 = .ok (.invokevirtual 232, 3) := by decide +kernel
theorem dX12_round_70 : decode cX12_round 70 = .ok (.ifCond .ne 6, 3) := by decide +kernel
theorem dX12_round_73 : decode cX12_round 73 = .ok (.bipush (-2), 2) := by decide +kernel
theorem dX12_round_75 : decode cX12_round 75 = .ok (.ireturn, 1) := by decide +kernel
theorem dX12_round_76 : decode cX12_round 76 = .ok (.aload_n 0, 1) := by decide +kernel
theorem dX12_round_77 : decode cX12_round 77 = .ok (.invokevirtual 193, 3) := by decide +kernel
theorem dX12_round_80 : decode cX12_round 80 = .ok (.iconst 0, 1) := by decide +kernel
theorem dX12_round_81 : decode cX12_round 81 = .ok (.istore 7, 2) := by decide +kernel
theorem dX12_round_83 : decode cX12_round 83 = .ok (.iconst 1, 1) := by decide +kernel
theorem dX12_round_84 : decode cX12_round 84 = .ok (.istore 8, 2) := by decide +kernel
theorem dX12_round_86 : decode cX12_round 86 = .ok (.iconst 0, 1) := by decide +kernel
theorem dX12_round_87 : decode cX12_round 87 = .ok (.istore 9, 2) := by decide +kernel
theorem dX12_round_89 : decode cX12_round 89 = .ok (.iload 9, 2) := by decide +kernel
theorem dX12_round_91 : decode cX12_round 91 = .ok (.aload_n 0, 1) := by decide +kernel
theorem dX12_round_92 : decode cX12_round 92 = .ok (.getfield 7, 3) := by decide +kernel
theorem dX12_round_95 : decode cX12_round 95 = .ok (.iconst 0, 1) := by decide +kernel
theorem dX12_round_96 : decode cX12_round 96 = .ok (.iaload, 1) := by decide +kernel
theorem dX12_round_97 : decode cX12_round 97 = .ok (.if_icmp .ge 63, 3) := by decide +kernel
theorem dX12_round_100 : decode cX12_round 100 = .ok (.aload_n 0, 1) := by decide +kernel
theorem dX12_round_101 : decode cX12_round 101 = .ok (.iload 9, 2) := by decide +kernel
theorem dX12_round_103 : decode cX12_round 103 = .ok (.iload_n 1, 1) := by decide +kernel
theorem dX12_round_104 : decode cX12_round 104 = .ok (.iload_n 3, 1) := by decide +kernel
theorem dX12_round_105 : decode cX12_round 105 = .ok (.iload 4, 2) := by decide +kernel
theorem dX12_round_107 : decode cX12_round 107 = .ok (.invokevirtual 245, 3) := by decide +kernel
theorem dX12_round_110 : decode cX12_round 110 = .ok (.aload_n 0, 1) := by decide +kernel
theorem dX12_round_111 : decode cX12_round 111 = .ok (.getfield 239, 3) := by decide +kernel
theorem dX12_round_114 : decode cX12_round 114 = .ok (.iload 7, 2) := by decide +kernel
theorem dX12_round_116 : decode cX12_round 116 = .ok (.if_icmp .le 10, 3) := by decide +kernel
theorem dX12_round_119 : decode cX12_round 119 = .ok (.aload_n 0, 1) := by decide +kernel
theorem dX12_round_120 : decode cX12_round 120 = .ok (.getfield 239, 3) := by decide +kernel
theorem dX12_round_123 : decode cX12_round 123 = .ok (.goto 5, 3) := by decide +kernel
theorem dX12_round_126 : decode cX12_round 126 = .ok (.iload 7, 2) := by decide +kernel
theorem dX12_round_128 : decode cX12_round 128 = .ok (.istore 7, 2) := by decide +kernel
theorem dX12_round_130 : decode cX12_round 130 = .ok (.iload 8, 2) := by decide +kernel
theorem dX12_round_132 : decode cX12_round 132 = .ok (.istore 10, 2) := by decide +kernel
theorem dX12_round_134 : decode cX12_round 134 = .ok (.iload 8, 2) := by decide +kernel
theorem dX12_round_136 : decode cX12_round 136 = .ok (.aload_n 0, 1) := by decide +kernel
theorem dX12_round_137 : decode cX12_round 137 = .ok (.getfield 242, 3) := by decide +kernel
theorem dX12_round_140 : decode cX12_round 140 = .ok (.irem, 1) := by decide +kernel
theorem dX12_round_141 : decode cX12_round 141 = .ok (.ifCond .eq 13, 3) := by decide +kernel
theorem dX12_round_144 : decode cX12_round 144 = .ok (.iload 8, 2) := by decide +kernel
theorem dX12_round_146 : decode cX12_round 146 = .ok (.iload 10, 2) := by decide +kernel
theorem dX12_round_148 : decode cX12_round 148 = .ok (.iadd, 1) := by decide +kernel
theorem dX12_round_149 : decode cX12_round 149 = .ok (.istore 8, 2) := by decide +kernel
theorem dX12_round_151 : decode cX12_round 151 = .ok (.goto (-17), 3) := by decide +kernel
theorem dX12_round_154 : decode cX12_round 154 = .ok (.iinc 9 1, 3) := by decide +kernel
theorem dX12_round_157 : decode cX12_round 157 = .ok (.goto (-68), 3) := by decide +kernel
theorem dX12_round_160 : decode cX12_round 160 = .ok (.iload 5, 2) := by decide +kernel
theorem dX12_round_162 : decode cX12_round 162 = .ok (.ifCond .ne 8, 3) := by decide +kernel
theorem dX12_round_165 : decode cX12_round 165 = .ok (.iload 7, 2) := by decide +kernel
theorem dX12_round_167 : decode cX12_round 167 = .ok (.goto 5, 3) := by decide +kernel
theorem dX12_round_170 : decode cX12_round 170 = .ok (.iload 8, 2) := by decide +kernel
theorem dX12_round_172 : decode cX12_round 172 = .ok (.ireturn, 1) := by decide +kernel
theorem dX12_kinds_0 : decode cX12_kinds 0 = .ok (.iload_n 1, 1) := by decide +kernel
theorem dX12_kinds_1 : decode cX12_kinds 1 = .ok (.iload_n 2, 1) := by decide +kernel
theorem dX12_kinds_2 : decode cX12_kinds 2 = .ok (.invokestatic 225, 3) := by decide +kernel
theorem dX12_kinds_5 : decode cX12_kinds 5 = .ok (.ifCond .eq 31, 3) := by decide +kernel
theorem dX12_kinds_8 : decode cX12_kinds 8 = .ok (.iload 4, 2) := by decide +kernel
theorem dX12_kinds_10 : decode cX12_kinds 10 = .ok (.i2l, 1) := by decide +kernel
theorem dX12_kinds_11 : decode cX12_kinds 11 = .ok (.lconst 1, 1) := by decide +kernel
theorem dX12_kinds_12 : decode cX12_kinds 12 = .ok (.ldc2_w 186, 3) := by decide +kernel
theorem dX12_kinds_15 : decode cX12_kinds 15 = .ok (.invokestatic 59, 3) := by decide +kernel
theorem dX12_kinds_18 : decode cX12_kinds 18 = .ok (.ifCond .eq 18, 3) := by decide +kernel
theorem dX12_kinds_21 : decode cX12_kinds 21 = .ok (.iload 5, 2) := by decide +kernel
theorem dX12_kinds_23 : decode cX12_kinds 23 = .ok (.i2l, 1) := by decide +kernel
theorem dX12_kinds_24 : decode cX12_kinds 24 = .ok (.ldc2_w 249, 3) := by decide +kernel
theorem dX12_kinds_27 : decode cX12_kinds 27 = .ok (.ldc2_w 209, 3) := by decide +kernel
theorem dX12_kinds_30 : decode cX12_kinds 30 = .ok (.invokestatic 59, 3) := by decide +kernel
theorem dX12_kinds_33 : decode cX12_kinds 33 = .ok (.ifCond .ne 5, 3) := by decide +kernel
theorem dX12_kinds_36 : decode cX12_kinds 36 = .ok (.iconst (-1), 1) := by decide +kernel
theorem dX12_kinds_37 : decode cX12_kinds 37 = .ok (.ireturn, 1) := by decide +kernel
theorem dX12_kinds_38 : decode cX12_kinds 38 = .ok (.aload_n 0, 1) := by decide +kernel
theorem dX12_kinds_39 : decode cX12_kinds 39 = .ok (.iload_n 1, 1) := by decide +kernel
theorem dX12_kinds_40 : decode cX12_kinds 40 = .ok (.iload_n 2, 1) := by decide +kernel
theorem dX12_kinds_41 : decode cX12_kinds 41 = .ok (.iload_n 3, 1) := by decide +kernel
theorem dX12_kinds_42 : decode cX12_kinds 42 = .ok (.iconst 3, 1) := by decide +kernel
theorem dX12_kinds_43 : decode cX12_kinds 43 = .ok (.iload 4, 2) := by decide +kernel
theorem dX12_kinds_45 : decode cX12_kinds 45 = .ok (.imul, 1) := by decide +kernel
theorem dX12_kinds_46 : decode cX12_kinds 46 = .ok (.invokevirtual 228, 3) := by decide +kernel
theorem dX12_kinds_49 : decode cX12_kinds 49 = .ok (.istore 6, 2) := by decide +kernel
theorem dX12_kinds_51 : decode cX12_kinds 51 = .ok (.iload 6, 2) := by decide +kernel
theorem dX12_kinds_53 : decode cX12_kinds 53 = .ok (.ifCond .ge 6, 3) := by decide +kernel
theorem dX12_kinds_56 : decode cX12_kinds 56 = .ok (.iload 6, 2) := by decide +kernel
theorem dX12_kinds_58 : decode cX12_kinds 58 = .ok (.ireturn, 1) := by decide +kernel
theorem dX12_kinds_59 : decode cX12_kinds 59 = .ok (.bipush 62, 2) := by decide +kernel
theorem dX12_kinds_61 : decode cX12_kinds 61 = .ok (.istore 7, 2) := by decide +kernel
theorem dX12_kinds_63 : decode cX12_kinds 63 = .ok (.iconst 0, 1) := by decide +kernel
theorem dX12_kinds_64 : decode cX12_kinds 64 = .ok (.istore 8, 2) := by decide +kernel
theorem dX12_kinds_66 : decode cX12_kinds 66 = .ok (.iload 8, 2) := by decide +kernel
theorem dX12_kinds_68 : decode cX12_kinds 68 = .ok (.iload 4, 2) := by decide +kernel
theorem dX12_kinds_70 : decode cX12_kinds 70 = .ok (.if_icmp .ge 130, 3) := by decide +kernel
theorem dX12_kinds_73 : decode cX12_kinds 73 = .ok (.bipush 24, 2) := by decide +kernel
theorem dX12_kinds_75 : decode cX12_kinds 75 = .ok (.iload_n 1, 1) := by decide +kernel
theorem dX12_kinds_76 : decode cX12_kinds 76 = .ok (.imul, 1) := by decide +kernel
theorem dX12_kinds_77 : decode cX12_kinds 77 = .ok (.iload_n 3, 1) := by decide +kernel
theorem dX12_kinds_78 : decode cX12_kinds 78 = .ok (.iadd, 1) := by decide +kernel
theorem dX12_kinds_79 : decode cX12_kinds 79 = .ok (.iconst 3, 1) := by decide +kernel
theorem dX12_kinds_80 : decode cX12_kinds 80 = .ok (.iload 8, 2) := by decide +kernel
theorem dX12_kinds_82 : decode cX12_kinds 82 = .ok (.imul, 1) := by decide +kernel
theorem dX12_kinds_83 : decode cX12_kinds 83 = .ok (.iadd, 1) := by decide +kernel
theorem dX12_kinds_84 : decode cX12_kinds 84 = .ok (.istore 9, 2) := by decide +kernel
theorem dX12_kinds_86 : decode cX12_kinds 86 = .ok (.aload_n 0, 1) := by decide +kernel
theorem dX12_kinds_87 : decode cX12_kinds 87 = .ok (.getfield 44, 3) := by decide +kernel
theorem dX12_kinds_90 : decode cX12_kinds 90 = .ok (.iload 9, 2) := by decide +kernel
theorem dX12_kinds_92 : decode cX12_kinds 92 = .ok (.laload, 1) := by decide +kernel
theorem dX12_kinds_93 : decode cX12_kinds 93 = .ok (.lconst 0, 1) := by decide +kernel
theorem dX12_kinds_94 : decode cX12_kinds 94 = .ok (.ldc2_w 209, 3) := by decide +kernel
theorem dX12_kinds_97 : decode cX12_kinds 97 = .ok (.invokestatic 59, 3) := by decide +kernel
theorem dX12_kinds_100 : decode cX12_kinds 100 = .ok (.ifCond .eq 22, 3) := by decide +kernel
theorem dX12_kinds_103 : decode cX12_kinds 103 = .ok (.aload_n 0, 1) := by decide +kernel
theorem dX12_kinds_104 : decode cX12_kinds 104 = .ok (.getfield 44, 3) := by decide +kernel
theorem dX12_kinds_107 : decode cX12_kinds 107 = .ok (.iload 9, 2) := by decide +kernel
theorem dX12_kinds_109 : decode cX12_kinds 109 = .ok (.iconst 1, 1) := by decide +kernel
theorem dX12_kinds_110 : decode cX12_kinds 110 = .ok (.iadd, 1) := by decide +kernel
theorem dX12_kinds_111 : decode cX12_kinds 111 = .ok (.laload, 1) := by decide +kernel
theorem dX12_kinds_112 : decode cX12_kinds 112 = .ok (.lconst 0, 1) := by decide +kernel
theorem dX12_kinds_113 : decode cX12_kinds 113 = .ok (.ldc2_w 170, 3) := by decide +kernel
theorem dX12_kinds_116 : decode cX12_kinds 116 = .ok (.invokestatic 59, 3) := by decide +kernel
theorem dX12_kinds_119 : decode cX12_kinds 119 = .ok (.ifCond .ne 6, 3) := by decide +kernel
theorem dX12_kinds_122 : decode cX12_kinds 122 = .ok (.bipush (-2), 2) := by decide +kernel
theorem dX12_kinds_124 : decode cX12_kinds 124 = .ok (.ireturn, 1) := by decide +kernel
theorem dX12_kinds_125 : decode cX12_kinds 125 = .ok (.iconst 1, 1) := by decide +kernel
theorem dX12_kinds_126 : decode cX12_kinds 126 = .ok (.istore 10, 2) := by decide +kernel
theorem dX12_kinds_128 : decode cX12_kinds 128 = .ok (.iload 10, 2) := by decide +kernel
theorem dX12_kinds_130 : decode cX12_kinds 130 = .ok (.bipush 6, 2) := by decide +kernel
theorem dX12_kinds_132 : decode cX12_kinds 132 = .ok (.if_icmp .ge 62, 3) := by decide +kernel
theorem dX12_kinds_135 : decode cX12_kinds 135 = .ok (.iload 7, 2) := by decide +kernel
theorem dX12_kinds_137 : decode cX12_kinds 137 = .ok (.iload 10, 2) := by decide +kernel
theorem dX12_kinds_139 : decode cX12_kinds 139 = .ok (.aload_n 0, 1) := by decide +kernel
theorem dX12_kinds_140 : decode cX12_kinds 140 = .ok (.getfield 44, 3) := by decide +kernel
theorem dX12_kinds_143 : decode cX12_kinds 143 = .ok (.iload 9, 2) := by decide +kernel
theorem dX12_kinds_145 : decode cX12_kinds 145 = .ok (.laload, 1) := by decide +kernel
theorem dX12_kinds_146 : decode cX12_kinds 146 = .ok (.l2i, 1) := by decide +kernel
theorem dX12_kinds_147 : decode cX12_kinds 147 = .ok (.aload_n 0, 1) := by decide +kernel
theorem dX12_kinds_148 : decode cX12_kinds 148 = .ok (.getfield 44, 3) := by decide +kernel
theorem dX12_kinds_151 : decode cX12_kinds 151 = .ok (.iload 9, 2) := by decide +kernel
theorem dX12_kinds_153 : decode cX12_kinds 153 = .ok (.iconst 1, 1) := by decide +kernel
theorem dX12_kinds_154 : decode cX12_kinds 154 = .ok (.iadd, 1) := by decide +kernel
theorem dX12_kinds_155 : decode cX12_kinds 155 = .ok (.laload, 1) := by decide +kernel
theorem dX12_kinds_156 : decode cX12_kinds 156 = .ok (.l2i, 1) := by decide +kernel
theorem dX12_kinds_157 : decode cX12_kinds 157 = .ok (.invokestatic 130, 3) := by decide +kernel
theorem dX12_kinds_160 : decode cX12_kinds 160 = .ok (.i2l, 1) := by decide +kernel
theorem dX12_kinds_161 : decode cX12_kinds 161 = .ok (.aload_n 0, 1) := by decide +kernel
theorem dX12_kinds_162 : decode cX12_kinds 162 = .ok (.getfield 44, 3) := by decide +kernel
theorem dX12_kinds_165 : decode cX12_kinds 165 = .ok (.iload 9, 2) := by decide +kernel
theorem dX12_kinds_167 : decode cX12_kinds 167 = .ok (.iconst 2, 1) := by decide +kernel
theorem dX12_kinds_168 : decode cX12_kinds 168 = .ok (.iadd, 1) := by decide +kernel
theorem dX12_kinds_169 : decode cX12_kinds 169 = .ok (.laload, 1) := by decide +kernel
theorem dX12_kinds_170 : decode cX12_kinds 170 = .ok (.lcmp, 1) := by decide +kernel
theorem dX12_kinds_171 : decode cX12_kinds 171 = .ok (.ifCond .ne 8, 3) := by decide +kernel
theorem dX12_kinds_174 : decode cX12_kinds 174 = .ok (.iload 7, 2) := by decide +kernel
theorem dX12_kinds_176 : decode cX12_kinds 176 = .ok (.goto 9, 3) := by decide +kernel
theorem dX12_kinds_179 : decode cX12_kinds 179 = .ok (.iconst 1, 1) := by decide +kernel
theorem dX12_kinds_180 : decode cX12_kinds 180 = .ok (.iload 10, 2) := by decide +kernel
theorem dX12_kinds_182 : decode cX12_kinds 182 = .ok (.ishl, 1) := by decide +kernel
theorem dX12_kinds_183 : decode cX12_kinds 183 = .ok (.iconst (-1), 1) := by decide +kernel
theorem dX12_kinds_184 : decode cX12_kinds 184 = .ok (.ixor, 1) := by decide +kernel
theorem dX12_kinds_185 : decode cX12_kinds 185 = .ok (.iand, 1) := by decide +kernel
theorem dX12_kinds_186 : decode cX12_kinds 186 = .ok (.istore 7, 2) := by decide +kernel
theorem dX12_kinds_188 : decode cX12_kinds 188 = .ok (.iinc 10 1, 3) := by decide +kernel
theorem dX12_kinds_191 : decode cX12_kinds 191 = .ok (.goto (-63), 3) := by decide +kernel
theorem dX12_kinds_194 : decode cX12_kinds 194 = .ok (.iinc 8 1, 3) := by decide +kernel
theorem dX12_kinds_197 : decode cX12_kinds 197 = .ok (.goto (-131), 3) := by decide +kernel
theorem dX12_kinds_200 : decode cX12_kinds 200 = .ok (.iload 5, 2) := by decide +kernel
theorem dX12_kinds_202 : decode cX12_kinds 202 = .ok (.ifCond .ge 8, 3) := by decide +kernel
theorem dX12_kinds_205 : decode cX12_kinds 205 = .ok (.iload 7, 2) := by decide +kernel
theorem dX12_kinds_207 : decode cX12_kinds 207 = .ok (.goto 10, 3) := by decide +kernel
theorem dX12_kinds_210 : decode cX12_kinds 210 = .ok (.iload 7, 2) := by decide +kernel
theorem dX12_kinds_212 : decode cX12_kinds 212 = .ok (.iload 5, 2) := by decide +kernel
theorem dX12_kinds_214 : decode cX12_kinds 214 = .ok (.invokestatic 251, 3) := by decide +kernel
theorem dX12_kinds_217 : decode cX12_kinds 217 = .ok (.ireturn, 1) := by decide +kernel
theorem dX12_tryOf_0 : decode cX12_tryOf 0 = .ok (.bipush (-4), 2) := by decide +kernel
theorem dX12_tryOf_2 : decode cX12_tryOf 2 = .ok (.istore_n 2, 1) := by decide +kernel
theorem dX12_tryOf_3 : decode cX12_tryOf 3 = .ok (.bipush 6, 2) := by decide +kernel
theorem dX12_tryOf_5 : decode cX12_tryOf 5 = .ok (.istore_n 3, 1) := by decide +kernel
theorem dX12_tryOf_6 : decode cX12_tryOf 6 = .ok (.iconst 1, 1) := by decide +kernel
theorem dX12_tryOf_7 : decode cX12_tryOf 7 = .ok (.istore 4, 2) := by decide +kernel
theorem dX12_tryOf_9 : decode cX12_tryOf 9 = .ok (.iload 4, 2) := by decide +kernel
theorem dX12_tryOf_11 : decode cX12_tryOf 11 = .ok (.iconst 4, 1) := by decide +kernel
theorem dX12_tryOf_12 : decode cX12_tryOf 12 = .ok (.if_icmp .ge 118, 3) := by decide +kernel
theorem dX12_tryOf_15 : decode cX12_tryOf 15 = .ok (.iload_n 0, 1) := by decide +kernel
theorem dX12_tryOf_16 : decode cX12_tryOf 16 = .ok (.ifCond .eq 114, 3) := by decide +kernel
theorem dX12_tryOf_19 : decode cX12_tryOf 19 = .ok (.iconst 0, 1) := by decide +kernel
theorem dX12_tryOf_20 : decode cX12_tryOf 20 = .ok (.istore 5, 2) := by decide +kernel
theorem dX12_tryOf_22 : decode cX12_tryOf 22 = .ok (.iconst 0, 1) := by decide +kernel
theorem dX12_tryOf_23 : decode cX12_tryOf 23 = .ok (.istore 6, 2) := by decide +kernel
theorem dX12_tryOf_25 : decode cX12_tryOf 25 = .ok (.iload 6, 2) := by decide +kernel
theorem dX12_tryOf_27 : decode cX12_tryOf 27 = .ok (.iconst 5, 1) := by decide +kernel
theorem dX12_tryOf_28 : decode cX12_tryOf 28 = .ok (.if_icmp .ge 76, 3) := by decide +kernel
theorem dX12_tryOf_31 : decode cX12_tryOf 31 = .ok (.iconst 0, 1) := by decide +kernel
theorem dX12_tryOf_32 : decode cX12_tryOf 32 = .ok (.istore 7, 2) := by decide +kernel
theorem dX12_tryOf_34 : decode cX12_tryOf 34 = .ok (.iconst 1, 1) := by decide +kernel
theorem dX12_tryOf_35 : decode cX12_tryOf 35 = .ok (.istore 8, 2) := by decide +kernel
theorem dX12_tryOf_37 : decode cX12_tryOf 37 = .ok (.iload 8, 2) := by decide +kernel
theorem dX12_tryOf_39 : decode cX12_tryOf 39 = .ok (.bipush 6, 2) := by decide +kernel
theorem dX12_tryOf_41 : decode cX12_tryOf 41 = .ok (.if_icmp .ge 41, 3) := by decide +kernel
theorem dX12_tryOf_44 : decode cX12_tryOf 44 = .ok (.iload 7, 2) := by decide +kernel
theorem dX12_tryOf_46 : decode cX12_tryOf 46 = .ok (.iload_n 0, 1) := by decide +kernel
theorem dX12_tryOf_47 : decode cX12_tryOf 47 = .ok (.iload 8, 2) := by decide +kernel
theorem dX12_tryOf_49 : decode cX12_tryOf 49 = .ok (.invokestatic 151, 3) := by decide +kernel
theorem dX12_tryOf_52 : decode cX12_tryOf 52 = .ok (.ifCond .eq 20, 3) := by decide +kernel
theorem dX12_tryOf_55 : decode cX12_tryOf 55 = .ok (.iload 8, 2) := by decide +kernel
theorem dX12_tryOf_57 : decode cX12_tryOf 57 = .ok (.iload_n 1, 1) := by decide +kernel
theorem dX12_tryOf_58 : decode cX12_tryOf 58 = .ok (.iload 4, 2) := by decide +kernel
theorem dX12_tryOf_60 : decode cX12_tryOf 60 = .ok (.invokestatic 130, 3) := by decide +kernel
theorem dX12_tryOf_63 : decode cX12_tryOf 63 = .ok (.iload 6, 2) := by decide +kernel
theorem dX12_tryOf_65 : decode cX12_tryOf 65 = .ok (.if_icmp .ne 7, 3) := by decide +kernel
theorem dX12_tryOf_68 : decode cX12_tryOf 68 = .ok (.iconst 1, 1) := by decide +kernel
theorem dX12_tryOf_69 : decode cX12_tryOf 69 = .ok (.goto 4, 3) := by decide +kernel
theorem dX12_tryOf_72 : decode cX12_tryOf 72 = .ok (.iconst 0, 1) := by decide +kernel
theorem dX12_tryOf_73 : decode cX12_tryOf 73 = .ok (.iadd, 1) := by decide +kernel
theorem dX12_tryOf_74 : decode cX12_tryOf 74 = .ok (.istore 7, 2) := by decide +kernel
theorem dX12_tryOf_76 : decode cX12_tryOf 76 = .ok (.iinc 8 1, 3) := by decide +kernel
theorem dX12_tryOf_79 : decode cX12_tryOf 79 = .ok (.goto (-42), 3) := by decide +kernel
theorem dX12_tryOf_82 : decode cX12_tryOf 82 = .ok (.iload 7, 2) := by decide +kernel
theorem dX12_tryOf_84 : decode cX12_tryOf 84 = .ok (.iload 5, 2) := by decide +kernel
theorem dX12_tryOf_86 : decode cX12_tryOf 86 = .ok (.if_icmp .le 8, 3) := by decide +kernel
theorem dX12_tryOf_89 : decode cX12_tryOf 89 = .ok (.iload 7, 2) := by decide +kernel
theorem dX12_tryOf_91 : decode cX12_tryOf 91 = .ok (.goto 5, 3) := by decide +kernel
theorem dX12_tryOf_94 : decode cX12_tryOf 94 = .ok (.iload 5, 2) := by decide +kernel
theorem dX12_tryOf_96 : decode cX12_tryOf 96 = .ok (.istore 5, 2) := by decide +kernel
theorem dX12_tryOf_98 : decode cX12_tryOf 98 = .ok (.iinc 6 1, 3) := by decide +kernel
theorem dX12_tryOf_101 : decode cX12_tryOf 101 = .ok (.goto (-76), 3) := by decide +kernel
theorem dX12_tryOf_104 : decode cX12_tryOf 104 = .ok (.iload 5, 2) := by decide +kernel
theorem dX12_tryOf_106 : decode cX12_tryOf 106 = .ok (.iload_n 3, 1) := by decide +kernel
theorem dX12_tryOf_107 : decode cX12_tryOf 107 = .ok (.if_icmp .ge 8, 3) := by decide +kernel
theorem dX12_tryOf_110 : decode cX12_tryOf 110 = .ok (.iload 4, 2) := by decide +kernel
theorem dX12_tryOf_112 : decode cX12_tryOf 112 = .ok (.goto 4, 3) := by decide +kernel
theorem dX12_tryOf_115 : decode cX12_tryOf 115 = .ok (.iload_n 2, 1) := by decide +kernel
theorem dX12_tryOf_116 : decode cX12_tryOf 116 = .ok (.istore_n 2, 1) := by decide +kernel
theorem dX12_tryOf_117 : decode cX12_tryOf 117 = .ok (.iload_n 3, 1) := by decide +kernel
theorem dX12_tryOf_118 : decode cX12_tryOf 118 = .ok (.iload 5, 2) := by decide +kernel
theorem dX12_tryOf_120 : decode cX12_tryOf 120 = .ok (.invokestatic 126, 3) := by decide +kernel
theorem dX12_tryOf_123 : decode cX12_tryOf 123 = .ok (.istore_n 3, 1) := by decide +kernel
theorem dX12_tryOf_124 : decode cX12_tryOf 124 = .ok (.iinc 4 1, 3) := by decide +kernel
theorem dX12_tryOf_127 : decode cX12_tryOf 127 = .ok (.goto (-118), 3) := by decide +kernel
theorem dX12_tryOf_130 : decode cX12_tryOf 130 = .ok (.iload_n 2, 1) := by decide +kernel
theorem dX12_tryOf_131 : decode cX12_tryOf 131 = .ok (.ireturn, 1) := by decide +kernel
theorem dX12_wishes_0 : decode cX12_wishes 0 = .ok (.aload_n 0, 1) := by decide +kernel
theorem dX12_wishes_1 : decode cX12_wishes 1 = .ok (.getfield 7, 3) := by decide +kernel
theorem dX12_wishes_4 : decode cX12_wishes 4 = .ok (.iconst 0, 1) := by decide +kernel
theorem dX12_wishes_5 : decode cX12_wishes 5 = .ok (.iaload, 1) := by decide +kernel
theorem dX12_wishes_6 : decode cX12_wishes 6 = .ok (.ifCond .eq 11, 3) := by decide +kernel
theorem dX12_wishes_9 : decode cX12_wishes 9 = .ok (.iload_n 1, 1) := by decide +kernel
theorem dX12_wishes_10 : decode cX12_wishes 10 = .ok (.iload_n 2, 1) := by decide +kernel
theorem dX12_wishes_11 : decode cX12_wishes 11 = .ok (.invokestatic 225, 3) := by decide +kernel
theorem dX12_wishes_14 : decode cX12_wishes 14 = .ok (.ifCond .ne 5, 3) := by decide +kernel
theorem dX12_wishes_17 : decode cX12_wishes 17 = .ok (.iconst (-1), 1) := by decide +kernel
theorem dX12_wishes_18 : decode cX12_wishes 18 = .ok (.ireturn, 1) := by decide +kernel
theorem dX12_wishes_19 : decode cX12_wishes 19 = .ok (.aload_n 0, 1) := by decide +kernel
theorem dX12_wishes_20 : decode cX12_wishes 20 = .ok (.iload_n 1, 1) := by decide +kernel
theorem dX12_wishes_21 : decode cX12_wishes 21 = .ok (.iload_n 2, 1) := by decide +kernel
theorem dX12_wishes_22 : decode cX12_wishes 22 = .ok (.iload_n 3, 1) := by decide +kernel
theorem dX12_wishes_23 : decode cX12_wishes 23 = .ok (.aload_n 0, 1) := by decide +kernel
theorem dX12_wishes_24 : decode cX12_wishes 24 = .ok (.getfield 7, 3) := by decide +kernel
theorem dX12_wishes_27 : decode cX12_wishes 27 = .ok (.iconst 0, 1) := by decide +kernel
theorem dX12_wishes_28 : decode cX12_wishes 28 = .ok (.iaload, 1) := by decide +kernel
theorem dX12_wishes_29 : decode cX12_wishes 29 = .ok (.invokevirtual 228, 3) := by decide +kernel
theorem dX12_wishes_32 : decode cX12_wishes 32 = .ok (.istore 4, 2) := by decide +kernel
theorem dX12_wishes_34 : decode cX12_wishes 34 = .ok (.iload 4, 2) := by decide +kernel
theorem dX12_wishes_36 : decode cX12_wishes 36 = .ok (.ifCond .ge 6, 3) := by decide +kernel
theorem dX12_wishes_39 : decode cX12_wishes 39 = .ok (.iload 4, 2) := by decide +kernel
theorem dX12_wishes_41 : decode cX12_wishes 41 = .ok (.ireturn, 1) := by decide +kernel
theorem dX12_wishes_42 : decode cX12_wishes 42 = .ok (.iconst 0, 1) := by decide +kernel
theorem dX12_wishes_43 : decode cX12_wishes 43 = .ok (.istore 5, 2) := by decide +kernel
theorem dX12_wishes_45 : decode cX12_wishes 45 = .ok (.iconst 0, 1) := by decide +kernel
theorem dX12_wishes_46 : decode cX12_wishes 46 = .ok (.istore 6, 2) := by decide +kernel
theorem dX12_wishes_48 : decode cX12_wishes 48 = .ok (.iload 6, 2) := by decide +kernel
theorem dX12_wishes_50 : decode cX12_wishes 50 = .ok (.aload_n 0, 1) := by decide +kernel
theorem dX12_wishes_51 : decode cX12_wishes 51 = .ok (.getfield 7, 3) := by decide +kernel
theorem dX12_wishes_54 : decode cX12_wishes 54 = .ok (.iconst 0, 1) := by decide +kernel
theorem dX12_wishes_55 : decode cX12_wishes 55 = .ok (.iaload, 1) := by decide +kernel
theorem dX12_wishes_56 : decode cX12_wishes 56 = .ok (.if_icmp .ge 50, 3) := by decide +kernel
theorem dX12_wishes_59 : decode cX12_wishes 59 = .ok (.iload 5, 2) := by decide +kernel
theorem dX12_wishes_61 : decode cX12_wishes 61 = .ok (.aload_n 0, 1) := by decide +kernel
theorem dX12_wishes_62 : decode cX12_wishes 62 = .ok (.getfield 19, 3) := by decide +kernel
theorem dX12_wishes_65 : decode cX12_wishes 65 = .ok (.iload 6, 2) := by decide +kernel
theorem dX12_wishes_67 : decode cX12_wishes 67 = .ok (.invokestatic 115, 3) := by decide +kernel
theorem dX12_wishes_70 : decode cX12_wishes 70 = .ok (.i2l, 1) := by decide +kernel
theorem dX12_wishes_71 : decode cX12_wishes 71 = .ok (.aload_n 0, 1) := by decide +kernel
theorem dX12_wishes_72 : decode cX12_wishes 72 = .ok (.getfield 44, 3) := by decide +kernel
theorem dX12_wishes_75 : decode cX12_wishes 75 = .ok (.bipush 24, 2) := by decide +kernel
theorem dX12_wishes_77 : decode cX12_wishes 77 = .ok (.iload_n 1, 1) := by decide +kernel
theorem dX12_wishes_78 : decode cX12_wishes 78 = .ok (.imul, 1) := by decide +kernel
theorem dX12_wishes_79 : decode cX12_wishes 79 = .ok (.iload_n 3, 1) := by decide +kernel
theorem dX12_wishes_80 : decode cX12_wishes 80 = .ok (.iadd, 1) := by decide +kernel
theorem dX12_wishes_81 : decode cX12_wishes 81 = .ok (.iload 6, 2) := by decide +kernel
theorem dX12_wishes_83 : decode cX12_wishes 83 = .ok (.iadd, 1) := by decide +kernel
theorem dX12_wishes_84 : decode cX12_wishes 84 = .ok (.laload, 1) := by decide +kernel
theorem dX12_wishes_85 : decode cX12_wishes 85 = .ok (.lcmp, 1) := by decide +kernel
theorem dX12_wishes_86 : decode cX12_wishes 86 = .ok (.ifCond .ne 10, 3) := by decide +kernel
theorem dX12_wishes_89 : decode cX12_wishes 89 = .ok (.iconst 1, 1) := by decide +kernel
theorem dX12_wishes_90 : decode cX12_wishes 90 = .ok (.iload 6, 2) := by decide +kernel
theorem dX12_wishes_92 : decode cX12_wishes 92 = .ok (.ishl, 1) := by decide +kernel
theorem dX12_wishes_93 : decode cX12_wishes 93 = .ok (.goto 4, 3) := by decide +kernel
theorem dX12_wishes_96 : decode cX12_wishes 96 = .ok (.iconst 0, 1) := by decide +kernel
theorem dX12_wishes_97 : decode cX12_wishes 97 = .ok (.ior, 1) := by decide +kernel
theorem dX12_wishes_98 : decode cX12_wishes 98 = .ok (.istore 5, 2) := by decide +kernel
theorem dX12_wishes_100 : decode cX12_wishes 100 = .ok (.iinc 6 1, 3) := by decide +kernel
theorem dX12_wishes_103 : decode cX12_wishes 103 = .ok (.goto (-55), 3) := by decide +kernel
theorem dX12_wishes_106 : decode cX12_wishes 106 = .ok (.iload 5, 2) := by decide +kernel
theorem dX12_wishes_108 : decode cX12_wishes 108 = .ok (.ireturn, 1) := by decide +kernel
theorem dX12_count_0 : decode cX12_count 0 = .ok (.iload_n 1, 1) := by decide +kernel
theorem dX12_count_1 : decode cX12_count 1 = .ok (.tableswitch 135 0 8 #[51, 51, 51, 58, 63, 72, 116, 125, 130], 51) := by decide +kernel
theorem dX12_count_52 : decode cX12_count 52 = .ok (.aload_n 0, 1) := by decide +kernel
theorem dX12_count_53 : decode cX12_count 53 = .ok (.getfield 7, 3) := by decide +kernel
theorem dX12_count_56 : decode cX12_count 56 = .ok (.iload_n 1, 1) := by decide +kernel
theorem dX12_count_57 : decode cX12_count 57 = .ok (.iaload, 1) := by decide +kernel
theorem dX12_count_58 : decode cX12_count 58 = .ok (.ireturn, 1) := by decide +kernel
theorem dX12_count_59 : decode cX12_count 59 = .ok (.aload_n 0, 1) := by decide +kernel
theorem dX12_count_60 : decode cX12_count 60 = .ok (.getfield 109, 3) := by decide +kernel
theorem dX12_count_63 : decode cX12_count 63 = .ok (.ireturn, 1) := by decide +kernel
theorem dX12_count_64 : decode cX12_count 64 = .ok (.aload_n 0, 1) := by decide +kernel
theorem dX12_count_65 : decode cX12_count 65 = .ok (.aload_n 0, 1) := by decide +kernel
theorem dX12_count_66 : decode cX12_count 66 = .ok (.getfield 19, 3) := by decide +kernel
theorem dX12_count_69 : decode cX12_count 69 = .ok (.invokevirtual 182, 3) := by decide +kernel
theorem dX12_count_72 : decode cX12_count 72 = .ok (.ireturn, 1) := by decide +kernel
theorem dX12_count_73 : decode cX12_count 73 = .ok (.iconst 0, 1) := by decide +kernel
theorem dX12_count_74 : decode cX12_count 74 = .ok (.istore_n 2, 1) := by decide +kernel
theorem dX12_count_75 : decode cX12_count 75 = .ok (.iconst 0, 1) := by decide +kernel
theorem dX12_count_76 : decode cX12_count 76 = .ok (.istore_n 3, 1) := by decide +kernel
theorem dX12_count_77 : decode cX12_count 77 = .ok (.iload_n 3, 1) := by decide +kernel
theorem dX12_count_78 : decode cX12_count 78 = .ok (.aload_n 0, 1) := by decide +kernel
theorem dX12_count_79 : decode cX12_count 79 = .ok (.getfield 7, 3) := by decide +kernel
theorem dX12_count_82 : decode cX12_count 82 = .ok (.iconst 0, 1) := by decide +kernel
theorem dX12_count_83 : decode cX12_count 83 = .ok (.iaload, 1) := by decide +kernel
theorem dX12_count_84 : decode cX12_count 84 = .ok (.if_icmp .ge 31, 3) := by decide +kernel
theorem dX12_count_87 : decode cX12_count 87 = .ok (.iload_n 2, 1) := by decide +kernel
theorem dX12_count_88 : decode cX12_count 88 = .ok (.aload_n 0, 1) := by decide +kernel
theorem dX12_count_89 : decode cX12_count 89 = .ok (.getfield 19, 3) := by decide +kernel
theorem dX12_count_92 : decode cX12_count 92 = .ok (.bipush 24, 2) := by decide +kernel
theorem dX12_count_94 : decode cX12_count 94 = .ok (.iload_n 3, 1) := by decide +kernel
theorem dX12_count_95 : decode cX12_count 95 = .ok (.iadd, 1) := by decide +kernel
theorem dX12_count_96 : decode cX12_count 96 = .ok (.iaload, 1) := by decide +kernel
theorem dX12_count_97 : decode cX12_count 97 = .ok (.ifCond .le 9, 3) := by decide +kernel
theorem dX12_count_100 : decode cX12_count 100 = .ok (.iconst 1, 1) := by decide +kernel
theorem dX12_count_101 : decode cX12_count 101 = .ok (.iload_n 3, 1) := by decide +kernel
theorem dX12_count_102 : decode cX12_count 102 = .ok (.ishl, 1) := by decide +kernel
theorem dX12_count_103 : decode cX12_count 103 = .ok (.goto 4, 3) := by decide +kernel
theorem dX12_count_106 : decode cX12_count 106 = .ok (.iconst 0, 1) := by decide +kernel
theorem dX12_count_107 : decode cX12_count 107 = .ok (.ior, 1) := by decide +kernel
theorem dX12_count_108 : decode cX12_count 108 = .ok (.istore_n 2, 1) := by decide +kernel
theorem dX12_count_109 : decode cX12_count 109 = .ok (.iinc 3 1, 3) := by decide +kernel
theorem dX12_count_112 : decode cX12_count 112 = .ok (.goto (-35), 3) := by decide +kernel
theorem dX12_count_115 : decode cX12_count 115 = .ok (.iload_n 2, 1) := by decide +kernel
theorem dX12_count_116 : decode cX12_count 116 = .ok (.ireturn, 1) := by decide +kernel
theorem dX12_count_117 : decode cX12_count 117 = .ok (.aload_n 0, 1) := by decide +kernel
theorem dX12_count_118 : decode cX12_count 118 = .ok (.aload_n 0, 1) := by decide +kernel
theorem dX12_count_119 : decode cX12_count 119 = .ok (.getfield 19, 3) := by decide +kernel
theorem dX12_count_122 : decode cX12_count 122 = .ok (.invokevirtual 222, 3) := by decide +kernel
theorem dX12_count_125 : decode cX12_count 125 = .ok (.ireturn, 1) := by decide +kernel
theorem dX12_count_126 : decode cX12_count 126 = .ok (.aload_n 0, 1) := by decide +kernel
theorem dX12_count_127 : decode cX12_count 127 = .ok (.getfield 112, 3) := by decide +kernel
theorem dX12_count_130 : decode cX12_count 130 = .ok (.ireturn, 1) := by decide +kernel
theorem dX12_count_131 : decode cX12_count 131 = .ok (.aload_n 0, 1) := by decide +kernel
theorem dX12_count_132 : decode cX12_count 132 = .ok (.getfield 63, 3) := by decide +kernel
theorem dX12_count_135 : decode cX12_count 135 = .ok (.ireturn, 1) := by decide +kernel
theorem dX12_count_136 : decode cX12_count 136 = .ok (.iconst (-1), 1) := by decide +kernel
theorem dX12_count_137 : decode cX12_count 137 = .ok (.ireturn, 1) := by decide +kernel
end
section
theorem dX12_sheet_0 : decode cX12_sheet 0 = .ok (.iload_n 1, 1) := by decide +kernel
theorem dX12_sheet_1 : decode cX12_sheet 1 = .ok (.iload_n 2, 1) := by decide +kernel
theorem dX12_sheet_2 : decode cX12_sheet 2 = .ok (.invokestatic 225, 3) := by decide +kernel
theorem dX12_sheet_5 : decode cX12_sheet 5 = .ok (.ifCond .eq 9, 3) := by decide +kernel
theorem dX12_sheet_8 : decode cX12_sheet 8 = .ok (.iload_n 3, 1) := by decide +kernel
theorem dX12_sheet_9 : decode cX12_sheet 9 = .ok (.bipush 24, 2) := by decide +kernel
theorem dX12_sheet_11 : decode cX12_sheet 11 = .ok (.if_icmp .le 5, 3) := by decide +kernel
theorem dX12_sheet_14 : decode cX12_sheet 14 = .ok (.iconst (-1), 1) := by decide +kernel
theorem dX12_sheet_15 : decode cX12_sheet 15 = .ok (.ireturn, 1) := by decide +kernel
theorem dX12_sheet_16 : decode cX12_sheet 16 = .ok (.iload_n 3, 1) := by decide +kernel
theorem dX12_sheet_17 : decode cX12_sheet 17 = .ok (.ifCond .ge 6, 3) := by decide +kernel
theorem dX12_sheet_20 : decode cX12_sheet 20 = .ok (.bipush (-14), 2) := by decide +kernel
theorem dX12_sheet_22 : decode cX12_sheet 22 = .ok (.ireturn, 1) := by decide +kernel
theorem dX12_sheet_23 : decode cX12_sheet 23 = .ok (.aload_n 0, 1) := by decide +kernel
theorem dX12_sheet_24 : decode cX12_sheet 24 = .ok (.getfield 38, 3) := by decide +kernel
theorem dX12_sheet_27 : decode cX12_sheet 27 = .ok (.iload_n 1, 1) := by decide +kernel
theorem dX12_sheet_28 : decode cX12_sheet 28 = .ok (.iload_n 3, 1) := by decide +kernel
theorem dX12_sheet_29 : decode cX12_sheet 29 = .ok (.iastore, 1) := by decide +kernel
theorem dX12_sheet_30 : decode cX12_sheet 30 = .ok (.aload_n 0, 1) := by decide +kernel
theorem dX12_sheet_31 : decode cX12_sheet 31 = .ok (.getfield 41, 3) := by decide +kernel
theorem dX12_sheet_34 : decode cX12_sheet 34 = .ok (.iload_n 1, 1) := by decide +kernel
theorem dX12_sheet_35 : decode cX12_sheet 35 = .ok (.iload_n 2, 1) := by decide +kernel
theorem dX12_sheet_36 : decode cX12_sheet 36 = .ok (.iastore, 1) := by decide +kernel
theorem dX12_sheet_37 : decode cX12_sheet 37 = .ok (.iconst 0, 1) := by decide +kernel
theorem dX12_sheet_38 : decode cX12_sheet 38 = .ok (.istore 4, 2) := by decide +kernel
theorem dX12_sheet_40 : decode cX12_sheet 40 = .ok (.iload 4, 2) := by decide +kernel
theorem dX12_sheet_42 : decode cX12_sheet 42 = .ok (.bipush 24, 2) := by decide +kernel
theorem dX12_sheet_44 : decode cX12_sheet 44 = .ok (.if_icmp .ge 22, 3) := by decide +kernel
theorem dX12_sheet_47 : decode cX12_sheet 47 = .ok (.aload_n 0, 1) := by decide +kernel
theorem dX12_sheet_48 : decode cX12_sheet 48 = .ok (.getfield 44, 3) := by decide +kernel
theorem dX12_sheet_51 : decode cX12_sheet 51 = .ok (.bipush 24, 2) := by decide +kernel
theorem dX12_sheet_53 : decode cX12_sheet 53 = .ok (.iload_n 1, 1) := by decide +kernel
theorem dX12_sheet_54 : decode cX12_sheet 54 = .ok (.imul, 1) := by decide +kernel
theorem dX12_sheet_55 : decode cX12_sheet 55 = .ok (.iload 4, 2) := by decide +kernel
theorem dX12_sheet_57 : decode cX12_sheet 57 = .ok (.iadd, 1) := by decide +kernel
theorem dX12_sheet_58 : decode cX12_sheet 58 = .ok (.lconst 0, 1) := by decide +kernel
theorem dX12_sheet_59 : decode cX12_sheet 59 = .ok (.lastore, 1) := by decide +kernel
theorem dX12_sheet_60 : decode cX12_sheet 60 = .ok (.iinc 4 1, 3) := by decide +kernel
theorem dX12_sheet_63 : decode cX12_sheet 63 = .ok (.goto (-23), 3) := by decide +kernel
theorem dX12_sheet_66 : decode cX12_sheet 66 = .ok (.iload_n 3, 1) := by decide +kernel
theorem dX12_sheet_67 : decode cX12_sheet 67 = .ok (.ireturn, 1) := by decide +kernel
theorem dX12_drop_0 : decode cX12_drop 0 = .ok (.iload_n 1, 1) := by decide +kernel
theorem dX12_drop_1 : decode cX12_drop 1 = .ok (.i2l, 1) := by decide +kernel
theorem dX12_drop_2 : decode cX12_drop 2 = .ok (.lconst 0, 1) := by decide +kernel
theorem dX12_drop_3 : decode cX12_drop 3 = .ok (.ldc2_w 170, 3) := by decide +kernel
theorem dX12_drop_6 : decode cX12_drop 6 = .ok (.invokestatic 59, 3) := by decide +kernel
theorem dX12_drop_9 : decode cX12_drop 9 = .ok (.ifCond .ne 5, 3) := by decide +kernel
theorem dX12_drop_12 : decode cX12_drop 12 = .ok (.iconst (-1), 1) := by decide +kernel
theorem dX12_drop_13 : decode cX12_drop 13 = .ok (.ireturn, 1) := by decide +kernel
theorem dX12_drop_14 : decode cX12_drop 14 = .ok (.aload_n 0, 1) := by decide +kernel
theorem dX12_drop_15 : decode cX12_drop 15 = .ok (.getfield 38, 3) := by decide +kernel
theorem dX12_drop_18 : decode cX12_drop 18 = .ok (.iload_n 1, 1) := by decide +kernel
theorem dX12_drop_19 : decode cX12_drop 19 = .ok (.iaload, 1) := by decide +kernel
theorem dX12_drop_20 : decode cX12_drop 20 = .ok (.ifCond .ge 6, 3) := by decide +kernel
theorem dX12_drop_23 : decode cX12_drop 23 = .ok (.bipush (-11), 2) := by decide +kernel
theorem dX12_drop_25 : decode cX12_drop 25 = .ok (.ireturn, 1) := by decide +kernel
theorem dX12_drop_26 : decode cX12_drop 26 = .ok (.aload_n 0, 1) := by decide +kernel
theorem dX12_drop_27 : decode cX12_drop 27 = .ok (.getfield 38, 3) := by decide +kernel
theorem dX12_drop_30 : decode cX12_drop 30 = .ok (.iload_n 1, 1) := by decide +kernel
theorem dX12_drop_31 : decode cX12_drop 31 = .ok (.iaload, 1) := by decide +kernel
theorem dX12_drop_32 : decode cX12_drop 32 = .ok (.istore_n 2, 1) := by decide +kernel
theorem dX12_drop_33 : decode cX12_drop 33 = .ok (.aload_n 0, 1) := by decide +kernel
theorem dX12_drop_34 : decode cX12_drop 34 = .ok (.getfield 38, 3) := by decide +kernel
theorem dX12_drop_37 : decode cX12_drop 37 = .ok (.iload_n 1, 1) := by decide +kernel
theorem dX12_drop_38 : decode cX12_drop 38 = .ok (.iconst (-1), 1) := by decide +kernel
theorem dX12_drop_39 : decode cX12_drop 39 = .ok (.iastore, 1) := by decide +kernel
theorem dX12_drop_40 : decode cX12_drop 40 = .ok (.iload_n 2, 1) := by decide +kernel
theorem dX12_drop_41 : decode cX12_drop 41 = .ok (.ireturn, 1) := by decide +kernel
theorem dX12_item_0 : decode cX12_item 0 = .ok (.iload_n 1, 1) := by decide +kernel
theorem dX12_item_1 : decode cX12_item 1 = .ok (.iload_n 2, 1) := by decide +kernel
theorem dX12_item_2 : decode cX12_item 2 = .ok (.invokestatic 225, 3) := by decide +kernel
theorem dX12_item_5 : decode cX12_item 5 = .ok (.ifCond .ne 7, 3) := by decide +kernel
theorem dX12_item_8 : decode cX12_item 8 = .ok (.ldc2_w 249, 3) := by decide +kernel
theorem dX12_item_11 : decode cX12_item 11 = .ok (.lreturn, 1) := by decide +kernel
theorem dX12_item_12 : decode cX12_item 12 = .ok (.aload_n 0, 1) := by decide +kernel
theorem dX12_item_13 : decode cX12_item 13 = .ok (.iload_n 1, 1) := by decide +kernel
theorem dX12_item_14 : decode cX12_item 14 = .ok (.iload_n 2, 1) := by decide +kernel
theorem dX12_item_15 : decode cX12_item 15 = .ok (.iload_n 3, 1) := by decide +kernel
theorem dX12_item_16 : decode cX12_item 16 = .ok (.iconst 1, 1) := by decide +kernel
theorem dX12_item_17 : decode cX12_item 17 = .ok (.invokevirtual 228, 3) := by decide +kernel
theorem dX12_item_20 : decode cX12_item 20 = .ok (.istore 6, 2) := by decide +kernel
theorem dX12_item_22 : decode cX12_item 22 = .ok (.iload 6, 2) := by decide +kernel
theorem dX12_item_24 : decode cX12_item 24 = .ok (.ifCond .ge 7, 3) := by decide +kernel
theorem dX12_item_27 : decode cX12_item 27 = .ok (.iload 6, 2) := by decide +kernel
theorem dX12_item_29 : decode cX12_item 29 = .ok (.i2l, 1) := by decide +kernel
theorem dX12_item_30 : decode cX12_item 30 = .ok (.lreturn, 1) := by decide +kernel
theorem dX12_item_31 : decode cX12_item 31 = .ok (.aload_n 0, 1) := by decide +kernel
theorem dX12_item_32 : decode cX12_item 32 = .ok (.getfield 44, 3) := by decide +kernel
theorem dX12_item_35 : decode cX12_item 35 = .ok (.bipush 24, 2) := by decide +kernel
theorem dX12_item_37 : decode cX12_item 37 = .ok (.iload_n 1, 1) := by decide +kernel
theorem dX12_item_38 : decode cX12_item 38 = .ok (.imul, 1) := by decide +kernel
theorem dX12_item_39 : decode cX12_item 39 = .ok (.iload_n 3, 1) := by decide +kernel
theorem dX12_item_40 : decode cX12_item 40 = .ok (.iadd, 1) := by decide +kernel
theorem dX12_item_41 : decode cX12_item 41 = .ok (.iload_n 2, 1) := by decide +kernel
theorem dX12_item_42 : decode cX12_item 42 = .ok (.lload 4, 2) := by decide +kernel
theorem dX12_item_44 : decode cX12_item 44 = .ok (.invokestatic 254, 3) := by decide +kernel
theorem dX12_item_47 : decode cX12_item 47 = .ok (.lastore, 1) := by decide +kernel
theorem dX12_item_48 : decode cX12_item 48 = .ok (.aload_n 0, 1) := by decide +kernel
theorem dX12_item_49 : decode cX12_item 49 = .ok (.getfield 44, 3) := by decide +kernel
theorem dX12_item_52 : decode cX12_item 52 = .ok (.bipush 24, 2) := by decide +kernel
theorem dX12_item_54 : decode cX12_item 54 = .ok (.iload_n 1, 1) := by decide +kernel
theorem dX12_item_55 : decode cX12_item 55 = .ok (.imul, 1) := by decide +kernel
theorem dX12_item_56 : decode cX12_item 56 = .ok (.iload_n 3, 1) := by decide +kernel
theorem dX12_item_57 : decode cX12_item 57 = .ok (.iadd, 1) := by decide +kernel
theorem dX12_item_58 : decode cX12_item 58 = .ok (.laload, 1) := by decide +kernel
theorem dX12_item_59 : decode cX12_item 59 = .ok (.lreturn, 1) := by decide +kernel
theorem dX12_copy_0 : decode cX12_copy 0 = .ok (.iload_n 1, 1) := by decide +kernel
theorem dX12_copy_1 : decode cX12_copy 1 = .ok (.i2l, 1) := by decide +kernel
theorem dX12_copy_2 : decode cX12_copy 2 = .ok (.lconst 0, 1) := by decide +kernel
theorem dX12_copy_3 : decode cX12_copy 3 = .ok (.ldc2_w 170, 3) := by decide +kernel
theorem dX12_copy_6 : decode cX12_copy 6 = .ok (.invokestatic 59, 3) := by decide +kernel
theorem dX12_copy_9 : decode cX12_copy 9 = .ok (.ifCond .eq 15, 3) := by decide +kernel
theorem dX12_copy_12 : decode cX12_copy 12 = .ok (.iload_n 3, 1) := by decide +kernel
theorem dX12_copy_13 : decode cX12_copy 13 = .ok (.i2l, 1) := by decide +kernel
theorem dX12_copy_14 : decode cX12_copy 14 = .ok (.lconst 0, 1) := by decide +kernel
theorem dX12_copy_15 : decode cX12_copy 15 = .ok (.ldc2_w 170, 3) := by decide +kernel
theorem dX12_copy_18 : decode cX12_copy 18 = .ok (.invokestatic 59, 3) := by decide +kernel
theorem dX12_copy_21 : decode cX12_copy 21 = .ok (.ifCond .ne 5, 3) := by decide +kernel
theorem dX12_copy_24 : decode cX12_copy 24 = .ok (.iconst (-1), 1) := by decide +kernel
theorem dX12_copy_25 : decode cX12_copy 25 = .ok (.ireturn, 1) := by decide +kernel
theorem dX12_copy_26 : decode cX12_copy 26 = .ok (.aload_n 0, 1) := by decide +kernel
theorem dX12_copy_27 : decode cX12_copy 27 = .ok (.getfield 38, 3) := by decide +kernel
theorem dX12_copy_30 : decode cX12_copy 30 = .ok (.iload_n 1, 1) := by decide +kernel
theorem dX12_copy_31 : decode cX12_copy 31 = .ok (.iaload, 1) := by decide +kernel
theorem dX12_copy_32 : decode cX12_copy 32 = .ok (.ifCond .lt 12, 3) := by decide +kernel
theorem dX12_copy_35 : decode cX12_copy 35 = .ok (.aload_n 0, 1) := by decide +kernel
theorem dX12_copy_36 : decode cX12_copy 36 = .ok (.getfield 38, 3) := by decide +kernel
theorem dX12_copy_39 : decode cX12_copy 39 = .ok (.iload_n 3, 1) := by decide +kernel
theorem dX12_copy_40 : decode cX12_copy 40 = .ok (.iaload, 1) := by decide +kernel
theorem dX12_copy_41 : decode cX12_copy 41 = .ok (.ifCond .ge 6, 3) := by decide +kernel
theorem dX12_copy_44 : decode cX12_copy 44 = .ok (.bipush (-11), 2) := by decide +kernel
theorem dX12_copy_46 : decode cX12_copy 46 = .ok (.ireturn, 1) := by decide +kernel
theorem dX12_copy_47 : decode cX12_copy 47 = .ok (.aload_n 0, 1) := by decide +kernel
theorem dX12_copy_48 : decode cX12_copy 48 = .ok (.getfield 41, 3) := by decide +kernel
theorem dX12_copy_51 : decode cX12_copy 51 = .ok (.iload_n 1, 1) := by decide +kernel
theorem dX12_copy_52 : decode cX12_copy 52 = .ok (.iaload, 1) := by decide +kernel
theorem dX12_copy_53 : decode cX12_copy 53 = .ok (.aload_n 0, 1) := by decide +kernel
theorem dX12_copy_54 : decode cX12_copy 54 = .ok (.getfield 41, 3) := by decide +kernel
theorem dX12_copy_57 : decode cX12_copy 57 = .ok (.iload_n 3, 1) := by decide +kernel
theorem dX12_copy_58 : decode cX12_copy 58 = .ok (.iaload, 1) := by decide +kernel
theorem dX12_copy_59 : decode cX12_copy 59 = .ok (.if_icmp .eq 6, 3) := by decide +kernel
theorem dX12_copy_62 : decode cX12_copy 62 = .ok (.bipush (-12), 2) := by decide +kernel
theorem dX12_copy_64 : decode cX12_copy 64 = .ok (.ireturn, 1) := by decide +kernel
theorem dX12_copy_65 : decode cX12_copy 65 = .ok (.iload 5, 2) := by decide +kernel
theorem dX12_copy_67 : decode cX12_copy 67 = .ok (.ifCond .lt 38, 3) := by decide +kernel
theorem dX12_copy_70 : decode cX12_copy 70 = .ok (.aload_n 0, 1) := by decide +kernel
theorem dX12_copy_71 : decode cX12_copy 71 = .ok (.iload_n 1, 1) := by decide +kernel
theorem dX12_copy_72 : decode cX12_copy 72 = .ok (.aload_n 0, 1) := by decide +kernel
theorem dX12_copy_73 : decode cX12_copy 73 = .ok (.getfield 41, 3) := by decide +kernel
theorem dX12_copy_76 : decode cX12_copy 76 = .ok (.iload_n 1, 1) := by decide +kernel
theorem dX12_copy_77 : decode cX12_copy 77 = .ok (.iaload, 1) := by decide +kernel
theorem dX12_copy_78 : decode cX12_copy 78 = .ok (.iload_n 2, 1) := by decide +kernel
theorem dX12_copy_79 : decode cX12_copy 79 = .ok (.iload 5, 2) := by decide +kernel
theorem dX12_copy_81 : decode cX12_copy 81 = .ok (.invokevirtual 228, 3) := by decide +kernel
theorem dX12_copy_84 : decode cX12_copy 84 = .ok (.ifCond .lt 21, 3) := by decide +kernel
theorem dX12_copy_87 : decode cX12_copy 87 = .ok (.aload_n 0, 1) := by decide +kernel
theorem dX12_copy_88 : decode cX12_copy 88 = .ok (.iload_n 3, 1) := by decide +kernel
theorem dX12_copy_89 : decode cX12_copy 89 = .ok (.aload_n 0, 1) := by decide +kernel
theorem dX12_copy_90 : decode cX12_copy 90 = .ok (.getfield 41, 3) := by decide +kernel
theorem dX12_copy_93 : decode cX12_copy 93 = .ok (.iload_n 3, 1) := by decide +kernel
theorem dX12_copy_94 : decode cX12_copy 94 = .ok (.iaload, 1) := by decide +kernel
theorem dX12_copy_95 : decode cX12_copy 95 = .ok (.iload 4, 2) := by decide +kernel
theorem dX12_copy_97 : decode cX12_copy 97 = .ok (.iload 5, 2) := by decide +kernel
theorem dX12_copy_99 : decode cX12_copy 99 = .ok (.invokevirtual 228, 3) := by decide +kernel
theorem dX12_copy_102 : decode cX12_copy 102 = .ok (.ifCond .ge 6, 3) := by decide +kernel
theorem dX12_copy_105 : decode cX12_copy 105 = .ok (.bipush (-13), 2) := by decide +kernel
theorem dX12_copy_107 : decode cX12_copy 107 = .ok (.ireturn, 1) := by decide +kernel
theorem dX12_copy_108 : decode cX12_copy 108 = .ok (.iconst 0, 1) := by decide +kernel
theorem dX12_copy_109 : decode cX12_copy 109 = .ok (.istore 6, 2) := by decide +kernel
theorem dX12_copy_111 : decode cX12_copy 111 = .ok (.iload 6, 2) := by decide +kernel
theorem dX12_copy_113 : decode cX12_copy 113 = .ok (.iload 5, 2) := by decide +kernel
theorem dX12_copy_115 : decode cX12_copy 115 = .ok (.if_icmp .ge 58, 3) := by decide +kernel
theorem dX12_copy_118 : decode cX12_copy 118 = .ok (.iload 4, 2) := by decide +kernel
theorem dX12_copy_120 : decode cX12_copy 120 = .ok (.iload_n 2, 1) := by decide +kernel
theorem dX12_copy_121 : decode cX12_copy 121 = .ok (.if_icmp .le 13, 3) := by decide +kernel
theorem dX12_copy_124 : decode cX12_copy 124 = .ok (.iload 5, 2) := by decide +kernel
theorem dX12_copy_126 : decode cX12_copy 126 = .ok (.iconst 1, 1) := by decide +kernel
theorem dX12_copy_127 : decode cX12_copy 127 = .ok (.isub, 1) := by decide +kernel
theorem dX12_copy_128 : decode cX12_copy 128 = .ok (.iload 6, 2) := by decide +kernel
theorem dX12_copy_130 : decode cX12_copy 130 = .ok (.isub, 1) := by decide +kernel
theorem dX12_copy_131 : decode cX12_copy 131 = .ok (.goto 5, 3) := by decide +kernel
theorem dX12_copy_134 : decode cX12_copy 134 = .ok (.iload 6, 2) := by decide +kernel
theorem dX12_copy_136 : decode cX12_copy 136 = .ok (.istore 7, 2) := by decide +kernel
theorem dX12_copy_138 : decode cX12_copy 138 = .ok (.aload_n 0, 1) := by decide +kernel
theorem dX12_copy_139 : decode cX12_copy 139 = .ok (.getfield 44, 3) := by decide +kernel
theorem dX12_copy_142 : decode cX12_copy 142 = .ok (.bipush 24, 2) := by decide +kernel
theorem dX12_copy_144 : decode cX12_copy 144 = .ok (.iload_n 3, 1) := by decide +kernel
theorem dX12_copy_145 : decode cX12_copy 145 = .ok (.imul, 1) := by decide +kernel
theorem dX12_copy_146 : decode cX12_copy 146 = .ok (.iload 4, 2) := by decide +kernel
theorem dX12_copy_148 : decode cX12_copy 148 = .ok (.iadd, 1) := by decide +kernel
theorem dX12_copy_149 : decode cX12_copy 149 = .ok (.iload 7, 2) := by decide +kernel
theorem dX12_copy_151 : decode cX12_copy 151 = .ok (.iadd, 1) := by decide +kernel
theorem dX12_copy_152 : decode cX12_copy 152 = .ok (.aload_n 0, 1) := by decide +kernel
theorem dX12_copy_153 : decode cX12_copy 153 = .ok (.getfield 44, 3) := by decide +kernel
theorem dX12_copy_156 : decode cX12_copy 156 = .ok (.bipush 24, 2) := by decide +kernel
theorem dX12_copy_158 : decode cX12_copy 158 = .ok (.iload_n 1, 1) := by decide +kernel
theorem dX12_copy_159 : decode cX12_copy 159 = .ok (.imul, 1) := by decide +kernel
theorem dX12_copy_160 : decode cX12_copy 160 = .ok (.iload_n 2, 1) := by decide +kernel
theorem dX12_copy_161 : decode cX12_copy 161 = .ok (.iadd, 1) := by decide +kernel
theorem dX12_copy_162 : decode cX12_copy 162 = .ok (.iload 7, 2) := by decide +kernel
theorem dX12_copy_164 : decode cX12_copy 164 = .ok (.iadd, 1) := by decide +kernel
theorem dX12_copy_165 : decode cX12_copy 165 = .ok (.laload, 1) := by decide +kernel
theorem dX12_copy_166 : decode cX12_copy 166 = .ok (.lastore, 1) := by decide +kernel
theorem dX12_copy_167 : decode cX12_copy 167 = .ok (.iinc 6 1, 3) := by decide +kernel
theorem dX12_copy_170 : decode cX12_copy 170 = .ok (.goto (-59), 3) := by decide +kernel
theorem dX12_copy_173 : decode cX12_copy 173 = .ok (.iload 5, 2) := by decide +kernel
theorem dX12_copy_175 : decode cX12_copy 175 = .ok (.ireturn, 1) := by decide +kernel
theorem dJ6_bitCount_0f7a4_0 : decode cJ6_bitCount_0f7a4 0 = .ok (.iload_n 0, 1) := by decide +kernel
theorem dJ6_bitCount_0f7a4_1 : decode cJ6_bitCount_0f7a4 1 = .ok (.iload_n 0, 1) := by decide +kernel
theorem dJ6_bitCount_0f7a4_2 : decode cJ6_bitCount_0f7a4 2 = .ok (.iconst 1, 1) := by decide +kernel
theorem dJ6_bitCount_0f7a4_3 : decode cJ6_bitCount_0f7a4 3 = .ok (.iushr, 1) := by decide +kernel
theorem dJ6_bitCount_0f7a4_4 : decode cJ6_bitCount_0f7a4 4 = .ok (.ldc_w 265, 3) := by decide +kernel
theorem dJ6_bitCount_0f7a4_7 : decode cJ6_bitCount_0f7a4 7 = .ok (.iand, 1) := by decide +kernel
theorem dJ6_bitCount_0f7a4_8 : decode cJ6_bitCount_0f7a4 8 = .ok (.isub, 1) := by decide +kernel
theorem dJ6_bitCount_0f7a4_9 : decode cJ6_bitCount_0f7a4 9 = .ok (.istore_n 0, 1) := by decide +kernel
theorem dJ6_bitCount_0f7a4_10 : decode cJ6_bitCount_0f7a4 10 = .ok (.iload_n 0, 1) := by decide +kernel
theorem dJ6_bitCount_0f7a4_11 : decode cJ6_bitCount_0f7a4 11 = .ok (.ldc_w 266, 3) := by decide +kernel
theorem dJ6_bitCount_0f7a4_14 : decode cJ6_bitCount_0f7a4 14 = .ok (.iand, 1) := by decide +kernel
theorem dJ6_bitCount_0f7a4_15 : decode cJ6_bitCount_0f7a4 15 = .ok (.iload_n 0, 1) := by decide +kernel
theorem dJ6_bitCount_0f7a4_16 : decode cJ6_bitCount_0f7a4 16 = .ok (.iconst 2, 1) := by decide +kernel
theorem dJ6_bitCount_0f7a4_17 : decode cJ6_bitCount_0f7a4 17 = .ok (.iushr, 1) := by decide +kernel
theorem dJ6_bitCount_0f7a4_18 : decode cJ6_bitCount_0f7a4 18 = .ok (.ldc_w 266, 3) := by decide +kernel
theorem dJ6_bitCount_0f7a4_21 : decode cJ6_bitCount_0f7a4 21 = .ok (.iand, 1) := by decide +kernel
theorem dJ6_bitCount_0f7a4_22 : decode cJ6_bitCount_0f7a4 22 = .ok (.iadd, 1) := by decide +kernel
theorem dJ6_bitCount_0f7a4_23 : decode cJ6_bitCount_0f7a4 23 = .ok (.istore_n 0, 1) := by decide +kernel
theorem dJ6_bitCount_0f7a4_24 : decode cJ6_bitCount_0f7a4 24 = .ok (.iload_n 0, 1) := by decide +kernel
theorem dJ6_bitCount_0f7a4_25 : decode cJ6_bitCount_0f7a4 25 = .ok (.iload_n 0, 1) := by decide +kernel
theorem dJ6_bitCount_0f7a4_26 : decode cJ6_bitCount_0f7a4 26 = .ok (.iconst 4, 1) := by decide +kernel
theorem dJ6_bitCount_0f7a4_27 : decode cJ6_bitCount_0f7a4 27 = .ok (.iushr, 1) := by decide +kernel
theorem dJ6_bitCount_0f7a4_28 : decode cJ6_bitCount_0f7a4 28 = .ok (.iadd, 1) := by decide +kernel
theorem dJ6_bitCount_0f7a4_29 : decode cJ6_bitCount_0f7a4 29 = .ok (.ldc_w 267, 3) := by decide +kernel
theorem dJ6_bitCount_0f7a4_32 : decode cJ6_bitCount_0f7a4 32 = .ok (.iand, 1) := by decide +kernel
theorem dJ6_bitCount_0f7a4_33 : decode cJ6_bitCount_0f7a4 33 = .ok (.istore_n 0, 1) := by decide +kernel
theorem dJ6_bitCount_0f7a4_34 : decode cJ6_bitCount_0f7a4 34 = .ok (.iload_n 0, 1) := by decide +kernel
theorem dJ6_bitCount_0f7a4_35 : decode cJ6_bitCount_0f7a4 35 = .ok (.iload_n 0, 1) := by decide +kernel
theorem dJ6_bitCount_0f7a4_36 : decode cJ6_bitCount_0f7a4 36 = .ok (.bipush 8, 2) := by decide +kernel
theorem dJ6_bitCount_0f7a4_38 : decode cJ6_bitCount_0f7a4 38 = .ok (.iushr, 1) := by decide +kernel
theorem dJ6_bitCount_0f7a4_39 : decode cJ6_bitCount_0f7a4 39 = .ok (.iadd, 1) := by decide +kernel
theorem dJ6_bitCount_0f7a4_40 : decode cJ6_bitCount_0f7a4 40 = .ok (.istore_n 0, 1) := by decide +kernel
theorem dJ6_bitCount_0f7a4_41 : decode cJ6_bitCount_0f7a4 41 = .ok (.iload_n 0, 1) := by decide +kernel
theorem dJ6_bitCount_0f7a4_42 : decode cJ6_bitCount_0f7a4 42 = .ok (.iload_n 0, 1) := by decide +kernel
theorem dJ6_bitCount_0f7a4_43 : decode cJ6_bitCount_0f7a4 43 = .ok (.bipush 16, 2) := by decide +kernel
theorem dJ6_bitCount_0f7a4_45 : decode cJ6_bitCount_0f7a4 45 = .ok (.iushr, 1) := by decide +kernel
theorem dJ6_bitCount_0f7a4_46 : decode cJ6_bitCount_0f7a4 46 = .ok (.iadd, 1) := by decide +kernel
theorem dJ6_bitCount_0f7a4_47 : decode cJ6_bitCount_0f7a4 47 = .ok (.istore_n 0, 1) := by decide +kernel
theorem dJ6_bitCount_0f7a4_48 : decode cJ6_bitCount_0f7a4 48 = .ok (.iload_n 0, 1) := by decide +kernel
theorem dJ6_bitCount_0f7a4_49 : decode cJ6_bitCount_0f7a4 49 = .ok (.bipush 63, 2) := by decide +kernel
theorem dJ6_bitCount_0f7a4_51 : decode cJ6_bitCount_0f7a4 51 = .ok (.iand, 1) := by decide +kernel
theorem dJ6_bitCount_0f7a4_52 : decode cJ6_bitCount_0f7a4 52 = .ok (.ireturn, 1) := by decide +kernel
theorem dJ9_max_7cf53_0 : decode cJ9_max_7cf53 0 = .ok (.iload_n 0, 1) := by decide +kernel
theorem dJ9_max_7cf53_1 : decode cJ9_max_7cf53 1 = .ok (.iload_n 1, 1) := by decide +kernel
theorem dJ9_max_7cf53_2 : decode cJ9_max_7cf53 2 = .ok (.if_icmp .lt 7, 3) := by decide +kernel
theorem dJ9_max_7cf53_5 : decode cJ9_max_7cf53 5 = .ok (.iload_n 0, 1) := by decide +kernel
theorem dJ9_max_7cf53_6 : decode cJ9_max_7cf53 6 = .ok (.goto 4, 3) := by decide +kernel
theorem dJ9_max_7cf53_9 : decode cJ9_max_7cf53 9 = .ok (.iload_n 1, 1) := by decide +kernel
theorem dJ9_max_7cf53_10 : decode cJ9_max_7cf53 10 = .ok (.ireturn, 1) := by decide +kernel
theorem dJ9_min_7cf53_0 : decode cJ9_min_7cf53 0 = .ok (.iload_n 0, 1) := by decide +kernel
theorem dJ9_min_7cf53_1 : decode cJ9_min_7cf53 1 = .ok (.iload_n 1, 1) := by decide +kernel
theorem dJ9_min_7cf53_2 : decode cJ9_min_7cf53 2 = .ok (.if_icmp .gt 7, 3) := by decide +kernel
theorem dJ9_min_7cf53_5 : decode cJ9_min_7cf53 5 = .ok (.iload_n 0, 1) := by decide +kernel
theorem dJ9_min_7cf53_6 : decode cJ9_min_7cf53 6 = .ok (.goto 4, 3) := by decide +kernel
theorem dJ9_min_7cf53_9 : decode cJ9_min_7cf53 9 = .ok (.iload_n 1, 1) := by decide +kernel
theorem dJ9_min_7cf53_10 : decode cJ9_min_7cf53 10 = .ok (.ireturn, 1) := by decide +kernel
theorem dL_law_0 : decode cL_law 0 = .ok (.new 7, 3) := by decide +kernel
theorem dL_law_3 : decode cL_law 3 = .ok (.dup, 1) := by decide +kernel
theorem dL_law_4 : decode cL_law 4 = .ok (.invokespecial 9, 3) := by decide +kernel
theorem dL_law_7 : decode cL_law 7 = .ok (.astore_n 1, 1) := by decide +kernel
theorem dL_law_8 : decode cL_law 8 = .ok (.new 10, 3) := by decide +kernel
theorem dL_law_11 : decode cL_law 11 = .ok (.dup, 1) := by decide +kernel
theorem dL_law_12 : decode cL_law 12 = .ok (.invokespecial 12, 3) := by decide +kernel
theorem dL_law_15 : decode cL_law 15 = .ok (.astore_n 2, 1) := by decide +kernel
theorem dL_law_16 : decode cL_law 16 = .ok (.iconst 0, 1) := by decide +kernel
theorem dL_law_17 : decode cL_law 17 = .ok (.istore_n 3, 1) := by decide +kernel
theorem dL_law_18 : decode cL_law 18 = .ok (.iload_n 3, 1) := by decide +kernel
theorem dL_law_19 : decode cL_law 19 = .ok (.aload_n 0, 1) := by decide +kernel
theorem dL_law_20 : decode cL_law 20 = .ok (.arraylength, 1) := by decide +kernel
theorem dL_law_21 : decode cL_law 21 = .ok (.bipush 7, 2) := by decide +kernel
theorem dL_law_23 : decode cL_law 23 = .ok (.isub, 1) := by decide +kernel
theorem dL_law_24 : decode cL_law 24 = .ok (.if_icmp .gt 1214, 3) := by decide +kernel
theorem dL_law_27 : decode cL_law 27 = .ok (.aload_n 0, 1) := by decide +kernel
theorem dL_law_28 : decode cL_law 28 = .ok (.iload_n 3, 1) := by decide +kernel
theorem dL_law_29 : decode cL_law 29 = .ok (.iaload, 1) := by decide +kernel
theorem dL_law_30 : decode cL_law 30 = .ok (.bipush 31, 2) := by decide +kernel
theorem dL_law_32 : decode cL_law 32 = .ok (.iand, 1) := by decide +kernel
theorem dL_law_33 : decode cL_law 33 = .ok (.tableswitch 1199 0 26 #[123, 146, 159, 192, 225, 258, 281, 324, 347, 360, 393, 416, 439, 472, 547, 580, 633, 676, 719, 742, 826, 889, 932, 1007, 1070, 1133, 1176], 123) := by decide +kernel
theorem dL_law_156 : decode cL_law 156 = .ok (.aload_n 1, 1) := by decide +kernel
theorem dL_law_157 : decode cL_law 157 = .ok (.aload_n 0, 1) := by decide +kernel
theorem dL_law_158 : decode cL_law 158 = .ok (.iload_n 3, 1) := by decide +kernel
theorem dL_law_159 : decode cL_law 159 = .ok (.iconst 1, 1) := by decide +kernel
theorem dL_law_160 : decode cL_law 160 = .ok (.iadd, 1) := by decide +kernel
theorem dL_law_161 : decode cL_law 161 = .ok (.iaload, 1) := by decide +kernel
theorem dL_law_162 : decode cL_law 162 = .ok (.invokevirtual 13, 3) := by decide +kernel
theorem dL_law_165 : decode cL_law 165 = .ok (.aload_n 2, 1) := by decide +kernel
theorem dL_law_166 : decode cL_law 166 = .ok (.aload_n 0, 1) := by decide +kernel
theorem dL_law_167 : decode cL_law 167 = .ok (.iload_n 3, 1) := by decide +kernel
theorem dL_law_168 : decode cL_law 168 = .ok (.iconst 1, 1) := by decide +kernel
theorem dL_law_169 : decode cL_law 169 = .ok (.iadd, 1) := by decide +kernel
theorem dL_law_170 : decode cL_law 170 = .ok (.iaload, 1) := by decide +kernel
theorem dL_law_171 : decode cL_law 171 = .ok (.invokevirtual 17, 3) := by decide +kernel
theorem dL_law_174 : decode cL_law 174 = .ok (.if_icmp .eq 1058, 3) := by decide +kernel
theorem dL_law_177 : decode cL_law 177 = .ok (.iconst 0, 1) := by decide +kernel
theorem dL_law_178 : decode cL_law 178 = .ok (.ireturn, 1) := by decide +kernel
theorem dL_law_179 : decode cL_law 179 = .ok (.aload_n 1, 1) := by decide +kernel
theorem dL_law_180 : decode cL_law 180 = .ok (.invokevirtual 18, 3) := by decide +kernel
theorem dL_law_183 : decode cL_law 183 = .ok (.aload_n 2, 1) := by decide +kernel
theorem dL_law_184 : decode cL_law 184 = .ok (.invokevirtual 22, 3) := by decide +kernel
theorem dL_law_187 : decode cL_law 187 = .ok (.if_icmp .eq 1045, 3) := by decide +kernel
theorem dL_law_190 : decode cL_law 190 = .ok (.iconst 0, 1) := by decide +kernel
theorem dL_law_191 : decode cL_law 191 = .ok (.ireturn, 1) := by decide +kernel
theorem dL_law_192 : decode cL_law 192 = .ok (.aload_n 1, 1) := by decide +kernel
theorem dL_law_193 : decode cL_law 193 = .ok (.aload_n 0, 1) := by decide +kernel
theorem dL_law_194 : decode cL_law 194 = .ok (.iload_n 3, 1) := by decide +kernel
theorem dL_law_195 : decode cL_law 195 = .ok (.iconst 1, 1) := by decide +kernel
theorem dL_law_196 : decode cL_law 196 = .ok (.iadd, 1) := by decide +kernel
theorem dL_law_197 : decode cL_law 197 = .ok (.iaload, 1) := by decide +kernel
theorem dL_law_198 : decode cL_law 198 = .ok (.aload_n 0, 1) := by decide +kernel
theorem dL_law_199 : decode cL_law 199 = .ok (.iload_n 3, 1) := by decide +kernel
theorem dL_law_200 : decode cL_law 200 = .ok (.iconst 2, 1) := by decide +kernel
theorem dL_law_201 : decode cL_law 201 = .ok (.iadd, 1) := by decide +kernel
theorem dL_law_202 : decode cL_law 202 = .ok (.iaload, 1) := by decide +kernel
theorem dL_law_203 : decode cL_law 203 = .ok (.invokevirtual 23, 3) := by decide +kernel
theorem dL_law_206 : decode cL_law 206 = .ok (.aload_n 2, 1) := by decide +kernel
theorem dL_law_207 : decode cL_law 207 = .ok (.aload_n 0, 1) := by decide +kernel
theorem dL_law_208 : decode cL_law 208 = .ok (.iload_n 3, 1) := by decide +kernel
theorem dL_law_209 : decode cL_law 209 = .ok (.iconst 1, 1) := by decide +kernel
theorem dL_law_210 : decode cL_law 210 = .ok (.iadd, 1) := by decide +kernel
theorem dL_law_211 : decode cL_law 211 = .ok (.iaload, 1) := by decide +kernel
theorem dL_law_212 : decode cL_law 212 = .ok (.aload_n 0, 1) := by decide +kernel
theorem dL_law_213 : decode cL_law 213 = .ok (.iload_n 3, 1) := by decide +kernel
theorem dL_law_214 : decode cL_law 214 = .ok (.iconst 2, 1) := by decide +kernel
theorem dL_law_215 : decode cL_law 215 = .ok (.iadd, 1) := by decide +kernel
theorem dL_law_216 : decode cL_law 216 = .ok (.iaload, 1) := by decide +kernel
theorem dL_law_217 : decode cL_law 217 = .ok (.invokevirtual 27, 3) := by decide +kernel
theorem dL_law_220 : decode cL_law 220 = .ok (.if_icmp .eq 1012, 3) := by decide +kernel
theorem dL_law_223 : decode cL_law 223 = .ok (.iconst 0, 1) := by decide +kernel
theorem dL_law_224 : decode cL_law 224 = .ok (.ireturn, 1) := by decide +kernel
theorem dL_law_225 : decode cL_law 225 = .ok (.aload_n 1, 1) := by decide +kernel
theorem dL_law_226 : decode cL_law 226 = .ok (.aload_n 0, 1) := by decide +kernel
theorem dL_law_227 : decode cL_law 227 = .ok (.iload_n 3, 1) := by decide +kernel
theorem dL_law_228 : decode cL_law 228 = .ok (.iconst 1, 1) := by decide +kernel
theorem dL_law_229 : decode cL_law 229 = .ok (.iadd, 1) := by decide +kernel
theorem dL_law_230 : decode cL_law 230 = .ok (.iaload, 1) := by decide +kernel
theorem dL_law_231 : decode cL_law 231 = .ok (.aload_n 0, 1) := by decide +kernel
theorem dL_law_232 : decode cL_law 232 = .ok (.iload_n 3, 1) := by decide +kernel
theorem dL_law_233 : decode cL_law 233 = .ok (.iconst 2, 1) := by decide +kernel
theorem dL_law_234 : decode cL_law 234 = .ok (.iadd, 1) := by decide +kernel
theorem dL_law_235 : decode cL_law 235 = .ok (.iaload, 1) := by decide +kernel
theorem dL_law_236 : decode cL_law 236 = .ok (.invokevirtual 28, 3) := by decide +kernel
theorem dL_law_239 : decode cL_law 239 = .ok (.aload_n 2, 1) := by decide +kernel
theorem dL_law_240 : decode cL_law 240 = .ok (.aload_n 0, 1) := by decide +kernel
theorem dL_law_241 : decode cL_law 241 = .ok (.iload_n 3, 1) := by decide +kernel
theorem dL_law_242 : decode cL_law 242 = .ok (.iconst 1, 1) := by decide +kernel
theorem dL_law_243 : decode cL_law 243 = .ok (.iadd, 1) := by decide +kernel
theorem dL_law_244 : decode cL_law 244 = .ok (.iaload, 1) := by decide +kernel
theorem dL_law_245 : decode cL_law 245 = .ok (.aload_n 0, 1) := by decide +kernel
theorem dL_law_246 : decode cL_law 246 = .ok (.iload_n 3, 1) := by decide +kernel
theorem dL_law_247 : decode cL_law 247 = .ok (.iconst 2, 1) := by decide +kernel
theorem dL_law_248 : decode cL_law 248 = .ok (.iadd, 1) := by decide +kernel
theorem dL_law_249 : decode cL_law 249 = .ok (.iaload, 1) := by decide +kernel
theorem dL_law_250 : decode cL_law 250 = .ok (.invokevirtual 31, 3) := by decide +kernel
theorem dL_law_253 : decode cL_law 253 = .ok (.if_icmp .eq 979, 3) := by decide +kernel
theorem dL_law_256 : decode cL_law 256 = .ok (.iconst 0, 1) := by decide +kernel
theorem dL_law_257 : decode cL_law 257 = .ok (.ireturn, 1) := by decide +kernel
theorem dL_law_258 : decode cL_law 258 = .ok (.aload_n 1, 1) := by decide +kernel
theorem dL_law_259 : decode cL_law 259 = .ok (.aload_n 0, 1) := by decide +kernel
theorem dL_law_260 : decode cL_law 260 = .ok (.iload_n 3, 1) := by decide +kernel
theorem dL_law_261 : decode cL_law 261 = .ok (.iconst 1, 1) := by decide +kernel
theorem dL_law_262 : decode cL_law 262 = .ok (.iadd, 1) := by decide +kernel
theorem dL_law_263 : decode cL_law 263 = .ok (.iaload, 1) := by decide +kernel
theorem dL_law_264 : decode cL_law 264 = .ok (.aload_n 0, 1) := by decide +kernel
theorem dL_law_265 : decode cL_law 265 = .ok (.iload_n 3, 1) := by decide +kernel
theorem dL_law_266 : decode cL_law 266 = .ok (.iconst 2, 1) := by decide +kernel
theorem dL_law_267 : decode cL_law 267 = .ok (.iadd, 1) := by decide +kernel
theorem dL_law_268 : decode cL_law 268 = .ok (.iaload, 1) := by decide +kernel
theorem dL_law_269 : decode cL_law 269 = .ok (.invokevirtual 32, 3) := by decide +kernel
theorem dL_law_272 : decode cL_law 272 = .ok (.aload_n 2, 1) := by decide +kernel
theorem dL_law_273 : decode cL_law 273 = .ok (.aload_n 0, 1) := by decide +kernel
theorem dL_law_274 : decode cL_law 274 = .ok (.iload_n 3, 1) := by decide +kernel
theorem dL_law_275 : decode cL_law 275 = .ok (.iconst 1, 1) := by decide +kernel
theorem dL_law_276 : decode cL_law 276 = .ok (.iadd, 1) := by decide +kernel
theorem dL_law_277 : decode cL_law 277 = .ok (.iaload, 1) := by decide +kernel
theorem dL_law_278 : decode cL_law 278 = .ok (.aload_n 0, 1) := by decide +kernel
theorem dL_law_279 : decode cL_law 279 = .ok (.iload_n 3, 1) := by decide +kernel
theorem dL_law_280 : decode cL_law 280 = .ok (.iconst 2, 1) := by decide +kernel
theorem dL_law_281 : decode cL_law 281 = .ok (.iadd, 1) := by decide +kernel
theorem dL_law_282 : decode cL_law 282 = .ok (.iaload, 1) := by decide +kernel
theorem dL_law_283 : decode cL_law 283 = .ok (.invokevirtual 35, 3) := by decide +kernel
theorem dL_law_286 : decode cL_law 286 = .ok (.if_icmp .eq 946, 3) := by decide +kernel
theorem dL_law_289 : decode cL_law 289 = .ok (.iconst 0, 1) := by decide +kernel
theorem dL_law_290 : decode cL_law 290 = .ok (.ireturn, 1) := by decide +kernel
theorem dL_law_291 : decode cL_law 291 = .ok (.aload_n 1, 1) := by decide +kernel
theorem dL_law_292 : decode cL_law 292 = .ok (.aload_n 0, 1) := by decide +kernel
theorem dL_law_293 : decode cL_law 293 = .ok (.iload_n 3, 1) := by decide +kernel
theorem dL_law_294 : decode cL_law 294 = .ok (.iconst 1, 1) := by decide +kernel
theorem dL_law_295 : decode cL_law 295 = .ok (.iadd, 1) := by decide +kernel
theorem dL_law_296 : decode cL_law 296 = .ok (.iaload, 1) := by decide +kernel
theorem dL_law_297 : decode cL_law 297 = .ok (.invokevirtual 36, 3) := by decide +kernel
theorem dL_law_300 : decode cL_law 300 = .ok (.aload_n 2, 1) := by decide +kernel
theorem dL_law_301 : decode cL_law 301 = .ok (.aload_n 0, 1) := by decide +kernel
theorem dL_law_302 : decode cL_law 302 = .ok (.iload_n 3, 1) := by decide +kernel
theorem dL_law_303 : decode cL_law 303 = .ok (.iconst 1, 1) := by decide +kernel
theorem dL_law_304 : decode cL_law 304 = .ok (.iadd, 1) := by decide +kernel
theorem dL_law_305 : decode cL_law 305 = .ok (.iaload, 1) := by decide +kernel
theorem dL_law_306 : decode cL_law 306 = .ok (.invokevirtual 39, 3) := by decide +kernel
theorem dL_law_309 : decode cL_law 309 = .ok (.if_icmp .eq 923, 3) := by decide +kernel
theorem dL_law_312 : decode cL_law 312 = .ok (.iconst 0, 1) := by decide +kernel
theorem dL_law_313 : decode cL_law 313 = .ok (.ireturn, 1) := by decide +kernel
theorem dL_law_314 : decode cL_law 314 = .ok (.aload_n 1, 1) := by decide +kernel
theorem dL_law_315 : decode cL_law 315 = .ok (.aload_n 0, 1) := by decide +kernel
theorem dL_law_316 : decode cL_law 316 = .ok (.iload_n 3, 1) := by decide +kernel
theorem dL_law_317 : decode cL_law 317 = .ok (.iconst 1, 1) := by decide +kernel
theorem dL_law_318 : decode cL_law 318 = .ok (.iadd, 1) := by decide +kernel
theorem dL_law_319 : decode cL_law 319 = .ok (.iaload, 1) := by decide +kernel
theorem dL_law_320 : decode cL_law 320 = .ok (.aload_n 0, 1) := by decide +kernel
theorem dL_law_321 : decode cL_law 321 = .ok (.iload_n 3, 1) := by decide +kernel
theorem dL_law_322 : decode cL_law 322 = .ok (.iconst 2, 1) := by decide +kernel
theorem dL_law_323 : decode cL_law 323 = .ok (.iadd, 1) := by decide +kernel
theorem dL_law_324 : decode cL_law 324 = .ok (.iaload, 1) := by decide +kernel
theorem dL_law_325 : decode cL_law 325 = .ok (.aload_n 0, 1) := by decide +kernel
theorem dL_law_326 : decode cL_law 326 = .ok (.iload_n 3, 1) := by decide +kernel
theorem dL_law_327 : decode cL_law 327 = .ok (.iconst 3, 1) := by decide +kernel
theorem dL_law_328 : decode cL_law 328 = .ok (.iadd, 1) := by decide +kernel
theorem dL_law_329 : decode cL_law 329 = .ok (.iaload, 1) := by decide +kernel
theorem dL_law_330 : decode cL_law 330 = .ok (.invokevirtual 40, 3) := by decide +kernel
theorem dL_law_333 : decode cL_law 333 = .ok (.aload_n 2, 1) := by decide +kernel
theorem dL_law_334 : decode cL_law 334 = .ok (.aload_n 0, 1) := by decide +kernel
theorem dL_law_335 : decode cL_law 335 = .ok (.iload_n 3, 1) := by decide +kernel
theorem dL_law_336 : decode cL_law 336 = .ok (.iconst 1, 1) := by decide +kernel
theorem dL_law_337 : decode cL_law 337 = .ok (.iadd, 1) := by decide +kernel
theorem dL_law_338 : decode cL_law 338 = .ok (.iaload, 1) := by decide +kernel
theorem dL_law_339 : decode cL_law 339 = .ok (.aload_n 0, 1) := by decide +kernel
theorem dL_law_340 : decode cL_law 340 = .ok (.iload_n 3, 1) := by decide +kernel
theorem dL_law_341 : decode cL_law 341 = .ok (.iconst 2, 1) := by decide +kernel
theorem dL_law_342 : decode cL_law 342 = .ok (.iadd, 1) := by decide +kernel
theorem dL_law_343 : decode cL_law 343 = .ok (.iaload, 1) := by decide +kernel
theorem dL_law_344 : decode cL_law 344 = .ok (.aload_n 0, 1) := by decide +kernel
theorem dL_law_345 : decode cL_law 345 = .ok (.iload_n 3, 1) := by decide +kernel
theorem dL_law_346 : decode cL_law 346 = .ok (.iconst 3, 1) := by decide +kernel
theorem dL_law_347 : decode cL_law 347 = .ok (.iadd, 1) := by decide +kernel
theorem dL_law_348 : decode cL_law 348 = .ok (.iaload, 1) := by decide +kernel
theorem dL_law_349 : decode cL_law 349 = .ok (.invokevirtual 44, 3) := by decide +kernel
theorem dL_law_352 : decode cL_law 352 = .ok (.if_icmp .eq 880, 3) := by decide +kernel
theorem dL_law_355 : decode cL_law 355 = .ok (.iconst 0, 1) := by decide +kernel
theorem dL_law_356 : decode cL_law 356 = .ok (.ireturn, 1) := by decide +kernel
theorem dL_law_357 : decode cL_law 357 = .ok (.aload_n 1, 1) := by decide +kernel
theorem dL_law_358 : decode cL_law 358 = .ok (.aload_n 0, 1) := by decide +kernel
theorem dL_law_359 : decode cL_law 359 = .ok (.iload_n 3, 1) := by decide +kernel
theorem dL_law_360 : decode cL_law 360 = .ok (.iconst 1, 1) := by decide +kernel
theorem dL_law_361 : decode cL_law 361 = .ok (.iadd, 1) := by decide +kernel
theorem dL_law_362 : decode cL_law 362 = .ok (.iaload, 1) := by decide +kernel
theorem dL_law_363 : decode cL_law 363 = .ok (.invokevirtual 45, 3) := by decide +kernel
theorem dL_law_366 : decode cL_law 366 = .ok (.aload_n 2, 1) := by decide +kernel
theorem dL_law_367 : decode cL_law 367 = .ok (.aload_n 0, 1) := by decide +kernel
theorem dL_law_368 : decode cL_law 368 = .ok (.iload_n 3, 1) := by decide +kernel
theorem dL_law_369 : decode cL_law 369 = .ok (.iconst 1, 1) := by decide +kernel
theorem dL_law_370 : decode cL_law 370 = .ok (.iadd, 1) := by decide +kernel
theorem dL_law_371 : decode cL_law 371 = .ok (.iaload, 1) := by decide +kernel
theorem dL_law_372 : decode cL_law 372 = .ok (.invokevirtual 48, 3) := by decide +kernel
theorem dL_law_375 : decode cL_law 375 = .ok (.if_icmp .eq 857, 3) := by decide +kernel
theorem dL_law_378 : decode cL_law 378 = .ok (.iconst 0, 1) := by decide +kernel
theorem dL_law_379 : decode cL_law 379 = .ok (.ireturn, 1) := by decide +kernel
theorem dL_law_380 : decode cL_law 380 = .ok (.aload_n 1, 1) := by decide +kernel
theorem dL_law_381 : decode cL_law 381 = .ok (.invokevirtual 49, 3) := by decide +kernel
theorem dL_law_384 : decode cL_law 384 = .ok (.aload_n 2, 1) := by decide +kernel
theorem dL_law_385 : decode cL_law 385 = .ok (.invokevirtual 52, 3) := by decide +kernel
theorem dL_law_388 : decode cL_law 388 = .ok (.if_icmp .eq 844, 3) := by decide +kernel
theorem dL_law_391 : decode cL_law 391 = .ok (.iconst 0, 1) := by decide +kernel
theorem dL_law_392 : decode cL_law 392 = .ok (.ireturn, 1) := by decide +kernel
theorem dL_law_393 : decode cL_law 393 = .ok (.aload_n 1, 1) := by decide +kernel
theorem dL_law_394 : decode cL_law 394 = .ok (.aload_n 0, 1) := by decide +kernel
theorem dL_law_395 : decode cL_law 395 = .ok (.iload_n 3, 1) := by decide +kernel
theorem dL_law_396 : decode cL_law 396 = .ok (.iconst 1, 1) := by decide +kernel
theorem dL_law_397 : decode cL_law 397 = .ok (.iadd, 1) := by decide +kernel
theorem dL_law_398 : decode cL_law 398 = .ok (.iaload, 1) := by decide +kernel
theorem dL_law_399 : decode cL_law 399 = .ok (.aload_n 0, 1) := by decide +kernel
theorem dL_law_400 : decode cL_law 400 = .ok (.iload_n 3, 1) := by decide +kernel
theorem dL_law_401 : decode cL_law 401 = .ok (.iconst 2, 1) := by decide +kernel
theorem dL_law_402 : decode cL_law 402 = .ok (.iadd, 1) := by decide +kernel
theorem dL_law_403 : decode cL_law 403 = .ok (.iaload, 1) := by decide +kernel
theorem dL_law_404 : decode cL_law 404 = .ok (.invokevirtual 53, 3) := by decide +kernel
theorem dL_law_407 : decode cL_law 407 = .ok (.aload_n 2, 1) := by decide +kernel
theorem dL_law_408 : decode cL_law 408 = .ok (.aload_n 0, 1) := by decide +kernel
theorem dL_law_409 : decode cL_law 409 = .ok (.iload_n 3, 1) := by decide +kernel
theorem dL_law_410 : decode cL_law 410 = .ok (.iconst 1, 1) := by decide +kernel
theorem dL_law_411 : decode cL_law 411 = .ok (.iadd, 1) := by decide +kernel
theorem dL_law_412 : decode cL_law 412 = .ok (.iaload, 1) := by decide +kernel
theorem dL_law_413 : decode cL_law 413 = .ok (.aload_n 0, 1) := by decide +kernel
theorem dL_law_414 : decode cL_law 414 = .ok (.iload_n 3, 1) := by decide +kernel
theorem dL_law_415 : decode cL_law 415 = .ok (.iconst 2, 1) := by decide +kernel
theorem dL_law_416 : decode cL_law 416 = .ok (.iadd, 1) := by decide +kernel
theorem dL_law_417 : decode cL_law 417 = .ok (.iaload, 1) := by decide +kernel
theorem dL_law_418 : decode cL_law 418 = .ok (.invokevirtual 56, 3) := by decide +kernel
theorem dL_law_421 : decode cL_law 421 = .ok (.if_icmp .eq 811, 3) := by decide +kernel
theorem dL_law_424 : decode cL_law 424 = .ok (.iconst 0, 1) := by decide +kernel
theorem dL_law_425 : decode cL_law 425 = .ok (.ireturn, 1) := by decide +kernel
theorem dL_law_426 : decode cL_law 426 = .ok (.aload_n 1, 1) := by decide +kernel
theorem dL_law_427 : decode cL_law 427 = .ok (.aload_n 0, 1) := by decide +kernel
theorem dL_law_428 : decode cL_law 428 = .ok (.iload_n 3, 1) := by decide +kernel
theorem dL_law_429 : decode cL_law 429 = .ok (.iconst 1, 1) := by decide +kernel
theorem dL_law_430 : decode cL_law 430 = .ok (.iadd, 1) := by decide +kernel
theorem dL_law_431 : decode cL_law 431 = .ok (.iaload, 1) := by decide +kernel
theorem dL_law_432 : decode cL_law 432 = .ok (.invokevirtual 57, 3) := by decide +kernel
theorem dL_law_435 : decode cL_law 435 = .ok (.aload_n 2, 1) := by decide +kernel
theorem dL_law_436 : decode cL_law 436 = .ok (.aload_n 0, 1) := by decide +kernel
theorem dL_law_437 : decode cL_law 437 = .ok (.iload_n 3, 1) := by decide +kernel
theorem dL_law_438 : decode cL_law 438 = .ok (.iconst 1, 1) := by decide +kernel
theorem dL_law_439 : decode cL_law 439 = .ok (.iadd, 1) := by decide +kernel
theorem dL_law_440 : decode cL_law 440 = .ok (.iaload, 1) := by decide +kernel
theorem dL_law_441 : decode cL_law 441 = .ok (.invokevirtual 60, 3) := by decide +kernel
theorem dL_law_444 : decode cL_law 444 = .ok (.if_icmp .eq 788, 3) := by decide +kernel
theorem dL_law_447 : decode cL_law 447 = .ok (.iconst 0, 1) := by decide +kernel
theorem dL_law_448 : decode cL_law 448 = .ok (.ireturn, 1) := by decide +kernel
theorem dL_law_449 : decode cL_law 449 = .ok (.aload_n 1, 1) := by decide +kernel
theorem dL_law_450 : decode cL_law 450 = .ok (.aload_n 0, 1) := by decide +kernel
theorem dL_law_451 : decode cL_law 451 = .ok (.iload_n 3, 1) := by decide +kernel
theorem dL_law_452 : decode cL_law 452 = .ok (.iconst 1, 1) := by decide +kernel
theorem dL_law_453 : decode cL_law 453 = .ok (.iadd, 1) := by decide +kernel
theorem dL_law_454 : decode cL_law 454 = .ok (.iaload, 1) := by decide +kernel
theorem dL_law_455 : decode cL_law 455 = .ok (.invokevirtual 61, 3) := by decide +kernel
theorem dL_law_458 : decode cL_law 458 = .ok (.aload_n 2, 1) := by decide +kernel
theorem dL_law_459 : decode cL_law 459 = .ok (.aload_n 0, 1) := by decide +kernel
theorem dL_law_460 : decode cL_law 460 = .ok (.iload_n 3, 1) := by decide +kernel
theorem dL_law_461 : decode cL_law 461 = .ok (.iconst 1, 1) := by decide +kernel
theorem dL_law_462 : decode cL_law 462 = .ok (.iadd, 1) := by decide +kernel
theorem dL_law_463 : decode cL_law 463 = .ok (.iaload, 1) := by decide +kernel
theorem dL_law_464 : decode cL_law 464 = .ok (.invokevirtual 64, 3) := by decide +kernel
theorem dL_law_467 : decode cL_law 467 = .ok (.if_icmp .eq 765, 3) := by decide +kernel
theorem dL_law_470 : decode cL_law 470 = .ok (.iconst 0, 1) := by decide +kernel
theorem dL_law_471 : decode cL_law 471 = .ok (.ireturn, 1) := by decide +kernel
theorem dL_law_472 : decode cL_law 472 = .ok (.aload_n 1, 1) := by decide +kernel
theorem dL_law_473 : decode cL_law 473 = .ok (.aload_n 0, 1) := by decide +kernel
theorem dL_law_474 : decode cL_law 474 = .ok (.iload_n 3, 1) := by decide +kernel
theorem dL_law_475 : decode cL_law 475 = .ok (.iconst 1, 1) := by decide +kernel
theorem dL_law_476 : decode cL_law 476 = .ok (.iadd, 1) := by decide +kernel
theorem dL_law_477 : decode cL_law 477 = .ok (.iaload, 1) := by decide +kernel
theorem dL_law_478 : decode cL_law 478 = .ok (.aload_n 0, 1) := by decide +kernel
theorem dL_law_479 : decode cL_law 479 = .ok (.iload_n 3, 1) := by decide +kernel
theorem dL_law_480 : decode cL_law 480 = .ok (.iconst 2, 1) := by decide +kernel
theorem dL_law_481 : decode cL_law 481 = .ok (.iadd, 1) := by decide +kernel
theorem dL_law_482 : decode cL_law 482 = .ok (.iaload, 1) := by decide +kernel
theorem dL_law_483 : decode cL_law 483 = .ok (.invokevirtual 65, 3) := by decide +kernel
theorem dL_law_486 : decode cL_law 486 = .ok (.aload_n 2, 1) := by decide +kernel
theorem dL_law_487 : decode cL_law 487 = .ok (.aload_n 0, 1) := by decide +kernel
theorem dL_law_488 : decode cL_law 488 = .ok (.iload_n 3, 1) := by decide +kernel
theorem dL_law_489 : decode cL_law 489 = .ok (.iconst 1, 1) := by decide +kernel
theorem dL_law_490 : decode cL_law 490 = .ok (.iadd, 1) := by decide +kernel
theorem dL_law_491 : decode cL_law 491 = .ok (.iaload, 1) := by decide +kernel
theorem dL_law_492 : decode cL_law 492 = .ok (.aload_n 0, 1) := by decide +kernel
theorem dL_law_493 : decode cL_law 493 = .ok (.iload_n 3, 1) := by decide +kernel
theorem dL_law_494 : decode cL_law 494 = .ok (.iconst 2, 1) := by decide +kernel
theorem dL_law_495 : decode cL_law 495 = .ok (.iadd, 1) := by decide +kernel
theorem dL_law_496 : decode cL_law 496 = .ok (.iaload, 1) := by decide +kernel
theorem dL_law_497 : decode cL_law 497 = .ok (.invokevirtual 68, 3) := by decide +kernel
theorem dL_law_500 : decode cL_law 500 = .ok (.if_icmp .eq 732, 3) := by decide +kernel
theorem dL_law_503 : decode cL_law 503 = .ok (.iconst 0, 1) := by decide +kernel
theorem dL_law_504 : decode cL_law 504 = .ok (.ireturn, 1) := by decide +kernel
theorem dL_law_505 : decode cL_law 505 = .ok (.aload_n 1, 1) := by decide +kernel
theorem dL_law_506 : decode cL_law 506 = .ok (.aload_n 0, 1) := by decide +kernel
theorem dL_law_507 : decode cL_law 507 = .ok (.iload_n 3, 1) := by decide +kernel
theorem dL_law_508 : decode cL_law 508 = .ok (.iconst 1, 1) := by decide +kernel
theorem dL_law_509 : decode cL_law 509 = .ok (.iadd, 1) := by decide +kernel
theorem dL_law_510 : decode cL_law 510 = .ok (.iaload, 1) := by decide +kernel
theorem dL_law_511 : decode cL_law 511 = .ok (.aload_n 0, 1) := by decide +kernel
theorem dL_law_512 : decode cL_law 512 = .ok (.iload_n 3, 1) := by decide +kernel
theorem dL_law_513 : decode cL_law 513 = .ok (.iconst 2, 1) := by decide +kernel
theorem dL_law_514 : decode cL_law 514 = .ok (.iadd, 1) := by decide +kernel
theorem dL_law_515 : decode cL_law 515 = .ok (.iaload, 1) := by decide +kernel
theorem dL_law_516 : decode cL_law 516 = .ok (.aload_n 0, 1) := by decide +kernel
theorem dL_law_517 : decode cL_law 517 = .ok (.iload_n 3, 1) := by decide +kernel
theorem dL_law_518 : decode cL_law 518 = .ok (.iconst 3, 1) := by decide +kernel
theorem dL_law_519 : decode cL_law 519 = .ok (.iadd, 1) := by decide +kernel
theorem dL_law_520 : decode cL_law 520 = .ok (.iaload, 1) := by decide +kernel
theorem dL_law_521 : decode cL_law 521 = .ok (.aload_n 0, 1) := by decide +kernel
theorem dL_law_522 : decode cL_law 522 = .ok (.iload_n 3, 1) := by decide +kernel
theorem dL_law_523 : decode cL_law 523 = .ok (.iconst 4, 1) := by decide +kernel
theorem dL_law_524 : decode cL_law 524 = .ok (.iadd, 1) := by decide +kernel
theorem dL_law_525 : decode cL_law 525 = .ok (.iaload, 1) := by decide +kernel
theorem dL_law_526 : decode cL_law 526 = .ok (.aload_n 0, 1) := by decide +kernel
theorem dL_law_527 : decode cL_law 527 = .ok (.iload_n 3, 1) := by decide +kernel
theorem dL_law_528 : decode cL_law 528 = .ok (.iconst 5, 1) := by decide +kernel
theorem dL_law_529 : decode cL_law 529 = .ok (.iadd, 1) := by decide +kernel
theorem dL_law_530 : decode cL_law 530 = .ok (.iaload, 1) := by decide +kernel
theorem dL_law_531 : decode cL_law 531 = .ok (.aload_n 0, 1) := by decide +kernel
theorem dL_law_532 : decode cL_law 532 = .ok (.iload_n 3, 1) := by decide +kernel
theorem dL_law_533 : decode cL_law 533 = .ok (.bipush 6, 2) := by decide +kernel
theorem dL_law_535 : decode cL_law 535 = .ok (.iadd, 1) := by decide +kernel
theorem dL_law_536 : decode cL_law 536 = .ok (.iaload, 1) := by decide +kernel
theorem dL_law_537 : decode cL_law 537 = .ok (.invokevirtual 69, 3) := by decide +kernel
theorem dL_law_540 : decode cL_law 540 = .ok (.aload_n 2, 1) := by decide +kernel
theorem dL_law_541 : decode cL_law 541 = .ok (.aload_n 0, 1) := by decide +kernel
theorem dL_law_542 : decode cL_law 542 = .ok (.iload_n 3, 1) := by decide +kernel
theorem dL_law_543 : decode cL_law 543 = .ok (.iconst 1, 1) := by decide +kernel
theorem dL_law_544 : decode cL_law 544 = .ok (.iadd, 1) := by decide +kernel
theorem dL_law_545 : decode cL_law 545 = .ok (.iaload, 1) := by decide +kernel
theorem dL_law_546 : decode cL_law 546 = .ok (.aload_n 0, 1) := by decide +kernel
theorem dL_law_547 : decode cL_law 547 = .ok (.iload_n 3, 1) := by decide +kernel
theorem dL_law_548 : decode cL_law 548 = .ok (.iconst 2, 1) := by decide +kernel
theorem dL_law_549 : decode cL_law 549 = .ok (.iadd, 1) := by decide +kernel
theorem dL_law_550 : decode cL_law 550 = .ok (.iaload, 1) := by decide +kernel
theorem dL_law_551 : decode cL_law 551 = .ok (.aload_n 0, 1) := by decide +kernel
theorem dL_law_552 : decode cL_law 552 = .ok (.iload_n 3, 1) := by decide +kernel
theorem dL_law_553 : decode cL_law 553 = .ok (.iconst 3, 1) := by decide +kernel
theorem dL_law_554 : decode cL_law 554 = .ok (.iadd, 1) := by decide +kernel
theorem dL_law_555 : decode cL_law 555 = .ok (.iaload, 1) := by decide +kernel
theorem dL_law_556 : decode cL_law 556 = .ok (.aload_n 0, 1) := by decide +kernel
theorem dL_law_557 : decode cL_law 557 = .ok (.iload_n 3, 1) := by decide +kernel
theorem dL_law_558 : decode cL_law 558 = .ok (.iconst 4, 1) := by decide +kernel
theorem dL_law_559 : decode cL_law 559 = .ok (.iadd, 1) := by decide +kernel
theorem dL_law_560 : decode cL_law 560 = .ok (.iaload, 1) := by decide +kernel
theorem dL_law_561 : decode cL_law 561 = .ok (.aload_n 0, 1) := by decide +kernel
theorem dL_law_562 : decode cL_law 562 = .ok (.iload_n 3, 1) := by decide +kernel
theorem dL_law_563 : decode cL_law 563 = .ok (.iconst 5, 1) := by decide +kernel
theorem dL_law_564 : decode cL_law 564 = .ok (.iadd, 1) := by decide +kernel
theorem dL_law_565 : decode cL_law 565 = .ok (.iaload, 1) := by decide +kernel
theorem dL_law_566 : decode cL_law 566 = .ok (.aload_n 0, 1) := by decide +kernel
theorem dL_law_567 : decode cL_law 567 = .ok (.iload_n 3, 1) := by decide +kernel
theorem dL_law_568 : decode cL_law 568 = .ok (.bipush 6, 2) := by decide +kernel
theorem dL_law_570 : decode cL_law 570 = .ok (.iadd, 1) := by decide +kernel
theorem dL_law_571 : decode cL_law 571 = .ok (.iaload, 1) := by decide +kernel
theorem dL_law_572 : decode cL_law 572 = .ok (.invokevirtual 73, 3) := by decide +kernel
theorem dL_law_575 : decode cL_law 575 = .ok (.if_icmp .eq 657, 3) := by decide +kernel
theorem dL_law_578 : decode cL_law 578 = .ok (.iconst 0, 1) := by decide +kernel
theorem dL_law_579 : decode cL_law 579 = .ok (.ireturn, 1) := by decide +kernel
theorem dL_law_580 : decode cL_law 580 = .ok (.aload_n 1, 1) := by decide +kernel
theorem dL_law_581 : decode cL_law 581 = .ok (.aload_n 0, 1) := by decide +kernel
theorem dL_law_582 : decode cL_law 582 = .ok (.iload_n 3, 1) := by decide +kernel
theorem dL_law_583 : decode cL_law 583 = .ok (.iconst 1, 1) := by decide +kernel
theorem dL_law_584 : decode cL_law 584 = .ok (.iadd, 1) := by decide +kernel
theorem dL_law_585 : decode cL_law 585 = .ok (.iaload, 1) := by decide +kernel
theorem dL_law_586 : decode cL_law 586 = .ok (.aload_n 0, 1) := by decide +kernel
theorem dL_law_587 : decode cL_law 587 = .ok (.iload_n 3, 1) := by decide +kernel
theorem dL_law_588 : decode cL_law 588 = .ok (.iconst 2, 1) := by decide +kernel
theorem dL_law_589 : decode cL_law 589 = .ok (.iadd, 1) := by decide +kernel
theorem dL_law_590 : decode cL_law 590 = .ok (.iaload, 1) := by decide +kernel
theorem dL_law_591 : decode cL_law 591 = .ok (.invokevirtual 74, 3) := by decide +kernel
theorem dL_law_594 : decode cL_law 594 = .ok (.aload_n 2, 1) := by decide +kernel
theorem dL_law_595 : decode cL_law 595 = .ok (.aload_n 0, 1) := by decide +kernel
theorem dL_law_596 : decode cL_law 596 = .ok (.iload_n 3, 1) := by decide +kernel
theorem dL_law_597 : decode cL_law 597 = .ok (.iconst 1, 1) := by decide +kernel
theorem dL_law_598 : decode cL_law 598 = .ok (.iadd, 1) := by decide +kernel
theorem dL_law_599 : decode cL_law 599 = .ok (.iaload, 1) := by decide +kernel
theorem dL_law_600 : decode cL_law 600 = .ok (.aload_n 0, 1) := by decide +kernel
theorem dL_law_601 : decode cL_law 601 = .ok (.iload_n 3, 1) := by decide +kernel
theorem dL_law_602 : decode cL_law 602 = .ok (.iconst 2, 1) := by decide +kernel
theorem dL_law_603 : decode cL_law 603 = .ok (.iadd, 1) := by decide +kernel
theorem dL_law_604 : decode cL_law 604 = .ok (.iaload, 1) := by decide +kernel
theorem dL_law_605 : decode cL_law 605 = .ok (.invokevirtual 77, 3) := by decide +kernel
theorem dL_law_608 : decode cL_law 608 = .ok (.if_icmp .eq 624, 3) := by decide +kernel
theorem dL_law_611 : decode cL_law 611 = .ok (.iconst 0, 1) := by decide +kernel
theorem dL_law_612 : decode cL_law 612 = .ok (.ireturn, 1) := by decide +kernel
theorem dL_law_613 : decode cL_law 613 = .ok (.aload_n 1, 1) := by decide +kernel
theorem dL_law_614 : decode cL_law 614 = .ok (.aload_n 0, 1) := by decide +kernel
theorem dL_law_615 : decode cL_law 615 = .ok (.iload_n 3, 1) := by decide +kernel
theorem dL_law_616 : decode cL_law 616 = .ok (.iconst 1, 1) := by decide +kernel
theorem dL_law_617 : decode cL_law 617 = .ok (.iadd, 1) := by decide +kernel
theorem dL_law_618 : decode cL_law 618 = .ok (.iaload, 1) := by decide +kernel
theorem dL_law_619 : decode cL_law 619 = .ok (.aload_n 0, 1) := by decide +kernel
theorem dL_law_620 : decode cL_law 620 = .ok (.iload_n 3, 1) := by decide +kernel
theorem dL_law_621 : decode cL_law 621 = .ok (.iconst 2, 1) := by decide +kernel
theorem dL_law_622 : decode cL_law 622 = .ok (.iadd, 1) := by decide +kernel
theorem dL_law_623 : decode cL_law 623 = .ok (.iaload, 1) := by decide +kernel
theorem dL_law_624 : decode cL_law 624 = .ok (.aload_n 0, 1) := by decide +kernel
theorem dL_law_625 : decode cL_law 625 = .ok (.iload_n 3, 1) := by decide +kernel
theorem dL_law_626 : decode cL_law 626 = .ok (.iconst 3, 1) := by decide +kernel
theorem dL_law_627 : decode cL_law 627 = .ok (.iadd, 1) := by decide +kernel
theorem dL_law_628 : decode cL_law 628 = .ok (.iaload, 1) := by decide +kernel
theorem dL_law_629 : decode cL_law 629 = .ok (.aload_n 0, 1) := by decide +kernel
theorem dL_law_630 : decode cL_law 630 = .ok (.iload_n 3, 1) := by decide +kernel
theorem dL_law_631 : decode cL_law 631 = .ok (.iconst 4, 1) := by decide +kernel
theorem dL_law_632 : decode cL_law 632 = .ok (.iadd, 1) := by decide +kernel
theorem dL_law_633 : decode cL_law 633 = .ok (.iaload, 1) := by decide +kernel
theorem dL_law_634 : decode cL_law 634 = .ok (.invokevirtual 78, 3) := by decide +kernel
theorem dL_law_637 : decode cL_law 637 = .ok (.aload_n 2, 1) := by decide +kernel
theorem dL_law_638 : decode cL_law 638 = .ok (.aload_n 0, 1) := by decide +kernel
theorem dL_law_639 : decode cL_law 639 = .ok (.iload_n 3, 1) := by decide +kernel
theorem dL_law_640 : decode cL_law 640 = .ok (.iconst 1, 1) := by decide +kernel
theorem dL_law_641 : decode cL_law 641 = .ok (.iadd, 1) := by decide +kernel
theorem dL_law_642 : decode cL_law 642 = .ok (.iaload, 1) := by decide +kernel
theorem dL_law_643 : decode cL_law 643 = .ok (.aload_n 0, 1) := by decide +kernel
theorem dL_law_644 : decode cL_law 644 = .ok (.iload_n 3, 1) := by decide +kernel
theorem dL_law_645 : decode cL_law 645 = .ok (.iconst 2, 1) := by decide +kernel
theorem dL_law_646 : decode cL_law 646 = .ok (.iadd, 1) := by decide +kernel
theorem dL_law_647 : decode cL_law 647 = .ok (.iaload, 1) := by decide +kernel
theorem dL_law_648 : decode cL_law 648 = .ok (.aload_n 0, 1) := by decide +kernel
theorem dL_law_649 : decode cL_law 649 = .ok (.iload_n 3, 1) := by decide +kernel
theorem dL_law_650 : decode cL_law 650 = .ok (.iconst 3, 1) := by decide +kernel
theorem dL_law_651 : decode cL_law 651 = .ok (.iadd, 1) := by decide +kernel
theorem dL_law_652 : decode cL_law 652 = .ok (.iaload, 1) := by decide +kernel
theorem dL_law_653 : decode cL_law 653 = .ok (.aload_n 0, 1) := by decide +kernel
theorem dL_law_654 : decode cL_law 654 = .ok (.iload_n 3, 1) := by decide +kernel
theorem dL_law_655 : decode cL_law 655 = .ok (.iconst 4, 1) := by decide +kernel
theorem dL_law_656 : decode cL_law 656 = .ok (.iadd, 1) := by decide +kernel
theorem dL_law_657 : decode cL_law 657 = .ok (.iaload, 1) := by decide +kernel
theorem dL_law_658 : decode cL_law 658 = .ok (.invokevirtual 82, 3) := by decide +kernel
theorem dL_law_661 : decode cL_law 661 = .ok (.if_icmp .eq 571, 3) := by decide +kernel
theorem dL_law_664 : decode cL_law 664 = .ok (.iconst 0, 1) := by decide +kernel
theorem dL_law_665 : decode cL_law 665 = .ok (.ireturn, 1) := by decide +kernel
theorem dL_law_666 : decode cL_law 666 = .ok (.aload_n 1, 1) := by decide +kernel
theorem dL_law_667 : decode cL_law 667 = .ok (.aload_n 0, 1) := by decide +kernel
theorem dL_law_668 : decode cL_law 668 = .ok (.iload_n 3, 1) := by decide +kernel
theorem dL_law_669 : decode cL_law 669 = .ok (.iconst 1, 1) := by decide +kernel
theorem dL_law_670 : decode cL_law 670 = .ok (.iadd, 1) := by decide +kernel
theorem dL_law_671 : decode cL_law 671 = .ok (.iaload, 1) := by decide +kernel
theorem dL_law_672 : decode cL_law 672 = .ok (.aload_n 0, 1) := by decide +kernel
theorem dL_law_673 : decode cL_law 673 = .ok (.iload_n 3, 1) := by decide +kernel
theorem dL_law_674 : decode cL_law 674 = .ok (.iconst 2, 1) := by decide +kernel
theorem dL_law_675 : decode cL_law 675 = .ok (.iadd, 1) := by decide +kernel
theorem dL_law_676 : decode cL_law 676 = .ok (.iaload, 1) := by decide +kernel
theorem dL_law_677 : decode cL_law 677 = .ok (.aload_n 0, 1) := by decide +kernel
theorem dL_law_678 : decode cL_law 678 = .ok (.iload_n 3, 1) := by decide +kernel
theorem dL_law_679 : decode cL_law 679 = .ok (.iconst 3, 1) := by decide +kernel
theorem dL_law_680 : decode cL_law 680 = .ok (.iadd, 1) := by decide +kernel
theorem dL_law_681 : decode cL_law 681 = .ok (.iaload, 1) := by decide +kernel
theorem dL_law_682 : decode cL_law 682 = .ok (.invokevirtual 83, 3) := by decide +kernel
theorem dL_law_685 : decode cL_law 685 = .ok (.aload_n 2, 1) := by decide +kernel
theorem dL_law_686 : decode cL_law 686 = .ok (.aload_n 0, 1) := by decide +kernel
theorem dL_law_687 : decode cL_law 687 = .ok (.iload_n 3, 1) := by decide +kernel
theorem dL_law_688 : decode cL_law 688 = .ok (.iconst 1, 1) := by decide +kernel
theorem dL_law_689 : decode cL_law 689 = .ok (.iadd, 1) := by decide +kernel
theorem dL_law_690 : decode cL_law 690 = .ok (.iaload, 1) := by decide +kernel
theorem dL_law_691 : decode cL_law 691 = .ok (.aload_n 0, 1) := by decide +kernel
theorem dL_law_692 : decode cL_law 692 = .ok (.iload_n 3, 1) := by decide +kernel
theorem dL_law_693 : decode cL_law 693 = .ok (.iconst 2, 1) := by decide +kernel
theorem dL_law_694 : decode cL_law 694 = .ok (.iadd, 1) := by decide +kernel
theorem dL_law_695 : decode cL_law 695 = .ok (.iaload, 1) := by decide +kernel
theorem dL_law_696 : decode cL_law 696 = .ok (.aload_n 0, 1) := by decide +kernel
theorem dL_law_697 : decode cL_law 697 = .ok (.iload_n 3, 1) := by decide +kernel
theorem dL_law_698 : decode cL_law 698 = .ok (.iconst 3, 1) := by decide +kernel
theorem dL_law_699 : decode cL_law 699 = .ok (.iadd, 1) := by decide +kernel
theorem dL_law_700 : decode cL_law 700 = .ok (.iaload, 1) := by decide +kernel
theorem dL_law_701 : decode cL_law 701 = .ok (.invokevirtual 86, 3) := by decide +kernel
theorem dL_law_704 : decode cL_law 704 = .ok (.if_icmp .eq 528, 3) := by decide +kernel
theorem dL_law_707 : decode cL_law 707 = .ok (.iconst 0, 1) := by decide +kernel
theorem dL_law_708 : decode cL_law 708 = .ok (.ireturn, 1) := by decide +kernel
theorem dL_law_709 : decode cL_law 709 = .ok (.aload_n 1, 1) := by decide +kernel
theorem dL_law_710 : decode cL_law 710 = .ok (.aload_n 0, 1) := by decide +kernel
theorem dL_law_711 : decode cL_law 711 = .ok (.iload_n 3, 1) := by decide +kernel
theorem dL_law_712 : decode cL_law 712 = .ok (.iconst 1, 1) := by decide +kernel
theorem dL_law_713 : decode cL_law 713 = .ok (.iadd, 1) := by decide +kernel
theorem dL_law_714 : decode cL_law 714 = .ok (.iaload, 1) := by decide +kernel
theorem dL_law_715 : decode cL_law 715 = .ok (.aload_n 0, 1) := by decide +kernel
theorem dL_law_716 : decode cL_law 716 = .ok (.iload_n 3, 1) := by decide +kernel
theorem dL_law_717 : decode cL_law 717 = .ok (.iconst 2, 1) := by decide +kernel
theorem dL_law_718 : decode cL_law 718 = .ok (.iadd, 1) := by decide +kernel
theorem dL_law_719 : decode cL_law 719 = .ok (.iaload, 1) := by decide +kernel
theorem dL_law_720 : decode cL_law 720 = .ok (.aload_n 0, 1) := by decide +kernel
theorem dL_law_721 : decode cL_law 721 = .ok (.iload_n 3, 1) := by decide +kernel
theorem dL_law_722 : decode cL_law 722 = .ok (.iconst 3, 1) := by decide +kernel
theorem dL_law_723 : decode cL_law 723 = .ok (.iadd, 1) := by decide +kernel
theorem dL_law_724 : decode cL_law 724 = .ok (.iaload, 1) := by decide +kernel
theorem dL_law_725 : decode cL_law 725 = .ok (.invokevirtual 87, 3) := by decide +kernel
theorem dL_law_728 : decode cL_law 728 = .ok (.aload_n 2, 1) := by decide +kernel
theorem dL_law_729 : decode cL_law 729 = .ok (.aload_n 0, 1) := by decide +kernel
theorem dL_law_730 : decode cL_law 730 = .ok (.iload_n 3, 1) := by decide +kernel
theorem dL_law_731 : decode cL_law 731 = .ok (.iconst 1, 1) := by decide +kernel
theorem dL_law_732 : decode cL_law 732 = .ok (.iadd, 1) := by decide +kernel
theorem dL_law_733 : decode cL_law 733 = .ok (.iaload, 1) := by decide +kernel
theorem dL_law_734 : decode cL_law 734 = .ok (.aload_n 0, 1) := by decide +kernel
theorem dL_law_735 : decode cL_law 735 = .ok (.iload_n 3, 1) := by decide +kernel
theorem dL_law_736 : decode cL_law 736 = .ok (.iconst 2, 1) := by decide +kernel
theorem dL_law_737 : decode cL_law 737 = .ok (.iadd, 1) := by decide +kernel
theorem dL_law_738 : decode cL_law 738 = .ok (.iaload, 1) := by decide +kernel
theorem dL_law_739 : decode cL_law 739 = .ok (.aload_n 0, 1) := by decide +kernel
theorem dL_law_740 : decode cL_law 740 = .ok (.iload_n 3, 1) := by decide +kernel
theorem dL_law_741 : decode cL_law 741 = .ok (.iconst 3, 1) := by decide +kernel
theorem dL_law_742 : decode cL_law 742 = .ok (.iadd, 1) := by decide +kernel
theorem dL_law_743 : decode cL_law 743 = .ok (.iaload, 1) := by decide +kernel
theorem dL_law_744 : decode cL_law 744 = .ok (.invokevirtual 90, 3) := by decide +kernel
theorem dL_law_747 : decode cL_law 747 = .ok (.if_icmp .eq 485, 3) := by decide +kernel
theorem dL_law_750 : decode cL_law 750 = .ok (.iconst 0, 1) := by decide +kernel
theorem dL_law_751 : decode cL_law 751 = .ok (.ireturn, 1) := by decide +kernel
theorem dL_law_752 : decode cL_law 752 = .ok (.aload_n 1, 1) := by decide +kernel
theorem dL_law_753 : decode cL_law 753 = .ok (.aload_n 0, 1) := by decide +kernel
theorem dL_law_754 : decode cL_law 754 = .ok (.iload_n 3, 1) := by decide +kernel
theorem dL_law_755 : decode cL_law 755 = .ok (.iconst 1, 1) := by decide +kernel
theorem dL_law_756 : decode cL_law 756 = .ok (.iadd, 1) := by decide +kernel
theorem dL_law_757 : decode cL_law 757 = .ok (.iaload, 1) := by decide +kernel
theorem dL_law_758 : decode cL_law 758 = .ok (.invokevirtual 91, 3) := by decide +kernel
theorem dL_law_761 : decode cL_law 761 = .ok (.aload_n 2, 1) := by decide +kernel
theorem dL_law_762 : decode cL_law 762 = .ok (.aload_n 0, 1) := by decide +kernel
theorem dL_law_763 : decode cL_law 763 = .ok (.iload_n 3, 1) := by decide +kernel
theorem dL_law_764 : decode cL_law 764 = .ok (.iconst 1, 1) := by decide +kernel
theorem dL_law_765 : decode cL_law 765 = .ok (.iadd, 1) := by decide +kernel
theorem dL_law_766 : decode cL_law 766 = .ok (.iaload, 1) := by decide +kernel
theorem dL_law_767 : decode cL_law 767 = .ok (.invokevirtual 94, 3) := by decide +kernel
theorem dL_law_770 : decode cL_law 770 = .ok (.if_icmp .eq 462, 3) := by decide +kernel
theorem dL_law_773 : decode cL_law 773 = .ok (.iconst 0, 1) := by decide +kernel
theorem dL_law_774 : decode cL_law 774 = .ok (.ireturn, 1) := by decide +kernel
theorem dL_law_775 : decode cL_law 775 = .ok (.aload_n 1, 1) := by decide +kernel
theorem dL_law_776 : decode cL_law 776 = .ok (.aload_n 0, 1) := by decide +kernel
theorem dL_law_777 : decode cL_law 777 = .ok (.iload_n 3, 1) := by decide +kernel
theorem dL_law_778 : decode cL_law 778 = .ok (.iconst 1, 1) := by decide +kernel
theorem dL_law_779 : decode cL_law 779 = .ok (.iadd, 1) := by decide +kernel
theorem dL_law_780 : decode cL_law 780 = .ok (.iaload, 1) := by decide +kernel
theorem dL_law_781 : decode cL_law 781 = .ok (.aload_n 0, 1) := by decide +kernel
theorem dL_law_782 : decode cL_law 782 = .ok (.iload_n 3, 1) := by decide +kernel
theorem dL_law_783 : decode cL_law 783 = .ok (.iconst 2, 1) := by decide +kernel
theorem dL_law_784 : decode cL_law 784 = .ok (.iadd, 1) := by decide +kernel
theorem dL_law_785 : decode cL_law 785 = .ok (.iaload, 1) := by decide +kernel
theorem dL_law_786 : decode cL_law 786 = .ok (.aload_n 0, 1) := by decide +kernel
theorem dL_law_787 : decode cL_law 787 = .ok (.iload_n 3, 1) := by decide +kernel
theorem dL_law_788 : decode cL_law 788 = .ok (.iconst 3, 1) := by decide +kernel
theorem dL_law_789 : decode cL_law 789 = .ok (.iadd, 1) := by decide +kernel
theorem dL_law_790 : decode cL_law 790 = .ok (.iaload, 1) := by decide +kernel
theorem dL_law_791 : decode cL_law 791 = .ok (.aload_n 0, 1) := by decide +kernel
theorem dL_law_792 : decode cL_law 792 = .ok (.iload_n 3, 1) := by decide +kernel
theorem dL_law_793 : decode cL_law 793 = .ok (.iconst 4, 1) := by decide +kernel
theorem dL_law_794 : decode cL_law 794 = .ok (.iadd, 1) := by decide +kernel
theorem dL_law_795 : decode cL_law 795 = .ok (.iaload, 1) := by decide +kernel
theorem dL_law_796 : decode cL_law 796 = .ok (.i2l, 1) := by decide +kernel
theorem dL_law_797 : decode cL_law 797 = .ok (.bipush 32, 2) := by decide +kernel
theorem dL_law_799 : decode cL_law 799 = .ok (.lshl, 1) := by decide +kernel
theorem dL_law_800 : decode cL_law 800 = .ok (.aload_n 0, 1) := by decide +kernel
theorem dL_law_801 : decode cL_law 801 = .ok (.iload_n 3, 1) := by decide +kernel
theorem dL_law_802 : decode cL_law 802 = .ok (.iconst 5, 1) := by decide +kernel
theorem dL_law_803 : decode cL_law 803 = .ok (.iadd, 1) := by decide +kernel
theorem dL_law_804 : decode cL_law 804 = .ok (.iaload, 1) := by decide +kernel
theorem dL_law_805 : decode cL_law 805 = .ok (.i2l, 1) := by decide +kernel
theorem dL_law_806 : decode cL_law 806 = .ok (.ldc2_w 95, 3) := by decide +kernel
theorem dL_law_809 : decode cL_law 809 = .ok (.land, 1) := by decide +kernel
theorem dL_law_810 : decode cL_law 810 = .ok (.lor, 1) := by decide +kernel
theorem dL_law_811 : decode cL_law 811 = .ok (.invokevirtual 97, 3) := by decide +kernel
theorem dL_law_814 : decode cL_law 814 = .ok (.aload_n 2, 1) := by decide +kernel
theorem dL_law_815 : decode cL_law 815 = .ok (.aload_n 0, 1) := by decide +kernel
theorem dL_law_816 : decode cL_law 816 = .ok (.iload_n 3, 1) := by decide +kernel
theorem dL_law_817 : decode cL_law 817 = .ok (.iconst 1, 1) := by decide +kernel
theorem dL_law_818 : decode cL_law 818 = .ok (.iadd, 1) := by decide +kernel
theorem dL_law_819 : decode cL_law 819 = .ok (.iaload, 1) := by decide +kernel
theorem dL_law_820 : decode cL_law 820 = .ok (.aload_n 0, 1) := by decide +kernel
theorem dL_law_821 : decode cL_law 821 = .ok (.iload_n 3, 1) := by decide +kernel
theorem dL_law_822 : decode cL_law 822 = .ok (.iconst 2, 1) := by decide +kernel
theorem dL_law_823 : decode cL_law 823 = .ok (.iadd, 1) := by decide +kernel
theorem dL_law_824 : decode cL_law 824 = .ok (.iaload, 1) := by decide +kernel
theorem dL_law_825 : decode cL_law 825 = .ok (.aload_n 0, 1) := by decide +kernel
theorem dL_law_826 : decode cL_law 826 = .ok (.iload_n 3, 1) := by decide +kernel
theorem dL_law_827 : decode cL_law 827 = .ok (.iconst 3, 1) := by decide +kernel
theorem dL_law_828 : decode cL_law 828 = .ok (.iadd, 1) := by decide +kernel
theorem dL_law_829 : decode cL_law 829 = .ok (.iaload, 1) := by decide +kernel
theorem dL_law_830 : decode cL_law 830 = .ok (.aload_n 0, 1) := by decide +kernel
theorem dL_law_831 : decode cL_law 831 = .ok (.iload_n 3, 1) := by decide +kernel
theorem dL_law_832 : decode cL_law 832 = .ok (.iconst 4, 1) := by decide +kernel
theorem dL_law_833 : decode cL_law 833 = .ok (.iadd, 1) := by decide +kernel
theorem dL_law_834 : decode cL_law 834 = .ok (.iaload, 1) := by decide +kernel
theorem dL_law_835 : decode cL_law 835 = .ok (.i2l, 1) := by decide +kernel
theorem dL_law_836 : decode cL_law 836 = .ok (.bipush 32, 2) := by decide +kernel
theorem dL_law_838 : decode cL_law 838 = .ok (.lshl, 1) := by decide +kernel
theorem dL_law_839 : decode cL_law 839 = .ok (.aload_n 0, 1) := by decide +kernel
theorem dL_law_840 : decode cL_law 840 = .ok (.iload_n 3, 1) := by decide +kernel
theorem dL_law_841 : decode cL_law 841 = .ok (.iconst 5, 1) := by decide +kernel
theorem dL_law_842 : decode cL_law 842 = .ok (.iadd, 1) := by decide +kernel
theorem dL_law_843 : decode cL_law 843 = .ok (.iaload, 1) := by decide +kernel
theorem dL_law_844 : decode cL_law 844 = .ok (.i2l, 1) := by decide +kernel
theorem dL_law_845 : decode cL_law 845 = .ok (.ldc2_w 95, 3) := by decide +kernel
theorem dL_law_848 : decode cL_law 848 = .ok (.land, 1) := by decide +kernel
theorem dL_law_849 : decode cL_law 849 = .ok (.lor, 1) := by decide +kernel
theorem dL_law_850 : decode cL_law 850 = .ok (.invokevirtual 101, 3) := by decide +kernel
theorem dL_law_853 : decode cL_law 853 = .ok (.lcmp, 1) := by decide +kernel
theorem dL_law_854 : decode cL_law 854 = .ok (.ifCond .eq 378, 3) := by decide +kernel
theorem dL_law_857 : decode cL_law 857 = .ok (.iconst 0, 1) := by decide +kernel
theorem dL_law_858 : decode cL_law 858 = .ok (.ireturn, 1) := by decide +kernel
theorem dL_law_859 : decode cL_law 859 = .ok (.aload_n 1, 1) := by decide +kernel
theorem dL_law_860 : decode cL_law 860 = .ok (.aload_n 0, 1) := by decide +kernel
theorem dL_law_861 : decode cL_law 861 = .ok (.iload_n 3, 1) := by decide +kernel
theorem dL_law_862 : decode cL_law 862 = .ok (.iconst 1, 1) := by decide +kernel
theorem dL_law_863 : decode cL_law 863 = .ok (.iadd, 1) := by decide +kernel
theorem dL_law_864 : decode cL_law 864 = .ok (.iaload, 1) := by decide +kernel
theorem dL_law_865 : decode cL_law 865 = .ok (.aload_n 0, 1) := by decide +kernel
theorem dL_law_866 : decode cL_law 866 = .ok (.iload_n 3, 1) := by decide +kernel
theorem dL_law_867 : decode cL_law 867 = .ok (.iconst 2, 1) := by decide +kernel
theorem dL_law_868 : decode cL_law 868 = .ok (.iadd, 1) := by decide +kernel
theorem dL_law_869 : decode cL_law 869 = .ok (.iaload, 1) := by decide +kernel
theorem dL_law_870 : decode cL_law 870 = .ok (.aload_n 0, 1) := by decide +kernel
theorem dL_law_871 : decode cL_law 871 = .ok (.iload_n 3, 1) := by decide +kernel
theorem dL_law_872 : decode cL_law 872 = .ok (.iconst 3, 1) := by decide +kernel
theorem dL_law_873 : decode cL_law 873 = .ok (.iadd, 1) := by decide +kernel
theorem dL_law_874 : decode cL_law 874 = .ok (.iaload, 1) := by decide +kernel
theorem dL_law_875 : decode cL_law 875 = .ok (.aload_n 0, 1) := by decide +kernel
theorem dL_law_876 : decode cL_law 876 = .ok (.iload_n 3, 1) := by decide +kernel
theorem dL_law_877 : decode cL_law 877 = .ok (.iconst 4, 1) := by decide +kernel
theorem dL_law_878 : decode cL_law 878 = .ok (.iadd, 1) := by decide +kernel
theorem dL_law_879 : decode cL_law 879 = .ok (.iaload, 1) := by decide +kernel
theorem dL_law_880 : decode cL_law 880 = .ok (.aload_n 0, 1) := by decide +kernel
theorem dL_law_881 : decode cL_law 881 = .ok (.iload_n 3, 1) := by decide +kernel
theorem dL_law_882 : decode cL_law 882 = .ok (.iconst 5, 1) := by decide +kernel
theorem dL_law_883 : decode cL_law 883 = .ok (.iadd, 1) := by decide +kernel
theorem dL_law_884 : decode cL_law 884 = .ok (.iaload, 1) := by decide +kernel
theorem dL_law_885 : decode cL_law 885 = .ok (.invokevirtual 102, 3) := by decide +kernel
theorem dL_law_888 : decode cL_law 888 = .ok (.aload_n 2, 1) := by decide +kernel
theorem dL_law_889 : decode cL_law 889 = .ok (.aload_n 0, 1) := by decide +kernel
theorem dL_law_890 : decode cL_law 890 = .ok (.iload_n 3, 1) := by decide +kernel
theorem dL_law_891 : decode cL_law 891 = .ok (.iconst 1, 1) := by decide +kernel
theorem dL_law_892 : decode cL_law 892 = .ok (.iadd, 1) := by decide +kernel
theorem dL_law_893 : decode cL_law 893 = .ok (.iaload, 1) := by decide +kernel
theorem dL_law_894 : decode cL_law 894 = .ok (.aload_n 0, 1) := by decide +kernel
theorem dL_law_895 : decode cL_law 895 = .ok (.iload_n 3, 1) := by decide +kernel
theorem dL_law_896 : decode cL_law 896 = .ok (.iconst 2, 1) := by decide +kernel
theorem dL_law_897 : decode cL_law 897 = .ok (.iadd, 1) := by decide +kernel
theorem dL_law_898 : decode cL_law 898 = .ok (.iaload, 1) := by decide +kernel
theorem dL_law_899 : decode cL_law 899 = .ok (.aload_n 0, 1) := by decide +kernel
theorem dL_law_900 : decode cL_law 900 = .ok (.iload_n 3, 1) := by decide +kernel
theorem dL_law_901 : decode cL_law 901 = .ok (.iconst 3, 1) := by decide +kernel
theorem dL_law_902 : decode cL_law 902 = .ok (.iadd, 1) := by decide +kernel
theorem dL_law_903 : decode cL_law 903 = .ok (.iaload, 1) := by decide +kernel
theorem dL_law_904 : decode cL_law 904 = .ok (.aload_n 0, 1) := by decide +kernel
theorem dL_law_905 : decode cL_law 905 = .ok (.iload_n 3, 1) := by decide +kernel
theorem dL_law_906 : decode cL_law 906 = .ok (.iconst 4, 1) := by decide +kernel
theorem dL_law_907 : decode cL_law 907 = .ok (.iadd, 1) := by decide +kernel
theorem dL_law_908 : decode cL_law 908 = .ok (.iaload, 1) := by decide +kernel
theorem dL_law_909 : decode cL_law 909 = .ok (.aload_n 0, 1) := by decide +kernel
theorem dL_law_910 : decode cL_law 910 = .ok (.iload_n 3, 1) := by decide +kernel
theorem dL_law_911 : decode cL_law 911 = .ok (.iconst 5, 1) := by decide +kernel
theorem dL_law_912 : decode cL_law 912 = .ok (.iadd, 1) := by decide +kernel
theorem dL_law_913 : decode cL_law 913 = .ok (.iaload, 1) := by decide +kernel
theorem dL_law_914 : decode cL_law 914 = .ok (.invokevirtual 106, 3) := by decide +kernel
theorem dL_law_917 : decode cL_law 917 = .ok (.if_icmp .eq 315, 3) := by decide +kernel
theorem dL_law_920 : decode cL_law 920 = .ok (.iconst 0, 1) := by decide +kernel
theorem dL_law_921 : decode cL_law 921 = .ok (.ireturn, 1) := by decide +kernel
theorem dL_law_922 : decode cL_law 922 = .ok (.aload_n 1, 1) := by decide +kernel
theorem dL_law_923 : decode cL_law 923 = .ok (.aload_n 0, 1) := by decide +kernel
theorem dL_law_924 : decode cL_law 924 = .ok (.iload_n 3, 1) := by decide +kernel
theorem dL_law_925 : decode cL_law 925 = .ok (.iconst 1, 1) := by decide +kernel
theorem dL_law_926 : decode cL_law 926 = .ok (.iadd, 1) := by decide +kernel
theorem dL_law_927 : decode cL_law 927 = .ok (.iaload, 1) := by decide +kernel
theorem dL_law_928 : decode cL_law 928 = .ok (.aload_n 0, 1) := by decide +kernel
theorem dL_law_929 : decode cL_law 929 = .ok (.iload_n 3, 1) := by decide +kernel
theorem dL_law_930 : decode cL_law 930 = .ok (.iconst 2, 1) := by decide +kernel
theorem dL_law_931 : decode cL_law 931 = .ok (.iadd, 1) := by decide +kernel
theorem dL_law_932 : decode cL_law 932 = .ok (.iaload, 1) := by decide +kernel
theorem dL_law_933 : decode cL_law 933 = .ok (.aload_n 0, 1) := by decide +kernel
theorem dL_law_934 : decode cL_law 934 = .ok (.iload_n 3, 1) := by decide +kernel
theorem dL_law_935 : decode cL_law 935 = .ok (.iconst 3, 1) := by decide +kernel
theorem dL_law_936 : decode cL_law 936 = .ok (.iadd, 1) := by decide +kernel
theorem dL_law_937 : decode cL_law 937 = .ok (.iaload, 1) := by decide +kernel
theorem dL_law_938 : decode cL_law 938 = .ok (.invokevirtual 107, 3) := by decide +kernel
theorem dL_law_941 : decode cL_law 941 = .ok (.aload_n 2, 1) := by decide +kernel
theorem dL_law_942 : decode cL_law 942 = .ok (.aload_n 0, 1) := by decide +kernel
theorem dL_law_943 : decode cL_law 943 = .ok (.iload_n 3, 1) := by decide +kernel
theorem dL_law_944 : decode cL_law 944 = .ok (.iconst 1, 1) := by decide +kernel
theorem dL_law_945 : decode cL_law 945 = .ok (.iadd, 1) := by decide +kernel
theorem dL_law_946 : decode cL_law 946 = .ok (.iaload, 1) := by decide +kernel
theorem dL_law_947 : decode cL_law 947 = .ok (.aload_n 0, 1) := by decide +kernel
theorem dL_law_948 : decode cL_law 948 = .ok (.iload_n 3, 1) := by decide +kernel
theorem dL_law_949 : decode cL_law 949 = .ok (.iconst 2, 1) := by decide +kernel
theorem dL_law_950 : decode cL_law 950 = .ok (.iadd, 1) := by decide +kernel
theorem dL_law_951 : decode cL_law 951 = .ok (.iaload, 1) := by decide +kernel
theorem dL_law_952 : decode cL_law 952 = .ok (.aload_n 0, 1) := by decide +kernel
theorem dL_law_953 : decode cL_law 953 = .ok (.iload_n 3, 1) := by decide +kernel
theorem dL_law_954 : decode cL_law 954 = .ok (.iconst 3, 1) := by decide +kernel
theorem dL_law_955 : decode cL_law 955 = .ok (.iadd, 1) := by decide +kernel
theorem dL_law_956 : decode cL_law 956 = .ok (.iaload, 1) := by decide +kernel
theorem dL_law_957 : decode cL_law 957 = .ok (.invokevirtual 110, 3) := by decide +kernel
theorem dL_law_960 : decode cL_law 960 = .ok (.if_icmp .eq 272, 3) := by decide +kernel
theorem dL_law_963 : decode cL_law 963 = .ok (.iconst 0, 1) := by decide +kernel
theorem dL_law_964 : decode cL_law 964 = .ok (.ireturn, 1) := by decide +kernel
theorem dL_law_965 : decode cL_law 965 = .ok (.aload_n 1, 1) := by decide +kernel
theorem dL_law_966 : decode cL_law 966 = .ok (.aload_n 0, 1) := by decide +kernel
theorem dL_law_967 : decode cL_law 967 = .ok (.iload_n 3, 1) := by decide +kernel
theorem dL_law_968 : decode cL_law 968 = .ok (.iconst 1, 1) := by decide +kernel
theorem dL_law_969 : decode cL_law 969 = .ok (.iadd, 1) := by decide +kernel
theorem dL_law_970 : decode cL_law 970 = .ok (.iaload, 1) := by decide +kernel
theorem dL_law_971 : decode cL_law 971 = .ok (.aload_n 0, 1) := by decide +kernel
theorem dL_law_972 : decode cL_law 972 = .ok (.iload_n 3, 1) := by decide +kernel
theorem dL_law_973 : decode cL_law 973 = .ok (.iconst 2, 1) := by decide +kernel
theorem dL_law_974 : decode cL_law 974 = .ok (.iadd, 1) := by decide +kernel
theorem dL_law_975 : decode cL_law 975 = .ok (.iaload, 1) := by decide +kernel
theorem dL_law_976 : decode cL_law 976 = .ok (.aload_n 0, 1) := by decide +kernel
theorem dL_law_977 : decode cL_law 977 = .ok (.iload_n 3, 1) := by decide +kernel
theorem dL_law_978 : decode cL_law 978 = .ok (.iconst 3, 1) := by decide +kernel
theorem dL_law_979 : decode cL_law 979 = .ok (.iadd, 1) := by decide +kernel
theorem dL_law_980 : decode cL_law 980 = .ok (.iaload, 1) := by decide +kernel
theorem dL_law_981 : decode cL_law 981 = .ok (.aload_n 0, 1) := by decide +kernel
theorem dL_law_982 : decode cL_law 982 = .ok (.iload_n 3, 1) := by decide +kernel
theorem dL_law_983 : decode cL_law 983 = .ok (.iconst 4, 1) := by decide +kernel
theorem dL_law_984 : decode cL_law 984 = .ok (.iadd, 1) := by decide +kernel
theorem dL_law_985 : decode cL_law 985 = .ok (.iaload, 1) := by decide +kernel
theorem dL_law_986 : decode cL_law 986 = .ok (.aload_n 0, 1) := by decide +kernel
theorem dL_law_987 : decode cL_law 987 = .ok (.iload_n 3, 1) := by decide +kernel
theorem dL_law_988 : decode cL_law 988 = .ok (.iconst 5, 1) := by decide +kernel
theorem dL_law_989 : decode cL_law 989 = .ok (.iadd, 1) := by decide +kernel
theorem dL_law_990 : decode cL_law 990 = .ok (.iaload, 1) := by decide +kernel
theorem dL_law_991 : decode cL_law 991 = .ok (.aload_n 0, 1) := by decide +kernel
theorem dL_law_992 : decode cL_law 992 = .ok (.iload_n 3, 1) := by decide +kernel
theorem dL_law_993 : decode cL_law 993 = .ok (.bipush 6, 2) := by decide +kernel
theorem dL_law_995 : decode cL_law 995 = .ok (.iadd, 1) := by decide +kernel
theorem dL_law_996 : decode cL_law 996 = .ok (.iaload, 1) := by decide +kernel
theorem dL_law_997 : decode cL_law 997 = .ok (.invokevirtual 111, 3) := by decide +kernel
theorem dL_law_1000 : decode cL_law 1000 = .ok (.aload_n 2, 1) := by decide +kernel
theorem dL_law_1001 : decode cL_law 1001 = .ok (.aload_n 0, 1) := by decide +kernel
theorem dL_law_1002 : decode cL_law 1002 = .ok (.iload_n 3, 1) := by decide +kernel
theorem dL_law_1003 : decode cL_law 1003 = .ok (.iconst 1, 1) := by decide +kernel
theorem dL_law_1004 : decode cL_law 1004 = .ok (.iadd, 1) := by decide +kernel
theorem dL_law_1005 : decode cL_law 1005 = .ok (.iaload, 1) := by decide +kernel
theorem dL_law_1006 : decode cL_law 1006 = .ok (.aload_n 0, 1) := by decide +kernel
theorem dL_law_1007 : decode cL_law 1007 = .ok (.iload_n 3, 1) := by decide +kernel
theorem dL_law_1008 : decode cL_law 1008 = .ok (.iconst 2, 1) := by decide +kernel
theorem dL_law_1009 : decode cL_law 1009 = .ok (.iadd, 1) := by decide +kernel
theorem dL_law_1010 : decode cL_law 1010 = .ok (.iaload, 1) := by decide +kernel
theorem dL_law_1011 : decode cL_law 1011 = .ok (.aload_n 0, 1) := by decide +kernel
theorem dL_law_1012 : decode cL_law 1012 = .ok (.iload_n 3, 1) := by decide +kernel
theorem dL_law_1013 : decode cL_law 1013 = .ok (.iconst 3, 1) := by decide +kernel
theorem dL_law_1014 : decode cL_law 1014 = .ok (.iadd, 1) := by decide +kernel
theorem dL_law_1015 : decode cL_law 1015 = .ok (.iaload, 1) := by decide +kernel
theorem dL_law_1016 : decode cL_law 1016 = .ok (.aload_n 0, 1) := by decide +kernel
theorem dL_law_1017 : decode cL_law 1017 = .ok (.iload_n 3, 1) := by decide +kernel
theorem dL_law_1018 : decode cL_law 1018 = .ok (.iconst 4, 1) := by decide +kernel
theorem dL_law_1019 : decode cL_law 1019 = .ok (.iadd, 1) := by decide +kernel
theorem dL_law_1020 : decode cL_law 1020 = .ok (.iaload, 1) := by decide +kernel
theorem dL_law_1021 : decode cL_law 1021 = .ok (.aload_n 0, 1) := by decide +kernel
theorem dL_law_1022 : decode cL_law 1022 = .ok (.iload_n 3, 1) := by decide +kernel
theorem dL_law_1023 : decode cL_law 1023 = .ok (.iconst 5, 1) := by decide +kernel
theorem dL_law_1024 : decode cL_law 1024 = .ok (.iadd, 1) := by decide +kernel
theorem dL_law_1025 : decode cL_law 1025 = .ok (.iaload, 1) := by decide +kernel
theorem dL_law_1026 : decode cL_law 1026 = .ok (.aload_n 0, 1) := by decide +kernel
theorem dL_law_1027 : decode cL_law 1027 = .ok (.iload_n 3, 1) := by decide +kernel
theorem dL_law_1028 : decode cL_law 1028 = .ok (.bipush 6, 2) := by decide +kernel
theorem dL_law_1030 : decode cL_law 1030 = .ok (.iadd, 1) := by decide +kernel
theorem dL_law_1031 : decode cL_law 1031 = .ok (.iaload, 1) := by decide +kernel
theorem dL_law_1032 : decode cL_law 1032 = .ok (.invokevirtual 114, 3) := by decide +kernel
theorem dL_law_1035 : decode cL_law 1035 = .ok (.if_icmp .eq 197, 3) := by decide +kernel
theorem dL_law_1038 : decode cL_law 1038 = .ok (.iconst 0, 1) := by decide +kernel
theorem dL_law_1039 : decode cL_law 1039 = .ok (.ireturn, 1) := by decide +kernel
theorem dL_law_1040 : decode cL_law 1040 = .ok (.aload_n 1, 1) := by decide +kernel
theorem dL_law_1041 : decode cL_law 1041 = .ok (.aload_n 0, 1) := by decide +kernel
theorem dL_law_1042 : decode cL_law 1042 = .ok (.iload_n 3, 1) := by decide +kernel
theorem dL_law_1043 : decode cL_law 1043 = .ok (.iconst 1, 1) := by decide +kernel
theorem dL_law_1044 : decode cL_law 1044 = .ok (.iadd, 1) := by decide +kernel
theorem dL_law_1045 : decode cL_law 1045 = .ok (.iaload, 1) := by decide +kernel
theorem dL_law_1046 : decode cL_law 1046 = .ok (.aload_n 0, 1) := by decide +kernel
theorem dL_law_1047 : decode cL_law 1047 = .ok (.iload_n 3, 1) := by decide +kernel
theorem dL_law_1048 : decode cL_law 1048 = .ok (.iconst 2, 1) := by decide +kernel
theorem dL_law_1049 : decode cL_law 1049 = .ok (.iadd, 1) := by decide +kernel
theorem dL_law_1050 : decode cL_law 1050 = .ok (.iaload, 1) := by decide +kernel
theorem dL_law_1051 : decode cL_law 1051 = .ok (.aload_n 0, 1) := by decide +kernel
theorem dL_law_1052 : decode cL_law 1052 = .ok (.iload_n 3, 1) := by decide +kernel
theorem dL_law_1053 : decode cL_law 1053 = .ok (.iconst 3, 1) := by decide +kernel
theorem dL_law_1054 : decode cL_law 1054 = .ok (.iadd, 1) := by decide +kernel
theorem dL_law_1055 : decode cL_law 1055 = .ok (.iaload, 1) := by decide +kernel
theorem dL_law_1056 : decode cL_law 1056 = .ok (.aload_n 0, 1) := by decide +kernel
theorem dL_law_1057 : decode cL_law 1057 = .ok (.iload_n 3, 1) := by decide +kernel
theorem dL_law_1058 : decode cL_law 1058 = .ok (.iconst 4, 1) := by decide +kernel
theorem dL_law_1059 : decode cL_law 1059 = .ok (.iadd, 1) := by decide +kernel
theorem dL_law_1060 : decode cL_law 1060 = .ok (.iaload, 1) := by decide +kernel
theorem dL_law_1061 : decode cL_law 1061 = .ok (.aload_n 0, 1) := by decide +kernel
theorem dL_law_1062 : decode cL_law 1062 = .ok (.iload_n 3, 1) := by decide +kernel
theorem dL_law_1063 : decode cL_law 1063 = .ok (.iconst 5, 1) := by decide +kernel
theorem dL_law_1064 : decode cL_law 1064 = .ok (.iadd, 1) := by decide +kernel
theorem dL_law_1065 : decode cL_law 1065 = .ok (.iaload, 1) := by decide +kernel
theorem dL_law_1066 : decode cL_law 1066 = .ok (.invokevirtual 115, 3) := by decide +kernel
theorem dL_law_1069 : decode cL_law 1069 = .ok (.aload_n 2, 1) := by decide +kernel
theorem dL_law_1070 : decode cL_law 1070 = .ok (.aload_n 0, 1) := by decide +kernel
theorem dL_law_1071 : decode cL_law 1071 = .ok (.iload_n 3, 1) := by decide +kernel
theorem dL_law_1072 : decode cL_law 1072 = .ok (.iconst 1, 1) := by decide +kernel
theorem dL_law_1073 : decode cL_law 1073 = .ok (.iadd, 1) := by decide +kernel
theorem dL_law_1074 : decode cL_law 1074 = .ok (.iaload, 1) := by decide +kernel
theorem dL_law_1075 : decode cL_law 1075 = .ok (.aload_n 0, 1) := by decide +kernel
theorem dL_law_1076 : decode cL_law 1076 = .ok (.iload_n 3, 1) := by decide +kernel
theorem dL_law_1077 : decode cL_law 1077 = .ok (.iconst 2, 1) := by decide +kernel
theorem dL_law_1078 : decode cL_law 1078 = .ok (.iadd, 1) := by decide +kernel
theorem dL_law_1079 : decode cL_law 1079 = .ok (.iaload, 1) := by decide +kernel
theorem dL_law_1080 : decode cL_law 1080 = .ok (.aload_n 0, 1) := by decide +kernel
theorem dL_law_1081 : decode cL_law 1081 = .ok (.iload_n 3, 1) := by decide +kernel
theorem dL_law_1082 : decode cL_law 1082 = .ok (.iconst 3, 1) := by decide +kernel
theorem dL_law_1083 : decode cL_law 1083 = .ok (.iadd, 1) := by decide +kernel
theorem dL_law_1084 : decode cL_law 1084 = .ok (.iaload, 1) := by decide +kernel
theorem dL_law_1085 : decode cL_law 1085 = .ok (.aload_n 0, 1) := by decide +kernel
theorem dL_law_1086 : decode cL_law 1086 = .ok (.iload_n 3, 1) := by decide +kernel
theorem dL_law_1087 : decode cL_law 1087 = .ok (.iconst 4, 1) := by decide +kernel
theorem dL_law_1088 : decode cL_law 1088 = .ok (.iadd, 1) := by decide +kernel
theorem dL_law_1089 : decode cL_law 1089 = .ok (.iaload, 1) := by decide +kernel
theorem dL_law_1090 : decode cL_law 1090 = .ok (.aload_n 0, 1) := by decide +kernel
theorem dL_law_1091 : decode cL_law 1091 = .ok (.iload_n 3, 1) := by decide +kernel
theorem dL_law_1092 : decode cL_law 1092 = .ok (.iconst 5, 1) := by decide +kernel
theorem dL_law_1093 : decode cL_law 1093 = .ok (.iadd, 1) := by decide +kernel
theorem dL_law_1094 : decode cL_law 1094 = .ok (.iaload, 1) := by decide +kernel
theorem dL_law_1095 : decode cL_law 1095 = .ok (.invokevirtual 118, 3) := by decide +kernel
theorem dL_law_1098 : decode cL_law 1098 = .ok (.if_icmp .eq 134, 3) := by decide +kernel
theorem dL_law_1101 : decode cL_law 1101 = .ok (.iconst 0, 1) := by decide +kernel
theorem dL_law_1102 : decode cL_law 1102 = .ok (.ireturn, 1) := by decide +kernel
theorem dL_law_1103 : decode cL_law 1103 = .ok (.aload_n 1, 1) := by decide +kernel
theorem dL_law_1104 : decode cL_law 1104 = .ok (.aload_n 0, 1) := by decide +kernel
theorem dL_law_1105 : decode cL_law 1105 = .ok (.iload_n 3, 1) := by decide +kernel
theorem dL_law_1106 : decode cL_law 1106 = .ok (.iconst 1, 1) := by decide +kernel
theorem dL_law_1107 : decode cL_law 1107 = .ok (.iadd, 1) := by decide +kernel
theorem dL_law_1108 : decode cL_law 1108 = .ok (.iaload, 1) := by decide +kernel
theorem dL_law_1109 : decode cL_law 1109 = .ok (.aload_n 0, 1) := by decide +kernel
theorem dL_law_1110 : decode cL_law 1110 = .ok (.iload_n 3, 1) := by decide +kernel
theorem dL_law_1111 : decode cL_law 1111 = .ok (.iconst 2, 1) := by decide +kernel
theorem dL_law_1112 : decode cL_law 1112 = .ok (.iadd, 1) := by decide +kernel
theorem dL_law_1113 : decode cL_law 1113 = .ok (.iaload, 1) := by decide +kernel
theorem dL_law_1114 : decode cL_law 1114 = .ok (.aload_n 0, 1) := by decide +kernel
theorem dL_law_1115 : decode cL_law 1115 = .ok (.iload_n 3, 1) := by decide +kernel
theorem dL_law_1116 : decode cL_law 1116 = .ok (.iconst 3, 1) := by decide +kernel
theorem dL_law_1117 : decode cL_law 1117 = .ok (.iadd, 1) := by decide +kernel
theorem dL_law_1118 : decode cL_law 1118 = .ok (.iaload, 1) := by decide +kernel
theorem dL_law_1119 : decode cL_law 1119 = .ok (.aload_n 0, 1) := by decide +kernel
theorem dL_law_1120 : decode cL_law 1120 = .ok (.iload_n 3, 1) := by decide +kernel
theorem dL_law_1121 : decode cL_law 1121 = .ok (.iconst 4, 1) := by decide +kernel
theorem dL_law_1122 : decode cL_law 1122 = .ok (.iadd, 1) := by decide +kernel
theorem dL_law_1123 : decode cL_law 1123 = .ok (.iaload, 1) := by decide +kernel
theorem dL_law_1124 : decode cL_law 1124 = .ok (.aload_n 0, 1) := by decide +kernel
theorem dL_law_1125 : decode cL_law 1125 = .ok (.iload_n 3, 1) := by decide +kernel
theorem dL_law_1126 : decode cL_law 1126 = .ok (.iconst 5, 1) := by decide +kernel
theorem dL_law_1127 : decode cL_law 1127 = .ok (.iadd, 1) := by decide +kernel
theorem dL_law_1128 : decode cL_law 1128 = .ok (.iaload, 1) := by decide +kernel
theorem dL_law_1129 : decode cL_law 1129 = .ok (.invokevirtual 119, 3) := by decide +kernel
theorem dL_law_1132 : decode cL_law 1132 = .ok (.aload_n 2, 1) := by decide +kernel
theorem dL_law_1133 : decode cL_law 1133 = .ok (.aload_n 0, 1) := by decide +kernel
theorem dL_law_1134 : decode cL_law 1134 = .ok (.iload_n 3, 1) := by decide +kernel
theorem dL_law_1135 : decode cL_law 1135 = .ok (.iconst 1, 1) := by decide +kernel
theorem dL_law_1136 : decode cL_law 1136 = .ok (.iadd, 1) := by decide +kernel
theorem dL_law_1137 : decode cL_law 1137 = .ok (.iaload, 1) := by decide +kernel
theorem dL_law_1138 : decode cL_law 1138 = .ok (.aload_n 0, 1) := by decide +kernel
theorem dL_law_1139 : decode cL_law 1139 = .ok (.iload_n 3, 1) := by decide +kernel
theorem dL_law_1140 : decode cL_law 1140 = .ok (.iconst 2, 1) := by decide +kernel
theorem dL_law_1141 : decode cL_law 1141 = .ok (.iadd, 1) := by decide +kernel
theorem dL_law_1142 : decode cL_law 1142 = .ok (.iaload, 1) := by decide +kernel
theorem dL_law_1143 : decode cL_law 1143 = .ok (.aload_n 0, 1) := by decide +kernel
theorem dL_law_1144 : decode cL_law 1144 = .ok (.iload_n 3, 1) := by decide +kernel
theorem dL_law_1145 : decode cL_law 1145 = .ok (.iconst 3, 1) := by decide +kernel
theorem dL_law_1146 : decode cL_law 1146 = .ok (.iadd, 1) := by decide +kernel
theorem dL_law_1147 : decode cL_law 1147 = .ok (.iaload, 1) := by decide +kernel
theorem dL_law_1148 : decode cL_law 1148 = .ok (.aload_n 0, 1) := by decide +kernel
theorem dL_law_1149 : decode cL_law 1149 = .ok (.iload_n 3, 1) := by decide +kernel
theorem dL_law_1150 : decode cL_law 1150 = .ok (.iconst 4, 1) := by decide +kernel
theorem dL_law_1151 : decode cL_law 1151 = .ok (.iadd, 1) := by decide +kernel
theorem dL_law_1152 : decode cL_law 1152 = .ok (.iaload, 1) := by decide +kernel
theorem dL_law_1153 : decode cL_law 1153 = .ok (.aload_n 0, 1) := by decide +kernel
theorem dL_law_1154 : decode cL_law 1154 = .ok (.iload_n 3, 1) := by decide +kernel
theorem dL_law_1155 : decode cL_law 1155 = .ok (.iconst 5, 1) := by decide +kernel
theorem dL_law_1156 : decode cL_law 1156 = .ok (.iadd, 1) := by decide +kernel
theorem dL_law_1157 : decode cL_law 1157 = .ok (.iaload, 1) := by decide +kernel
theorem dL_law_1158 : decode cL_law 1158 = .ok (.invokevirtual 122, 3) := by decide +kernel
theorem dL_law_1161 : decode cL_law 1161 = .ok (.if_icmp .eq 71, 3) := by decide +kernel
theorem dL_law_1164 : decode cL_law 1164 = .ok (.iconst 0, 1) := by decide +kernel
theorem dL_law_1165 : decode cL_law 1165 = .ok (.ireturn, 1) := by decide +kernel
theorem dL_law_1166 : decode cL_law 1166 = .ok (.aload_n 1, 1) := by decide +kernel
theorem dL_law_1167 : decode cL_law 1167 = .ok (.aload_n 0, 1) := by decide +kernel
theorem dL_law_1168 : decode cL_law 1168 = .ok (.iload_n 3, 1) := by decide +kernel
theorem dL_law_1169 : decode cL_law 1169 = .ok (.iconst 1, 1) := by decide +kernel
theorem dL_law_1170 : decode cL_law 1170 = .ok (.iadd, 1) := by decide +kernel
theorem dL_law_1171 : decode cL_law 1171 = .ok (.iaload, 1) := by decide +kernel
theorem dL_law_1172 : decode cL_law 1172 = .ok (.aload_n 0, 1) := by decide +kernel
theorem dL_law_1173 : decode cL_law 1173 = .ok (.iload_n 3, 1) := by decide +kernel
theorem dL_law_1174 : decode cL_law 1174 = .ok (.iconst 2, 1) := by decide +kernel
theorem dL_law_1175 : decode cL_law 1175 = .ok (.iadd, 1) := by decide +kernel
theorem dL_law_1176 : decode cL_law 1176 = .ok (.iaload, 1) := by decide +kernel
theorem dL_law_1177 : decode cL_law 1177 = .ok (.aload_n 0, 1) := by decide +kernel
theorem dL_law_1178 : decode cL_law 1178 = .ok (.iload_n 3, 1) := by decide +kernel
theorem dL_law_1179 : decode cL_law 1179 = .ok (.iconst 3, 1) := by decide +kernel
theorem dL_law_1180 : decode cL_law 1180 = .ok (.iadd, 1) := by decide +kernel
theorem dL_law_1181 : decode cL_law 1181 = .ok (.iaload, 1) := by decide +kernel
theorem dL_law_1182 : decode cL_law 1182 = .ok (.invokevirtual 123, 3) := by decide +kernel
theorem dL_law_1185 : decode cL_law 1185 = .ok (.aload_n 2, 1) := by decide +kernel
theorem dL_law_1186 : decode cL_law 1186 = .ok (.aload_n 0, 1) := by decide +kernel
theorem dL_law_1187 : decode cL_law 1187 = .ok (.iload_n 3, 1) := by decide +kernel
theorem dL_law_1188 : decode cL_law 1188 = .ok (.iconst 1, 1) := by decide +kernel
theorem dL_law_1189 : decode cL_law 1189 = .ok (.iadd, 1) := by decide +kernel
theorem dL_law_1190 : decode cL_law 1190 = .ok (.iaload, 1) := by decide +kernel
theorem dL_law_1191 : decode cL_law 1191 = .ok (.aload_n 0, 1) := by decide +kernel
theorem dL_law_1192 : decode cL_law 1192 = .ok (.iload_n 3, 1) := by decide +kernel
theorem dL_law_1193 : decode cL_law 1193 = .ok (.iconst 2, 1) := by decide +kernel
theorem dL_law_1194 : decode cL_law 1194 = .ok (.iadd, 1) := by decide +kernel
theorem dL_law_1195 : decode cL_law 1195 = .ok (.iaload, 1) := by decide +kernel
theorem dL_law_1196 : decode cL_law 1196 = .ok (.aload_n 0, 1) := by decide +kernel
theorem dL_law_1197 : decode cL_law 1197 = .ok (.iload_n 3, 1) := by decide +kernel
theorem dL_law_1198 : decode cL_law 1198 = .ok (.iconst 3, 1) := by decide +kernel
theorem dL_law_1199 : decode cL_law 1199 = .ok (.iadd, 1) := by decide +kernel
theorem dL_law_1200 : decode cL_law 1200 = .ok (.iaload, 1) := by decide +kernel
theorem dL_law_1201 : decode cL_law 1201 = .ok (.invokevirtual 126, 3) := by decide +kernel
theorem dL_law_1204 : decode cL_law 1204 = .ok (.if_icmp .eq 28, 3) := by decide +kernel
theorem dL_law_1207 : decode cL_law 1207 = .ok (.iconst 0, 1) := by decide +kernel
theorem dL_law_1208 : decode cL_law 1208 = .ok (.ireturn, 1) := by decide +kernel
theorem dL_law_1209 : decode cL_law 1209 = .ok (.aload_n 1, 1) := by decide +kernel
theorem dL_law_1210 : decode cL_law 1210 = .ok (.aload_n 0, 1) := by decide +kernel
theorem dL_law_1211 : decode cL_law 1211 = .ok (.iload_n 3, 1) := by decide +kernel
theorem dL_law_1212 : decode cL_law 1212 = .ok (.iconst 1, 1) := by decide +kernel
theorem dL_law_1213 : decode cL_law 1213 = .ok (.iadd, 1) := by decide +kernel
theorem dL_law_1214 : decode cL_law 1214 = .ok (.iaload, 1) := by decide +kernel
theorem dL_law_1215 : decode cL_law 1215 = .ok (.invokevirtual 127, 3) := by decide +kernel
theorem dL_law_1218 : decode cL_law 1218 = .ok (.aload_n 2, 1) := by decide +kernel
theorem dL_law_1219 : decode cL_law 1219 = .ok (.aload_n 0, 1) := by decide +kernel
theorem dL_law_1220 : decode cL_law 1220 = .ok (.iload_n 3, 1) := by decide +kernel
theorem dL_law_1221 : decode cL_law 1221 = .ok (.iconst 1, 1) := by decide +kernel
theorem dL_law_1222 : decode cL_law 1222 = .ok (.iadd, 1) := by decide +kernel
theorem dL_law_1223 : decode cL_law 1223 = .ok (.iaload, 1) := by decide +kernel
theorem dL_law_1224 : decode cL_law 1224 = .ok (.invokevirtual 130, 3) := by decide +kernel
theorem dL_law_1227 : decode cL_law 1227 = .ok (.if_icmp .eq 5, 3) := by decide +kernel
theorem dL_law_1230 : decode cL_law 1230 = .ok (.iconst 0, 1) := by decide +kernel
theorem dL_law_1231 : decode cL_law 1231 = .ok (.ireturn, 1) := by decide +kernel
theorem dL_law_1232 : decode cL_law 1232 = .ok (.iinc 3 7, 3) := by decide +kernel
theorem dL_law_1235 : decode cL_law 1235 = .ok (.goto (-1217), 3) := by decide +kernel
theorem dL_law_1238 : decode cL_law 1238 = .ok (.iconst 1, 1) := by decide +kernel
theorem dL_law_1239 : decode cL_law 1239 = .ok (.ireturn, 1) := by decide +kernel
end
