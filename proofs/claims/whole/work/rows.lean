section
-- ===== PART A: goes FIRST, ahead of the names: the tables' words, and 'selects' of the private methods out of them =====
/-- a private method of a class that the tables say can be made, by its rows of tables_1 -/
def lw_okq (q : MethodName × Nat) : Prop := (q.1.cls ≠ "java/lang/invoke/MethodHandle" ∧ q.1.cls ≠ "java/lang/invoke/VarHandle") ∧ Cond.instantiable q.1.cls q.2 ∈ tables_1 ∧ Cond.privateMethod q.1 ∈ tables_1 ∧ Cond.instanceMethod q.1 ∈ tables_1
theorem lw_p0 : lw_okq (⟨"WaxCloth$Reader", "sign", "(I)Z"⟩, 3) := ⟨⟨by decide +kernel, by decide +kernel⟩, List.mem_of_getElem? (i := 41) (by decide +kernel), List.mem_of_getElem? (i := 302) (by decide +kernel), List.mem_of_getElem? (i := 303) (by decide +kernel)⟩
theorem lw_p1 : lw_okq (⟨"WaxCloth$Reader", "readSquares", "()Z"⟩, 3) := ⟨⟨by decide +kernel, by decide +kernel⟩, List.mem_of_getElem? (i := 41) (by decide +kernel), List.mem_of_getElem? (i := 310) (by decide +kernel), List.mem_of_getElem? (i := 311) (by decide +kernel)⟩
theorem lw_p2 : lw_okq (⟨"WaxCloth$Reader", "readSquare", "(I)Z"⟩, 3) := ⟨⟨by decide +kernel, by decide +kernel⟩, List.mem_of_getElem? (i := 41) (by decide +kernel), List.mem_of_getElem? (i := 314) (by decide +kernel), List.mem_of_getElem? (i := 315) (by decide +kernel)⟩
theorem lw_p3 : lw_okq (⟨"WaxCloth$Reader", "figure", "(II)I"⟩, 3) := ⟨⟨by decide +kernel, by decide +kernel⟩, List.mem_of_getElem? (i := 41) (by decide +kernel), List.mem_of_getElem? (i := 321) (by decide +kernel), List.mem_of_getElem? (i := 322) (by decide +kernel)⟩
theorem lw_p4 : lw_okq (⟨"WaxCloth$Reader", "readDyes", "()Z"⟩, 3) := ⟨⟨by decide +kernel, by decide +kernel⟩, List.mem_of_getElem? (i := 41) (by decide +kernel), List.mem_of_getElem? (i := 325) (by decide +kernel), List.mem_of_getElem? (i := 326) (by decide +kernel)⟩
theorem lw_p5 : lw_okq (⟨"WaxCloth$Reader", "readDye", "(I)Z"⟩, 3) := ⟨⟨by decide +kernel, by decide +kernel⟩, List.mem_of_getElem? (i := 41) (by decide +kernel), List.mem_of_getElem? (i := 329) (by decide +kernel), List.mem_of_getElem? (i := 330) (by decide +kernel)⟩
theorem lw_p6 : lw_okq (⟨"WaxCloth$Reader", "readStencils", "()Z"⟩, 3) := ⟨⟨by decide +kernel, by decide +kernel⟩, List.mem_of_getElem? (i := 41) (by decide +kernel), List.mem_of_getElem? (i := 333) (by decide +kernel), List.mem_of_getElem? (i := 334) (by decide +kernel)⟩
theorem lw_p7 : lw_okq (⟨"WaxCloth$Reader", "readStencil", "()I"⟩, 3) := ⟨⟨by decide +kernel, by decide +kernel⟩, List.mem_of_getElem? (i := 41) (by decide +kernel), List.mem_of_getElem? (i := 337) (by decide +kernel), List.mem_of_getElem? (i := 338) (by decide +kernel)⟩
theorem lw_p8 : lw_okq (⟨"WaxCloth$Cloth", "cracked", "(II)I"⟩, 9) := ⟨⟨by decide +kernel, by decide +kernel⟩, List.mem_of_getElem? (i := 47) (by decide +kernel), List.mem_of_getElem? (i := 467) (by decide +kernel), List.mem_of_getElem? (i := 468) (by decide +kernel)⟩
theorem lw_p9 : lw_okq (⟨"WaxCloth$Planner", "extend", "(LWaxCloth$Cloth;II)V"⟩, 5) := ⟨⟨by decide +kernel, by decide +kernel⟩, List.mem_of_getElem? (i := 157) (by decide +kernel), List.mem_of_getElem? (i := 527) (by decide +kernel), List.mem_of_getElem? (i := 528) (by decide +kernel)⟩
theorem lw_p10 : lw_okq (⟨"WaxCloth$Planner", "judge", "(II)V"⟩, 5) := ⟨⟨by decide +kernel, by decide +kernel⟩, List.mem_of_getElem? (i := 157) (by decide +kernel), List.mem_of_getElem? (i := 543) (by decide +kernel), List.mem_of_getElem? (i := 544) (by decide +kernel)⟩
theorem lw_p11 : lw_okq (⟨"WaxCloth$Baths", "bathe", "(LWaxCloth$Cloth;IIIII)V"⟩, 5) := ⟨⟨by decide +kernel, by decide +kernel⟩, List.mem_of_getElem? (i := 183) (by decide +kernel), List.mem_of_getElem? (i := 561) (by decide +kernel), List.mem_of_getElem? (i := 562) (by decide +kernel)⟩
theorem lw_p12 : lw_okq (⟨"WaxCloth$Baths", "note", "(III)V"⟩, 5) := ⟨⟨by decide +kernel, by decide +kernel⟩, List.mem_of_getElem? (i := 183) (by decide +kernel), List.mem_of_getElem? (i := 565) (by decide +kernel), List.mem_of_getElem? (i := 566) (by decide +kernel)⟩
theorem lw_p13 : lw_okq (⟨"WaxCloth$Chances", "weigh", "(II)V"⟩, 6) := ⟨⟨by decide +kernel, by decide +kernel⟩, List.mem_of_getElem? (i := 208) (by decide +kernel), List.mem_of_getElem? (i := 586) (by decide +kernel), List.mem_of_getElem? (i := 587) (by decide +kernel)⟩
theorem lw_p14 : lw_okq (⟨"WaxCloth", "takeDoings", "(IIII)I"⟩, 11) := ⟨⟨by decide +kernel, by decide +kernel⟩, List.mem_of_getElem? (i := 18) (by decide +kernel), List.mem_of_getElem? (i := 674) (by decide +kernel), List.mem_of_getElem? (i := 675) (by decide +kernel)⟩
theorem lw_p15 : lw_okq (⟨"WaxClothModel", "reads", "()Z"⟩, 22) := ⟨⟨by decide +kernel, by decide +kernel⟩, List.mem_of_getElem? (i := 738) (by decide +kernel), List.mem_of_getElem? (i := 824) (by decide +kernel), List.mem_of_getElem? (i := 825) (by decide +kernel)⟩
def lw_privs_1 : List (MethodName × Nat) := [(⟨"WaxCloth$Reader", "sign", "(I)Z"⟩, 3), (⟨"WaxCloth$Reader", "readSquares", "()Z"⟩, 3), (⟨"WaxCloth$Reader", "readSquare", "(I)Z"⟩, 3), (⟨"WaxCloth$Reader", "figure", "(II)I"⟩, 3), (⟨"WaxCloth$Reader", "readDyes", "()Z"⟩, 3), (⟨"WaxCloth$Reader", "readDye", "(I)Z"⟩, 3), (⟨"WaxCloth$Reader", "readStencils", "()Z"⟩, 3), (⟨"WaxCloth$Reader", "readStencil", "()I"⟩, 3), (⟨"WaxCloth$Cloth", "cracked", "(II)I"⟩, 9), (⟨"WaxCloth$Planner", "extend", "(LWaxCloth$Cloth;II)V"⟩, 5), (⟨"WaxCloth$Planner", "judge", "(II)V"⟩, 5), (⟨"WaxCloth$Baths", "bathe", "(LWaxCloth$Cloth;IIIII)V"⟩, 5), (⟨"WaxCloth$Baths", "note", "(III)V"⟩, 5), (⟨"WaxCloth$Chances", "weigh", "(II)V"⟩, 6), (⟨"WaxCloth", "takeDoings", "(IIII)I"⟩, 11), (⟨"WaxClothModel", "reads", "()Z"⟩, 22)]
theorem lw_r1 : ∀ q ∈ lw_privs_1, lw_okq q := List.forall_mem_cons.mpr ⟨lw_p0, List.forall_mem_cons.mpr ⟨lw_p1, List.forall_mem_cons.mpr ⟨lw_p2, List.forall_mem_cons.mpr ⟨lw_p3, List.forall_mem_cons.mpr ⟨lw_p4, List.forall_mem_cons.mpr ⟨lw_p5, List.forall_mem_cons.mpr ⟨lw_p6, List.forall_mem_cons.mpr ⟨lw_p7, List.forall_mem_cons.mpr ⟨lw_p8, List.forall_mem_cons.mpr ⟨lw_p9, List.forall_mem_cons.mpr ⟨lw_p10, List.forall_mem_cons.mpr ⟨lw_p11, List.forall_mem_cons.mpr ⟨lw_p12, List.forall_mem_cons.mpr ⟨lw_p13, List.forall_mem_cons.mpr ⟨lw_p14, List.forall_mem_cons.mpr ⟨lw_p15, fun _ h => absurd h List.not_mem_nil⟩⟩⟩⟩⟩⟩⟩⟩⟩⟩⟩⟩⟩⟩⟩⟩
theorem lw_p16 : lw_okq (⟨"WaxClothModel", "eats", "(I)Z"⟩, 22) := ⟨⟨by decide +kernel, by decide +kernel⟩, List.mem_of_getElem? (i := 738) (by decide +kernel), List.mem_of_getElem? (i := 828) (by decide +kernel), List.mem_of_getElem? (i := 829) (by decide +kernel)⟩
theorem lw_p17 : lw_okq (⟨"WaxClothModel", "here", "()I"⟩, 22) := ⟨⟨by decide +kernel, by decide +kernel⟩, List.mem_of_getElem? (i := 738) (by decide +kernel), List.mem_of_getElem? (i := 832) (by decide +kernel), List.mem_of_getElem? (i := 833) (by decide +kernel)⟩
theorem lw_p18 : lw_okq (⟨"WaxClothModel", "readsSquare", "()Z"⟩, 22) := ⟨⟨by decide +kernel, by decide +kernel⟩, List.mem_of_getElem? (i := 738) (by decide +kernel), List.mem_of_getElem? (i := 836) (by decide +kernel), List.mem_of_getElem? (i := 837) (by decide +kernel)⟩
theorem lw_p19 : lw_okq (⟨"WaxClothModel", "figure", "(II)Z"⟩, 22) := ⟨⟨by decide +kernel, by decide +kernel⟩, List.mem_of_getElem? (i := 738) (by decide +kernel), List.mem_of_getElem? (i := 843) (by decide +kernel), List.mem_of_getElem? (i := 844) (by decide +kernel)⟩
theorem lw_p20 : lw_okq (⟨"WaxClothModel", "another", "(II)Z"⟩, 22) := ⟨⟨by decide +kernel, by decide +kernel⟩, List.mem_of_getElem? (i := 738) (by decide +kernel), List.mem_of_getElem? (i := 847) (by decide +kernel), List.mem_of_getElem? (i := 848) (by decide +kernel)⟩
theorem lw_p21 : lw_okq (⟨"WaxClothModel", "readsDye", "()Z"⟩, 22) := ⟨⟨by decide +kernel, by decide +kernel⟩, List.mem_of_getElem? (i := 738) (by decide +kernel), List.mem_of_getElem? (i := 851) (by decide +kernel), List.mem_of_getElem? (i := 852) (by decide +kernel)⟩
theorem lw_p22 : lw_okq (⟨"WaxClothModel", "readsStencil", "()Z"⟩, 22) := ⟨⟨by decide +kernel, by decide +kernel⟩, List.mem_of_getElem? (i := 738) (by decide +kernel), List.mem_of_getElem? (i := 855) (by decide +kernel), List.mem_of_getElem? (i := 856) (by decide +kernel)⟩
theorem lw_p23 : lw_okq (⟨"WaxClothModel", "isSquare", "(I)Z"⟩, 22) := ⟨⟨by decide +kernel, by decide +kernel⟩, List.mem_of_getElem? (i := 738) (by decide +kernel), List.mem_of_getElem? (i := 866) (by decide +kernel), List.mem_of_getElem? (i := 867) (by decide +kernel)⟩
theorem lw_p24 : lw_okq (⟨"WaxClothModel", "isDye", "(I)Z"⟩, 22) := ⟨⟨by decide +kernel, by decide +kernel⟩, List.mem_of_getElem? (i := 738) (by decide +kernel), List.mem_of_getElem? (i := 891) (by decide +kernel), List.mem_of_getElem? (i := 892) (by decide +kernel)⟩
theorem lw_p25 : lw_okq (⟨"WaxClothModel", "takenOn", "([IIII)I"⟩, 22) := ⟨⟨by decide +kernel, by decide +kernel⟩, List.mem_of_getElem? (i := 738) (by decide +kernel), List.mem_of_getElem? (i := 903) (by decide +kernel), List.mem_of_getElem? (i := 904) (by decide +kernel)⟩
theorem lw_p26 : lw_okq (⟨"WaxClothModel", "isDoing", "(J)Z"⟩, 22) := ⟨⟨by decide +kernel, by decide +kernel⟩, List.mem_of_getElem? (i := 738) (by decide +kernel), List.mem_of_getElem? (i := 917) (by decide +kernel), List.mem_of_getElem? (i := 918) (by decide +kernel)⟩
theorem lw_p27 : lw_okq (⟨"WaxClothModel", "doesAll", "([II)V"⟩, 22) := ⟨⟨by decide +kernel, by decide +kernel⟩, List.mem_of_getElem? (i := 738) (by decide +kernel), List.mem_of_getElem? (i := 924) (by decide +kernel), List.mem_of_getElem? (i := 925) (by decide +kernel)⟩
theorem lw_p28 : lw_okq (⟨"WaxClothModel", "doesOn", "([III)V"⟩, 22) := ⟨⟨by decide +kernel, by decide +kernel⟩, List.mem_of_getElem? (i := 738) (by decide +kernel), List.mem_of_getElem? (i := 928) (by decide +kernel), List.mem_of_getElem? (i := 929) (by decide +kernel)⟩
theorem lw_p29 : lw_okq (⟨"WaxClothModel", "bathes", "([III)V"⟩, 22) := ⟨⟨by decide +kernel, by decide +kernel⟩, List.mem_of_getElem? (i := 738) (by decide +kernel), List.mem_of_getElem? (i := 932) (by decide +kernel), List.mem_of_getElem? (i := 933) (by decide +kernel)⟩
theorem lw_p30 : lw_okq (⟨"WaxClothModel", "rinses", "([II)V"⟩, 22) := ⟨⟨by decide +kernel, by decide +kernel⟩, List.mem_of_getElem? (i := 738) (by decide +kernel), List.mem_of_getElem? (i := 942) (by decide +kernel), List.mem_of_getElem? (i := 943) (by decide +kernel)⟩
theorem lw_p31 : lw_okq (⟨"WaxClothModel", "rightOn", "([I)I"⟩, 22) := ⟨⟨by decide +kernel, by decide +kernel⟩, List.mem_of_getElem? (i := 738) (by decide +kernel), List.mem_of_getElem? (i := 946) (by decide +kernel), List.mem_of_getElem? (i := 947) (by decide +kernel)⟩
def lw_privs_2 : List (MethodName × Nat) := [(⟨"WaxClothModel", "eats", "(I)Z"⟩, 22), (⟨"WaxClothModel", "here", "()I"⟩, 22), (⟨"WaxClothModel", "readsSquare", "()Z"⟩, 22), (⟨"WaxClothModel", "figure", "(II)Z"⟩, 22), (⟨"WaxClothModel", "another", "(II)Z"⟩, 22), (⟨"WaxClothModel", "readsDye", "()Z"⟩, 22), (⟨"WaxClothModel", "readsStencil", "()Z"⟩, 22), (⟨"WaxClothModel", "isSquare", "(I)Z"⟩, 22), (⟨"WaxClothModel", "isDye", "(I)Z"⟩, 22), (⟨"WaxClothModel", "takenOn", "([IIII)I"⟩, 22), (⟨"WaxClothModel", "isDoing", "(J)Z"⟩, 22), (⟨"WaxClothModel", "doesAll", "([II)V"⟩, 22), (⟨"WaxClothModel", "doesOn", "([III)V"⟩, 22), (⟨"WaxClothModel", "bathes", "([III)V"⟩, 22), (⟨"WaxClothModel", "rinses", "([II)V"⟩, 22), (⟨"WaxClothModel", "rightOn", "([I)I"⟩, 22)]
theorem lw_r2 : ∀ q ∈ lw_privs_2, lw_okq q := List.forall_mem_cons.mpr ⟨lw_p16, List.forall_mem_cons.mpr ⟨lw_p17, List.forall_mem_cons.mpr ⟨lw_p18, List.forall_mem_cons.mpr ⟨lw_p19, List.forall_mem_cons.mpr ⟨lw_p20, List.forall_mem_cons.mpr ⟨lw_p21, List.forall_mem_cons.mpr ⟨lw_p22, List.forall_mem_cons.mpr ⟨lw_p23, List.forall_mem_cons.mpr ⟨lw_p24, List.forall_mem_cons.mpr ⟨lw_p25, List.forall_mem_cons.mpr ⟨lw_p26, List.forall_mem_cons.mpr ⟨lw_p27, List.forall_mem_cons.mpr ⟨lw_p28, List.forall_mem_cons.mpr ⟨lw_p29, List.forall_mem_cons.mpr ⟨lw_p30, List.forall_mem_cons.mpr ⟨lw_p31, fun _ h => absurd h List.not_mem_nil⟩⟩⟩⟩⟩⟩⟩⟩⟩⟩⟩⟩⟩⟩⟩⟩
theorem lw_p32 : lw_okq (⟨"WaxClothModel", "doingsThere", "()I"⟩, 22) := ⟨⟨by decide +kernel, by decide +kernel⟩, List.mem_of_getElem? (i := 738) (by decide +kernel), List.mem_of_getElem? (i := 972) (by decide +kernel), List.mem_of_getElem? (i := 973) (by decide +kernel)⟩
theorem lw_p33 : lw_okq (⟨"WaxClothModel", "laysAside", "()V"⟩, 22) := ⟨⟨by decide +kernel, by decide +kernel⟩, List.mem_of_getElem? (i := 738) (by decide +kernel), List.mem_of_getElem? (i := 976) (by decide +kernel), List.mem_of_getElem? (i := 977) (by decide +kernel)⟩
theorem lw_p34 : lw_okq (⟨"WaxClothModel", "doingOf", "(I)I"⟩, 22) := ⟨⟨by decide +kernel, by decide +kernel⟩, List.mem_of_getElem? (i := 738) (by decide +kernel), List.mem_of_getElem? (i := 980) (by decide +kernel), List.mem_of_getElem? (i := 981) (by decide +kernel)⟩
theorem lw_p35 : lw_okq (⟨"WaxClothModel", "shadeOf", "(III)I"⟩, 22) := ⟨⟨by decide +kernel, by decide +kernel⟩, List.mem_of_getElem? (i := 738) (by decide +kernel), List.mem_of_getElem? (i := 995) (by decide +kernel), List.mem_of_getElem? (i := 996) (by decide +kernel)⟩
theorem lw_p36 : lw_okq (⟨"WaxClothModel", "whitens", "(I)V"⟩, 22) := ⟨⟨by decide +kernel, by decide +kernel⟩, List.mem_of_getElem? (i := 738) (by decide +kernel), List.mem_of_getElem? (i := 999) (by decide +kernel), List.mem_of_getElem? (i := 1000) (by decide +kernel)⟩
theorem lw_p37 : lw_okq (⟨"WaxClothModel", "darkAll", "([I)I"⟩, 22) := ⟨⟨by decide +kernel, by decide +kernel⟩, List.mem_of_getElem? (i := 738) (by decide +kernel), List.mem_of_getElem? (i := 1019) (by decide +kernel), List.mem_of_getElem? (i := 1020) (by decide +kernel)⟩
theorem lw_p38 : lw_okq (⟨"WaxClothModel", "found", "(IIII)I"⟩, 22) := ⟨⟨by decide +kernel, by decide +kernel⟩, List.mem_of_getElem? (i := 738) (by decide +kernel), List.mem_of_getElem? (i := 1030) (by decide +kernel), List.mem_of_getElem? (i := 1031) (by decide +kernel)⟩
theorem lw_p39 : lw_okq (⟨"WaxClothModel", "areDoings", "(III)Z"⟩, 22) := ⟨⟨by decide +kernel, by decide +kernel⟩, List.mem_of_getElem? (i := 738) (by decide +kernel), List.mem_of_getElem? (i := 1038) (by decide +kernel), List.mem_of_getElem? (i := 1039) (by decide +kernel)⟩
theorem lw_p40 : lw_okq (⟨"WaxClothModel", "goesRound", "(IIII)V"⟩, 22) := ⟨⟨by decide +kernel, by decide +kernel⟩, List.mem_of_getElem? (i := 738) (by decide +kernel), List.mem_of_getElem? (i := 1046) (by decide +kernel), List.mem_of_getElem? (i := 1047) (by decide +kernel)⟩
theorem lw_p41 : lw_okq (⟨"WaxClothModel", "codeOf", "(I)I"⟩, 22) := ⟨⟨by decide +kernel, by decide +kernel⟩, List.mem_of_getElem? (i := 738) (by decide +kernel), List.mem_of_getElem? (i := 1050) (by decide +kernel), List.mem_of_getElem? (i := 1051) (by decide +kernel)⟩
def lw_privs_3 : List (MethodName × Nat) := [(⟨"WaxClothModel", "doingsThere", "()I"⟩, 22), (⟨"WaxClothModel", "laysAside", "()V"⟩, 22), (⟨"WaxClothModel", "doingOf", "(I)I"⟩, 22), (⟨"WaxClothModel", "shadeOf", "(III)I"⟩, 22), (⟨"WaxClothModel", "whitens", "(I)V"⟩, 22), (⟨"WaxClothModel", "darkAll", "([I)I"⟩, 22), (⟨"WaxClothModel", "found", "(IIII)I"⟩, 22), (⟨"WaxClothModel", "areDoings", "(III)Z"⟩, 22), (⟨"WaxClothModel", "goesRound", "(IIII)V"⟩, 22), (⟨"WaxClothModel", "codeOf", "(I)I"⟩, 22)]
theorem lw_r3 : ∀ q ∈ lw_privs_3, lw_okq q := List.forall_mem_cons.mpr ⟨lw_p32, List.forall_mem_cons.mpr ⟨lw_p33, List.forall_mem_cons.mpr ⟨lw_p34, List.forall_mem_cons.mpr ⟨lw_p35, List.forall_mem_cons.mpr ⟨lw_p36, List.forall_mem_cons.mpr ⟨lw_p37, List.forall_mem_cons.mpr ⟨lw_p38, List.forall_mem_cons.mpr ⟨lw_p39, List.forall_mem_cons.mpr ⟨lw_p40, List.forall_mem_cons.mpr ⟨lw_p41, fun _ h => absurd h List.not_mem_nil⟩⟩⟩⟩⟩⟩⟩⟩⟩⟩
def lw_privs : List (MethodName × Nat) := lw_privs_1 ++ (lw_privs_2 ++ (lw_privs_3))
def lw_tbl : List Cond := k2_sels lw_privs ++ tables_1
theorem lw_privs_ok : ∀ q ∈ lw_privs, lw_okq q := by
  show ∀ q ∈ lw_privs_1 ++ (lw_privs_2 ++ (lw_privs_3)), lw_okq q
  exact List.forall_mem_append.mpr ⟨lw_r1, List.forall_mem_append.mpr ⟨lw_r2, lw_r3⟩⟩
end
section
/-! ===== BEGIN words of one list among another's, by their places ===== -/
theorem goodIn_r {big : List Cond} (ws : List Cond) (ps : List Nat) (hp : ws = ps.filterMap (fun i => big[i]?)) (h : ws.all goodWord = true) : GoodIn big ws := by
  intro w hw
  have h1 := List.all_eq_true.mp h w hw
  rw [hp] at hw
  obtain ⟨i, -, hi⟩ := List.mem_filterMap.mp hw
  have hm : w ∈ big := by first | exact List.mem_of_getElem? hi | exact List.getElem?_mem hi
  exact ⟨hm, good_of_word h1⟩
theorem goodIn_app {big a b : List Cond} (ha : GoodIn big a) (hb : GoodIn big b) : GoodIn big (a ++ b) := fun w h => (List.mem_append.mp h).elim (ha w) (hb w)
theorem goodIn_ca {big a b : List Cond} {c : Cond} (ha : GoodIn big (c :: a)) (hb : GoodIn big b) : GoodIn big (c :: (a ++ b)) := fun w h => (List.mem_cons.mp h).elim (fun e => ha w (List.mem_cons.mpr (Or.inl e))) (fun h => (List.mem_append.mp h).elim (fun h => ha w (List.mem_cons.mpr (Or.inr h))) (hb w))
theorem goodIn_sub {big ws : List Cond} (hm : ∀ w ∈ ws, w ∈ big) (h : ws.all goodWord = true) : GoodIn big ws := fun w hw => ⟨hm w hw, good_of_word (List.all_eq_true.mp h w hw)⟩
/-! ===== END ===== -/

def RX0 : String := "WaxCloth$Baths"
def TX0 : u_T := fun k => match k with
  | 0 => ("WaxCloth$Baths", "found", "I", false)
  | 1 => ("WaxCloth$Baths", "unlike", "I", false)
  | 2 => ("WaxCloth$Baths", "first", "[I", true)
  | 3 => ("WaxCloth$Baths", "row", "[I", true)
  | _ => ("WaxCloth$Baths", "seen", "[J", true)
def tyX0 : Nat → FieldType := fun k => match k with
  | 0 => .int
  | 1 => .int
  | 2 => .array .int
  | 3 => .array .int
  | _ => .array .long
abbrev wsX00 : List Cond := u_ws RX0 TX0 5
theorem nmX0 : ∀ a, a < 5 → ∀ b, b < 5 → a ≠ b → (TX0 a).2.1 ≠ (TX0 b).2.1 := by decide +kernel
theorem tyX0_ok : ∀ k, k < 5 → parseFieldDescriptor (TX0 k).2.2.1 = some (tyX0 k) := by decide +kernel
abbrev cX0_init : ByteArray := prog_2_method_1_code
def yX0_init : MethodName := ⟨RX0, "<init>", "()V"⟩
abbrev cX0_walk : ByteArray := prog_2_method_2_code
def yX0_walk : MethodName := ⟨RX0, "walk", "(LWaxCloth$Cloth;III)V"⟩
abbrev cX0_bathe : ByteArray := prog_2_method_3_code
def yX0_bathe : MethodName := ⟨RX0, "bathe", "(LWaxCloth$Cloth;IIIII)V"⟩
abbrev cX0_note : ByteArray := prog_2_method_4_code
def yX0_note : MethodName := ⟨RX0, "note", "(III)V"⟩
def RX1 : String := "WaxCloth$Chances"
def TX1 : u_T := fun k => match k with
  | 0 => ("WaxCloth$Chances", "above", "I", false)
  | 1 => ("WaxCloth$Chances", "below", "I", false)
  | 2 => ("WaxCloth$Chances", "dark", "I", false)
  | 3 => ("WaxCloth$Chances", "rights", "I", false)
  | 4 => ("WaxCloth$Chances", "weights", "[I", true)
  | _ => ("WaxCloth$Chances", "states", "[I", true)
def tyX1 : Nat → FieldType := fun k => match k with
  | 0 => .int
  | 1 => .int
  | 2 => .int
  | 3 => .int
  | 4 => .array .int
  | _ => .array .int
abbrev wsX10 : List Cond := u_ws RX1 TX1 6
theorem nmX1 : ∀ a, a < 6 → ∀ b, b < 6 → a ≠ b → (TX1 a).2.1 ≠ (TX1 b).2.1 := by decide +kernel
theorem tyX1_ok : ∀ k, k < 6 → parseFieldDescriptor (TX1 k).2.2.1 = some (tyX1 k) := by decide +kernel
abbrev cX1_init : ByteArray := prog_3_method_1_code
def yX1_init : MethodName := ⟨RX1, "<init>", "()V"⟩
abbrev cX1_crack : ByteArray := prog_3_method_2_code
def yX1_crack : MethodName := ⟨RX1, "crack", "(LWaxCloth$Cloth;III)V"⟩
abbrev cX1_weigh : ByteArray := prog_3_method_3_code
def yX1_weigh : MethodName := ⟨RX1, "weigh", "(II)V"⟩
abbrev cX1_draw : ByteArray := prog_3_method_4_code
def yX1_draw : MethodName := ⟨RX1, "draw", "(LWaxCloth$Cloth;II)V"⟩
abbrev cX1_greatestCommon : ByteArray := prog_3_method_5_code
def yX1_greatestCommon : MethodName := ⟨RX1, "greatestCommon", "(II)I"⟩
def RX2 : String := "WaxCloth$Cloth"
def TX2 : u_T := fun k => match k with
  | 0 => ("WaxCloth$Cloth", "squares", "I", false)
  | 1 => ("WaxCloth$Cloth", "dyes", "I", false)
  | 2 => ("WaxCloth$Cloth", "stencils", "I", false)
  | 3 => ("WaxCloth$Cloth", "doings", "I", false)
  | 4 => ("WaxCloth$Cloth", "kindOf", "[I", true)
  | 5 => ("WaxCloth$Cloth", "wished", "[I", true)
  | 6 => ("WaxCloth$Cloth", "states", "[I", true)
  | 7 => ("WaxCloth$Cloth", "dyeAmounts", "[I", true)
  | _ => ("WaxCloth$Cloth", "stencilSets", "[I", true)
def tyX2 : Nat → FieldType := fun k => match k with
  | 0 => .int
  | 1 => .int
  | 2 => .int
  | 3 => .int
  | 4 => .array .int
  | 5 => .array .int
  | 6 => .array .int
  | 7 => .array .int
  | _ => .array .int
abbrev wsX20 : List Cond := u_ws RX2 TX2 9
theorem nmX2 : ∀ a, a < 9 → ∀ b, b < 9 → a ≠ b → (TX2 a).2.1 ≠ (TX2 b).2.1 := by decide +kernel
theorem tyX2_ok : ∀ k, k < 9 → parseFieldDescriptor (TX2 k).2.2.1 = some (tyX2 k) := by decide +kernel
abbrev cX2_init : ByteArray := prog_4_method_1_code
def yX2_init : MethodName := ⟨RX2, "<init>", "()V"⟩
abbrev cX2_stands : ByteArray := prog_4_method_2_code
def yX2_stands : MethodName := ⟨RX2, "stands", "()Z"⟩
abbrev cX2_become : ByteArray := prog_4_method_3_code
def yX2_become : MethodName := ⟨RX2, "become", "(LWaxCloth$Cloth;)V"⟩
abbrev cX2_hasSquare : ByteArray := prog_4_method_4_code
def yX2_hasSquare : MethodName := ⟨RX2, "hasSquare", "(I)Z"⟩
abbrev cX2_hasDye : ByteArray := prog_4_method_5_code
def yX2_hasDye : MethodName := ⟨RX2, "hasDye", "(I)Z"⟩
abbrev cX2_hasStencil : ByteArray := prog_4_method_6_code
def yX2_hasStencil : MethodName := ⟨RX2, "hasStencil", "(I)Z"⟩
abbrev cX2_hasDoing : ByteArray := prog_4_method_7_code
def yX2_hasDoing : MethodName := ⟨RX2, "hasDoing", "(J)Z"⟩
abbrev cX2_doingCount : ByteArray := prog_4_method_8_code
def yX2_doingCount : MethodName := ⟨RX2, "doingCount", "()I"⟩
abbrev cX2_nthDoing : ByteArray := prog_4_method_9_code
def yX2_nthDoing : MethodName := ⟨RX2, "nthDoing", "(I)I"⟩
abbrev cX2_amountInDye : ByteArray := prog_4_method_10_code
def yX2_amountInDye : MethodName := ⟨RX2, "amountInDye", "(II)I"⟩
abbrev cX2_gain : ByteArray := prog_4_method_11_code
def yX2_gain : MethodName := ⟨RX2, "gain", "(IIII)I"⟩
abbrev cX2_after : ByteArray := prog_4_method_12_code
def yX2_after : MethodName := ⟨RX2, "after", "(III)I"⟩
abbrev cX2_dyed : ByteArray := prog_4_method_13_code
def yX2_dyed : MethodName := ⟨RX2, "dyed", "(III)I"⟩
abbrev cX2_cracked : ByteArray := prog_4_method_14_code
def yX2_cracked : MethodName := ⟨RX2, "cracked", "(II)I"⟩
abbrev cX2_rinsed : ByteArray := prog_4_method_15_code
def yX2_rinsed : MethodName := ⟨RX2, "rinsed", "(I)I"⟩
abbrev cX2_afterRow : ByteArray := prog_4_method_16_code
def yX2_afterRow : MethodName := ⟨RX2, "afterRow", "(II[II)I"⟩
abbrev cX2_apply : ByteArray := prog_4_method_17_code
def yX2_apply : MethodName := ⟨RX2, "apply", "(I[I[I)Z"⟩
abbrev cX2_isRight : ByteArray := prog_4_method_18_code
def yX2_isRight : MethodName := ⟨RX2, "isRight", "(II)Z"⟩
abbrev cX2_rightSet : ByteArray := prog_4_method_19_code
def yX2_rightSet : MethodName := ⟨RX2, "rightSet", "([I)I"⟩
abbrev cX2_rightCount : ByteArray := prog_4_method_20_code
def yX2_rightCount : MethodName := ⟨RX2, "rightCount", "([I)I"⟩
abbrev cX2_darknessOf : ByteArray := prog_4_method_21_code
def yX2_darknessOf : MethodName := ⟨RX2, "darknessOf", "([I)I"⟩
abbrev cX2_waxedSet : ByteArray := prog_4_method_22_code
def yX2_waxedSet : MethodName := ⟨RX2, "waxedSet", "()I"⟩
def RX3 : String := "WaxCloth$Kind"
def TX3 : u_T := fun k => match k with
  | _ => ("", "", "", false)
def tyX3 : Nat → FieldType := fun k => match k with
  | _ => .int
abbrev wsX30 : List Cond := u_ws RX3 TX3 0
theorem nmX3 : ∀ a, a < 0 → ∀ b, b < 0 → a ≠ b → (TX3 a).2.1 ≠ (TX3 b).2.1 := by decide +kernel
theorem tyX3_ok : ∀ k, k < 0 → parseFieldDescriptor (TX3 k).2.2.1 = some (tyX3 k) := by decide +kernel
abbrev cX3_ofLetter : ByteArray := prog_5_method_2_code
def yX3_ofLetter : MethodName := ⟨RX3, "ofLetter", "(I)I"⟩
abbrev cX3_isUnder : ByteArray := prog_5_method_3_code
def yX3_isUnder : MethodName := ⟨RX3, "isUnder", "(II)Z"⟩
abbrev cX3_taken : ByteArray := prog_5_method_4_code
def yX3_taken : MethodName := ⟨RX3, "taken", "(III)I"⟩
abbrev cX3_layersCracked : ByteArray := prog_5_method_5_code
def yX3_layersCracked : MethodName := ⟨RX3, "layersCracked", "(I)I"⟩
abbrev cX3_thatTake : ByteArray := prog_5_method_6_code
def yX3_thatTake : MethodName := ⟨RX3, "thatTake", "(IIIJ)I"⟩
abbrev cX3_bestTry : ByteArray := prog_5_method_7_code
def yX3_bestTry : MethodName := ⟨RX3, "bestTry", "(II)I"⟩
abbrev cX3_greatestPart : ByteArray := prog_5_method_8_code
def yX3_greatestPart : MethodName := ⟨RX3, "greatestPart", "(III)I"⟩
def RX4 : String := "WaxCloth$Past"
def TX4 : u_T := fun k => match k with
  | 0 => ("WaxCloth$Past", "held", "I", false)
  | 1 => ("WaxCloth$Past", "next", "I", false)
  | _ => ("WaxCloth$Past", "ring", "[[I", true)
def tyX4 : Nat → FieldType := fun k => match k with
  | 0 => .int
  | 1 => .int
  | _ => .array (.array .int)
abbrev wsX40 : List Cond := u_ws RX4 TX4 3
theorem nmX4 : ∀ a, a < 3 → ∀ b, b < 3 → a ≠ b → (TX4 a).2.1 ≠ (TX4 b).2.1 := by decide +kernel
theorem tyX4_ok : ∀ k, k < 3 → parseFieldDescriptor (TX4 k).2.2.1 = some (tyX4 k) := by decide +kernel
abbrev cX4_init : ByteArray := prog_6_method_1_code
def yX4_init : MethodName := ⟨RX4, "<init>", "()V"⟩
abbrev cX4_forget : ByteArray := prog_6_method_2_code
def yX4_forget : MethodName := ⟨RX4, "forget", "()V"⟩
abbrev cX4_keep : ByteArray := prog_6_method_3_code
def yX4_keep : MethodName := ⟨RX4, "keep", "([I)V"⟩
abbrev cX4_takeBack : ByteArray := prog_6_method_4_code
def yX4_takeBack : MethodName := ⟨RX4, "takeBack", "([I)Z"⟩
def RX5 : String := "WaxCloth$Planner"
def TX5 : u_T := fun k => match k with
  | 0 => ("WaxCloth$Planner", "bestRight", "I", false)
  | 1 => ("WaxCloth$Planner", "bestLength", "I", false)
  | 2 => ("WaxCloth$Planner", "best", "[I", true)
  | 3 => ("WaxCloth$Planner", "row", "[I", true)
  | _ => ("WaxCloth$Planner", "levels", "[[I", true)
def tyX5 : Nat → FieldType := fun k => match k with
  | 0 => .int
  | 1 => .int
  | 2 => .array .int
  | 3 => .array .int
  | _ => .array (.array .int)
abbrev wsX50 : List Cond := u_ws RX5 TX5 5
theorem nmX5 : ∀ a, a < 5 → ∀ b, b < 5 → a ≠ b → (TX5 a).2.1 ≠ (TX5 b).2.1 := by decide +kernel
theorem tyX5_ok : ∀ k, k < 5 → parseFieldDescriptor (TX5 k).2.2.1 = some (tyX5 k) := by decide +kernel
abbrev cX5_init : ByteArray := prog_7_method_1_code
def yX5_init : MethodName := ⟨RX5, "<init>", "()V"⟩
abbrev cX5_search : ByteArray := prog_7_method_2_code
def yX5_search : MethodName := ⟨RX5, "search", "(LWaxCloth$Cloth;I)V"⟩
abbrev cX5_extend : ByteArray := prog_7_method_3_code
def yX5_extend : MethodName := ⟨RX5, "extend", "(LWaxCloth$Cloth;II)V"⟩
abbrev cX5_isWaxOnly : ByteArray := prog_7_method_4_code
def yX5_isWaxOnly : MethodName := ⟨RX5, "isWaxOnly", "(I)Z"⟩
abbrev cX5_judge : ByteArray := prog_7_method_5_code
def yX5_judge : MethodName := ⟨RX5, "judge", "(II)V"⟩
def RX6 : String := "WaxCloth$Reader"
def TX6 : u_T := fun k => match k with
  | 0 => ("WaxCloth$Reader", "result", "LWaxCloth$Cloth;", true)
  | 1 => ("WaxCloth$Reader", "place", "I", false)
  | _ => ("WaxCloth$Reader", "source", "LWaxCloth$Tape;", true)
def tyX6 : Nat → FieldType := fun k => match k with
  | 0 => .object "WaxCloth$Cloth"
  | 1 => .int
  | _ => .object "WaxCloth$Tape"
abbrev wsX60 : List Cond := u_ws RX6 TX6 3
theorem nmX6 : ∀ a, a < 3 → ∀ b, b < 3 → a ≠ b → (TX6 a).2.1 ≠ (TX6 b).2.1 := by decide +kernel
theorem tyX6_ok : ∀ k, k < 3 → parseFieldDescriptor (TX6 k).2.2.1 = some (tyX6 k) := by decide +kernel
abbrev cX6_init : ByteArray := prog_8_method_1_code
def yX6_init : MethodName := ⟨RX6, "<init>", "(LWaxCloth$Tape;)V"⟩
abbrev cX6_read : ByteArray := prog_8_method_2_code
def yX6_read : MethodName := ⟨RX6, "read", "()Z"⟩
abbrev cX6_sign : ByteArray := prog_8_method_3_code
def yX6_sign : MethodName := ⟨RX6, "sign", "(I)Z"⟩
abbrev cX6_figure : ByteArray := prog_8_method_4_code
def yX6_figure : MethodName := ⟨RX6, "figure", "(II)I"⟩
abbrev cX6_readSquares : ByteArray := prog_8_method_5_code
def yX6_readSquares : MethodName := ⟨RX6, "readSquares", "()Z"⟩
abbrev cX6_readSquare : ByteArray := prog_8_method_6_code
def yX6_readSquare : MethodName := ⟨RX6, "readSquare", "(I)Z"⟩
abbrev cX6_readDyes : ByteArray := prog_8_method_7_code
def yX6_readDyes : MethodName := ⟨RX6, "readDyes", "()Z"⟩
abbrev cX6_readDye : ByteArray := prog_8_method_8_code
def yX6_readDye : MethodName := ⟨RX6, "readDye", "(I)Z"⟩
abbrev cX6_readStencils : ByteArray := prog_8_method_9_code
def yX6_readStencils : MethodName := ⟨RX6, "readStencils", "()Z"⟩
abbrev cX6_readStencil : ByteArray := prog_8_method_10_code
def yX6_readStencil : MethodName := ⟨RX6, "readStencil", "()I"⟩
def RX7 : String := "WaxCloth$Rounds"
def TX7 : u_T := fun k => match k with
  | 0 => ("WaxCloth$Rounds", "lead", "I", false)
  | _ => ("WaxCloth$Rounds", "lap", "I", false)
def tyX7 : Nat → FieldType := fun k => match k with
  | 0 => .int
  | _ => .int
abbrev wsX70 : List Cond := u_ws RX7 TX7 2
theorem nmX7 : ∀ a, a < 2 → ∀ b, b < 2 → a ≠ b → (TX7 a).2.1 ≠ (TX7 b).2.1 := by decide +kernel
theorem tyX7_ok : ∀ k, k < 2 → parseFieldDescriptor (TX7 k).2.2.1 = some (tyX7 k) := by decide +kernel
abbrev cX7_init : ByteArray := prog_9_method_1_code
def yX7_init : MethodName := ⟨RX7, "<init>", "()V"⟩
abbrev cX7_measure : ByteArray := prog_9_method_2_code
def yX7_measure : MethodName := ⟨RX7, "measure", "(LWaxCloth$Cloth;[II)V"⟩
abbrev cX7_lapOf : ByteArray := prog_9_method_3_code
def yX7_lapOf : MethodName := ⟨RX7, "lapOf", "(LWaxCloth$Cloth;I[II)I"⟩
abbrev cX7_leadOf : ByteArray := prog_9_method_4_code
def yX7_leadOf : MethodName := ⟨RX7, "leadOf", "(LWaxCloth$Cloth;I[III)I"⟩
def RX8 : String := "WaxCloth$Sheet"
def TX8 : u_T := fun k => match k with
  | 0 => ("WaxCloth$Sheet", "lane", "I", false)
  | 1 => ("WaxCloth$Sheet", "size", "I", false)
  | _ => ("WaxCloth$Sheet", "items", "[J", true)
def tyX8 : Nat → FieldType := fun k => match k with
  | 0 => .int
  | 1 => .int
  | _ => .array .long
abbrev wsX80 : List Cond := u_ws RX8 TX8 3
theorem nmX8 : ∀ a, a < 3 → ∀ b, b < 3 → a ≠ b → (TX8 a).2.1 ≠ (TX8 b).2.1 := by decide +kernel
theorem tyX8_ok : ∀ k, k < 3 → parseFieldDescriptor (TX8 k).2.2.1 = some (tyX8 k) := by decide +kernel
abbrev cX8_init : ByteArray := prog_10_method_1_code
def yX8_init : MethodName := ⟨RX8, "<init>", "()V"⟩
abbrev cX8_isLane : ByteArray := prog_10_method_2_code
def yX8_isLane : MethodName := ⟨RX8, "isLane", "(I)Z"⟩
abbrev cX8_isNothing : ByteArray := prog_10_method_3_code
def yX8_isNothing : MethodName := ⟨RX8, "isNothing", "()Z"⟩
abbrev cX8_begin : ByteArray := prog_10_method_4_code
def yX8_begin : MethodName := ⟨RX8, "begin", "(II)V"⟩
abbrev cX8_end : ByteArray := prog_10_method_5_code
def yX8_end : MethodName := ⟨RX8, "end", "()I"⟩
abbrev cX8_holds : ByteArray := prog_10_method_6_code
def yX8_holds : MethodName := ⟨RX8, "holds", "(II)Z"⟩
abbrev cX8_refusal : ByteArray := prog_10_method_7_code
def yX8_refusal : MethodName := ⟨RX8, "refusal", "(III)I"⟩
abbrev cX8_put : ByteArray := prog_10_method_8_code
def yX8_put : MethodName := ⟨RX8, "put", "(IJ)J"⟩
def RX9 : String := "WaxCloth$State"
def TX9 : u_T := fun k => match k with
  | _ => ("", "", "", false)
def tyX9 : Nat → FieldType := fun k => match k with
  | _ => .int
abbrev wsX90 : List Cond := u_ws RX9 TX9 0
theorem nmX9 : ∀ a, a < 0 → ∀ b, b < 0 → a ≠ b → (TX9 a).2.1 ≠ (TX9 b).2.1 := by decide +kernel
theorem tyX9_ok : ∀ k, k < 0 → parseFieldDescriptor (TX9 k).2.2.1 = some (tyX9 k) := by decide +kernel
abbrev cX9_isColour : ByteArray := prog_11_method_2_code
def yX9_isColour : MethodName := ⟨RX9, "isColour", "(I)Z"⟩
abbrev cX9_isAmount : ByteArray := prog_11_method_3_code
def yX9_isAmount : MethodName := ⟨RX9, "isAmount", "(I)Z"⟩
abbrev cX9_ofShade : ByteArray := prog_11_method_4_code
def yX9_ofShade : MethodName := ⟨RX9, "ofShade", "(III)I"⟩
abbrev cX9_amountOf : ByteArray := prog_11_method_5_code
def yX9_amountOf : MethodName := ⟨RX9, "amountOf", "(II)I"⟩
abbrev cX9_withMore : ByteArray := prog_11_method_6_code
def yX9_withMore : MethodName := ⟨RX9, "withMore", "(III)I"⟩
abbrev cX9_waxIn : ByteArray := prog_11_method_7_code
def yX9_waxIn : MethodName := ⟨RX9, "waxIn", "(I)I"⟩
abbrev cX9_withWax : ByteArray := prog_11_method_8_code
def yX9_withWax : MethodName := ⟨RX9, "withWax", "(II)I"⟩
abbrev cX9_hueOf : ByteArray := prog_11_method_9_code
def yX9_hueOf : MethodName := ⟨RX9, "hueOf", "(I)I"⟩
abbrev cX9_darkness : ByteArray := prog_11_method_10_code
def yX9_darkness : MethodName := ⟨RX9, "darkness", "(I)I"⟩
def RX10 : String := "WaxCloth$Tape"
def TX10 : u_T := fun k => match k with
  | 0 => ("WaxCloth$Tape", "length", "I", false)
  | _ => ("WaxCloth$Tape", "bytes", "[I", true)
def tyX10 : Nat → FieldType := fun k => match k with
  | 0 => .int
  | _ => .array .int
abbrev wsX100 : List Cond := u_ws RX10 TX10 2
theorem nmX10 : ∀ a, a < 2 → ∀ b, b < 2 → a ≠ b → (TX10 a).2.1 ≠ (TX10 b).2.1 := by decide +kernel
theorem tyX10_ok : ∀ k, k < 2 → parseFieldDescriptor (TX10 k).2.2.1 = some (tyX10 k) := by decide +kernel
abbrev cX10_init : ByteArray := prog_12_method_1_code
def yX10_init : MethodName := ⟨RX10, "<init>", "()V"⟩
abbrev cX10_put : ByteArray := prog_12_method_2_code
def yX10_put : MethodName := ⟨RX10, "put", "(I)Z"⟩
abbrev cX10_at : ByteArray := prog_12_method_3_code
def yX10_at : MethodName := ⟨RX10, "at", "(I)I"⟩
def RX11 : String := "WaxCloth"
def TX11 : u_T := fun k => match k with
  | 0 => ("WaxCloth", "tape", "LWaxCloth$Tape;", true)
  | 1 => ("WaxCloth", "reader", "LWaxCloth$Reader;", true)
  | 2 => ("WaxCloth", "now", "LWaxCloth$Cloth;", true)
  | 3 => ("WaxCloth", "past", "LWaxCloth$Past;", true)
  | 4 => ("WaxCloth", "kept", "[LWaxCloth$Cloth;", true)
  | 5 => ("WaxCloth", "shelf", "[LWaxCloth$Sheet;", true)
  | 6 => ("WaxCloth", "planner", "LWaxCloth$Planner;", true)
  | 7 => ("WaxCloth", "baths", "LWaxCloth$Baths;", true)
  | 8 => ("WaxCloth", "chances", "LWaxCloth$Chances;", true)
  | 9 => ("WaxCloth", "rounds", "LWaxCloth$Rounds;", true)
  | _ => ("WaxCloth", "doingRow", "[I", true)
def tyX11 : Nat → FieldType := fun k => match k with
  | 0 => .object "WaxCloth$Tape"
  | 1 => .object "WaxCloth$Reader"
  | 2 => .object "WaxCloth$Cloth"
  | 3 => .object "WaxCloth$Past"
  | 4 => .array (.object "WaxCloth$Cloth")
  | 5 => .array (.object "WaxCloth$Sheet")
  | 6 => .object "WaxCloth$Planner"
  | 7 => .object "WaxCloth$Baths"
  | 8 => .object "WaxCloth$Chances"
  | 9 => .object "WaxCloth$Rounds"
  | _ => .array .int
abbrev wsX110 : List Cond := u_ws RX11 TX11 11
theorem nmX11 : ∀ a, a < 11 → ∀ b, b < 11 → a ≠ b → (TX11 a).2.1 ≠ (TX11 b).2.1 := by decide +kernel
theorem tyX11_ok : ∀ k, k < 11 → parseFieldDescriptor (TX11 k).2.2.1 = some (tyX11 k) := by decide +kernel
abbrev cX11_init : ByteArray := prog_1_method_1_code
def yX11_init : MethodName := ⟨RX11, "<init>", "()V"⟩
abbrev cX11_feed : ByteArray := prog_1_method_2_code
def yX11_feed : MethodName := ⟨RX11, "feed", "(I)I"⟩
abbrev cX11_cloth : ByteArray := prog_1_method_3_code
def yX11_cloth : MethodName := ⟨RX11, "cloth", "()I"⟩
abbrev cX11_square : ByteArray := prog_1_method_4_code
def yX11_square : MethodName := ⟨RX11, "square", "(II)I"⟩
abbrev cX11_as : ByteArray := prog_1_method_5_code
def yX11_as : MethodName := ⟨RX11, "as", "(II)I"⟩
abbrev cX11_dye : ByteArray := prog_1_method_6_code
def yX11_dye : MethodName := ⟨RX11, "dye", "(II)I"⟩
abbrev cX11_stencil : ByteArray := prog_1_method_7_code
def yX11_stencil : MethodName := ⟨RX11, "stencil", "(I)I"⟩
abbrev cX11_takes : ByteArray := prog_1_method_8_code
def yX11_takes : MethodName := ⟨RX11, "takes", "(III)I"⟩
abbrev cX11_does : ByteArray := prog_1_method_9_code
def yX11_does : MethodName := ⟨RX11, "does", "(I)I"⟩
abbrev cX11_undo : ByteArray := prog_1_method_10_code
def yX11_undo : MethodName := ⟨RX11, "undo", "()I"⟩
abbrev cX11_wish : ByteArray := prog_1_method_11_code
def yX11_wish : MethodName := ⟨RX11, "wish", "(II)I"⟩
abbrev cX11_image : ByteArray := prog_1_method_12_code
def yX11_image : MethodName := ⟨RX11, "image", "(I)I"⟩
abbrev cX11_restore : ByteArray := prog_1_method_13_code
def yX11_restore : MethodName := ⟨RX11, "restore", "(I)I"⟩
abbrev cX11_plan : ByteArray := prog_1_method_14_code
def yX11_plan : MethodName := ⟨RX11, "plan", "(II)I"⟩
abbrev cX11_rows : ByteArray := prog_1_method_15_code
def yX11_rows : MethodName := ⟨RX11, "rows", "(IIIIII)I"⟩
abbrev cX11_shades : ByteArray := prog_1_method_16_code
def yX11_shades : MethodName := ⟨RX11, "shades", "(II)I"⟩
abbrev cX11_cracks : ByteArray := prog_1_method_17_code
def yX11_cracks : MethodName := ⟨RX11, "cracks", "(IIII)I"⟩
abbrev cX11_decades : ByteArray := prog_1_method_18_code
def yX11_decades : MethodName := ⟨RX11, "decades", "(III)I"⟩
abbrev cX11_sheet : ByteArray := prog_1_method_19_code
def yX11_sheet : MethodName := ⟨RX11, "sheet", "(III)I"⟩
abbrev cX11_drop : ByteArray := prog_1_method_20_code
def yX11_drop : MethodName := ⟨RX11, "drop", "(I)I"⟩
abbrev cX11_item : ByteArray := prog_1_method_21_code
def yX11_item : MethodName := ⟨RX11, "item", "(IIIJ)J"⟩
abbrev cX11_copy : ByteArray := prog_1_method_22_code
def yX11_copy : MethodName := ⟨RX11, "copy", "(IIIII)I"⟩
abbrev cX11_log : ByteArray := prog_1_method_23_code
def yX11_log : MethodName := ⟨RX11, "log", "(III)I"⟩
abbrev cX11_ahead : ByteArray := prog_1_method_24_code
def yX11_ahead : MethodName := ⟨RX11, "ahead", "(IIIIII)I"⟩
abbrev cX11_round : ByteArray := prog_1_method_25_code
def yX11_round : MethodName := ⟨RX11, "round", "(IIIII)I"⟩
abbrev cX11_kinds : ByteArray := prog_1_method_26_code
def yX11_kinds : MethodName := ⟨RX11, "kinds", "(IIIII)I"⟩
abbrev cX11_wishes : ByteArray := prog_1_method_27_code
def yX11_wishes : MethodName := ⟨RX11, "wishes", "(III)I"⟩
abbrev cX11_count : ByteArray := prog_1_method_28_code
def yX11_count : MethodName := ⟨RX11, "count", "(I)I"⟩
abbrev cX11_isSheet : ByteArray := prog_1_method_29_code
def yX11_isSheet : MethodName := ⟨RX11, "isSheet", "(I)Z"⟩
abbrev cX11_takeDoings : ByteArray := prog_1_method_30_code
def yX11_takeDoings : MethodName := ⟨RX11, "takeDoings", "(IIII)I"⟩
abbrev cX11_areTriples : ByteArray := prog_1_method_31_code
def yX11_areTriples : MethodName := ⟨RX11, "areTriples", "(LWaxCloth$Sheet;II)Z"⟩
abbrev cX11_kindsByTriples : ByteArray := prog_1_method_32_code
def yX11_kindsByTriples : MethodName := ⟨RX11, "kindsByTriples", "(LWaxCloth$Sheet;II)I"⟩
def RX12 : String := "WaxClothModel"
def TX12 : u_T := fun k => match k with
  | 0 => ("WaxClothModel", "cloth", "[I", true)
  | 1 => ("WaxClothModel", "read", "[I", true)
  | 2 => ("WaxClothModel", "readWish", "[I", true)
  | 3 => ("WaxClothModel", "now", "[I", true)
  | 4 => ("WaxClothModel", "aside", "[I", true)
  | 5 => ("WaxClothModel", "doings", "I", false)
  | 6 => ("WaxClothModel", "past", "[I", true)
  | 7 => ("WaxClothModel", "undos", "I", false)
  | 8 => ("WaxClothModel", "images", "[I", true)
  | 9 => ("WaxClothModel", "isKept", "[Z", true)
  | 10 => ("WaxClothModel", "tape", "[I", true)
  | 11 => ("WaxClothModel", "fed", "I", false)
  | 12 => ("WaxClothModel", "sizes", "[I", true)
  | 13 => ("WaxClothModel", "lanes", "[I", true)
  | 14 => ("WaxClothModel", "items", "[J", true)
  | 15 => ("WaxClothModel", "at", "I", false)
  | 16 => ("WaxClothModel", "value", "I", false)
  | 17 => ("WaxClothModel", "met", "[Z", true)
  | 18 => ("WaxClothModel", "weights", "[J", true)
  | 19 => ("WaxClothModel", "since", "[I", true)
  | 20 => ("WaxClothModel", "roundsAhead", "I", false)
  | _ => ("WaxClothModel", "length", "I", false)
def tyX12 : Nat → FieldType := fun k => match k with
  | 0 => .array .int
  | 1 => .array .int
  | 2 => .array .int
  | 3 => .array .int
  | 4 => .array .int
  | 5 => .int
  | 6 => .array .int
  | 7 => .int
  | 8 => .array .int
  | 9 => .array .boolean
  | 10 => .array .int
  | 11 => .int
  | 12 => .array .int
  | 13 => .array .int
  | 14 => .array .long
  | 15 => .int
  | 16 => .int
  | 17 => .array .boolean
  | 18 => .array .long
  | 19 => .array .int
  | 20 => .int
  | _ => .int
abbrev wsX120 : List Cond := u_ws RX12 TX12 22
theorem nmX12 : ∀ a, a < 22 → ∀ b, b < 22 → a ≠ b → (TX12 a).2.1 ≠ (TX12 b).2.1 := by decide +kernel
theorem tyX12_ok : ∀ k, k < 22 → parseFieldDescriptor (TX12 k).2.2.1 = some (tyX12 k) := by decide +kernel
abbrev cX12_init : ByteArray := prog_14_method_1_code
def yX12_init : MethodName := ⟨RX12, "<init>", "()V"⟩
abbrev cX12_in : ByteArray := prog_14_method_3_code
def yX12_in : MethodName := ⟨RX12, "in", "(JJJ)Z"⟩
abbrev cX12_has : ByteArray := prog_14_method_4_code
def yX12_has : MethodName := ⟨RX12, "has", "(II)Z"⟩
abbrev cX12_bits : ByteArray := prog_14_method_5_code
def yX12_bits : MethodName := ⟨RX12, "bits", "(I)I"⟩
abbrev cX12_copies : ByteArray := prog_14_method_6_code
def yX12_copies : MethodName := ⟨RX12, "copies", "([II[III)V"⟩
abbrev cX12_less : ByteArray := prog_14_method_7_code
def yX12_less : MethodName := ⟨RX12, "less", "(II)I"⟩
abbrev cX12_feed : ByteArray := prog_14_method_8_code
def yX12_feed : MethodName := ⟨RX12, "feed", "(I)I"⟩
abbrev cX12_here : ByteArray := prog_14_method_9_code
def yX12_here : MethodName := ⟨RX12, "here", "()I"⟩
abbrev cX12_eats : ByteArray := prog_14_method_10_code
def yX12_eats : MethodName := ⟨RX12, "eats", "(I)Z"⟩
abbrev cX12_figure : ByteArray := prog_14_method_11_code
def yX12_figure : MethodName := ⟨RX12, "figure", "(II)Z"⟩
abbrev cX12_kindBy : ByteArray := prog_14_method_12_code
def yX12_kindBy : MethodName := ⟨RX12, "kindBy", "(I)I"⟩
abbrev cX12_readsSquare : ByteArray := prog_14_method_13_code
def yX12_readsSquare : MethodName := ⟨RX12, "readsSquare", "()Z"⟩
abbrev cX12_readsDye : ByteArray := prog_14_method_14_code
def yX12_readsDye : MethodName := ⟨RX12, "readsDye", "()Z"⟩
abbrev cX12_readsStencil : ByteArray := prog_14_method_15_code
def yX12_readsStencil : MethodName := ⟨RX12, "readsStencil", "()Z"⟩
abbrev cX12_another : ByteArray := prog_14_method_16_code
def yX12_another : MethodName := ⟨RX12, "another", "(II)Z"⟩
abbrev cX12_reads : ByteArray := prog_14_method_17_code
def yX12_reads : MethodName := ⟨RX12, "reads", "()Z"⟩
abbrev cX12_cloth : ByteArray := prog_14_method_18_code
def yX12_cloth : MethodName := ⟨RX12, "cloth", "()I"⟩
abbrev cX12_isSquare : ByteArray := prog_14_method_19_code
def yX12_isSquare : MethodName := ⟨RX12, "isSquare", "(I)Z"⟩
abbrev cX12_isDye : ByteArray := prog_14_method_20_code
def yX12_isDye : MethodName := ⟨RX12, "isDye", "(I)Z"⟩
abbrev cX12_hueOf : ByteArray := prog_14_method_21_code
def yX12_hueOf : MethodName := ⟨RX12, "hueOf", "([II)I"⟩
abbrev cX12_darkOf : ByteArray := prog_14_method_22_code
def yX12_darkOf : MethodName := ⟨RX12, "darkOf", "([II)I"⟩
abbrev cX12_isRight : ByteArray := prog_14_method_23_code
def yX12_isRight : MethodName := ⟨RX12, "isRight", "([II)Z"⟩
abbrev cX12_rightOn : ByteArray := prog_14_method_24_code
def yX12_rightOn : MethodName := ⟨RX12, "rightOn", "([I)I"⟩
abbrev cX12_darkAll : ByteArray := prog_14_method_25_code
def yX12_darkAll : MethodName := ⟨RX12, "darkAll", "([I)I"⟩
abbrev cX12_takenBy : ByteArray := prog_14_method_26_code
def yX12_takenBy : MethodName := ⟨RX12, "takenBy", "(III)I"⟩
abbrev cX12_takenOn : ByteArray := prog_14_method_27_code
def yX12_takenOn : MethodName := ⟨RX12, "takenOn", "([IIII)I"⟩
abbrev cX12_cracksOn : ByteArray := prog_14_method_28_code
def yX12_cracksOn : MethodName := ⟨RX12, "cracksOn", "(I)I"⟩
abbrev cX12_bathes : ByteArray := prog_14_method_29_code
def yX12_bathes : MethodName := ⟨RX12, "bathes", "([III)V"⟩
abbrev cX12_rinses : ByteArray := prog_14_method_30_code
def yX12_rinses : MethodName := ⟨RX12, "rinses", "([II)V"⟩
abbrev cX12_isDoing : ByteArray := prog_14_method_31_code
def yX12_isDoing : MethodName := ⟨RX12, "isDoing", "(J)Z"⟩
abbrev cX12_doesOn : ByteArray := prog_14_method_32_code
def yX12_doesOn : MethodName := ⟨RX12, "doesOn", "([III)V"⟩
abbrev cX12_doesAll : ByteArray := prog_14_method_33_code
def yX12_doesAll : MethodName := ⟨RX12, "doesAll", "([II)V"⟩
abbrev cX12_square : ByteArray := prog_14_method_34_code
def yX12_square : MethodName := ⟨RX12, "square", "(II)I"⟩
abbrev cX12_as : ByteArray := prog_14_method_35_code
def yX12_as : MethodName := ⟨RX12, "as", "(II)I"⟩
abbrev cX12_dye : ByteArray := prog_14_method_36_code
def yX12_dye : MethodName := ⟨RX12, "dye", "(II)I"⟩
abbrev cX12_stencil : ByteArray := prog_14_method_37_code
def yX12_stencil : MethodName := ⟨RX12, "stencil", "(I)I"⟩
abbrev cX12_takes : ByteArray := prog_14_method_38_code
def yX12_takes : MethodName := ⟨RX12, "takes", "(III)I"⟩
abbrev cX12_does : ByteArray := prog_14_method_39_code
def yX12_does : MethodName := ⟨RX12, "does", "(I)I"⟩
abbrev cX12_undo : ByteArray := prog_14_method_40_code
def yX12_undo : MethodName := ⟨RX12, "undo", "()I"⟩
abbrev cX12_wish : ByteArray := prog_14_method_41_code
def yX12_wish : MethodName := ⟨RX12, "wish", "(II)I"⟩
abbrev cX12_image : ByteArray := prog_14_method_42_code
def yX12_image : MethodName := ⟨RX12, "image", "(I)I"⟩
abbrev cX12_restore : ByteArray := prog_14_method_43_code
def yX12_restore : MethodName := ⟨RX12, "restore", "(I)I"⟩
abbrev cX12_laysAside : ByteArray := prog_14_method_44_code
def yX12_laysAside : MethodName := ⟨RX12, "laysAside", "()V"⟩
abbrev cX12_doingsThere : ByteArray := prog_14_method_45_code
def yX12_doingsThere : MethodName := ⟨RX12, "doingsThere", "()I"⟩
abbrev cX12_doingOf : ByteArray := prog_14_method_46_code
def yX12_doingOf : MethodName := ⟨RX12, "doingOf", "(I)I"⟩
abbrev cX12_plan : ByteArray := prog_14_method_47_code
def yX12_plan : MethodName := ⟨RX12, "plan", "(II)I"⟩
abbrev cX12_whitens : ByteArray := prog_14_method_48_code
def yX12_whitens : MethodName := ⟨RX12, "whitens", "(I)V"⟩
abbrev cX12_power : ByteArray := prog_14_method_49_code
def yX12_power : MethodName := ⟨RX12, "power", "(II)I"⟩
abbrev cX12_shadeOf : ByteArray := prog_14_method_50_code
def yX12_shadeOf : MethodName := ⟨RX12, "shadeOf", "(III)I"⟩
abbrev cX12_rows : ByteArray := prog_14_method_51_code
def yX12_rows : MethodName := ⟨RX12, "rows", "(IIIIII)I"⟩
abbrev cX12_shades : ByteArray := prog_14_method_52_code
def yX12_shades : MethodName := ⟨RX12, "shades", "(II)I"⟩
abbrev cX12_cracks : ByteArray := prog_14_method_53_code
def yX12_cracks : MethodName := ⟨RX12, "cracks", "(IIII)I"⟩
abbrev cX12_decades : ByteArray := prog_14_method_54_code
def yX12_decades : MethodName := ⟨RX12, "decades", "(III)I"⟩
abbrev cX12_isSheet : ByteArray := prog_14_method_55_code
def yX12_isSheet : MethodName := ⟨RX12, "isSheet", "(II)Z"⟩
abbrev cX12_found : ByteArray := prog_14_method_56_code
def yX12_found : MethodName := ⟨RX12, "found", "(IIII)I"⟩
abbrev cX12_cut : ByteArray := prog_14_method_57_code
def yX12_cut : MethodName := ⟨RX12, "cut", "(IJ)J"⟩
abbrev cX12_log : ByteArray := prog_14_method_58_code
def yX12_log : MethodName := ⟨RX12, "log", "(III)I"⟩
abbrev cX12_areDoings : ByteArray := prog_14_method_59_code
def yX12_areDoings : MethodName := ⟨RX12, "areDoings", "(III)Z"⟩
abbrev cX12_ahead : ByteArray := prog_14_method_60_code
def yX12_ahead : MethodName := ⟨RX12, "ahead", "(IIIIII)I"⟩
abbrev cX12_codeOf : ByteArray := prog_14_method_61_code
def yX12_codeOf : MethodName := ⟨RX12, "codeOf", "(I)I"⟩
abbrev cX12_goesRound : ByteArray := prog_14_method_62_code
def yX12_goesRound : MethodName := ⟨RX12, "goesRound", "(IIII)V"⟩
abbrev cX12_round : ByteArray := prog_14_method_63_code
def yX12_round : MethodName := ⟨RX12, "round", "(IIIII)I"⟩
abbrev cX12_kinds : ByteArray := prog_14_method_64_code
def yX12_kinds : MethodName := ⟨RX12, "kinds", "(IIIII)I"⟩
abbrev cX12_tryOf : ByteArray := prog_14_method_65_code
def yX12_tryOf : MethodName := ⟨RX12, "tryOf", "(II)I"⟩
abbrev cX12_wishes : ByteArray := prog_14_method_66_code
def yX12_wishes : MethodName := ⟨RX12, "wishes", "(III)I"⟩
abbrev cX12_count : ByteArray := prog_14_method_67_code
def yX12_count : MethodName := ⟨RX12, "count", "(I)I"⟩
abbrev cX12_sheet : ByteArray := prog_14_method_68_code
def yX12_sheet : MethodName := ⟨RX12, "sheet", "(III)I"⟩
abbrev cX12_drop : ByteArray := prog_14_method_69_code
def yX12_drop : MethodName := ⟨RX12, "drop", "(I)I"⟩
abbrev cX12_item : ByteArray := prog_14_method_70_code
def yX12_item : MethodName := ⟨RX12, "item", "(IIIJ)J"⟩
abbrev cX12_copy : ByteArray := prog_14_method_71_code
def yX12_copy : MethodName := ⟨RX12, "copy", "(IIIII)I"⟩
def RJ6 : String := "java/lang/Integer"
abbrev cJ6_bitCount_0f7a4 : ByteArray := prog_15_method_49_code
def yJ6_bitCount_0f7a4 : MethodName := ⟨RJ6, "bitCount", "(I)I"⟩
def RJ9 : String := "java/lang/Math"
abbrev cJ9_max_7cf53 : ByteArray := prog_16_method_65_code
def yJ9_max_7cf53 : MethodName := ⟨RJ9, "max", "(II)I"⟩
abbrev cJ9_min_7cf53 : ByteArray := prog_16_method_69_code
def yJ9_min_7cf53 : MethodName := ⟨RJ9, "min", "(II)I"⟩
def RJ10 : String := "java/lang/System"
def RL : String := "WaxClothLaw"
abbrev cL_law : ByteArray := code
def yL_law : MethodName := ⟨RL, "law", "([I)Z"⟩
abbrev vwCl : List vw_C := [(RX0, TX0, 5), (RX1, TX1, 6), (RX2, TX2, 9), (RX4, TX4, 3), (RX5, TX5, 5), (RX6, TX6, 3), (RX7, TX7, 2), (RX8, TX8, 3), (RX10, TX10, 2), (RX11, TX11, 11), (RX12, TX12, 22)]
end
section
/-! THE LAYER: one picture of all cells (98 of them: the class's and the reference's), a state of ints and longs over it; a row an instruction. -/
def WS : List Cond := lw_tbl.filter goodWord
theorem ws_in {w : Cond} (i : Nat) (h : lw_tbl[i]? = some w) (hg : goodWord w = true) : w ∈ WS := List.mem_filter.mpr ⟨List.mem_of_getElem? h, hg⟩
theorem WS_good : GoodIn lw_tbl WS := fun _ h => ⟨(List.mem_filter.mp h).1, good_of_word (List.mem_filter.mp h).2⟩
theorem WS_self : GoodIn WS WS := fun _ h => ⟨h, good_of_word (List.mem_filter.mp h).2⟩
theorem WS_cons {w : Cond} (hw : w ∈ WS) : GoodIn WS (w :: WS) := fun v h => (List.mem_cons.mp h).elim (fun e => by rw [e]; exact WS_self w hw) (WS_self v)
theorem WS_mem {ws : List Cond} (h : GoodIn lw_tbl ws) (hg : ws.all goodWord = true) : ∀ w ∈ ws, w ∈ WS := fun w hw => List.mem_filter.mpr ⟨(h w hw).1, List.all_eq_true.mp hg w hw⟩
abbrev gS : Type := (Nat → Nat → Int32) × (Nat → Nat → Int64)
/-- class numbers and slots; the array classes; the cells' addresses; the static table -/
abbrev gX : Type := va_G × (Nat → ClassId) × (Nat → Nat) × Nat
abbrev oN : Option Nat := none
def ds0 : List (Nat × Nat × List (Option Nat)) := [(6, 9, [some 1, some 3, some 10, some 16, some 42, some 55, some 64, some 73, some 77, some 80, some 81]),
  (6, 8, [oN, some 2]),
  (0, 80, []),
  (6, 5, [some 4, oN, some 1]),
  (6, 2, [oN, oN, oN, oN, some 5, some 6, some 7, some 8, some 9]),
  (0, 8, []),
  (0, 8, []),
  (0, 8, []),
  (0, 12, []),
  (0, 3, []),
  (6, 2, [oN, oN, oN, oN, some 11, some 12, some 13, some 14, some 15]),
  (0, 8, []),
  (0, 8, []),
  (0, 8, []),
  (0, 12, []),
  (0, 3, []),
  (6, 3, [oN, oN, some 17]),
  (5, 24, [some 18, some 19, some 20, some 21, some 22, some 23, some 24, some 25, some 26, some 27, some 28, some 29, some 30, some 31, some 32, some 33, some 34, some 35, some 36, some 37, some 38, some 39, some 40, some 41]),
  (0, 8, []),
  (0, 8, []),
  (0, 8, []),
  (0, 8, []),
  (0, 8, []),
  (0, 8, []),
  (0, 8, []),
  (0, 8, []),
  (0, 8, []),
  (0, 8, []),
  (0, 8, []),
  (0, 8, []),
  (0, 8, []),
  (0, 8, []),
  (0, 8, []),
  (0, 8, []),
  (0, 8, []),
  (0, 8, []),
  (0, 8, []),
  (0, 8, []),
  (0, 8, []),
  (0, 8, []),
  (0, 8, []),
  (0, 8, []),
  (3, 2, [some 43, some 49]),
  (6, 2, [oN, oN, oN, oN, some 44, some 45, some 46, some 47, some 48]),
  (0, 8, []),
  (0, 8, []),
  (0, 8, []),
  (0, 12, []),
  (0, 3, []),
  (6, 2, [oN, oN, oN, oN, some 50, some 51, some 52, some 53, some 54]),
  (0, 8, []),
  (0, 8, []),
  (0, 8, []),
  (0, 12, []),
  (0, 3, []),
  (4, 4, [some 56, some 58, some 60, some 62]),
  (6, 7, [oN, oN, some 57]),
  (1, 24, []),
  (6, 7, [oN, oN, some 59]),
  (1, 24, []),
  (6, 7, [oN, oN, some 61]),
  (1, 24, []),
  (6, 7, [oN, oN, some 63]),
  (1, 24, []),
  (6, 4, [oN, oN, some 65, some 66, some 67]),
  (0, 4, []),
  (0, 4, []),
  (5, 5, [some 68, some 69, some 70, some 71, some 72]),
  (0, 8, []),
  (0, 8, []),
  (0, 8, []),
  (0, 8, []),
  (0, 8, []),
  (6, 0, [oN, oN, some 74, some 75, some 76]),
  (0, 5, []),
  (0, 5, []),
  (1, 64, []),
  (6, 1, [oN, oN, oN, oN, some 78, some 79]),
  (0, 9, []),
  (0, 8, []),
  (6, 6, [oN, oN]),
  (0, 20, []),
  (6, 10, [some 83, some 84, some 85, some 86, some 87, oN, some 88, oN, some 89, some 90, some 91, oN, some 92, some 93, some 94, oN, oN, some 95, some 96, some 97, oN, oN]),
  (0, 26, []),
  (0, 26, []),
  (0, 8, []),
  (0, 40, []),
  (0, 40, []),
  (0, 768, []),
  (0, 134, []),
  (2, 2, []),
  (0, 80, []),
  (0, 4, []),
  (0, 4, []),
  (1, 96, []),
  (2, 1000, []),
  (1, 10, []),
  (0, 4000, [])]
abbrev NC : Nat := 98
def ds (c : Nat) : Nat × Nat × List (Option Nat) := ds0.getD c (9, 0, [])
abbrev isO (c ci : Nat) : Prop := (ds c).1 = 6 ∧ (ds c).2.1 = ci
abbrev isI (c n : Nat) : Prop := (ds c).1 = 0 ∧ (ds c).2.1 = n
abbrev isJ (c n : Nat) : Prop := (ds c).1 = 1 ∧ (ds c).2.1 = n
abbrev isZ (c n : Nat) : Prop := (ds c).1 = 2 ∧ (ds c).2.1 = n
abbrev ln (c : Nat) : Nat := (ds c).2.1
abbrev inR (i : Int32) (n : Nat) : Prop := ¬ (i < 0 ∨ n ≤ i.toNatClampNeg)
def gF (ad : Nat → Nat) (m : Nat → Int32) : Nat → List (Option Nat) → List Value
  | _, [] => []
  | k, none :: l => .int (m k) :: gF ad m (k + 1) l
  | k, some j :: l => .ref (ad j) :: gF ad m (k + 1) l
theorem gF_int {ad : Nat → Nat} {m : Nat → Int32} : ∀ (l : List (Option Nat)) (k i : Nat), l[i]? = some none → (gF ad m k l)[i]? = some (.int (m (k + i)))
  | [], k, i, h => by simp at h
  | none :: l, k, 0, h => rfl
  | some j :: l, k, 0, h => by simp at h
  | none :: l, k, i + 1, h => by
    have := gF_int (ad := ad) (m := m) l (k + 1) i (by simpa using h)
    rw [show k + (i + 1) = k + 1 + i by omega]; exact this
  | some j :: l, k, i + 1, h => by
    have := gF_int (ad := ad) (m := m) l (k + 1) i (by simpa using h)
    rw [show k + (i + 1) = k + 1 + i by omega]; exact this
theorem gF_ref {ad : Nat → Nat} {m : Nat → Int32} {q : Nat} : ∀ (l : List (Option Nat)) (k i : Nat), l[i]? = some (some q) → (gF ad m k l)[i]? = some (.ref (ad q))
  | [], k, i, h => by simp at h
  | none :: l, k, 0, h => by simp at h
  | some j :: l, k, 0, h => by
    have e : j = q := by simpa using h
    subst e; rfl
  | none :: l, k, i + 1, h => gF_ref l (k + 1) i (by simpa using h)
  | some j :: l, k, i + 1, h => gF_ref l (k + 1) i (by simpa using h)
theorem gF_len {ad : Nat → Nat} {m : Nat → Int32} : ∀ (l : List (Option Nat)) (k : Nat), (gF ad m k l).length = l.length
  | [], k => rfl
  | none :: l, k => by show (gF ad m (k + 1) l).length + 1 = _; rw [gF_len l (k + 1)]; rfl
  | some j :: l, k => by show (gF ad m (k + 1) l).length + 1 = _; rw [gF_len l (k + 1)]; rfl
theorem gF_congr {ad : Nat → Nat} {m m' : Nat → Int32} : ∀ (l : List (Option Nat)) (k : Nat), (∀ j, k ≤ j → m j = m' j) → gF ad m k l = gF ad m' k l
  | [], k, h => rfl
  | none :: l, k, h => by
    show Value.int (m k) :: gF ad m (k + 1) l = Value.int (m' k) :: gF ad m' (k + 1) l
    rw [h k (Nat.le_refl _), gF_congr l (k + 1) (fun j hj => h j (by omega))]
  | some j :: l, k, h => by
    show Value.ref (ad j) :: gF ad m (k + 1) l = Value.ref (ad j) :: gF ad m' (k + 1) l
    rw [gF_congr l (k + 1) (fun j hj => h j (by omega))]
theorem gF_set {ad : Nat → Nat} {m : Nat → Int32} {v : Int32} : ∀ (l : List (Option Nat)) (k i : Nat), l[i]? = some none → (gF ad m k l).set i (.int v) = gF ad (upd m (k + i) v) k l
  | [], k, i, h => by simp at h
  | none :: l, k, 0, h => by
    show Value.int v :: gF ad m (k + 1) l = Value.int (upd m (k + 0) v k) :: gF ad (upd m (k + 0) v) (k + 1) l
    rw [show upd m (k + 0) v k = v by simp [upd]]
    rw [gF_congr (m := m) (m' := upd m (k + 0) v) l (k + 1) (fun j hj => by simp [upd, show j ≠ k by omega])]
  | some j :: l, k, 0, h => by simp at h
  | none :: l, k, i + 1, h => by
    show Value.int (m k) :: (gF ad m (k + 1) l).set i (.int v) = Value.int (upd m (k + (i + 1)) v k) :: gF ad (upd m (k + (i + 1)) v) (k + 1) l
    rw [gF_set l (k + 1) i (by simpa using h), show k + 1 + i = k + (i + 1) by omega, show upd m (k + (i + 1)) v k = m k by simp [upd]]
  | some j :: l, k, i + 1, h => by
    show Value.ref (ad j) :: (gF ad m (k + 1) l).set i (.int v) = Value.ref (ad j) :: gF ad (upd m (k + (i + 1)) v) (k + 1) l
    rw [gF_set l (k + 1) i (by simpa using h), show k + 1 + i = k + (i + 1) by omega]
def gR (ad : Nat → Nat) (l : List (Option Nat)) : Nat → Option Nat := fun j => (l.getD j none).map ad
def gE (X : gX) (c : Nat) (m : Nat → Int32) (g : Nat → Int64) : va_E :=
  match (ds c).1 with
  | 0 => .inl (X.2.1 0, (ds c).2.1, .inl m)
  | 1 => .inl (X.2.1 1, (ds c).2.1, .inr (.inl g))
  | 2 => .inl (X.2.1 2, (ds c).2.1, .inl m)
  | 3 => .inl (X.2.1 3, (ds c).2.1, .inr (.inr (.inr (.inr (gR X.2.2.1 (ds c).2.2)))))
  | 4 => .inl (X.2.1 4, (ds c).2.1, .inr (.inr (.inr (.inr (gR X.2.2.1 (ds c).2.2)))))
  | 5 => .inl (X.2.1 5, (ds c).2.1, .inr (.inr (.inr (.inr (gR X.2.2.1 (ds c).2.2)))))
  | _ => .inr ((ds c).2.1, gF X.2.2.1 m 0 (ds c).2.2)
def gw (X : gX) (σ : gS) : va_W := (List.range NC).map (fun c => (X.2.2.1 c, gE X c (σ.1 c) (σ.2 c)))
theorem gw_get {X : gX} {σ : gS} {c : Nat} (h : c < NC) : (gw X σ)[c]? = some (X.2.2.1 c, gE X c (σ.1 c) (σ.2 c)) := by
  unfold gw; rw [List.getElem?_map, List.getElem?_range h]; rfl
theorem gw_of {X : gX} {σ : gS} {c : Nat} {q : Nat × va_E} (h : (gw X σ)[c]? = some q) : c < NC ∧ q = (X.2.2.1 c, gE X c (σ.1 c) (σ.2 c)) := by
  have hl : c < NC := by
    have := (List.getElem?_eq_some_iff.mp h).1
    unfold gw at this; rw [List.length_map, List.length_range] at this; exact this
  rw [gw_get hl] at h
  exact ⟨hl, (Option.some.inj h).symm⟩
def s1 (σ : gS) (c : Nat) (f : Nat → Int32) : gS := (fun d => if d = c then f else σ.1 d, σ.2)
def s2 (σ : gS) (c : Nat) (g : Nat → Int64) : gS := (σ.1, fun d => if d = c then g else σ.2 d)
theorem gw_s1 {X : gX} {σ : gS} {c : Nat} {f : Nat → Int32} (h : c < NC) : (gw X σ).set c (X.2.2.1 c, gE X c f (σ.2 c)) = gw X (s1 σ c f) := by
  apply List.ext_getElem?
  intro k
  by_cases hk : k < NC
  · by_cases hkc : c = k
    · subst hkc
      rw [List.getElem?_set_self (by unfold gw; rw [List.length_map, List.length_range]; exact h), gw_get hk]
      simp [s1]
    · rw [List.getElem?_set_ne hkc, gw_get hk, gw_get hk]
      simp [s1, Ne.symm hkc]
  · rw [List.getElem?_eq_none (by rw [List.length_set]; unfold gw; rw [List.length_map, List.length_range]; omega), List.getElem?_eq_none (by unfold gw; rw [List.length_map, List.length_range]; omega)]
theorem gw_s2 {X : gX} {σ : gS} {c : Nat} {g : Nat → Int64} (h : c < NC) : (gw X σ).set c (X.2.2.1 c, gE X c (σ.1 c) g) = gw X (s2 σ c g) := by
  apply List.ext_getElem?
  intro k
  by_cases hk : k < NC
  · by_cases hkc : c = k
    · subst hkc
      rw [List.getElem?_set_self (by unfold gw; rw [List.length_map, List.length_range]; exact h), gw_get hk]
      simp [s2]
    · rw [List.getElem?_set_ne hkc, gw_get hk, gw_get hk]
      simp [s2, Ne.symm hkc]
  · rw [List.getElem?_eq_none (by rw [List.length_set]; unfold gw; rw [List.length_map, List.length_range]; omega), List.getElem?_eq_none (by unfold gw; rw [List.length_map, List.length_range]; omega)]
theorem ds_lt {c : Nat} (h : (ds c).1 ≠ 9) : c < NC := by
  apply Nat.lt_of_not_le
  intro hc
  apply h
  unfold ds
  rw [List.getD_eq_getElem?_getD, List.getElem?_eq_none (by exact hc)]
  rfl
theorem isO_lt {c ci : Nat} (h : isO c ci) : c < NC := ds_lt (by rw [h.1]; decide)
theorem isI_lt {c n : Nat} (h : isI c n) : c < NC := ds_lt (by rw [h.1]; decide)
theorem isJ_lt {c n : Nat} (h : isJ c n) : c < NC := ds_lt (by rw [h.1]; decide)
theorem isZ_lt {c n : Nat} (h : isZ c n) : c < NC := ds_lt (by rw [h.1]; decide)
theorem gE_O {X : gX} {c ci : Nat} {m : Nat → Int32} {g : Nat → Int64} (h : isO c ci) : gE X c m g = .inr (ci, gF X.2.2.1 m 0 (ds c).2.2) := by
  unfold gE; rw [h.1, h.2]; rfl
theorem gE_I {X : gX} {c n : Nat} {m : Nat → Int32} {g : Nat → Int64} (h : isI c n) : gE X c m g = .inl (X.2.1 0, n, .inl m) := by
  unfold gE; rw [h.1, h.2]; rfl
theorem gE_J {X : gX} {c n : Nat} {m : Nat → Int32} {g : Nat → Int64} (h : isJ c n) : gE X c m g = .inl (X.2.1 1, n, .inr (.inl g)) := by
  unfold gE; rw [h.1, h.2]; rfl
theorem gE_Z {X : gX} {c n : Nat} {m : Nat → Int32} {g : Nat → Int64} (h : isZ c n) : gE X c m g = .inl (X.2.1 2, n, .inl m) := by
  unfold gE; rw [h.1, h.2]; rfl
def gTy (X : gX) : List (ClassId × FieldType) := [(X.2.1 0, .int), (X.2.1 1, .long), (X.2.1 2, .boolean), (X.2.1 3, .object "WaxCloth$Cloth"), (X.2.1 4, .object "WaxCloth$Sheet"), (X.2.1 5, .array .int)]
def gA (X : gX) : Nat → Prop := fun q => ∃ c, c < NC ∧ q = X.2.2.1 c
def gDj (X : gX) : Prop := ∀ i j, i < NC → j < NC → X.2.2.1 i = X.2.2.1 j → i = j
theorem gD {X : gX} (h : gDj X) (σ : gS) : va_D (gA X) (gw X σ) := by
  refine ⟨fun i j x y hi hj hxy => ?_, fun k q hk => ?_⟩
  · obtain ⟨h1, rfl⟩ := gw_of hi
    obtain ⟨h2, rfl⟩ := gw_of hj
    exact h i j h1 h2 hxy
  · obtain ⟨h1, rfl⟩ := gw_of hk
    exact ⟨k, h1, rfl⟩
def abv (j : Nat) : Int32 := match j with
  | 0 => -1 | 1 => 0 | 2 => 1 | 3 => 1 | 4 => 0 | _ => 4
def gZ (X : gX) (U : State) (H : Heap) : Prop := va_Z "WaxCloth$Kind" "ABOVE" "[I" (.ref X.2.2.2) (gA X) U H ∧ va_T .int X.2.2.2 6 (fun j => .int (abv j)) (gA X) U H
def gH (X : gX) (σ : gS) (U : State) : Prop := va_P X.1 vwCl (gw X σ) U.heap ∧ va_K X.1 vwCl (gTy X) U ∧ gDj X ∧ gZ X U U.heap
def gQ (X : gX) (v : Option Value) (σ : gS) : Array Value → State → Outcome → State → Prop := fun _ st o t => (o = .returned v ∧ gH X σ t) ∧ va_F (gA X) st t
def rmd (d : Nat) : Room := { frames := d, cells := 0, slots := 0, locals := 64 * d }
def gCt (l : Launch) (X : gX) (y : MethodName) (w : Cond) (d : Nat) (as : List Value) (σ : gS) (v : Option Value) (σ' : gS) : Prop :=
  Met l y (w :: WS) (rmd d) (va_Pc as (gH X σ)) (gQ X v σ') 0 0 (gA X)
abbrev gM : Type := (Program × Launch × Env × Room × State × MethodId × Array Value × List Frame × Method × Code) × gX × Nat × Option Value × gS
def gAt (G : gM) (pc : Nat) (L : List (Nat × Value)) (st : List Value) (σ : gS) : Prop :=
  match G with
  | ((p, l, e, R, s, m, args, below, meth, c), X, nL, v0, σ0) => ∀ (H : Heap) (locs : List Loc) (ls : Array Slot), lv_has ls nL L → va_P X.1 vwCl (gw X σ) H → va_S (gA X) s.heap H locs → W p l e R s m args below meth c H locs 0 0 (MQ below (gQ X v0 σ0) args s 0 0 (gA X)) (F0 m pc ls st)
def gOk (G : gM) (own : String) (cc : ByteArray) (d : Nat) (rt : Option FieldType) (nL : Nat) : Prop :=
  match G with
  | ((p, l, e, R, s, m, args, below, meth, c), X, nL', v0, σ0) => p.tables.exec = Jvm.exec ∧ c.code = cc ∧ c.maxLocals = nL ∧ nL' = nL ∧ s.vm.findClass own = some m.cls ∧ (∀ w ∈ WS, w.before args s = true) ∧ meth.locks = false ∧ meth.sig.returnType = rt ∧ R = rmd d ∧ va_K X.1 vwCl (gTy X) s ∧ gDj X ∧ gZ X s s.heap
section ROWS
variable {G : gM} {own : String} {cc : ByteArray} {d : Nat} {rt : Option FieldType} {nL : Nat} {pc n : Nat} {L L' : List (Nat × Value)} {st : List Value} {σ : gS}
theorem a_iconst (ho : gOk G own cc d rt nL) {z : Int} {v : Int32} (hd : decode cc pc = .ok (.iconst z, 1)) (hn : pc + 1 = n) (hv : Int32.ofInt z = v) (k : gAt G n L (.int v :: st) σ) : gAt G pc L (st) σ := by
  subst hn; obtain ⟨⟨p, l, e, R, s, m, args, below, meth, c0⟩, X, nL0, v0, σ0⟩ := G; exact fun H locs ls hl hP hS => lv_iconst ho.1 ho.2.1 hd hv (k H locs ls hl hP hS)
theorem a_bipush (ho : gOk G own cc d rt nL) {z : Int} {v : Int32} (hd : decode cc pc = .ok (.bipush z, 2)) (hn : pc + 2 = n) (hv : (Int8.ofInt z).toInt32 = v) (k : gAt G n L (.int v :: st) σ) : gAt G pc L (st) σ := by
  subst hn; obtain ⟨⟨p, l, e, R, s, m, args, below, meth, c0⟩, X, nL0, v0, σ0⟩ := G; exact fun H locs ls hl hP hS => lv_bipush ho.1 ho.2.1 hd hv (k H locs ls hl hP hS)
theorem a_sipush (ho : gOk G own cc d rt nL) {z : Int} {v : Int32} (hd : decode cc pc = .ok (.sipush z, 3)) (hn : pc + 3 = n) (hv : (Int16.ofInt z).toInt32 = v) (k : gAt G n L (.int v :: st) σ) : gAt G pc L (st) σ := by
  subst hn; obtain ⟨⟨p, l, e, R, s, m, args, below, meth, c0⟩, X, nL0, v0, σ0⟩ := G; exact fun H locs ls hl hP hS => lv_sipush ho.1 ho.2.1 hd hv (k H locs ls hl hP hS)
theorem a_lconst (ho : gOk G own cc d rt nL) {z : Fin 2} {v : Int64} (hd : decode cc pc = .ok (.lconst z, 1)) (hn : pc + 1 = n) (hv : Int64.ofNat (z : Nat) = v) (k : gAt G n L (.long v :: st) σ) : gAt G pc L (st) σ := by
  subst hn; obtain ⟨⟨p, l, e, R, s, m, args, below, meth, c0⟩, X, nL0, v0, σ0⟩ := G; exact fun H locs ls hl hP hS => lv_lconst ho.1 ho.2.1 hd hv (k H locs ls hl hP hS)
theorem a_ldc (ho : gOk G own cc d rt nL) {i : Nat} {v : Int32} (hd : decode cc pc = .ok (.ldc i, 2)) (hn : pc + 2 = n) (hv : Cond.constant own i v ∈ WS) (k : gAt G n L (.int v :: st) σ) : gAt G pc L (st) σ := by
  subst hn; obtain ⟨⟨p, l, e, R, s, m, args, below, meth, c0⟩, X, nL0, v0, σ0⟩ := G; exact fun H locs ls hl hP hS => lv_ldc ho.1 ho.2.1 ho.2.2.2.2.1 (ho.2.2.2.2.2.1 _ hv) hd (k H locs ls hl hP hS)
theorem a_ldcw (ho : gOk G own cc d rt nL) {i : Nat} {v : Int32} (hd : decode cc pc = .ok (.ldc_w i, 3)) (hn : pc + 3 = n) (hv : Cond.constant own i v ∈ WS) (k : gAt G n L (.int v :: st) σ) : gAt G pc L (st) σ := by
  subst hn; obtain ⟨⟨p, l, e, R, s, m, args, below, meth, c0⟩, X, nL0, v0, σ0⟩ := G; exact fun H locs ls hl hP hS => lv_ldcw ho.1 ho.2.1 ho.2.2.2.2.1 (ho.2.2.2.2.2.1 _ hv) hd (k H locs ls hl hP hS)
theorem a_ldc2 (ho : gOk G own cc d rt nL) {i : Nat} {v : Int64} (hd : decode cc pc = .ok (.ldc2_w i, 3)) (hn : pc + 3 = n) (hv : Cond.constantLong own i v ∈ WS) (k : gAt G n L (.long v :: st) σ) : gAt G pc L (st) σ := by
  subst hn; obtain ⟨⟨p, l, e, R, s, m, args, below, meth, c0⟩, X, nL0, v0, σ0⟩ := G; exact fun H locs ls hl hP hS => lv_ldc2 ho.1 ho.2.1 ho.2.2.2.2.1 (ho.2.2.2.2.2.1 _ hv) hd (k H locs ls hl hP hS)
theorem a_iload_n (ho : gOk G own cc d rt nL) {w : Fin 4} {i : Nat} {x : Int32} (hd : decode cc pc = .ok (.iload_n w, 1)) (hn : pc + 1 = n) (hi : (w : Nat) = i) (q : Nat) (hq : L[q]? = some (i, .int x)) (k : gAt G n L (.int x :: st) σ) : gAt G pc L (st) σ := by
  subst hn; obtain ⟨⟨p, l, e, R, s, m, args, below, meth, c0⟩, X, nL0, v0, σ0⟩ := G; exact fun H locs ls hl hP hS => lv_iload_n ho.1 ho.2.1 hd hi (lv_at hl q hq) (k H locs ls hl hP hS)
theorem a_iload (ho : gOk G own cc d rt nL) {i : Nat} {x : Int32} (hd : decode cc pc = .ok (.iload i, 2)) (hn : pc + 2 = n) (q : Nat) (hq : L[q]? = some (i, .int x)) (k : gAt G n L (.int x :: st) σ) : gAt G pc L (st) σ := by
  subst hn; obtain ⟨⟨p, l, e, R, s, m, args, below, meth, c0⟩, X, nL0, v0, σ0⟩ := G; exact fun H locs ls hl hP hS => lv_iload ho.1 ho.2.1 hd (lv_at hl q hq) (k H locs ls hl hP hS)
theorem a_lload_n (ho : gOk G own cc d rt nL) {w : Fin 4} {i : Nat} {x : Int64} (hd : decode cc pc = .ok (.lload_n w, 1)) (hn : pc + 1 = n) (hi : (w : Nat) = i) (q : Nat) (hq : L[q]? = some (i, .long x)) (k : gAt G n L (.long x :: st) σ) : gAt G pc L (st) σ := by
  subst hn; obtain ⟨⟨p, l, e, R, s, m, args, below, meth, c0⟩, X, nL0, v0, σ0⟩ := G; exact fun H locs ls hl hP hS => lv_lload_n ho.1 ho.2.1 hd hi (lv_at hl q hq) (k H locs ls hl hP hS)
theorem a_lload (ho : gOk G own cc d rt nL) {i : Nat} {x : Int64} (hd : decode cc pc = .ok (.lload i, 2)) (hn : pc + 2 = n) (q : Nat) (hq : L[q]? = some (i, .long x)) (k : gAt G n L (.long x :: st) σ) : gAt G pc L (st) σ := by
  subst hn; obtain ⟨⟨p, l, e, R, s, m, args, below, meth, c0⟩, X, nL0, v0, σ0⟩ := G; exact fun H locs ls hl hP hS => lv_lload ho.1 ho.2.1 hd (lv_at hl q hq) (k H locs ls hl hP hS)
theorem a_aload_n (ho : gOk G own cc d rt nL) {w : Fin 4} {i : Nat} {x : Nat} (hd : decode cc pc = .ok (.aload_n w, 1)) (hn : pc + 1 = n) (hi : (w : Nat) = i) (q : Nat) (hq : L[q]? = some (i, .ref x)) (k : gAt G n L (.ref x :: st) σ) : gAt G pc L (st) σ := by
  subst hn; obtain ⟨⟨p, l, e, R, s, m, args, below, meth, c0⟩, X, nL0, v0, σ0⟩ := G; exact fun H locs ls hl hP hS => lv_aload_n ho.1 ho.2.1 hd hi (lv_at hl q hq) (k H locs ls hl hP hS)
theorem a_aload (ho : gOk G own cc d rt nL) {i : Nat} {x : Nat} (hd : decode cc pc = .ok (.aload i, 2)) (hn : pc + 2 = n) (q : Nat) (hq : L[q]? = some (i, .ref x)) (k : gAt G n L (.ref x :: st) σ) : gAt G pc L (st) σ := by
  subst hn; obtain ⟨⟨p, l, e, R, s, m, args, below, meth, c0⟩, X, nL0, v0, σ0⟩ := G; exact fun H locs ls hl hP hS => lv_aload ho.1 ho.2.1 hd (lv_at hl q hq) (k H locs ls hl hP hS)
theorem a_istore_n (ho : gOk G own cc d rt nL) {w : Fin 4} {i : Nat} {x : Int32} (hd : decode cc pc = .ok (.istore_n w, 1)) (hn : pc + 1 = n) (hi : (w : Nat) = i) (hb : i < nL) (hL : (i, Value.int x) :: L.filter (fun q => !(q.1 == i) && !(q.1 + 1 == i && q.2.category == 2)) = L') (k : gAt G n L' st σ) : gAt G pc L (.int x :: st) σ := by
  subst hn; obtain ⟨⟨p, l, e, R, s, m, args, below, meth, c0⟩, X, nL0, v0, σ0⟩ := G; exact fun H locs ls hl hP hS => lv_istore_n ho.1 ho.2.1 hd hi hl (by rw [ho.2.2.2.1]; exact hb) hL (fun ls' hl' => k H locs ls' hl' hP hS)
theorem a_istore (ho : gOk G own cc d rt nL) {i : Nat} {x : Int32} (hd : decode cc pc = .ok (.istore i, 2)) (hn : pc + 2 = n) (hb : i < nL) (hL : (i, Value.int x) :: L.filter (fun q => !(q.1 == i) && !(q.1 + 1 == i && q.2.category == 2)) = L') (k : gAt G n L' st σ) : gAt G pc L (.int x :: st) σ := by
  subst hn; obtain ⟨⟨p, l, e, R, s, m, args, below, meth, c0⟩, X, nL0, v0, σ0⟩ := G; exact fun H locs ls hl hP hS => lv_istore ho.1 ho.2.1 hd hl (by rw [ho.2.2.2.1]; exact hb) hL (fun ls' hl' => k H locs ls' hl' hP hS)
theorem a_lstore_n (ho : gOk G own cc d rt nL) {w : Fin 4} {i : Nat} {x : Int64} (hd : decode cc pc = .ok (.lstore_n w, 1)) (hn : pc + 1 = n) (hi : (w : Nat) = i) (hb : i + 1 < nL) (hL : (i, Value.long x) :: L.filter (fun q => !(q.1 == i) && (!(q.1 == i + 1) && !(q.1 + 1 == i && q.2.category == 2))) = L') (k : gAt G n L' st σ) : gAt G pc L (.long x :: st) σ := by
  subst hn; obtain ⟨⟨p, l, e, R, s, m, args, below, meth, c0⟩, X, nL0, v0, σ0⟩ := G; exact fun H locs ls hl hP hS => lv_lstore_n ho.1 ho.2.1 hd hi hl (by rw [ho.2.2.2.1]; exact hb) hL (fun ls' hl' => k H locs ls' hl' hP hS)
theorem a_lstore (ho : gOk G own cc d rt nL) {i : Nat} {x : Int64} (hd : decode cc pc = .ok (.lstore i, 2)) (hn : pc + 2 = n) (hb : i + 1 < nL) (hL : (i, Value.long x) :: L.filter (fun q => !(q.1 == i) && (!(q.1 == i + 1) && !(q.1 + 1 == i && q.2.category == 2))) = L') (k : gAt G n L' st σ) : gAt G pc L (.long x :: st) σ := by
  subst hn; obtain ⟨⟨p, l, e, R, s, m, args, below, meth, c0⟩, X, nL0, v0, σ0⟩ := G; exact fun H locs ls hl hP hS => lv_lstore ho.1 ho.2.1 hd hl (by rw [ho.2.2.2.1]; exact hb) hL (fun ls' hl' => k H locs ls' hl' hP hS)
theorem a_astore_n (ho : gOk G own cc d rt nL) {w : Fin 4} {i : Nat} {x : Nat} (hd : decode cc pc = .ok (.astore_n w, 1)) (hn : pc + 1 = n) (hi : (w : Nat) = i) (hb : i < nL) (hL : (i, Value.ref x) :: L.filter (fun q => !(q.1 == i) && !(q.1 + 1 == i && q.2.category == 2)) = L') (k : gAt G n L' st σ) : gAt G pc L (.ref x :: st) σ := by
  subst hn; obtain ⟨⟨p, l, e, R, s, m, args, below, meth, c0⟩, X, nL0, v0, σ0⟩ := G; exact fun H locs ls hl hP hS => lv_astore_n ho.1 ho.2.1 hd hi hl (by rw [ho.2.2.2.1]; exact hb) hL (fun ls' hl' => k H locs ls' hl' hP hS)
theorem a_astore (ho : gOk G own cc d rt nL) {i : Nat} {x : Nat} (hd : decode cc pc = .ok (.astore i, 2)) (hn : pc + 2 = n) (hb : i < nL) (hL : (i, Value.ref x) :: L.filter (fun q => !(q.1 == i) && !(q.1 + 1 == i && q.2.category == 2)) = L') (k : gAt G n L' st σ) : gAt G pc L (.ref x :: st) σ := by
  subst hn; obtain ⟨⟨p, l, e, R, s, m, args, below, meth, c0⟩, X, nL0, v0, σ0⟩ := G; exact fun H locs ls hl hP hS => lv_astore ho.1 ho.2.1 hd hl (by rw [ho.2.2.2.1]; exact hb) hL (fun ls' hl' => k H locs ls' hl' hP hS)
theorem a_iinc (ho : gOk G own cc d rt nL) {i : Nat} {z : Int} {x v : Int32} (hd : decode cc pc = .ok (.iinc i z, 3)) (hn : pc + 3 = n) (q : Nat) (hq : L[q]? = some (i, .int x)) (hv : x + Int32.ofInt z = v) (hb : i < nL) (hL : (i, Value.int v) :: L.filter (fun q => !(q.1 == i) && !(q.1 + 1 == i && q.2.category == 2)) = L') (k : gAt G n L' st σ) : gAt G pc L st σ := by
  subst hn; obtain ⟨⟨p, l, e, R, s, m, args, below, meth, c0⟩, X, nL0, v0, σ0⟩ := G; exact fun H locs ls hl hP hS => lv_iinc ho.1 ho.2.1 hd hl hq hv (by rw [ho.2.2.2.1]; exact hb) hL (fun ls' hl' => k H locs ls' hl' hP hS)
theorem a_iadd (ho : gOk G own cc d rt nL) {x y : Int32} (hd : decode cc pc = .ok (.iadd, 1)) (hn : pc + 1 = n)  (k : gAt G n L (.int (x + y) :: st) σ) : gAt G pc L (.int y :: .int x :: st) σ := by
  subst hn; obtain ⟨⟨p, l, e, R, s, m, args, below, meth, c0⟩, X, nL0, v0, σ0⟩ := G; exact fun H locs ls hl hP hS => lv_iadd ho.1 ho.2.1 hd (k H locs ls hl hP hS)
theorem a_isub (ho : gOk G own cc d rt nL) {x y : Int32} (hd : decode cc pc = .ok (.isub, 1)) (hn : pc + 1 = n)  (k : gAt G n L (.int (x - y) :: st) σ) : gAt G pc L (.int y :: .int x :: st) σ := by
  subst hn; obtain ⟨⟨p, l, e, R, s, m, args, below, meth, c0⟩, X, nL0, v0, σ0⟩ := G; exact fun H locs ls hl hP hS => lv_isub ho.1 ho.2.1 hd (k H locs ls hl hP hS)
theorem a_imul (ho : gOk G own cc d rt nL) {x y : Int32} (hd : decode cc pc = .ok (.imul, 1)) (hn : pc + 1 = n)  (k : gAt G n L (.int (x * y) :: st) σ) : gAt G pc L (.int y :: .int x :: st) σ := by
  subst hn; obtain ⟨⟨p, l, e, R, s, m, args, below, meth, c0⟩, X, nL0, v0, σ0⟩ := G; exact fun H locs ls hl hP hS => lv_imul ho.1 ho.2.1 hd (k H locs ls hl hP hS)
theorem a_iand (ho : gOk G own cc d rt nL) {x y : Int32} (hd : decode cc pc = .ok (.iand, 1)) (hn : pc + 1 = n)  (k : gAt G n L (.int (x &&& y) :: st) σ) : gAt G pc L (.int y :: .int x :: st) σ := by
  subst hn; obtain ⟨⟨p, l, e, R, s, m, args, below, meth, c0⟩, X, nL0, v0, σ0⟩ := G; exact fun H locs ls hl hP hS => lv_iand ho.1 ho.2.1 hd (k H locs ls hl hP hS)
theorem a_ior (ho : gOk G own cc d rt nL) {x y : Int32} (hd : decode cc pc = .ok (.ior, 1)) (hn : pc + 1 = n)  (k : gAt G n L (.int (x ||| y) :: st) σ) : gAt G pc L (.int y :: .int x :: st) σ := by
  subst hn; obtain ⟨⟨p, l, e, R, s, m, args, below, meth, c0⟩, X, nL0, v0, σ0⟩ := G; exact fun H locs ls hl hP hS => lv_ior ho.1 ho.2.1 hd (k H locs ls hl hP hS)
theorem a_ixor (ho : gOk G own cc d rt nL) {x y : Int32} (hd : decode cc pc = .ok (.ixor, 1)) (hn : pc + 1 = n)  (k : gAt G n L (.int (x ^^^ y) :: st) σ) : gAt G pc L (.int y :: .int x :: st) σ := by
  subst hn; obtain ⟨⟨p, l, e, R, s, m, args, below, meth, c0⟩, X, nL0, v0, σ0⟩ := G; exact fun H locs ls hl hP hS => lv_ixor ho.1 ho.2.1 hd (k H locs ls hl hP hS)
theorem a_ishl (ho : gOk G own cc d rt nL) {x y : Int32} (hd : decode cc pc = .ok (.ishl, 1)) (hn : pc + 1 = n)  (k : gAt G n L (.int (x <<< (y &&& 31)) :: st) σ) : gAt G pc L (.int y :: .int x :: st) σ := by
  subst hn; obtain ⟨⟨p, l, e, R, s, m, args, below, meth, c0⟩, X, nL0, v0, σ0⟩ := G; exact fun H locs ls hl hP hS => lv_ishl ho.1 ho.2.1 hd (k H locs ls hl hP hS)
theorem a_ishr (ho : gOk G own cc d rt nL) {x y : Int32} (hd : decode cc pc = .ok (.ishr, 1)) (hn : pc + 1 = n)  (k : gAt G n L (.int (x >>> (y &&& 31)) :: st) σ) : gAt G pc L (.int y :: .int x :: st) σ := by
  subst hn; obtain ⟨⟨p, l, e, R, s, m, args, below, meth, c0⟩, X, nL0, v0, σ0⟩ := G; exact fun H locs ls hl hP hS => lv_ishr ho.1 ho.2.1 hd (k H locs ls hl hP hS)
theorem a_iushr (ho : gOk G own cc d rt nL) {x y : Int32} (hd : decode cc pc = .ok (.iushr, 1)) (hn : pc + 1 = n)  (k : gAt G n L (.int ((x.toUInt32 >>> (y.toUInt32 &&& Int32.toUInt32 31)).toInt32) :: st) σ) : gAt G pc L (.int y :: .int x :: st) σ := by
  subst hn; obtain ⟨⟨p, l, e, R, s, m, args, below, meth, c0⟩, X, nL0, v0, σ0⟩ := G; exact fun H locs ls hl hP hS => lv_iushr ho.1 ho.2.1 hd rfl (k H locs ls hl hP hS)
theorem a_ineg (ho : gOk G own cc d rt nL) {x : Int32} (hd : decode cc pc = .ok (.ineg, 1)) (hn : pc + 1 = n)  (k : gAt G n L (.int (-x) :: st) σ) : gAt G pc L (.int x :: st) σ := by
  subst hn; obtain ⟨⟨p, l, e, R, s, m, args, below, meth, c0⟩, X, nL0, v0, σ0⟩ := G; exact fun H locs ls hl hP hS => lv_ineg ho.1 ho.2.1 hd (k H locs ls hl hP hS)
theorem a_idiv (ho : gOk G own cc d rt nL) {x y : Int32} (hd : decode cc pc = .ok (.idiv, 1)) (hn : pc + 1 = n) (hne : ¬ y = 0) (k : gAt G n L (.int (x / y) :: st) σ) : gAt G pc L (.int y :: .int x :: st) σ := by
  subst hn; obtain ⟨⟨p, l, e, R, s, m, args, below, meth, c0⟩, X, nL0, v0, σ0⟩ := G; exact fun H locs ls hl hP hS => lv_idiv ho.1 ho.2.1 hd hne (k H locs ls hl hP hS)
theorem a_irem (ho : gOk G own cc d rt nL) {x y : Int32} (hd : decode cc pc = .ok (.irem, 1)) (hn : pc + 1 = n) (hne : ¬ y = 0) (k : gAt G n L (.int (x - x / y * y) :: st) σ) : gAt G pc L (.int y :: .int x :: st) σ := by
  subst hn; obtain ⟨⟨p, l, e, R, s, m, args, below, meth, c0⟩, X, nL0, v0, σ0⟩ := G; exact fun H locs ls hl hP hS => lv_irem ho.1 ho.2.1 hd hne (k H locs ls hl hP hS)
theorem a_ladd (ho : gOk G own cc d rt nL) {x y : Int64} (hd : decode cc pc = .ok (.ladd, 1)) (hn : pc + 1 = n)  (k : gAt G n L (.long (x + y) :: st) σ) : gAt G pc L (.long y :: .long x :: st) σ := by
  subst hn; obtain ⟨⟨p, l, e, R, s, m, args, below, meth, c0⟩, X, nL0, v0, σ0⟩ := G; exact fun H locs ls hl hP hS => lv_ladd ho.1 ho.2.1 hd (k H locs ls hl hP hS)
theorem a_lmul (ho : gOk G own cc d rt nL) {x y : Int64} (hd : decode cc pc = .ok (.lmul, 1)) (hn : pc + 1 = n)  (k : gAt G n L (.long (x * y) :: st) σ) : gAt G pc L (.long y :: .long x :: st) σ := by
  subst hn; obtain ⟨⟨p, l, e, R, s, m, args, below, meth, c0⟩, X, nL0, v0, σ0⟩ := G; exact fun H locs ls hl hP hS => lv_lmul ho.1 ho.2.1 hd (k H locs ls hl hP hS)
theorem a_land (ho : gOk G own cc d rt nL) {x y : Int64} (hd : decode cc pc = .ok (.land, 1)) (hn : pc + 1 = n)  (k : gAt G n L (.long (x &&& y) :: st) σ) : gAt G pc L (.long y :: .long x :: st) σ := by
  subst hn; obtain ⟨⟨p, l, e, R, s, m, args, below, meth, c0⟩, X, nL0, v0, σ0⟩ := G; exact fun H locs ls hl hP hS => lv_land ho.1 ho.2.1 hd (k H locs ls hl hP hS)
theorem a_lor (ho : gOk G own cc d rt nL) {x y : Int64} (hd : decode cc pc = .ok (.lor, 1)) (hn : pc + 1 = n)  (k : gAt G n L (.long (x ||| y) :: st) σ) : gAt G pc L (.long y :: .long x :: st) σ := by
  subst hn; obtain ⟨⟨p, l, e, R, s, m, args, below, meth, c0⟩, X, nL0, v0, σ0⟩ := G; exact fun H locs ls hl hP hS => lv_lor ho.1 ho.2.1 hd (k H locs ls hl hP hS)
theorem a_ldiv (ho : gOk G own cc d rt nL) {x y : Int64} (hd : decode cc pc = .ok (.ldiv, 1)) (hn : pc + 1 = n) (hne : ¬ y = 0) (k : gAt G n L (.long (x / y) :: st) σ) : gAt G pc L (.long y :: .long x :: st) σ := by
  subst hn; obtain ⟨⟨p, l, e, R, s, m, args, below, meth, c0⟩, X, nL0, v0, σ0⟩ := G; exact fun H locs ls hl hP hS => lv_ldiv ho.1 ho.2.1 hd hne (k H locs ls hl hP hS)
theorem a_lrem (ho : gOk G own cc d rt nL) {x y : Int64} (hd : decode cc pc = .ok (.lrem, 1)) (hn : pc + 1 = n) (hne : ¬ y = 0) (k : gAt G n L (.long (x - x / y * y) :: st) σ) : gAt G pc L (.long y :: .long x :: st) σ := by
  subst hn; obtain ⟨⟨p, l, e, R, s, m, args, below, meth, c0⟩, X, nL0, v0, σ0⟩ := G; exact fun H locs ls hl hP hS => lv_lrem ho.1 ho.2.1 hd hne (k H locs ls hl hP hS)
theorem a_lshl (ho : gOk G own cc d rt nL) {x : Int64} {y : Int32} (hd : decode cc pc = .ok (.lshl, 1)) (hn : pc + 1 = n)  (k : gAt G n L (.long (x <<< (y.toInt64 &&& 63)) :: st) σ) : gAt G pc L (.int y :: .long x :: st) σ := by
  subst hn; obtain ⟨⟨p, l, e, R, s, m, args, below, meth, c0⟩, X, nL0, v0, σ0⟩ := G; exact fun H locs ls hl hP hS => lv_lshl ho.1 ho.2.1 hd rfl (k H locs ls hl hP hS)
theorem a_lcmp (ho : gOk G own cc d rt nL) {x y : Int64} (hd : decode cc pc = .ok (.lcmp, 1)) (hn : pc + 1 = n)  (k : gAt G n L (.int (lg_cmp x y) :: st) σ) : gAt G pc L (.long y :: .long x :: st) σ := by
  subst hn; obtain ⟨⟨p, l, e, R, s, m, args, below, meth, c0⟩, X, nL0, v0, σ0⟩ := G; exact fun H locs ls hl hP hS => W.lcmp ho.1 ho.2.1 hd (k H locs ls hl hP hS)
theorem a_i2l (ho : gOk G own cc d rt nL) {x : Int32} (hd : decode cc pc = .ok (.i2l, 1)) (hn : pc + 1 = n)  (k : gAt G n L (.long x.toInt64 :: st) σ) : gAt G pc L (.int x :: st) σ := by
  subst hn; obtain ⟨⟨p, l, e, R, s, m, args, below, meth, c0⟩, X, nL0, v0, σ0⟩ := G; exact fun H locs ls hl hP hS => lv_i2l ho.1 ho.2.1 hd rfl (k H locs ls hl hP hS)
theorem a_l2i (ho : gOk G own cc d rt nL) {x : Int64} (hd : decode cc pc = .ok (.l2i, 1)) (hn : pc + 1 = n)  (k : gAt G n L (.int x.toInt32 :: st) σ) : gAt G pc L (.long x :: st) σ := by
  subst hn; obtain ⟨⟨p, l, e, R, s, m, args, below, meth, c0⟩, X, nL0, v0, σ0⟩ := G; exact fun H locs ls hl hP hS => lv_l2i ho.1 ho.2.1 hd rfl (k H locs ls hl hP hS)
theorem a_i2b (ho : gOk G own cc d rt nL) {x : Int32} (hd : decode cc pc = .ok (.i2b, 1)) (hn : pc + 1 = n)  (k : gAt G n L (.int x.toInt8.toInt32 :: st) σ) : gAt G pc L (.int x :: st) σ := by
  subst hn; obtain ⟨⟨p, l, e, R, s, m, args, below, meth, c0⟩, X, nL0, v0, σ0⟩ := G; exact fun H locs ls hl hP hS => lv_i2b ho.1 ho.2.1 hd rfl (k H locs ls hl hP hS)
theorem a_i2s (ho : gOk G own cc d rt nL) {x : Int32} (hd : decode cc pc = .ok (.i2s, 1)) (hn : pc + 1 = n)  (k : gAt G n L (.int x.toInt16.toInt32 :: st) σ) : gAt G pc L (.int x :: st) σ := by
  subst hn; obtain ⟨⟨p, l, e, R, s, m, args, below, meth, c0⟩, X, nL0, v0, σ0⟩ := G; exact fun H locs ls hl hP hS => lv_i2s ho.1 ho.2.1 hd rfl (k H locs ls hl hP hS)
theorem a_dup (ho : gOk G own cc d rt nL) {v : Value} (hd : decode cc pc = .ok (.dup, 1)) (hn : pc + 1 = n) (hv : v.category = 1) (k : gAt G n L (v :: v :: st) σ) : gAt G pc L (v :: st) σ := by
  subst hn; obtain ⟨⟨p, l, e, R, s, m, args, below, meth, c0⟩, X, nL0, v0, σ0⟩ := G; exact fun H locs ls hl hP hS => lv_dup ho.1 ho.2.1 hd hv (k H locs ls hl hP hS)
theorem a_pop (ho : gOk G own cc d rt nL) {v : Value} (hd : decode cc pc = .ok (.pop, 1)) (hn : pc + 1 = n) (hv : v.category = 1) (k : gAt G n L (st) σ) : gAt G pc L (v :: st) σ := by
  subst hn; obtain ⟨⟨p, l, e, R, s, m, args, below, meth, c0⟩, X, nL0, v0, σ0⟩ := G; exact fun H locs ls hl hP hS => lv_pop ho.1 ho.2.1 hd hv (k H locs ls hl hP hS)
theorem a_dup_x1 (ho : gOk G own cc d rt nL) {v w : Value} (hd : decode cc pc = .ok (.dup_x1, 1)) (hn : pc + 1 = n) (hv : v.category = 1) (hw : w.category = 1) (k : gAt G n L (v :: w :: v :: st) σ) : gAt G pc L (v :: w :: st) σ := by
  subst hn; obtain ⟨⟨p, l, e, R, s, m, args, below, meth, c0⟩, X, nL0, v0, σ0⟩ := G; exact fun H locs ls hl hP hS => lv_dup_x1 ho.1 ho.2.1 hd hv hw (k H locs ls hl hP hS)
theorem a_dup2 (ho : gOk G own cc d rt nL) {v w : Value} (hd : decode cc pc = .ok (.dup2, 1)) (hn : pc + 1 = n) (hv : v.category = 1) (hw : w.category = 1) (k : gAt G n L (v :: w :: v :: w :: st) σ) : gAt G pc L (v :: w :: st) σ := by
  subst hn; obtain ⟨⟨p, l, e, R, s, m, args, below, meth, c0⟩, X, nL0, v0, σ0⟩ := G; exact fun H locs ls hl hP hS => lv_dup2_11 ho.1 ho.2.1 hd hv hw (k H locs ls hl hP hS)
theorem a_pop2 (ho : gOk G own cc d rt nL) {v : Value} (hd : decode cc pc = .ok (.pop2, 1)) (hn : pc + 1 = n) (hv : v.category = 2) (k : gAt G n L (st) σ) : gAt G pc L (v :: st) σ := by
  subst hn; obtain ⟨⟨p, l, e, R, s, m, args, below, meth, c0⟩, X, nL0, v0, σ0⟩ := G; exact fun H locs ls hl hP hS => lv_pop2_2 ho.1 ho.2.1 hd hv (k H locs ls hl hP hS)
theorem a_if_eq (ho : gOk G own cc d rt nL) {x : Int32} {off : Int} {tgt : Nat} (hd : decode cc pc = .ok (.ifCond .eq off, 3)) (ht : (pc : Int) + off = (tgt : Int)) (hn : pc + 3 = n) (kt : x = 0 → gAt G tgt L st σ) (kf : ¬ x = 0 → gAt G n L st σ) : gAt G pc L (.int x :: st) σ := by
  subst hn; obtain ⟨⟨p, l, e, R, s, m, args, below, meth, c0⟩, X, nL0, v0, σ0⟩ := G; exact fun H locs ls hl hP hS => lv_if_eq ho.1 ho.2.1 hd ht (fun q => kt q H locs ls hl hP hS) (fun q => kf q H locs ls hl hP hS)
theorem a_icmp_eq (ho : gOk G own cc d rt nL) {x y : Int32} {off : Int} {tgt : Nat} (hd : decode cc pc = .ok (.if_icmp .eq off, 3)) (ht : (pc : Int) + off = (tgt : Int)) (hn : pc + 3 = n) (kt : x = y → gAt G tgt L st σ) (kf : ¬ x = y → gAt G n L st σ) : gAt G pc L (.int y :: .int x :: st) σ := by
  subst hn; obtain ⟨⟨p, l, e, R, s, m, args, below, meth, c0⟩, X, nL0, v0, σ0⟩ := G; exact fun H locs ls hl hP hS => lv_icmp_eq ho.1 ho.2.1 hd ht (fun q => kt q H locs ls hl hP hS) (fun q => kf q H locs ls hl hP hS)
theorem a_if_ne (ho : gOk G own cc d rt nL) {x : Int32} {off : Int} {tgt : Nat} (hd : decode cc pc = .ok (.ifCond .ne off, 3)) (ht : (pc : Int) + off = (tgt : Int)) (hn : pc + 3 = n) (kt : ¬ x = 0 → gAt G tgt L st σ) (kf : x = 0 → gAt G n L st σ) : gAt G pc L (.int x :: st) σ := by
  subst hn; obtain ⟨⟨p, l, e, R, s, m, args, below, meth, c0⟩, X, nL0, v0, σ0⟩ := G; exact fun H locs ls hl hP hS => lv_if_ne ho.1 ho.2.1 hd ht (fun q => kt q H locs ls hl hP hS) (fun q => kf q H locs ls hl hP hS)
theorem a_icmp_ne (ho : gOk G own cc d rt nL) {x y : Int32} {off : Int} {tgt : Nat} (hd : decode cc pc = .ok (.if_icmp .ne off, 3)) (ht : (pc : Int) + off = (tgt : Int)) (hn : pc + 3 = n) (kt : ¬ x = y → gAt G tgt L st σ) (kf : x = y → gAt G n L st σ) : gAt G pc L (.int y :: .int x :: st) σ := by
  subst hn; obtain ⟨⟨p, l, e, R, s, m, args, below, meth, c0⟩, X, nL0, v0, σ0⟩ := G; exact fun H locs ls hl hP hS => lv_icmp_ne ho.1 ho.2.1 hd ht (fun q => kt q H locs ls hl hP hS) (fun q => kf q H locs ls hl hP hS)
theorem a_if_lt (ho : gOk G own cc d rt nL) {x : Int32} {off : Int} {tgt : Nat} (hd : decode cc pc = .ok (.ifCond .lt off, 3)) (ht : (pc : Int) + off = (tgt : Int)) (hn : pc + 3 = n) (kt : x < 0 → gAt G tgt L st σ) (kf : ¬ x < 0 → gAt G n L st σ) : gAt G pc L (.int x :: st) σ := by
  subst hn; obtain ⟨⟨p, l, e, R, s, m, args, below, meth, c0⟩, X, nL0, v0, σ0⟩ := G; exact fun H locs ls hl hP hS => lv_if_lt ho.1 ho.2.1 hd ht (fun q => kt q H locs ls hl hP hS) (fun q => kf q H locs ls hl hP hS)
theorem a_icmp_lt (ho : gOk G own cc d rt nL) {x y : Int32} {off : Int} {tgt : Nat} (hd : decode cc pc = .ok (.if_icmp .lt off, 3)) (ht : (pc : Int) + off = (tgt : Int)) (hn : pc + 3 = n) (kt : x < y → gAt G tgt L st σ) (kf : ¬ x < y → gAt G n L st σ) : gAt G pc L (.int y :: .int x :: st) σ := by
  subst hn; obtain ⟨⟨p, l, e, R, s, m, args, below, meth, c0⟩, X, nL0, v0, σ0⟩ := G; exact fun H locs ls hl hP hS => lv_icmp_lt ho.1 ho.2.1 hd ht (fun q => kt q H locs ls hl hP hS) (fun q => kf q H locs ls hl hP hS)
theorem a_if_ge (ho : gOk G own cc d rt nL) {x : Int32} {off : Int} {tgt : Nat} (hd : decode cc pc = .ok (.ifCond .ge off, 3)) (ht : (pc : Int) + off = (tgt : Int)) (hn : pc + 3 = n) (kt : 0 ≤ x → gAt G tgt L st σ) (kf : ¬ 0 ≤ x → gAt G n L st σ) : gAt G pc L (.int x :: st) σ := by
  subst hn; obtain ⟨⟨p, l, e, R, s, m, args, below, meth, c0⟩, X, nL0, v0, σ0⟩ := G; exact fun H locs ls hl hP hS => lv_if_ge ho.1 ho.2.1 hd ht (fun q => kt q H locs ls hl hP hS) (fun q => kf q H locs ls hl hP hS)
theorem a_icmp_ge (ho : gOk G own cc d rt nL) {x y : Int32} {off : Int} {tgt : Nat} (hd : decode cc pc = .ok (.if_icmp .ge off, 3)) (ht : (pc : Int) + off = (tgt : Int)) (hn : pc + 3 = n) (kt : y ≤ x → gAt G tgt L st σ) (kf : ¬ y ≤ x → gAt G n L st σ) : gAt G pc L (.int y :: .int x :: st) σ := by
  subst hn; obtain ⟨⟨p, l, e, R, s, m, args, below, meth, c0⟩, X, nL0, v0, σ0⟩ := G; exact fun H locs ls hl hP hS => lv_icmp_ge ho.1 ho.2.1 hd ht (fun q => kt q H locs ls hl hP hS) (fun q => kf q H locs ls hl hP hS)
theorem a_if_gt (ho : gOk G own cc d rt nL) {x : Int32} {off : Int} {tgt : Nat} (hd : decode cc pc = .ok (.ifCond .gt off, 3)) (ht : (pc : Int) + off = (tgt : Int)) (hn : pc + 3 = n) (kt : 0 < x → gAt G tgt L st σ) (kf : ¬ 0 < x → gAt G n L st σ) : gAt G pc L (.int x :: st) σ := by
  subst hn; obtain ⟨⟨p, l, e, R, s, m, args, below, meth, c0⟩, X, nL0, v0, σ0⟩ := G; exact fun H locs ls hl hP hS => lv_if_gt ho.1 ho.2.1 hd ht (fun q => kt q H locs ls hl hP hS) (fun q => kf q H locs ls hl hP hS)
theorem a_icmp_gt (ho : gOk G own cc d rt nL) {x y : Int32} {off : Int} {tgt : Nat} (hd : decode cc pc = .ok (.if_icmp .gt off, 3)) (ht : (pc : Int) + off = (tgt : Int)) (hn : pc + 3 = n) (kt : y < x → gAt G tgt L st σ) (kf : ¬ y < x → gAt G n L st σ) : gAt G pc L (.int y :: .int x :: st) σ := by
  subst hn; obtain ⟨⟨p, l, e, R, s, m, args, below, meth, c0⟩, X, nL0, v0, σ0⟩ := G; exact fun H locs ls hl hP hS => lv_icmp_gt ho.1 ho.2.1 hd ht (fun q => kt q H locs ls hl hP hS) (fun q => kf q H locs ls hl hP hS)
theorem a_if_le (ho : gOk G own cc d rt nL) {x : Int32} {off : Int} {tgt : Nat} (hd : decode cc pc = .ok (.ifCond .le off, 3)) (ht : (pc : Int) + off = (tgt : Int)) (hn : pc + 3 = n) (kt : x ≤ 0 → gAt G tgt L st σ) (kf : ¬ x ≤ 0 → gAt G n L st σ) : gAt G pc L (.int x :: st) σ := by
  subst hn; obtain ⟨⟨p, l, e, R, s, m, args, below, meth, c0⟩, X, nL0, v0, σ0⟩ := G; exact fun H locs ls hl hP hS => lv_if_le ho.1 ho.2.1 hd ht (fun q => kt q H locs ls hl hP hS) (fun q => kf q H locs ls hl hP hS)
theorem a_icmp_le (ho : gOk G own cc d rt nL) {x y : Int32} {off : Int} {tgt : Nat} (hd : decode cc pc = .ok (.if_icmp .le off, 3)) (ht : (pc : Int) + off = (tgt : Int)) (hn : pc + 3 = n) (kt : x ≤ y → gAt G tgt L st σ) (kf : ¬ x ≤ y → gAt G n L st σ) : gAt G pc L (.int y :: .int x :: st) σ := by
  subst hn; obtain ⟨⟨p, l, e, R, s, m, args, below, meth, c0⟩, X, nL0, v0, σ0⟩ := G; exact fun H locs ls hl hP hS => lv_icmp_le ho.1 ho.2.1 hd ht (fun q => kt q H locs ls hl hP hS) (fun q => kf q H locs ls hl hP hS)
theorem a_goto (ho : gOk G own cc d rt nL) {off : Int} {tgt : Nat} (hd : decode cc pc = .ok (.goto off, 3)) (ht : (pc : Int) + off = (tgt : Int)) (k : gAt G tgt L st σ) : gAt G pc L st σ := by
  obtain ⟨⟨p, l, e, R, s, m, args, below, meth, c0⟩, X, nL0, v0, σ0⟩ := G; exact fun H locs ls hl hP hS => lv_goto ho.1 ho.2.1 hd ht (k H locs ls hl hP hS)
theorem a_tin (ho : gOk G own cc d rt nL) {x : Int32} {dflt lo hi : Int} {offs : Array Int} {len : Nat} {off : Int} {tgt : Nat} (v : Int32) (hx : x = v) (hd : decode cc pc = .ok (.tableswitch dflt lo hi offs, len)) (h1 : ¬ v.toInt < lo) (h2 : ¬ hi < v.toInt) (hof : offs[(v.toInt - lo).toNat]? = some off) (ht : (pc : Int) + off = (tgt : Int)) (k : gAt G tgt L st σ) : gAt G pc L (.int x :: st) σ := by
  subst hx; obtain ⟨⟨p, l, e, R, s, m, args, below, meth, c0⟩, X, nL0, v0, σ0⟩ := G; exact fun H locs ls hl hP hS => lv_tableIn ho.1 ho.2.1 hd h1 h2 hof ht (k H locs ls hl hP hS)
theorem a_tout (ho : gOk G own cc d rt nL) {x : Int32} {dflt lo hi : Int} {offs : Array Int} {len : Nat} {tgt : Nat} (h : x.toInt < lo ∨ hi < x.toInt) (hd : decode cc pc = .ok (.tableswitch dflt lo hi offs, len)) (ht : (pc : Int) + dflt = (tgt : Int)) (k : gAt G tgt L st σ) : gAt G pc L (.int x :: st) σ := by
  obtain ⟨⟨p, l, e, R, s, m, args, below, meth, c0⟩, X, nL0, v0, σ0⟩ := G; exact fun H locs ls hl hP hS => lv_tableOut ho.1 ho.2.1 hd h ht (k H locs ls hl hP hS)
theorem a_look (ho : gOk G own cc d rt nL) {x : Int32} {dflt : Int} {ps : Array (Int × Int)} {len : Nat} {off : Int} {tgt : Nat} (hd : decode cc pc = .ok (.lookupswitch dflt ps, len)) (hp : (ps.toList.zip (ps.toList.drop 1)).all (fun (a, next) => a.1 < next.1) = true) (hof : Op.lookupswitch.offset ps.toList dflt x.toInt = off) (ht : (pc : Int) + off = (tgt : Int)) (k : gAt G tgt L st σ) : gAt G pc L (.int x :: st) σ := by
  obtain ⟨⟨p, l, e, R, s, m, args, below, meth, c0⟩, X, nL0, v0, σ0⟩ := G; exact fun H locs ls hl hP hS => lv_lookup ho.1 ho.2.1 hd hp hof ht (k H locs ls hl hP hS)
end ROWS
section MEM
variable {G : gM} {own : String} {cc : ByteArray} {d : Nat} {rt : Option FieldType} {nL : Nat} {pc n : Nat} {L L' : List (Nat × Value)} {st : List Value} {σ : gS}
abbrev gl (G : gM) : Launch := G.1.2.1
abbrev gXX (G : gM) : gX := G.2.1
abbrev gad (G : gM) : Nat → Nat := G.2.1.2.2.1
abbrev gv0 (G : gM) : Option Value := G.2.2.2.1
abbrev gs0 (G : gM) : gS := G.2.2.2.2
theorem a_sub (ks : List Nat) (hL : lv_pick L ks = L') (k : gAt G pc L' st σ) : gAt G pc L st σ := by
  obtain ⟨⟨p, l, e, R, s, m, args, below, meth, c0⟩, X, nL0, v0, σ0⟩ := G
  exact fun H locs ls hl hP hS => k H locs ls (lv_sub hl ks hL) hP hS
def gFl (own : String) (idx ci k : Nat) : Prop := ∃ (C : String) (T : u_T) (N : Nat), vwCl[ci]? = some (C, T, N) ∧ k < N ∧ (∀ w ∈ u_ws C T N, w ∈ WS) ∧ Cond.fieldLink own idx (T k).1 (T k).2.1 (T k).2.2.1 ∈ WS
def gFp (own : String) (idx ci k : Nat) : Prop := ∃ (C : String) (T : u_T) (N : Nat) (ty : Nat → FieldType), vwCl[ci]? = some (C, T, N) ∧ k < N ∧ (∀ w ∈ u_ws C T N, w ∈ WS) ∧ Cond.fieldLink own idx (T k).1 (T k).2.1 (T k).2.2.1 ∈ WS ∧ (∀ k, k < N → parseFieldDescriptor (T k).2.2.1 = some (ty k)) ∧ (∀ a, a < N → ∀ b, b < N → a ≠ b → (T a).2.1 ≠ (T b).2.1) ∧ (T k).2.2.2 = false ∧ ty k = .int
theorem a_getI (ho : gOk G own cc d rt nL) {c ci idx k : Nat} (hF : gFl own idx ci k) (hO : isO c ci) (hf : (ds c).2.2[k]? = some none) (hd : decode cc pc = .ok (.getfield idx, 3)) (hn : pc + 3 = n) (kk : gAt G n L (.int (σ.1 c k) :: st) σ) : gAt G pc L (.ref (gad G c) :: st) σ := by
  subst hn; obtain ⟨⟨p, l, e, R, s, m, args, below, meth, c0⟩, X, nL0, v0, σ0⟩ := G
  obtain ⟨C, T, N, hcl, hk, hin, hlk⟩ := hF
  intro H locs ls hl hP hS
  have he := gw_get (X := X) (σ := σ) (isO_lt hO)
  rw [gE_O hO] at he
  have hv := gF_int (ad := X.2.2.1) (m := σ.1 c) _ 0 k hf
  rw [Nat.zero_add] at hv
  exact va_get (D := X.1) ho.1 ho.2.1 ho.2.2.2.2.2.1 hin ho.2.2.2.2.1 ho.2.2.2.2.2.2.2.2.2.1 hP c he hcl k hk (ho.2.2.2.2.2.1 _ hlk) (fun _ h9 => h9) hv hd (kk H locs ls hl hP hS)
theorem a_getR (ho : gOk G own cc d rt nL) {c ci idx k q : Nat} (hF : gFl own idx ci k) (hO : isO c ci) (hf : (ds c).2.2[k]? = some (some q)) (hd : decode cc pc = .ok (.getfield idx, 3)) (hn : pc + 3 = n) (kk : gAt G n L (.ref (gad G q) :: st) σ) : gAt G pc L (.ref (gad G c) :: st) σ := by
  subst hn; obtain ⟨⟨p, l, e, R, s, m, args, below, meth, c0⟩, X, nL0, v0, σ0⟩ := G
  obtain ⟨C, T, N, hcl, hk, hin, hlk⟩ := hF
  intro H locs ls hl hP hS
  have he := gw_get (X := X) (σ := σ) (isO_lt hO)
  rw [gE_O hO] at he
  exact va_get (D := X.1) ho.1 ho.2.1 ho.2.2.2.2.2.1 hin ho.2.2.2.2.1 ho.2.2.2.2.2.2.2.2.2.1 hP c he hcl k hk (ho.2.2.2.2.2.1 _ hlk) (fun _ h9 => h9) (gF_ref _ 0 k hf) hd (kk H locs ls hl hP hS)
theorem a_putI (ho : gOk G own cc d rt nL) {c ci idx k : Nat} {v : Int32} (hF : gFp own idx ci k) (hO : isO c ci) (hf : (ds c).2.2[k]? = some none) (hd : decode cc pc = .ok (.putfield idx, 3)) (hn : pc + 3 = n) (kk : gAt G n L st (s1 σ c (upd (σ.1 c) k v))) : gAt G pc L (.int v :: .ref (gad G c) :: st) σ := by
  subst hn; obtain ⟨⟨p, l, e, R, s, m, args, below, meth, c0⟩, X, nL0, v0, σ0⟩ := G
  obtain ⟨C, T, N, ty, hcl, hk, hin, hlk, hty, hnm, hfin, ht⟩ := hF
  intro H locs ls hl hP hS
  have he := gw_get (X := X) (σ := σ) (isO_lt hO)
  rw [gE_O hO] at he
  have hlen : k < (gF X.2.2.1 (σ.1 c) 0 (ds c).2.2).length := by rw [gF_len]; exact (List.getElem?_eq_some_iff.mp hf).1
  refine va_put (D := X.1) (ty := .int) ho.1 ho.2.1 ho.2.2.2.2.2.1 hin ty hty hnm ho.2.2.2.2.1 ho.2.2.2.2.2.2.2.2.2.1 hP (gD ho.2.2.2.2.2.2.2.2.2.2.1 σ) hS c he hcl k hk (ho.2.2.2.2.2.1 _ hlk) (fun _ h9 => h9) hfin (by rw [hty k hk, ht]) rfl rfl hlen hd (fun H1 locs1 hP1 _ hS1 => ?_)
  refine kk H1 locs1 ls hl ?_ hS1
  have e1 := gF_set (ad := X.2.2.1) (m := σ.1 c) (v := v) _ 0 k hf
  rw [Nat.zero_add] at e1
  rw [e1, ← gE_O (X := X) (m := upd (σ.1 c) k v) (g := σ.2 c) hO, gw_s1 (isO_lt hO)] at hP1
  exact hP1
theorem a_iald (ho : gOk G own cc d rt nL) {c N : Nat} {i : Int32} (hI : isI c N) (hr : inR i N) (hd : decode cc pc = .ok (.iaload, 1)) (hn : pc + 1 = n) (kk : gAt G n L (.int (σ.1 c i.toNatClampNeg) :: st) σ) : gAt G pc L (.int i :: .ref (gad G c) :: st) σ := by
  subst hn; obtain ⟨⟨p, l, e, R, s, m, args, below, meth, c0⟩, X, nL0, v0, σ0⟩ := G
  intro H locs ls hl hP hS
  have he := gw_get (X := X) (σ := σ) (isI_lt hI)
  rw [gE_I hI] at he
  exact va_iald (D := X.1) ho.1 ho.2.1 ho.2.2.2.2.2.2.2.2.2.1 hP c 0 he rfl hr hd (kk H locs ls hl hP hS)
theorem a_zald (ho : gOk G own cc d rt nL) {c N : Nat} {i : Int32} (hI : isZ c N) (hr : inR i N) (hd : decode cc pc = .ok (.baload, 1)) (hn : pc + 1 = n) (kk : gAt G n L (.int (σ.1 c i.toNatClampNeg) :: st) σ) : gAt G pc L (.int i :: .ref (gad G c) :: st) σ := by
  subst hn; obtain ⟨⟨p, l, e, R, s, m, args, below, meth, c0⟩, X, nL0, v0, σ0⟩ := G
  intro H locs ls hl hP hS
  have he := gw_get (X := X) (σ := σ) (isZ_lt hI)
  rw [gE_Z hI] at he
  exact va_zald (D := X.1) ho.1 ho.2.1 ho.2.2.2.2.2.2.2.2.2.1 hP c 2 he rfl hr hd (kk H locs ls hl hP hS)
theorem a_lald (ho : gOk G own cc d rt nL) {c N : Nat} {i : Int32} (hI : isJ c N) (hr : inR i N) (hd : decode cc pc = .ok (.laload, 1)) (hn : pc + 1 = n) (kk : gAt G n L (.long (σ.2 c i.toNatClampNeg) :: st) σ) : gAt G pc L (.int i :: .ref (gad G c) :: st) σ := by
  subst hn; obtain ⟨⟨p, l, e, R, s, m, args, below, meth, c0⟩, X, nL0, v0, σ0⟩ := G
  intro H locs ls hl hP hS
  have he := gw_get (X := X) (σ := σ) (isJ_lt hI)
  rw [gE_J hI] at he
  exact va_lald (D := X.1) ho.1 ho.2.1 ho.2.2.2.2.2.2.2.2.2.1 hP c 1 he rfl hr hd (kk H locs ls hl hP hS)
theorem a_iast (ho : gOk G own cc d rt nL) {c N : Nat} {i x : Int32} (hI : isI c N) (hr : inR i N) (hd : decode cc pc = .ok (.iastore, 1)) (hn : pc + 1 = n) (kk : gAt G n L st (s1 σ c (upd (σ.1 c) i.toNatClampNeg x))) : gAt G pc L (.int x :: .int i :: .ref (gad G c) :: st) σ := by
  subst hn; obtain ⟨⟨p, l, e, R, s, m, args, below, meth, c0⟩, X, nL0, v0, σ0⟩ := G
  intro H locs ls hl hP hS
  have he := gw_get (X := X) (σ := σ) (isI_lt hI)
  rw [gE_I hI] at he
  refine va_iast (D := X.1) ho.1 ho.2.1 ho.2.2.2.2.2.2.2.2.2.1 hP (gD ho.2.2.2.2.2.2.2.2.2.2.1 σ) hS c 0 he rfl hr hd (fun H1 locs1 hP1 _ hS1 => kk H1 locs1 ls hl ?_ hS1)
  rw [← gE_I (X := X) (m := upd (σ.1 c) i.toNatClampNeg x) (g := σ.2 c) hI, gw_s1 (isI_lt hI)] at hP1
  exact hP1
theorem a_zast (ho : gOk G own cc d rt nL) {c N : Nat} {i x : Int32} (hI : isZ c N) (hr : inR i N) (hd : decode cc pc = .ok (.bastore, 1)) (hn : pc + 1 = n) (kk : gAt G n L st (s1 σ c (upd (σ.1 c) i.toNatClampNeg (vp_nar .boolean x)))) : gAt G pc L (.int x :: .int i :: .ref (gad G c) :: st) σ := by
  subst hn; obtain ⟨⟨p, l, e, R, s, m, args, below, meth, c0⟩, X, nL0, v0, σ0⟩ := G
  intro H locs ls hl hP hS
  have he := gw_get (X := X) (σ := σ) (isZ_lt hI)
  rw [gE_Z hI] at he
  refine va_zast (D := X.1) ho.1 ho.2.1 ho.2.2.2.2.2.2.2.2.2.1 hP (gD ho.2.2.2.2.2.2.2.2.2.2.1 σ) hS c 2 he rfl hr hd (fun H1 locs1 hP1 _ hS1 => kk H1 locs1 ls hl ?_ hS1)
  rw [← gE_Z (X := X) (m := upd (σ.1 c) i.toNatClampNeg (vp_nar .boolean x)) (g := σ.2 c) hI, gw_s1 (isZ_lt hI)] at hP1
  exact hP1
theorem a_last (ho : gOk G own cc d rt nL) {c N : Nat} {i : Int32} {x : Int64} (hI : isJ c N) (hr : inR i N) (hd : decode cc pc = .ok (.lastore, 1)) (hn : pc + 1 = n) (kk : gAt G n L st (s2 σ c (vp_updL (σ.2 c) i.toNatClampNeg x))) : gAt G pc L (.long x :: .int i :: .ref (gad G c) :: st) σ := by
  subst hn; obtain ⟨⟨p, l, e, R, s, m, args, below, meth, c0⟩, X, nL0, v0, σ0⟩ := G
  intro H locs ls hl hP hS
  have he := gw_get (X := X) (σ := σ) (isJ_lt hI)
  rw [gE_J hI] at he
  refine va_last (D := X.1) ho.1 ho.2.1 ho.2.2.2.2.2.2.2.2.2.1 hP (gD ho.2.2.2.2.2.2.2.2.2.2.1 σ) hS c 1 he rfl hr hd (fun H1 locs1 hP1 _ hS1 => kk H1 locs1 ls hl ?_ hS1)
  rw [← gE_J (X := X) (m := σ.1 c) (g := vp_updL (σ.2 c) i.toNatClampNeg x) hI, gw_s2 (isJ_lt hI)] at hP1
  exact hP1
theorem a_alen (ho : gOk G own cc d rt nL) {c N : Nat} {v : Int32} (hI : isI c N) (hv : Int32.ofNat N = v) (hd : decode cc pc = .ok (.arraylength, 1)) (hn : pc + 1 = n) (kk : gAt G n L (.int v :: st) σ) : gAt G pc L (.ref (gad G c) :: st) σ := by
  subst hn; obtain ⟨⟨p, l, e, R, s, m, args, below, meth, c0⟩, X, nL0, v0, σ0⟩ := G
  intro H locs ls hl hP hS
  have he := gw_get (X := X) (σ := σ) (isI_lt hI)
  rw [gE_I hI] at he
  exact va_alen (D := X.1) ho.1 ho.2.1 ho.2.2.2.2.2.2.2.2.2.1 hP c 0 he rfl hv hd (kk H locs ls hl hP hS)
theorem a_alenJ (ho : gOk G own cc d rt nL) {c N : Nat} {v : Int32} (hI : isJ c N) (hv : Int32.ofNat N = v) (hd : decode cc pc = .ok (.arraylength, 1)) (hn : pc + 1 = n) (kk : gAt G n L (.int v :: st) σ) : gAt G pc L (.ref (gad G c) :: st) σ := by
  subst hn; obtain ⟨⟨p, l, e, R, s, m, args, below, meth, c0⟩, X, nL0, v0, σ0⟩ := G
  intro H locs ls hl hP hS
  have he := gw_get (X := X) (σ := σ) (isJ_lt hI)
  rw [gE_J hI] at he
  exact va_alen (D := X.1) ho.1 ho.2.1 ho.2.2.2.2.2.2.2.2.2.1 hP c 1 he rfl hv hd (kk H locs ls hl hP hS)
abbrev isR (c t N : Nat) : Prop := (ds c).1 = t ∧ (ds c).2.1 = N
theorem gR_at {ad : Nat → Nat} {l : List (Option Nat)} {j q : Nat} (h : l[j]? = some (some q)) : va_rf (gR ad l j) = .ref (ad q) := by
  unfold gR; rw [List.getD_eq_getElem?_getD, h]; rfl
theorem a_aald (ho : gOk G own cc d rt nL) {c t N q : Nat} {i : Int32} (ht : t = 3 ∨ t = 4 ∨ t = 5) (hI : isR c t N) (hr : inR i N) (hq : (ds c).2.2[i.toNatClampNeg]? = some (some q)) (hd : decode cc pc = .ok (.aaload, 1)) (hn : pc + 1 = n) (kk : gAt G n L (.ref (gad G q) :: st) σ) : gAt G pc L (.int i :: .ref (gad G c) :: st) σ := by
  subst hn; obtain ⟨⟨p, l, e, R, s, m, args, below, meth, c0⟩, X, nL0, v0, σ0⟩ := G
  intro H locs ls hl hP hS
  have hlt : i.toNatClampNeg < N := Nat.not_le.mp fun q => hr (Or.inr q)
  have hc : c < NC := ds_lt (by rw [hI.1]; rcases ht with h | h | h <;> rw [h] <;> decide)
  have hK := ho.2.2.2.2.2.2.2.2.2.1
  have key : ∀ (cA : ClassId) (ty : FieldType) (k : Nat), ty.isReference = true → (gTy X)[k]? = some (cA, ty) → gE X c (σ.1 c) (σ.2 c) = .inl (cA, N, .inr (.inr (.inr (.inr (gR X.2.2.1 (ds c).2.2))))) → W p l e R s m args below meth c0 H locs 0 0 (MQ below (gQ X v0 σ0) args s 0 0 (gA X)) (F0 m pc ls (.int i :: .ref (X.2.2.1 c) :: st)) := by
    intro cA ty k href hk hE
    have he := gw_get (X := X) (σ := σ) hc
    rw [hE] at he
    exact W.aald (v := .ref (X.2.2.1 q)) (ty := ty) ho.1 ho.2.1 (hP c _ he) ((hK.2 k _ hk).1 N (fun j => va_rf (gR X.2.2.1 (ds c).2.2 j))) href (fun q => by cases q) (by show ¬ (i < 0 ∨ (arrV _ _ _).slots.size ≤ _); rw [arrV_size]; exact hr) (by show (arrV _ _ _).slots[_]? = _; rw [arrV_read _ _ hlt, gR_at hq]) rfl rfl hd (kk H locs ls hl hP hS)
  rcases ht with h | h | h
  · exact key (X.2.1 3) (.object "WaxCloth$Cloth") 3 rfl rfl (by unfold gE; rw [hI.1, hI.2, h]; rfl)
  · exact key (X.2.1 4) (.object "WaxCloth$Sheet") 4 rfl rfl (by unfold gE; rw [hI.1, hI.2, h]; rfl)
  · exact key (X.2.1 5) (.array .int) 5 rfl rfl (by unfold gE; rw [hI.1, hI.2, h]; rfl)
/-- the bounds of System.arraycopy -/
abbrev cpR (sp dp n : Int32) (n0 n1 : Nat) : Prop := ¬ sp < 0 ∧ ¬ dp < 0 ∧ ¬ n < 0 ∧ sp.toNatClampNeg + n.toNatClampNeg ≤ n0 ∧ dp.toNatClampNeg + n.toNatClampNeg ≤ n1
def gCp (own : String) (idx : Nat) : Prop := Cond.methodLink own idx arraycopyName ∈ WS ∧ Cond.native arraycopyName ∈ WS ∧ Cond.static arraycopyName ∈ WS ∧ Cond.initialized "java/lang/System" ∈ WS
theorem a_cpyI (ho : gOk G own cc d rt nL) {c c1 N N1 idx : Nat} {sp dp k : Int32} (hw : gCp own idx) (hd1 : 1 ≤ d) (hI : isI c N) (hI1 : isI c1 N1) (hr : cpR sp dp k N N1) (hst : (st.map fun v => v.category).sum ≤ 8) (hd : decode cc pc = .ok (.invokestatic idx, 3)) (hn : pc + 3 = n) (kk : gAt G n L st (s1 σ c1 (va_cpy (σ.1 c) (σ.1 c1) sp.toNatClampNeg dp.toNatClampNeg k.toNatClampNeg))) : gAt G pc L (.int k :: .int dp :: .ref (gad G c1) :: .int sp :: .ref (gad G c) :: st) σ := by
  subst hn; obtain ⟨⟨p, l, e, R, s, m, args, below, meth, c0⟩, X, nL0, v0, σ0⟩ := G
  intro H locs ls hl hP hS
  have he := gw_get (X := X) (σ := σ) (isI_lt hI)
  rw [gE_I hI] at he
  have he1 := gw_get (X := X) (σ := σ) (isI_lt hI1)
  rw [gE_I hI1] at he1
  have hR : R = rmd d := ho.2.2.2.2.2.2.2.2.1
  refine va_copyi (D := X.1) (ty := .int) ho.1 ho.2.1 (by rw [ho.2.2.1, ← ho.2.2.2.1]; exact hl.1.symm) ho.2.2.2.2.1 (ho.2.2.2.2.2.1 _ hw.1) (ho.2.2.2.2.2.1 _ hw.2.1) (ho.2.2.2.2.2.1 _ hw.2.2.1) (ho.2.2.2.2.2.1 _ hw.2.2.2) ho.2.2.2.2.2.2.2.2.2.1 hP (gD ho.2.2.2.2.2.2.2.2.2.2.1 σ) hS c c1 0 0 he he1 rfl rfl rfl hr.1 hr.2.1 hr.2.2.1 hr.2.2.2.1 hr.2.2.2.2 (fun _ _ => rfl) (by rw [hR]; exact hd1) ?_ hd (fun H1 locs1 hP1 _ hS1 => kk H1 locs1 ls hl ?_ hS1)
  · rw [hR]
    have h1 : nativeFrameWords "java/lang/System" "arraycopy" 5 + 11 ≤ 50 := by decide
    show _ ≤ 64 * d
    omega
  · rw [← gE_I (X := X) (m := va_cpy (σ.1 c) (σ.1 c1) sp.toNatClampNeg dp.toNatClampNeg k.toNatClampNeg) (g := σ.2 c1) hI1, gw_s1 (isI_lt hI1)] at hP1
    exact hP1
theorem a_cpyJ (ho : gOk G own cc d rt nL) {c c1 N N1 idx : Nat} {sp dp k : Int32} (hw : gCp own idx) (hd1 : 1 ≤ d) (hI : isJ c N) (hI1 : isJ c1 N1) (hr : cpR sp dp k N N1) (hst : (st.map fun v => v.category).sum ≤ 8) (hd : decode cc pc = .ok (.invokestatic idx, 3)) (hn : pc + 3 = n) (kk : gAt G n L st (s2 σ c1 (va_cpy (σ.2 c) (σ.2 c1) sp.toNatClampNeg dp.toNatClampNeg k.toNatClampNeg))) : gAt G pc L (.int k :: .int dp :: .ref (gad G c1) :: .int sp :: .ref (gad G c) :: st) σ := by
  subst hn; obtain ⟨⟨p, l, e, R, s, m, args, below, meth, c0⟩, X, nL0, v0, σ0⟩ := G
  intro H locs ls hl hP hS
  have he := gw_get (X := X) (σ := σ) (isJ_lt hI)
  rw [gE_J hI] at he
  have he1 := gw_get (X := X) (σ := σ) (isJ_lt hI1)
  rw [gE_J hI1] at he1
  have hR : R = rmd d := ho.2.2.2.2.2.2.2.2.1
  refine va_copyl (D := X.1) (ty := .long) ho.1 ho.2.1 (by rw [ho.2.2.1, ← ho.2.2.2.1]; exact hl.1.symm) ho.2.2.2.2.1 (ho.2.2.2.2.2.1 _ hw.1) (ho.2.2.2.2.2.1 _ hw.2.1) (ho.2.2.2.2.2.1 _ hw.2.2.1) (ho.2.2.2.2.2.1 _ hw.2.2.2) ho.2.2.2.2.2.2.2.2.2.1 hP (gD ho.2.2.2.2.2.2.2.2.2.2.1 σ) hS c c1 1 1 he he1 rfl rfl rfl hr.1 hr.2.1 hr.2.2.1 hr.2.2.2.1 hr.2.2.2.2 (fun _ _ => rfl) (by rw [hR]; exact hd1) ?_ hd (fun H1 locs1 hP1 _ hS1 => kk H1 locs1 ls hl ?_ hS1)
  · rw [hR]
    have h1 : nativeFrameWords "java/lang/System" "arraycopy" 5 + 11 ≤ 50 := by decide
    show _ ≤ 64 * d
    omega
  · rw [← gE_J (X := X) (m := σ.1 c1) (g := va_cpy (σ.2 c) (σ.2 c1) sp.toNatClampNeg dp.toNatClampNeg k.toNatClampNeg) hI1, gw_s2 (isJ_lt hI1)] at hP1
    exact hP1
theorem a_tabG (ho : gOk G own cc d rt nL) {idx : Nat} (hlk : Cond.fieldLink own idx "WaxCloth$Kind" "ABOVE" "[I" ∈ WS) (hd : decode cc pc = .ok (.getstatic idx, 3)) (hn : pc + 3 = n) (kk : gAt G n L (.ref G.2.1.2.2.2 :: st) σ) : gAt G pc L st σ := by
  subst hn; obtain ⟨⟨p, l, e, R, s, m, args, below, meth, c0⟩, X, nL0, v0, σ0⟩ := G
  intro H locs ls hl hP hS
  exact va_gets ho.1 ho.2.1 ho.2.2.2.2.2.2.2.2.2.2.2.1 hS ho.2.2.2.2.1 (ho.2.2.2.2.2.1 _ hlk) (fun _ h9 => h9) hd (kk H locs ls hl hP hS)
theorem a_tabL (ho : gOk G own cc d rt nL) (hd : decode cc pc = .ok (.arraylength, 1)) (hn : pc + 1 = n) (kk : gAt G n L (.int 6 :: st) σ) : gAt G pc L (.ref G.2.1.2.2.2 :: st) σ := by
  subst hn; obtain ⟨⟨p, l, e, R, s, m, args, below, meth, c0⟩, X, nL0, v0, σ0⟩ := G
  intro H locs ls hl hP hS
  exact va_tlen ho.1 ho.2.1 ho.2.2.2.2.2.2.2.2.2.2.2.2 hS rfl hd (kk H locs ls hl hP hS)
theorem a_tabA (ho : gOk G own cc d rt nL) {i : Int32} (hr : inR i 6) (hd : decode cc pc = .ok (.iaload, 1)) (hn : pc + 1 = n) (kk : gAt G n L (.int (abv i.toNatClampNeg) :: st) σ) : gAt G pc L (.int i :: .ref G.2.1.2.2.2 :: st) σ := by
  subst hn; obtain ⟨⟨p, l, e, R, s, m, args, below, meth, c0⟩, X, nL0, v0, σ0⟩ := G
  intro H locs ls hl hP hS
  exact va_ti ho.1 ho.2.1 ho.2.2.2.2.2.2.2.2.2.2.2.2 hS hr rfl hd (kk H locs ls hl hP hS)
end MEM
section MAXMIN
variable {G : gM} {own : String} {cc : ByteArray} {d : Nat} {rt : Option FieldType} {nL : Nat} {pc n : Nat} {L L' : List (Nat × Value)} {st : List Value} {σ : gS}
def gMx (own : String) (idx : Nat) : Prop := Cond.methodLink own idx Lib.Math.max.name ∈ WS ∧ Cond.static Lib.Math.max.name ∈ WS ∧ Cond.initialized "java/lang/Math" ∈ WS ∧ Cond.code Lib.Math.max.name Lib.Math.max.code 2 (some .int) ∈ WS
def gMn (own : String) (idx : Nat) : Prop := Cond.methodLink own idx Lib.Math.min.name ∈ WS ∧ Cond.static Lib.Math.min.name ∈ WS ∧ Cond.initialized "java/lang/Math" ∈ WS ∧ Cond.code Lib.Math.min.name Lib.Math.min.code 2 (some .int) ∈ WS
def mx (x y : Int32) : Int32 := if x < y then y else x
def mn (x y : Int32) : Int32 := if y < x then y else x
theorem a_max (ho : gOk G own cc d rt nL) {x y : Int32} {idx : Nat} (hw : gMx own idx) (hd1 : 1 ≤ d) (hst : (st.map fun v => v.category).sum ≤ 8) (hd : decode cc pc = .ok (.invokestatic idx, 3)) (hn : pc + 3 = n) (kk : gAt G n L (.int (mx x y) :: st) σ) : gAt G pc L (.int y :: .int x :: st) σ := by
  subst hn; obtain ⟨⟨p, l, e, R, s, m, args, below, meth, c0⟩, X, nL0, v0, σ0⟩ := G
  intro H locs ls hl hP hS
  have hR : R = rmd d := ho.2.2.2.2.2.2.2.2.1
  exact va_mmax ho.1 ho.2.1 (by rw [ho.2.2.1, ← ho.2.2.2.1]; exact hl.1.symm) ho.2.2.2.2.1 (ho.2.2.2.2.2.1 _ hw.1) (ho.2.2.2.2.2.1 _ hw.2.1) (ho.2.2.2.2.2.1 _ hw.2.2.1) (ho.2.2.2.2.2.1 _ hw.2.2.2) (by rw [hR]; exact hd1) (by rw [hR]; show _ ≤ 64 * d; omega) (Nat.zero_le _) (Nat.zero_le _) hd (kk H locs ls hl hP hS)
theorem a_min (ho : gOk G own cc d rt nL) {x y : Int32} {idx : Nat} (hw : gMn own idx) (hd1 : 1 ≤ d) (hst : (st.map fun v => v.category).sum ≤ 8) (hd : decode cc pc = .ok (.invokestatic idx, 3)) (hn : pc + 3 = n) (kk : gAt G n L (.int (mn x y) :: st) σ) : gAt G pc L (.int y :: .int x :: st) σ := by
  subst hn; obtain ⟨⟨p, l, e, R, s, m, args, below, meth, c0⟩, X, nL0, v0, σ0⟩ := G
  intro H locs ls hl hP hS
  have hR : R = rmd d := ho.2.2.2.2.2.2.2.2.1
  exact va_mmin ho.1 ho.2.1 (by rw [ho.2.2.1, ← ho.2.2.2.1]; exact hl.1.symm) ho.2.2.2.2.1 (ho.2.2.2.2.2.1 _ hw.1) (ho.2.2.2.2.2.1 _ hw.2.1) (ho.2.2.2.2.2.1 _ hw.2.2.1) (ho.2.2.2.2.2.1 _ hw.2.2.2) (by rw [hR]; exact hd1) (by rw [hR]; show _ ≤ 64 * d; omega) (Nat.zero_le _) (Nat.zero_le _) hd (kk H locs ls hl hP hS)
end MAXMIN
section RET
variable {G : gM} {own : String} {cc : ByteArray} {d : Nat} {rt : Option FieldType} {nL : Nat} {pc n : Nat} {L L' : List (Nat × Value)} {st : List Value} {σ : gS}
theorem g_end {X : gX} {σ : gS} {s t : State} {H : Heap} {locs : List Loc} {v : Option Value} (hP : va_P X.1 vwCl (gw X σ) H) (hS : va_S (gA X) s.heap H locs) (hK : va_K X.1 vwCl (gTy X) s) (hj : gDj X) (hz : gZ X s s.heap) (ht : t.heap = H) (hW : s.WarmedH t.vm) {a : Array Value} : gQ X v σ a s (.returned v) t := by
  refine ⟨⟨rfl, by rw [ht]; exact hP, va_K.moved hW.alike hK, hj, ?_⟩, hS.F ht⟩
  rw [ht]
  exact ⟨(va_Z.moved hW.alike hz.1).kept hS.2.1, (va_T.moved hW.alike hz.2).kept hS.2.1⟩
theorem a_iret (ho : gOk G own cc d (some .int) nL) {r : Int32} (hd : decode cc pc = .ok (.ireturn, 1)) (hv : gv0 G = some (.int r)) (hs : gs0 G = σ) : gAt G pc L [.int r] σ := by
  obtain ⟨⟨p, l, e, R, s, m, args, below, meth, c0⟩, X, nL0, v0, σ0⟩ := G
  intro H locs ls hl hP hS
  have hv : v0 = _ := hv
  have hs : σ0 = _ := hs
  subst hv; subst hs
  exact W.iret ho.1 ho.2.1 ho.2.2.2.2.2.2.2.1 (fun t ht hW => g_end hP hS ho.2.2.2.2.2.2.2.2.2.1 ho.2.2.2.2.2.2.2.2.2.2.1 ho.2.2.2.2.2.2.2.2.2.2.2 ht hW) hS.2.2 hd ho.2.2.2.2.2.2.1
theorem a_zret (ho : gOk G own cc d (some .boolean) nL) {r : Int32} (hd : decode cc pc = .ok (.ireturn, 1)) (hb : narrow .boolean (.int r) = .int r) (hv : gv0 G = some (.int r)) (hs : gs0 G = σ) : gAt G pc L [.int r] σ := by
  obtain ⟨⟨p, l, e, R, s, m, args, below, meth, c0⟩, X, nL0, v0, σ0⟩ := G
  intro H locs ls hl hP hS
  have hv : v0 = _ := hv
  have hs : σ0 = _ := hs
  subst hv; subst hs
  exact W.zret ho.1 ho.2.1 ho.2.2.2.2.2.2.2.1 hb (fun t ht hW => g_end hP hS ho.2.2.2.2.2.2.2.2.2.1 ho.2.2.2.2.2.2.2.2.2.2.1 ho.2.2.2.2.2.2.2.2.2.2.2 ht hW) hS.2.2 hd ho.2.2.2.2.2.2.1
theorem a_lret (ho : gOk G own cc d (some .long) nL) {r : Int64} (hd : decode cc pc = .ok (.lreturn, 1)) (hv : gv0 G = some (.long r)) (hs : gs0 G = σ) : gAt G pc L [.long r] σ := by
  obtain ⟨⟨p, l, e, R, s, m, args, below, meth, c0⟩, X, nL0, v0, σ0⟩ := G
  intro H locs ls hl hP hS
  have hv : v0 = _ := hv
  have hs : σ0 = _ := hs
  subst hv; subst hs
  exact W.lret ho.1 ho.2.1 ho.2.2.2.2.2.2.2.1 (fun t ht hW => g_end hP hS ho.2.2.2.2.2.2.2.2.2.1 ho.2.2.2.2.2.2.2.2.2.2.1 ho.2.2.2.2.2.2.2.2.2.2.2 ht hW) hS.2.2 hd ho.2.2.2.2.2.2.1
theorem a_vret (ho : gOk G own cc d none nL) (hd : decode cc pc = .ok (.return_, 1)) (hv : gv0 G = none) (hs : gs0 G = σ) : gAt G pc L [] σ := by
  obtain ⟨⟨p, l, e, R, s, m, args, below, meth, c0⟩, X, nL0, v0, σ0⟩ := G
  intro H locs ls hl hP hS
  have hv : v0 = _ := hv
  have hs : σ0 = _ := hs
  subst hv; subst hs
  exact W.vret ho.1 ho.2.1 ho.2.2.2.2.2.2.2.1 (fun t ht hW => g_end hP hS ho.2.2.2.2.2.2.2.2.2.1 ho.2.2.2.2.2.2.2.2.2.2.1 ho.2.2.2.2.2.2.2.2.2.2.2 ht hW) hS.2.2 hd ho.2.2.2.2.2.2.1
end RET
section CALLS
variable {G : gM} {own : String} {cc : ByteArray} {d : Nat} {rt : Option FieldType} {nL : Nat} {pc n : Nat} {L L' : List (Nat × Value)} {st : List Value} {σ σ' : gS}
theorem gBlind {X : gX} {σ : gS} {as : List Value} : FrameBlind (va_Pc as (gH X σ)) := fun _ U _ _ q => ⟨q.1, q.2.1, va_K.moved (u := U) (Vm.Alike.refl U.vm) q.2.2.1, q.2.2.2.1, va_Z.moved (u := U) (Vm.Alike.refl U.vm) q.2.2.2.2.1, va_T.moved (u := U) (Vm.Alike.refl U.vm) q.2.2.2.2.2⟩
theorem gIn {X : gX} {σ : gS} {s : State} {H : Heap} {locs : List Loc} {as : List Value} (hP : va_P X.1 vwCl (gw X σ) H) (hS : va_S (gA X) s.heap H locs) (hK : va_K X.1 vwCl (gTy X) s) (hj : gDj X) (hz : gZ X s s.heap) : ∀ U : State, U.heap = H → s.WarmedH U.vm → va_Pc as (gH X σ) as.toArray U := fun U hU hW =>
  ⟨rfl, by rw [hU]; exact hP, va_K.moved hW.alike hK, hj, by rw [hU]; exact (va_Z.moved hW.alike hz.1).kept hS.2.1, by rw [hU]; exact (va_T.moved hW.alike hz.2).kept hS.2.1⟩
/-- what the tables say of an instance method -/
def gV (y : MethodName) (bytes : ByteArray) (maxL : Nat) (ret : Option FieldType) (na ci : Nat) : Prop := (∃ (T : u_T) (N : Nat), vwCl[ci]? = some (y.cls, T, N)) ∧ Cond.code y bytes maxL ret ∈ WS ∧ Cond.instanceMethod y ∈ WS ∧ Cond.selects y.cls y y ∈ WS ∧ Cond.initialized y.cls ∈ WS ∧ (y.cls ≠ "java/lang/invoke/MethodHandle" ∧ y.cls ≠ "java/lang/invoke/VarHandle" ∧ (parseMethodDescriptor y.desc).map (fun d => d.parameters.length) = some na) ∧ maxL ≤ 45
def gT (y : MethodName) (bytes : ByteArray) (maxL : Nat) (ret : Option FieldType) (na : Nat) : Prop := Cond.code y bytes maxL ret ∈ WS ∧ Cond.static y ∈ WS ∧ Cond.initialized y.cls ∈ WS ∧ (y.cls ≠ "java/lang/invoke/MethodHandle" ∧ y.cls ≠ "java/lang/invoke/VarHandle" ∧ (parseMethodDescriptor y.desc).map (fun d => d.parameters.length) = some na) ∧ maxL ≤ 45
theorem g_after {p : Program} {l : Launch} {e : Env} {R : Room} {s : State} {m : MethodId} {args : Array Value} {below : List Frame} {meth : Method} {c0 : Code} {X : gX} {H : Heap} {locs : List Loc} {ls : Array Slot} {st0 : List Value} {v : Option Value} {a : Array Value} {Q : State → Prop} (hr : va_Run p l e R s m args below meth c0 H locs 0 0 0 0 (F0 m pc ls st0) st (gQ X v σ' a) (gA X)) (hS : va_S (gA X) s.heap H locs)
    (kk : ∀ (H1 : Heap) (locs1 : List Loc), va_P X.1 vwCl (gw X σ') H1 → va_S (gA X) s.heap H1 locs1 → W p l e R s m args below meth c0 H1 locs1 0 0 Q (F0 m (pc + 3) ls (v.toList ++ st))) : W p l e R s m args below meth c0 H locs 0 0 Q (F0 m pc ls st0) := by
  intro T hT X1
  obtain ⟨v1, st₀, t, T', L1, h0, X', hL, e1, e2, ⟨⟨hv, hg⟩, hz, hk⟩, stp⟩ := hr T hT X1
  cases hv
  rw [h0] at hz hk
  obtain ⟨t2, a1, b1⟩ := kk T'.heap (locs ++ L1) (by rw [e1]; exact hg.1) ⟨Nat.le_trans hS.1 (by rw [e1]; exact hz), fun q h1 h2 => by rw [e1, hk q (Nat.lt_of_lt_of_le h1 hS.1) h2]; exact hS.2.1 q h1 h2, fun q hq => by
      rcases List.mem_append.mp hq with h | h
      · exact hS.2.2 q h
      · exact hL q h⟩ T' rfl X'
  exact ⟨t2, stp t2 a1, b1⟩
theorem a_callV (ho : gOk G own cc d rt nL) {y : MethodName} {bytes : ByteArray} {maxL na idx ci c d' : Nat} {ret : Option FieldType} {as : List Value} {v : Option Value} {st0 : List Value} (hy : gV y bytes maxL ret na ci) (hl : Cond.methodLink own idx y ∈ WS) (hO : isO c ci) (hM : gCt (gl G) (gXX G) y (.code y bytes maxL ret) d' (.ref (gad G c) :: as) σ v σ') (hna : as.length = na) (hs : st0 = as.reverse ++ .ref (gad G c) :: st) (hdd : d' + 1 ≤ d) (hst : (st.map fun v => v.category).sum ≤ 8) (hd : decode cc pc = .ok (.invokevirtual idx, 3)) (hn : pc + 3 = n) (kk : gAt G n L (v.toList ++ st) σ') : gAt G pc L st0 σ := by
  subst hn; obtain ⟨⟨p, l, e, R, s, m, args, below, meth, c0⟩, X, nL0, v0, σ0⟩ := G
  obtain ⟨⟨T, N, hcl⟩, hcode, hins, hsel, hini, hdsc, hmx⟩ := hy
  have hR : R = rmd d := ho.2.2.2.2.2.2.2.2.1
  have hts := ho.2.2.2.2.2.1
  intro H locs ls hl0 hP hS
  have he := gw_get (X := X) (σ := σ) (isO_lt hO)
  rw [gE_O hO] at he
  have hrun := va_runV (g := F0 m pc ls st0) (rest := st) (As := as) (cells := 0) (slots := 0) (locs := locs) (e := e) (below := below) (meth := meth) (nL := nL) ⟨ho.1, ho.2.1, ho.2.2.1, ho.2.2.2.2.1, hts⟩ hM (C := y.cls) (index := idx) (n := na) (R := R) (b := X.2.2.1 c) (H := H) ⟨callB_of na hts (WS_cons hcode) rfl rfl rfl (hts _ hini) (hts _ hl) hdsc ⟨by rw [hR]; exact hdd, by rw [hR]; show 8 + (maxL + 11) + 64 * d' ≤ 64 * d; omega⟩, hts _ hins, hts _ hsel⟩ ⟨gBlind, va_recv ho.2.2.2.2.2.2.2.2.2.1 hP hcl he, gIn hP hS ho.2.2.2.2.2.2.2.2.2.1 ho.2.2.2.2.2.2.2.2.2.2.1 ho.2.2.2.2.2.2.2.2.2.2.2⟩ rfl hna (by show ls.size = nL; rw [← ho.2.2.2.1]; exact hl0.1) hs (lv_room hst) hd ⟨Nat.zero_le _, Nat.zero_le _⟩
  exact g_after hrun hS (fun H1 locs1 hP1 hS1 => kk H1 locs1 ls hl0 hP1 hS1)
theorem a_callS (ho : gOk G own cc d rt nL) {y : MethodName} {bytes : ByteArray} {maxL na idx d' : Nat} {ret : Option FieldType} {as : List Value} {v : Option Value} {st0 : List Value} (hy : gT y bytes maxL ret na) (hl : Cond.methodLink own idx y ∈ WS) (hM : gCt (gl G) (gXX G) y (.code y bytes maxL ret) d' as σ v σ') (hna : as.length = na) (hs : st0 = as.reverse ++ st) (hdd : d' + 1 ≤ d) (hst : (st.map fun v => v.category).sum ≤ 8) (hd : decode cc pc = .ok (.invokestatic idx, 3)) (hn : pc + 3 = n) (kk : gAt G n L (v.toList ++ st) σ') : gAt G pc L st0 σ := by
  subst hn; obtain ⟨⟨p, l, e, R, s, m, args, below, meth, c0⟩, X, nL0, v0, σ0⟩ := G
  obtain ⟨hcode, hsta, hini, hdsc, hmx⟩ := hy
  have hR : R = rmd d := ho.2.2.2.2.2.2.2.2.1
  have hts := ho.2.2.2.2.2.1
  intro H locs ls hl0 hP hS
  have hrun := va_runS (g := F0 m pc ls st0) (rest := st) (As := as) (cells := 0) (slots := 0) (locs := locs) (e := e) (below := below) (meth := meth) (nL := nL) ⟨ho.1, ho.2.1, ho.2.2.1, ho.2.2.2.2.1, hts⟩ hM (index := idx) (n := na) (R := R) (H := H) ⟨callB_of na hts (WS_cons hcode) rfl rfl rfl (hts _ hini) (hts _ hl) hdsc ⟨by rw [hR]; exact hdd, by rw [hR]; show 8 + (maxL + 11) + 64 * d' ≤ 64 * d; omega⟩, hts _ hsta⟩ ⟨gBlind, gIn hP hS ho.2.2.2.2.2.2.2.2.2.1 ho.2.2.2.2.2.2.2.2.2.2.1 ho.2.2.2.2.2.2.2.2.2.2.2⟩ rfl hna (by show ls.size = nL; rw [← ho.2.2.2.1]; exact hl0.1) hs (lv_room hst) hd ⟨Nat.zero_le _, Nat.zero_le _⟩
  exact g_after hrun hS (fun H1 locs1 hP1 hS1 => kk H1 locs1 ls hl0 hP1 hS1)
/-- a contract out of a walk -/
theorem gCt_of {l : Launch} {X : gX} {y : MethodName} {d : Nat} {as : List Value} {v : Option Value} {maxL : Nat} {ret : Option FieldType} (cc : ByteArray) (hy : plainName y.cls = true) (hlen : (lg_sl as).length ≤ maxL)
    (body : ∀ G : gM, gl G = l → gXX G = X → gv0 G = v → gs0 G = σ' → gOk G y.cls cc d ret maxL → gAt G 0 (lv_args 0 as) [] σ) : gCt l X y (.code y cc maxL ret) d as σ v σ' := by
  refine Met.ofW (cc := cc) (maxL := maxL) (ret := ret) hy rfl ?_
  intro p e s m args below meth c s₁ B hml hv
  obtain ⟨rfl, hP, hK, hj, hz⟩ := hv
  have hts := atoms_spec (ws := Cond.code y cc maxL ret :: WS) B.pre
  have hown : s.vm.findClass y.cls = some m.cls := findClass_of_methodNamed B.named
  have hb := body ((p, l, e, rmd d, s, m, as.toArray, below, meth, c), X, maxL, v, σ') rfl rfl rfl rfl ⟨B.exec, B.bytes, hml, rfl, hown, fun w hw => hts w (List.mem_cons_of_mem _ hw), B.notSynchronized, B.returns, rfl, hK, hj, hz⟩
  rw [lg_entry_eq]
  exact hb s.heap [] _ (lv_entry as hlen) hP va_S.rf
end CALLS
def ck {α : Type} (P : Prop) [Decidable P] (x : Option α) : Option α := if P then x else none
theorem ck_el {α : Type} {P : Prop} [Decidable P] {x : Option α} {r : α} (h : ck P x = some r) : P ∧ x = some r := by
  unfold ck at h
  by_cases hP : P
  · rw [if_pos hP] at h; exact ⟨hP, h⟩
  · rw [if_neg hP] at h; cases h
def ob {α β : Type} (x : Option α) (f : α → Option β) : Option β := match x with | none => none | some a => f a
theorem ob_el {α β : Type} {x : Option α} {f : α → Option β} {r : β} (h : ob x f = some r) : ∃ a, x = some a ∧ f a = some r := by
  cases x with
  | none => cases h
  | some a => exact ⟨a, rfl, h⟩
def ob2 {α γ β : Type} (x : Option (α × γ)) (f : α → γ → Option β) : Option β := match x with | none => none | some a => f a.1 a.2
theorem ob2_el {α γ β : Type} {x : Option (α × γ)} {f : α → γ → Option β} {r : β} (h : ob2 x f = some r) : ∃ a b, x = some (a, b) ∧ f a b = some r := by
  cases x with
  | none => cases h
  | some a => exact ⟨a.1, a.2, rfl, h⟩
def bd {α β : Type} (x : α) (f : α → β) : β := f x
theorem bd_el {α β : Type} {x : α} {f : α → β} {r : β} (h : bd x f = r) : ∃ a, x = a ∧ f a = r := ⟨x, rfl, h⟩
theorem if_t {α : Type} {c : Prop} [Decidable c] {a b r : α} (hc : c) (h : (if c then a else b) = r) : a = r := by rw [if_pos hc] at h; exact h
theorem if_f {α : Type} {c : Prop} [Decidable c] {a b r : α} (hc : ¬ c) (h : (if c then a else b) = r) : b = r := by rw [if_neg hc] at h; exact h
theorem re_el {α β : Type} {a a0 : α} {b b0 : β} (h : some (a, b) = some (a0, b0)) : a = a0 ∧ b = b0 := by cases h; exact ⟨rfl, rfl⟩
theorem ro_el {α : Type} {a a0 : α} (h : some a = some a0) : a = a0 := by cases h; rfl
theorem tI {x k : Int32} {z : Int} (h : ¬ x = k) (hk : k.toInt = z) : x.toInt ≠ z := fun q => h (Int32.toInt_inj.mp (by rw [q, hk]))
theorem rng_lt {i : Int32} {N : Nat} (h : inR i N) : i.toNatClampNeg < N := Nat.not_le.mp fun q => h (Or.inr q)
end
