section
-- ===== PART A: goes FIRST, ahead of the names: the tables' words, and 'selects' of the private methods out of them =====
/-- a private method of a class that the tables say can be made, by its rows of tables_1 -/
def lw_okq (q : MethodName × Nat) : Prop := (q.1.cls ≠ "java/lang/invoke/MethodHandle" ∧ q.1.cls ≠ "java/lang/invoke/VarHandle") ∧ Cond.instantiable q.1.cls q.2 ∈ tables_1 ∧ Cond.privateMethod q.1 ∈ tables_1 ∧ Cond.instanceMethod q.1 ∈ tables_1
theorem lw_p0 : lw_okq (⟨"WaxCloth$Reader", "sign", "(I)Z"⟩, 3) := ⟨⟨by decide +kernel, by decide +kernel⟩, List.mem_of_getElem? (i := 41) (by decide +kernel), List.mem_of_getElem? (i := 302) (by decide +kernel), List.mem_of_getElem? (i := 303) (by decide +kernel)⟩
theorem lw_p1 : lw_okq (⟨"WaxCloth$Reader", "readSquares", "()Z"⟩, 3) := ⟨⟨by decide +kernel, by decide +kernel⟩, List.mem_of_getElem? (i := 41) (by decide +kernel), List.mem_of_getElem? (i := 310) (by decide +kernel), List.mem_of_getElem? (i := 311) (by decide +kernel)⟩
theorem lw_p2 : lw_okq (⟨"WaxCloth$Reader", "readSquare", "(I)Z"⟩, 3) := ⟨⟨by decide +kernel, by decide +kernel⟩, List.mem_of_getElem? (i := 41) (by decide +kernel), List.mem_of_getElem? (i := 314) (by decide +kernel), List.mem_of_getElem? (i := 315) (by decide +kernel)⟩
theorem lw_p3 : lw_okq (⟨"WaxCloth$Reader", "figure", "(II)I"⟩, 3) := ⟨⟨by decide +kernel, by decide +kernel⟩, List.mem_of_getElem? (i := 41) (by decide +kernel), List.mem_of_getElem? (i := 321) (by decide +kernel), List.mem_of_getElem? (i := 322) (by decide +kernel)⟩
theorem lw_p4 : lw_okq (⟨"WaxCloth$Reader", "readDyes", "()Z"⟩, 3) := ⟨⟨by decide +kernel, by decide +kernel⟩, List.mem_of_getElem? (i := 41) (by decide +kernel), List.mem_of_getElem? (i := 325) (by decide +kernel), List.mem_of_getElem? (i := 326) (by decide +kernel)⟩
theorem lw_p5 : lw_okq (⟨"WaxCloth$Reader", "readDye", "(I)Z"⟩, 3) := ⟨⟨by decide +kernel, by decide +kernel⟩, List.mem_of_getElem? (i := 41) (by decide +kernel), List.mem_of_getElem? (i := 329) (by decide +kernel), List.mem_of_getElem? (i := 330) (by decide +kernel)⟩
theorem lw_p6 : lw_okq (⟨"WaxCloth$Reader", "readStencils", "()Z"⟩, 3) := ⟨⟨by decide +kernel, by decide +kernel⟩, List.mem_of_getElem? (i := 41) (by decide +kernel), List.mem_of_getElem? (i := 333) (by decide +kernel), List.mem_of_getElem? (i := 334) (by decide +kernel)⟩
theorem lw_p7 : lw_okq (⟨"WaxCloth$Reader", "readStencil", "()I"⟩, 3) := ⟨⟨by decide +kernel, by decide +kernel⟩, List.mem_of_getElem? (i := 41) (by decide +kernel), List.mem_of_getElem? (i := 337) (by decide +kernel), List.mem_of_getElem? (i := 338) (by decide +kernel)⟩
theorem lw_p8 : lw_okq (⟨"WaxCloth$Cloth", "cracked", "(II)I"⟩, 9) := ⟨⟨by decide +kernel, by decide +kernel⟩, List.mem_of_getElem? (i := 47) (by decide +kernel), List.mem_of_getElem? (i := 467) (by decide +kernel), List.mem_of_getElem? (i := 468) (by decide +kernel)⟩
theorem lw_p9 : lw_okq (⟨"WaxCloth$Planner", "extend", "(LWaxCloth$Cloth;II)V"⟩, 5) := ⟨⟨by decide +kernel, by decide +kernel⟩, List.mem_of_getElem? (i := 157) (by decide +kernel), List.mem_of_getElem? (i := 527) (by decide +kernel), List.mem_of_getElem? (i := 528) (by decide +kernel)⟩
theorem lw_p10 : lw_okq (⟨"WaxCloth$Planner", "judge", "(II)V"⟩, 5) := ⟨⟨by decide +kernel, by decide +kernel⟩, List.mem_of_getElem? (i := 157) (by decide +kernel), List.mem_of_getElem? (i := 543) (by decide +kernel), List.mem_of_getElem? (i := 544) (by decide +kernel)⟩
theorem lw_p11 : lw_okq (⟨"WaxCloth$Baths", "bathe", "(LWaxCloth$Cloth;IIIII)V"⟩, 5) := ⟨⟨by decide +kernel, by decide +kernel⟩, List.mem_of_getElem? (i := 183) (by decide +kernel), List.mem_of_getElem? (i := 561) (by decide +kernel), List.mem_of_getElem? (i := 562) (by decide +kernel)⟩
theorem lw_p12 : lw_okq (⟨"WaxCloth$Baths", "note", "(III)V"⟩, 5) := ⟨⟨by decide +kernel, by decide +kernel⟩, List.mem_of_getElem? (i := 183) (by decide +kernel), List.mem_of_getElem? (i := 565) (by decide +kernel), List.mem_of_getElem? (i := 566) (by decide +kernel)⟩
theorem lw_p13 : lw_okq (⟨"WaxCloth$Chances", "weigh", "(II)V"⟩, 6) := ⟨⟨by decide +kernel, by decide +kernel⟩, List.mem_of_getElem? (i := 208) (by decide +kernel), List.mem_of_getElem? (i := 586) (by decide +kernel), List.mem_of_getElem? (i := 587) (by decide +kernel)⟩
theorem lw_p14 : lw_okq (⟨"WaxCloth", "takeDoings", "(IIII)I"⟩, 11) := ⟨⟨by decide +kernel, by decide +kernel⟩, List.mem_of_getElem? (i := 18) (by decide +kernel), List.mem_of_getElem? (i := 674) (by decide +kernel), List.mem_of_getElem? (i := 675) (by decide +kernel)⟩
theorem lw_p15 : lw_okq (⟨"WaxClothModel", "reads", "()Z"⟩, 22) := ⟨⟨by decide +kernel, by decide +kernel⟩, List.mem_of_getElem? (i := 738) (by decide +kernel), List.mem_of_getElem? (i := 824) (by decide +kernel), List.mem_of_getElem? (i := 825) (by decide +kernel)⟩
def lw_privs_1 : List (MethodName × Nat) := [(⟨"WaxCloth$Reader", "sign", "(I)Z"⟩, 3), (⟨"WaxCloth$Reader", "readSquares", "()Z"⟩, 3), (⟨"WaxCloth$Reader", "readSquare", "(I)Z"⟩, 3), (⟨"WaxCloth$Reader", "figure", "(II)I"⟩, 3), (⟨"WaxCloth$Reader", "readDyes", "()Z"⟩, 3), (⟨"WaxCloth$Reader", "readDye", "(I)Z"⟩, 3), (⟨"WaxCloth$Reader", "readStencils", "()Z"⟩, 3), (⟨"WaxCloth$Reader", "readStencil", "()I"⟩, 3), (⟨"WaxCloth$Cloth", "cracked", "(II)I"⟩, 9), (⟨"WaxCloth$Planner", "extend", "(LWaxCloth$Cloth;II)V"⟩, 5), (⟨"WaxCloth$Planner", "judge", "(II)V"⟩, 5), (⟨"WaxCloth$Baths", "bathe", "(LWaxCloth$Cloth;IIIII)V"⟩, 5), (⟨"WaxCloth$Baths", "note", "(III)V"⟩, 5), (⟨"WaxCloth$Chances", "weigh", "(II)V"⟩, 6), (⟨"WaxCloth", "takeDoings", "(IIII)I"⟩, 11), (⟨"WaxClothModel", "reads", "()Z"⟩, 22)]
theorem lw_r1 : ∀ q ∈ lw_privs_1, lw_okq q := List.forall_mem_cons.mpr ⟨lw_p0, List.forall_mem_cons.mpr ⟨lw_p1, List.forall_mem_cons.mpr ⟨lw_p2, List.forall_mem_cons.mpr ⟨lw_p3, List.forall_mem_cons.mpr ⟨lw_p4, List.forall_mem_cons.mpr ⟨lw_p5, List.forall_mem_cons.mpr ⟨lw_p6, List.forall_mem_cons.mpr ⟨lw_p7, List.forall_mem_cons.mpr ⟨lw_p8, List.forall_mem_cons.mpr ⟨lw_p9, List.forall_mem_cons.mpr ⟨lw_p10, List.forall_mem_cons.mpr ⟨lw_p11, List.forall_mem_cons.mpr ⟨lw_p12, List.forall_mem_cons.mpr ⟨lw_p13, List.forall_mem_cons.mpr ⟨lw_p14, List.forall_mem_cons.mpr ⟨lw_p15, fun _ h => absurd h List.not_mem_nil⟩⟩⟩⟩⟩⟩⟩⟩⟩⟩⟩⟩⟩⟩⟩⟩
theorem lw_p16 : lw_okq (⟨"WaxClothModel", "eats", "(I)Z"⟩, 22) := ⟨⟨by decide +kernel, by decide +kernel⟩, List.mem_of_getElem? (i := 738) (by decide +kernel), List.mem_of_getElem? (i := 828) (by decide +kernel), List.mem_of_getElem? (i := 829) (by decide +kernel)⟩
theorem lw_p17 : lw_okq (⟨"WaxClothModel", "here", "()I"⟩, 22) := ⟨⟨by decide +kernel, by decide +kernel⟩, List.mem_of_getElem? (i := 738) (by decide +kernel), List.mem_of_getElem? (i := 832) (by decide +kernel), List.mem_of_getElem? (i := 833) (by decide +kernel)⟩
theorem lw_p18 : lw_okq (⟨"WaxClothModel", "readsSquare", "()Z"⟩, 22) := ⟨⟨by decide +kernel, by decide +kernel⟩, List.mem_of_getElem? (i := 738) (by decide +kernel), List.mem_of_getElem? (i := 836) (by decide +kernel), List.mem_of_getElem? (i := 837) (by decide +kernel)⟩
theorem lw_p19 : lw_okq (⟨"WaxClothModel", "figure", "(II)Z"⟩, 22) := ⟨⟨by decide +kernel, by decide +kernel⟩, List.mem_of_getElem? (i := 738) (by decide +kernel), List.mem_of_getElem? (i := 843) (by decide +kernel), List.mem_of_getElem? (i := 844) (by decide +kernel)⟩
theorem lw_p20 : lw_okq (⟨"WaxClothModel", "another", "(II)Z"⟩, 22) := ⟨⟨by decide +kernel, by decide +kernel⟩, List.mem_of_getElem? (i := 738) (by decide +kernel), List.mem_of_getElem? (i := 847) (by decide +kernel), List.mem_of_getElem? (i := 848) (by decide +kernel)⟩
theorem lw_p21 : lw_okq (⟨"WaxClothModel", "readsDye", "()Z"⟩, 22) := ⟨⟨by decide +kernel, by decide +kernel⟩, List.mem_of_getElem? (i := 738) (by decide +kernel), List.mem_of_getElem? (i := 851) (by decide +kernel), List.mem_of_getElem? (i := 852) (by decide +kernel)⟩
theorem lw_p22 : lw_okq (⟨"WaxClothModel", "readsStencil", "()Z"⟩, 22) := ⟨⟨by decide +kernel, by decide +kernel⟩, List.mem_of_getElem? (i := 738) (by decide +kernel), List.mem_of_getElem? (i := 855) (by decide +kernel), List.mem_of_getElem? (i := 856) (by decide +kernel)⟩
theorem lw_p23 : lw_okq (⟨"WaxClothModel", "isSquare", "(I)Z"⟩, 22) := ⟨⟨by decide +kernel, by decide +kernel⟩, List.mem_of_getElem? (i := 738) (by decide +kernel), List.mem_of_getElem? (i := 866) (by decide +kernel), List.mem_of_getElem? (i := 867) (by decide +kernel)⟩
theorem lw_p24 : lw_okq (⟨"WaxClothModel", "isDye", "(I)Z"⟩, 22) := ⟨⟨by decide +kernel, by decide +kernel⟩, List.mem_of_getElem? (i := 738) (by decide +kernel), List.mem_of_getElem? (i := 891) (by decide +kernel), List.mem_of_getElem? (i := 892) (by decide +kernel)⟩
theorem lw_p25 : lw_okq (⟨"WaxClothModel", "takenOn", "([IIII)I"⟩, 22) := ⟨⟨by decide +kernel, by decide +kernel⟩, List.mem_of_getElem? (i := 738) (by decide +kernel), List.mem_of_getElem? (i := 903) (by decide +kernel), List.mem_of_getElem? (i := 904) (by decide +kernel)⟩
theorem lw_p26 : lw_okq (⟨"WaxClothModel", "isDoing", "(J)Z"⟩, 22) := ⟨⟨by decide +kernel, by decide +kernel⟩, List.mem_of_getElem? (i := 738) (by decide +kernel), List.mem_of_getElem? (i := 917) (by decide +kernel), List.mem_of_getElem? (i := 918) (by decide +kernel)⟩
theorem lw_p27 : lw_okq (⟨"WaxClothModel", "doesAll", "([II)V"⟩, 22) := ⟨⟨by decide +kernel, by decide +kernel⟩, List.mem_of_getElem? (i := 738) (by decide +kernel), List.mem_of_getElem? (i := 924) (by decide +kernel), List.mem_of_getElem? (i := 925) (by decide +kernel)⟩
theorem lw_p28 : lw_okq (⟨"WaxClothModel", "doesOn", "([III)V"⟩, 22) := ⟨⟨by decide +kernel, by decide +kernel⟩, List.mem_of_getElem? (i := 738) (by decide +kernel), List.mem_of_getElem? (i := 928) (by decide +kernel), List.mem_of_getElem? (i := 929) (by decide +kernel)⟩
theorem lw_p29 : lw_okq (⟨"WaxClothModel", "bathes", "([III)V"⟩, 22) := ⟨⟨by decide +kernel, by decide +kernel⟩, List.mem_of_getElem? (i := 738) (by decide +kernel), List.mem_of_getElem? (i := 932) (by decide +kernel), List.mem_of_getElem? (i := 933) (by decide +kernel)⟩
theorem lw_p30 : lw_okq (⟨"WaxClothModel", "rinses", "([II)V"⟩, 22) := ⟨⟨by decide +kernel, by decide +kernel⟩, List.mem_of_getElem? (i := 738) (by decide +kernel), List.mem_of_getElem? (i := 942) (by decide +kernel), List.mem_of_getElem? (i := 943) (by decide +kernel)⟩
theorem lw_p31 : lw_okq (⟨"WaxClothModel", "rightOn", "([I)I"⟩, 22) := ⟨⟨by decide +kernel, by decide +kernel⟩, List.mem_of_getElem? (i := 738) (by decide +kernel), List.mem_of_getElem? (i := 946) (by decide +kernel), List.mem_of_getElem? (i := 947) (by decide +kernel)⟩
def lw_privs_2 : List (MethodName × Nat) := [(⟨"WaxClothModel", "eats", "(I)Z"⟩, 22), (⟨"WaxClothModel", "here", "()I"⟩, 22), (⟨"WaxClothModel", "readsSquare", "()Z"⟩, 22), (⟨"WaxClothModel", "figure", "(II)Z"⟩, 22), (⟨"WaxClothModel", "another", "(II)Z"⟩, 22), (⟨"WaxClothModel", "readsDye", "()Z"⟩, 22), (⟨"WaxClothModel", "readsStencil", "()Z"⟩, 22), (⟨"WaxClothModel", "isSquare", "(I)Z"⟩, 22), (⟨"WaxClothModel", "isDye", "(I)Z"⟩, 22), (⟨"WaxClothModel", "takenOn", "([IIII)I"⟩, 22), (⟨"WaxClothModel", "isDoing", "(J)Z"⟩, 22), (⟨"WaxClothModel", "doesAll", "([II)V"⟩, 22), (⟨"WaxClothModel", "doesOn", "([III)V"⟩, 22), (⟨"WaxClothModel", "bathes", "([III)V"⟩, 22), (⟨"WaxClothModel", "rinses", "([II)V"⟩, 22), (⟨"WaxClothModel", "rightOn", "([I)I"⟩, 22)]
theorem lw_r2 : ∀ q ∈ lw_privs_2, lw_okq q := List.forall_mem_cons.mpr ⟨lw_p16, List.forall_mem_cons.mpr ⟨lw_p17, List.forall_mem_cons.mpr ⟨lw_p18, List.forall_mem_cons.mpr ⟨lw_p19, List.forall_mem_cons.mpr ⟨lw_p20, List.forall_mem_cons.mpr ⟨lw_p21, List.forall_mem_cons.mpr ⟨lw_p22, List.forall_mem_cons.mpr ⟨lw_p23, List.forall_mem_cons.mpr ⟨lw_p24, List.forall_mem_cons.mpr ⟨lw_p25, List.forall_mem_cons.mpr ⟨lw_p26, List.forall_mem_cons.mpr ⟨lw_p27, List.forall_mem_cons.mpr ⟨lw_p28, List.forall_mem_cons.mpr ⟨lw_p29, List.forall_mem_cons.mpr ⟨lw_p30, List.forall_mem_cons.mpr ⟨lw_p31, fun _ h => absurd h List.not_mem_nil⟩⟩⟩⟩⟩⟩⟩⟩⟩⟩⟩⟩⟩⟩⟩⟩
theorem lw_p32 : lw_okq (⟨"WaxClothModel", "doingsThere", "()I"⟩, 22) := ⟨⟨by decide +kernel, by decide +kernel⟩, List.mem_of_getElem? (i := 738) (by decide +kernel), List.mem_of_getElem? (i := 972) (by decide +kernel), List.mem_of_getElem? (i := 973) (by decide +kernel)⟩
theorem lw_p33 : lw_okq (⟨"WaxClothModel", "laysAside", "()V"⟩, 22) := ⟨⟨by decide +kernel, by decide +kernel⟩, List.mem_of_getElem? (i := 738) (by decide +kernel), List.mem_of_getElem? (i := 976) (by decide +kernel), List.mem_of_getElem? (i := 977) (by decide +kernel)⟩
theorem lw_p34 : lw_okq (⟨"WaxClothModel", "doingOf", "(I)I"⟩, 22) := ⟨⟨by decide +kernel, by decide +kernel⟩, List.mem_of_getElem? (i := 738) (by decide +kernel), List.mem_of_getElem? (i := 980) (by decide +kernel), List.mem_of_getElem? (i := 981) (by decide +kernel)⟩
theorem lw_p35 : lw_okq (⟨"WaxClothModel", "shadeOf", "(III)I"⟩, 22) := ⟨⟨by decide +kernel, by decide +kernel⟩, List.mem_of_getElem? (i := 738) (by decide +kernel), List.mem_of_getElem? (i := 995) (by decide +kernel), List.mem_of_getElem? (i := 996) (by decide +kernel)⟩
theorem lw_p36 : lw_okq (⟨"WaxClothModel", "whitens", "(I)V"⟩, 22) := ⟨⟨by decide +kernel, by decide +kernel⟩, List.mem_of_getElem? (i := 738) (by decide +kernel), List.mem_of_getElem? (i := 999) (by decide +kernel), List.mem_of_getElem? (i := 1000) (by decide +kernel)⟩
theorem lw_p37 : lw_okq (⟨"WaxClothModel", "darkAll", "([I)I"⟩, 22) := ⟨⟨by decide +kernel, by decide +kernel⟩, List.mem_of_getElem? (i := 738) (by decide +kernel), List.mem_of_getElem? (i := 1019) (by decide +kernel), List.mem_of_getElem? (i := 1020) (by decide +kernel)⟩
theorem lw_p38 : lw_okq (⟨"WaxClothModel", "found", "(IIII)I"⟩, 22) := ⟨⟨by decide +kernel, by decide +kernel⟩, List.mem_of_getElem? (i := 738) (by decide +kernel), List.mem_of_getElem? (i := 1030) (by decide +kernel), List.mem_of_getElem? (i := 1031) (by decide +kernel)⟩
theorem lw_p39 : lw_okq (⟨"WaxClothModel", "areDoings", "(III)Z"⟩, 22) := ⟨⟨by decide +kernel, by decide +kernel⟩, List.mem_of_getElem? (i := 738) (by decide +kernel), List.mem_of_getElem? (i := 1038) (by decide +kernel), List.mem_of_getElem? (i := 1039) (by decide +kernel)⟩
theorem lw_p40 : lw_okq (⟨"WaxClothModel", "goesRound", "(IIII)V"⟩, 22) := ⟨⟨by decide +kernel, by decide +kernel⟩, List.mem_of_getElem? (i := 738) (by decide +kernel), List.mem_of_getElem? (i := 1046) (by decide +kernel), List.mem_of_getElem? (i := 1047) (by decide +kernel)⟩
theorem lw_p41 : lw_okq (⟨"WaxClothModel", "codeOf", "(I)I"⟩, 22) := ⟨⟨by decide +kernel, by decide +kernel⟩, List.mem_of_getElem? (i := 738) (by decide +kernel), List.mem_of_getElem? (i := 1050) (by decide +kernel), List.mem_of_getElem? (i := 1051) (by decide +kernel)⟩
def lw_privs_3 : List (MethodName × Nat) := [(⟨"WaxClothModel", "doingsThere", "()I"⟩, 22), (⟨"WaxClothModel", "laysAside", "()V"⟩, 22), (⟨"WaxClothModel", "doingOf", "(I)I"⟩, 22), (⟨"WaxClothModel", "shadeOf", "(III)I"⟩, 22), (⟨"WaxClothModel", "whitens", "(I)V"⟩, 22), (⟨"WaxClothModel", "darkAll", "([I)I"⟩, 22), (⟨"WaxClothModel", "found", "(IIII)I"⟩, 22), (⟨"WaxClothModel", "areDoings", "(III)Z"⟩, 22), (⟨"WaxClothModel", "goesRound", "(IIII)V"⟩, 22), (⟨"WaxClothModel", "codeOf", "(I)I"⟩, 22)]
theorem lw_r3 : ∀ q ∈ lw_privs_3, lw_okq q := List.forall_mem_cons.mpr ⟨lw_p32, List.forall_mem_cons.mpr ⟨lw_p33, List.forall_mem_cons.mpr ⟨lw_p34, List.forall_mem_cons.mpr ⟨lw_p35, List.forall_mem_cons.mpr ⟨lw_p36, List.forall_mem_cons.mpr ⟨lw_p37, List.forall_mem_cons.mpr ⟨lw_p38, List.forall_mem_cons.mpr ⟨lw_p39, List.forall_mem_cons.mpr ⟨lw_p40, List.forall_mem_cons.mpr ⟨lw_p41, fun _ h => absurd h List.not_mem_nil⟩⟩⟩⟩⟩⟩⟩⟩⟩⟩
def lw_privs : List (MethodName × Nat) := lw_privs_1 ++ (lw_privs_2 ++ (lw_privs_3))
def lw_tbl : List Cond := k2_sels lw_privs ++ tables_1
theorem lw_privs_ok : ∀ q ∈ lw_privs, lw_okq q := by
  show ∀ q ∈ lw_privs_1 ++ (lw_privs_2 ++ (lw_privs_3)), lw_okq q
  exact List.forall_mem_append.mpr ⟨lw_r1, List.forall_mem_append.mpr ⟨lw_r2, lw_r3⟩⟩
end
section
/-! ===== BEGIN words of one list among another's, by their places ===== -/
theorem goodIn_r {big : List Cond} (ws : List Cond) (ps : List Nat) (hp : ws = ps.filterMap (fun i => big[i]?)) (h : ws.all goodWord = true) : GoodIn big ws := by
  intro w hw
  have h1 := List.all_eq_true.mp h w hw
  rw [hp] at hw
  obtain ⟨i, -, hi⟩ := List.mem_filterMap.mp hw
  have hm : w ∈ big := by first | exact List.mem_of_getElem? hi | exact List.getElem?_mem hi
  exact ⟨hm, good_of_word h1⟩
theorem goodIn_app {big a b : List Cond} (ha : GoodIn big a) (hb : GoodIn big b) : GoodIn big (a ++ b) := fun w h => (List.mem_append.mp h).elim (ha w) (hb w)
theorem goodIn_ca {big a b : List Cond} {c : Cond} (ha : GoodIn big (c :: a)) (hb : GoodIn big b) : GoodIn big (c :: (a ++ b)) := fun w h => (List.mem_cons.mp h).elim (fun e => ha w (List.mem_cons.mpr (Or.inl e))) (fun h => (List.mem_append.mp h).elim (fun h => ha w (List.mem_cons.mpr (Or.inr h))) (hb w))
theorem goodIn_sub {big ws : List Cond} (hm : ∀ w ∈ ws, w ∈ big) (h : ws.all goodWord = true) : GoodIn big ws := fun w hw => ⟨hm w hw, good_of_word (List.all_eq_true.mp h w hw)⟩
/-! ===== END ===== -/

def RX0 : String := "WaxCloth$Baths"
def TX0 : u_T := fun k => match k with
  | 0 => ("WaxCloth$Baths", "found", "I", false)
  | 1 => ("WaxCloth$Baths", "unlike", "I", false)
  | 2 => ("WaxCloth$Baths", "first", "[I", true)
  | 3 => ("WaxCloth$Baths", "row", "[I", true)
  | _ => ("WaxCloth$Baths", "seen", "[J", true)
def tyX0 : Nat → FieldType := fun k => match k with
  | 0 => .int
  | 1 => .int
  | 2 => .array .int
  | 3 => .array .int
  | _ => .array .long
abbrev wsX00 : List Cond := u_ws RX0 TX0 5
theorem nmX0 : ∀ a, a < 5 → ∀ b, b < 5 → a ≠ b → (TX0 a).2.1 ≠ (TX0 b).2.1 := by decide +kernel
theorem tyX0_ok : ∀ k, k < 5 → parseFieldDescriptor (TX0 k).2.2.1 = some (tyX0 k) := by decide +kernel
abbrev cX0_init : ByteArray := prog_2_method_1_code
def yX0_init : MethodName := ⟨RX0, "<init>", "()V"⟩
abbrev cX0_walk : ByteArray := prog_2_method_2_code
def yX0_walk : MethodName := ⟨RX0, "walk", "(LWaxCloth$Cloth;III)V"⟩
abbrev cX0_bathe : ByteArray := prog_2_method_3_code
def yX0_bathe : MethodName := ⟨RX0, "bathe", "(LWaxCloth$Cloth;IIIII)V"⟩
abbrev cX0_note : ByteArray := prog_2_method_4_code
def yX0_note : MethodName := ⟨RX0, "note", "(III)V"⟩
def RX1 : String := "WaxCloth$Chances"
def TX1 : u_T := fun k => match k with
  | 0 => ("WaxCloth$Chances", "above", "I", false)
  | 1 => ("WaxCloth$Chances", "below", "I", false)
  | 2 => ("WaxCloth$Chances", "dark", "I", false)
  | 3 => ("WaxCloth$Chances", "rights", "I", false)
  | 4 => ("WaxCloth$Chances", "weights", "[I", true)
  | _ => ("WaxCloth$Chances", "states", "[I", true)
def tyX1 : Nat → FieldType := fun k => match k with
  | 0 => .int
  | 1 => .int
  | 2 => .int
  | 3 => .int
  | 4 => .array .int
  | _ => .array .int
abbrev wsX10 : List Cond := u_ws RX1 TX1 6
theorem nmX1 : ∀ a, a < 6 → ∀ b, b < 6 → a ≠ b → (TX1 a).2.1 ≠ (TX1 b).2.1 := by decide +kernel
theorem tyX1_ok : ∀ k, k < 6 → parseFieldDescriptor (TX1 k).2.2.1 = some (tyX1 k) := by decide +kernel
abbrev cX1_init : ByteArray := prog_3_method_1_code
def yX1_init : MethodName := ⟨RX1, "<init>", "()V"⟩
abbrev cX1_crack : ByteArray := prog_3_method_2_code
def yX1_crack : MethodName := ⟨RX1, "crack", "(LWaxCloth$Cloth;III)V"⟩
abbrev cX1_weigh : ByteArray := prog_3_method_3_code
def yX1_weigh : MethodName := ⟨RX1, "weigh", "(II)V"⟩
abbrev cX1_draw : ByteArray := prog_3_method_4_code
def yX1_draw : MethodName := ⟨RX1, "draw", "(LWaxCloth$Cloth;II)V"⟩
abbrev cX1_greatestCommon : ByteArray := prog_3_method_5_code
def yX1_greatestCommon : MethodName := ⟨RX1, "greatestCommon", "(II)I"⟩
def RX2 : String := "WaxCloth$Cloth"
def TX2 : u_T := fun k => match k with
  | 0 => ("WaxCloth$Cloth", "squares", "I", false)
  | 1 => ("WaxCloth$Cloth", "dyes", "I", false)
  | 2 => ("WaxCloth$Cloth", "stencils", "I", false)
  | 3 => ("WaxCloth$Cloth", "doings", "I", false)
  | 4 => ("WaxCloth$Cloth", "kindOf", "[I", true)
  | 5 => ("WaxCloth$Cloth", "wished", "[I", true)
  | 6 => ("WaxCloth$Cloth", "states", "[I", true)
  | 7 => ("WaxCloth$Cloth", "dyeAmounts", "[I", true)
  | _ => ("WaxCloth$Cloth", "stencilSets", "[I", true)
def tyX2 : Nat → FieldType := fun k => match k with
  | 0 => .int
  | 1 => .int
  | 2 => .int
  | 3 => .int
  | 4 => .array .int
  | 5 => .array .int
  | 6 => .array .int
  | 7 => .array .int
  | _ => .array .int
abbrev wsX20 : List Cond := u_ws RX2 TX2 9
theorem nmX2 : ∀ a, a < 9 → ∀ b, b < 9 → a ≠ b → (TX2 a).2.1 ≠ (TX2 b).2.1 := by decide +kernel
theorem tyX2_ok : ∀ k, k < 9 → parseFieldDescriptor (TX2 k).2.2.1 = some (tyX2 k) := by decide +kernel
abbrev cX2_init : ByteArray := prog_4_method_1_code
def yX2_init : MethodName := ⟨RX2, "<init>", "()V"⟩
abbrev cX2_stands : ByteArray := prog_4_method_2_code
def yX2_stands : MethodName := ⟨RX2, "stands", "()Z"⟩
abbrev cX2_become : ByteArray := prog_4_method_3_code
def yX2_become : MethodName := ⟨RX2, "become", "(LWaxCloth$Cloth;)V"⟩
abbrev cX2_hasSquare : ByteArray := prog_4_method_4_code
def yX2_hasSquare : MethodName := ⟨RX2, "hasSquare", "(I)Z"⟩
abbrev cX2_hasDye : ByteArray := prog_4_method_5_code
def yX2_hasDye : MethodName := ⟨RX2, "hasDye", "(I)Z"⟩
abbrev cX2_hasStencil : ByteArray := prog_4_method_6_code
def yX2_hasStencil : MethodName := ⟨RX2, "hasStencil", "(I)Z"⟩
abbrev cX2_hasDoing : ByteArray := prog_4_method_7_code
def yX2_hasDoing : MethodName := ⟨RX2, "hasDoing", "(J)Z"⟩
abbrev cX2_doingCount : ByteArray := prog_4_method_8_code
def yX2_doingCount : MethodName := ⟨RX2, "doingCount", "()I"⟩
abbrev cX2_nthDoing : ByteArray := prog_4_method_9_code
def yX2_nthDoing : MethodName := ⟨RX2, "nthDoing", "(I)I"⟩
abbrev cX2_amountInDye : ByteArray := prog_4_method_10_code
def yX2_amountInDye : MethodName := ⟨RX2, "amountInDye", "(II)I"⟩
abbrev cX2_gain : ByteArray := prog_4_method_11_code
def yX2_gain : MethodName := ⟨RX2, "gain", "(IIII)I"⟩
abbrev cX2_after : ByteArray := prog_4_method_12_code
def yX2_after : MethodName := ⟨RX2, "after", "(III)I"⟩
abbrev cX2_dyed : ByteArray := prog_4_method_13_code
def yX2_dyed : MethodName := ⟨RX2, "dyed", "(III)I"⟩
abbrev cX2_cracked : ByteArray := prog_4_method_14_code
def yX2_cracked : MethodName := ⟨RX2, "cracked", "(II)I"⟩
abbrev cX2_rinsed : ByteArray := prog_4_method_15_code
def yX2_rinsed : MethodName := ⟨RX2, "rinsed", "(I)I"⟩
abbrev cX2_afterRow : ByteArray := prog_4_method_16_code
def yX2_afterRow : MethodName := ⟨RX2, "afterRow", "(II[II)I"⟩
abbrev cX2_apply : ByteArray := prog_4_method_17_code
def yX2_apply : MethodName := ⟨RX2, "apply", "(I[I[I)Z"⟩
abbrev cX2_isRight : ByteArray := prog_4_method_18_code
def yX2_isRight : MethodName := ⟨RX2, "isRight", "(II)Z"⟩
abbrev cX2_rightSet : ByteArray := prog_4_method_19_code
def yX2_rightSet : MethodName := ⟨RX2, "rightSet", "([I)I"⟩
abbrev cX2_rightCount : ByteArray := prog_4_method_20_code
def yX2_rightCount : MethodName := ⟨RX2, "rightCount", "([I)I"⟩
abbrev cX2_darknessOf : ByteArray := prog_4_method_21_code
def yX2_darknessOf : MethodName := ⟨RX2, "darknessOf", "([I)I"⟩
abbrev cX2_waxedSet : ByteArray := prog_4_method_22_code
def yX2_waxedSet : MethodName := ⟨RX2, "waxedSet", "()I"⟩
def RX3 : String := "WaxCloth$Kind"
def TX3 : u_T := fun k => match k with
  | _ => ("", "", "", false)
def tyX3 : Nat → FieldType := fun k => match k with
  | _ => .int
abbrev wsX30 : List Cond := u_ws RX3 TX3 0
theorem nmX3 : ∀ a, a < 0 → ∀ b, b < 0 → a ≠ b → (TX3 a).2.1 ≠ (TX3 b).2.1 := by decide +kernel
theorem tyX3_ok : ∀ k, k < 0 → parseFieldDescriptor (TX3 k).2.2.1 = some (tyX3 k) := by decide +kernel
abbrev cX3_ofLetter : ByteArray := prog_5_method_2_code
def yX3_ofLetter : MethodName := ⟨RX3, "ofLetter", "(I)I"⟩
abbrev cX3_isUnder : ByteArray := prog_5_method_3_code
def yX3_isUnder : MethodName := ⟨RX3, "isUnder", "(II)Z"⟩
abbrev cX3_taken : ByteArray := prog_5_method_4_code
def yX3_taken : MethodName := ⟨RX3, "taken", "(III)I"⟩
abbrev cX3_layersCracked : ByteArray := prog_5_method_5_code
def yX3_layersCracked : MethodName := ⟨RX3, "layersCracked", "(I)I"⟩
abbrev cX3_thatTake : ByteArray := prog_5_method_6_code
def yX3_thatTake : MethodName := ⟨RX3, "thatTake", "(IIIJ)I"⟩
abbrev cX3_bestTry : ByteArray := prog_5_method_7_code
def yX3_bestTry : MethodName := ⟨RX3, "bestTry", "(II)I"⟩
abbrev cX3_greatestPart : ByteArray := prog_5_method_8_code
def yX3_greatestPart : MethodName := ⟨RX3, "greatestPart", "(III)I"⟩
def RX4 : String := "WaxCloth$Past"
def TX4 : u_T := fun k => match k with
  | 0 => ("WaxCloth$Past", "held", "I", false)
  | 1 => ("WaxCloth$Past", "next", "I", false)
  | _ => ("WaxCloth$Past", "ring", "[[I", true)
def tyX4 : Nat → FieldType := fun k => match k with
  | 0 => .int
  | 1 => .int
  | _ => .array (.array .int)
abbrev wsX40 : List Cond := u_ws RX4 TX4 3
theorem nmX4 : ∀ a, a < 3 → ∀ b, b < 3 → a ≠ b → (TX4 a).2.1 ≠ (TX4 b).2.1 := by decide +kernel
theorem tyX4_ok : ∀ k, k < 3 → parseFieldDescriptor (TX4 k).2.2.1 = some (tyX4 k) := by decide +kernel
abbrev cX4_init : ByteArray := prog_6_method_1_code
def yX4_init : MethodName := ⟨RX4, "<init>", "()V"⟩
abbrev cX4_forget : ByteArray := prog_6_method_2_code
def yX4_forget : MethodName := ⟨RX4, "forget", "()V"⟩
abbrev cX4_keep : ByteArray := prog_6_method_3_code
def yX4_keep : MethodName := ⟨RX4, "keep", "([I)V"⟩
abbrev cX4_takeBack : ByteArray := prog_6_method_4_code
def yX4_takeBack : MethodName := ⟨RX4, "takeBack", "([I)Z"⟩
def RX5 : String := "WaxCloth$Planner"
def TX5 : u_T := fun k => match k with
  | 0 => ("WaxCloth$Planner", "bestRight", "I", false)
  | 1 => ("WaxCloth$Planner", "bestLength", "I", false)
  | 2 => ("WaxCloth$Planner", "best", "[I", true)
  | 3 => ("WaxCloth$Planner", "row", "[I", true)
  | _ => ("WaxCloth$Planner", "levels", "[[I", true)
def tyX5 : Nat → FieldType := fun k => match k with
  | 0 => .int
  | 1 => .int
  | 2 => .array .int
  | 3 => .array .int
  | _ => .array (.array .int)
abbrev wsX50 : List Cond := u_ws RX5 TX5 5
theorem nmX5 : ∀ a, a < 5 → ∀ b, b < 5 → a ≠ b → (TX5 a).2.1 ≠ (TX5 b).2.1 := by decide +kernel
theorem tyX5_ok : ∀ k, k < 5 → parseFieldDescriptor (TX5 k).2.2.1 = some (tyX5 k) := by decide +kernel
abbrev cX5_init : ByteArray := prog_7_method_1_code
def yX5_init : MethodName := ⟨RX5, "<init>", "()V"⟩
abbrev cX5_search : ByteArray := prog_7_method_2_code
def yX5_search : MethodName := ⟨RX5, "search", "(LWaxCloth$Cloth;I)V"⟩
abbrev cX5_extend : ByteArray := prog_7_method_3_code
def yX5_extend : MethodName := ⟨RX5, "extend", "(LWaxCloth$Cloth;II)V"⟩
abbrev cX5_isWaxOnly : ByteArray := prog_7_method_4_code
def yX5_isWaxOnly : MethodName := ⟨RX5, "isWaxOnly", "(I)Z"⟩
abbrev cX5_judge : ByteArray := prog_7_method_5_code
def yX5_judge : MethodName := ⟨RX5, "judge", "(II)V"⟩
def RX6 : String := "WaxCloth$Reader"
def TX6 : u_T := fun k => match k with
  | 0 => ("WaxCloth$Reader", "result", "LWaxCloth$Cloth;", true)
  | 1 => ("WaxCloth$Reader", "place", "I", false)
  | _ => ("WaxCloth$Reader", "source", "LWaxCloth$Tape;", true)
def tyX6 : Nat → FieldType := fun k => match k with
  | 0 => .object "WaxCloth$Cloth"
  | 1 => .int
  | _ => .object "WaxCloth$Tape"
abbrev wsX60 : List Cond := u_ws RX6 TX6 3
theorem nmX6 : ∀ a, a < 3 → ∀ b, b < 3 → a ≠ b → (TX6 a).2.1 ≠ (TX6 b).2.1 := by decide +kernel
theorem tyX6_ok : ∀ k, k < 3 → parseFieldDescriptor (TX6 k).2.2.1 = some (tyX6 k) := by decide +kernel
abbrev cX6_init : ByteArray := prog_8_method_1_code
def yX6_init : MethodName := ⟨RX6, "<init>", "(LWaxCloth$Tape;)V"⟩
abbrev cX6_read : ByteArray := prog_8_method_2_code
def yX6_read : MethodName := ⟨RX6, "read", "()Z"⟩
abbrev cX6_sign : ByteArray := prog_8_method_3_code
def yX6_sign : MethodName := ⟨RX6, "sign", "(I)Z"⟩
abbrev cX6_figure : ByteArray := prog_8_method_4_code
def yX6_figure : MethodName := ⟨RX6, "figure", "(II)I"⟩
abbrev cX6_readSquares : ByteArray := prog_8_method_5_code
def yX6_readSquares : MethodName := ⟨RX6, "readSquares", "()Z"⟩
abbrev cX6_readSquare : ByteArray := prog_8_method_6_code
def yX6_readSquare : MethodName := ⟨RX6, "readSquare", "(I)Z"⟩
abbrev cX6_readDyes : ByteArray := prog_8_method_7_code
def yX6_readDyes : MethodName := ⟨RX6, "readDyes", "()Z"⟩
abbrev cX6_readDye : ByteArray := prog_8_method_8_code
def yX6_readDye : MethodName := ⟨RX6, "readDye", "(I)Z"⟩
abbrev cX6_readStencils : ByteArray := prog_8_method_9_code
def yX6_readStencils : MethodName := ⟨RX6, "readStencils", "()Z"⟩
abbrev cX6_readStencil : ByteArray := prog_8_method_10_code
def yX6_readStencil : MethodName := ⟨RX6, "readStencil", "()I"⟩
def RX7 : String := "WaxCloth$Rounds"
def TX7 : u_T := fun k => match k with
  | 0 => ("WaxCloth$Rounds", "lead", "I", false)
  | _ => ("WaxCloth$Rounds", "lap", "I", false)
def tyX7 : Nat → FieldType := fun k => match k with
  | 0 => .int
  | _ => .int
abbrev wsX70 : List Cond := u_ws RX7 TX7 2
theorem nmX7 : ∀ a, a < 2 → ∀ b, b < 2 → a ≠ b → (TX7 a).2.1 ≠ (TX7 b).2.1 := by decide +kernel
theorem tyX7_ok : ∀ k, k < 2 → parseFieldDescriptor (TX7 k).2.2.1 = some (tyX7 k) := by decide +kernel
abbrev cX7_init : ByteArray := prog_9_method_1_code
def yX7_init : MethodName := ⟨RX7, "<init>", "()V"⟩
abbrev cX7_measure : ByteArray := prog_9_method_2_code
def yX7_measure : MethodName := ⟨RX7, "measure", "(LWaxCloth$Cloth;[II)V"⟩
abbrev cX7_lapOf : ByteArray := prog_9_method_3_code
def yX7_lapOf : MethodName := ⟨RX7, "lapOf", "(LWaxCloth$Cloth;I[II)I"⟩
abbrev cX7_leadOf : ByteArray := prog_9_method_4_code
def yX7_leadOf : MethodName := ⟨RX7, "leadOf", "(LWaxCloth$Cloth;I[III)I"⟩
def RX8 : String := "WaxCloth$Sheet"
def TX8 : u_T := fun k => match k with
  | 0 => ("WaxCloth$Sheet", "lane", "I", false)
  | 1 => ("WaxCloth$Sheet", "size", "I", false)
  | _ => ("WaxCloth$Sheet", "items", "[J", true)
def tyX8 : Nat → FieldType := fun k => match k with
  | 0 => .int
  | 1 => .int
  | _ => .array .long
abbrev wsX80 : List Cond := u_ws RX8 TX8 3
theorem nmX8 : ∀ a, a < 3 → ∀ b, b < 3 → a ≠ b → (TX8 a).2.1 ≠ (TX8 b).2.1 := by decide +kernel
theorem tyX8_ok : ∀ k, k < 3 → parseFieldDescriptor (TX8 k).2.2.1 = some (tyX8 k) := by decide +kernel
abbrev cX8_init : ByteArray := prog_10_method_1_code
def yX8_init : MethodName := ⟨RX8, "<init>", "()V"⟩
abbrev cX8_isLane : ByteArray := prog_10_method_2_code
def yX8_isLane : MethodName := ⟨RX8, "isLane", "(I)Z"⟩
abbrev cX8_isNothing : ByteArray := prog_10_method_3_code
def yX8_isNothing : MethodName := ⟨RX8, "isNothing", "()Z"⟩
abbrev cX8_begin : ByteArray := prog_10_method_4_code
def yX8_begin : MethodName := ⟨RX8, "begin", "(II)V"⟩
abbrev cX8_end : ByteArray := prog_10_method_5_code
def yX8_end : MethodName := ⟨RX8, "end", "()I"⟩
abbrev cX8_holds : ByteArray := prog_10_method_6_code
def yX8_holds : MethodName := ⟨RX8, "holds", "(II)Z"⟩
abbrev cX8_refusal : ByteArray := prog_10_method_7_code
def yX8_refusal : MethodName := ⟨RX8, "refusal", "(III)I"⟩
abbrev cX8_put : ByteArray := prog_10_method_8_code
def yX8_put : MethodName := ⟨RX8, "put", "(IJ)J"⟩
def RX9 : String := "WaxCloth$State"
def TX9 : u_T := fun k => match k with
  | _ => ("", "", "", false)
def tyX9 : Nat → FieldType := fun k => match k with
  | _ => .int
abbrev wsX90 : List Cond := u_ws RX9 TX9 0
theorem nmX9 : ∀ a, a < 0 → ∀ b, b < 0 → a ≠ b → (TX9 a).2.1 ≠ (TX9 b).2.1 := by decide +kernel
theorem tyX9_ok : ∀ k, k < 0 → parseFieldDescriptor (TX9 k).2.2.1 = some (tyX9 k) := by decide +kernel
abbrev cX9_isColour : ByteArray := prog_11_method_2_code
def yX9_isColour : MethodName := ⟨RX9, "isColour", "(I)Z"⟩
abbrev cX9_isAmount : ByteArray := prog_11_method_3_code
def yX9_isAmount : MethodName := ⟨RX9, "isAmount", "(I)Z"⟩
abbrev cX9_ofShade : ByteArray := prog_11_method_4_code
def yX9_ofShade : MethodName := ⟨RX9, "ofShade", "(III)I"⟩
abbrev cX9_amountOf : ByteArray := prog_11_method_5_code
def yX9_amountOf : MethodName := ⟨RX9, "amountOf", "(II)I"⟩
abbrev cX9_withMore : ByteArray := prog_11_method_6_code
def yX9_withMore : MethodName := ⟨RX9, "withMore", "(III)I"⟩
abbrev cX9_waxIn : ByteArray := prog_11_method_7_code
def yX9_waxIn : MethodName := ⟨RX9, "waxIn", "(I)I"⟩
abbrev cX9_withWax : ByteArray := prog_11_method_8_code
def yX9_withWax : MethodName := ⟨RX9, "withWax", "(II)I"⟩
abbrev cX9_hueOf : ByteArray := prog_11_method_9_code
def yX9_hueOf : MethodName := ⟨RX9, "hueOf", "(I)I"⟩
abbrev cX9_darkness : ByteArray := prog_11_method_10_code
def yX9_darkness : MethodName := ⟨RX9, "darkness", "(I)I"⟩
def RX10 : String := "WaxCloth$Tape"
def TX10 : u_T := fun k => match k with
  | 0 => ("WaxCloth$Tape", "length", "I", false)
  | _ => ("WaxCloth$Tape", "bytes", "[I", true)
def tyX10 : Nat → FieldType := fun k => match k with
  | 0 => .int
  | _ => .array .int
abbrev wsX100 : List Cond := u_ws RX10 TX10 2
theorem nmX10 : ∀ a, a < 2 → ∀ b, b < 2 → a ≠ b → (TX10 a).2.1 ≠ (TX10 b).2.1 := by decide +kernel
theorem tyX10_ok : ∀ k, k < 2 → parseFieldDescriptor (TX10 k).2.2.1 = some (tyX10 k) := by decide +kernel
abbrev cX10_init : ByteArray := prog_12_method_1_code
def yX10_init : MethodName := ⟨RX10, "<init>", "()V"⟩
abbrev cX10_put : ByteArray := prog_12_method_2_code
def yX10_put : MethodName := ⟨RX10, "put", "(I)Z"⟩
abbrev cX10_at : ByteArray := prog_12_method_3_code
def yX10_at : MethodName := ⟨RX10, "at", "(I)I"⟩
def RX11 : String := "WaxCloth"
def TX11 : u_T := fun k => match k with
  | 0 => ("WaxCloth", "tape", "LWaxCloth$Tape;", true)
  | 1 => ("WaxCloth", "reader", "LWaxCloth$Reader;", true)
  | 2 => ("WaxCloth", "now", "LWaxCloth$Cloth;", true)
  | 3 => ("WaxCloth", "past", "LWaxCloth$Past;", true)
  | 4 => ("WaxCloth", "kept", "[LWaxCloth$Cloth;", true)
  | 5 => ("WaxCloth", "shelf", "[LWaxCloth$Sheet;", true)
  | 6 => ("WaxCloth", "planner", "LWaxCloth$Planner;", true)
  | 7 => ("WaxCloth", "baths", "LWaxCloth$Baths;", true)
  | 8 => ("WaxCloth", "chances", "LWaxCloth$Chances;", true)
  | 9 => ("WaxCloth", "rounds", "LWaxCloth$Rounds;", true)
  | _ => ("WaxCloth", "doingRow", "[I", true)
def tyX11 : Nat → FieldType := fun k => match k with
  | 0 => .object "WaxCloth$Tape"
  | 1 => .object "WaxCloth$Reader"
  | 2 => .object "WaxCloth$Cloth"
  | 3 => .object "WaxCloth$Past"
  | 4 => .array (.object "WaxCloth$Cloth")
  | 5 => .array (.object "WaxCloth$Sheet")
  | 6 => .object "WaxCloth$Planner"
  | 7 => .object "WaxCloth$Baths"
  | 8 => .object "WaxCloth$Chances"
  | 9 => .object "WaxCloth$Rounds"
  | _ => .array .int
abbrev wsX110 : List Cond := u_ws RX11 TX11 11
theorem nmX11 : ∀ a, a < 11 → ∀ b, b < 11 → a ≠ b → (TX11 a).2.1 ≠ (TX11 b).2.1 := by decide +kernel
theorem tyX11_ok : ∀ k, k < 11 → parseFieldDescriptor (TX11 k).2.2.1 = some (tyX11 k) := by decide +kernel
abbrev cX11_init : ByteArray := prog_1_method_1_code
def yX11_init : MethodName := ⟨RX11, "<init>", "()V"⟩
abbrev cX11_feed : ByteArray := prog_1_method_2_code
def yX11_feed : MethodName := ⟨RX11, "feed", "(I)I"⟩
abbrev cX11_cloth : ByteArray := prog_1_method_3_code
def yX11_cloth : MethodName := ⟨RX11, "cloth", "()I"⟩
abbrev cX11_square : ByteArray := prog_1_method_4_code
def yX11_square : MethodName := ⟨RX11, "square", "(II)I"⟩
abbrev cX11_as : ByteArray := prog_1_method_5_code
def yX11_as : MethodName := ⟨RX11, "as", "(II)I"⟩
abbrev cX11_dye : ByteArray := prog_1_method_6_code
def yX11_dye : MethodName := ⟨RX11, "dye", "(II)I"⟩
abbrev cX11_stencil : ByteArray := prog_1_method_7_code
def yX11_stencil : MethodName := ⟨RX11, "stencil", "(I)I"⟩
abbrev cX11_takes : ByteArray := prog_1_method_8_code
def yX11_takes : MethodName := ⟨RX11, "takes", "(III)I"⟩
abbrev cX11_does : ByteArray := prog_1_method_9_code
def yX11_does : MethodName := ⟨RX11, "does", "(I)I"⟩
abbrev cX11_undo : ByteArray := prog_1_method_10_code
def yX11_undo : MethodName := ⟨RX11, "undo", "()I"⟩
abbrev cX11_wish : ByteArray := prog_1_method_11_code
def yX11_wish : MethodName := ⟨RX11, "wish", "(II)I"⟩
abbrev cX11_image : ByteArray := prog_1_method_12_code
def yX11_image : MethodName := ⟨RX11, "image", "(I)I"⟩
abbrev cX11_restore : ByteArray := prog_1_method_13_code
def yX11_restore : MethodName := ⟨RX11, "restore", "(I)I"⟩
abbrev cX11_plan : ByteArray := prog_1_method_14_code
def yX11_plan : MethodName := ⟨RX11, "plan", "(II)I"⟩
abbrev cX11_rows : ByteArray := prog_1_method_15_code
def yX11_rows : MethodName := ⟨RX11, "rows", "(IIIIII)I"⟩
abbrev cX11_shades : ByteArray := prog_1_method_16_code
def yX11_shades : MethodName := ⟨RX11, "shades", "(II)I"⟩
abbrev cX11_cracks : ByteArray := prog_1_method_17_code
def yX11_cracks : MethodName := ⟨RX11, "cracks", "(IIII)I"⟩
abbrev cX11_decades : ByteArray := prog_1_method_18_code
def yX11_decades : MethodName := ⟨RX11, "decades", "(III)I"⟩
abbrev cX11_sheet : ByteArray := prog_1_method_19_code
def yX11_sheet : MethodName := ⟨RX11, "sheet", "(III)I"⟩
abbrev cX11_drop : ByteArray := prog_1_method_20_code
def yX11_drop : MethodName := ⟨RX11, "drop", "(I)I"⟩
abbrev cX11_item : ByteArray := prog_1_method_21_code
def yX11_item : MethodName := ⟨RX11, "item", "(IIIJ)J"⟩
abbrev cX11_copy : ByteArray := prog_1_method_22_code
def yX11_copy : MethodName := ⟨RX11, "copy", "(IIIII)I"⟩
abbrev cX11_log : ByteArray := prog_1_method_23_code
def yX11_log : MethodName := ⟨RX11, "log", "(III)I"⟩
abbrev cX11_ahead : ByteArray := prog_1_method_24_code
def yX11_ahead : MethodName := ⟨RX11, "ahead", "(IIIIII)I"⟩
abbrev cX11_round : ByteArray := prog_1_method_25_code
def yX11_round : MethodName := ⟨RX11, "round", "(IIIII)I"⟩
abbrev cX11_kinds : ByteArray := prog_1_method_26_code
def yX11_kinds : MethodName := ⟨RX11, "kinds", "(IIIII)I"⟩
abbrev cX11_wishes : ByteArray := prog_1_method_27_code
def yX11_wishes : MethodName := ⟨RX11, "wishes", "(III)I"⟩
abbrev cX11_count : ByteArray := prog_1_method_28_code
def yX11_count : MethodName := ⟨RX11, "count", "(I)I"⟩
abbrev cX11_isSheet : ByteArray := prog_1_method_29_code
def yX11_isSheet : MethodName := ⟨RX11, "isSheet", "(I)Z"⟩
abbrev cX11_takeDoings : ByteArray := prog_1_method_30_code
def yX11_takeDoings : MethodName := ⟨RX11, "takeDoings", "(IIII)I"⟩
abbrev cX11_areTriples : ByteArray := prog_1_method_31_code
def yX11_areTriples : MethodName := ⟨RX11, "areTriples", "(LWaxCloth$Sheet;II)Z"⟩
abbrev cX11_kindsByTriples : ByteArray := prog_1_method_32_code
def yX11_kindsByTriples : MethodName := ⟨RX11, "kindsByTriples", "(LWaxCloth$Sheet;II)I"⟩
def RX12 : String := "WaxClothModel"
def TX12 : u_T := fun k => match k with
  | 0 => ("WaxClothModel", "cloth", "[I", true)
  | 1 => ("WaxClothModel", "read", "[I", true)
  | 2 => ("WaxClothModel", "readWish", "[I", true)
  | 3 => ("WaxClothModel", "now", "[I", true)
  | 4 => ("WaxClothModel", "aside", "[I", true)
  | 5 => ("WaxClothModel", "doings", "I", false)
  | 6 => ("WaxClothModel", "past", "[I", true)
  | 7 => ("WaxClothModel", "undos", "I", false)
  | 8 => ("WaxClothModel", "images", "[I", true)
  | 9 => ("WaxClothModel", "isKept", "[Z", true)
  | 10 => ("WaxClothModel", "tape", "[I", true)
  | 11 => ("WaxClothModel", "fed", "I", false)
  | 12 => ("WaxClothModel", "sizes", "[I", true)
  | 13 => ("WaxClothModel", "lanes", "[I", true)
  | 14 => ("WaxClothModel", "items", "[J", true)
  | 15 => ("WaxClothModel", "at", "I", false)
  | 16 => ("WaxClothModel", "value", "I", false)
  | 17 => ("WaxClothModel", "met", "[Z", true)
  | 18 => ("WaxClothModel", "weights", "[J", true)
  | 19 => ("WaxClothModel", "since", "[I", true)
  | 20 => ("WaxClothModel", "roundsAhead", "I", false)
  | _ => ("WaxClothModel", "length", "I", false)
def tyX12 : Nat → FieldType := fun k => match k with
  | 0 => .array .int
  | 1 => .array .int
  | 2 => .array .int
  | 3 => .array .int
  | 4 => .array .int
  | 5 => .int
  | 6 => .array .int
  | 7 => .int
  | 8 => .array .int
  | 9 => .array .boolean
  | 10 => .array .int
  | 11 => .int
  | 12 => .array .int
  | 13 => .array .int
  | 14 => .array .long
  | 15 => .int
  | 16 => .int
  | 17 => .array .boolean
  | 18 => .array .long
  | 19 => .array .int
  | 20 => .int
  | _ => .int
abbrev wsX120 : List Cond := u_ws RX12 TX12 22
theorem nmX12 : ∀ a, a < 22 → ∀ b, b < 22 → a ≠ b → (TX12 a).2.1 ≠ (TX12 b).2.1 := by decide +kernel
theorem tyX12_ok : ∀ k, k < 22 → parseFieldDescriptor (TX12 k).2.2.1 = some (tyX12 k) := by decide +kernel
abbrev cX12_init : ByteArray := prog_14_method_1_code
def yX12_init : MethodName := ⟨RX12, "<init>", "()V"⟩
abbrev cX12_in : ByteArray := prog_14_method_3_code
def yX12_in : MethodName := ⟨RX12, "in", "(JJJ)Z"⟩
abbrev cX12_has : ByteArray := prog_14_method_4_code
def yX12_has : MethodName := ⟨RX12, "has", "(II)Z"⟩
abbrev cX12_bits : ByteArray := prog_14_method_5_code
def yX12_bits : MethodName := ⟨RX12, "bits", "(I)I"⟩
abbrev cX12_copies : ByteArray := prog_14_method_6_code
def yX12_copies : MethodName := ⟨RX12, "copies", "([II[III)V"⟩
abbrev cX12_less : ByteArray := prog_14_method_7_code
def yX12_less : MethodName := ⟨RX12, "less", "(II)I"⟩
abbrev cX12_feed : ByteArray := prog_14_method_8_code
def yX12_feed : MethodName := ⟨RX12, "feed", "(I)I"⟩
abbrev cX12_here : ByteArray := prog_14_method_9_code
def yX12_here : MethodName := ⟨RX12, "here", "()I"⟩
abbrev cX12_eats : ByteArray := prog_14_method_10_code
def yX12_eats : MethodName := ⟨RX12, "eats", "(I)Z"⟩
abbrev cX12_figure : ByteArray := prog_14_method_11_code
def yX12_figure : MethodName := ⟨RX12, "figure", "(II)Z"⟩
abbrev cX12_kindBy : ByteArray := prog_14_method_12_code
def yX12_kindBy : MethodName := ⟨RX12, "kindBy", "(I)I"⟩
abbrev cX12_readsSquare : ByteArray := prog_14_method_13_code
def yX12_readsSquare : MethodName := ⟨RX12, "readsSquare", "()Z"⟩
abbrev cX12_readsDye : ByteArray := prog_14_method_14_code
def yX12_readsDye : MethodName := ⟨RX12, "readsDye", "()Z"⟩
abbrev cX12_readsStencil : ByteArray := prog_14_method_15_code
def yX12_readsStencil : MethodName := ⟨RX12, "readsStencil", "()Z"⟩
abbrev cX12_another : ByteArray := prog_14_method_16_code
def yX12_another : MethodName := ⟨RX12, "another", "(II)Z"⟩
abbrev cX12_reads : ByteArray := prog_14_method_17_code
def yX12_reads : MethodName := ⟨RX12, "reads", "()Z"⟩
abbrev cX12_cloth : ByteArray := prog_14_method_18_code
def yX12_cloth : MethodName := ⟨RX12, "cloth", "()I"⟩
abbrev cX12_isSquare : ByteArray := prog_14_method_19_code
def yX12_isSquare : MethodName := ⟨RX12, "isSquare", "(I)Z"⟩
abbrev cX12_isDye : ByteArray := prog_14_method_20_code
def yX12_isDye : MethodName := ⟨RX12, "isDye", "(I)Z"⟩
abbrev cX12_hueOf : ByteArray := prog_14_method_21_code
def yX12_hueOf : MethodName := ⟨RX12, "hueOf", "([II)I"⟩
abbrev cX12_darkOf : ByteArray := prog_14_method_22_code
def yX12_darkOf : MethodName := ⟨RX12, "darkOf", "([II)I"⟩
abbrev cX12_isRight : ByteArray := prog_14_method_23_code
def yX12_isRight : MethodName := ⟨RX12, "isRight", "([II)Z"⟩
abbrev cX12_rightOn : ByteArray := prog_14_method_24_code
def yX12_rightOn : MethodName := ⟨RX12, "rightOn", "([I)I"⟩
abbrev cX12_darkAll : ByteArray := prog_14_method_25_code
def yX12_darkAll : MethodName := ⟨RX12, "darkAll", "([I)I"⟩
abbrev cX12_takenBy : ByteArray := prog_14_method_26_code
def yX12_takenBy : MethodName := ⟨RX12, "takenBy", "(III)I"⟩
abbrev cX12_takenOn : ByteArray := prog_14_method_27_code
def yX12_takenOn : MethodName := ⟨RX12, "takenOn", "([IIII)I"⟩
abbrev cX12_cracksOn : ByteArray := prog_14_method_28_code
def yX12_cracksOn : MethodName := ⟨RX12, "cracksOn", "(I)I"⟩
abbrev cX12_bathes : ByteArray := prog_14_method_29_code
def yX12_bathes : MethodName := ⟨RX12, "bathes", "([III)V"⟩
abbrev cX12_rinses : ByteArray := prog_14_method_30_code
def yX12_rinses : MethodName := ⟨RX12, "rinses", "([II)V"⟩
abbrev cX12_isDoing : ByteArray := prog_14_method_31_code
def yX12_isDoing : MethodName := ⟨RX12, "isDoing", "(J)Z"⟩
abbrev cX12_doesOn : ByteArray := prog_14_method_32_code
def yX12_doesOn : MethodName := ⟨RX12, "doesOn", "([III)V"⟩
abbrev cX12_doesAll : ByteArray := prog_14_method_33_code
def yX12_doesAll : MethodName := ⟨RX12, "doesAll", "([II)V"⟩
abbrev cX12_square : ByteArray := prog_14_method_34_code
def yX12_square : MethodName := ⟨RX12, "square", "(II)I"⟩
abbrev cX12_as : ByteArray := prog_14_method_35_code
def yX12_as : MethodName := ⟨RX12, "as", "(II)I"⟩
abbrev cX12_dye : ByteArray := prog_14_method_36_code
def yX12_dye : MethodName := ⟨RX12, "dye", "(II)I"⟩
abbrev cX12_stencil : ByteArray := prog_14_method_37_code
def yX12_stencil : MethodName := ⟨RX12, "stencil", "(I)I"⟩
abbrev cX12_takes : ByteArray := prog_14_method_38_code
def yX12_takes : MethodName := ⟨RX12, "takes", "(III)I"⟩
abbrev cX12_does : ByteArray := prog_14_method_39_code
def yX12_does : MethodName := ⟨RX12, "does", "(I)I"⟩
abbrev cX12_undo : ByteArray := prog_14_method_40_code
def yX12_undo : MethodName := ⟨RX12, "undo", "()I"⟩
abbrev cX12_wish : ByteArray := prog_14_method_41_code
def yX12_wish : MethodName := ⟨RX12, "wish", "(II)I"⟩
abbrev cX12_image : ByteArray := prog_14_method_42_code
def yX12_image : MethodName := ⟨RX12, "image", "(I)I"⟩
abbrev cX12_restore : ByteArray := prog_14_method_43_code
def yX12_restore : MethodName := ⟨RX12, "restore", "(I)I"⟩
abbrev cX12_laysAside : ByteArray := prog_14_method_44_code
def yX12_laysAside : MethodName := ⟨RX12, "laysAside", "()V"⟩
abbrev cX12_doingsThere : ByteArray := prog_14_method_45_code
def yX12_doingsThere : MethodName := ⟨RX12, "doingsThere", "()I"⟩
abbrev cX12_doingOf : ByteArray := prog_14_method_46_code
def yX12_doingOf : MethodName := ⟨RX12, "doingOf", "(I)I"⟩
abbrev cX12_plan : ByteArray := prog_14_method_47_code
def yX12_plan : MethodName := ⟨RX12, "plan", "(II)I"⟩
abbrev cX12_whitens : ByteArray := prog_14_method_48_code
def yX12_whitens : MethodName := ⟨RX12, "whitens", "(I)V"⟩
abbrev cX12_power : ByteArray := prog_14_method_49_code
def yX12_power : MethodName := ⟨RX12, "power", "(II)I"⟩
abbrev cX12_shadeOf : ByteArray := prog_14_method_50_code
def yX12_shadeOf : MethodName := ⟨RX12, "shadeOf", "(III)I"⟩
abbrev cX12_rows : ByteArray := prog_14_method_51_code
def yX12_rows : MethodName := ⟨RX12, "rows", "(IIIIII)I"⟩
abbrev cX12_shades : ByteArray := prog_14_method_52_code
def yX12_shades : MethodName := ⟨RX12, "shades", "(II)I"⟩
abbrev cX12_cracks : ByteArray := prog_14_method_53_code
def yX12_cracks : MethodName := ⟨RX12, "cracks", "(IIII)I"⟩
abbrev cX12_decades : ByteArray := prog_14_method_54_code
def yX12_decades : MethodName := ⟨RX12, "decades", "(III)I"⟩
abbrev cX12_isSheet : ByteArray := prog_14_method_55_code
def yX12_isSheet : MethodName := ⟨RX12, "isSheet", "(II)Z"⟩
abbrev cX12_found : ByteArray := prog_14_method_56_code
def yX12_found : MethodName := ⟨RX12, "found", "(IIII)I"⟩
abbrev cX12_cut : ByteArray := prog_14_method_57_code
def yX12_cut : MethodName := ⟨RX12, "cut", "(IJ)J"⟩
abbrev cX12_log : ByteArray := prog_14_method_58_code
def yX12_log : MethodName := ⟨RX12, "log", "(III)I"⟩
abbrev cX12_areDoings : ByteArray := prog_14_method_59_code
def yX12_areDoings : MethodName := ⟨RX12, "areDoings", "(III)Z"⟩
abbrev cX12_ahead : ByteArray := prog_14_method_60_code
def yX12_ahead : MethodName := ⟨RX12, "ahead", "(IIIIII)I"⟩
abbrev cX12_codeOf : ByteArray := prog_14_method_61_code
def yX12_codeOf : MethodName := ⟨RX12, "codeOf", "(I)I"⟩
abbrev cX12_goesRound : ByteArray := prog_14_method_62_code
def yX12_goesRound : MethodName := ⟨RX12, "goesRound", "(IIII)V"⟩
abbrev cX12_round : ByteArray := prog_14_method_63_code
def yX12_round : MethodName := ⟨RX12, "round", "(IIIII)I"⟩
abbrev cX12_kinds : ByteArray := prog_14_method_64_code
def yX12_kinds : MethodName := ⟨RX12, "kinds", "(IIIII)I"⟩
abbrev cX12_tryOf : ByteArray := prog_14_method_65_code
def yX12_tryOf : MethodName := ⟨RX12, "tryOf", "(II)I"⟩
abbrev cX12_wishes : ByteArray := prog_14_method_66_code
def yX12_wishes : MethodName := ⟨RX12, "wishes", "(III)I"⟩
abbrev cX12_count : ByteArray := prog_14_method_67_code
def yX12_count : MethodName := ⟨RX12, "count", "(I)I"⟩
abbrev cX12_sheet : ByteArray := prog_14_method_68_code
def yX12_sheet : MethodName := ⟨RX12, "sheet", "(III)I"⟩
abbrev cX12_drop : ByteArray := prog_14_method_69_code
def yX12_drop : MethodName := ⟨RX12, "drop", "(I)I"⟩
abbrev cX12_item : ByteArray := prog_14_method_70_code
def yX12_item : MethodName := ⟨RX12, "item", "(IIIJ)J"⟩
abbrev cX12_copy : ByteArray := prog_14_method_71_code
def yX12_copy : MethodName := ⟨RX12, "copy", "(IIIII)I"⟩
def RJ6 : String := "java/lang/Integer"
abbrev cJ6_bitCount_0f7a4 : ByteArray := prog_15_method_49_code
def yJ6_bitCount_0f7a4 : MethodName := ⟨RJ6, "bitCount", "(I)I"⟩
def RJ9 : String := "java/lang/Math"
abbrev cJ9_max_7cf53 : ByteArray := prog_16_method_65_code
def yJ9_max_7cf53 : MethodName := ⟨RJ9, "max", "(II)I"⟩
abbrev cJ9_min_7cf53 : ByteArray := prog_16_method_69_code
def yJ9_min_7cf53 : MethodName := ⟨RJ9, "min", "(II)I"⟩
def RJ10 : String := "java/lang/System"
def RL : String := "WaxClothLaw"
abbrev cL_law : ByteArray := code
def yL_law : MethodName := ⟨RL, "law", "([I)Z"⟩
abbrev vwCl : List vw_C := [(RX0, TX0, 5), (RX1, TX1, 6), (RX2, TX2, 9), (RX4, TX4, 3), (RX5, TX5, 5), (RX6, TX6, 3), (RX7, TX7, 2), (RX8, TX8, 3), (RX10, TX10, 2), (RX11, TX11, 11), (RX12, TX12, 22)]
end
section
/-! THE LAYER: one picture of all cells (98 of them: the class's and the reference's), a state of ints and longs over it; a row an instruction. -/
def WS : List Cond := lw_tbl.filter goodWord
theorem ws_in {w : Cond} (i : Nat) (h : lw_tbl[i]? = some w) (hg : goodWord w = true) : w ∈ WS := List.mem_filter.mpr ⟨List.mem_of_getElem? h, hg⟩
theorem WS_good : GoodIn lw_tbl WS := fun _ h => ⟨(List.mem_filter.mp h).1, good_of_word (List.mem_filter.mp h).2⟩
theorem WS_self : GoodIn WS WS := fun _ h => ⟨h, good_of_word (List.mem_filter.mp h).2⟩
theorem WS_cons {w : Cond} (hw : w ∈ WS) : GoodIn WS (w :: WS) := fun v h => (List.mem_cons.mp h).elim (fun e => by rw [e]; exact WS_self w hw) (WS_self v)
theorem WS_mem {ws : List Cond} (h : GoodIn lw_tbl ws) (hg : ws.all goodWord = true) : ∀ w ∈ ws, w ∈ WS := fun w hw => List.mem_filter.mpr ⟨(h w hw).1, List.all_eq_true.mp hg w hw⟩
abbrev gS : Type := (Nat → Nat → Int32) × (Nat → Nat → Int64)
/-- class numbers and slots; the array classes; the cells' addresses; the static table -/
abbrev gX : Type := va_G × (Nat → ClassId) × (Nat → Nat) × Nat
abbrev oN : Option Nat := none
def ds0 : List (Nat × Nat × List (Option Nat)) := [(6, 9, [some 1, some 3, some 10, some 16, some 42, some 55, some 64, some 73, some 77, some 80, some 81]),
  (6, 8, [oN, some 2]),
  (0, 80, []),
  (6, 5, [some 4, oN, some 1]),
  (6, 2, [oN, oN, oN, oN, some 5, some 6, some 7, some 8, some 9]),
  (0, 8, []),
  (0, 8, []),
  (0, 8, []),
  (0, 12, []),
  (0, 3, []),
  (6, 2, [oN, oN, oN, oN, some 11, some 12, some 13, some 14, some 15]),
  (0, 8, []),
  (0, 8, []),
  (0, 8, []),
  (0, 12, []),
  (0, 3, []),
  (6, 3, [oN, oN, some 17]),
  (5, 24, [some 18, some 19, some 20, some 21, some 22, some 23, some 24, some 25, some 26, some 27, some 28, some 29, some 30, some 31, some 32, some 33, some 34, some 35, some 36, some 37, some 38, some 39, some 40, some 41]),
  (0, 8, []),
  (0, 8, []),
  (0, 8, []),
  (0, 8, []),
  (0, 8, []),
  (0, 8, []),
  (0, 8, []),
  (0, 8, []),
  (0, 8, []),
  (0, 8, []),
  (0, 8, []),
  (0, 8, []),
  (0, 8, []),
  (0, 8, []),
  (0, 8, []),
  (0, 8, []),
  (0, 8, []),
  (0, 8, []),
  (0, 8, []),
  (0, 8, []),
  (0, 8, []),
  (0, 8, []),
  (0, 8, []),
  (0, 8, []),
  (3, 2, [some 43, some 49]),
  (6, 2, [oN, oN, oN, oN, some 44, some 45, some 46, some 47, some 48]),
  (0, 8, []),
  (0, 8, []),
  (0, 8, []),
  (0, 12, []),
  (0, 3, []),
  (6, 2, [oN, oN, oN, oN, some 50, some 51, some 52, some 53, some 54]),
  (0, 8, []),
  (0, 8, []),
  (0, 8, []),
  (0, 12, []),
  (0, 3, []),
  (4, 4, [some 56, some 58, some 60, some 62]),
  (6, 7, [oN, oN, some 57]),
  (1, 24, []),
  (6, 7, [oN, oN, some 59]),
  (1, 24, []),
  (6, 7, [oN, oN, some 61]),
  (1, 24, []),
  (6, 7, [oN, oN, some 63]),
  (1, 24, []),
  (6, 4, [oN, oN, some 65, some 66, some 67]),
  (0, 4, []),
  (0, 4, []),
  (5, 5, [some 68, some 69, some 70, some 71, some 72]),
  (0, 8, []),
  (0, 8, []),
  (0, 8, []),
  (0, 8, []),
  (0, 8, []),
  (6, 0, [oN, oN, some 74, some 75, some 76]),
  (0, 5, []),
  (0, 5, []),
  (1, 64, []),
  (6, 1, [oN, oN, oN, oN, some 78, some 79]),
  (0, 9, []),
  (0, 8, []),
  (6, 6, [oN, oN]),
  (0, 20, []),
  (6, 10, [some 83, some 84, some 85, some 86, some 87, oN, some 88, oN, some 89, some 90, some 91, oN, some 92, some 93, some 94, oN, oN, some 95, some 96, some 97, oN, oN]),
  (0, 26, []),
  (0, 26, []),
  (0, 8, []),
  (0, 40, []),
  (0, 40, []),
  (0, 768, []),
  (0, 134, []),
  (2, 2, []),
  (0, 80, []),
  (0, 4, []),
  (0, 4, []),
  (1, 96, []),
  (2, 1000, []),
  (1, 10, []),
  (0, 4000, [])]
abbrev NC : Nat := 98
def ds (c : Nat) : Nat × Nat × List (Option Nat) := ds0.getD c (9, 0, [])
abbrev isO (c ci : Nat) : Prop := (ds c).1 = 6 ∧ (ds c).2.1 = ci
abbrev isI (c n : Nat) : Prop := (ds c).1 = 0 ∧ (ds c).2.1 = n
abbrev isJ (c n : Nat) : Prop := (ds c).1 = 1 ∧ (ds c).2.1 = n
abbrev isZ (c n : Nat) : Prop := (ds c).1 = 2 ∧ (ds c).2.1 = n
abbrev ln (c : Nat) : Nat := (ds c).2.1
abbrev inR (i : Int32) (n : Nat) : Prop := ¬ (i < 0 ∨ n ≤ i.toNatClampNeg)
def gF (ad : Nat → Nat) (m : Nat → Int32) : Nat → List (Option Nat) → List Value
  | _, [] => []
  | k, none :: l => .int (m k) :: gF ad m (k + 1) l
  | k, some j :: l => .ref (ad j) :: gF ad m (k + 1) l
theorem gF_int {ad : Nat → Nat} {m : Nat → Int32} : ∀ (l : List (Option Nat)) (k i : Nat), l[i]? = some none → (gF ad m k l)[i]? = some (.int (m (k + i)))
  | [], k, i, h => by simp at h
  | none :: l, k, 0, h => rfl
  | some j :: l, k, 0, h => by simp at h
  | none :: l, k, i + 1, h => by
    have := gF_int (ad := ad) (m := m) l (k + 1) i (by simpa using h)
    rw [show k + (i + 1) = k + 1 + i by omega]; exact this
  | some j :: l, k, i + 1, h => by
    have := gF_int (ad := ad) (m := m) l (k + 1) i (by simpa using h)
    rw [show k + (i + 1) = k + 1 + i by omega]; exact this
theorem gF_ref {ad : Nat → Nat} {m : Nat → Int32} {q : Nat} : ∀ (l : List (Option Nat)) (k i : Nat), l[i]? = some (some q) → (gF ad m k l)[i]? = some (.ref (ad q))
  | [], k, i, h => by simp at h
  | none :: l, k, 0, h => by simp at h
  | some j :: l, k, 0, h => by
    have e : j = q := by simpa using h
    subst e; rfl
  | none :: l, k, i + 1, h => gF_ref l (k + 1) i (by simpa using h)
  | some j :: l, k, i + 1, h => gF_ref l (k + 1) i (by simpa using h)
theorem gF_len {ad : Nat → Nat} {m : Nat → Int32} : ∀ (l : List (Option Nat)) (k : Nat), (gF ad m k l).length = l.length
  | [], k => rfl
  | none :: l, k => by show (gF ad m (k + 1) l).length + 1 = _; rw [gF_len l (k + 1)]; rfl
  | some j :: l, k => by show (gF ad m (k + 1) l).length + 1 = _; rw [gF_len l (k + 1)]; rfl
theorem gF_congr {ad : Nat → Nat} {m m' : Nat → Int32} : ∀ (l : List (Option Nat)) (k : Nat), (∀ j, k ≤ j → m j = m' j) → gF ad m k l = gF ad m' k l
  | [], k, h => rfl
  | none :: l, k, h => by
    show Value.int (m k) :: gF ad m (k + 1) l = Value.int (m' k) :: gF ad m' (k + 1) l
    rw [h k (Nat.le_refl _), gF_congr l (k + 1) (fun j hj => h j (by omega))]
  | some j :: l, k, h => by
    show Value.ref (ad j) :: gF ad m (k + 1) l = Value.ref (ad j) :: gF ad m' (k + 1) l
    rw [gF_congr l (k + 1) (fun j hj => h j (by omega))]
theorem gF_set {ad : Nat → Nat} {m : Nat → Int32} {v : Int32} : ∀ (l : List (Option Nat)) (k i : Nat), l[i]? = some none → (gF ad m k l).set i (.int v) = gF ad (upd m (k + i) v) k l
  | [], k, i, h => by simp at h
  | none :: l, k, 0, h => by
    show Value.int v :: gF ad m (k + 1) l = Value.int (upd m (k + 0) v k) :: gF ad (upd m (k + 0) v) (k + 1) l
    rw [show upd m (k + 0) v k = v by simp [upd]]
    rw [gF_congr (m := m) (m' := upd m (k + 0) v) l (k + 1) (fun j hj => by simp [upd, show j ≠ k by omega])]
  | some j :: l, k, 0, h => by simp at h
  | none :: l, k, i + 1, h => by
    show Value.int (m k) :: (gF ad m (k + 1) l).set i (.int v) = Value.int (upd m (k + (i + 1)) v k) :: gF ad (upd m (k + (i + 1)) v) (k + 1) l
    rw [gF_set l (k + 1) i (by simpa using h), show k + 1 + i = k + (i + 1) by omega, show upd m (k + (i + 1)) v k = m k by simp [upd]]
  | some j :: l, k, i + 1, h => by
    show Value.ref (ad j) :: (gF ad m (k + 1) l).set i (.int v) = Value.ref (ad j) :: gF ad (upd m (k + (i + 1)) v) (k + 1) l
    rw [gF_set l (k + 1) i (by simpa using h), show k + 1 + i = k + (i + 1) by omega]
def gR (ad : Nat → Nat) (l : List (Option Nat)) : Nat → Option Nat := fun j => (l.getD j none).map ad
def gE (X : gX) (c : Nat) (m : Nat → Int32) (g : Nat → Int64) : va_E :=
  match (ds c).1 with
  | 0 => .inl (X.2.1 0, (ds c).2.1, .inl m)
  | 1 => .inl (X.2.1 1, (ds c).2.1, .inr (.inl g))
  | 2 => .inl (X.2.1 2, (ds c).2.1, .inl m)
  | 3 => .inl (X.2.1 3, (ds c).2.1, .inr (.inr (.inr (.inr (gR X.2.2.1 (ds c).2.2)))))
  | 4 => .inl (X.2.1 4, (ds c).2.1, .inr (.inr (.inr (.inr (gR X.2.2.1 (ds c).2.2)))))
  | 5 => .inl (X.2.1 5, (ds c).2.1, .inr (.inr (.inr (.inr (gR X.2.2.1 (ds c).2.2)))))
  | _ => .inr ((ds c).2.1, gF X.2.2.1 m 0 (ds c).2.2)
def gw (X : gX) (σ : gS) : va_W := (List.range NC).map (fun c => (X.2.2.1 c, gE X c (σ.1 c) (σ.2 c)))
theorem gw_get {X : gX} {σ : gS} {c : Nat} (h : c < NC) : (gw X σ)[c]? = some (X.2.2.1 c, gE X c (σ.1 c) (σ.2 c)) := by
  unfold gw; rw [List.getElem?_map, List.getElem?_range h]; rfl
theorem gw_of {X : gX} {σ : gS} {c : Nat} {q : Nat × va_E} (h : (gw X σ)[c]? = some q) : c < NC ∧ q = (X.2.2.1 c, gE X c (σ.1 c) (σ.2 c)) := by
  have hl : c < NC := by
    have := (List.getElem?_eq_some_iff.mp h).1
    unfold gw at this; rw [List.length_map, List.length_range] at this; exact this
  rw [gw_get hl] at h
  exact ⟨hl, (Option.some.inj h).symm⟩
def s1 (σ : gS) (c : Nat) (f : Nat → Int32) : gS := (fun d => if d = c then f else σ.1 d, σ.2)
def s2 (σ : gS) (c : Nat) (g : Nat → Int64) : gS := (σ.1, fun d => if d = c then g else σ.2 d)
theorem gw_s1 {X : gX} {σ : gS} {c : Nat} {f : Nat → Int32} (h : c < NC) : (gw X σ).set c (X.2.2.1 c, gE X c f (σ.2 c)) = gw X (s1 σ c f) := by
  apply List.ext_getElem?
  intro k
  by_cases hk : k < NC
  · by_cases hkc : c = k
    · subst hkc
      rw [List.getElem?_set_self (by unfold gw; rw [List.length_map, List.length_range]; exact h), gw_get hk]
      simp [s1]
    · rw [List.getElem?_set_ne hkc, gw_get hk, gw_get hk]
      simp [s1, Ne.symm hkc]
  · rw [List.getElem?_eq_none (by rw [List.length_set]; unfold gw; rw [List.length_map, List.length_range]; omega), List.getElem?_eq_none (by unfold gw; rw [List.length_map, List.length_range]; omega)]
theorem gw_s2 {X : gX} {σ : gS} {c : Nat} {g : Nat → Int64} (h : c < NC) : (gw X σ).set c (X.2.2.1 c, gE X c (σ.1 c) g) = gw X (s2 σ c g) := by
  apply List.ext_getElem?
  intro k
  by_cases hk : k < NC
  · by_cases hkc : c = k
    · subst hkc
      rw [List.getElem?_set_self (by unfold gw; rw [List.length_map, List.length_range]; exact h), gw_get hk]
      simp [s2]
    · rw [List.getElem?_set_ne hkc, gw_get hk, gw_get hk]
      simp [s2, Ne.symm hkc]
  · rw [List.getElem?_eq_none (by rw [List.length_set]; unfold gw; rw [List.length_map, List.length_range]; omega), List.getElem?_eq_none (by unfold gw; rw [List.length_map, List.length_range]; omega)]
theorem ds_lt {c : Nat} (h : (ds c).1 ≠ 9) : c < NC := by
  apply Nat.lt_of_not_le
  intro hc
  apply h
  unfold ds
  rw [List.getD_eq_getElem?_getD, List.getElem?_eq_none (by exact hc)]
  rfl
theorem isO_lt {c ci : Nat} (h : isO c ci) : c < NC := ds_lt (by rw [h.1]; decide)
theorem isI_lt {c n : Nat} (h : isI c n) : c < NC := ds_lt (by rw [h.1]; decide)
theorem isJ_lt {c n : Nat} (h : isJ c n) : c < NC := ds_lt (by rw [h.1]; decide)
theorem isZ_lt {c n : Nat} (h : isZ c n) : c < NC := ds_lt (by rw [h.1]; decide)
theorem gE_O {X : gX} {c ci : Nat} {m : Nat → Int32} {g : Nat → Int64} (h : isO c ci) : gE X c m g = .inr (ci, gF X.2.2.1 m 0 (ds c).2.2) := by
  unfold gE; rw [h.1, h.2]; rfl
theorem gE_I {X : gX} {c n : Nat} {m : Nat → Int32} {g : Nat → Int64} (h : isI c n) : gE X c m g = .inl (X.2.1 0, n, .inl m) := by
  unfold gE; rw [h.1, h.2]; rfl
theorem gE_J {X : gX} {c n : Nat} {m : Nat → Int32} {g : Nat → Int64} (h : isJ c n) : gE X c m g = .inl (X.2.1 1, n, .inr (.inl g)) := by
  unfold gE; rw [h.1, h.2]; rfl
theorem gE_Z {X : gX} {c n : Nat} {m : Nat → Int32} {g : Nat → Int64} (h : isZ c n) : gE X c m g = .inl (X.2.1 2, n, .inl m) := by
  unfold gE; rw [h.1, h.2]; rfl
def gTy (X : gX) : List (ClassId × FieldType) := [(X.2.1 0, .int), (X.2.1 1, .long), (X.2.1 2, .boolean), (X.2.1 3, .object "WaxCloth$Cloth"), (X.2.1 4, .object "WaxCloth$Sheet"), (X.2.1 5, .array .int)]
def gA (X : gX) : Nat → Prop := fun q => ∃ c, c < NC ∧ q = X.2.2.1 c
def gDj (X : gX) : Prop := ∀ i j, i < NC → j < NC → X.2.2.1 i = X.2.2.1 j → i = j
theorem gD {X : gX} (h : gDj X) (σ : gS) : va_D (gA X) (gw X σ) := by
  refine ⟨fun i j x y hi hj hxy => ?_, fun k q hk => ?_⟩
  · obtain ⟨h1, rfl⟩ := gw_of hi
    obtain ⟨h2, rfl⟩ := gw_of hj
    exact h i j h1 h2 hxy
  · obtain ⟨h1, rfl⟩ := gw_of hk
    exact ⟨k, h1, rfl⟩
def abv (j : Nat) : Int32 := match j with
  | 0 => -1 | 1 => 0 | 2 => 1 | 3 => 1 | 4 => 0 | _ => 4
def gZ (X : gX) (U : State) (H : Heap) : Prop := va_Z "WaxCloth$Kind" "ABOVE" "[I" (.ref X.2.2.2) (gA X) U H ∧ va_T .int X.2.2.2 6 (fun j => .int (abv j)) (gA X) U H
def gH (X : gX) (σ : gS) (U : State) : Prop := va_P X.1 vwCl (gw X σ) U.heap ∧ va_K X.1 vwCl (gTy X) U ∧ gDj X ∧ gZ X U U.heap
def gQ (X : gX) (v : Option Value) (σ : gS) : Array Value → State → Outcome → State → Prop := fun _ st o t => (o = .returned v ∧ gH X σ t) ∧ va_F (gA X) st t
def rmd (d : Nat) : Room := { frames := d, cells := 0, slots := 0, locals := 64 * d }
def gCt (l : Launch) (X : gX) (y : MethodName) (w : Cond) (d : Nat) (as : List Value) (σ : gS) (v : Option Value) (σ' : gS) : Prop :=
  Met l y (w :: WS) (rmd d) (va_Pc as (gH X σ)) (gQ X v σ') 0 0 (gA X)
abbrev gM : Type := (Program × Launch × Env × Room × State × MethodId × Array Value × List Frame × Method × Code) × gX × Nat × Option Value × gS
def gAt (G : gM) (pc : Nat) (L : List (Nat × Value)) (st : List Value) (σ : gS) : Prop :=
  match G with
  | ((p, l, e, R, s, m, args, below, meth, c), X, nL, v0, σ0) => ∀ (H : Heap) (locs : List Loc) (ls : Array Slot), lv_has ls nL L → va_P X.1 vwCl (gw X σ) H → va_S (gA X) s.heap H locs → W p l e R s m args below meth c H locs 0 0 (MQ below (gQ X v0 σ0) args s 0 0 (gA X)) (F0 m pc ls st)
def gOk (G : gM) (own : String) (cc : ByteArray) (d : Nat) (rt : Option FieldType) (nL : Nat) : Prop :=
  match G with
  | ((p, l, e, R, s, m, args, below, meth, c), X, nL', v0, σ0) => p.tables.exec = Jvm.exec ∧ c.code = cc ∧ c.maxLocals = nL ∧ nL' = nL ∧ s.vm.findClass own = some m.cls ∧ (∀ w ∈ WS, w.before args s = true) ∧ meth.locks = false ∧ meth.sig.returnType = rt ∧ R = rmd d ∧ va_K X.1 vwCl (gTy X) s ∧ gDj X ∧ gZ X s s.heap
section ROWS
variable {G : gM} {own : String} {cc : ByteArray} {d : Nat} {rt : Option FieldType} {nL : Nat} {pc n : Nat} {L L' : List (Nat × Value)} {st : List Value} {σ : gS}
theorem a_iconst (ho : gOk G own cc d rt nL) {z : Int} {v : Int32} (hd : decode cc pc = .ok (.iconst z, 1)) (hn : pc + 1 = n) (hv : Int32.ofInt z = v) (k : gAt G n L (.int v :: st) σ) : gAt G pc L (st) σ := by
  subst hn; obtain ⟨⟨p, l, e, R, s, m, args, below, meth, c0⟩, X, nL0, v0, σ0⟩ := G; exact fun H locs ls hl hP hS => lv_iconst ho.1 ho.2.1 hd hv (k H locs ls hl hP hS)
theorem a_bipush (ho : gOk G own cc d rt nL) {z : Int} {v : Int32} (hd : decode cc pc = .ok (.bipush z, 2)) (hn : pc + 2 = n) (hv : (Int8.ofInt z).toInt32 = v) (k : gAt G n L (.int v :: st) σ) : gAt G pc L (st) σ := by
  subst hn; obtain ⟨⟨p, l, e, R, s, m, args, below, meth, c0⟩, X, nL0, v0, σ0⟩ := G; exact fun H locs ls hl hP hS => lv_bipush ho.1 ho.2.1 hd hv (k H locs ls hl hP hS)
theorem a_sipush (ho : gOk G own cc d rt nL) {z : Int} {v : Int32} (hd : decode cc pc = .ok (.sipush z, 3)) (hn : pc + 3 = n) (hv : (Int16.ofInt z).toInt32 = v) (k : gAt G n L (.int v :: st) σ) : gAt G pc L (st) σ := by
  subst hn; obtain ⟨⟨p, l, e, R, s, m, args, below, meth, c0⟩, X, nL0, v0, σ0⟩ := G; exact fun H locs ls hl hP hS => lv_sipush ho.1 ho.2.1 hd hv (k H locs ls hl hP hS)
theorem a_lconst (ho : gOk G own cc d rt nL) {z : Fin 2} {v : Int64} (hd : decode cc pc = .ok (.lconst z, 1)) (hn : pc + 1 = n) (hv : Int64.ofNat (z : Nat) = v) (k : gAt G n L (.long v :: st) σ) : gAt G pc L (st) σ := by
  subst hn; obtain ⟨⟨p, l, e, R, s, m, args, below, meth, c0⟩, X, nL0, v0, σ0⟩ := G; exact fun H locs ls hl hP hS => lv_lconst ho.1 ho.2.1 hd hv (k H locs ls hl hP hS)
theorem a_ldc (ho : gOk G own cc d rt nL) {i : Nat} {v : Int32} (hd : decode cc pc = .ok (.ldc i, 2)) (hn : pc + 2 = n) (hv : Cond.constant own i v ∈ WS) (k : gAt G n L (.int v :: st) σ) : gAt G pc L (st) σ := by
  subst hn; obtain ⟨⟨p, l, e, R, s, m, args, below, meth, c0⟩, X, nL0, v0, σ0⟩ := G; exact fun H locs ls hl hP hS => lv_ldc ho.1 ho.2.1 ho.2.2.2.2.1 (ho.2.2.2.2.2.1 _ hv) hd (k H locs ls hl hP hS)
theorem a_ldcw (ho : gOk G own cc d rt nL) {i : Nat} {v : Int32} (hd : decode cc pc = .ok (.ldc_w i, 3)) (hn : pc + 3 = n) (hv : Cond.constant own i v ∈ WS) (k : gAt G n L (.int v :: st) σ) : gAt G pc L (st) σ := by
  subst hn; obtain ⟨⟨p, l, e, R, s, m, args, below, meth, c0⟩, X, nL0, v0, σ0⟩ := G; exact fun H locs ls hl hP hS => lv_ldcw ho.1 ho.2.1 ho.2.2.2.2.1 (ho.2.2.2.2.2.1 _ hv) hd (k H locs ls hl hP hS)
theorem a_ldc2 (ho : gOk G own cc d rt nL) {i : Nat} {v : Int64} (hd : decode cc pc = .ok (.ldc2_w i, 3)) (hn : pc + 3 = n) (hv : Cond.constantLong own i v ∈ WS) (k : gAt G n L (.long v :: st) σ) : gAt G pc L (st) σ := by
  subst hn; obtain ⟨⟨p, l, e, R, s, m, args, below, meth, c0⟩, X, nL0, v0, σ0⟩ := G; exact fun H locs ls hl hP hS => lv_ldc2 ho.1 ho.2.1 ho.2.2.2.2.1 (ho.2.2.2.2.2.1 _ hv) hd (k H locs ls hl hP hS)
theorem a_iload_n (ho : gOk G own cc d rt nL) {w : Fin 4} {i : Nat} {x : Int32} (hd : decode cc pc = .ok (.iload_n w, 1)) (hn : pc + 1 = n) (hi : (w : Nat) = i) (q : Nat) (hq : L[q]? = some (i, .int x)) (k : gAt G n L (.int x :: st) σ) : gAt G pc L (st) σ := by
  subst hn; obtain ⟨⟨p, l, e, R, s, m, args, below, meth, c0⟩, X, nL0, v0, σ0⟩ := G; exact fun H locs ls hl hP hS => lv_iload_n ho.1 ho.2.1 hd hi (lv_at hl q hq) (k H locs ls hl hP hS)
theorem a_iload (ho : gOk G own cc d rt nL) {i : Nat} {x : Int32} (hd : decode cc pc = .ok (.iload i, 2)) (hn : pc + 2 = n) (q : Nat) (hq : L[q]? = some (i, .int x)) (k : gAt G n L (.int x :: st) σ) : gAt G pc L (st) σ := by
  subst hn; obtain ⟨⟨p, l, e, R, s, m, args, below, meth, c0⟩, X, nL0, v0, σ0⟩ := G; exact fun H locs ls hl hP hS => lv_iload ho.1 ho.2.1 hd (lv_at hl q hq) (k H locs ls hl hP hS)
theorem a_lload_n (ho : gOk G own cc d rt nL) {w : Fin 4} {i : Nat} {x : Int64} (hd : decode cc pc = .ok (.lload_n w, 1)) (hn : pc + 1 = n) (hi : (w : Nat) = i) (q : Nat) (hq : L[q]? = some (i, .long x)) (k : gAt G n L (.long x :: st) σ) : gAt G pc L (st) σ := by
  subst hn; obtain ⟨⟨p, l, e, R, s, m, args, below, meth, c0⟩, X, nL0, v0, σ0⟩ := G; exact fun H locs ls hl hP hS => lv_lload_n ho.1 ho.2.1 hd hi (lv_at hl q hq) (k H locs ls hl hP hS)
theorem a_lload (ho : gOk G own cc d rt nL) {i : Nat} {x : Int64} (hd : decode cc pc = .ok (.lload i, 2)) (hn : pc + 2 = n) (q : Nat) (hq : L[q]? = some (i, .long x)) (k : gAt G n L (.long x :: st) σ) : gAt G pc L (st) σ := by
  subst hn; obtain ⟨⟨p, l, e, R, s, m, args, below, meth, c0⟩, X, nL0, v0, σ0⟩ := G; exact fun H locs ls hl hP hS => lv_lload ho.1 ho.2.1 hd (lv_at hl q hq) (k H locs ls hl hP hS)
theorem a_aload_n (ho : gOk G own cc d rt nL) {w : Fin 4} {i : Nat} {x : Nat} (hd : decode cc pc = .ok (.aload_n w, 1)) (hn : pc + 1 = n) (hi : (w : Nat) = i) (q : Nat) (hq : L[q]? = some (i, .ref x)) (k : gAt G n L (.ref x :: st) σ) : gAt G pc L (st) σ := by
  subst hn; obtain ⟨⟨p, l, e, R, s, m, args, below, meth, c0⟩, X, nL0, v0, σ0⟩ := G; exact fun H locs ls hl hP hS => lv_aload_n ho.1 ho.2.1 hd hi (lv_at hl q hq) (k H locs ls hl hP hS)
theorem a_aload (ho : gOk G own cc d rt nL) {i : Nat} {x : Nat} (hd : decode cc pc = .ok (.aload i, 2)) (hn : pc + 2 = n) (q : Nat) (hq : L[q]? = some (i, .ref x)) (k : gAt G n L (.ref x :: st) σ) : gAt G pc L (st) σ := by
  subst hn; obtain ⟨⟨p, l, e, R, s, m, args, below, meth, c0⟩, X, nL0, v0, σ0⟩ := G; exact fun H locs ls hl hP hS => lv_aload ho.1 ho.2.1 hd (lv_at hl q hq) (k H locs ls hl hP hS)
theorem a_istore_n (ho : gOk G own cc d rt nL) {w : Fin 4} {i : Nat} {x : Int32} (hd : decode cc pc = .ok (.istore_n w, 1)) (hn : pc + 1 = n) (hi : (w : Nat) = i) (hb : i < nL) (hL : (i, Value.int x) :: L.filter (fun q => !(q.1 == i) && !(q.1 + 1 == i && q.2.category == 2)) = L') (k : gAt G n L' st σ) : gAt G pc L (.int x :: st) σ := by
  subst hn; obtain ⟨⟨p, l, e, R, s, m, args, below, meth, c0⟩, X, nL0, v0, σ0⟩ := G; exact fun H locs ls hl hP hS => lv_istore_n ho.1 ho.2.1 hd hi hl (by rw [ho.2.2.2.1]; exact hb) hL (fun ls' hl' => k H locs ls' hl' hP hS)
theorem a_istore (ho : gOk G own cc d rt nL) {i : Nat} {x : Int32} (hd : decode cc pc = .ok (.istore i, 2)) (hn : pc + 2 = n) (hb : i < nL) (hL : (i, Value.int x) :: L.filter (fun q => !(q.1 == i) && !(q.1 + 1 == i && q.2.category == 2)) = L') (k : gAt G n L' st σ) : gAt G pc L (.int x :: st) σ := by
  subst hn; obtain ⟨⟨p, l, e, R, s, m, args, below, meth, c0⟩, X, nL0, v0, σ0⟩ := G; exact fun H locs ls hl hP hS => lv_istore ho.1 ho.2.1 hd hl (by rw [ho.2.2.2.1]; exact hb) hL (fun ls' hl' => k H locs ls' hl' hP hS)
theorem a_lstore_n (ho : gOk G own cc d rt nL) {w : Fin 4} {i : Nat} {x : Int64} (hd : decode cc pc = .ok (.lstore_n w, 1)) (hn : pc + 1 = n) (hi : (w : Nat) = i) (hb : i + 1 < nL) (hL : (i, Value.long x) :: L.filter (fun q => !(q.1 == i) && (!(q.1 == i + 1) && !(q.1 + 1 == i && q.2.category == 2))) = L') (k : gAt G n L' st σ) : gAt G pc L (.long x :: st) σ := by
  subst hn; obtain ⟨⟨p, l, e, R, s, m, args, below, meth, c0⟩, X, nL0, v0, σ0⟩ := G; exact fun H locs ls hl hP hS => lv_lstore_n ho.1 ho.2.1 hd hi hl (by rw [ho.2.2.2.1]; exact hb) hL (fun ls' hl' => k H locs ls' hl' hP hS)
theorem a_lstore (ho : gOk G own cc d rt nL) {i : Nat} {x : Int64} (hd : decode cc pc = .ok (.lstore i, 2)) (hn : pc + 2 = n) (hb : i + 1 < nL) (hL : (i, Value.long x) :: L.filter (fun q => !(q.1 == i) && (!(q.1 == i + 1) && !(q.1 + 1 == i && q.2.category == 2))) = L') (k : gAt G n L' st σ) : gAt G pc L (.long x :: st) σ := by
  subst hn; obtain ⟨⟨p, l, e, R, s, m, args, below, meth, c0⟩, X, nL0, v0, σ0⟩ := G; exact fun H locs ls hl hP hS => lv_lstore ho.1 ho.2.1 hd hl (by rw [ho.2.2.2.1]; exact hb) hL (fun ls' hl' => k H locs ls' hl' hP hS)
theorem a_astore_n (ho : gOk G own cc d rt nL) {w : Fin 4} {i : Nat} {x : Nat} (hd : decode cc pc = .ok (.astore_n w, 1)) (hn : pc + 1 = n) (hi : (w : Nat) = i) (hb : i < nL) (hL : (i, Value.ref x) :: L.filter (fun q => !(q.1 == i) && !(q.1 + 1 == i && q.2.category == 2)) = L') (k : gAt G n L' st σ) : gAt G pc L (.ref x :: st) σ := by
  subst hn; obtain ⟨⟨p, l, e, R, s, m, args, below, meth, c0⟩, X, nL0, v0, σ0⟩ := G; exact fun H locs ls hl hP hS => lv_astore_n ho.1 ho.2.1 hd hi hl (by rw [ho.2.2.2.1]; exact hb) hL (fun ls' hl' => k H locs ls' hl' hP hS)
theorem a_astore (ho : gOk G own cc d rt nL) {i : Nat} {x : Nat} (hd : decode cc pc = .ok (.astore i, 2)) (hn : pc + 2 = n) (hb : i < nL) (hL : (i, Value.ref x) :: L.filter (fun q => !(q.1 == i) && !(q.1 + 1 == i && q.2.category == 2)) = L') (k : gAt G n L' st σ) : gAt G pc L (.ref x :: st) σ := by
  subst hn; obtain ⟨⟨p, l, e, R, s, m, args, below, meth, c0⟩, X, nL0, v0, σ0⟩ := G; exact fun H locs ls hl hP hS => lv_astore ho.1 ho.2.1 hd hl (by rw [ho.2.2.2.1]; exact hb) hL (fun ls' hl' => k H locs ls' hl' hP hS)
theorem a_iinc (ho : gOk G own cc d rt nL) {i : Nat} {z : Int} {x v : Int32} (hd : decode cc pc = .ok (.iinc i z, 3)) (hn : pc + 3 = n) (q : Nat) (hq : L[q]? = some (i, .int x)) (hv : x + Int32.ofInt z = v) (hb : i < nL) (hL : (i, Value.int v) :: L.filter (fun q => !(q.1 == i) && !(q.1 + 1 == i && q.2.category == 2)) = L') (k : gAt G n L' st σ) : gAt G pc L st σ := by
  subst hn; obtain ⟨⟨p, l, e, R, s, m, args, below, meth, c0⟩, X, nL0, v0, σ0⟩ := G; exact fun H locs ls hl hP hS => lv_iinc ho.1 ho.2.1 hd hl hq hv (by rw [ho.2.2.2.1]; exact hb) hL (fun ls' hl' => k H locs ls' hl' hP hS)
theorem a_iadd (ho : gOk G own cc d rt nL) {x y : Int32} (hd : decode cc pc = .ok (.iadd, 1)) (hn : pc + 1 = n)  (k : gAt G n L (.int (x + y) :: st) σ) : gAt G pc L (.int y :: .int x :: st) σ := by
  subst hn; obtain ⟨⟨p, l, e, R, s, m, args, below, meth, c0⟩, X, nL0, v0, σ0⟩ := G; exact fun H locs ls hl hP hS => lv_iadd ho.1 ho.2.1 hd (k H locs ls hl hP hS)
theorem a_isub (ho : gOk G own cc d rt nL) {x y : Int32} (hd : decode cc pc = .ok (.isub, 1)) (hn : pc + 1 = n)  (k : gAt G n L (.int (x - y) :: st) σ) : gAt G pc L (.int y :: .int x :: st) σ := by
  subst hn; obtain ⟨⟨p, l, e, R, s, m, args, below, meth, c0⟩, X, nL0, v0, σ0⟩ := G; exact fun H locs ls hl hP hS => lv_isub ho.1 ho.2.1 hd (k H locs ls hl hP hS)
theorem a_imul (ho : gOk G own cc d rt nL) {x y : Int32} (hd : decode cc pc = .ok (.imul, 1)) (hn : pc + 1 = n)  (k : gAt G n L (.int (x * y) :: st) σ) : gAt G pc L (.int y :: .int x :: st) σ := by
  subst hn; obtain ⟨⟨p, l, e, R, s, m, args, below, meth, c0⟩, X, nL0, v0, σ0⟩ := G; exact fun H locs ls hl hP hS => lv_imul ho.1 ho.2.1 hd (k H locs ls hl hP hS)
theorem a_iand (ho : gOk G own cc d rt nL) {x y : Int32} (hd : decode cc pc = .ok (.iand, 1)) (hn : pc + 1 = n)  (k : gAt G n L (.int (x &&& y) :: st) σ) : gAt G pc L (.int y :: .int x :: st) σ := by
  subst hn; obtain ⟨⟨p, l, e, R, s, m, args, below, meth, c0⟩, X, nL0, v0, σ0⟩ := G; exact fun H locs ls hl hP hS => lv_iand ho.1 ho.2.1 hd (k H locs ls hl hP hS)
theorem a_ior (ho : gOk G own cc d rt nL) {x y : Int32} (hd : decode cc pc = .ok (.ior, 1)) (hn : pc + 1 = n)  (k : gAt G n L (.int (x ||| y) :: st) σ) : gAt G pc L (.int y :: .int x :: st) σ := by
  subst hn; obtain ⟨⟨p, l, e, R, s, m, args, below, meth, c0⟩, X, nL0, v0, σ0⟩ := G; exact fun H locs ls hl hP hS => lv_ior ho.1 ho.2.1 hd (k H locs ls hl hP hS)
theorem a_ixor (ho : gOk G own cc d rt nL) {x y : Int32} (hd : decode cc pc = .ok (.ixor, 1)) (hn : pc + 1 = n)  (k : gAt G n L (.int (x ^^^ y) :: st) σ) : gAt G pc L (.int y :: .int x :: st) σ := by
  subst hn; obtain ⟨⟨p, l, e, R, s, m, args, below, meth, c0⟩, X, nL0, v0, σ0⟩ := G; exact fun H locs ls hl hP hS => lv_ixor ho.1 ho.2.1 hd (k H locs ls hl hP hS)
theorem a_ishl (ho : gOk G own cc d rt nL) {x y : Int32} (hd : decode cc pc = .ok (.ishl, 1)) (hn : pc + 1 = n)  (k : gAt G n L (.int (x <<< (y &&& 31)) :: st) σ) : gAt G pc L (.int y :: .int x :: st) σ := by
  subst hn; obtain ⟨⟨p, l, e, R, s, m, args, below, meth, c0⟩, X, nL0, v0, σ0⟩ := G; exact fun H locs ls hl hP hS => lv_ishl ho.1 ho.2.1 hd (k H locs ls hl hP hS)
theorem a_ishr (ho : gOk G own cc d rt nL) {x y : Int32} (hd : decode cc pc = .ok (.ishr, 1)) (hn : pc + 1 = n)  (k : gAt G n L (.int (x >>> (y &&& 31)) :: st) σ) : gAt G pc L (.int y :: .int x :: st) σ := by
  subst hn; obtain ⟨⟨p, l, e, R, s, m, args, below, meth, c0⟩, X, nL0, v0, σ0⟩ := G; exact fun H locs ls hl hP hS => lv_ishr ho.1 ho.2.1 hd (k H locs ls hl hP hS)
theorem a_iushr (ho : gOk G own cc d rt nL) {x y : Int32} (hd : decode cc pc = .ok (.iushr, 1)) (hn : pc + 1 = n)  (k : gAt G n L (.int ((x.toUInt32 >>> (y.toUInt32 &&& Int32.toUInt32 31)).toInt32) :: st) σ) : gAt G pc L (.int y :: .int x :: st) σ := by
  subst hn; obtain ⟨⟨p, l, e, R, s, m, args, below, meth, c0⟩, X, nL0, v0, σ0⟩ := G; exact fun H locs ls hl hP hS => lv_iushr ho.1 ho.2.1 hd rfl (k H locs ls hl hP hS)
theorem a_ineg (ho : gOk G own cc d rt nL) {x : Int32} (hd : decode cc pc = .ok (.ineg, 1)) (hn : pc + 1 = n)  (k : gAt G n L (.int (-x) :: st) σ) : gAt G pc L (.int x :: st) σ := by
  subst hn; obtain ⟨⟨p, l, e, R, s, m, args, below, meth, c0⟩, X, nL0, v0, σ0⟩ := G; exact fun H locs ls hl hP hS => lv_ineg ho.1 ho.2.1 hd (k H locs ls hl hP hS)
theorem a_idiv (ho : gOk G own cc d rt nL) {x y : Int32} (hd : decode cc pc = .ok (.idiv, 1)) (hn : pc + 1 = n) (hne : ¬ y = 0) (k : gAt G n L (.int (x / y) :: st) σ) : gAt G pc L (.int y :: .int x :: st) σ := by
  subst hn; obtain ⟨⟨p, l, e, R, s, m, args, below, meth, c0⟩, X, nL0, v0, σ0⟩ := G; exact fun H locs ls hl hP hS => lv_idiv ho.1 ho.2.1 hd hne (k H locs ls hl hP hS)
theorem a_irem (ho : gOk G own cc d rt nL) {x y : Int32} (hd : decode cc pc = .ok (.irem, 1)) (hn : pc + 1 = n) (hne : ¬ y = 0) (k : gAt G n L (.int (x - x / y * y) :: st) σ) : gAt G pc L (.int y :: .int x :: st) σ := by
  subst hn; obtain ⟨⟨p, l, e, R, s, m, args, below, meth, c0⟩, X, nL0, v0, σ0⟩ := G; exact fun H locs ls hl hP hS => lv_irem ho.1 ho.2.1 hd hne (k H locs ls hl hP hS)
theorem a_ladd (ho : gOk G own cc d rt nL) {x y : Int64} (hd : decode cc pc = .ok (.ladd, 1)) (hn : pc + 1 = n)  (k : gAt G n L (.long (x + y) :: st) σ) : gAt G pc L (.long y :: .long x :: st) σ := by
  subst hn; obtain ⟨⟨p, l, e, R, s, m, args, below, meth, c0⟩, X, nL0, v0, σ0⟩ := G; exact fun H locs ls hl hP hS => lv_ladd ho.1 ho.2.1 hd (k H locs ls hl hP hS)
theorem a_lmul (ho : gOk G own cc d rt nL) {x y : Int64} (hd : decode cc pc = .ok (.lmul, 1)) (hn : pc + 1 = n)  (k : gAt G n L (.long (x * y) :: st) σ) : gAt G pc L (.long y :: .long x :: st) σ := by
  subst hn; obtain ⟨⟨p, l, e, R, s, m, args, below, meth, c0⟩, X, nL0, v0, σ0⟩ := G; exact fun H locs ls hl hP hS => lv_lmul ho.1 ho.2.1 hd (k H locs ls hl hP hS)
theorem a_land (ho : gOk G own cc d rt nL) {x y : Int64} (hd : decode cc pc = .ok (.land, 1)) (hn : pc + 1 = n)  (k : gAt G n L (.long (x &&& y) :: st) σ) : gAt G pc L (.long y :: .long x :: st) σ := by
  subst hn; obtain ⟨⟨p, l, e, R, s, m, args, below, meth, c0⟩, X, nL0, v0, σ0⟩ := G; exact fun H locs ls hl hP hS => lv_land ho.1 ho.2.1 hd (k H locs ls hl hP hS)
theorem a_lor (ho : gOk G own cc d rt nL) {x y : Int64} (hd : decode cc pc = .ok (.lor, 1)) (hn : pc + 1 = n)  (k : gAt G n L (.long (x ||| y) :: st) σ) : gAt G pc L (.long y :: .long x :: st) σ := by
  subst hn; obtain ⟨⟨p, l, e, R, s, m, args, below, meth, c0⟩, X, nL0, v0, σ0⟩ := G; exact fun H locs ls hl hP hS => lv_lor ho.1 ho.2.1 hd (k H locs ls hl hP hS)
theorem a_ldiv (ho : gOk G own cc d rt nL) {x y : Int64} (hd : decode cc pc = .ok (.ldiv, 1)) (hn : pc + 1 = n) (hne : ¬ y = 0) (k : gAt G n L (.long (x / y) :: st) σ) : gAt G pc L (.long y :: .long x :: st) σ := by
  subst hn; obtain ⟨⟨p, l, e, R, s, m, args, below, meth, c0⟩, X, nL0, v0, σ0⟩ := G; exact fun H locs ls hl hP hS => lv_ldiv ho.1 ho.2.1 hd hne (k H locs ls hl hP hS)
theorem a_lrem (ho : gOk G own cc d rt nL) {x y : Int64} (hd : decode cc pc = .ok (.lrem, 1)) (hn : pc + 1 = n) (hne : ¬ y = 0) (k : gAt G n L (.long (x - x / y * y) :: st) σ) : gAt G pc L (.long y :: .long x :: st) σ := by
  subst hn; obtain ⟨⟨p, l, e, R, s, m, args, below, meth, c0⟩, X, nL0, v0, σ0⟩ := G; exact fun H locs ls hl hP hS => lv_lrem ho.1 ho.2.1 hd hne (k H locs ls hl hP hS)
theorem a_lshl (ho : gOk G own cc d rt nL) {x : Int64} {y : Int32} (hd : decode cc pc = .ok (.lshl, 1)) (hn : pc + 1 = n)  (k : gAt G n L (.long (x <<< (y.toInt64 &&& 63)) :: st) σ) : gAt G pc L (.int y :: .long x :: st) σ := by
  subst hn; obtain ⟨⟨p, l, e, R, s, m, args, below, meth, c0⟩, X, nL0, v0, σ0⟩ := G; exact fun H locs ls hl hP hS => lv_lshl ho.1 ho.2.1 hd rfl (k H locs ls hl hP hS)
theorem a_lcmp (ho : gOk G own cc d rt nL) {x y : Int64} (hd : decode cc pc = .ok (.lcmp, 1)) (hn : pc + 1 = n)  (k : gAt G n L (.int (lg_cmp x y) :: st) σ) : gAt G pc L (.long y :: .long x :: st) σ := by
  subst hn; obtain ⟨⟨p, l, e, R, s, m, args, below, meth, c0⟩, X, nL0, v0, σ0⟩ := G; exact fun H locs ls hl hP hS => W.lcmp ho.1 ho.2.1 hd (k H locs ls hl hP hS)
theorem a_i2l (ho : gOk G own cc d rt nL) {x : Int32} (hd : decode cc pc = .ok (.i2l, 1)) (hn : pc + 1 = n)  (k : gAt G n L (.long x.toInt64 :: st) σ) : gAt G pc L (.int x :: st) σ := by
  subst hn; obtain ⟨⟨p, l, e, R, s, m, args, below, meth, c0⟩, X, nL0, v0, σ0⟩ := G; exact fun H locs ls hl hP hS => lv_i2l ho.1 ho.2.1 hd rfl (k H locs ls hl hP hS)
theorem a_l2i (ho : gOk G own cc d rt nL) {x : Int64} (hd : decode cc pc = .ok (.l2i, 1)) (hn : pc + 1 = n)  (k : gAt G n L (.int x.toInt32 :: st) σ) : gAt G pc L (.long x :: st) σ := by
  subst hn; obtain ⟨⟨p, l, e, R, s, m, args, below, meth, c0⟩, X, nL0, v0, σ0⟩ := G; exact fun H locs ls hl hP hS => lv_l2i ho.1 ho.2.1 hd rfl (k H locs ls hl hP hS)
theorem a_i2b (ho : gOk G own cc d rt nL) {x : Int32} (hd : decode cc pc = .ok (.i2b, 1)) (hn : pc + 1 = n)  (k : gAt G n L (.int x.toInt8.toInt32 :: st) σ) : gAt G pc L (.int x :: st) σ := by
  subst hn; obtain ⟨⟨p, l, e, R, s, m, args, below, meth, c0⟩, X, nL0, v0, σ0⟩ := G; exact fun H locs ls hl hP hS => lv_i2b ho.1 ho.2.1 hd rfl (k H locs ls hl hP hS)
theorem a_i2s (ho : gOk G own cc d rt nL) {x : Int32} (hd : decode cc pc = .ok (.i2s, 1)) (hn : pc + 1 = n)  (k : gAt G n L (.int x.toInt16.toInt32 :: st) σ) : gAt G pc L (.int x :: st) σ := by
  subst hn; obtain ⟨⟨p, l, e, R, s, m, args, below, meth, c0⟩, X, nL0, v0, σ0⟩ := G; exact fun H locs ls hl hP hS => lv_i2s ho.1 ho.2.1 hd rfl (k H locs ls hl hP hS)
theorem a_dup (ho : gOk G own cc d rt nL) {v : Value} (hd : decode cc pc = .ok (.dup, 1)) (hn : pc + 1 = n) (hv : v.category = 1) (k : gAt G n L (v :: v :: st) σ) : gAt G pc L (v :: st) σ := by
  subst hn; obtain ⟨⟨p, l, e, R, s, m, args, below, meth, c0⟩, X, nL0, v0, σ0⟩ := G; exact fun H locs ls hl hP hS => lv_dup ho.1 ho.2.1 hd hv (k H locs ls hl hP hS)
theorem a_pop (ho : gOk G own cc d rt nL) {v : Value} (hd : decode cc pc = .ok (.pop, 1)) (hn : pc + 1 = n) (hv : v.category = 1) (k : gAt G n L (st) σ) : gAt G pc L (v :: st) σ := by
  subst hn; obtain ⟨⟨p, l, e, R, s, m, args, below, meth, c0⟩, X, nL0, v0, σ0⟩ := G; exact fun H locs ls hl hP hS => lv_pop ho.1 ho.2.1 hd hv (k H locs ls hl hP hS)
theorem a_dup_x1 (ho : gOk G own cc d rt nL) {v w : Value} (hd : decode cc pc = .ok (.dup_x1, 1)) (hn : pc + 1 = n) (hv : v.category = 1) (hw : w.category = 1) (k : gAt G n L (v :: w :: v :: st) σ) : gAt G pc L (v :: w :: st) σ := by
  subst hn; obtain ⟨⟨p, l, e, R, s, m, args, below, meth, c0⟩, X, nL0, v0, σ0⟩ := G; exact fun H locs ls hl hP hS => lv_dup_x1 ho.1 ho.2.1 hd hv hw (k H locs ls hl hP hS)
theorem a_dup2 (ho : gOk G own cc d rt nL) {v w : Value} (hd : decode cc pc = .ok (.dup2, 1)) (hn : pc + 1 = n) (hv : v.category = 1) (hw : w.category = 1) (k : gAt G n L (v :: w :: v :: w :: st) σ) : gAt G pc L (v :: w :: st) σ := by
  subst hn; obtain ⟨⟨p, l, e, R, s, m, args, below, meth, c0⟩, X, nL0, v0, σ0⟩ := G; exact fun H locs ls hl hP hS => lv_dup2_11 ho.1 ho.2.1 hd hv hw (k H locs ls hl hP hS)
theorem a_pop2 (ho : gOk G own cc d rt nL) {v : Value} (hd : decode cc pc = .ok (.pop2, 1)) (hn : pc + 1 = n) (hv : v.category = 2) (k : gAt G n L (st) σ) : gAt G pc L (v :: st) σ := by
  subst hn; obtain ⟨⟨p, l, e, R, s, m, args, below, meth, c0⟩, X, nL0, v0, σ0⟩ := G; exact fun H locs ls hl hP hS => lv_pop2_2 ho.1 ho.2.1 hd hv (k H locs ls hl hP hS)
theorem a_if_eq (ho : gOk G own cc d rt nL) {x : Int32} {off : Int} {tgt : Nat} (hd : decode cc pc = .ok (.ifCond .eq off, 3)) (ht : (pc : Int) + off = (tgt : Int)) (hn : pc + 3 = n) (kt : x = 0 → gAt G tgt L st σ) (kf : ¬ x = 0 → gAt G n L st σ) : gAt G pc L (.int x :: st) σ := by
  subst hn; obtain ⟨⟨p, l, e, R, s, m, args, below, meth, c0⟩, X, nL0, v0, σ0⟩ := G; exact fun H locs ls hl hP hS => lv_if_eq ho.1 ho.2.1 hd ht (fun q => kt q H locs ls hl hP hS) (fun q => kf q H locs ls hl hP hS)
theorem a_icmp_eq (ho : gOk G own cc d rt nL) {x y : Int32} {off : Int} {tgt : Nat} (hd : decode cc pc = .ok (.if_icmp .eq off, 3)) (ht : (pc : Int) + off = (tgt : Int)) (hn : pc + 3 = n) (kt : x = y → gAt G tgt L st σ) (kf : ¬ x = y → gAt G n L st σ) : gAt G pc L (.int y :: .int x :: st) σ := by
  subst hn; obtain ⟨⟨p, l, e, R, s, m, args, below, meth, c0⟩, X, nL0, v0, σ0⟩ := G; exact fun H locs ls hl hP hS => lv_icmp_eq ho.1 ho.2.1 hd ht (fun q => kt q H locs ls hl hP hS) (fun q => kf q H locs ls hl hP hS)
theorem a_if_ne (ho : gOk G own cc d rt nL) {x : Int32} {off : Int} {tgt : Nat} (hd : decode cc pc = .ok (.ifCond .ne off, 3)) (ht : (pc : Int) + off = (tgt : Int)) (hn : pc + 3 = n) (kt : ¬ x = 0 → gAt G tgt L st σ) (kf : x = 0 → gAt G n L st σ) : gAt G pc L (.int x :: st) σ := by
  subst hn; obtain ⟨⟨p, l, e, R, s, m, args, below, meth, c0⟩, X, nL0, v0, σ0⟩ := G; exact fun H locs ls hl hP hS => lv_if_ne ho.1 ho.2.1 hd ht (fun q => kt q H locs ls hl hP hS) (fun q => kf q H locs ls hl hP hS)
theorem a_icmp_ne (ho : gOk G own cc d rt nL) {x y : Int32} {off : Int} {tgt : Nat} (hd : decode cc pc = .ok (.if_icmp .ne off, 3)) (ht : (pc : Int) + off = (tgt : Int)) (hn : pc + 3 = n) (kt : ¬ x = y → gAt G tgt L st σ) (kf : x = y → gAt G n L st σ) : gAt G pc L (.int y :: .int x :: st) σ := by
  subst hn; obtain ⟨⟨p, l, e, R, s, m, args, below, meth, c0⟩, X, nL0, v0, σ0⟩ := G; exact fun H locs ls hl hP hS => lv_icmp_ne ho.1 ho.2.1 hd ht (fun q => kt q H locs ls hl hP hS) (fun q => kf q H locs ls hl hP hS)
theorem a_if_lt (ho : gOk G own cc d rt nL) {x : Int32} {off : Int} {tgt : Nat} (hd : decode cc pc = .ok (.ifCond .lt off, 3)) (ht : (pc : Int) + off = (tgt : Int)) (hn : pc + 3 = n) (kt : x < 0 → gAt G tgt L st σ) (kf : ¬ x < 0 → gAt G n L st σ) : gAt G pc L (.int x :: st) σ := by
  subst hn; obtain ⟨⟨p, l, e, R, s, m, args, below, meth, c0⟩, X, nL0, v0, σ0⟩ := G; exact fun H locs ls hl hP hS => lv_if_lt ho.1 ho.2.1 hd ht (fun q => kt q H locs ls hl hP hS) (fun q => kf q H locs ls hl hP hS)
theorem a_icmp_lt (ho : gOk G own cc d rt nL) {x y : Int32} {off : Int} {tgt : Nat} (hd : decode cc pc = .ok (.if_icmp .lt off, 3)) (ht : (pc : Int) + off = (tgt : Int)) (hn : pc + 3 = n) (kt : x < y → gAt G tgt L st σ) (kf : ¬ x < y → gAt G n L st σ) : gAt G pc L (.int y :: .int x :: st) σ := by
  subst hn; obtain ⟨⟨p, l, e, R, s, m, args, below, meth, c0⟩, X, nL0, v0, σ0⟩ := G; exact fun H locs ls hl hP hS => lv_icmp_lt ho.1 ho.2.1 hd ht (fun q => kt q H locs ls hl hP hS) (fun q => kf q H locs ls hl hP hS)
theorem a_if_ge (ho : gOk G own cc d rt nL) {x : Int32} {off : Int} {tgt : Nat} (hd : decode cc pc = .ok (.ifCond .ge off, 3)) (ht : (pc : Int) + off = (tgt : Int)) (hn : pc + 3 = n) (kt : 0 ≤ x → gAt G tgt L st σ) (kf : ¬ 0 ≤ x → gAt G n L st σ) : gAt G pc L (.int x :: st) σ := by
  subst hn; obtain ⟨⟨p, l, e, R, s, m, args, below, meth, c0⟩, X, nL0, v0, σ0⟩ := G; exact fun H locs ls hl hP hS => lv_if_ge ho.1 ho.2.1 hd ht (fun q => kt q H locs ls hl hP hS) (fun q => kf q H locs ls hl hP hS)
theorem a_icmp_ge (ho : gOk G own cc d rt nL) {x y : Int32} {off : Int} {tgt : Nat} (hd : decode cc pc = .ok (.if_icmp .ge off, 3)) (ht : (pc : Int) + off = (tgt : Int)) (hn : pc + 3 = n) (kt : y ≤ x → gAt G tgt L st σ) (kf : ¬ y ≤ x → gAt G n L st σ) : gAt G pc L (.int y :: .int x :: st) σ := by
  subst hn; obtain ⟨⟨p, l, e, R, s, m, args, below, meth, c0⟩, X, nL0, v0, σ0⟩ := G; exact fun H locs ls hl hP hS => lv_icmp_ge ho.1 ho.2.1 hd ht (fun q => kt q H locs ls hl hP hS) (fun q => kf q H locs ls hl hP hS)
theorem a_if_gt (ho : gOk G own cc d rt nL) {x : Int32} {off : Int} {tgt : Nat} (hd : decode cc pc = .ok (.ifCond .gt off, 3)) (ht : (pc : Int) + off = (tgt : Int)) (hn : pc + 3 = n) (kt : 0 < x → gAt G tgt L st σ) (kf : ¬ 0 < x → gAt G n L st σ) : gAt G pc L (.int x :: st) σ := by
  subst hn; obtain ⟨⟨p, l, e, R, s, m, args, below, meth, c0⟩, X, nL0, v0, σ0⟩ := G; exact fun H locs ls hl hP hS => lv_if_gt ho.1 ho.2.1 hd ht (fun q => kt q H locs ls hl hP hS) (fun q => kf q H locs ls hl hP hS)
theorem a_icmp_gt (ho : gOk G own cc d rt nL) {x y : Int32} {off : Int} {tgt : Nat} (hd : decode cc pc = .ok (.if_icmp .gt off, 3)) (ht : (pc : Int) + off = (tgt : Int)) (hn : pc + 3 = n) (kt : y < x → gAt G tgt L st σ) (kf : ¬ y < x → gAt G n L st σ) : gAt G pc L (.int y :: .int x :: st) σ := by
  subst hn; obtain ⟨⟨p, l, e, R, s, m, args, below, meth, c0⟩, X, nL0, v0, σ0⟩ := G; exact fun H locs ls hl hP hS => lv_icmp_gt ho.1 ho.2.1 hd ht (fun q => kt q H locs ls hl hP hS) (fun q => kf q H locs ls hl hP hS)
theorem a_if_le (ho : gOk G own cc d rt nL) {x : Int32} {off : Int} {tgt : Nat} (hd : decode cc pc = .ok (.ifCond .le off, 3)) (ht : (pc : Int) + off = (tgt : Int)) (hn : pc + 3 = n) (kt : x ≤ 0 → gAt G tgt L st σ) (kf : ¬ x ≤ 0 → gAt G n L st σ) : gAt G pc L (.int x :: st) σ := by
  subst hn; obtain ⟨⟨p, l, e, R, s, m, args, below, meth, c0⟩, X, nL0, v0, σ0⟩ := G; exact fun H locs ls hl hP hS => lv_if_le ho.1 ho.2.1 hd ht (fun q => kt q H locs ls hl hP hS) (fun q => kf q H locs ls hl hP hS)
theorem a_icmp_le (ho : gOk G own cc d rt nL) {x y : Int32} {off : Int} {tgt : Nat} (hd : decode cc pc = .ok (.if_icmp .le off, 3)) (ht : (pc : Int) + off = (tgt : Int)) (hn : pc + 3 = n) (kt : x ≤ y → gAt G tgt L st σ) (kf : ¬ x ≤ y → gAt G n L st σ) : gAt G pc L (.int y :: .int x :: st) σ := by
  subst hn; obtain ⟨⟨p, l, e, R, s, m, args, below, meth, c0⟩, X, nL0, v0, σ0⟩ := G; exact fun H locs ls hl hP hS => lv_icmp_le ho.1 ho.2.1 hd ht (fun q => kt q H locs ls hl hP hS) (fun q => kf q H locs ls hl hP hS)
theorem a_goto (ho : gOk G own cc d rt nL) {off : Int} {tgt : Nat} (hd : decode cc pc = .ok (.goto off, 3)) (ht : (pc : Int) + off = (tgt : Int)) (k : gAt G tgt L st σ) : gAt G pc L st σ := by
  obtain ⟨⟨p, l, e, R, s, m, args, below, meth, c0⟩, X, nL0, v0, σ0⟩ := G; exact fun H locs ls hl hP hS => lv_goto ho.1 ho.2.1 hd ht (k H locs ls hl hP hS)
theorem a_tin (ho : gOk G own cc d rt nL) {x : Int32} {dflt lo hi : Int} {offs : Array Int} {len : Nat} {off : Int} {tgt : Nat} (v : Int32) (hx : x = v) (hd : decode cc pc = .ok (.tableswitch dflt lo hi offs, len)) (h1 : ¬ v.toInt < lo) (h2 : ¬ hi < v.toInt) (hof : offs[(v.toInt - lo).toNat]? = some off) (ht : (pc : Int) + off = (tgt : Int)) (k : gAt G tgt L st σ) : gAt G pc L (.int x :: st) σ := by
  subst hx; obtain ⟨⟨p, l, e, R, s, m, args, below, meth, c0⟩, X, nL0, v0, σ0⟩ := G; exact fun H locs ls hl hP hS => lv_tableIn ho.1 ho.2.1 hd h1 h2 hof ht (k H locs ls hl hP hS)
theorem a_tout (ho : gOk G own cc d rt nL) {x : Int32} {dflt lo hi : Int} {offs : Array Int} {len : Nat} {tgt : Nat} (h : x.toInt < lo ∨ hi < x.toInt) (hd : decode cc pc = .ok (.tableswitch dflt lo hi offs, len)) (ht : (pc : Int) + dflt = (tgt : Int)) (k : gAt G tgt L st σ) : gAt G pc L (.int x :: st) σ := by
  obtain ⟨⟨p, l, e, R, s, m, args, below, meth, c0⟩, X, nL0, v0, σ0⟩ := G; exact fun H locs ls hl hP hS => lv_tableOut ho.1 ho.2.1 hd h ht (k H locs ls hl hP hS)
theorem a_look (ho : gOk G own cc d rt nL) {x : Int32} {dflt : Int} {ps : Array (Int × Int)} {len : Nat} {off : Int} {tgt : Nat} (hd : decode cc pc = .ok (.lookupswitch dflt ps, len)) (hp : (ps.toList.zip (ps.toList.drop 1)).all (fun (a, next) => a.1 < next.1) = true) (hof : Op.lookupswitch.offset ps.toList dflt x.toInt = off) (ht : (pc : Int) + off = (tgt : Int)) (k : gAt G tgt L st σ) : gAt G pc L (.int x :: st) σ := by
  obtain ⟨⟨p, l, e, R, s, m, args, below, meth, c0⟩, X, nL0, v0, σ0⟩ := G; exact fun H locs ls hl hP hS => lv_lookup ho.1 ho.2.1 hd hp hof ht (k H locs ls hl hP hS)
end ROWS
def sI (σ : gS) (c k : Nat) (v : Int32) : gS := s1 σ c (upd (σ.1 c) k v)
def sJ (σ : gS) (c k : Nat) (v : Int64) : gS := s2 σ c (vp_updL (σ.2 c) k v)
def cI (σ : gS) (c : Nat) (i : Int32) (c1 : Nat) (j n : Int32) : gS := s1 σ c1 (va_cpy (σ.1 c) (σ.1 c1) i.toNatClampNeg j.toNatClampNeg n.toNatClampNeg)
def cJ (σ : gS) (c : Nat) (i : Int32) (c1 : Nat) (j n : Int32) : gS := s2 σ c1 (va_cpy (σ.2 c) (σ.2 c1) i.toNatClampNeg j.toNatClampNeg n.toNatClampNeg)
section MEM
variable {G : gM} {own : String} {cc : ByteArray} {d : Nat} {rt : Option FieldType} {nL : Nat} {pc n : Nat} {L L' : List (Nat × Value)} {st : List Value} {σ : gS}
abbrev gl (G : gM) : Launch := G.1.2.1
abbrev gXX (G : gM) : gX := G.2.1
abbrev gad (G : gM) : Nat → Nat := G.2.1.2.2.1
abbrev gv0 (G : gM) : Option Value := G.2.2.2.1
abbrev gs0 (G : gM) : gS := G.2.2.2.2
theorem a_sub (ks : List Nat) (hL : lv_pick L ks = L') (k : gAt G pc L' st σ) : gAt G pc L st σ := by
  obtain ⟨⟨p, l, e, R, s, m, args, below, meth, c0⟩, X, nL0, v0, σ0⟩ := G
  exact fun H locs ls hl hP hS => k H locs ls (lv_sub hl ks hL) hP hS
def gFl (own : String) (idx ci k : Nat) : Prop := ∃ (C : String) (T : u_T) (N : Nat), vwCl[ci]? = some (C, T, N) ∧ k < N ∧ (∀ w ∈ u_ws C T N, w ∈ WS) ∧ Cond.fieldLink own idx (T k).1 (T k).2.1 (T k).2.2.1 ∈ WS
def gFp (own : String) (idx ci k : Nat) : Prop := ∃ (C : String) (T : u_T) (N : Nat) (ty : Nat → FieldType), vwCl[ci]? = some (C, T, N) ∧ k < N ∧ (∀ w ∈ u_ws C T N, w ∈ WS) ∧ Cond.fieldLink own idx (T k).1 (T k).2.1 (T k).2.2.1 ∈ WS ∧ (∀ k, k < N → parseFieldDescriptor (T k).2.2.1 = some (ty k)) ∧ (∀ a, a < N → ∀ b, b < N → a ≠ b → (T a).2.1 ≠ (T b).2.1) ∧ (T k).2.2.2 = false ∧ ty k = .int
theorem a_getI (ho : gOk G own cc d rt nL) {c ci idx k : Nat} (hF : gFl own idx ci k) (hO : isO c ci) (hf : (ds c).2.2[k]? = some none) (hd : decode cc pc = .ok (.getfield idx, 3)) (hn : pc + 3 = n) (kk : gAt G n L (.int (σ.1 c k) :: st) σ) : gAt G pc L (.ref (gad G c) :: st) σ := by
  subst hn; obtain ⟨⟨p, l, e, R, s, m, args, below, meth, c0⟩, X, nL0, v0, σ0⟩ := G
  obtain ⟨C, T, N, hcl, hk, hin, hlk⟩ := hF
  intro H locs ls hl hP hS
  have he := gw_get (X := X) (σ := σ) (isO_lt hO)
  rw [gE_O hO] at he
  have hv := gF_int (ad := X.2.2.1) (m := σ.1 c) _ 0 k hf
  rw [Nat.zero_add] at hv
  exact va_get (D := X.1) ho.1 ho.2.1 ho.2.2.2.2.2.1 hin ho.2.2.2.2.1 ho.2.2.2.2.2.2.2.2.2.1 hP c he hcl k hk (ho.2.2.2.2.2.1 _ hlk) (fun _ h9 => h9) hv hd (kk H locs ls hl hP hS)
theorem a_getR (ho : gOk G own cc d rt nL) {c ci idx k q : Nat} (hF : gFl own idx ci k) (hO : isO c ci) (hf : (ds c).2.2[k]? = some (some q)) (hd : decode cc pc = .ok (.getfield idx, 3)) (hn : pc + 3 = n) (kk : gAt G n L (.ref (gad G q) :: st) σ) : gAt G pc L (.ref (gad G c) :: st) σ := by
  subst hn; obtain ⟨⟨p, l, e, R, s, m, args, below, meth, c0⟩, X, nL0, v0, σ0⟩ := G
  obtain ⟨C, T, N, hcl, hk, hin, hlk⟩ := hF
  intro H locs ls hl hP hS
  have he := gw_get (X := X) (σ := σ) (isO_lt hO)
  rw [gE_O hO] at he
  exact va_get (D := X.1) ho.1 ho.2.1 ho.2.2.2.2.2.1 hin ho.2.2.2.2.1 ho.2.2.2.2.2.2.2.2.2.1 hP c he hcl k hk (ho.2.2.2.2.2.1 _ hlk) (fun _ h9 => h9) (gF_ref _ 0 k hf) hd (kk H locs ls hl hP hS)
theorem a_putI (ho : gOk G own cc d rt nL) {c ci idx k : Nat} {v : Int32} (hF : gFp own idx ci k) (hO : isO c ci) (hf : (ds c).2.2[k]? = some none) (hd : decode cc pc = .ok (.putfield idx, 3)) (hn : pc + 3 = n) (kk : gAt G n L st (sI σ c k v)) : gAt G pc L (.int v :: .ref (gad G c) :: st) σ := by
  subst hn; obtain ⟨⟨p, l, e, R, s, m, args, below, meth, c0⟩, X, nL0, v0, σ0⟩ := G
  obtain ⟨C, T, N, ty, hcl, hk, hin, hlk, hty, hnm, hfin, ht⟩ := hF
  intro H locs ls hl hP hS
  have he := gw_get (X := X) (σ := σ) (isO_lt hO)
  rw [gE_O hO] at he
  have hlen : k < (gF X.2.2.1 (σ.1 c) 0 (ds c).2.2).length := by rw [gF_len]; exact (List.getElem?_eq_some_iff.mp hf).1
  refine va_put (D := X.1) (ty := .int) ho.1 ho.2.1 ho.2.2.2.2.2.1 hin ty hty hnm ho.2.2.2.2.1 ho.2.2.2.2.2.2.2.2.2.1 hP (gD ho.2.2.2.2.2.2.2.2.2.2.1 σ) hS c he hcl k hk (ho.2.2.2.2.2.1 _ hlk) (fun _ h9 => h9) hfin (by rw [hty k hk, ht]) rfl rfl hlen hd (fun H1 locs1 hP1 _ hS1 => ?_)
  refine kk H1 locs1 ls hl ?_ hS1
  have e1 := gF_set (ad := X.2.2.1) (m := σ.1 c) (v := v) _ 0 k hf
  rw [Nat.zero_add] at e1
  rw [e1, ← gE_O (X := X) (m := upd (σ.1 c) k v) (g := σ.2 c) hO, gw_s1 (isO_lt hO)] at hP1
  exact hP1
theorem a_iald (ho : gOk G own cc d rt nL) {c N : Nat} {i : Int32} (hI : isI c N) (hr : inR i N) (hd : decode cc pc = .ok (.iaload, 1)) (hn : pc + 1 = n) (kk : gAt G n L (.int (σ.1 c i.toNatClampNeg) :: st) σ) : gAt G pc L (.int i :: .ref (gad G c) :: st) σ := by
  subst hn; obtain ⟨⟨p, l, e, R, s, m, args, below, meth, c0⟩, X, nL0, v0, σ0⟩ := G
  intro H locs ls hl hP hS
  have he := gw_get (X := X) (σ := σ) (isI_lt hI)
  rw [gE_I hI] at he
  exact va_iald (D := X.1) ho.1 ho.2.1 ho.2.2.2.2.2.2.2.2.2.1 hP c 0 he rfl hr hd (kk H locs ls hl hP hS)
theorem a_zald (ho : gOk G own cc d rt nL) {c N : Nat} {i : Int32} (hI : isZ c N) (hr : inR i N) (hd : decode cc pc = .ok (.baload, 1)) (hn : pc + 1 = n) (kk : gAt G n L (.int (σ.1 c i.toNatClampNeg) :: st) σ) : gAt G pc L (.int i :: .ref (gad G c) :: st) σ := by
  subst hn; obtain ⟨⟨p, l, e, R, s, m, args, below, meth, c0⟩, X, nL0, v0, σ0⟩ := G
  intro H locs ls hl hP hS
  have he := gw_get (X := X) (σ := σ) (isZ_lt hI)
  rw [gE_Z hI] at he
  exact va_zald (D := X.1) ho.1 ho.2.1 ho.2.2.2.2.2.2.2.2.2.1 hP c 2 he rfl hr hd (kk H locs ls hl hP hS)
theorem a_lald (ho : gOk G own cc d rt nL) {c N : Nat} {i : Int32} (hI : isJ c N) (hr : inR i N) (hd : decode cc pc = .ok (.laload, 1)) (hn : pc + 1 = n) (kk : gAt G n L (.long (σ.2 c i.toNatClampNeg) :: st) σ) : gAt G pc L (.int i :: .ref (gad G c) :: st) σ := by
  subst hn; obtain ⟨⟨p, l, e, R, s, m, args, below, meth, c0⟩, X, nL0, v0, σ0⟩ := G
  intro H locs ls hl hP hS
  have he := gw_get (X := X) (σ := σ) (isJ_lt hI)
  rw [gE_J hI] at he
  exact va_lald (D := X.1) ho.1 ho.2.1 ho.2.2.2.2.2.2.2.2.2.1 hP c 1 he rfl hr hd (kk H locs ls hl hP hS)
theorem a_iast (ho : gOk G own cc d rt nL) {c N : Nat} {i x : Int32} (hI : isI c N) (hr : inR i N) (hd : decode cc pc = .ok (.iastore, 1)) (hn : pc + 1 = n) (kk : gAt G n L st (sI σ c i.toNatClampNeg x)) : gAt G pc L (.int x :: .int i :: .ref (gad G c) :: st) σ := by
  subst hn; obtain ⟨⟨p, l, e, R, s, m, args, below, meth, c0⟩, X, nL0, v0, σ0⟩ := G
  intro H locs ls hl hP hS
  have he := gw_get (X := X) (σ := σ) (isI_lt hI)
  rw [gE_I hI] at he
  refine va_iast (D := X.1) ho.1 ho.2.1 ho.2.2.2.2.2.2.2.2.2.1 hP (gD ho.2.2.2.2.2.2.2.2.2.2.1 σ) hS c 0 he rfl hr hd (fun H1 locs1 hP1 _ hS1 => kk H1 locs1 ls hl ?_ hS1)
  rw [← gE_I (X := X) (m := upd (σ.1 c) i.toNatClampNeg x) (g := σ.2 c) hI, gw_s1 (isI_lt hI)] at hP1
  exact hP1
theorem a_zast (ho : gOk G own cc d rt nL) {c N : Nat} {i x : Int32} (hI : isZ c N) (hr : inR i N) (hd : decode cc pc = .ok (.bastore, 1)) (hn : pc + 1 = n) (kk : gAt G n L st (sI σ c i.toNatClampNeg (vp_nar .boolean x))) : gAt G pc L (.int x :: .int i :: .ref (gad G c) :: st) σ := by
  subst hn; obtain ⟨⟨p, l, e, R, s, m, args, below, meth, c0⟩, X, nL0, v0, σ0⟩ := G
  intro H locs ls hl hP hS
  have he := gw_get (X := X) (σ := σ) (isZ_lt hI)
  rw [gE_Z hI] at he
  refine va_zast (D := X.1) ho.1 ho.2.1 ho.2.2.2.2.2.2.2.2.2.1 hP (gD ho.2.2.2.2.2.2.2.2.2.2.1 σ) hS c 2 he rfl hr hd (fun H1 locs1 hP1 _ hS1 => kk H1 locs1 ls hl ?_ hS1)
  rw [← gE_Z (X := X) (m := upd (σ.1 c) i.toNatClampNeg (vp_nar .boolean x)) (g := σ.2 c) hI, gw_s1 (isZ_lt hI)] at hP1
  exact hP1
theorem a_last (ho : gOk G own cc d rt nL) {c N : Nat} {i : Int32} {x : Int64} (hI : isJ c N) (hr : inR i N) (hd : decode cc pc = .ok (.lastore, 1)) (hn : pc + 1 = n) (kk : gAt G n L st (sJ σ c i.toNatClampNeg x)) : gAt G pc L (.long x :: .int i :: .ref (gad G c) :: st) σ := by
  subst hn; obtain ⟨⟨p, l, e, R, s, m, args, below, meth, c0⟩, X, nL0, v0, σ0⟩ := G
  intro H locs ls hl hP hS
  have he := gw_get (X := X) (σ := σ) (isJ_lt hI)
  rw [gE_J hI] at he
  refine va_last (D := X.1) ho.1 ho.2.1 ho.2.2.2.2.2.2.2.2.2.1 hP (gD ho.2.2.2.2.2.2.2.2.2.2.1 σ) hS c 1 he rfl hr hd (fun H1 locs1 hP1 _ hS1 => kk H1 locs1 ls hl ?_ hS1)
  rw [← gE_J (X := X) (m := σ.1 c) (g := vp_updL (σ.2 c) i.toNatClampNeg x) hI, gw_s2 (isJ_lt hI)] at hP1
  exact hP1
theorem a_alen (ho : gOk G own cc d rt nL) {c N : Nat} {v : Int32} (hI : isI c N) (hv : Int32.ofNat N = v) (hd : decode cc pc = .ok (.arraylength, 1)) (hn : pc + 1 = n) (kk : gAt G n L (.int v :: st) σ) : gAt G pc L (.ref (gad G c) :: st) σ := by
  subst hn; obtain ⟨⟨p, l, e, R, s, m, args, below, meth, c0⟩, X, nL0, v0, σ0⟩ := G
  intro H locs ls hl hP hS
  have he := gw_get (X := X) (σ := σ) (isI_lt hI)
  rw [gE_I hI] at he
  exact va_alen (D := X.1) ho.1 ho.2.1 ho.2.2.2.2.2.2.2.2.2.1 hP c 0 he rfl hv hd (kk H locs ls hl hP hS)
theorem a_alenJ (ho : gOk G own cc d rt nL) {c N : Nat} {v : Int32} (hI : isJ c N) (hv : Int32.ofNat N = v) (hd : decode cc pc = .ok (.arraylength, 1)) (hn : pc + 1 = n) (kk : gAt G n L (.int v :: st) σ) : gAt G pc L (.ref (gad G c) :: st) σ := by
  subst hn; obtain ⟨⟨p, l, e, R, s, m, args, below, meth, c0⟩, X, nL0, v0, σ0⟩ := G
  intro H locs ls hl hP hS
  have he := gw_get (X := X) (σ := σ) (isJ_lt hI)
  rw [gE_J hI] at he
  exact va_alen (D := X.1) ho.1 ho.2.1 ho.2.2.2.2.2.2.2.2.2.1 hP c 1 he rfl hv hd (kk H locs ls hl hP hS)
abbrev isR (c t N : Nat) : Prop := (ds c).1 = t ∧ (ds c).2.1 = N
theorem gR_at {ad : Nat → Nat} {l : List (Option Nat)} {j q : Nat} (h : l[j]? = some (some q)) : va_rf (gR ad l j) = .ref (ad q) := by
  unfold gR; rw [List.getD_eq_getElem?_getD, h]; rfl
theorem a_aald (ho : gOk G own cc d rt nL) {c t N q : Nat} {i : Int32} (ht : t = 3 ∨ t = 4 ∨ t = 5) (hI : isR c t N) (hr : inR i N) (hq : (ds c).2.2[i.toNatClampNeg]? = some (some q)) (hd : decode cc pc = .ok (.aaload, 1)) (hn : pc + 1 = n) (kk : gAt G n L (.ref (gad G q) :: st) σ) : gAt G pc L (.int i :: .ref (gad G c) :: st) σ := by
  subst hn; obtain ⟨⟨p, l, e, R, s, m, args, below, meth, c0⟩, X, nL0, v0, σ0⟩ := G
  intro H locs ls hl hP hS
  have hlt : i.toNatClampNeg < N := Nat.not_le.mp fun q => hr (Or.inr q)
  have hc : c < NC := ds_lt (by rw [hI.1]; rcases ht with h | h | h <;> rw [h] <;> decide)
  have hK := ho.2.2.2.2.2.2.2.2.2.1
  have key : ∀ (cA : ClassId) (ty : FieldType) (k : Nat), ty.isReference = true → (gTy X)[k]? = some (cA, ty) → gE X c (σ.1 c) (σ.2 c) = .inl (cA, N, .inr (.inr (.inr (.inr (gR X.2.2.1 (ds c).2.2))))) → W p l e R s m args below meth c0 H locs 0 0 (MQ below (gQ X v0 σ0) args s 0 0 (gA X)) (F0 m pc ls (.int i :: .ref (X.2.2.1 c) :: st)) := by
    intro cA ty k href hk hE
    have he := gw_get (X := X) (σ := σ) hc
    rw [hE] at he
    exact W.aald (v := .ref (X.2.2.1 q)) (ty := ty) ho.1 ho.2.1 (hP c _ he) ((hK.2 k _ hk).1 N (fun j => va_rf (gR X.2.2.1 (ds c).2.2 j))) href (fun q => by cases q) (by show ¬ (i < 0 ∨ (arrV _ _ _).slots.size ≤ _); rw [arrV_size]; exact hr) (by show (arrV _ _ _).slots[_]? = _; rw [arrV_read _ _ hlt, gR_at hq]) rfl rfl hd (kk H locs ls hl hP hS)
  rcases ht with h | h | h
  · exact key (X.2.1 3) (.object "WaxCloth$Cloth") 3 rfl rfl (by unfold gE; rw [hI.1, hI.2, h]; rfl)
  · exact key (X.2.1 4) (.object "WaxCloth$Sheet") 4 rfl rfl (by unfold gE; rw [hI.1, hI.2, h]; rfl)
  · exact key (X.2.1 5) (.array .int) 5 rfl rfl (by unfold gE; rw [hI.1, hI.2, h]; rfl)
/-- the bounds of System.arraycopy -/
abbrev cpR (sp dp n : Int32) (n0 n1 : Nat) : Prop := ¬ sp < 0 ∧ ¬ dp < 0 ∧ ¬ n < 0 ∧ sp.toNatClampNeg + n.toNatClampNeg ≤ n0 ∧ dp.toNatClampNeg + n.toNatClampNeg ≤ n1
def gCp (own : String) (idx : Nat) : Prop := Cond.methodLink own idx arraycopyName ∈ WS ∧ Cond.native arraycopyName ∈ WS ∧ Cond.static arraycopyName ∈ WS ∧ Cond.initialized "java/lang/System" ∈ WS
theorem a_cpyI (ho : gOk G own cc d rt nL) {c c1 N N1 idx : Nat} {sp dp k : Int32} (hw : gCp own idx) (hd1 : 1 ≤ d) (hI : isI c N) (hI1 : isI c1 N1) (hr : cpR sp dp k N N1) (hst : (st.map fun v => v.category).sum ≤ 8) (hd : decode cc pc = .ok (.invokestatic idx, 3)) (hn : pc + 3 = n) (kk : gAt G n L st (cI σ c sp c1 dp k)) : gAt G pc L (.int k :: .int dp :: .ref (gad G c1) :: .int sp :: .ref (gad G c) :: st) σ := by
  subst hn; obtain ⟨⟨p, l, e, R, s, m, args, below, meth, c0⟩, X, nL0, v0, σ0⟩ := G
  intro H locs ls hl hP hS
  have he := gw_get (X := X) (σ := σ) (isI_lt hI)
  rw [gE_I hI] at he
  have he1 := gw_get (X := X) (σ := σ) (isI_lt hI1)
  rw [gE_I hI1] at he1
  have hR : R = rmd d := ho.2.2.2.2.2.2.2.2.1
  refine va_copyi (D := X.1) (ty := .int) ho.1 ho.2.1 (by rw [ho.2.2.1, ← ho.2.2.2.1]; exact hl.1.symm) ho.2.2.2.2.1 (ho.2.2.2.2.2.1 _ hw.1) (ho.2.2.2.2.2.1 _ hw.2.1) (ho.2.2.2.2.2.1 _ hw.2.2.1) (ho.2.2.2.2.2.1 _ hw.2.2.2) ho.2.2.2.2.2.2.2.2.2.1 hP (gD ho.2.2.2.2.2.2.2.2.2.2.1 σ) hS c c1 0 0 he he1 rfl rfl rfl hr.1 hr.2.1 hr.2.2.1 hr.2.2.2.1 hr.2.2.2.2 (fun _ _ => rfl) (by rw [hR]; exact hd1) ?_ hd (fun H1 locs1 hP1 _ hS1 => kk H1 locs1 ls hl ?_ hS1)
  · rw [hR]
    have h1 : nativeFrameWords "java/lang/System" "arraycopy" 5 + 11 ≤ 50 := by decide
    show _ ≤ 64 * d
    omega
  · rw [← gE_I (X := X) (m := va_cpy (σ.1 c) (σ.1 c1) sp.toNatClampNeg dp.toNatClampNeg k.toNatClampNeg) (g := σ.2 c1) hI1, gw_s1 (isI_lt hI1)] at hP1
    exact hP1
theorem a_cpyJ (ho : gOk G own cc d rt nL) {c c1 N N1 idx : Nat} {sp dp k : Int32} (hw : gCp own idx) (hd1 : 1 ≤ d) (hI : isJ c N) (hI1 : isJ c1 N1) (hr : cpR sp dp k N N1) (hst : (st.map fun v => v.category).sum ≤ 8) (hd : decode cc pc = .ok (.invokestatic idx, 3)) (hn : pc + 3 = n) (kk : gAt G n L st (cJ σ c sp c1 dp k)) : gAt G pc L (.int k :: .int dp :: .ref (gad G c1) :: .int sp :: .ref (gad G c) :: st) σ := by
  subst hn; obtain ⟨⟨p, l, e, R, s, m, args, below, meth, c0⟩, X, nL0, v0, σ0⟩ := G
  intro H locs ls hl hP hS
  have he := gw_get (X := X) (σ := σ) (isJ_lt hI)
  rw [gE_J hI] at he
  have he1 := gw_get (X := X) (σ := σ) (isJ_lt hI1)
  rw [gE_J hI1] at he1
  have hR : R = rmd d := ho.2.2.2.2.2.2.2.2.1
  refine va_copyl (D := X.1) (ty := .long) ho.1 ho.2.1 (by rw [ho.2.2.1, ← ho.2.2.2.1]; exact hl.1.symm) ho.2.2.2.2.1 (ho.2.2.2.2.2.1 _ hw.1) (ho.2.2.2.2.2.1 _ hw.2.1) (ho.2.2.2.2.2.1 _ hw.2.2.1) (ho.2.2.2.2.2.1 _ hw.2.2.2) ho.2.2.2.2.2.2.2.2.2.1 hP (gD ho.2.2.2.2.2.2.2.2.2.2.1 σ) hS c c1 1 1 he he1 rfl rfl rfl hr.1 hr.2.1 hr.2.2.1 hr.2.2.2.1 hr.2.2.2.2 (fun _ _ => rfl) (by rw [hR]; exact hd1) ?_ hd (fun H1 locs1 hP1 _ hS1 => kk H1 locs1 ls hl ?_ hS1)
  · rw [hR]
    have h1 : nativeFrameWords "java/lang/System" "arraycopy" 5 + 11 ≤ 50 := by decide
    show _ ≤ 64 * d
    omega
  · rw [← gE_J (X := X) (m := σ.1 c1) (g := va_cpy (σ.2 c) (σ.2 c1) sp.toNatClampNeg dp.toNatClampNeg k.toNatClampNeg) hI1, gw_s2 (isJ_lt hI1)] at hP1
    exact hP1
theorem a_tabG (ho : gOk G own cc d rt nL) {idx : Nat} (hlk : Cond.fieldLink own idx "WaxCloth$Kind" "ABOVE" "[I" ∈ WS) (hd : decode cc pc = .ok (.getstatic idx, 3)) (hn : pc + 3 = n) (kk : gAt G n L (.ref G.2.1.2.2.2 :: st) σ) : gAt G pc L st σ := by
  subst hn; obtain ⟨⟨p, l, e, R, s, m, args, below, meth, c0⟩, X, nL0, v0, σ0⟩ := G
  intro H locs ls hl hP hS
  exact va_gets ho.1 ho.2.1 ho.2.2.2.2.2.2.2.2.2.2.2.1 hS ho.2.2.2.2.1 (ho.2.2.2.2.2.1 _ hlk) (fun _ h9 => h9) hd (kk H locs ls hl hP hS)
theorem a_tabL (ho : gOk G own cc d rt nL) (hd : decode cc pc = .ok (.arraylength, 1)) (hn : pc + 1 = n) (kk : gAt G n L (.int 6 :: st) σ) : gAt G pc L (.ref G.2.1.2.2.2 :: st) σ := by
  subst hn; obtain ⟨⟨p, l, e, R, s, m, args, below, meth, c0⟩, X, nL0, v0, σ0⟩ := G
  intro H locs ls hl hP hS
  exact va_tlen ho.1 ho.2.1 ho.2.2.2.2.2.2.2.2.2.2.2.2 hS rfl hd (kk H locs ls hl hP hS)
theorem a_tabA (ho : gOk G own cc d rt nL) {i : Int32} (hr : inR i 6) (hd : decode cc pc = .ok (.iaload, 1)) (hn : pc + 1 = n) (kk : gAt G n L (.int (abv i.toNatClampNeg) :: st) σ) : gAt G pc L (.int i :: .ref G.2.1.2.2.2 :: st) σ := by
  subst hn; obtain ⟨⟨p, l, e, R, s, m, args, below, meth, c0⟩, X, nL0, v0, σ0⟩ := G
  intro H locs ls hl hP hS
  exact va_ti ho.1 ho.2.1 ho.2.2.2.2.2.2.2.2.2.2.2.2 hS hr rfl hd (kk H locs ls hl hP hS)
end MEM
section MAXMIN
variable {G : gM} {own : String} {cc : ByteArray} {d : Nat} {rt : Option FieldType} {nL : Nat} {pc n : Nat} {L L' : List (Nat × Value)} {st : List Value} {σ : gS}
def gMx (own : String) (idx : Nat) : Prop := Cond.methodLink own idx Lib.Math.max.name ∈ WS ∧ Cond.static Lib.Math.max.name ∈ WS ∧ Cond.initialized "java/lang/Math" ∈ WS ∧ Cond.code Lib.Math.max.name Lib.Math.max.code 2 (some .int) ∈ WS
def gMn (own : String) (idx : Nat) : Prop := Cond.methodLink own idx Lib.Math.min.name ∈ WS ∧ Cond.static Lib.Math.min.name ∈ WS ∧ Cond.initialized "java/lang/Math" ∈ WS ∧ Cond.code Lib.Math.min.name Lib.Math.min.code 2 (some .int) ∈ WS
def mx (x y : Int32) : Int32 := if x < y then y else x
def mn (x y : Int32) : Int32 := if y < x then y else x
theorem a_max (ho : gOk G own cc d rt nL) {x y : Int32} {idx : Nat} (hw : gMx own idx) (hd1 : 1 ≤ d) (hst : (st.map fun v => v.category).sum ≤ 8) (hd : decode cc pc = .ok (.invokestatic idx, 3)) (hn : pc + 3 = n) (kk : gAt G n L (.int (mx x y) :: st) σ) : gAt G pc L (.int y :: .int x :: st) σ := by
  subst hn; obtain ⟨⟨p, l, e, R, s, m, args, below, meth, c0⟩, X, nL0, v0, σ0⟩ := G
  intro H locs ls hl hP hS
  have hR : R = rmd d := ho.2.2.2.2.2.2.2.2.1
  exact va_mmax ho.1 ho.2.1 (by rw [ho.2.2.1, ← ho.2.2.2.1]; exact hl.1.symm) ho.2.2.2.2.1 (ho.2.2.2.2.2.1 _ hw.1) (ho.2.2.2.2.2.1 _ hw.2.1) (ho.2.2.2.2.2.1 _ hw.2.2.1) (ho.2.2.2.2.2.1 _ hw.2.2.2) (by rw [hR]; exact hd1) (by rw [hR]; show _ ≤ 64 * d; omega) (Nat.zero_le _) (Nat.zero_le _) hd (kk H locs ls hl hP hS)
theorem a_min (ho : gOk G own cc d rt nL) {x y : Int32} {idx : Nat} (hw : gMn own idx) (hd1 : 1 ≤ d) (hst : (st.map fun v => v.category).sum ≤ 8) (hd : decode cc pc = .ok (.invokestatic idx, 3)) (hn : pc + 3 = n) (kk : gAt G n L (.int (mn x y) :: st) σ) : gAt G pc L (.int y :: .int x :: st) σ := by
  subst hn; obtain ⟨⟨p, l, e, R, s, m, args, below, meth, c0⟩, X, nL0, v0, σ0⟩ := G
  intro H locs ls hl hP hS
  have hR : R = rmd d := ho.2.2.2.2.2.2.2.2.1
  exact va_mmin ho.1 ho.2.1 (by rw [ho.2.2.1, ← ho.2.2.2.1]; exact hl.1.symm) ho.2.2.2.2.1 (ho.2.2.2.2.2.1 _ hw.1) (ho.2.2.2.2.2.1 _ hw.2.1) (ho.2.2.2.2.2.1 _ hw.2.2.1) (ho.2.2.2.2.2.1 _ hw.2.2.2) (by rw [hR]; exact hd1) (by rw [hR]; show _ ≤ 64 * d; omega) (Nat.zero_le _) (Nat.zero_le _) hd (kk H locs ls hl hP hS)
end MAXMIN
section RET
variable {G : gM} {own : String} {cc : ByteArray} {d : Nat} {rt : Option FieldType} {nL : Nat} {pc n : Nat} {L L' : List (Nat × Value)} {st : List Value} {σ : gS}
theorem g_end {X : gX} {σ : gS} {s t : State} {H : Heap} {locs : List Loc} {v : Option Value} (hP : va_P X.1 vwCl (gw X σ) H) (hS : va_S (gA X) s.heap H locs) (hK : va_K X.1 vwCl (gTy X) s) (hj : gDj X) (hz : gZ X s s.heap) (ht : t.heap = H) (hW : s.WarmedH t.vm) {a : Array Value} : gQ X v σ a s (.returned v) t := by
  refine ⟨⟨rfl, by rw [ht]; exact hP, va_K.moved hW.alike hK, hj, ?_⟩, hS.F ht⟩
  rw [ht]
  exact ⟨(va_Z.moved hW.alike hz.1).kept hS.2.1, (va_T.moved hW.alike hz.2).kept hS.2.1⟩
theorem a_iret (ho : gOk G own cc d (some .int) nL) {r : Int32} (hd : decode cc pc = .ok (.ireturn, 1)) (hv : gv0 G = some (.int r)) (hs : gs0 G = σ) : gAt G pc L [.int r] σ := by
  obtain ⟨⟨p, l, e, R, s, m, args, below, meth, c0⟩, X, nL0, v0, σ0⟩ := G
  intro H locs ls hl hP hS
  have hv : v0 = _ := hv
  have hs : σ0 = _ := hs
  subst hv; subst hs
  exact W.iret ho.1 ho.2.1 ho.2.2.2.2.2.2.2.1 (fun t ht hW => g_end hP hS ho.2.2.2.2.2.2.2.2.2.1 ho.2.2.2.2.2.2.2.2.2.2.1 ho.2.2.2.2.2.2.2.2.2.2.2 ht hW) hS.2.2 hd ho.2.2.2.2.2.2.1
theorem a_zret (ho : gOk G own cc d (some .boolean) nL) {r : Int32} (hd : decode cc pc = .ok (.ireturn, 1)) (hb : narrow .boolean (.int r) = .int r) (hv : gv0 G = some (.int r)) (hs : gs0 G = σ) : gAt G pc L [.int r] σ := by
  obtain ⟨⟨p, l, e, R, s, m, args, below, meth, c0⟩, X, nL0, v0, σ0⟩ := G
  intro H locs ls hl hP hS
  have hv : v0 = _ := hv
  have hs : σ0 = _ := hs
  subst hv; subst hs
  exact W.zret ho.1 ho.2.1 ho.2.2.2.2.2.2.2.1 hb (fun t ht hW => g_end hP hS ho.2.2.2.2.2.2.2.2.2.1 ho.2.2.2.2.2.2.2.2.2.2.1 ho.2.2.2.2.2.2.2.2.2.2.2 ht hW) hS.2.2 hd ho.2.2.2.2.2.2.1
theorem a_lret (ho : gOk G own cc d (some .long) nL) {r : Int64} (hd : decode cc pc = .ok (.lreturn, 1)) (hv : gv0 G = some (.long r)) (hs : gs0 G = σ) : gAt G pc L [.long r] σ := by
  obtain ⟨⟨p, l, e, R, s, m, args, below, meth, c0⟩, X, nL0, v0, σ0⟩ := G
  intro H locs ls hl hP hS
  have hv : v0 = _ := hv
  have hs : σ0 = _ := hs
  subst hv; subst hs
  exact W.lret ho.1 ho.2.1 ho.2.2.2.2.2.2.2.1 (fun t ht hW => g_end hP hS ho.2.2.2.2.2.2.2.2.2.1 ho.2.2.2.2.2.2.2.2.2.2.1 ho.2.2.2.2.2.2.2.2.2.2.2 ht hW) hS.2.2 hd ho.2.2.2.2.2.2.1
theorem a_vret (ho : gOk G own cc d none nL) (hd : decode cc pc = .ok (.return_, 1)) (hv : gv0 G = none) (hs : gs0 G = σ) : gAt G pc L [] σ := by
  obtain ⟨⟨p, l, e, R, s, m, args, below, meth, c0⟩, X, nL0, v0, σ0⟩ := G
  intro H locs ls hl hP hS
  have hv : v0 = _ := hv
  have hs : σ0 = _ := hs
  subst hv; subst hs
  exact W.vret ho.1 ho.2.1 ho.2.2.2.2.2.2.2.1 (fun t ht hW => g_end hP hS ho.2.2.2.2.2.2.2.2.2.1 ho.2.2.2.2.2.2.2.2.2.2.1 ho.2.2.2.2.2.2.2.2.2.2.2 ht hW) hS.2.2 hd ho.2.2.2.2.2.2.1
end RET
section CALLS
variable {G : gM} {own : String} {cc : ByteArray} {d : Nat} {rt : Option FieldType} {nL : Nat} {pc n : Nat} {L L' : List (Nat × Value)} {st : List Value} {σ σ' : gS}
theorem gBlind {X : gX} {σ : gS} {as : List Value} : FrameBlind (va_Pc as (gH X σ)) := fun _ U _ _ q => ⟨q.1, q.2.1, va_K.moved (u := U) (Vm.Alike.refl U.vm) q.2.2.1, q.2.2.2.1, va_Z.moved (u := U) (Vm.Alike.refl U.vm) q.2.2.2.2.1, va_T.moved (u := U) (Vm.Alike.refl U.vm) q.2.2.2.2.2⟩
theorem gIn {X : gX} {σ : gS} {s : State} {H : Heap} {locs : List Loc} {as : List Value} (hP : va_P X.1 vwCl (gw X σ) H) (hS : va_S (gA X) s.heap H locs) (hK : va_K X.1 vwCl (gTy X) s) (hj : gDj X) (hz : gZ X s s.heap) : ∀ U : State, U.heap = H → s.WarmedH U.vm → va_Pc as (gH X σ) as.toArray U := fun U hU hW =>
  ⟨rfl, by rw [hU]; exact hP, va_K.moved hW.alike hK, hj, by rw [hU]; exact (va_Z.moved hW.alike hz.1).kept hS.2.1, by rw [hU]; exact (va_T.moved hW.alike hz.2).kept hS.2.1⟩
/-- what the tables say of an instance method -/
def gV (y : MethodName) (bytes : ByteArray) (maxL : Nat) (ret : Option FieldType) (na ci : Nat) : Prop := (∃ (T : u_T) (N : Nat), vwCl[ci]? = some (y.cls, T, N)) ∧ Cond.code y bytes maxL ret ∈ WS ∧ Cond.instanceMethod y ∈ WS ∧ Cond.selects y.cls y y ∈ WS ∧ Cond.initialized y.cls ∈ WS ∧ (y.cls ≠ "java/lang/invoke/MethodHandle" ∧ y.cls ≠ "java/lang/invoke/VarHandle" ∧ (parseMethodDescriptor y.desc).map (fun d => d.parameters.length) = some na) ∧ maxL ≤ 45
def gT (y : MethodName) (bytes : ByteArray) (maxL : Nat) (ret : Option FieldType) (na : Nat) : Prop := Cond.code y bytes maxL ret ∈ WS ∧ Cond.static y ∈ WS ∧ Cond.initialized y.cls ∈ WS ∧ (y.cls ≠ "java/lang/invoke/MethodHandle" ∧ y.cls ≠ "java/lang/invoke/VarHandle" ∧ (parseMethodDescriptor y.desc).map (fun d => d.parameters.length) = some na) ∧ maxL ≤ 45
theorem g_after {p : Program} {l : Launch} {e : Env} {R : Room} {s : State} {m : MethodId} {args : Array Value} {below : List Frame} {meth : Method} {c0 : Code} {X : gX} {H : Heap} {locs : List Loc} {ls : Array Slot} {st0 : List Value} {v : Option Value} {a : Array Value} {Q : State → Prop} (hr : va_Run p l e R s m args below meth c0 H locs 0 0 0 0 (F0 m pc ls st0) st (gQ X v σ' a) (gA X)) (hS : va_S (gA X) s.heap H locs)
    (kk : ∀ (H1 : Heap) (locs1 : List Loc), va_P X.1 vwCl (gw X σ') H1 → va_S (gA X) s.heap H1 locs1 → W p l e R s m args below meth c0 H1 locs1 0 0 Q (F0 m (pc + 3) ls (v.toList ++ st))) : W p l e R s m args below meth c0 H locs 0 0 Q (F0 m pc ls st0) := by
  intro T hT X1
  obtain ⟨v1, st₀, t, T', L1, h0, X', hL, e1, e2, ⟨⟨hv, hg⟩, hz, hk⟩, stp⟩ := hr T hT X1
  cases hv
  rw [h0] at hz hk
  obtain ⟨t2, a1, b1⟩ := kk T'.heap (locs ++ L1) (by rw [e1]; exact hg.1) ⟨Nat.le_trans hS.1 (by rw [e1]; exact hz), fun q h1 h2 => by rw [e1, hk q (Nat.lt_of_lt_of_le h1 hS.1) h2]; exact hS.2.1 q h1 h2, fun q hq => by
      rcases List.mem_append.mp hq with h | h
      · exact hS.2.2 q h
      · exact hL q h⟩ T' rfl X'
  exact ⟨t2, stp t2 a1, b1⟩
theorem a_callV (ho : gOk G own cc d rt nL) {y : MethodName} {bytes : ByteArray} {maxL na idx ci c d' : Nat} {ret : Option FieldType} {as : List Value} {v : Option Value} {st0 : List Value} (hy : gV y bytes maxL ret na ci) (hl : Cond.methodLink own idx y ∈ WS) (hO : isO c ci) (hM : gCt (gl G) (gXX G) y (.code y bytes maxL ret) d' (.ref (gad G c) :: as) σ v σ') (hna : as.length = na) (hs : st0 = as.reverse ++ .ref (gad G c) :: st) (hdd : d' + 1 ≤ d) (hst : (st.map fun v => v.category).sum ≤ 8) (hd : decode cc pc = .ok (.invokevirtual idx, 3)) (hn : pc + 3 = n) (kk : gAt G n L (v.toList ++ st) σ') : gAt G pc L st0 σ := by
  subst hn; obtain ⟨⟨p, l, e, R, s, m, args, below, meth, c0⟩, X, nL0, v0, σ0⟩ := G
  obtain ⟨⟨T, N, hcl⟩, hcode, hins, hsel, hini, hdsc, hmx⟩ := hy
  have hR : R = rmd d := ho.2.2.2.2.2.2.2.2.1
  have hts := ho.2.2.2.2.2.1
  intro H locs ls hl0 hP hS
  have he := gw_get (X := X) (σ := σ) (isO_lt hO)
  rw [gE_O hO] at he
  have hrun := va_runV (g := F0 m pc ls st0) (rest := st) (As := as) (cells := 0) (slots := 0) (locs := locs) (e := e) (below := below) (meth := meth) (nL := nL) ⟨ho.1, ho.2.1, ho.2.2.1, ho.2.2.2.2.1, hts⟩ hM (C := y.cls) (index := idx) (n := na) (R := R) (b := X.2.2.1 c) (H := H) ⟨callB_of na hts (WS_cons hcode) rfl rfl rfl (hts _ hini) (hts _ hl) hdsc ⟨by rw [hR]; exact hdd, by rw [hR]; show 8 + (maxL + 11) + 64 * d' ≤ 64 * d; omega⟩, hts _ hins, hts _ hsel⟩ ⟨gBlind, va_recv ho.2.2.2.2.2.2.2.2.2.1 hP hcl he, gIn hP hS ho.2.2.2.2.2.2.2.2.2.1 ho.2.2.2.2.2.2.2.2.2.2.1 ho.2.2.2.2.2.2.2.2.2.2.2⟩ rfl hna (by show ls.size = nL; rw [← ho.2.2.2.1]; exact hl0.1) hs (lv_room hst) hd ⟨Nat.zero_le _, Nat.zero_le _⟩
  exact g_after hrun hS (fun H1 locs1 hP1 hS1 => kk H1 locs1 ls hl0 hP1 hS1)
theorem a_callS (ho : gOk G own cc d rt nL) {y : MethodName} {bytes : ByteArray} {maxL na idx d' : Nat} {ret : Option FieldType} {as : List Value} {v : Option Value} {st0 : List Value} (hy : gT y bytes maxL ret na) (hl : Cond.methodLink own idx y ∈ WS) (hM : gCt (gl G) (gXX G) y (.code y bytes maxL ret) d' as σ v σ') (hna : as.length = na) (hs : st0 = as.reverse ++ st) (hdd : d' + 1 ≤ d) (hst : (st.map fun v => v.category).sum ≤ 8) (hd : decode cc pc = .ok (.invokestatic idx, 3)) (hn : pc + 3 = n) (kk : gAt G n L (v.toList ++ st) σ') : gAt G pc L st0 σ := by
  subst hn; obtain ⟨⟨p, l, e, R, s, m, args, below, meth, c0⟩, X, nL0, v0, σ0⟩ := G
  obtain ⟨hcode, hsta, hini, hdsc, hmx⟩ := hy
  have hR : R = rmd d := ho.2.2.2.2.2.2.2.2.1
  have hts := ho.2.2.2.2.2.1
  intro H locs ls hl0 hP hS
  have hrun := va_runS (g := F0 m pc ls st0) (rest := st) (As := as) (cells := 0) (slots := 0) (locs := locs) (e := e) (below := below) (meth := meth) (nL := nL) ⟨ho.1, ho.2.1, ho.2.2.1, ho.2.2.2.2.1, hts⟩ hM (index := idx) (n := na) (R := R) (H := H) ⟨callB_of na hts (WS_cons hcode) rfl rfl rfl (hts _ hini) (hts _ hl) hdsc ⟨by rw [hR]; exact hdd, by rw [hR]; show 8 + (maxL + 11) + 64 * d' ≤ 64 * d; omega⟩, hts _ hsta⟩ ⟨gBlind, gIn hP hS ho.2.2.2.2.2.2.2.2.2.1 ho.2.2.2.2.2.2.2.2.2.2.1 ho.2.2.2.2.2.2.2.2.2.2.2⟩ rfl hna (by show ls.size = nL; rw [← ho.2.2.2.1]; exact hl0.1) hs (lv_room hst) hd ⟨Nat.zero_le _, Nat.zero_le _⟩
  exact g_after hrun hS (fun H1 locs1 hP1 hS1 => kk H1 locs1 ls hl0 hP1 hS1)
/-- a contract out of a walk -/
theorem gCt_of {l : Launch} {X : gX} {y : MethodName} {d : Nat} {as : List Value} {v : Option Value} {maxL : Nat} {ret : Option FieldType} (cc : ByteArray) (hy : plainName y.cls = true) (hlen : (lg_sl as).length ≤ maxL)
    (body : ∀ G : gM, gl G = l → gXX G = X → gv0 G = v → gs0 G = σ' → gOk G y.cls cc d ret maxL → gAt G 0 (lv_args 0 as) [] σ) : gCt l X y (.code y cc maxL ret) d as σ v σ' := by
  refine Met.ofW (cc := cc) (maxL := maxL) (ret := ret) hy rfl ?_
  intro p e s m args below meth c s₁ B hml hv
  obtain ⟨rfl, hP, hK, hj, hz⟩ := hv
  have hts := atoms_spec (ws := Cond.code y cc maxL ret :: WS) B.pre
  have hown : s.vm.findClass y.cls = some m.cls := findClass_of_methodNamed B.named
  have hb := body ((p, l, e, rmd d, s, m, as.toArray, below, meth, c), X, maxL, v, σ') rfl rfl rfl rfl ⟨B.exec, B.bytes, hml, rfl, hown, fun w hw => hts w (List.mem_cons_of_mem _ hw), B.notSynchronized, B.returns, rfl, hK, hj, hz⟩
  rw [lg_entry_eq]
  exact hb s.heap [] _ (lv_entry as hlen) hP va_S.rf
end CALLS
def ck {α : Type} (P : Prop) [Decidable P] (x : Option α) : Option α := if P then x else none
theorem ck_el {α : Type} {P : Prop} [Decidable P] {x : Option α} {r : α} (h : ck P x = some r) : P ∧ x = some r := by
  unfold ck at h
  by_cases hP : P
  · rw [if_pos hP] at h; exact ⟨hP, h⟩
  · rw [if_neg hP] at h; cases h
def ob {α β : Type} (x : Option α) (f : α → Option β) : Option β := match x with | none => none | some a => f a
theorem ob_el {α β : Type} {x : Option α} {f : α → Option β} {r : β} (h : ob x f = some r) : ∃ a, x = some a ∧ f a = some r := by
  cases x with
  | none => cases h
  | some a => exact ⟨a, rfl, h⟩
def ob2 {α γ β : Type} (x : Option (α × γ)) (f : α → γ → Option β) : Option β := match x with | none => none | some a => f a.1 a.2
theorem ob2_el {α γ β : Type} {x : Option (α × γ)} {f : α → γ → Option β} {r : β} (h : ob2 x f = some r) : ∃ a b, x = some (a, b) ∧ f a b = some r := by
  cases x with
  | none => cases h
  | some a => exact ⟨a.1, a.2, rfl, h⟩
def bd {α β : Type} (x : α) (f : α → β) : β := f x
theorem bd_el {α β : Type} {x : α} {f : α → β} {r : β} (h : bd x f = r) : ∃ a, x = a ∧ f a = r := ⟨x, rfl, h⟩
theorem if_t {α : Type} {c : Prop} [Decidable c] {a b r : α} (hc : c) (h : (if c then a else b) = r) : a = r := by rw [if_pos hc] at h; exact h
theorem if_f {α : Type} {c : Prop} [Decidable c] {a b r : α} (hc : ¬ c) (h : (if c then a else b) = r) : b = r := by rw [if_neg hc] at h; exact h
theorem re_el {α β : Type} {a a0 : α} {b b0 : β} (h : some (a, b) = some (a0, b0)) : a = a0 ∧ b = b0 := by cases h; exact ⟨rfl, rfl⟩
theorem ro_el {α : Type} {a a0 : α} (h : some a = some a0) : a = a0 := by cases h; rfl
theorem tI {x k : Int32} {z : Int} (h : ¬ x = k) (hk : k.toInt = z) : x.toInt ≠ z := fun q => h (Int32.toInt_inj.mp (by rw [q, hk]))
theorem rng_lt {i : Int32} {N : Nat} (h : inR i N) : i.toNatClampNeg < N := Nat.not_le.mp fun q => h (Or.inr q)
theorem a_nmI {G : gM} {pc : Nat} {L : List (Nat × Value)} {st : List Value} {σ : gS} {e x : Int32} (hx : e = x) (k : gAt G pc L (.int x :: st) σ) : gAt G pc L (.int e :: st) σ := hx ▸ k
theorem a_nmL {G : gM} {pc : Nat} {L : List (Nat × Value)} {st : List Value} {σ : gS} {e x : Int64} (hx : e = x) (k : gAt G pc L (.long x :: st) σ) : gAt G pc L (.long e :: st) σ := hx ▸ k
theorem a_nmS {G : gM} {pc : Nat} {L : List (Nat × Value)} {st : List Value} {σ τ : gS} (hx : σ = τ) (k : gAt G pc L st τ) : gAt G pc L st σ := hx ▸ k
abbrev nb (v : Int32) : Prop := v = 0 ∨ v = 1
theorem nb_n {v : Int32} (h : nb v) : narrow .boolean (.int v) = .int v := by
  rcases h with h | h <;> rw [h] <;> rfl
def fu : Nat := 20000
end
section
set_option maxRecDepth 20000 in
theorem in_X0 : ∀ w ∈ u_ws RX0 TX0 5, w ∈ WS := WS_mem (goodIn_r _ [238, 240, 242, 244, 246] (by decide +kernel) (by decide +kernel)) (by decide +kernel)
set_option maxRecDepth 20000 in
theorem in_X1 : ∀ w ∈ u_ws RX1 TX1 6, w ∈ WS := WS_mem (goodIn_r _ [265, 267, 269, 271, 273, 275] (by decide +kernel) (by decide +kernel)) (by decide +kernel)
set_option maxRecDepth 20000 in
theorem in_X2 : ∀ w ∈ u_ws RX2 TX2 9, w ∈ WS := WS_mem (goodIn_r _ [125, 127, 129, 131, 133, 135, 137, 139, 141] (by decide +kernel) (by decide +kernel)) (by decide +kernel)
set_option maxRecDepth 20000 in
theorem in_X4 : ∀ w ∈ u_ws RX4 TX4 3, w ∈ WS := WS_mem (goodIn_r _ [170, 172, 174] (by decide +kernel) (by decide +kernel)) (by decide +kernel)
set_option maxRecDepth 20000 in
theorem in_X5 : ∀ w ∈ u_ws RX5 TX5 5, w ∈ WS := WS_mem (goodIn_r _ [213, 215, 217, 219, 221] (by decide +kernel) (by decide +kernel)) (by decide +kernel)
set_option maxRecDepth 20000 in
theorem in_X6 : ∀ w ∈ u_ws RX6 TX6 3, w ∈ WS := WS_mem (goodIn_r _ [149, 151, 153] (by decide +kernel) (by decide +kernel)) (by decide +kernel)
set_option maxRecDepth 20000 in
theorem in_X7 : ∀ w ∈ u_ws RX7 TX7 2, w ∈ WS := WS_mem (goodIn_r _ [288, 290] (by decide +kernel) (by decide +kernel)) (by decide +kernel)
set_option maxRecDepth 20000 in
theorem in_X8 : ∀ w ∈ u_ws RX8 TX8 3, w ∈ WS := WS_mem (goodIn_r _ [190, 192, 194] (by decide +kernel) (by decide +kernel)) (by decide +kernel)
set_option maxRecDepth 20000 in
theorem in_X10 : ∀ w ∈ u_ws RX10 TX10 2, w ∈ WS := WS_mem (goodIn_r _ [76, 78] (by decide +kernel) (by decide +kernel)) (by decide +kernel)
set_option maxRecDepth 20000 in
theorem in_X11 : ∀ w ∈ u_ws RX11 TX11 11, w ∈ WS := WS_mem (goodIn_r _ [304, 306, 308, 310, 312, 314, 316, 318, 320, 322, 324] (by decide +kernel) (by decide +kernel)) (by decide +kernel)
set_option maxRecDepth 20000 in
theorem in_X12 : ∀ w ∈ u_ws RX12 TX12 22, w ∈ WS := WS_mem (goodIn_r _ [807, 809, 811, 813, 815, 817, 819, 821, 823, 825, 827, 829, 831, 833, 835, 837, 839, 841, 843, 845, 847, 849] (by decide +kernel) (by decide +kernel)) (by decide +kernel)
theorem o_0 : isO 0 9 := ⟨rfl, rfl⟩
theorem o_1 : isO 1 8 := ⟨rfl, rfl⟩
theorem i_2 : isI 2 80 := ⟨rfl, rfl⟩
theorem o_3 : isO 3 5 := ⟨rfl, rfl⟩
theorem o_4 : isO 4 2 := ⟨rfl, rfl⟩
theorem i_5 : isI 5 8 := ⟨rfl, rfl⟩
theorem i_6 : isI 6 8 := ⟨rfl, rfl⟩
theorem i_7 : isI 7 8 := ⟨rfl, rfl⟩
theorem i_8 : isI 8 12 := ⟨rfl, rfl⟩
theorem i_9 : isI 9 3 := ⟨rfl, rfl⟩
theorem o_10 : isO 10 2 := ⟨rfl, rfl⟩
theorem i_11 : isI 11 8 := ⟨rfl, rfl⟩
theorem i_12 : isI 12 8 := ⟨rfl, rfl⟩
theorem i_13 : isI 13 8 := ⟨rfl, rfl⟩
theorem i_14 : isI 14 12 := ⟨rfl, rfl⟩
theorem i_15 : isI 15 3 := ⟨rfl, rfl⟩
theorem o_16 : isO 16 3 := ⟨rfl, rfl⟩
theorem r_17 : isR 17 5 24 := ⟨rfl, rfl⟩
theorem i_18 : isI 18 8 := ⟨rfl, rfl⟩
theorem i_19 : isI 19 8 := ⟨rfl, rfl⟩
theorem i_20 : isI 20 8 := ⟨rfl, rfl⟩
theorem i_21 : isI 21 8 := ⟨rfl, rfl⟩
theorem i_22 : isI 22 8 := ⟨rfl, rfl⟩
theorem i_23 : isI 23 8 := ⟨rfl, rfl⟩
theorem i_24 : isI 24 8 := ⟨rfl, rfl⟩
theorem i_25 : isI 25 8 := ⟨rfl, rfl⟩
theorem i_26 : isI 26 8 := ⟨rfl, rfl⟩
theorem i_27 : isI 27 8 := ⟨rfl, rfl⟩
theorem i_28 : isI 28 8 := ⟨rfl, rfl⟩
theorem i_29 : isI 29 8 := ⟨rfl, rfl⟩
theorem i_30 : isI 30 8 := ⟨rfl, rfl⟩
theorem i_31 : isI 31 8 := ⟨rfl, rfl⟩
theorem i_32 : isI 32 8 := ⟨rfl, rfl⟩
theorem i_33 : isI 33 8 := ⟨rfl, rfl⟩
theorem i_34 : isI 34 8 := ⟨rfl, rfl⟩
theorem i_35 : isI 35 8 := ⟨rfl, rfl⟩
theorem i_36 : isI 36 8 := ⟨rfl, rfl⟩
theorem i_37 : isI 37 8 := ⟨rfl, rfl⟩
theorem i_38 : isI 38 8 := ⟨rfl, rfl⟩
theorem i_39 : isI 39 8 := ⟨rfl, rfl⟩
theorem i_40 : isI 40 8 := ⟨rfl, rfl⟩
theorem i_41 : isI 41 8 := ⟨rfl, rfl⟩
theorem r_42 : isR 42 3 2 := ⟨rfl, rfl⟩
theorem o_43 : isO 43 2 := ⟨rfl, rfl⟩
theorem i_44 : isI 44 8 := ⟨rfl, rfl⟩
theorem i_45 : isI 45 8 := ⟨rfl, rfl⟩
theorem i_46 : isI 46 8 := ⟨rfl, rfl⟩
theorem i_47 : isI 47 12 := ⟨rfl, rfl⟩
theorem i_48 : isI 48 3 := ⟨rfl, rfl⟩
theorem o_49 : isO 49 2 := ⟨rfl, rfl⟩
theorem i_50 : isI 50 8 := ⟨rfl, rfl⟩
theorem i_51 : isI 51 8 := ⟨rfl, rfl⟩
theorem i_52 : isI 52 8 := ⟨rfl, rfl⟩
theorem i_53 : isI 53 12 := ⟨rfl, rfl⟩
theorem i_54 : isI 54 3 := ⟨rfl, rfl⟩
theorem r_55 : isR 55 4 4 := ⟨rfl, rfl⟩
theorem o_56 : isO 56 7 := ⟨rfl, rfl⟩
theorem j_57 : isJ 57 24 := ⟨rfl, rfl⟩
theorem o_58 : isO 58 7 := ⟨rfl, rfl⟩
theorem j_59 : isJ 59 24 := ⟨rfl, rfl⟩
theorem o_60 : isO 60 7 := ⟨rfl, rfl⟩
theorem j_61 : isJ 61 24 := ⟨rfl, rfl⟩
theorem o_62 : isO 62 7 := ⟨rfl, rfl⟩
theorem j_63 : isJ 63 24 := ⟨rfl, rfl⟩
theorem o_64 : isO 64 4 := ⟨rfl, rfl⟩
theorem i_65 : isI 65 4 := ⟨rfl, rfl⟩
theorem i_66 : isI 66 4 := ⟨rfl, rfl⟩
theorem r_67 : isR 67 5 5 := ⟨rfl, rfl⟩
theorem i_68 : isI 68 8 := ⟨rfl, rfl⟩
theorem i_69 : isI 69 8 := ⟨rfl, rfl⟩
theorem i_70 : isI 70 8 := ⟨rfl, rfl⟩
theorem i_71 : isI 71 8 := ⟨rfl, rfl⟩
theorem i_72 : isI 72 8 := ⟨rfl, rfl⟩
theorem o_73 : isO 73 0 := ⟨rfl, rfl⟩
theorem i_74 : isI 74 5 := ⟨rfl, rfl⟩
theorem i_75 : isI 75 5 := ⟨rfl, rfl⟩
theorem j_76 : isJ 76 64 := ⟨rfl, rfl⟩
theorem o_77 : isO 77 1 := ⟨rfl, rfl⟩
theorem i_78 : isI 78 9 := ⟨rfl, rfl⟩
theorem i_79 : isI 79 8 := ⟨rfl, rfl⟩
theorem o_80 : isO 80 6 := ⟨rfl, rfl⟩
theorem i_81 : isI 81 20 := ⟨rfl, rfl⟩
theorem o_82 : isO 82 10 := ⟨rfl, rfl⟩
theorem i_83 : isI 83 26 := ⟨rfl, rfl⟩
theorem i_84 : isI 84 26 := ⟨rfl, rfl⟩
theorem i_85 : isI 85 8 := ⟨rfl, rfl⟩
theorem i_86 : isI 86 40 := ⟨rfl, rfl⟩
theorem i_87 : isI 87 40 := ⟨rfl, rfl⟩
theorem i_88 : isI 88 768 := ⟨rfl, rfl⟩
theorem i_89 : isI 89 134 := ⟨rfl, rfl⟩
theorem z_90 : isZ 90 2 := ⟨rfl, rfl⟩
theorem i_91 : isI 91 80 := ⟨rfl, rfl⟩
theorem i_92 : isI 92 4 := ⟨rfl, rfl⟩
theorem i_93 : isI 93 4 := ⟨rfl, rfl⟩
theorem j_94 : isJ 94 96 := ⟨rfl, rfl⟩
theorem z_95 : isZ 95 1000 := ⟨rfl, rfl⟩
theorem j_96 : isJ 96 10 := ⟨rfl, rfl⟩
theorem i_97 : isI 97 4000 := ⟨rfl, rfl⟩
theorem ff_0_0 : ∀ c, isO c 0 → (ds c).2.2[0]? = some none := fun c h => (by decide +kernel : ∀ c, c < NC → isO c 0 → (ds c).2.2[0]? = some none) c (isO_lt h) h
theorem ff_0_1 : ∀ c, isO c 0 → (ds c).2.2[1]? = some none := fun c h => (by decide +kernel : ∀ c, c < NC → isO c 0 → (ds c).2.2[1]? = some none) c (isO_lt h) h
theorem fr_0_2 : (ds 73).2.2[2]? = some (some 74) := rfl
theorem fr_0_3 : (ds 73).2.2[3]? = some (some 75) := rfl
theorem fr_0_4 : (ds 73).2.2[4]? = some (some 76) := rfl
theorem ff_1_0 : ∀ c, isO c 1 → (ds c).2.2[0]? = some none := fun c h => (by decide +kernel : ∀ c, c < NC → isO c 1 → (ds c).2.2[0]? = some none) c (isO_lt h) h
theorem ff_1_1 : ∀ c, isO c 1 → (ds c).2.2[1]? = some none := fun c h => (by decide +kernel : ∀ c, c < NC → isO c 1 → (ds c).2.2[1]? = some none) c (isO_lt h) h
theorem ff_1_2 : ∀ c, isO c 1 → (ds c).2.2[2]? = some none := fun c h => (by decide +kernel : ∀ c, c < NC → isO c 1 → (ds c).2.2[2]? = some none) c (isO_lt h) h
theorem ff_1_3 : ∀ c, isO c 1 → (ds c).2.2[3]? = some none := fun c h => (by decide +kernel : ∀ c, c < NC → isO c 1 → (ds c).2.2[3]? = some none) c (isO_lt h) h
theorem fr_1_4 : (ds 77).2.2[4]? = some (some 78) := rfl
theorem fr_1_5 : (ds 77).2.2[5]? = some (some 79) := rfl
theorem ff_2_0 : ∀ c, isO c 2 → (ds c).2.2[0]? = some none := fun c h => (by decide +kernel : ∀ c, c < NC → isO c 2 → (ds c).2.2[0]? = some none) c (isO_lt h) h
theorem ff_2_1 : ∀ c, isO c 2 → (ds c).2.2[1]? = some none := fun c h => (by decide +kernel : ∀ c, c < NC → isO c 2 → (ds c).2.2[1]? = some none) c (isO_lt h) h
theorem ff_2_2 : ∀ c, isO c 2 → (ds c).2.2[2]? = some none := fun c h => (by decide +kernel : ∀ c, c < NC → isO c 2 → (ds c).2.2[2]? = some none) c (isO_lt h) h
theorem ff_2_3 : ∀ c, isO c 2 → (ds c).2.2[3]? = some none := fun c h => (by decide +kernel : ∀ c, c < NC → isO c 2 → (ds c).2.2[3]? = some none) c (isO_lt h) h
theorem fr_2_4 : ∀ c, isO c 2 → (ds c).2.2[4]? = some (some (c + 1)) := fun c h => (by decide +kernel : ∀ c, c < NC → isO c 2 → (ds c).2.2[4]? = some (some (c + 1))) c (isO_lt h) h
theorem fa_2_4 : ∀ c, isO c 2 → isI (c + 1) 8 := fun c h => (by decide +kernel : ∀ c, c < NC → isO c 2 → isI (c + 1) 8) c (isO_lt h) h
theorem fr_2_5 : ∀ c, isO c 2 → (ds c).2.2[5]? = some (some (c + 2)) := fun c h => (by decide +kernel : ∀ c, c < NC → isO c 2 → (ds c).2.2[5]? = some (some (c + 2))) c (isO_lt h) h
theorem fa_2_5 : ∀ c, isO c 2 → isI (c + 2) 8 := fun c h => (by decide +kernel : ∀ c, c < NC → isO c 2 → isI (c + 2) 8) c (isO_lt h) h
theorem fr_2_6 : ∀ c, isO c 2 → (ds c).2.2[6]? = some (some (c + 3)) := fun c h => (by decide +kernel : ∀ c, c < NC → isO c 2 → (ds c).2.2[6]? = some (some (c + 3))) c (isO_lt h) h
theorem fa_2_6 : ∀ c, isO c 2 → isI (c + 3) 8 := fun c h => (by decide +kernel : ∀ c, c < NC → isO c 2 → isI (c + 3) 8) c (isO_lt h) h
theorem fr_2_7 : ∀ c, isO c 2 → (ds c).2.2[7]? = some (some (c + 4)) := fun c h => (by decide +kernel : ∀ c, c < NC → isO c 2 → (ds c).2.2[7]? = some (some (c + 4))) c (isO_lt h) h
theorem fa_2_7 : ∀ c, isO c 2 → isI (c + 4) 12 := fun c h => (by decide +kernel : ∀ c, c < NC → isO c 2 → isI (c + 4) 12) c (isO_lt h) h
theorem fr_2_8 : ∀ c, isO c 2 → (ds c).2.2[8]? = some (some (c + 5)) := fun c h => (by decide +kernel : ∀ c, c < NC → isO c 2 → (ds c).2.2[8]? = some (some (c + 5))) c (isO_lt h) h
theorem fa_2_8 : ∀ c, isO c 2 → isI (c + 5) 3 := fun c h => (by decide +kernel : ∀ c, c < NC → isO c 2 → isI (c + 5) 3) c (isO_lt h) h
theorem ff_3_0 : ∀ c, isO c 3 → (ds c).2.2[0]? = some none := fun c h => (by decide +kernel : ∀ c, c < NC → isO c 3 → (ds c).2.2[0]? = some none) c (isO_lt h) h
theorem ff_3_1 : ∀ c, isO c 3 → (ds c).2.2[1]? = some none := fun c h => (by decide +kernel : ∀ c, c < NC → isO c 3 → (ds c).2.2[1]? = some none) c (isO_lt h) h
theorem fr_3_2 : (ds 16).2.2[2]? = some (some 17) := rfl
theorem ff_4_0 : ∀ c, isO c 4 → (ds c).2.2[0]? = some none := fun c h => (by decide +kernel : ∀ c, c < NC → isO c 4 → (ds c).2.2[0]? = some none) c (isO_lt h) h
theorem ff_4_1 : ∀ c, isO c 4 → (ds c).2.2[1]? = some none := fun c h => (by decide +kernel : ∀ c, c < NC → isO c 4 → (ds c).2.2[1]? = some none) c (isO_lt h) h
theorem fr_4_2 : (ds 64).2.2[2]? = some (some 65) := rfl
theorem fr_4_3 : (ds 64).2.2[3]? = some (some 66) := rfl
theorem fr_4_4 : (ds 64).2.2[4]? = some (some 67) := rfl
theorem fr_5_0 : (ds 3).2.2[0]? = some (some 4) := rfl
theorem ff_5_1 : ∀ c, isO c 5 → (ds c).2.2[1]? = some none := fun c h => (by decide +kernel : ∀ c, c < NC → isO c 5 → (ds c).2.2[1]? = some none) c (isO_lt h) h
theorem fr_5_2 : (ds 3).2.2[2]? = some (some 1) := rfl
theorem ff_6_0 : ∀ c, isO c 6 → (ds c).2.2[0]? = some none := fun c h => (by decide +kernel : ∀ c, c < NC → isO c 6 → (ds c).2.2[0]? = some none) c (isO_lt h) h
theorem ff_6_1 : ∀ c, isO c 6 → (ds c).2.2[1]? = some none := fun c h => (by decide +kernel : ∀ c, c < NC → isO c 6 → (ds c).2.2[1]? = some none) c (isO_lt h) h
theorem ff_7_0 : ∀ c, isO c 7 → (ds c).2.2[0]? = some none := fun c h => (by decide +kernel : ∀ c, c < NC → isO c 7 → (ds c).2.2[0]? = some none) c (isO_lt h) h
theorem ff_7_1 : ∀ c, isO c 7 → (ds c).2.2[1]? = some none := fun c h => (by decide +kernel : ∀ c, c < NC → isO c 7 → (ds c).2.2[1]? = some none) c (isO_lt h) h
theorem fr_7_2 : ∀ c, isO c 7 → (ds c).2.2[2]? = some (some (c + 1)) := fun c h => (by decide +kernel : ∀ c, c < NC → isO c 7 → (ds c).2.2[2]? = some (some (c + 1))) c (isO_lt h) h
theorem fa_7_2 : ∀ c, isO c 7 → isJ (c + 1) 24 := fun c h => (by decide +kernel : ∀ c, c < NC → isO c 7 → isJ (c + 1) 24) c (isO_lt h) h
theorem ff_8_0 : ∀ c, isO c 8 → (ds c).2.2[0]? = some none := fun c h => (by decide +kernel : ∀ c, c < NC → isO c 8 → (ds c).2.2[0]? = some none) c (isO_lt h) h
theorem fr_8_1 : (ds 1).2.2[1]? = some (some 2) := rfl
theorem fr_9_0 : (ds 0).2.2[0]? = some (some 1) := rfl
theorem fr_9_1 : (ds 0).2.2[1]? = some (some 3) := rfl
theorem fr_9_2 : (ds 0).2.2[2]? = some (some 10) := rfl
theorem fr_9_3 : (ds 0).2.2[3]? = some (some 16) := rfl
theorem fr_9_4 : (ds 0).2.2[4]? = some (some 42) := rfl
theorem fr_9_5 : (ds 0).2.2[5]? = some (some 55) := rfl
theorem fr_9_6 : (ds 0).2.2[6]? = some (some 64) := rfl
theorem fr_9_7 : (ds 0).2.2[7]? = some (some 73) := rfl
theorem fr_9_8 : (ds 0).2.2[8]? = some (some 77) := rfl
theorem fr_9_9 : (ds 0).2.2[9]? = some (some 80) := rfl
theorem fr_9_10 : (ds 0).2.2[10]? = some (some 81) := rfl
theorem fr_10_0 : (ds 82).2.2[0]? = some (some 83) := rfl
theorem fr_10_1 : (ds 82).2.2[1]? = some (some 84) := rfl
theorem fr_10_2 : (ds 82).2.2[2]? = some (some 85) := rfl
theorem fr_10_3 : (ds 82).2.2[3]? = some (some 86) := rfl
theorem fr_10_4 : (ds 82).2.2[4]? = some (some 87) := rfl
theorem ff_10_5 : ∀ c, isO c 10 → (ds c).2.2[5]? = some none := fun c h => (by decide +kernel : ∀ c, c < NC → isO c 10 → (ds c).2.2[5]? = some none) c (isO_lt h) h
theorem fr_10_6 : (ds 82).2.2[6]? = some (some 88) := rfl
theorem ff_10_7 : ∀ c, isO c 10 → (ds c).2.2[7]? = some none := fun c h => (by decide +kernel : ∀ c, c < NC → isO c 10 → (ds c).2.2[7]? = some none) c (isO_lt h) h
theorem fr_10_8 : (ds 82).2.2[8]? = some (some 89) := rfl
theorem fr_10_9 : (ds 82).2.2[9]? = some (some 90) := rfl
theorem fr_10_10 : (ds 82).2.2[10]? = some (some 91) := rfl
theorem ff_10_11 : ∀ c, isO c 10 → (ds c).2.2[11]? = some none := fun c h => (by decide +kernel : ∀ c, c < NC → isO c 10 → (ds c).2.2[11]? = some none) c (isO_lt h) h
theorem fr_10_12 : (ds 82).2.2[12]? = some (some 92) := rfl
theorem fr_10_13 : (ds 82).2.2[13]? = some (some 93) := rfl
theorem fr_10_14 : (ds 82).2.2[14]? = some (some 94) := rfl
theorem ff_10_15 : ∀ c, isO c 10 → (ds c).2.2[15]? = some none := fun c h => (by decide +kernel : ∀ c, c < NC → isO c 10 → (ds c).2.2[15]? = some none) c (isO_lt h) h
theorem ff_10_16 : ∀ c, isO c 10 → (ds c).2.2[16]? = some none := fun c h => (by decide +kernel : ∀ c, c < NC → isO c 10 → (ds c).2.2[16]? = some none) c (isO_lt h) h
theorem fr_10_17 : (ds 82).2.2[17]? = some (some 95) := rfl
theorem fr_10_18 : (ds 82).2.2[18]? = some (some 96) := rfl
theorem fr_10_19 : (ds 82).2.2[19]? = some (some 97) := rfl
theorem ff_10_20 : ∀ c, isO c 10 → (ds c).2.2[20]? = some none := fun c h => (by decide +kernel : ∀ c, c < NC → isO c 10 → (ds c).2.2[20]? = some none) c (isO_lt h) h
theorem ff_10_21 : ∀ c, isO c 10 → (ds c).2.2[21]? = some none := fun c h => (by decide +kernel : ∀ c, c < NC → isO c 10 → (ds c).2.2[21]? = some none) c (isO_lt h) h
theorem ar_17 : ∀ j, j < 24 → (ds 17).2.2[j]? = some (some (18 + j)) := (by decide +kernel)
theorem at_17 : ∀ j, j < 24 → isI (18 + j) 8 := (by decide +kernel)
theorem ar_42 : ∀ j, j < 2 → (ds 42).2.2[j]? = some (some (43 + 6 * j)) := (by decide +kernel)
theorem at_42 : ∀ j, j < 2 → isO (43 + 6 * j) 2 := (by decide +kernel)
theorem ar_55 : ∀ j, j < 4 → (ds 55).2.2[j]? = some (some (56 + 2 * j)) := (by decide +kernel)
theorem at_55 : ∀ j, j < 4 → isO (56 + 2 * j) 7 := (by decide +kernel)
theorem ar_67 : ∀ j, j < 5 → (ds 67).2.2[j]? = some (some (68 + j)) := (by decide +kernel)
theorem at_67 : ∀ j, j < 5 → isI (68 + j) 8 := (by decide +kernel)
theorem fl_X10_13 : gFl "WaxCloth$Tape" 13 8 0 := ⟨RX10, TX10, 2, rfl, by decide, in_X10, ws_in 73 (by decide +kernel) (by decide +kernel)⟩
theorem fp_X10_13 : gFp "WaxCloth$Tape" 13 8 0 := ⟨RX10, TX10, 2, tyX10, rfl, by decide, in_X10, ws_in 73 (by decide +kernel) (by decide +kernel), tyX10_ok, nmX10, rfl, rfl⟩
theorem fl_X11_86 : gFl "WaxCloth" 86 8 0 := ⟨RX10, TX10, 2, rfl, by decide, in_X10, ws_in 74 (by decide +kernel) (by decide +kernel)⟩
theorem fp_X11_86 : gFp "WaxCloth" 86 8 0 := ⟨RX10, TX10, 2, tyX10, rfl, by decide, in_X10, ws_in 74 (by decide +kernel) (by decide +kernel), tyX10_ok, nmX10, rfl, rfl⟩
theorem fl_X10_9 : gFl "WaxCloth$Tape" 9 8 1 := ⟨RX10, TX10, 2, rfl, by decide, in_X10, ws_in 75 (by decide +kernel) (by decide +kernel)⟩
theorem fl_X2_27 : gFl "WaxCloth$Cloth" 27 2 0 := ⟨RX2, TX2, 9, rfl, by decide, in_X2, ws_in 94 (by decide +kernel) (by decide +kernel)⟩
theorem fp_X2_27 : gFp "WaxCloth$Cloth" 27 2 0 := ⟨RX2, TX2, 9, tyX2, rfl, by decide, in_X2, ws_in 94 (by decide +kernel) (by decide +kernel), tyX2_ok, nmX2, rfl, rfl⟩
theorem fl_X7_16 : gFl "WaxCloth$Rounds" 16 2 0 := ⟨RX2, TX2, 9, rfl, by decide, in_X2, ws_in 95 (by decide +kernel) (by decide +kernel)⟩
theorem fp_X7_16 : gFp "WaxCloth$Rounds" 16 2 0 := ⟨RX2, TX2, 9, tyX2, rfl, by decide, in_X2, ws_in 95 (by decide +kernel) (by decide +kernel), tyX2_ok, nmX2, rfl, rfl⟩
theorem fl_X1_20 : gFl "WaxCloth$Chances" 20 2 0 := ⟨RX2, TX2, 9, rfl, by decide, in_X2, ws_in 96 (by decide +kernel) (by decide +kernel)⟩
theorem fp_X1_20 : gFp "WaxCloth$Chances" 20 2 0 := ⟨RX2, TX2, 9, tyX2, rfl, by decide, in_X2, ws_in 96 (by decide +kernel) (by decide +kernel), tyX2_ok, nmX2, rfl, rfl⟩
theorem fl_X5_45 : gFl "WaxCloth$Planner" 45 2 0 := ⟨RX2, TX2, 9, rfl, by decide, in_X2, ws_in 97 (by decide +kernel) (by decide +kernel)⟩
theorem fp_X5_45 : gFp "WaxCloth$Planner" 45 2 0 := ⟨RX2, TX2, 9, tyX2, rfl, by decide, in_X2, ws_in 97 (by decide +kernel) (by decide +kernel), tyX2_ok, nmX2, rfl, rfl⟩
theorem fl_X11_107 : gFl "WaxCloth" 107 2 0 := ⟨RX2, TX2, 9, rfl, by decide, in_X2, ws_in 98 (by decide +kernel) (by decide +kernel)⟩
theorem fp_X11_107 : gFp "WaxCloth" 107 2 0 := ⟨RX2, TX2, 9, tyX2, rfl, by decide, in_X2, ws_in 98 (by decide +kernel) (by decide +kernel), tyX2_ok, nmX2, rfl, rfl⟩
theorem fl_X6_47 : gFl "WaxCloth$Reader" 47 2 0 := ⟨RX2, TX2, 9, rfl, by decide, in_X2, ws_in 99 (by decide +kernel) (by decide +kernel)⟩
theorem fp_X6_47 : gFp "WaxCloth$Reader" 47 2 0 := ⟨RX2, TX2, 9, tyX2, rfl, by decide, in_X2, ws_in 99 (by decide +kernel) (by decide +kernel), tyX2_ok, nmX2, rfl, rfl⟩
theorem fl_X2_31 : gFl "WaxCloth$Cloth" 31 2 1 := ⟨RX2, TX2, 9, rfl, by decide, in_X2, ws_in 100 (by decide +kernel) (by decide +kernel)⟩
theorem fp_X2_31 : gFp "WaxCloth$Cloth" 31 2 1 := ⟨RX2, TX2, 9, tyX2, rfl, by decide, in_X2, ws_in 100 (by decide +kernel) (by decide +kernel), tyX2_ok, nmX2, rfl, rfl⟩
theorem fl_X0_39 : gFl "WaxCloth$Baths" 39 2 1 := ⟨RX2, TX2, 9, rfl, by decide, in_X2, ws_in 101 (by decide +kernel) (by decide +kernel)⟩
theorem fp_X0_39 : gFp "WaxCloth$Baths" 39 2 1 := ⟨RX2, TX2, 9, tyX2, rfl, by decide, in_X2, ws_in 101 (by decide +kernel) (by decide +kernel), tyX2_ok, nmX2, rfl, rfl⟩
theorem fl_X6_71 : gFl "WaxCloth$Reader" 71 2 1 := ⟨RX2, TX2, 9, rfl, by decide, in_X2, ws_in 102 (by decide +kernel) (by decide +kernel)⟩
theorem fp_X6_71 : gFp "WaxCloth$Reader" 71 2 1 := ⟨RX2, TX2, 9, tyX2, rfl, by decide, in_X2, ws_in 102 (by decide +kernel) (by decide +kernel), tyX2_ok, nmX2, rfl, rfl⟩
theorem fl_X11_317 : gFl "WaxCloth" 317 2 1 := ⟨RX2, TX2, 9, rfl, by decide, in_X2, ws_in 103 (by decide +kernel) (by decide +kernel)⟩
theorem fp_X11_317 : gFp "WaxCloth" 317 2 1 := ⟨RX2, TX2, 9, tyX2, rfl, by decide, in_X2, ws_in 103 (by decide +kernel) (by decide +kernel), tyX2_ok, nmX2, rfl, rfl⟩
theorem fl_X2_34 : gFl "WaxCloth$Cloth" 34 2 2 := ⟨RX2, TX2, 9, rfl, by decide, in_X2, ws_in 104 (by decide +kernel) (by decide +kernel)⟩
theorem fp_X2_34 : gFp "WaxCloth$Cloth" 34 2 2 := ⟨RX2, TX2, 9, tyX2, rfl, by decide, in_X2, ws_in 104 (by decide +kernel) (by decide +kernel), tyX2_ok, nmX2, rfl, rfl⟩
theorem fl_X6_84 : gFl "WaxCloth$Reader" 84 2 2 := ⟨RX2, TX2, 9, rfl, by decide, in_X2, ws_in 105 (by decide +kernel) (by decide +kernel)⟩
theorem fp_X6_84 : gFp "WaxCloth$Reader" 84 2 2 := ⟨RX2, TX2, 9, tyX2, rfl, by decide, in_X2, ws_in 105 (by decide +kernel) (by decide +kernel), tyX2_ok, nmX2, rfl, rfl⟩
theorem fl_X11_320 : gFl "WaxCloth" 320 2 2 := ⟨RX2, TX2, 9, rfl, by decide, in_X2, ws_in 106 (by decide +kernel) (by decide +kernel)⟩
theorem fp_X11_320 : gFp "WaxCloth" 320 2 2 := ⟨RX2, TX2, 9, tyX2, rfl, by decide, in_X2, ws_in 106 (by decide +kernel) (by decide +kernel), tyX2_ok, nmX2, rfl, rfl⟩
theorem fl_X2_37 : gFl "WaxCloth$Cloth" 37 2 3 := ⟨RX2, TX2, 9, rfl, by decide, in_X2, ws_in 107 (by decide +kernel) (by decide +kernel)⟩
theorem fp_X2_37 : gFp "WaxCloth$Cloth" 37 2 3 := ⟨RX2, TX2, 9, tyX2, rfl, by decide, in_X2, ws_in 107 (by decide +kernel) (by decide +kernel), tyX2_ok, nmX2, rfl, rfl⟩
theorem fl_X11_170 : gFl "WaxCloth" 170 2 3 := ⟨RX2, TX2, 9, rfl, by decide, in_X2, ws_in 108 (by decide +kernel) (by decide +kernel)⟩
theorem fp_X11_170 : gFp "WaxCloth" 170 2 3 := ⟨RX2, TX2, 9, tyX2, rfl, by decide, in_X2, ws_in 108 (by decide +kernel) (by decide +kernel), tyX2_ok, nmX2, rfl, rfl⟩
theorem fl_X2_9 : gFl "WaxCloth$Cloth" 9 2 4 := ⟨RX2, TX2, 9, rfl, by decide, in_X2, ws_in 109 (by decide +kernel) (by decide +kernel)⟩
theorem fl_X11_116 : gFl "WaxCloth" 116 2 4 := ⟨RX2, TX2, 9, rfl, by decide, in_X2, ws_in 110 (by decide +kernel) (by decide +kernel)⟩
theorem fl_X6_61 : gFl "WaxCloth$Reader" 61 2 4 := ⟨RX2, TX2, 9, rfl, by decide, in_X2, ws_in 111 (by decide +kernel) (by decide +kernel)⟩
theorem fl_X2_13 : gFl "WaxCloth$Cloth" 13 2 5 := ⟨RX2, TX2, 9, rfl, by decide, in_X2, ws_in 112 (by decide +kernel) (by decide +kernel)⟩
theorem fl_X11_119 : gFl "WaxCloth" 119 2 5 := ⟨RX2, TX2, 9, rfl, by decide, in_X2, ws_in 113 (by decide +kernel) (by decide +kernel)⟩
theorem fl_X6_65 : gFl "WaxCloth$Reader" 65 2 5 := ⟨RX2, TX2, 9, rfl, by decide, in_X2, ws_in 114 (by decide +kernel) (by decide +kernel)⟩
theorem fl_X2_16 : gFl "WaxCloth$Cloth" 16 2 6 := ⟨RX2, TX2, 9, rfl, by decide, in_X2, ws_in 115 (by decide +kernel) (by decide +kernel)⟩
theorem fl_X5_25 : gFl "WaxCloth$Planner" 25 2 6 := ⟨RX2, TX2, 9, rfl, by decide, in_X2, ws_in 116 (by decide +kernel) (by decide +kernel)⟩
theorem fl_X1_24 : gFl "WaxCloth$Chances" 24 2 6 := ⟨RX2, TX2, 9, rfl, by decide, in_X2, ws_in 117 (by decide +kernel) (by decide +kernel)⟩
theorem fl_X7_40 : gFl "WaxCloth$Rounds" 40 2 6 := ⟨RX2, TX2, 9, rfl, by decide, in_X2, ws_in 118 (by decide +kernel) (by decide +kernel)⟩
theorem fl_X11_113 : gFl "WaxCloth" 113 2 6 := ⟨RX2, TX2, 9, rfl, by decide, in_X2, ws_in 119 (by decide +kernel) (by decide +kernel)⟩
theorem fl_X2_21 : gFl "WaxCloth$Cloth" 21 2 7 := ⟨RX2, TX2, 9, rfl, by decide, in_X2, ws_in 120 (by decide +kernel) (by decide +kernel)⟩
theorem fl_X6_74 : gFl "WaxCloth$Reader" 74 2 7 := ⟨RX2, TX2, 9, rfl, by decide, in_X2, ws_in 121 (by decide +kernel) (by decide +kernel)⟩
theorem fl_X2_24 : gFl "WaxCloth$Cloth" 24 2 8 := ⟨RX2, TX2, 9, rfl, by decide, in_X2, ws_in 122 (by decide +kernel) (by decide +kernel)⟩
theorem fl_X11_159 : gFl "WaxCloth" 159 2 8 := ⟨RX2, TX2, 9, rfl, by decide, in_X2, ws_in 123 (by decide +kernel) (by decide +kernel)⟩
theorem fl_X6_81 : gFl "WaxCloth$Reader" 81 2 8 := ⟨RX2, TX2, 9, rfl, by decide, in_X2, ws_in 124 (by decide +kernel) (by decide +kernel)⟩
theorem fl_X6_10 : gFl "WaxCloth$Reader" 10 5 0 := ⟨RX6, TX6, 3, rfl, by decide, in_X6, ws_in 144 (by decide +kernel) (by decide +kernel)⟩
theorem fl_X11_97 : gFl "WaxCloth" 97 5 0 := ⟨RX6, TX6, 3, rfl, by decide, in_X6, ws_in 145 (by decide +kernel) (by decide +kernel)⟩
theorem fl_X6_20 : gFl "WaxCloth$Reader" 20 5 1 := ⟨RX6, TX6, 3, rfl, by decide, in_X6, ws_in 146 (by decide +kernel) (by decide +kernel)⟩
theorem fp_X6_20 : gFp "WaxCloth$Reader" 20 5 1 := ⟨RX6, TX6, 3, tyX6, rfl, by decide, in_X6, ws_in 146 (by decide +kernel) (by decide +kernel), tyX6_ok, nmX6, rfl, rfl⟩
theorem fl_X11_94 : gFl "WaxCloth" 94 5 1 := ⟨RX6, TX6, 3, rfl, by decide, in_X6, ws_in 147 (by decide +kernel) (by decide +kernel)⟩
theorem fp_X11_94 : gFp "WaxCloth" 94 5 1 := ⟨RX6, TX6, 3, tyX6, rfl, by decide, in_X6, ws_in 147 (by decide +kernel) (by decide +kernel), tyX6_ok, nmX6, rfl, rfl⟩
theorem fl_X6_16 : gFl "WaxCloth$Reader" 16 5 2 := ⟨RX6, TX6, 3, rfl, by decide, in_X6, ws_in 148 (by decide +kernel) (by decide +kernel)⟩
theorem fl_X4_16 : gFl "WaxCloth$Past" 16 3 0 := ⟨RX4, TX4, 3, rfl, by decide, in_X4, ws_in 166 (by decide +kernel) (by decide +kernel)⟩
theorem fp_X4_16 : gFp "WaxCloth$Past" 16 3 0 := ⟨RX4, TX4, 3, tyX4, rfl, by decide, in_X4, ws_in 166 (by decide +kernel) (by decide +kernel), tyX4_ok, nmX4, rfl, rfl⟩
theorem fl_X11_189 : gFl "WaxCloth" 189 3 0 := ⟨RX4, TX4, 3, rfl, by decide, in_X4, ws_in 167 (by decide +kernel) (by decide +kernel)⟩
theorem fp_X11_189 : gFp "WaxCloth" 189 3 0 := ⟨RX4, TX4, 3, tyX4, rfl, by decide, in_X4, ws_in 167 (by decide +kernel) (by decide +kernel), tyX4_ok, nmX4, rfl, rfl⟩
theorem fl_X4_20 : gFl "WaxCloth$Past" 20 3 1 := ⟨RX4, TX4, 3, rfl, by decide, in_X4, ws_in 168 (by decide +kernel) (by decide +kernel)⟩
theorem fp_X4_20 : gFp "WaxCloth$Past" 20 3 1 := ⟨RX4, TX4, 3, tyX4, rfl, by decide, in_X4, ws_in 168 (by decide +kernel) (by decide +kernel), tyX4_ok, nmX4, rfl, rfl⟩
theorem fl_X4_13 : gFl "WaxCloth$Past" 13 3 2 := ⟨RX4, TX4, 3, rfl, by decide, in_X4, ws_in 169 (by decide +kernel) (by decide +kernel)⟩
theorem fl_X8_11 : gFl "WaxCloth$Sheet" 11 7 0 := ⟨RX8, TX8, 3, rfl, by decide, in_X8, ws_in 185 (by decide +kernel) (by decide +kernel)⟩
theorem fp_X8_11 : gFp "WaxCloth$Sheet" 11 7 0 := ⟨RX8, TX8, 3, tyX8, rfl, by decide, in_X8, ws_in 185 (by decide +kernel) (by decide +kernel), tyX8_ok, nmX8, rfl, rfl⟩
theorem fl_X11_273 : gFl "WaxCloth" 273 7 0 := ⟨RX8, TX8, 3, rfl, by decide, in_X8, ws_in 186 (by decide +kernel) (by decide +kernel)⟩
theorem fp_X11_273 : gFp "WaxCloth" 273 7 0 := ⟨RX8, TX8, 3, tyX8, rfl, by decide, in_X8, ws_in 186 (by decide +kernel) (by decide +kernel), tyX8_ok, nmX8, rfl, rfl⟩
theorem fl_X8_19 : gFl "WaxCloth$Sheet" 19 7 1 := ⟨RX8, TX8, 3, rfl, by decide, in_X8, ws_in 187 (by decide +kernel) (by decide +kernel)⟩
theorem fp_X8_19 : gFp "WaxCloth$Sheet" 19 7 1 := ⟨RX8, TX8, 3, tyX8, rfl, by decide, in_X8, ws_in 187 (by decide +kernel) (by decide +kernel), tyX8_ok, nmX8, rfl, rfl⟩
theorem fl_X8_15 : gFl "WaxCloth$Sheet" 15 7 2 := ⟨RX8, TX8, 3, rfl, by decide, in_X8, ws_in 188 (by decide +kernel) (by decide +kernel)⟩
theorem fl_X11_279 : gFl "WaxCloth" 279 7 2 := ⟨RX8, TX8, 3, rfl, by decide, in_X8, ws_in 189 (by decide +kernel) (by decide +kernel)⟩
theorem fl_X5_38 : gFl "WaxCloth$Planner" 38 4 0 := ⟨RX5, TX5, 5, rfl, by decide, in_X5, ws_in 205 (by decide +kernel) (by decide +kernel)⟩
theorem fp_X5_38 : gFp "WaxCloth$Planner" 38 4 0 := ⟨RX5, TX5, 5, tyX5, rfl, by decide, in_X5, ws_in 205 (by decide +kernel) (by decide +kernel), tyX5_ok, nmX5, rfl, rfl⟩
theorem fl_X11_199 : gFl "WaxCloth" 199 4 0 := ⟨RX5, TX5, 5, rfl, by decide, in_X5, ws_in 206 (by decide +kernel) (by decide +kernel)⟩
theorem fp_X11_199 : gFp "WaxCloth" 199 4 0 := ⟨RX5, TX5, 5, tyX5, rfl, by decide, in_X5, ws_in 206 (by decide +kernel) (by decide +kernel), tyX5_ok, nmX5, rfl, rfl⟩
theorem fl_X5_42 : gFl "WaxCloth$Planner" 42 4 1 := ⟨RX5, TX5, 5, rfl, by decide, in_X5, ws_in 207 (by decide +kernel) (by decide +kernel)⟩
theorem fp_X5_42 : gFp "WaxCloth$Planner" 42 4 1 := ⟨RX5, TX5, 5, tyX5, rfl, by decide, in_X5, ws_in 207 (by decide +kernel) (by decide +kernel), tyX5_ok, nmX5, rfl, rfl⟩
theorem fl_X11_202 : gFl "WaxCloth" 202 4 1 := ⟨RX5, TX5, 5, rfl, by decide, in_X5, ws_in 208 (by decide +kernel) (by decide +kernel)⟩
theorem fp_X11_202 : gFp "WaxCloth" 202 4 1 := ⟨RX5, TX5, 5, tyX5, rfl, by decide, in_X5, ws_in 208 (by decide +kernel) (by decide +kernel), tyX5_ok, nmX5, rfl, rfl⟩
theorem fl_X5_9 : gFl "WaxCloth$Planner" 9 4 2 := ⟨RX5, TX5, 5, rfl, by decide, in_X5, ws_in 209 (by decide +kernel) (by decide +kernel)⟩
theorem fl_X11_205 : gFl "WaxCloth" 205 4 2 := ⟨RX5, TX5, 5, rfl, by decide, in_X5, ws_in 210 (by decide +kernel) (by decide +kernel)⟩
theorem fl_X5_15 : gFl "WaxCloth$Planner" 15 4 3 := ⟨RX5, TX5, 5, rfl, by decide, in_X5, ws_in 211 (by decide +kernel) (by decide +kernel)⟩
theorem fl_X5_22 : gFl "WaxCloth$Planner" 22 4 4 := ⟨RX5, TX5, 5, rfl, by decide, in_X5, ws_in 212 (by decide +kernel) (by decide +kernel)⟩
theorem fl_X0_24 : gFl "WaxCloth$Baths" 24 0 0 := ⟨RX0, TX0, 5, rfl, by decide, in_X0, ws_in 230 (by decide +kernel) (by decide +kernel)⟩
theorem fp_X0_24 : gFp "WaxCloth$Baths" 24 0 0 := ⟨RX0, TX0, 5, tyX0, rfl, by decide, in_X0, ws_in 230 (by decide +kernel) (by decide +kernel), tyX0_ok, nmX0, rfl, rfl⟩
theorem fl_X11_219 : gFl "WaxCloth" 219 0 0 := ⟨RX0, TX0, 5, rfl, by decide, in_X0, ws_in 231 (by decide +kernel) (by decide +kernel)⟩
theorem fp_X11_219 : gFp "WaxCloth" 219 0 0 := ⟨RX0, TX0, 5, tyX0, rfl, by decide, in_X0, ws_in 231 (by decide +kernel) (by decide +kernel), tyX0_ok, nmX0, rfl, rfl⟩
theorem fl_X0_28 : gFl "WaxCloth$Baths" 28 0 1 := ⟨RX0, TX0, 5, rfl, by decide, in_X0, ws_in 232 (by decide +kernel) (by decide +kernel)⟩
theorem fp_X0_28 : gFp "WaxCloth$Baths" 28 0 1 := ⟨RX0, TX0, 5, tyX0, rfl, by decide, in_X0, ws_in 232 (by decide +kernel) (by decide +kernel), tyX0_ok, nmX0, rfl, rfl⟩
theorem fl_X11_225 : gFl "WaxCloth" 225 0 1 := ⟨RX0, TX0, 5, rfl, by decide, in_X0, ws_in 233 (by decide +kernel) (by decide +kernel)⟩
theorem fp_X11_225 : gFp "WaxCloth" 225 0 1 := ⟨RX0, TX0, 5, tyX0, rfl, by decide, in_X0, ws_in 233 (by decide +kernel) (by decide +kernel), tyX0_ok, nmX0, rfl, rfl⟩
theorem fl_X0_9 : gFl "WaxCloth$Baths" 9 0 2 := ⟨RX0, TX0, 5, rfl, by decide, in_X0, ws_in 234 (by decide +kernel) (by decide +kernel)⟩
theorem fl_X11_222 : gFl "WaxCloth" 222 0 2 := ⟨RX0, TX0, 5, rfl, by decide, in_X0, ws_in 235 (by decide +kernel) (by decide +kernel)⟩
theorem fl_X0_15 : gFl "WaxCloth$Baths" 15 0 3 := ⟨RX0, TX0, 5, rfl, by decide, in_X0, ws_in 236 (by decide +kernel) (by decide +kernel)⟩
theorem fl_X0_20 : gFl "WaxCloth$Baths" 20 0 4 := ⟨RX0, TX0, 5, rfl, by decide, in_X0, ws_in 237 (by decide +kernel) (by decide +kernel)⟩
theorem fl_X1_47 : gFl "WaxCloth$Chances" 47 1 0 := ⟨RX1, TX1, 6, rfl, by decide, in_X1, ws_in 255 (by decide +kernel) (by decide +kernel)⟩
theorem fp_X1_47 : gFp "WaxCloth$Chances" 47 1 0 := ⟨RX1, TX1, 6, tyX1, rfl, by decide, in_X1, ws_in 255 (by decide +kernel) (by decide +kernel), tyX1_ok, nmX1, rfl, rfl⟩
theorem fl_X11_231 : gFl "WaxCloth" 231 1 0 := ⟨RX1, TX1, 6, rfl, by decide, in_X1, ws_in 256 (by decide +kernel) (by decide +kernel)⟩
theorem fp_X11_231 : gFp "WaxCloth" 231 1 0 := ⟨RX1, TX1, 6, tyX1, rfl, by decide, in_X1, ws_in 256 (by decide +kernel) (by decide +kernel), tyX1_ok, nmX1, rfl, rfl⟩
theorem fl_X1_50 : gFl "WaxCloth$Chances" 50 1 1 := ⟨RX1, TX1, 6, rfl, by decide, in_X1, ws_in 257 (by decide +kernel) (by decide +kernel)⟩
theorem fp_X1_50 : gFp "WaxCloth$Chances" 50 1 1 := ⟨RX1, TX1, 6, tyX1, rfl, by decide, in_X1, ws_in 257 (by decide +kernel) (by decide +kernel), tyX1_ok, nmX1, rfl, rfl⟩
theorem fl_X11_234 : gFl "WaxCloth" 234 1 1 := ⟨RX1, TX1, 6, rfl, by decide, in_X1, ws_in 258 (by decide +kernel) (by decide +kernel)⟩
theorem fp_X11_234 : gFp "WaxCloth" 234 1 1 := ⟨RX1, TX1, 6, tyX1, rfl, by decide, in_X1, ws_in 258 (by decide +kernel) (by decide +kernel), tyX1_ok, nmX1, rfl, rfl⟩
theorem fl_X1_86 : gFl "WaxCloth$Chances" 86 1 2 := ⟨RX1, TX1, 6, rfl, by decide, in_X1, ws_in 259 (by decide +kernel) (by decide +kernel)⟩
theorem fp_X1_86 : gFp "WaxCloth$Chances" 86 1 2 := ⟨RX1, TX1, 6, tyX1, rfl, by decide, in_X1, ws_in 259 (by decide +kernel) (by decide +kernel), tyX1_ok, nmX1, rfl, rfl⟩
theorem fl_X11_242 : gFl "WaxCloth" 242 1 2 := ⟨RX1, TX1, 6, rfl, by decide, in_X1, ws_in 260 (by decide +kernel) (by decide +kernel)⟩
theorem fp_X11_242 : gFp "WaxCloth" 242 1 2 := ⟨RX1, TX1, 6, tyX1, rfl, by decide, in_X1, ws_in 260 (by decide +kernel) (by decide +kernel), tyX1_ok, nmX1, rfl, rfl⟩
theorem fl_X1_59 : gFl "WaxCloth$Chances" 59 1 3 := ⟨RX1, TX1, 6, rfl, by decide, in_X1, ws_in 261 (by decide +kernel) (by decide +kernel)⟩
theorem fp_X1_59 : gFp "WaxCloth$Chances" 59 1 3 := ⟨RX1, TX1, 6, tyX1, rfl, by decide, in_X1, ws_in 261 (by decide +kernel) (by decide +kernel), tyX1_ok, nmX1, rfl, rfl⟩
theorem fl_X11_245 : gFl "WaxCloth" 245 1 3 := ⟨RX1, TX1, 6, rfl, by decide, in_X1, ws_in 262 (by decide +kernel) (by decide +kernel)⟩
theorem fp_X11_245 : gFp "WaxCloth" 245 1 3 := ⟨RX1, TX1, 6, tyX1, rfl, by decide, in_X1, ws_in 262 (by decide +kernel) (by decide +kernel), tyX1_ok, nmX1, rfl, rfl⟩
theorem fl_X1_11 : gFl "WaxCloth$Chances" 11 1 4 := ⟨RX1, TX1, 6, rfl, by decide, in_X1, ws_in 263 (by decide +kernel) (by decide +kernel)⟩
theorem fl_X1_17 : gFl "WaxCloth$Chances" 17 1 5 := ⟨RX1, TX1, 6, rfl, by decide, in_X1, ws_in 264 (by decide +kernel) (by decide +kernel)⟩
theorem fl_X7_7 : gFl "WaxCloth$Rounds" 7 6 0 := ⟨RX7, TX7, 2, rfl, by decide, in_X7, ws_in 284 (by decide +kernel) (by decide +kernel)⟩
theorem fp_X7_7 : gFp "WaxCloth$Rounds" 7 6 0 := ⟨RX7, TX7, 2, tyX7, rfl, by decide, in_X7, ws_in 284 (by decide +kernel) (by decide +kernel), tyX7_ok, nmX7, rfl, rfl⟩
theorem fl_X11_300 : gFl "WaxCloth" 300 6 0 := ⟨RX7, TX7, 2, rfl, by decide, in_X7, ws_in 285 (by decide +kernel) (by decide +kernel)⟩
theorem fp_X11_300 : gFp "WaxCloth" 300 6 0 := ⟨RX7, TX7, 2, tyX7, rfl, by decide, in_X7, ws_in 285 (by decide +kernel) (by decide +kernel), tyX7_ok, nmX7, rfl, rfl⟩
theorem fl_X7_13 : gFl "WaxCloth$Rounds" 13 6 1 := ⟨RX7, TX7, 2, rfl, by decide, in_X7, ws_in 286 (by decide +kernel) (by decide +kernel)⟩
theorem fp_X7_13 : gFp "WaxCloth$Rounds" 13 6 1 := ⟨RX7, TX7, 2, tyX7, rfl, by decide, in_X7, ws_in 286 (by decide +kernel) (by decide +kernel), tyX7_ok, nmX7, rfl, rfl⟩
theorem fl_X11_303 : gFl "WaxCloth" 303 6 1 := ⟨RX7, TX7, 2, rfl, by decide, in_X7, ws_in 287 (by decide +kernel) (by decide +kernel)⟩
theorem fp_X11_303 : gFp "WaxCloth" 303 6 1 := ⟨RX7, TX7, 2, tyX7, rfl, by decide, in_X7, ws_in 287 (by decide +kernel) (by decide +kernel), tyX7_ok, nmX7, rfl, rfl⟩
theorem fl_X11_10 : gFl "WaxCloth" 10 9 0 := ⟨RX11, TX11, 11, rfl, by decide, in_X11, ws_in 293 (by decide +kernel) (by decide +kernel)⟩
theorem fl_X11_21 : gFl "WaxCloth" 21 9 1 := ⟨RX11, TX11, 11, rfl, by decide, in_X11, ws_in 294 (by decide +kernel) (by decide +kernel)⟩
theorem fl_X11_28 : gFl "WaxCloth" 28 9 2 := ⟨RX11, TX11, 11, rfl, by decide, in_X11, ws_in 295 (by decide +kernel) (by decide +kernel)⟩
theorem fl_X11_35 : gFl "WaxCloth" 35 9 3 := ⟨RX11, TX11, 11, rfl, by decide, in_X11, ws_in 296 (by decide +kernel) (by decide +kernel)⟩
theorem fl_X11_39 : gFl "WaxCloth" 39 9 4 := ⟨RX11, TX11, 11, rfl, by decide, in_X11, ws_in 297 (by decide +kernel) (by decide +kernel)⟩
theorem fl_X11_45 : gFl "WaxCloth" 45 9 5 := ⟨RX11, TX11, 11, rfl, by decide, in_X11, ws_in 298 (by decide +kernel) (by decide +kernel)⟩
theorem fl_X11_53 : gFl "WaxCloth" 53 9 6 := ⟨RX11, TX11, 11, rfl, by decide, in_X11, ws_in 299 (by decide +kernel) (by decide +kernel)⟩
theorem fl_X11_60 : gFl "WaxCloth" 60 9 7 := ⟨RX11, TX11, 11, rfl, by decide, in_X11, ws_in 300 (by decide +kernel) (by decide +kernel)⟩
theorem fl_X11_67 : gFl "WaxCloth" 67 9 8 := ⟨RX11, TX11, 11, rfl, by decide, in_X11, ws_in 301 (by decide +kernel) (by decide +kernel)⟩
theorem fl_X11_74 : gFl "WaxCloth" 74 9 9 := ⟨RX11, TX11, 11, rfl, by decide, in_X11, ws_in 302 (by decide +kernel) (by decide +kernel)⟩
theorem fl_X11_78 : gFl "WaxCloth" 78 9 10 := ⟨RX11, TX11, 11, rfl, by decide, in_X11, ws_in 303 (by decide +kernel) (by decide +kernel)⟩
theorem ml_L_13 : Cond.methodLink "WaxClothLaw" 13 yX11_feed ∈ WS := ws_in 327 (by decide +kernel) (by decide +kernel)
theorem vy_X11_feed : gV yX11_feed cX11_feed 2 (some .int) 1 9 := ⟨⟨TX11, 11, rfl⟩, ws_in 330 (by decide +kernel) (by decide +kernel), ws_in 328 (by decide +kernel) (by decide +kernel), ws_in 329 (by decide +kernel) (by decide +kernel), ws_in 43 (by decide +kernel) (by decide +kernel), ⟨by decide, by decide, by decide +kernel⟩, by decide⟩
theorem ml_X11_82 : Cond.methodLink "WaxCloth" 82 yX10_put ∈ WS := ws_in 331 (by decide +kernel) (by decide +kernel)
theorem vy_X10_put : gV yX10_put cX10_put 2 (some .boolean) 1 8 := ⟨⟨TX10, 2, rfl⟩, ws_in 334 (by decide +kernel) (by decide +kernel), ws_in 332 (by decide +kernel) (by decide +kernel), ws_in 333 (by decide +kernel) (by decide +kernel), ws_in 44 (by decide +kernel) (by decide +kernel), ⟨by decide, by decide, by decide +kernel⟩, by decide⟩
theorem ml_L_18 : Cond.methodLink "WaxClothLaw" 18 yX11_cloth ∈ WS := ws_in 335 (by decide +kernel) (by decide +kernel)
theorem vy_X11_cloth : gV yX11_cloth cX11_cloth 2 (some .int) 0 9 := ⟨⟨TX11, 11, rfl⟩, ws_in 338 (by decide +kernel) (by decide +kernel), ws_in 336 (by decide +kernel) (by decide +kernel), ws_in 337 (by decide +kernel) (by decide +kernel), ws_in 43 (by decide +kernel) (by decide +kernel), ⟨by decide, by decide, by decide +kernel⟩, by decide⟩
theorem ml_X11_90 : Cond.methodLink "WaxCloth" 90 yX6_read ∈ WS := ws_in 339 (by decide +kernel) (by decide +kernel)
theorem vy_X6_read : gV yX6_read cX6_read 1 (some .boolean) 0 5 := ⟨⟨TX6, 3, rfl⟩, ws_in 342 (by decide +kernel) (by decide +kernel), ws_in 340 (by decide +kernel) (by decide +kernel), ws_in 341 (by decide +kernel) (by decide +kernel), ws_in 45 (by decide +kernel) (by decide +kernel), ⟨by decide, by decide, by decide +kernel⟩, by decide⟩
theorem ml_X6_24 : Cond.methodLink "WaxCloth$Reader" 24 yX6_sign ∈ WS := ws_in 343 (by decide +kernel) (by decide +kernel)
theorem vy_X6_sign : gV yX6_sign cX6_sign 2 (some .boolean) 1 5 := ⟨⟨TX6, 3, rfl⟩, ws_in 346 (by decide +kernel) (by decide +kernel), ws_in 345 (by decide +kernel) (by decide +kernel), ws_in 0 (by decide +kernel) (by decide +kernel), ws_in 45 (by decide +kernel) (by decide +kernel), ⟨by decide, by decide, by decide +kernel⟩, by decide⟩
theorem ml_X6_38 : Cond.methodLink "WaxCloth$Reader" 38 yX10_at ∈ WS := ws_in 347 (by decide +kernel) (by decide +kernel)
theorem vy_X10_at : gV yX10_at cX10_at 2 (some .int) 1 8 := ⟨⟨TX10, 2, rfl⟩, ws_in 350 (by decide +kernel) (by decide +kernel), ws_in 348 (by decide +kernel) (by decide +kernel), ws_in 349 (by decide +kernel) (by decide +kernel), ws_in 44 (by decide +kernel) (by decide +kernel), ⟨by decide, by decide, by decide +kernel⟩, by decide⟩
theorem ml_X6_28 : Cond.methodLink "WaxCloth$Reader" 28 yX6_readSquares ∈ WS := ws_in 351 (by decide +kernel) (by decide +kernel)
theorem vy_X6_readSquares : gV yX6_readSquares cX6_readSquares 2 (some .boolean) 0 5 := ⟨⟨TX6, 3, rfl⟩, ws_in 354 (by decide +kernel) (by decide +kernel), ws_in 353 (by decide +kernel) (by decide +kernel), ws_in 1 (by decide +kernel) (by decide +kernel), ws_in 45 (by decide +kernel) (by decide +kernel), ⟨by decide, by decide, by decide +kernel⟩, by decide⟩
theorem ml_X6_44 : Cond.methodLink "WaxCloth$Reader" 44 yX6_readSquare ∈ WS := ws_in 355 (by decide +kernel) (by decide +kernel)
theorem vy_X6_readSquare : gV yX6_readSquare cX6_readSquare 4 (some .boolean) 1 5 := ⟨⟨TX6, 3, rfl⟩, ws_in 358 (by decide +kernel) (by decide +kernel), ws_in 357 (by decide +kernel) (by decide +kernel), ws_in 2 (by decide +kernel) (by decide +kernel), ws_in 45 (by decide +kernel) (by decide +kernel), ⟨by decide, by decide, by decide +kernel⟩, by decide⟩
theorem ml_X6_50 : Cond.methodLink "WaxCloth$Reader" 50 yX3_ofLetter ∈ WS := ws_in 359 (by decide +kernel) (by decide +kernel)
theorem vy_X3_ofLetter : gT yX3_ofLetter cX3_ofLetter 1 (some .int) 1 := ⟨ws_in 361 (by decide +kernel) (by decide +kernel), ws_in 360 (by decide +kernel) (by decide +kernel), ws_in 54 (by decide +kernel) (by decide +kernel), ⟨by decide, by decide, by decide +kernel⟩, by decide⟩
theorem ml_X6_57 : Cond.methodLink "WaxCloth$Reader" 57 yX6_figure ∈ WS := ws_in 362 (by decide +kernel) (by decide +kernel)
theorem vy_X6_figure : gV yX6_figure cX6_figure 4 (some .int) 2 5 := ⟨⟨TX6, 3, rfl⟩, ws_in 365 (by decide +kernel) (by decide +kernel), ws_in 364 (by decide +kernel) (by decide +kernel), ws_in 3 (by decide +kernel) (by decide +kernel), ws_in 45 (by decide +kernel) (by decide +kernel), ⟨by decide, by decide, by decide +kernel⟩, by decide⟩
theorem ml_X6_32 : Cond.methodLink "WaxCloth$Reader" 32 yX6_readDyes ∈ WS := ws_in 366 (by decide +kernel) (by decide +kernel)
theorem vy_X6_readDyes : gV yX6_readDyes cX6_readDyes 2 (some .boolean) 0 5 := ⟨⟨TX6, 3, rfl⟩, ws_in 369 (by decide +kernel) (by decide +kernel), ws_in 368 (by decide +kernel) (by decide +kernel), ws_in 4 (by decide +kernel) (by decide +kernel), ws_in 45 (by decide +kernel) (by decide +kernel), ⟨by decide, by decide, by decide +kernel⟩, by decide⟩
theorem ml_X6_68 : Cond.methodLink "WaxCloth$Reader" 68 yX6_readDye ∈ WS := ws_in 370 (by decide +kernel) (by decide +kernel)
theorem vy_X6_readDye : gV yX6_readDye cX6_readDye 4 (some .boolean) 1 5 := ⟨⟨TX6, 3, rfl⟩, ws_in 373 (by decide +kernel) (by decide +kernel), ws_in 372 (by decide +kernel) (by decide +kernel), ws_in 5 (by decide +kernel) (by decide +kernel), ws_in 45 (by decide +kernel) (by decide +kernel), ⟨by decide, by decide, by decide +kernel⟩, by decide⟩
theorem ml_X6_35 : Cond.methodLink "WaxCloth$Reader" 35 yX6_readStencils ∈ WS := ws_in 374 (by decide +kernel) (by decide +kernel)
theorem vy_X6_readStencils : gV yX6_readStencils cX6_readStencils 3 (some .boolean) 0 5 := ⟨⟨TX6, 3, rfl⟩, ws_in 377 (by decide +kernel) (by decide +kernel), ws_in 376 (by decide +kernel) (by decide +kernel), ws_in 6 (by decide +kernel) (by decide +kernel), ws_in 45 (by decide +kernel) (by decide +kernel), ⟨by decide, by decide, by decide +kernel⟩, by decide⟩
theorem ml_X6_77 : Cond.methodLink "WaxCloth$Reader" 77 yX6_readStencil ∈ WS := ws_in 378 (by decide +kernel) (by decide +kernel)
theorem vy_X6_readStencil : gV yX6_readStencil cX6_readStencil 5 (some .int) 0 5 := ⟨⟨TX6, 3, rfl⟩, ws_in 381 (by decide +kernel) (by decide +kernel), ws_in 380 (by decide +kernel) (by decide +kernel), ws_in 7 (by decide +kernel) (by decide +kernel), ws_in 45 (by decide +kernel) (by decide +kernel), ⟨by decide, by decide, by decide +kernel⟩, by decide⟩
theorem ml_X11_100 : Cond.methodLink "WaxCloth" 100 yX2_become ∈ WS := ws_in 382 (by decide +kernel) (by decide +kernel)
theorem vy_X2_become : gV yX2_become cX2_become 2 none 1 2 := ⟨⟨TX2, 9, rfl⟩, ws_in 385 (by decide +kernel) (by decide +kernel), ws_in 383 (by decide +kernel) (by decide +kernel), ws_in 384 (by decide +kernel) (by decide +kernel), ws_in 46 (by decide +kernel) (by decide +kernel), ⟨by decide, by decide, by decide +kernel⟩, by decide⟩
theorem ml_X2_40 : Cond.methodLink "WaxCloth$Cloth" 40 arraycopyName ∈ WS := ws_in 386 (by decide +kernel) (by decide +kernel)
theorem ml_X11_104 : Cond.methodLink "WaxCloth" 104 yX4_forget ∈ WS := ws_in 389 (by decide +kernel) (by decide +kernel)
theorem vy_X4_forget : gV yX4_forget cX4_forget 1 none 0 3 := ⟨⟨TX4, 3, rfl⟩, ws_in 392 (by decide +kernel) (by decide +kernel), ws_in 390 (by decide +kernel) (by decide +kernel), ws_in 391 (by decide +kernel) (by decide +kernel), ws_in 47 (by decide +kernel) (by decide +kernel), ⟨by decide, by decide, by decide +kernel⟩, by decide⟩
theorem ml_L_23 : Cond.methodLink "WaxClothLaw" 23 yX11_square ∈ WS := ws_in 393 (by decide +kernel) (by decide +kernel)
theorem vy_X11_square : gV yX11_square cX11_square 4 (some .int) 2 9 := ⟨⟨TX11, 11, rfl⟩, ws_in 396 (by decide +kernel) (by decide +kernel), ws_in 394 (by decide +kernel) (by decide +kernel), ws_in 395 (by decide +kernel) (by decide +kernel), ws_in 43 (by decide +kernel) (by decide +kernel), ⟨by decide, by decide, by decide +kernel⟩, by decide⟩
theorem ml_X11_110 : Cond.methodLink "WaxCloth" 110 yX2_hasSquare ∈ WS := ws_in 397 (by decide +kernel) (by decide +kernel)
theorem vy_X2_hasSquare : gV yX2_hasSquare cX2_hasSquare 2 (some .boolean) 1 2 := ⟨⟨TX2, 9, rfl⟩, ws_in 400 (by decide +kernel) (by decide +kernel), ws_in 398 (by decide +kernel) (by decide +kernel), ws_in 399 (by decide +kernel) (by decide +kernel), ws_in 46 (by decide +kernel) (by decide +kernel), ⟨by decide, by decide, by decide +kernel⟩, by decide⟩
theorem ml_X11_122 : Cond.methodLink "WaxCloth" 122 yX9_waxIn ∈ WS := ws_in 401 (by decide +kernel) (by decide +kernel)
theorem vy_X9_waxIn : gT yX9_waxIn cX9_waxIn 1 (some .int) 1 := ⟨ws_in 403 (by decide +kernel) (by decide +kernel), ws_in 402 (by decide +kernel) (by decide +kernel), ws_in 56 (by decide +kernel) (by decide +kernel), ⟨by decide, by decide, by decide +kernel⟩, by decide⟩
theorem ml_X11_128 : Cond.methodLink "WaxCloth" 128 yX9_hueOf ∈ WS := ws_in 404 (by decide +kernel) (by decide +kernel)
theorem vy_X9_hueOf : gT yX9_hueOf cX9_hueOf 5 (some .int) 1 := ⟨ws_in 406 (by decide +kernel) (by decide +kernel), ws_in 405 (by decide +kernel) (by decide +kernel), ws_in 56 (by decide +kernel) (by decide +kernel), ⟨by decide, by decide, by decide +kernel⟩, by decide⟩
theorem ml_X9_9 : Cond.methodLink "WaxCloth$State" 9 yX9_amountOf ∈ WS := ws_in 407 (by decide +kernel) (by decide +kernel)
theorem vy_X9_amountOf : gT yX9_amountOf cX9_amountOf 2 (some .int) 2 := ⟨ws_in 409 (by decide +kernel) (by decide +kernel), ws_in 408 (by decide +kernel) (by decide +kernel), ws_in 56 (by decide +kernel) (by decide +kernel), ⟨by decide, by decide, by decide +kernel⟩, by decide⟩
theorem ml_X9_13 : Cond.methodLink "WaxCloth$State" 13 Lib.Math.max.name ∈ WS := ws_in 410 (by decide +kernel) (by decide +kernel)
theorem ml_X11_131 : Cond.methodLink "WaxCloth" 131 yX9_darkness ∈ WS := ws_in 413 (by decide +kernel) (by decide +kernel)
theorem vy_X9_darkness : gT yX9_darkness cX9_darkness 1 (some .int) 1 := ⟨ws_in 415 (by decide +kernel) (by decide +kernel), ws_in 414 (by decide +kernel) (by decide +kernel), ws_in 56 (by decide +kernel) (by decide +kernel), ⟨by decide, by decide, by decide +kernel⟩, by decide⟩
theorem ml_X11_134 : Cond.methodLink "WaxCloth" 134 yX2_isRight ∈ WS := ws_in 416 (by decide +kernel) (by decide +kernel)
theorem vy_X2_isRight : gV yX2_isRight cX2_isRight 3 (some .boolean) 2 2 := ⟨⟨TX2, 9, rfl⟩, ws_in 419 (by decide +kernel) (by decide +kernel), ws_in 417 (by decide +kernel) (by decide +kernel), ws_in 418 (by decide +kernel) (by decide +kernel), ws_in 46 (by decide +kernel) (by decide +kernel), ⟨by decide, by decide, by decide +kernel⟩, by decide⟩
theorem ml_X2_106 : Cond.methodLink "WaxCloth$Cloth" 106 yX9_hueOf ∈ WS := ws_in 420 (by decide +kernel) (by decide +kernel)
theorem ml_X11_138 : Cond.methodLink "WaxCloth" 138 yX9_amountOf ∈ WS := ws_in 421 (by decide +kernel) (by decide +kernel)
theorem ml_L_28 : Cond.methodLink "WaxClothLaw" 28 yX11_as ∈ WS := ws_in 422 (by decide +kernel) (by decide +kernel)
theorem vy_X11_as : gV yX11_as cX11_as 3 (some .int) 2 9 := ⟨⟨TX11, 11, rfl⟩, ws_in 425 (by decide +kernel) (by decide +kernel), ws_in 423 (by decide +kernel) (by decide +kernel), ws_in 424 (by decide +kernel) (by decide +kernel), ws_in 43 (by decide +kernel) (by decide +kernel), ⟨by decide, by decide, by decide +kernel⟩, by decide⟩
theorem ml_X11_144 : Cond.methodLink "WaxCloth" 144 yX3_isUnder ∈ WS := ws_in 426 (by decide +kernel) (by decide +kernel)
theorem vy_X3_isUnder : gT yX3_isUnder cX3_isUnder 4 (some .boolean) 2 := ⟨ws_in 428 (by decide +kernel) (by decide +kernel), ws_in 427 (by decide +kernel) (by decide +kernel), ws_in 54 (by decide +kernel) (by decide +kernel), ⟨by decide, by decide, by decide +kernel⟩, by decide⟩
theorem ml_L_32 : Cond.methodLink "WaxClothLaw" 32 yX11_dye ∈ WS := ws_in 431 (by decide +kernel) (by decide +kernel)
theorem vy_X11_dye : gV yX11_dye cX11_dye 3 (some .int) 2 9 := ⟨⟨TX11, 11, rfl⟩, ws_in 434 (by decide +kernel) (by decide +kernel), ws_in 432 (by decide +kernel) (by decide +kernel), ws_in 433 (by decide +kernel) (by decide +kernel), ws_in 43 (by decide +kernel) (by decide +kernel), ⟨by decide, by decide, by decide +kernel⟩, by decide⟩
theorem ml_X11_147 : Cond.methodLink "WaxCloth" 147 yX2_hasDye ∈ WS := ws_in 435 (by decide +kernel) (by decide +kernel)
theorem vy_X2_hasDye : gV yX2_hasDye cX2_hasDye 2 (some .boolean) 1 2 := ⟨⟨TX2, 9, rfl⟩, ws_in 438 (by decide +kernel) (by decide +kernel), ws_in 436 (by decide +kernel) (by decide +kernel), ws_in 437 (by decide +kernel) (by decide +kernel), ws_in 46 (by decide +kernel) (by decide +kernel), ⟨by decide, by decide, by decide +kernel⟩, by decide⟩
theorem ml_X11_150 : Cond.methodLink "WaxCloth" 150 yX9_isColour ∈ WS := ws_in 439 (by decide +kernel) (by decide +kernel)
theorem vy_X9_isColour : gT yX9_isColour cX9_isColour 1 (some .boolean) 1 := ⟨ws_in 441 (by decide +kernel) (by decide +kernel), ws_in 440 (by decide +kernel) (by decide +kernel), ws_in 56 (by decide +kernel) (by decide +kernel), ⟨by decide, by decide, by decide +kernel⟩, by decide⟩
theorem ml_X11_153 : Cond.methodLink "WaxCloth" 153 yX2_amountInDye ∈ WS := ws_in 442 (by decide +kernel) (by decide +kernel)
theorem vy_X2_amountInDye : gV yX2_amountInDye cX2_amountInDye 3 (some .int) 2 2 := ⟨⟨TX2, 9, rfl⟩, ws_in 445 (by decide +kernel) (by decide +kernel), ws_in 443 (by decide +kernel) (by decide +kernel), ws_in 444 (by decide +kernel) (by decide +kernel), ws_in 46 (by decide +kernel) (by decide +kernel), ⟨by decide, by decide, by decide +kernel⟩, by decide⟩
theorem ml_L_36 : Cond.methodLink "WaxClothLaw" 36 yX11_stencil ∈ WS := ws_in 446 (by decide +kernel) (by decide +kernel)
theorem vy_X11_stencil : gV yX11_stencil cX11_stencil 2 (some .int) 1 9 := ⟨⟨TX11, 11, rfl⟩, ws_in 449 (by decide +kernel) (by decide +kernel), ws_in 447 (by decide +kernel) (by decide +kernel), ws_in 448 (by decide +kernel) (by decide +kernel), ws_in 43 (by decide +kernel) (by decide +kernel), ⟨by decide, by decide, by decide +kernel⟩, by decide⟩
theorem ml_X11_156 : Cond.methodLink "WaxCloth" 156 yX2_hasStencil ∈ WS := ws_in 450 (by decide +kernel) (by decide +kernel)
theorem vy_X2_hasStencil : gV yX2_hasStencil cX2_hasStencil 2 (some .boolean) 1 2 := ⟨⟨TX2, 9, rfl⟩, ws_in 453 (by decide +kernel) (by decide +kernel), ws_in 451 (by decide +kernel) (by decide +kernel), ws_in 452 (by decide +kernel) (by decide +kernel), ws_in 46 (by decide +kernel) (by decide +kernel), ⟨by decide, by decide, by decide +kernel⟩, by decide⟩
theorem ml_L_40 : Cond.methodLink "WaxClothLaw" 40 yX11_takes ∈ WS := ws_in 454 (by decide +kernel) (by decide +kernel)
theorem vy_X11_takes : gV yX11_takes cX11_takes 5 (some .int) 3 9 := ⟨⟨TX11, 11, rfl⟩, ws_in 457 (by decide +kernel) (by decide +kernel), ws_in 455 (by decide +kernel) (by decide +kernel), ws_in 456 (by decide +kernel) (by decide +kernel), ws_in 43 (by decide +kernel) (by decide +kernel), ⟨by decide, by decide, by decide +kernel⟩, by decide⟩
theorem ml_X11_162 : Cond.methodLink "WaxCloth" 162 yX2_gain ∈ WS := ws_in 458 (by decide +kernel) (by decide +kernel)
theorem vy_X2_gain : gV yX2_gain cX2_gain 7 (some .int) 4 2 := ⟨⟨TX2, 9, rfl⟩, ws_in 461 (by decide +kernel) (by decide +kernel), ws_in 459 (by decide +kernel) (by decide +kernel), ws_in 460 (by decide +kernel) (by decide +kernel), ws_in 46 (by decide +kernel) (by decide +kernel), ⟨by decide, by decide, by decide +kernel⟩, by decide⟩
theorem ml_X2_56 : Cond.methodLink "WaxCloth$Cloth" 56 yX9_amountOf ∈ WS := ws_in 462 (by decide +kernel) (by decide +kernel)
theorem ml_X2_60 : Cond.methodLink "WaxCloth$Cloth" 60 yX2_amountInDye ∈ WS := ws_in 463 (by decide +kernel) (by decide +kernel)
theorem ml_X2_63 : Cond.methodLink "WaxCloth$Cloth" 63 yX3_taken ∈ WS := ws_in 464 (by decide +kernel) (by decide +kernel)
theorem vy_X3_taken : gT yX3_taken cX3_taken 3 (some .int) 3 := ⟨ws_in 466 (by decide +kernel) (by decide +kernel), ws_in 465 (by decide +kernel) (by decide +kernel), ws_in 54 (by decide +kernel) (by decide +kernel), ⟨by decide, by decide, by decide +kernel⟩, by decide⟩
theorem ml_X2_69 : Cond.methodLink "WaxCloth$Cloth" 69 Lib.Math.min.name ∈ WS := ws_in 467 (by decide +kernel) (by decide +kernel)
theorem ml_L_45 : Cond.methodLink "WaxClothLaw" 45 yX11_does ∈ WS := ws_in 470 (by decide +kernel) (by decide +kernel)
theorem vy_X11_does : gV yX11_does cX11_does 2 (some .int) 1 9 := ⟨⟨TX11, 11, rfl⟩, ws_in 473 (by decide +kernel) (by decide +kernel), ws_in 471 (by decide +kernel) (by decide +kernel), ws_in 472 (by decide +kernel) (by decide +kernel), ws_in 43 (by decide +kernel) (by decide +kernel), ⟨by decide, by decide, by decide +kernel⟩, by decide⟩
theorem ml_X11_166 : Cond.methodLink "WaxCloth" 166 yX2_hasDoing ∈ WS := ws_in 474 (by decide +kernel) (by decide +kernel)
theorem vy_X2_hasDoing : gV yX2_hasDoing cX2_hasDoing 3 (some .boolean) 1 2 := ⟨⟨TX2, 9, rfl⟩, ws_in 477 (by decide +kernel) (by decide +kernel), ws_in 475 (by decide +kernel) (by decide +kernel), ws_in 476 (by decide +kernel) (by decide +kernel), ws_in 46 (by decide +kernel) (by decide +kernel), ⟨by decide, by decide, by decide +kernel⟩, by decide⟩
theorem ml_X2_46 : Cond.methodLink "WaxCloth$Cloth" 46 yX2_stands ∈ WS := ws_in 478 (by decide +kernel) (by decide +kernel)
theorem vy_X2_stands : gV yX2_stands cX2_stands 1 (some .boolean) 0 2 := ⟨⟨TX2, 9, rfl⟩, ws_in 481 (by decide +kernel) (by decide +kernel), ws_in 479 (by decide +kernel) (by decide +kernel), ws_in 480 (by decide +kernel) (by decide +kernel), ws_in 46 (by decide +kernel) (by decide +kernel), ⟨by decide, by decide, by decide +kernel⟩, by decide⟩
theorem kk_X2_50 : Cond.constantLong "WaxCloth$Cloth" 50 (21 : Int64) ∈ WS := ws_in 482 (by decide +kernel) (by decide +kernel)
theorem kk_X2_52 : Cond.constantLong "WaxCloth$Cloth" 52 (20 : Int64) ∈ WS := ws_in 483 (by decide +kernel) (by decide +kernel)
theorem kk_X2_54 : Cond.constantLong "WaxCloth$Cloth" 54 (10 : Int64) ∈ WS := ws_in 484 (by decide +kernel) (by decide +kernel)
theorem ml_X11_173 : Cond.methodLink "WaxCloth" 173 yX4_keep ∈ WS := ws_in 485 (by decide +kernel) (by decide +kernel)
theorem vy_X4_keep : gV yX4_keep cX4_keep 2 none 1 3 := ⟨⟨TX4, 3, rfl⟩, ws_in 488 (by decide +kernel) (by decide +kernel), ws_in 486 (by decide +kernel) (by decide +kernel), ws_in 487 (by decide +kernel) (by decide +kernel), ws_in 47 (by decide +kernel) (by decide +kernel), ⟨by decide, by decide, by decide +kernel⟩, by decide⟩
theorem ml_X4_23 : Cond.methodLink "WaxCloth$Past" 23 arraycopyName ∈ WS := ws_in 489 (by decide +kernel) (by decide +kernel)
theorem ml_X4_29 : Cond.methodLink "WaxCloth$Past" 29 Lib.Math.min.name ∈ WS := ws_in 490 (by decide +kernel) (by decide +kernel)
theorem ml_X11_177 : Cond.methodLink "WaxCloth" 177 yX2_apply ∈ WS := ws_in 491 (by decide +kernel) (by decide +kernel)
theorem vy_X2_apply : gV yX2_apply cX2_apply 7 (some .boolean) 3 2 := ⟨⟨TX2, 9, rfl⟩, ws_in 494 (by decide +kernel) (by decide +kernel), ws_in 492 (by decide +kernel) (by decide +kernel), ws_in 493 (by decide +kernel) (by decide +kernel), ws_in 46 (by decide +kernel) (by decide +kernel), ⟨by decide, by decide, by decide +kernel⟩, by decide⟩
theorem ml_X2_103 : Cond.methodLink "WaxCloth$Cloth" 103 yX2_after ∈ WS := ws_in 495 (by decide +kernel) (by decide +kernel)
theorem vy_X2_after : gV yX2_after cX2_after 5 (some .int) 3 2 := ⟨⟨TX2, 9, rfl⟩, ws_in 498 (by decide +kernel) (by decide +kernel), ws_in 496 (by decide +kernel) (by decide +kernel), ws_in 497 (by decide +kernel) (by decide +kernel), ws_in 46 (by decide +kernel) (by decide +kernel), ⟨by decide, by decide, by decide +kernel⟩, by decide⟩
theorem ml_X2_74 : Cond.methodLink "WaxCloth$Cloth" 74 yX9_waxIn ∈ WS := ws_in 499 (by decide +kernel) (by decide +kernel)
theorem ml_X2_78 : Cond.methodLink "WaxCloth$Cloth" 78 yX2_dyed ∈ WS := ws_in 500 (by decide +kernel) (by decide +kernel)
theorem vy_X2_dyed : gV yX2_dyed cX2_dyed 6 (some .int) 3 2 := ⟨⟨TX2, 9, rfl⟩, ws_in 503 (by decide +kernel) (by decide +kernel), ws_in 501 (by decide +kernel) (by decide +kernel), ws_in 502 (by decide +kernel) (by decide +kernel), ws_in 46 (by decide +kernel) (by decide +kernel), ⟨by decide, by decide, by decide +kernel⟩, by decide⟩
theorem ml_X2_90 : Cond.methodLink "WaxCloth$Cloth" 90 yX2_gain ∈ WS := ws_in 504 (by decide +kernel) (by decide +kernel)
theorem ml_X2_94 : Cond.methodLink "WaxCloth$Cloth" 94 yX9_withMore ∈ WS := ws_in 505 (by decide +kernel) (by decide +kernel)
theorem vy_X9_withMore : gT yX9_withMore cX9_withMore 3 (some .int) 3 := ⟨ws_in 507 (by decide +kernel) (by decide +kernel), ws_in 506 (by decide +kernel) (by decide +kernel), ws_in 56 (by decide +kernel) (by decide +kernel), ⟨by decide, by decide, by decide +kernel⟩, by decide⟩
theorem ml_X2_81 : Cond.methodLink "WaxCloth$Cloth" 81 yX2_cracked ∈ WS := ws_in 508 (by decide +kernel) (by decide +kernel)
theorem vy_X2_cracked : gV yX2_cracked cX2_cracked 3 (some .int) 2 2 := ⟨⟨TX2, 9, rfl⟩, ws_in 511 (by decide +kernel) (by decide +kernel), ws_in 510 (by decide +kernel) (by decide +kernel), ws_in 8 (by decide +kernel) (by decide +kernel), ws_in 46 (by decide +kernel) (by decide +kernel), ⟨by decide, by decide, by decide +kernel⟩, by decide⟩
theorem ml_X2_97 : Cond.methodLink "WaxCloth$Cloth" 97 yX3_layersCracked ∈ WS := ws_in 512 (by decide +kernel) (by decide +kernel)
theorem vy_X3_layersCracked : gT yX3_layersCracked cX3_layersCracked 1 (some .int) 1 := ⟨ws_in 514 (by decide +kernel) (by decide +kernel), ws_in 513 (by decide +kernel) (by decide +kernel), ws_in 54 (by decide +kernel) (by decide +kernel), ⟨by decide, by decide, by decide +kernel⟩, by decide⟩
theorem ml_X2_100 : Cond.methodLink "WaxCloth$Cloth" 100 Lib.Math.max.name ∈ WS := ws_in 515 (by decide +kernel) (by decide +kernel)
theorem ml_X2_84 : Cond.methodLink "WaxCloth$Cloth" 84 yX9_withWax ∈ WS := ws_in 516 (by decide +kernel) (by decide +kernel)
theorem vy_X9_withWax : gT yX9_withWax cX9_withWax 2 (some .int) 2 := ⟨ws_in 518 (by decide +kernel) (by decide +kernel), ws_in 517 (by decide +kernel) (by decide +kernel), ws_in 56 (by decide +kernel) (by decide +kernel), ⟨by decide, by decide, by decide +kernel⟩, by decide⟩
theorem ml_X2_87 : Cond.methodLink "WaxCloth$Cloth" 87 yX2_rinsed ∈ WS := ws_in 519 (by decide +kernel) (by decide +kernel)
theorem vy_X2_rinsed : gT yX2_rinsed cX2_rinsed 3 (some .int) 1 := ⟨ws_in 521 (by decide +kernel) (by decide +kernel), ws_in 520 (by decide +kernel) (by decide +kernel), ws_in 46 (by decide +kernel) (by decide +kernel), ⟨by decide, by decide, by decide +kernel⟩, by decide⟩
theorem ml_X11_181 : Cond.methodLink "WaxCloth" 181 yX2_rightSet ∈ WS := ws_in 522 (by decide +kernel) (by decide +kernel)
theorem vy_X2_rightSet : gV yX2_rightSet cX2_rightSet 4 (some .int) 1 2 := ⟨⟨TX2, 9, rfl⟩, ws_in 525 (by decide +kernel) (by decide +kernel), ws_in 523 (by decide +kernel) (by decide +kernel), ws_in 524 (by decide +kernel) (by decide +kernel), ws_in 46 (by decide +kernel) (by decide +kernel), ⟨by decide, by decide, by decide +kernel⟩, by decide⟩
theorem ml_X2_109 : Cond.methodLink "WaxCloth$Cloth" 109 yX2_isRight ∈ WS := ws_in 526 (by decide +kernel) (by decide +kernel)
theorem ml_L_49 : Cond.methodLink "WaxClothLaw" 49 yX11_undo ∈ WS := ws_in 527 (by decide +kernel) (by decide +kernel)
theorem vy_X11_undo : gV yX11_undo cX11_undo 1 (some .int) 0 9 := ⟨⟨TX11, 11, rfl⟩, ws_in 530 (by decide +kernel) (by decide +kernel), ws_in 528 (by decide +kernel) (by decide +kernel), ws_in 529 (by decide +kernel) (by decide +kernel), ws_in 43 (by decide +kernel) (by decide +kernel), ⟨by decide, by decide, by decide +kernel⟩, by decide⟩
theorem ml_X11_185 : Cond.methodLink "WaxCloth" 185 yX4_takeBack ∈ WS := ws_in 531 (by decide +kernel) (by decide +kernel)
theorem vy_X4_takeBack : gV yX4_takeBack cX4_takeBack 2 (some .boolean) 1 3 := ⟨⟨TX4, 3, rfl⟩, ws_in 534 (by decide +kernel) (by decide +kernel), ws_in 532 (by decide +kernel) (by decide +kernel), ws_in 533 (by decide +kernel) (by decide +kernel), ws_in 47 (by decide +kernel) (by decide +kernel), ⟨by decide, by decide, by decide +kernel⟩, by decide⟩
theorem ml_L_53 : Cond.methodLink "WaxClothLaw" 53 yX11_wish ∈ WS := ws_in 535 (by decide +kernel) (by decide +kernel)
theorem vy_X11_wish : gV yX11_wish cX11_wish 4 (some .int) 2 9 := ⟨⟨TX11, 11, rfl⟩, ws_in 538 (by decide +kernel) (by decide +kernel), ws_in 536 (by decide +kernel) (by decide +kernel), ws_in 537 (by decide +kernel) (by decide +kernel), ws_in 43 (by decide +kernel) (by decide +kernel), ⟨by decide, by decide, by decide +kernel⟩, by decide⟩
theorem ml_L_57 : Cond.methodLink "WaxClothLaw" 57 yX11_image ∈ WS := ws_in 539 (by decide +kernel) (by decide +kernel)
theorem vy_X11_image : gV yX11_image cX11_image 2 (some .int) 1 9 := ⟨⟨TX11, 11, rfl⟩, ws_in 542 (by decide +kernel) (by decide +kernel), ws_in 540 (by decide +kernel) (by decide +kernel), ws_in 541 (by decide +kernel) (by decide +kernel), ws_in 43 (by decide +kernel) (by decide +kernel), ⟨by decide, by decide, by decide +kernel⟩, by decide⟩
theorem ml_X11_192 : Cond.methodLink "WaxCloth" 192 yX2_stands ∈ WS := ws_in 543 (by decide +kernel) (by decide +kernel)
theorem ml_L_61 : Cond.methodLink "WaxClothLaw" 61 yX11_restore ∈ WS := ws_in 544 (by decide +kernel) (by decide +kernel)
theorem vy_X11_restore : gV yX11_restore cX11_restore 2 (some .int) 1 9 := ⟨⟨TX11, 11, rfl⟩, ws_in 547 (by decide +kernel) (by decide +kernel), ws_in 545 (by decide +kernel) (by decide +kernel), ws_in 546 (by decide +kernel) (by decide +kernel), ws_in 43 (by decide +kernel) (by decide +kernel), ⟨by decide, by decide, by decide +kernel⟩, by decide⟩
theorem ml_L_65 : Cond.methodLink "WaxClothLaw" 65 yX11_plan ∈ WS := ws_in 548 (by decide +kernel) (by decide +kernel)
theorem vy_X11_plan : gV yX11_plan cX11_plan 3 (some .int) 2 9 := ⟨⟨TX11, 11, rfl⟩, ws_in 551 (by decide +kernel) (by decide +kernel), ws_in 549 (by decide +kernel) (by decide +kernel), ws_in 550 (by decide +kernel) (by decide +kernel), ws_in 43 (by decide +kernel) (by decide +kernel), ⟨by decide, by decide, by decide +kernel⟩, by decide⟩
theorem ml_X11_195 : Cond.methodLink "WaxCloth" 195 yX5_search ∈ WS := ws_in 552 (by decide +kernel) (by decide +kernel)
theorem vy_X5_search : gV yX5_search cX5_search 4 none 2 4 := ⟨⟨TX5, 5, rfl⟩, ws_in 555 (by decide +kernel) (by decide +kernel), ws_in 553 (by decide +kernel) (by decide +kernel), ws_in 554 (by decide +kernel) (by decide +kernel), ws_in 49 (by decide +kernel) (by decide +kernel), ⟨by decide, by decide, by decide +kernel⟩, by decide⟩
theorem ml_X5_28 : Cond.methodLink "WaxCloth$Planner" 28 arraycopyName ∈ WS := ws_in 556 (by decide +kernel) (by decide +kernel)
theorem ml_X5_34 : Cond.methodLink "WaxCloth$Planner" 34 yX2_rightCount ∈ WS := ws_in 557 (by decide +kernel) (by decide +kernel)
theorem vy_X2_rightCount : gV yX2_rightCount cX2_rightCount 2 (some .int) 1 2 := ⟨⟨TX2, 9, rfl⟩, ws_in 560 (by decide +kernel) (by decide +kernel), ws_in 558 (by decide +kernel) (by decide +kernel), ws_in 559 (by decide +kernel) (by decide +kernel), ws_in 46 (by decide +kernel) (by decide +kernel), ⟨by decide, by decide, by decide +kernel⟩, by decide⟩
theorem ml_X2_113 : Cond.methodLink "WaxCloth$Cloth" 113 yX2_rightSet ∈ WS := ws_in 561 (by decide +kernel) (by decide +kernel)
theorem ml_X2_117 : Cond.methodLink "WaxCloth$Cloth" 117 yJ6_bitCount_0f7a4 ∈ WS := ws_in 562 (by decide +kernel) (by decide +kernel)
theorem vy_J6_bitCount_0f7a4 : gT yJ6_bitCount_0f7a4 cJ6_bitCount_0f7a4 1 (some .int) 1 := ⟨ws_in 564 (by decide +kernel) (by decide +kernel), ws_in 563 (by decide +kernel) (by decide +kernel), ws_in 58 (by decide +kernel) (by decide +kernel), ⟨by decide, by decide, by decide +kernel⟩, by decide⟩
theorem kk_J6_265 : Cond.constant "java/lang/Integer" 265 (1431655765 : Int32) ∈ WS := ws_in 565 (by decide +kernel) (by decide +kernel)
theorem kk_J6_266 : Cond.constant "java/lang/Integer" 266 (858993459 : Int32) ∈ WS := ws_in 566 (by decide +kernel) (by decide +kernel)
theorem kk_J6_267 : Cond.constant "java/lang/Integer" 267 (252645135 : Int32) ∈ WS := ws_in 567 (by decide +kernel) (by decide +kernel)
theorem ml_X5_48 : Cond.methodLink "WaxCloth$Planner" 48 yX5_extend ∈ WS := ws_in 568 (by decide +kernel) (by decide +kernel)
theorem vy_X5_extend : gV yX5_extend cX5_extend 6 none 3 4 := ⟨⟨TX5, 5, rfl⟩, ws_in 571 (by decide +kernel) (by decide +kernel), ws_in 570 (by decide +kernel) (by decide +kernel), ws_in 9 (by decide +kernel) (by decide +kernel), ws_in 49 (by decide +kernel) (by decide +kernel), ⟨by decide, by decide, by decide +kernel⟩, by decide⟩
theorem ml_X5_52 : Cond.methodLink "WaxCloth$Planner" 52 yX2_doingCount ∈ WS := ws_in 572 (by decide +kernel) (by decide +kernel)
theorem vy_X2_doingCount : gV yX2_doingCount cX2_doingCount 1 (some .int) 0 2 := ⟨⟨TX2, 9, rfl⟩, ws_in 575 (by decide +kernel) (by decide +kernel), ws_in 573 (by decide +kernel) (by decide +kernel), ws_in 574 (by decide +kernel) (by decide +kernel), ws_in 46 (by decide +kernel) (by decide +kernel), ⟨by decide, by decide, by decide +kernel⟩, by decide⟩
theorem ml_X5_56 : Cond.methodLink "WaxCloth$Planner" 56 yX2_nthDoing ∈ WS := ws_in 576 (by decide +kernel) (by decide +kernel)
theorem vy_X2_nthDoing : gV yX2_nthDoing cX2_nthDoing 2 (some .int) 1 2 := ⟨⟨TX2, 9, rfl⟩, ws_in 579 (by decide +kernel) (by decide +kernel), ws_in 577 (by decide +kernel) (by decide +kernel), ws_in 578 (by decide +kernel) (by decide +kernel), ws_in 46 (by decide +kernel) (by decide +kernel), ⟨by decide, by decide, by decide +kernel⟩, by decide⟩
theorem ml_X5_60 : Cond.methodLink "WaxCloth$Planner" 60 yX5_isWaxOnly ∈ WS := ws_in 580 (by decide +kernel) (by decide +kernel)
theorem vy_X5_isWaxOnly : gT yX5_isWaxOnly cX5_isWaxOnly 1 (some .boolean) 1 := ⟨ws_in 582 (by decide +kernel) (by decide +kernel), ws_in 581 (by decide +kernel) (by decide +kernel), ws_in 49 (by decide +kernel) (by decide +kernel), ⟨by decide, by decide, by decide +kernel⟩, by decide⟩
theorem ml_X5_64 : Cond.methodLink "WaxCloth$Planner" 64 yX2_apply ∈ WS := ws_in 583 (by decide +kernel) (by decide +kernel)
theorem ml_X5_68 : Cond.methodLink "WaxCloth$Planner" 68 yX5_judge ∈ WS := ws_in 584 (by decide +kernel) (by decide +kernel)
theorem vy_X5_judge : gV yX5_judge cX5_judge 3 none 2 4 := ⟨⟨TX5, 5, rfl⟩, ws_in 587 (by decide +kernel) (by decide +kernel), ws_in 586 (by decide +kernel) (by decide +kernel), ws_in 10 (by decide +kernel) (by decide +kernel), ws_in 49 (by decide +kernel) (by decide +kernel), ⟨by decide, by decide, by decide +kernel⟩, by decide⟩
theorem ml_L_69 : Cond.methodLink "WaxClothLaw" 69 yX11_rows ∈ WS := ws_in 588 (by decide +kernel) (by decide +kernel)
theorem vy_X11_rows : gV yX11_rows cX11_rows 7 (some .int) 6 9 := ⟨⟨TX11, 11, rfl⟩, ws_in 591 (by decide +kernel) (by decide +kernel), ws_in 589 (by decide +kernel) (by decide +kernel), ws_in 590 (by decide +kernel) (by decide +kernel), ws_in 43 (by decide +kernel) (by decide +kernel), ⟨by decide, by decide, by decide +kernel⟩, by decide⟩
theorem ml_X11_208 : Cond.methodLink "WaxCloth" 208 yX9_isAmount ∈ WS := ws_in 592 (by decide +kernel) (by decide +kernel)
theorem vy_X9_isAmount : gT yX9_isAmount cX9_isAmount 1 (some .boolean) 1 := ⟨ws_in 594 (by decide +kernel) (by decide +kernel), ws_in 593 (by decide +kernel) (by decide +kernel), ws_in 56 (by decide +kernel) (by decide +kernel), ⟨by decide, by decide, by decide +kernel⟩, by decide⟩
theorem ml_X11_211 : Cond.methodLink "WaxCloth" 211 yX9_ofShade ∈ WS := ws_in 595 (by decide +kernel) (by decide +kernel)
theorem vy_X9_ofShade : gT yX9_ofShade cX9_ofShade 3 (some .int) 3 := ⟨ws_in 597 (by decide +kernel) (by decide +kernel), ws_in 596 (by decide +kernel) (by decide +kernel), ws_in 56 (by decide +kernel) (by decide +kernel), ⟨by decide, by decide, by decide +kernel⟩, by decide⟩
theorem ml_X11_215 : Cond.methodLink "WaxCloth" 215 yX0_walk ∈ WS := ws_in 598 (by decide +kernel) (by decide +kernel)
theorem vy_X0_walk : gV yX0_walk cX0_walk 6 none 4 0 := ⟨⟨TX0, 5, rfl⟩, ws_in 601 (by decide +kernel) (by decide +kernel), ws_in 599 (by decide +kernel) (by decide +kernel), ws_in 600 (by decide +kernel) (by decide +kernel), ws_in 50 (by decide +kernel) (by decide +kernel), ⟨by decide, by decide, by decide +kernel⟩, by decide⟩
theorem ml_X0_31 : Cond.methodLink "WaxCloth$Baths" 31 yX0_bathe ∈ WS := ws_in 602 (by decide +kernel) (by decide +kernel)
theorem vy_X0_bathe : gV yX0_bathe cX0_bathe 8 none 6 0 := ⟨⟨TX0, 5, rfl⟩, ws_in 605 (by decide +kernel) (by decide +kernel), ws_in 604 (by decide +kernel) (by decide +kernel), ws_in 11 (by decide +kernel) (by decide +kernel), ws_in 50 (by decide +kernel) (by decide +kernel), ⟨by decide, by decide, by decide +kernel⟩, by decide⟩
theorem ml_X0_35 : Cond.methodLink "WaxCloth$Baths" 35 yX0_note ∈ WS := ws_in 606 (by decide +kernel) (by decide +kernel)
theorem vy_X0_note : gV yX0_note cX0_note 7 none 3 0 := ⟨⟨TX0, 5, rfl⟩, ws_in 609 (by decide +kernel) (by decide +kernel), ws_in 608 (by decide +kernel) (by decide +kernel), ws_in 12 (by decide +kernel) (by decide +kernel), ws_in 50 (by decide +kernel) (by decide +kernel), ⟨by decide, by decide, by decide +kernel⟩, by decide⟩
theorem ml_X0_48 : Cond.methodLink "WaxCloth$Baths" 48 arraycopyName ∈ WS := ws_in 610 (by decide +kernel) (by decide +kernel)
theorem ml_X0_44 : Cond.methodLink "WaxCloth$Baths" 44 yX2_dyed ∈ WS := ws_in 611 (by decide +kernel) (by decide +kernel)
theorem ml_L_74 : Cond.methodLink "WaxClothLaw" 74 yX11_shades ∈ WS := ws_in 612 (by decide +kernel) (by decide +kernel)
theorem vy_X11_shades : gV yX11_shades cX11_shades 3 (some .int) 2 9 := ⟨⟨TX11, 11, rfl⟩, ws_in 615 (by decide +kernel) (by decide +kernel), ws_in 613 (by decide +kernel) (by decide +kernel), ws_in 614 (by decide +kernel) (by decide +kernel), ws_in 43 (by decide +kernel) (by decide +kernel), ⟨by decide, by decide, by decide +kernel⟩, by decide⟩
theorem ml_L_78 : Cond.methodLink "WaxClothLaw" 78 yX11_cracks ∈ WS := ws_in 616 (by decide +kernel) (by decide +kernel)
theorem vy_X11_cracks : gV yX11_cracks cX11_cracks 5 (some .int) 4 9 := ⟨⟨TX11, 11, rfl⟩, ws_in 619 (by decide +kernel) (by decide +kernel), ws_in 617 (by decide +kernel) (by decide +kernel), ws_in 618 (by decide +kernel) (by decide +kernel), ws_in 43 (by decide +kernel) (by decide +kernel), ⟨by decide, by decide, by decide +kernel⟩, by decide⟩
theorem ml_X11_228 : Cond.methodLink "WaxCloth" 228 yX1_crack ∈ WS := ws_in 620 (by decide +kernel) (by decide +kernel)
theorem vy_X1_crack : gV yX1_crack cX1_crack 13 none 4 1 := ⟨⟨TX1, 6, rfl⟩, ws_in 623 (by decide +kernel) (by decide +kernel), ws_in 621 (by decide +kernel) (by decide +kernel), ws_in 622 (by decide +kernel) (by decide +kernel), ws_in 51 (by decide +kernel) (by decide +kernel), ⟨by decide, by decide, by decide +kernel⟩, by decide⟩
theorem ml_X1_25 : Cond.methodLink "WaxCloth$Chances" 25 yX9_waxIn ∈ WS := ws_in 624 (by decide +kernel) (by decide +kernel)
theorem ml_X1_31 : Cond.methodLink "WaxCloth$Chances" 31 yX2_dyed ∈ WS := ws_in 625 (by decide +kernel) (by decide +kernel)
theorem ml_X1_35 : Cond.methodLink "WaxCloth$Chances" 35 yX2_isRight ∈ WS := ws_in 626 (by decide +kernel) (by decide +kernel)
theorem ml_X1_39 : Cond.methodLink "WaxCloth$Chances" 39 yX1_weigh ∈ WS := ws_in 627 (by decide +kernel) (by decide +kernel)
theorem vy_X1_weigh : gV yX1_weigh cX1_weigh 5 none 2 1 := ⟨⟨TX1, 6, rfl⟩, ws_in 630 (by decide +kernel) (by decide +kernel), ws_in 629 (by decide +kernel) (by decide +kernel), ws_in 13 (by decide +kernel) (by decide +kernel), ws_in 51 (by decide +kernel) (by decide +kernel), ⟨by decide, by decide, by decide +kernel⟩, by decide⟩
theorem ml_X1_43 : Cond.methodLink "WaxCloth$Chances" 43 yX1_greatestCommon ∈ WS := ws_in 631 (by decide +kernel) (by decide +kernel)
theorem vy_X1_greatestCommon : gT yX1_greatestCommon cX1_greatestCommon 6 (some .int) 2 := ⟨ws_in 633 (by decide +kernel) (by decide +kernel), ws_in 632 (by decide +kernel) (by decide +kernel), ws_in 51 (by decide +kernel) (by decide +kernel), ⟨by decide, by decide, by decide +kernel⟩, by decide⟩
theorem ml_X1_89 : Cond.methodLink "WaxCloth$Chances" 89 Lib.Math.max.name ∈ WS := ws_in 634 (by decide +kernel) (by decide +kernel)
theorem ml_L_83 : Cond.methodLink "WaxClothLaw" 83 yX11_decades ∈ WS := ws_in 635 (by decide +kernel) (by decide +kernel)
theorem vy_X11_decades : gV yX11_decades cX11_decades 4 (some .int) 3 9 := ⟨⟨TX11, 11, rfl⟩, ws_in 638 (by decide +kernel) (by decide +kernel), ws_in 636 (by decide +kernel) (by decide +kernel), ws_in 637 (by decide +kernel) (by decide +kernel), ws_in 43 (by decide +kernel) (by decide +kernel), ⟨by decide, by decide, by decide +kernel⟩, by decide⟩
theorem kk_X11_237 : Cond.constant "WaxCloth" 237 (999999 : Int32) ∈ WS := ws_in 639 (by decide +kernel) (by decide +kernel)
theorem ml_X11_238 : Cond.methodLink "WaxCloth" 238 yX1_draw ∈ WS := ws_in 640 (by decide +kernel) (by decide +kernel)
theorem vy_X1_draw : gV yX1_draw cX1_draw 8 none 3 1 := ⟨⟨TX1, 6, rfl⟩, ws_in 643 (by decide +kernel) (by decide +kernel), ws_in 641 (by decide +kernel) (by decide +kernel), ws_in 642 (by decide +kernel) (by decide +kernel), ws_in 51 (by decide +kernel) (by decide +kernel), ⟨by decide, by decide, by decide +kernel⟩, by decide⟩
theorem ml_X1_53 : Cond.methodLink "WaxCloth$Chances" 53 arraycopyName ∈ WS := ws_in 644 (by decide +kernel) (by decide +kernel)
theorem kk_X1_62 : Cond.constantLong "WaxCloth$Chances" 62 (16807 : Int64) ∈ WS := ws_in 645 (by decide +kernel) (by decide +kernel)
theorem kk_X1_64 : Cond.constantLong "WaxCloth$Chances" 64 (2147483647 : Int64) ∈ WS := ws_in 646 (by decide +kernel) (by decide +kernel)
theorem kk_X1_66 : Cond.constantLong "WaxCloth$Chances" 66 (4 : Int64) ∈ WS := ws_in 647 (by decide +kernel) (by decide +kernel)
theorem ml_X1_68 : Cond.methodLink "WaxCloth$Chances" 68 yX2_doingCount ∈ WS := ws_in 648 (by decide +kernel) (by decide +kernel)
theorem ml_X1_72 : Cond.methodLink "WaxCloth$Chances" 72 yX2_nthDoing ∈ WS := ws_in 649 (by decide +kernel) (by decide +kernel)
theorem ml_X1_75 : Cond.methodLink "WaxCloth$Chances" 75 yX2_apply ∈ WS := ws_in 650 (by decide +kernel) (by decide +kernel)
theorem ml_X1_79 : Cond.methodLink "WaxCloth$Chances" 79 yX2_rightCount ∈ WS := ws_in 651 (by decide +kernel) (by decide +kernel)
theorem ml_X1_83 : Cond.methodLink "WaxCloth$Chances" 83 yX2_darknessOf ∈ WS := ws_in 652 (by decide +kernel) (by decide +kernel)
theorem vy_X2_darknessOf : gV yX2_darknessOf cX2_darknessOf 4 (some .int) 1 2 := ⟨⟨TX2, 9, rfl⟩, ws_in 655 (by decide +kernel) (by decide +kernel), ws_in 653 (by decide +kernel) (by decide +kernel), ws_in 654 (by decide +kernel) (by decide +kernel), ws_in 46 (by decide +kernel) (by decide +kernel), ⟨by decide, by decide, by decide +kernel⟩, by decide⟩
theorem ml_X2_122 : Cond.methodLink "WaxCloth$Cloth" 122 yX9_darkness ∈ WS := ws_in 656 (by decide +kernel) (by decide +kernel)
theorem ml_L_87 : Cond.methodLink "WaxClothLaw" 87 yX11_sheet ∈ WS := ws_in 657 (by decide +kernel) (by decide +kernel)
theorem vy_X11_sheet : gV yX11_sheet cX11_sheet 4 (some .int) 3 9 := ⟨⟨TX11, 11, rfl⟩, ws_in 660 (by decide +kernel) (by decide +kernel), ws_in 658 (by decide +kernel) (by decide +kernel), ws_in 659 (by decide +kernel) (by decide +kernel), ws_in 43 (by decide +kernel) (by decide +kernel), ⟨by decide, by decide, by decide +kernel⟩, by decide⟩
theorem ml_X11_248 : Cond.methodLink "WaxCloth" 248 yX11_isSheet ∈ WS := ws_in 661 (by decide +kernel) (by decide +kernel)
theorem vy_X11_isSheet : gT yX11_isSheet cX11_isSheet 1 (some .boolean) 1 := ⟨ws_in 663 (by decide +kernel) (by decide +kernel), ws_in 662 (by decide +kernel) (by decide +kernel), ws_in 43 (by decide +kernel) (by decide +kernel), ⟨by decide, by decide, by decide +kernel⟩, by decide⟩
theorem ml_X11_251 : Cond.methodLink "WaxCloth" 251 yX8_isLane ∈ WS := ws_in 664 (by decide +kernel) (by decide +kernel)
theorem vy_X8_isLane : gT yX8_isLane cX8_isLane 1 (some .boolean) 1 := ⟨ws_in 666 (by decide +kernel) (by decide +kernel), ws_in 665 (by decide +kernel) (by decide +kernel), ws_in 48 (by decide +kernel) (by decide +kernel), ⟨by decide, by decide, by decide +kernel⟩, by decide⟩
theorem ml_X11_254 : Cond.methodLink "WaxCloth" 254 yX8_begin ∈ WS := ws_in 667 (by decide +kernel) (by decide +kernel)
theorem vy_X8_begin : gV yX8_begin cX8_begin 4 none 2 7 := ⟨⟨TX8, 3, rfl⟩, ws_in 670 (by decide +kernel) (by decide +kernel), ws_in 668 (by decide +kernel) (by decide +kernel), ws_in 669 (by decide +kernel) (by decide +kernel), ws_in 48 (by decide +kernel) (by decide +kernel), ⟨by decide, by decide, by decide +kernel⟩, by decide⟩
theorem ml_L_91 : Cond.methodLink "WaxClothLaw" 91 yX11_drop ∈ WS := ws_in 671 (by decide +kernel) (by decide +kernel)
theorem vy_X11_drop : gV yX11_drop cX11_drop 2 (some .int) 1 9 := ⟨⟨TX11, 11, rfl⟩, ws_in 674 (by decide +kernel) (by decide +kernel), ws_in 672 (by decide +kernel) (by decide +kernel), ws_in 673 (by decide +kernel) (by decide +kernel), ws_in 43 (by decide +kernel) (by decide +kernel), ⟨by decide, by decide, by decide +kernel⟩, by decide⟩
theorem ml_X11_258 : Cond.methodLink "WaxCloth" 258 yX8_isNothing ∈ WS := ws_in 675 (by decide +kernel) (by decide +kernel)
theorem vy_X8_isNothing : gV yX8_isNothing cX8_isNothing 1 (some .boolean) 0 7 := ⟨⟨TX8, 3, rfl⟩, ws_in 678 (by decide +kernel) (by decide +kernel), ws_in 676 (by decide +kernel) (by decide +kernel), ws_in 677 (by decide +kernel) (by decide +kernel), ws_in 48 (by decide +kernel) (by decide +kernel), ⟨by decide, by decide, by decide +kernel⟩, by decide⟩
theorem ml_X11_261 : Cond.methodLink "WaxCloth" 261 yX8_end ∈ WS := ws_in 679 (by decide +kernel) (by decide +kernel)
theorem vy_X8_end : gV yX8_end cX8_end 1 (some .int) 0 7 := ⟨⟨TX8, 3, rfl⟩, ws_in 682 (by decide +kernel) (by decide +kernel), ws_in 680 (by decide +kernel) (by decide +kernel), ws_in 681 (by decide +kernel) (by decide +kernel), ws_in 48 (by decide +kernel) (by decide +kernel), ⟨by decide, by decide, by decide +kernel⟩, by decide⟩
theorem ml_L_97 : Cond.methodLink "WaxClothLaw" 97 yX11_item ∈ WS := ws_in 683 (by decide +kernel) (by decide +kernel)
theorem vy_X11_item : gV yX11_item cX11_item 7 (some .long) 4 9 := ⟨⟨TX11, 11, rfl⟩, ws_in 686 (by decide +kernel) (by decide +kernel), ws_in 684 (by decide +kernel) (by decide +kernel), ws_in 685 (by decide +kernel) (by decide +kernel), ws_in 43 (by decide +kernel) (by decide +kernel), ⟨by decide, by decide, by decide +kernel⟩, by decide⟩
theorem kk_X11_265 : Cond.constantLong "WaxCloth" 265 (-1 : Int64) ∈ WS := ws_in 687 (by decide +kernel) (by decide +kernel)
theorem ml_X11_267 : Cond.methodLink "WaxCloth" 267 yX8_refusal ∈ WS := ws_in 688 (by decide +kernel) (by decide +kernel)
theorem vy_X8_refusal : gV yX8_refusal cX8_refusal 4 (some .int) 3 7 := ⟨⟨TX8, 3, rfl⟩, ws_in 691 (by decide +kernel) (by decide +kernel), ws_in 689 (by decide +kernel) (by decide +kernel), ws_in 690 (by decide +kernel) (by decide +kernel), ws_in 48 (by decide +kernel) (by decide +kernel), ⟨by decide, by decide, by decide +kernel⟩, by decide⟩
theorem ml_X8_22 : Cond.methodLink "WaxCloth$Sheet" 22 yX8_isNothing ∈ WS := ws_in 692 (by decide +kernel) (by decide +kernel)
theorem ml_X8_26 : Cond.methodLink "WaxCloth$Sheet" 26 yX8_holds ∈ WS := ws_in 693 (by decide +kernel) (by decide +kernel)
theorem vy_X8_holds : gV yX8_holds cX8_holds 3 (some .boolean) 2 7 := ⟨⟨TX8, 3, rfl⟩, ws_in 696 (by decide +kernel) (by decide +kernel), ws_in 694 (by decide +kernel) (by decide +kernel), ws_in 695 (by decide +kernel) (by decide +kernel), ws_in 48 (by decide +kernel) (by decide +kernel), ⟨by decide, by decide, by decide +kernel⟩, by decide⟩
theorem ml_X11_270 : Cond.methodLink "WaxCloth" 270 yX8_put ∈ WS := ws_in 697 (by decide +kernel) (by decide +kernel)
theorem vy_X8_put : gV yX8_put cX8_put 4 (some .long) 2 7 := ⟨⟨TX8, 3, rfl⟩, ws_in 700 (by decide +kernel) (by decide +kernel), ws_in 698 (by decide +kernel) (by decide +kernel), ws_in 699 (by decide +kernel) (by decide +kernel), ws_in 48 (by decide +kernel) (by decide +kernel), ⟨by decide, by decide, by decide +kernel⟩, by decide⟩
theorem ml_L_102 : Cond.methodLink "WaxClothLaw" 102 yX11_copy ∈ WS := ws_in 701 (by decide +kernel) (by decide +kernel)
theorem vy_X11_copy : gV yX11_copy cX11_copy 8 (some .int) 5 9 := ⟨⟨TX11, 11, rfl⟩, ws_in 704 (by decide +kernel) (by decide +kernel), ws_in 702 (by decide +kernel) (by decide +kernel), ws_in 703 (by decide +kernel) (by decide +kernel), ws_in 43 (by decide +kernel) (by decide +kernel), ⟨by decide, by decide, by decide +kernel⟩, by decide⟩
theorem ml_X11_276 : Cond.methodLink "WaxCloth" 276 yX8_holds ∈ WS := ws_in 705 (by decide +kernel) (by decide +kernel)
theorem ml_X11_283 : Cond.methodLink "WaxCloth" 283 arraycopyName ∈ WS := ws_in 706 (by decide +kernel) (by decide +kernel)
theorem ml_L_107 : Cond.methodLink "WaxClothLaw" 107 yX11_log ∈ WS := ws_in 707 (by decide +kernel) (by decide +kernel)
theorem vy_X11_log : gV yX11_log cX11_log 6 (some .int) 3 9 := ⟨⟨TX11, 11, rfl⟩, ws_in 710 (by decide +kernel) (by decide +kernel), ws_in 708 (by decide +kernel) (by decide +kernel), ws_in 709 (by decide +kernel) (by decide +kernel), ws_in 43 (by decide +kernel) (by decide +kernel), ⟨by decide, by decide, by decide +kernel⟩, by decide⟩
theorem ml_L_111 : Cond.methodLink "WaxClothLaw" 111 yX11_ahead ∈ WS := ws_in 711 (by decide +kernel) (by decide +kernel)
theorem vy_X11_ahead : gV yX11_ahead cX11_ahead 9 (some .int) 6 9 := ⟨⟨TX11, 11, rfl⟩, ws_in 714 (by decide +kernel) (by decide +kernel), ws_in 712 (by decide +kernel) (by decide +kernel), ws_in 713 (by decide +kernel) (by decide +kernel), ws_in 43 (by decide +kernel) (by decide +kernel), ⟨by decide, by decide, by decide +kernel⟩, by decide⟩
theorem ml_X11_289 : Cond.methodLink "WaxCloth" 289 yX11_takeDoings ∈ WS := ws_in 715 (by decide +kernel) (by decide +kernel)
theorem vy_X11_takeDoings : gV yX11_takeDoings cX11_takeDoings 9 (some .int) 4 9 := ⟨⟨TX11, 11, rfl⟩, ws_in 718 (by decide +kernel) (by decide +kernel), ws_in 717 (by decide +kernel) (by decide +kernel), ws_in 14 (by decide +kernel) (by decide +kernel), ws_in 43 (by decide +kernel) (by decide +kernel), ⟨by decide, by decide, by decide +kernel⟩, by decide⟩
theorem ml_X11_292 : Cond.methodLink "WaxCloth" 292 yX2_afterRow ∈ WS := ws_in 719 (by decide +kernel) (by decide +kernel)
theorem vy_X2_afterRow : gV yX2_afterRow cX2_afterRow 7 (some .int) 4 2 := ⟨⟨TX2, 9, rfl⟩, ws_in 722 (by decide +kernel) (by decide +kernel), ws_in 720 (by decide +kernel) (by decide +kernel), ws_in 721 (by decide +kernel) (by decide +kernel), ws_in 46 (by decide +kernel) (by decide +kernel), ⟨by decide, by decide, by decide +kernel⟩, by decide⟩
theorem ml_L_115 : Cond.methodLink "WaxClothLaw" 115 yX11_round ∈ WS := ws_in 723 (by decide +kernel) (by decide +kernel)
theorem vy_X11_round : gV yX11_round cX11_round 7 (some .int) 5 9 := ⟨⟨TX11, 11, rfl⟩, ws_in 726 (by decide +kernel) (by decide +kernel), ws_in 724 (by decide +kernel) (by decide +kernel), ws_in 725 (by decide +kernel) (by decide +kernel), ws_in 43 (by decide +kernel) (by decide +kernel), ⟨by decide, by decide, by decide +kernel⟩, by decide⟩
theorem ml_X11_296 : Cond.methodLink "WaxCloth" 296 yX7_measure ∈ WS := ws_in 727 (by decide +kernel) (by decide +kernel)
theorem vy_X7_measure : gV yX7_measure cX7_measure 7 none 3 6 := ⟨⟨TX7, 2, rfl⟩, ws_in 730 (by decide +kernel) (by decide +kernel), ws_in 728 (by decide +kernel) (by decide +kernel), ws_in 729 (by decide +kernel) (by decide +kernel), ws_in 52 (by decide +kernel) (by decide +kernel), ⟨by decide, by decide, by decide +kernel⟩, by decide⟩
theorem ml_X7_21 : Cond.methodLink "WaxCloth$Rounds" 21 yX7_lapOf ∈ WS := ws_in 731 (by decide +kernel) (by decide +kernel)
theorem vy_X7_lapOf : gT yX7_lapOf cX7_lapOf 9 (some .int) 4 := ⟨ws_in 733 (by decide +kernel) (by decide +kernel), ws_in 732 (by decide +kernel) (by decide +kernel), ws_in 52 (by decide +kernel) (by decide +kernel), ⟨by decide, by decide, by decide +kernel⟩, by decide⟩
theorem ml_X7_44 : Cond.methodLink "WaxCloth$Rounds" 44 yX2_afterRow ∈ WS := ws_in 734 (by decide +kernel) (by decide +kernel)
theorem kk_X7_48 : Cond.constant "WaxCloth$Rounds" 48 (100000 : Int32) ∈ WS := ws_in 735 (by decide +kernel) (by decide +kernel)
theorem ml_X7_25 : Cond.methodLink "WaxCloth$Rounds" 25 yX7_leadOf ∈ WS := ws_in 736 (by decide +kernel) (by decide +kernel)
theorem vy_X7_leadOf : gT yX7_leadOf cX7_leadOf 9 (some .int) 5 := ⟨ws_in 738 (by decide +kernel) (by decide +kernel), ws_in 737 (by decide +kernel) (by decide +kernel), ws_in 52 (by decide +kernel) (by decide +kernel), ⟨by decide, by decide, by decide +kernel⟩, by decide⟩
theorem ml_X7_29 : Cond.methodLink "WaxCloth$Rounds" 29 Lib.Math.max.name ∈ WS := ws_in 739 (by decide +kernel) (by decide +kernel)
theorem ml_X7_35 : Cond.methodLink "WaxCloth$Rounds" 35 yX1_greatestCommon ∈ WS := ws_in 740 (by decide +kernel) (by decide +kernel)
theorem ml_L_119 : Cond.methodLink "WaxClothLaw" 119 yX11_kinds ∈ WS := ws_in 741 (by decide +kernel) (by decide +kernel)
theorem vy_X11_kinds : gV yX11_kinds cX11_kinds 8 (some .int) 5 9 := ⟨⟨TX11, 11, rfl⟩, ws_in 744 (by decide +kernel) (by decide +kernel), ws_in 742 (by decide +kernel) (by decide +kernel), ws_in 743 (by decide +kernel) (by decide +kernel), ws_in 43 (by decide +kernel) (by decide +kernel), ⟨by decide, by decide, by decide +kernel⟩, by decide⟩
theorem ml_X11_306 : Cond.methodLink "WaxCloth" 306 yX11_areTriples ∈ WS := ws_in 745 (by decide +kernel) (by decide +kernel)
theorem vy_X11_areTriples : gT yX11_areTriples cX11_areTriples 8 (some .boolean) 3 := ⟨ws_in 747 (by decide +kernel) (by decide +kernel), ws_in 746 (by decide +kernel) (by decide +kernel), ws_in 43 (by decide +kernel) (by decide +kernel), ⟨by decide, by decide, by decide +kernel⟩, by decide⟩
theorem kk_X11_329 : Cond.constantLong "WaxCloth" 329 (9 : Int64) ∈ WS := ws_in 748 (by decide +kernel) (by decide +kernel)
theorem kk_X11_331 : Cond.constantLong "WaxCloth" 331 (3 : Int64) ∈ WS := ws_in 749 (by decide +kernel) (by decide +kernel)
theorem ml_X11_310 : Cond.methodLink "WaxCloth" 310 yX11_kindsByTriples ∈ WS := ws_in 750 (by decide +kernel) (by decide +kernel)
theorem vy_X11_kindsByTriples : gT yX11_kindsByTriples cX11_kindsByTriples 6 (some .int) 3 := ⟨ws_in 752 (by decide +kernel) (by decide +kernel), ws_in 751 (by decide +kernel) (by decide +kernel), ws_in 43 (by decide +kernel) (by decide +kernel), ⟨by decide, by decide, by decide +kernel⟩, by decide⟩
theorem ml_X11_333 : Cond.methodLink "WaxCloth" 333 yX3_thatTake ∈ WS := ws_in 753 (by decide +kernel) (by decide +kernel)
theorem vy_X3_thatTake : gT yX3_thatTake cX3_thatTake 7 (some .int) 4 := ⟨ws_in 755 (by decide +kernel) (by decide +kernel), ws_in 754 (by decide +kernel) (by decide +kernel), ws_in 54 (by decide +kernel) (by decide +kernel), ⟨by decide, by decide, by decide +kernel⟩, by decide⟩
theorem ml_X3_13 : Cond.methodLink "WaxCloth$Kind" 13 yX3_taken ∈ WS := ws_in 756 (by decide +kernel) (by decide +kernel)
theorem ml_X11_314 : Cond.methodLink "WaxCloth" 314 yX3_bestTry ∈ WS := ws_in 757 (by decide +kernel) (by decide +kernel)
theorem vy_X3_bestTry : gT yX3_bestTry cX3_bestTry 6 (some .int) 2 := ⟨ws_in 759 (by decide +kernel) (by decide +kernel), ws_in 758 (by decide +kernel) (by decide +kernel), ws_in 54 (by decide +kernel) (by decide +kernel), ⟨by decide, by decide, by decide +kernel⟩, by decide⟩
theorem ml_X3_17 : Cond.methodLink "WaxCloth$Kind" 17 yX3_greatestPart ∈ WS := ws_in 760 (by decide +kernel) (by decide +kernel)
theorem vy_X3_greatestPart : gT yX3_greatestPart cX3_greatestPart 5 (some .int) 3 := ⟨ws_in 762 (by decide +kernel) (by decide +kernel), ws_in 761 (by decide +kernel) (by decide +kernel), ws_in 54 (by decide +kernel) (by decide +kernel), ⟨by decide, by decide, by decide +kernel⟩, by decide⟩
theorem ml_X3_20 : Cond.methodLink "WaxCloth$Kind" 20 yX3_thatTake ∈ WS := ws_in 763 (by decide +kernel) (by decide +kernel)
theorem ml_X3_24 : Cond.methodLink "WaxCloth$Kind" 24 yJ6_bitCount_0f7a4 ∈ WS := ws_in 764 (by decide +kernel) (by decide +kernel)
theorem ml_X3_30 : Cond.methodLink "WaxCloth$Kind" 30 Lib.Math.max.name ∈ WS := ws_in 765 (by decide +kernel) (by decide +kernel)
theorem ml_L_123 : Cond.methodLink "WaxClothLaw" 123 yX11_wishes ∈ WS := ws_in 766 (by decide +kernel) (by decide +kernel)
theorem vy_X11_wishes : gV yX11_wishes cX11_wishes 7 (some .int) 3 9 := ⟨⟨TX11, 11, rfl⟩, ws_in 769 (by decide +kernel) (by decide +kernel), ws_in 767 (by decide +kernel) (by decide +kernel), ws_in 768 (by decide +kernel) (by decide +kernel), ws_in 43 (by decide +kernel) (by decide +kernel), ⟨by decide, by decide, by decide +kernel⟩, by decide⟩
theorem ml_L_127 : Cond.methodLink "WaxClothLaw" 127 yX11_count ∈ WS := ws_in 770 (by decide +kernel) (by decide +kernel)
theorem vy_X11_count : gV yX11_count cX11_count 2 (some .int) 1 9 := ⟨⟨TX11, 11, rfl⟩, ws_in 773 (by decide +kernel) (by decide +kernel), ws_in 771 (by decide +kernel) (by decide +kernel), ws_in 772 (by decide +kernel) (by decide +kernel), ws_in 43 (by decide +kernel) (by decide +kernel), ⟨by decide, by decide, by decide +kernel⟩, by decide⟩
theorem ml_X11_323 : Cond.methodLink "WaxCloth" 323 yX2_waxedSet ∈ WS := ws_in 774 (by decide +kernel) (by decide +kernel)
theorem vy_X2_waxedSet : gV yX2_waxedSet cX2_waxedSet 3 (some .int) 0 2 := ⟨⟨TX2, 9, rfl⟩, ws_in 777 (by decide +kernel) (by decide +kernel), ws_in 775 (by decide +kernel) (by decide +kernel), ws_in 776 (by decide +kernel) (by decide +kernel), ws_in 46 (by decide +kernel) (by decide +kernel), ⟨by decide, by decide, by decide +kernel⟩, by decide⟩
theorem ml_X11_326 : Cond.methodLink "WaxCloth" 326 yX2_darknessOf ∈ WS := ws_in 778 (by decide +kernel) (by decide +kernel)
theorem fl_X12_7 : gFl "WaxClothModel" 7 10 0 := ⟨RX12, TX12, 22, rfl, by decide, in_X12, ws_in 785 (by decide +kernel) (by decide +kernel)⟩
theorem fl_X12_13 : gFl "WaxClothModel" 13 10 1 := ⟨RX12, TX12, 22, rfl, by decide, in_X12, ws_in 786 (by decide +kernel) (by decide +kernel)⟩
theorem fl_X12_16 : gFl "WaxClothModel" 16 10 2 := ⟨RX12, TX12, 22, rfl, by decide, in_X12, ws_in 787 (by decide +kernel) (by decide +kernel)⟩
theorem fl_X12_19 : gFl "WaxClothModel" 19 10 3 := ⟨RX12, TX12, 22, rfl, by decide, in_X12, ws_in 788 (by decide +kernel) (by decide +kernel)⟩
theorem fl_X12_22 : gFl "WaxClothModel" 22 10 4 := ⟨RX12, TX12, 22, rfl, by decide, in_X12, ws_in 789 (by decide +kernel) (by decide +kernel)⟩
theorem fl_X12_109 : gFl "WaxClothModel" 109 10 5 := ⟨RX12, TX12, 22, rfl, by decide, in_X12, ws_in 790 (by decide +kernel) (by decide +kernel)⟩
theorem fp_X12_109 : gFp "WaxClothModel" 109 10 5 := ⟨RX12, TX12, 22, tyX12, rfl, by decide, in_X12, ws_in 790 (by decide +kernel) (by decide +kernel), tyX12_ok, nmX12, rfl, rfl⟩
theorem fl_X12_25 : gFl "WaxClothModel" 25 10 6 := ⟨RX12, TX12, 22, rfl, by decide, in_X12, ws_in 791 (by decide +kernel) (by decide +kernel)⟩
theorem fl_X12_112 : gFl "WaxClothModel" 112 10 7 := ⟨RX12, TX12, 22, rfl, by decide, in_X12, ws_in 792 (by decide +kernel) (by decide +kernel)⟩
theorem fp_X12_112 : gFp "WaxClothModel" 112 10 7 := ⟨RX12, TX12, 22, tyX12, rfl, by decide, in_X12, ws_in 792 (by decide +kernel) (by decide +kernel), tyX12_ok, nmX12, rfl, rfl⟩
theorem fl_X12_28 : gFl "WaxClothModel" 28 10 8 := ⟨RX12, TX12, 22, rfl, by decide, in_X12, ws_in 793 (by decide +kernel) (by decide +kernel)⟩
theorem fl_X12_31 : gFl "WaxClothModel" 31 10 9 := ⟨RX12, TX12, 22, rfl, by decide, in_X12, ws_in 794 (by decide +kernel) (by decide +kernel)⟩
theorem fl_X12_35 : gFl "WaxClothModel" 35 10 10 := ⟨RX12, TX12, 22, rfl, by decide, in_X12, ws_in 795 (by decide +kernel) (by decide +kernel)⟩
theorem fl_X12_63 : gFl "WaxClothModel" 63 10 11 := ⟨RX12, TX12, 22, rfl, by decide, in_X12, ws_in 796 (by decide +kernel) (by decide +kernel)⟩
theorem fp_X12_63 : gFp "WaxClothModel" 63 10 11 := ⟨RX12, TX12, 22, tyX12, rfl, by decide, in_X12, ws_in 796 (by decide +kernel) (by decide +kernel), tyX12_ok, nmX12, rfl, rfl⟩
theorem fl_X12_38 : gFl "WaxClothModel" 38 10 12 := ⟨RX12, TX12, 22, rfl, by decide, in_X12, ws_in 797 (by decide +kernel) (by decide +kernel)⟩
theorem fl_X12_41 : gFl "WaxClothModel" 41 10 13 := ⟨RX12, TX12, 22, rfl, by decide, in_X12, ws_in 798 (by decide +kernel) (by decide +kernel)⟩
theorem fl_X12_44 : gFl "WaxClothModel" 44 10 14 := ⟨RX12, TX12, 22, rfl, by decide, in_X12, ws_in 799 (by decide +kernel) (by decide +kernel)⟩
theorem fl_X12_67 : gFl "WaxClothModel" 67 10 15 := ⟨RX12, TX12, 22, rfl, by decide, in_X12, ws_in 800 (by decide +kernel) (by decide +kernel)⟩
theorem fp_X12_67 : gFp "WaxClothModel" 67 10 15 := ⟨RX12, TX12, 22, tyX12, rfl, by decide, in_X12, ws_in 800 (by decide +kernel) (by decide +kernel), tyX12_ok, nmX12, rfl, rfl⟩
theorem fl_X12_74 : gFl "WaxClothModel" 74 10 16 := ⟨RX12, TX12, 22, rfl, by decide, in_X12, ws_in 801 (by decide +kernel) (by decide +kernel)⟩
theorem fp_X12_74 : gFp "WaxClothModel" 74 10 16 := ⟨RX12, TX12, 22, tyX12, rfl, by decide, in_X12, ws_in 801 (by decide +kernel) (by decide +kernel), tyX12_ok, nmX12, rfl, rfl⟩
theorem fl_X12_48 : gFl "WaxClothModel" 48 10 17 := ⟨RX12, TX12, 22, rfl, by decide, in_X12, ws_in 802 (by decide +kernel) (by decide +kernel)⟩
theorem fl_X12_51 : gFl "WaxClothModel" 51 10 18 := ⟨RX12, TX12, 22, rfl, by decide, in_X12, ws_in 803 (by decide +kernel) (by decide +kernel)⟩
theorem fl_X12_54 : gFl "WaxClothModel" 54 10 19 := ⟨RX12, TX12, 22, rfl, by decide, in_X12, ws_in 804 (by decide +kernel) (by decide +kernel)⟩
theorem fl_X12_239 : gFl "WaxClothModel" 239 10 20 := ⟨RX12, TX12, 22, rfl, by decide, in_X12, ws_in 805 (by decide +kernel) (by decide +kernel)⟩
theorem fp_X12_239 : gFp "WaxClothModel" 239 10 20 := ⟨RX12, TX12, 22, tyX12, rfl, by decide, in_X12, ws_in 805 (by decide +kernel) (by decide +kernel), tyX12_ok, nmX12, rfl, rfl⟩
theorem fl_X12_242 : gFl "WaxClothModel" 242 10 21 := ⟨RX12, TX12, 22, rfl, by decide, in_X12, ws_in 806 (by decide +kernel) (by decide +kernel)⟩
theorem fp_X12_242 : gFp "WaxClothModel" 242 10 21 := ⟨RX12, TX12, 22, tyX12, rfl, by decide, in_X12, ws_in 806 (by decide +kernel) (by decide +kernel), tyX12_ok, nmX12, rfl, rfl⟩
theorem ml_L_17 : Cond.methodLink "WaxClothLaw" 17 yX12_feed ∈ WS := ws_in 853 (by decide +kernel) (by decide +kernel)
theorem vy_X12_feed : gV yX12_feed cX12_feed 2 (some .int) 1 10 := ⟨⟨TX12, 22, rfl⟩, ws_in 856 (by decide +kernel) (by decide +kernel), ws_in 854 (by decide +kernel) (by decide +kernel), ws_in 855 (by decide +kernel) (by decide +kernel), ws_in 53 (by decide +kernel) (by decide +kernel), ⟨by decide, by decide, by decide +kernel⟩, by decide⟩
theorem kk_X12_57 : Cond.constantLong "WaxClothModel" 57 (255 : Int64) ∈ WS := ws_in 857 (by decide +kernel) (by decide +kernel)
theorem ml_X12_59 : Cond.methodLink "WaxClothModel" 59 yX12_in ∈ WS := ws_in 858 (by decide +kernel) (by decide +kernel)
theorem vy_X12_in : gT yX12_in cX12_in 6 (some .boolean) 3 := ⟨ws_in 860 (by decide +kernel) (by decide +kernel), ws_in 859 (by decide +kernel) (by decide +kernel), ws_in 53 (by decide +kernel) (by decide +kernel), ⟨by decide, by decide, by decide +kernel⟩, by decide⟩
theorem ml_L_22 : Cond.methodLink "WaxClothLaw" 22 yX12_cloth ∈ WS := ws_in 861 (by decide +kernel) (by decide +kernel)
theorem vy_X12_cloth : gV yX12_cloth cX12_cloth 3 (some .int) 0 10 := ⟨⟨TX12, 22, rfl⟩, ws_in 864 (by decide +kernel) (by decide +kernel), ws_in 862 (by decide +kernel) (by decide +kernel), ws_in 863 (by decide +kernel) (by decide +kernel), ws_in 53 (by decide +kernel) (by decide +kernel), ⟨by decide, by decide, by decide +kernel⟩, by decide⟩
theorem ml_X12_102 : Cond.methodLink "WaxClothModel" 102 yX12_reads ∈ WS := ws_in 865 (by decide +kernel) (by decide +kernel)
theorem vy_X12_reads : gV yX12_reads cX12_reads 2 (some .boolean) 0 10 := ⟨⟨TX12, 22, rfl⟩, ws_in 868 (by decide +kernel) (by decide +kernel), ws_in 867 (by decide +kernel) (by decide +kernel), ws_in 15 (by decide +kernel) (by decide +kernel), ws_in 53 (by decide +kernel) (by decide +kernel), ⟨by decide, by decide, by decide +kernel⟩, by decide⟩
theorem ml_X12_85 : Cond.methodLink "WaxClothModel" 85 yX12_eats ∈ WS := ws_in 869 (by decide +kernel) (by decide +kernel)
theorem vy_X12_eats : gV yX12_eats cX12_eats 3 (some .boolean) 1 10 := ⟨⟨TX12, 22, rfl⟩, ws_in 872 (by decide +kernel) (by decide +kernel), ws_in 871 (by decide +kernel) (by decide +kernel), ws_in 16 (by decide +kernel) (by decide +kernel), ws_in 53 (by decide +kernel) (by decide +kernel), ⟨by decide, by decide, by decide +kernel⟩, by decide⟩
theorem ml_X12_70 : Cond.methodLink "WaxClothModel" 70 yX12_here ∈ WS := ws_in 873 (by decide +kernel) (by decide +kernel)
theorem vy_X12_here : gV yX12_here cX12_here 1 (some .int) 0 10 := ⟨⟨TX12, 22, rfl⟩, ws_in 876 (by decide +kernel) (by decide +kernel), ws_in 875 (by decide +kernel) (by decide +kernel), ws_in 17 (by decide +kernel) (by decide +kernel), ws_in 53 (by decide +kernel) (by decide +kernel), ⟨by decide, by decide, by decide +kernel⟩, by decide⟩
theorem ml_X12_89 : Cond.methodLink "WaxClothModel" 89 yX12_readsSquare ∈ WS := ws_in 877 (by decide +kernel) (by decide +kernel)
theorem vy_X12_readsSquare : gV yX12_readsSquare cX12_readsSquare 3 (some .boolean) 0 10 := ⟨⟨TX12, 22, rfl⟩, ws_in 880 (by decide +kernel) (by decide +kernel), ws_in 879 (by decide +kernel) (by decide +kernel), ws_in 18 (by decide +kernel) (by decide +kernel), ws_in 53 (by decide +kernel) (by decide +kernel), ⟨by decide, by decide, by decide +kernel⟩, by decide⟩
theorem ml_X12_77 : Cond.methodLink "WaxClothModel" 77 yX12_kindBy ∈ WS := ws_in 881 (by decide +kernel) (by decide +kernel)
theorem vy_X12_kindBy : gT yX12_kindBy cX12_kindBy 1 (some .int) 1 := ⟨ws_in 883 (by decide +kernel) (by decide +kernel), ws_in 882 (by decide +kernel) (by decide +kernel), ws_in 53 (by decide +kernel) (by decide +kernel), ⟨by decide, by decide, by decide +kernel⟩, by decide⟩
theorem ml_X12_81 : Cond.methodLink "WaxClothModel" 81 yX12_figure ∈ WS := ws_in 884 (by decide +kernel) (by decide +kernel)
theorem vy_X12_figure : gV yX12_figure cX12_figure 3 (some .boolean) 2 10 := ⟨⟨TX12, 22, rfl⟩, ws_in 887 (by decide +kernel) (by decide +kernel), ws_in 886 (by decide +kernel) (by decide +kernel), ws_in 19 (by decide +kernel) (by decide +kernel), ws_in 53 (by decide +kernel) (by decide +kernel), ⟨by decide, by decide, by decide +kernel⟩, by decide⟩
theorem ml_X12_93 : Cond.methodLink "WaxClothModel" 93 yX12_another ∈ WS := ws_in 888 (by decide +kernel) (by decide +kernel)
theorem vy_X12_another : gV yX12_another cX12_another 3 (some .boolean) 2 10 := ⟨⟨TX12, 22, rfl⟩, ws_in 891 (by decide +kernel) (by decide +kernel), ws_in 890 (by decide +kernel) (by decide +kernel), ws_in 20 (by decide +kernel) (by decide +kernel), ws_in 53 (by decide +kernel) (by decide +kernel), ⟨by decide, by decide, by decide +kernel⟩, by decide⟩
theorem ml_X12_96 : Cond.methodLink "WaxClothModel" 96 yX12_readsDye ∈ WS := ws_in 892 (by decide +kernel) (by decide +kernel)
theorem vy_X12_readsDye : gV yX12_readsDye cX12_readsDye 2 (some .boolean) 0 10 := ⟨⟨TX12, 22, rfl⟩, ws_in 895 (by decide +kernel) (by decide +kernel), ws_in 894 (by decide +kernel) (by decide +kernel), ws_in 21 (by decide +kernel) (by decide +kernel), ws_in 53 (by decide +kernel) (by decide +kernel), ⟨by decide, by decide, by decide +kernel⟩, by decide⟩
theorem ml_X12_99 : Cond.methodLink "WaxClothModel" 99 yX12_readsStencil ∈ WS := ws_in 896 (by decide +kernel) (by decide +kernel)
theorem vy_X12_readsStencil : gV yX12_readsStencil cX12_readsStencil 3 (some .boolean) 0 10 := ⟨⟨TX12, 22, rfl⟩, ws_in 899 (by decide +kernel) (by decide +kernel), ws_in 898 (by decide +kernel) (by decide +kernel), ws_in 22 (by decide +kernel) (by decide +kernel), ws_in 53 (by decide +kernel) (by decide +kernel), ⟨by decide, by decide, by decide +kernel⟩, by decide⟩
theorem ml_X12_105 : Cond.methodLink "WaxClothModel" 105 yX12_copies ∈ WS := ws_in 900 (by decide +kernel) (by decide +kernel)
theorem vy_X12_copies : gT yX12_copies cX12_copies 6 none 5 := ⟨ws_in 902 (by decide +kernel) (by decide +kernel), ws_in 901 (by decide +kernel) (by decide +kernel), ws_in 53 (by decide +kernel) (by decide +kernel), ⟨by decide, by decide, by decide +kernel⟩, by decide⟩
theorem ml_L_27 : Cond.methodLink "WaxClothLaw" 27 yX12_square ∈ WS := ws_in 903 (by decide +kernel) (by decide +kernel)
theorem vy_X12_square : gV yX12_square cX12_square 3 (some .int) 2 10 := ⟨⟨TX12, 22, rfl⟩, ws_in 906 (by decide +kernel) (by decide +kernel), ws_in 904 (by decide +kernel) (by decide +kernel), ws_in 905 (by decide +kernel) (by decide +kernel), ws_in 53 (by decide +kernel) (by decide +kernel), ⟨by decide, by decide, by decide +kernel⟩, by decide⟩
theorem ml_X12_161 : Cond.methodLink "WaxClothModel" 161 yX12_isSquare ∈ WS := ws_in 907 (by decide +kernel) (by decide +kernel)
theorem vy_X12_isSquare : gV yX12_isSquare cX12_isSquare 2 (some .boolean) 1 10 := ⟨⟨TX12, 22, rfl⟩, ws_in 910 (by decide +kernel) (by decide +kernel), ws_in 909 (by decide +kernel) (by decide +kernel), ws_in 23 (by decide +kernel) (by decide +kernel), ws_in 53 (by decide +kernel) (by decide +kernel), ⟨by decide, by decide, by decide +kernel⟩, by decide⟩
theorem kk_X12_164 : Cond.constantLong "WaxClothModel" 164 (8 : Int64) ∈ WS := ws_in 911 (by decide +kernel) (by decide +kernel)
theorem ml_X12_115 : Cond.methodLink "WaxClothModel" 115 yX12_hueOf ∈ WS := ws_in 912 (by decide +kernel) (by decide +kernel)
theorem vy_X12_hueOf : gT yX12_hueOf cX12_hueOf 6 (some .int) 2 := ⟨ws_in 914 (by decide +kernel) (by decide +kernel), ws_in 913 (by decide +kernel) (by decide +kernel), ws_in 53 (by decide +kernel) (by decide +kernel), ⟨by decide, by decide, by decide +kernel⟩, by decide⟩
theorem ml_X12_123 : Cond.methodLink "WaxClothModel" 123 yX12_darkOf ∈ WS := ws_in 915 (by decide +kernel) (by decide +kernel)
theorem vy_X12_darkOf : gT yX12_darkOf cX12_darkOf 2 (some .int) 2 := ⟨ws_in 917 (by decide +kernel) (by decide +kernel), ws_in 916 (by decide +kernel) (by decide +kernel), ws_in 53 (by decide +kernel) (by decide +kernel), ⟨by decide, by decide, by decide +kernel⟩, by decide⟩
theorem ml_X12_119 : Cond.methodLink "WaxClothModel" 119 yX12_isRight ∈ WS := ws_in 918 (by decide +kernel) (by decide +kernel)
theorem vy_X12_isRight : gT yX12_isRight cX12_isRight 2 (some .boolean) 2 := ⟨ws_in 920 (by decide +kernel) (by decide +kernel), ws_in 919 (by decide +kernel) (by decide +kernel), ws_in 53 (by decide +kernel) (by decide +kernel), ⟨by decide, by decide, by decide +kernel⟩, by decide⟩
theorem ml_L_31 : Cond.methodLink "WaxClothLaw" 31 yX12_as ∈ WS := ws_in 921 (by decide +kernel) (by decide +kernel)
theorem vy_X12_as : gV yX12_as cX12_as 5 (some .int) 2 10 := ⟨⟨TX12, 22, rfl⟩, ws_in 924 (by decide +kernel) (by decide +kernel), ws_in 922 (by decide +kernel) (by decide +kernel), ws_in 923 (by decide +kernel) (by decide +kernel), ws_in 53 (by decide +kernel) (by decide +kernel), ⟨by decide, by decide, by decide +kernel⟩, by decide⟩
theorem kk_X12_166 : Cond.constantLong "WaxClothModel" 166 (5 : Int64) ∈ WS := ws_in 925 (by decide +kernel) (by decide +kernel)
theorem kk_X12_168 : Cond.constantLong "WaxClothModel" 168 (2 : Int64) ∈ WS := ws_in 926 (by decide +kernel) (by decide +kernel)
theorem kk_X12_170 : Cond.constantLong "WaxClothModel" 170 (3 : Int64) ∈ WS := ws_in 927 (by decide +kernel) (by decide +kernel)
theorem ml_L_35 : Cond.methodLink "WaxClothLaw" 35 yX12_dye ∈ WS := ws_in 928 (by decide +kernel) (by decide +kernel)
theorem vy_X12_dye : gV yX12_dye cX12_dye 3 (some .int) 2 10 := ⟨⟨TX12, 22, rfl⟩, ws_in 931 (by decide +kernel) (by decide +kernel), ws_in 929 (by decide +kernel) (by decide +kernel), ws_in 930 (by decide +kernel) (by decide +kernel), ws_in 53 (by decide +kernel) (by decide +kernel), ⟨by decide, by decide, by decide +kernel⟩, by decide⟩
theorem ml_X12_172 : Cond.methodLink "WaxClothModel" 172 yX12_isDye ∈ WS := ws_in 932 (by decide +kernel) (by decide +kernel)
theorem vy_X12_isDye : gV yX12_isDye cX12_isDye 2 (some .boolean) 1 10 := ⟨⟨TX12, 22, rfl⟩, ws_in 935 (by decide +kernel) (by decide +kernel), ws_in 934 (by decide +kernel) (by decide +kernel), ws_in 24 (by decide +kernel) (by decide +kernel), ws_in 53 (by decide +kernel) (by decide +kernel), ⟨by decide, by decide, by decide +kernel⟩, by decide⟩
theorem ml_L_39 : Cond.methodLink "WaxClothLaw" 39 yX12_stencil ∈ WS := ws_in 936 (by decide +kernel) (by decide +kernel)
theorem vy_X12_stencil : gV yX12_stencil cX12_stencil 2 (some .int) 1 10 := ⟨⟨TX12, 22, rfl⟩, ws_in 939 (by decide +kernel) (by decide +kernel), ws_in 937 (by decide +kernel) (by decide +kernel), ws_in 938 (by decide +kernel) (by decide +kernel), ws_in 53 (by decide +kernel) (by decide +kernel), ⟨by decide, by decide, by decide +kernel⟩, by decide⟩
theorem ml_L_44 : Cond.methodLink "WaxClothLaw" 44 yX12_takes ∈ WS := ws_in 940 (by decide +kernel) (by decide +kernel)
theorem vy_X12_takes : gV yX12_takes cX12_takes 4 (some .int) 3 10 := ⟨⟨TX12, 22, rfl⟩, ws_in 943 (by decide +kernel) (by decide +kernel), ws_in 941 (by decide +kernel) (by decide +kernel), ws_in 942 (by decide +kernel) (by decide +kernel), ws_in 53 (by decide +kernel) (by decide +kernel), ⟨by decide, by decide, by decide +kernel⟩, by decide⟩
theorem ml_X12_137 : Cond.methodLink "WaxClothModel" 137 yX12_takenOn ∈ WS := ws_in 944 (by decide +kernel) (by decide +kernel)
theorem vy_X12_takenOn : gV yX12_takenOn cX12_takenOn 6 (some .int) 4 10 := ⟨⟨TX12, 22, rfl⟩, ws_in 947 (by decide +kernel) (by decide +kernel), ws_in 946 (by decide +kernel) (by decide +kernel), ws_in 25 (by decide +kernel) (by decide +kernel), ws_in 53 (by decide +kernel) (by decide +kernel), ⟨by decide, by decide, by decide +kernel⟩, by decide⟩
theorem ml_X12_130 : Cond.methodLink "WaxClothModel" 130 yX12_takenBy ∈ WS := ws_in 948 (by decide +kernel) (by decide +kernel)
theorem vy_X12_takenBy : gT yX12_takenBy cX12_takenBy 3 (some .int) 3 := ⟨ws_in 950 (by decide +kernel) (by decide +kernel), ws_in 949 (by decide +kernel) (by decide +kernel), ws_in 53 (by decide +kernel) (by decide +kernel), ⟨by decide, by decide, by decide +kernel⟩, by decide⟩
theorem ml_X12_126 : Cond.methodLink "WaxClothModel" 126 yX12_less ∈ WS := ws_in 951 (by decide +kernel) (by decide +kernel)
theorem vy_X12_less : gT yX12_less cX12_less 2 (some .int) 2 := ⟨ws_in 953 (by decide +kernel) (by decide +kernel), ws_in 952 (by decide +kernel) (by decide +kernel), ws_in 53 (by decide +kernel) (by decide +kernel), ⟨by decide, by decide, by decide +kernel⟩, by decide⟩
theorem ml_L_48 : Cond.methodLink "WaxClothLaw" 48 yX12_does ∈ WS := ws_in 954 (by decide +kernel) (by decide +kernel)
theorem vy_X12_does : gV yX12_does cX12_does 3 (some .int) 1 10 := ⟨⟨TX12, 22, rfl⟩, ws_in 957 (by decide +kernel) (by decide +kernel), ws_in 955 (by decide +kernel) (by decide +kernel), ws_in 956 (by decide +kernel) (by decide +kernel), ws_in 53 (by decide +kernel) (by decide +kernel), ⟨by decide, by decide, by decide +kernel⟩, by decide⟩
theorem ml_X12_175 : Cond.methodLink "WaxClothModel" 175 yX12_isDoing ∈ WS := ws_in 958 (by decide +kernel) (by decide +kernel)
theorem vy_X12_isDoing : gV yX12_isDoing cX12_isDoing 3 (some .boolean) 1 10 := ⟨⟨TX12, 22, rfl⟩, ws_in 961 (by decide +kernel) (by decide +kernel), ws_in 960 (by decide +kernel) (by decide +kernel), ws_in 26 (by decide +kernel) (by decide +kernel), ws_in 53 (by decide +kernel) (by decide +kernel), ⟨by decide, by decide, by decide +kernel⟩, by decide⟩
theorem kk_X12_141 : Cond.constantLong "WaxClothModel" 141 (10 : Int64) ∈ WS := ws_in 962 (by decide +kernel) (by decide +kernel)
theorem kk_X12_143 : Cond.constantLong "WaxClothModel" 143 (20 : Int64) ∈ WS := ws_in 963 (by decide +kernel) (by decide +kernel)
theorem kk_X12_145 : Cond.constantLong "WaxClothModel" 145 (21 : Int64) ∈ WS := ws_in 964 (by decide +kernel) (by decide +kernel)
theorem ml_X12_179 : Cond.methodLink "WaxClothModel" 179 yX12_doesAll ∈ WS := ws_in 965 (by decide +kernel) (by decide +kernel)
theorem vy_X12_doesAll : gV yX12_doesAll cX12_doesAll 4 none 2 10 := ⟨⟨TX12, 22, rfl⟩, ws_in 968 (by decide +kernel) (by decide +kernel), ws_in 967 (by decide +kernel) (by decide +kernel), ws_in 27 (by decide +kernel) (by decide +kernel), ws_in 53 (by decide +kernel) (by decide +kernel), ⟨by decide, by decide, by decide +kernel⟩, by decide⟩
theorem ml_X12_158 : Cond.methodLink "WaxClothModel" 158 yX12_doesOn ∈ WS := ws_in 969 (by decide +kernel) (by decide +kernel)
theorem vy_X12_doesOn : gV yX12_doesOn cX12_doesOn 4 none 3 10 := ⟨⟨TX12, 22, rfl⟩, ws_in 972 (by decide +kernel) (by decide +kernel), ws_in 971 (by decide +kernel) (by decide +kernel), ws_in 28 (by decide +kernel) (by decide +kernel), ws_in 53 (by decide +kernel) (by decide +kernel), ⟨by decide, by decide, by decide +kernel⟩, by decide⟩
theorem ml_X12_147 : Cond.methodLink "WaxClothModel" 147 yX12_bathes ∈ WS := ws_in 973 (by decide +kernel) (by decide +kernel)
theorem vy_X12_bathes : gV yX12_bathes cX12_bathes 5 none 3 10 := ⟨⟨TX12, 22, rfl⟩, ws_in 976 (by decide +kernel) (by decide +kernel), ws_in 975 (by decide +kernel) (by decide +kernel), ws_in 29 (by decide +kernel) (by decide +kernel), ws_in 53 (by decide +kernel) (by decide +kernel), ⟨by decide, by decide, by decide +kernel⟩, by decide⟩
theorem ml_X12_134 : Cond.methodLink "WaxClothModel" 134 yX12_cracksOn ∈ WS := ws_in 977 (by decide +kernel) (by decide +kernel)
theorem vy_X12_cracksOn : gT yX12_cracksOn cX12_cracksOn 1 (some .int) 1 := ⟨ws_in 979 (by decide +kernel) (by decide +kernel), ws_in 978 (by decide +kernel) (by decide +kernel), ws_in 53 (by decide +kernel) (by decide +kernel), ⟨by decide, by decide, by decide +kernel⟩, by decide⟩
theorem ml_X12_151 : Cond.methodLink "WaxClothModel" 151 yX12_has ∈ WS := ws_in 980 (by decide +kernel) (by decide +kernel)
theorem vy_X12_has : gT yX12_has cX12_has 2 (some .boolean) 2 := ⟨ws_in 982 (by decide +kernel) (by decide +kernel), ws_in 981 (by decide +kernel) (by decide +kernel), ws_in 53 (by decide +kernel) (by decide +kernel), ⟨by decide, by decide, by decide +kernel⟩, by decide⟩
theorem ml_X12_154 : Cond.methodLink "WaxClothModel" 154 yX12_rinses ∈ WS := ws_in 983 (by decide +kernel) (by decide +kernel)
theorem vy_X12_rinses : gV yX12_rinses cX12_rinses 5 none 2 10 := ⟨⟨TX12, 22, rfl⟩, ws_in 986 (by decide +kernel) (by decide +kernel), ws_in 985 (by decide +kernel) (by decide +kernel), ws_in 30 (by decide +kernel) (by decide +kernel), ws_in 53 (by decide +kernel) (by decide +kernel), ⟨by decide, by decide, by decide +kernel⟩, by decide⟩
theorem ml_X12_182 : Cond.methodLink "WaxClothModel" 182 yX12_rightOn ∈ WS := ws_in 987 (by decide +kernel) (by decide +kernel)
theorem vy_X12_rightOn : gV yX12_rightOn cX12_rightOn 4 (some .int) 1 10 := ⟨⟨TX12, 22, rfl⟩, ws_in 990 (by decide +kernel) (by decide +kernel), ws_in 989 (by decide +kernel) (by decide +kernel), ws_in 31 (by decide +kernel) (by decide +kernel), ws_in 53 (by decide +kernel) (by decide +kernel), ⟨by decide, by decide, by decide +kernel⟩, by decide⟩
theorem ml_L_52 : Cond.methodLink "WaxClothLaw" 52 yX12_undo ∈ WS := ws_in 991 (by decide +kernel) (by decide +kernel)
theorem vy_X12_undo : gV yX12_undo cX12_undo 1 (some .int) 0 10 := ⟨⟨TX12, 22, rfl⟩, ws_in 994 (by decide +kernel) (by decide +kernel), ws_in 992 (by decide +kernel) (by decide +kernel), ws_in 993 (by decide +kernel) (by decide +kernel), ws_in 53 (by decide +kernel) (by decide +kernel), ⟨by decide, by decide, by decide +kernel⟩, by decide⟩
theorem ml_L_56 : Cond.methodLink "WaxClothLaw" 56 yX12_wish ∈ WS := ws_in 995 (by decide +kernel) (by decide +kernel)
theorem vy_X12_wish : gV yX12_wish cX12_wish 4 (some .int) 2 10 := ⟨⟨TX12, 22, rfl⟩, ws_in 998 (by decide +kernel) (by decide +kernel), ws_in 996 (by decide +kernel) (by decide +kernel), ws_in 997 (by decide +kernel) (by decide +kernel), ws_in 53 (by decide +kernel) (by decide +kernel), ⟨by decide, by decide, by decide +kernel⟩, by decide⟩
theorem kk_X12_186 : Cond.constantLong "WaxClothModel" 186 (7 : Int64) ∈ WS := ws_in 999 (by decide +kernel) (by decide +kernel)
theorem ml_L_60 : Cond.methodLink "WaxClothLaw" 60 yX12_image ∈ WS := ws_in 1000 (by decide +kernel) (by decide +kernel)
theorem vy_X12_image : gV yX12_image cX12_image 2 (some .int) 1 10 := ⟨⟨TX12, 22, rfl⟩, ws_in 1003 (by decide +kernel) (by decide +kernel), ws_in 1001 (by decide +kernel) (by decide +kernel), ws_in 1002 (by decide +kernel) (by decide +kernel), ws_in 53 (by decide +kernel) (by decide +kernel), ⟨by decide, by decide, by decide +kernel⟩, by decide⟩
theorem ml_L_64 : Cond.methodLink "WaxClothLaw" 64 yX12_restore ∈ WS := ws_in 1004 (by decide +kernel) (by decide +kernel)
theorem vy_X12_restore : gV yX12_restore cX12_restore 2 (some .int) 1 10 := ⟨⟨TX12, 22, rfl⟩, ws_in 1007 (by decide +kernel) (by decide +kernel), ws_in 1005 (by decide +kernel) (by decide +kernel), ws_in 1006 (by decide +kernel) (by decide +kernel), ws_in 53 (by decide +kernel) (by decide +kernel), ⟨by decide, by decide, by decide +kernel⟩, by decide⟩
theorem ml_L_68 : Cond.methodLink "WaxClothLaw" 68 yX12_plan ∈ WS := ws_in 1008 (by decide +kernel) (by decide +kernel)
theorem vy_X12_plan : gV yX12_plan cX12_plan 11 (some .int) 2 10 := ⟨⟨TX12, 22, rfl⟩, ws_in 1011 (by decide +kernel) (by decide +kernel), ws_in 1009 (by decide +kernel) (by decide +kernel), ws_in 1010 (by decide +kernel) (by decide +kernel), ws_in 53 (by decide +kernel) (by decide +kernel), ⟨by decide, by decide, by decide +kernel⟩, by decide⟩
theorem kk_X12_188 : Cond.constantLong "WaxClothModel" 188 (4 : Int64) ∈ WS := ws_in 1012 (by decide +kernel) (by decide +kernel)
theorem ml_X12_190 : Cond.methodLink "WaxClothModel" 190 yX12_doingsThere ∈ WS := ws_in 1013 (by decide +kernel) (by decide +kernel)
theorem vy_X12_doingsThere : gV yX12_doingsThere cX12_doingsThere 1 (some .int) 0 10 := ⟨⟨TX12, 22, rfl⟩, ws_in 1016 (by decide +kernel) (by decide +kernel), ws_in 1015 (by decide +kernel) (by decide +kernel), ws_in 32 (by decide +kernel) (by decide +kernel), ws_in 53 (by decide +kernel) (by decide +kernel), ⟨by decide, by decide, by decide +kernel⟩, by decide⟩
theorem ml_X12_193 : Cond.methodLink "WaxClothModel" 193 yX12_laysAside ∈ WS := ws_in 1017 (by decide +kernel) (by decide +kernel)
theorem vy_X12_laysAside : gV yX12_laysAside cX12_laysAside 1 none 0 10 := ⟨⟨TX12, 22, rfl⟩, ws_in 1020 (by decide +kernel) (by decide +kernel), ws_in 1019 (by decide +kernel) (by decide +kernel), ws_in 33 (by decide +kernel) (by decide +kernel), ws_in 53 (by decide +kernel) (by decide +kernel), ⟨by decide, by decide, by decide +kernel⟩, by decide⟩
theorem ml_X12_196 : Cond.methodLink "WaxClothModel" 196 yX12_doingOf ∈ WS := ws_in 1021 (by decide +kernel) (by decide +kernel)
theorem vy_X12_doingOf : gV yX12_doingOf cX12_doingOf 4 (some .int) 1 10 := ⟨⟨TX12, 22, rfl⟩, ws_in 1024 (by decide +kernel) (by decide +kernel), ws_in 1023 (by decide +kernel) (by decide +kernel), ws_in 34 (by decide +kernel) (by decide +kernel), ws_in 53 (by decide +kernel) (by decide +kernel), ⟨by decide, by decide, by decide +kernel⟩, by decide⟩
theorem ml_X12_199 : Cond.methodLink "WaxClothModel" 199 yX12_bits ∈ WS := ws_in 1025 (by decide +kernel) (by decide +kernel)
theorem vy_X12_bits : gT yX12_bits cX12_bits 3 (some .int) 1 := ⟨ws_in 1027 (by decide +kernel) (by decide +kernel), ws_in 1026 (by decide +kernel) (by decide +kernel), ws_in 53 (by decide +kernel) (by decide +kernel), ⟨by decide, by decide, by decide +kernel⟩, by decide⟩
theorem ml_L_73 : Cond.methodLink "WaxClothLaw" 73 yX12_rows ∈ WS := ws_in 1028 (by decide +kernel) (by decide +kernel)
theorem vy_X12_rows : gV yX12_rows cX12_rows 11 (some .int) 6 10 := ⟨⟨TX12, 22, rfl⟩, ws_in 1031 (by decide +kernel) (by decide +kernel), ws_in 1029 (by decide +kernel) (by decide +kernel), ws_in 1030 (by decide +kernel) (by decide +kernel), ws_in 53 (by decide +kernel) (by decide +kernel), ⟨by decide, by decide, by decide +kernel⟩, by decide⟩
theorem kk_X12_209 : Cond.constantLong "WaxClothModel" 209 (9 : Int64) ∈ WS := ws_in 1032 (by decide +kernel) (by decide +kernel)
theorem ml_X12_206 : Cond.methodLink "WaxClothModel" 206 yX12_power ∈ WS := ws_in 1033 (by decide +kernel) (by decide +kernel)
theorem vy_X12_power : gT yX12_power cX12_power 4 (some .int) 2 := ⟨ws_in 1035 (by decide +kernel) (by decide +kernel), ws_in 1034 (by decide +kernel) (by decide +kernel), ws_in 53 (by decide +kernel) (by decide +kernel), ⟨by decide, by decide, by decide +kernel⟩, by decide⟩
theorem ml_X12_211 : Cond.methodLink "WaxClothModel" 211 yX12_shadeOf ∈ WS := ws_in 1036 (by decide +kernel) (by decide +kernel)
theorem vy_X12_shadeOf : gV yX12_shadeOf cX12_shadeOf 5 (some .int) 3 10 := ⟨⟨TX12, 22, rfl⟩, ws_in 1039 (by decide +kernel) (by decide +kernel), ws_in 1038 (by decide +kernel) (by decide +kernel), ws_in 35 (by decide +kernel) (by decide +kernel), ws_in 53 (by decide +kernel) (by decide +kernel), ⟨by decide, by decide, by decide +kernel⟩, by decide⟩
theorem ml_X12_202 : Cond.methodLink "WaxClothModel" 202 yX12_whitens ∈ WS := ws_in 1040 (by decide +kernel) (by decide +kernel)
theorem vy_X12_whitens : gV yX12_whitens cX12_whitens 3 none 1 10 := ⟨⟨TX12, 22, rfl⟩, ws_in 1043 (by decide +kernel) (by decide +kernel), ws_in 1042 (by decide +kernel) (by decide +kernel), ws_in 36 (by decide +kernel) (by decide +kernel), ws_in 53 (by decide +kernel) (by decide +kernel), ⟨by decide, by decide, by decide +kernel⟩, by decide⟩
theorem ml_L_77 : Cond.methodLink "WaxClothLaw" 77 yX12_shades ∈ WS := ws_in 1044 (by decide +kernel) (by decide +kernel)
theorem vy_X12_shades : gV yX12_shades cX12_shades 6 (some .int) 2 10 := ⟨⟨TX12, 22, rfl⟩, ws_in 1047 (by decide +kernel) (by decide +kernel), ws_in 1045 (by decide +kernel) (by decide +kernel), ws_in 1046 (by decide +kernel) (by decide +kernel), ws_in 53 (by decide +kernel) (by decide +kernel), ⟨by decide, by decide, by decide +kernel⟩, by decide⟩
theorem ml_L_82 : Cond.methodLink "WaxClothLaw" 82 yX12_cracks ∈ WS := ws_in 1048 (by decide +kernel) (by decide +kernel)
theorem vy_X12_cracks : gV yX12_cracks cX12_cracks 18 (some .int) 4 10 := ⟨⟨TX12, 22, rfl⟩, ws_in 1051 (by decide +kernel) (by decide +kernel), ws_in 1049 (by decide +kernel) (by decide +kernel), ws_in 1050 (by decide +kernel) (by decide +kernel), ws_in 53 (by decide +kernel) (by decide +kernel), ⟨by decide, by decide, by decide +kernel⟩, by decide⟩
theorem ml_L_86 : Cond.methodLink "WaxClothLaw" 86 yX12_decades ∈ WS := ws_in 1052 (by decide +kernel) (by decide +kernel)
theorem vy_X12_decades : gV yX12_decades cX12_decades 8 (some .int) 3 10 := ⟨⟨TX12, 22, rfl⟩, ws_in 1055 (by decide +kernel) (by decide +kernel), ws_in 1053 (by decide +kernel) (by decide +kernel), ws_in 1054 (by decide +kernel) (by decide +kernel), ws_in 53 (by decide +kernel) (by decide +kernel), ⟨by decide, by decide, by decide +kernel⟩, by decide⟩
theorem kk_X12_214 : Cond.constantLong "WaxClothModel" 214 (60 : Int64) ∈ WS := ws_in 1056 (by decide +kernel) (by decide +kernel)
theorem kk_X12_216 : Cond.constantLong "WaxClothModel" 216 (999999 : Int64) ∈ WS := ws_in 1057 (by decide +kernel) (by decide +kernel)
theorem kk_X12_218 : Cond.constantLong "WaxClothModel" 218 (16807 : Int64) ∈ WS := ws_in 1058 (by decide +kernel) (by decide +kernel)
theorem kk_X12_220 : Cond.constantLong "WaxClothModel" 220 (2147483647 : Int64) ∈ WS := ws_in 1059 (by decide +kernel) (by decide +kernel)
theorem ml_X12_222 : Cond.methodLink "WaxClothModel" 222 yX12_darkAll ∈ WS := ws_in 1060 (by decide +kernel) (by decide +kernel)
theorem vy_X12_darkAll : gV yX12_darkAll cX12_darkAll 4 (some .int) 1 10 := ⟨⟨TX12, 22, rfl⟩, ws_in 1063 (by decide +kernel) (by decide +kernel), ws_in 1062 (by decide +kernel) (by decide +kernel), ws_in 37 (by decide +kernel) (by decide +kernel), ws_in 53 (by decide +kernel) (by decide +kernel), ⟨by decide, by decide, by decide +kernel⟩, by decide⟩
theorem ml_L_110 : Cond.methodLink "WaxClothLaw" 110 yX12_log ∈ WS := ws_in 1064 (by decide +kernel) (by decide +kernel)
theorem vy_X12_log : gV yX12_log cX12_log 6 (some .int) 3 10 := ⟨⟨TX12, 22, rfl⟩, ws_in 1067 (by decide +kernel) (by decide +kernel), ws_in 1065 (by decide +kernel) (by decide +kernel), ws_in 1066 (by decide +kernel) (by decide +kernel), ws_in 53 (by decide +kernel) (by decide +kernel), ⟨by decide, by decide, by decide +kernel⟩, by decide⟩
theorem ml_X12_225 : Cond.methodLink "WaxClothModel" 225 yX12_isSheet ∈ WS := ws_in 1068 (by decide +kernel) (by decide +kernel)
theorem vy_X12_isSheet : gT yX12_isSheet cX12_isSheet 2 (some .boolean) 2 := ⟨ws_in 1070 (by decide +kernel) (by decide +kernel), ws_in 1069 (by decide +kernel) (by decide +kernel), ws_in 53 (by decide +kernel) (by decide +kernel), ⟨by decide, by decide, by decide +kernel⟩, by decide⟩
theorem ml_X12_228 : Cond.methodLink "WaxClothModel" 228 yX12_found ∈ WS := ws_in 1071 (by decide +kernel) (by decide +kernel)
theorem vy_X12_found : gV yX12_found cX12_found 5 (some .int) 4 10 := ⟨⟨TX12, 22, rfl⟩, ws_in 1074 (by decide +kernel) (by decide +kernel), ws_in 1073 (by decide +kernel) (by decide +kernel), ws_in 38 (by decide +kernel) (by decide +kernel), ws_in 53 (by decide +kernel) (by decide +kernel), ⟨by decide, by decide, by decide +kernel⟩, by decide⟩
theorem ml_L_114 : Cond.methodLink "WaxClothLaw" 114 yX12_ahead ∈ WS := ws_in 1075 (by decide +kernel) (by decide +kernel)
theorem vy_X12_ahead : gV yX12_ahead cX12_ahead 9 (some .int) 6 10 := ⟨⟨TX12, 22, rfl⟩, ws_in 1078 (by decide +kernel) (by decide +kernel), ws_in 1076 (by decide +kernel) (by decide +kernel), ws_in 1077 (by decide +kernel) (by decide +kernel), ws_in 53 (by decide +kernel) (by decide +kernel), ⟨by decide, by decide, by decide +kernel⟩, by decide⟩
theorem ml_X12_232 : Cond.methodLink "WaxClothModel" 232 yX12_areDoings ∈ WS := ws_in 1079 (by decide +kernel) (by decide +kernel)
theorem vy_X12_areDoings : gV yX12_areDoings cX12_areDoings 6 (some .boolean) 3 10 := ⟨⟨TX12, 22, rfl⟩, ws_in 1082 (by decide +kernel) (by decide +kernel), ws_in 1081 (by decide +kernel) (by decide +kernel), ws_in 39 (by decide +kernel) (by decide +kernel), ws_in 53 (by decide +kernel) (by decide +kernel), ⟨by decide, by decide, by decide +kernel⟩, by decide⟩
theorem ml_L_118 : Cond.methodLink "WaxClothLaw" 118 yX12_round ∈ WS := ws_in 1083 (by decide +kernel) (by decide +kernel)
theorem vy_X12_round : gV yX12_round cX12_round 11 (some .int) 5 10 := ⟨⟨TX12, 22, rfl⟩, ws_in 1086 (by decide +kernel) (by decide +kernel), ws_in 1084 (by decide +kernel) (by decide +kernel), ws_in 1085 (by decide +kernel) (by decide +kernel), ws_in 53 (by decide +kernel) (by decide +kernel), ⟨by decide, by decide, by decide +kernel⟩, by decide⟩
theorem ml_X12_245 : Cond.methodLink "WaxClothModel" 245 yX12_goesRound ∈ WS := ws_in 1087 (by decide +kernel) (by decide +kernel)
theorem vy_X12_goesRound : gV yX12_goesRound cX12_goesRound 7 none 4 10 := ⟨⟨TX12, 22, rfl⟩, ws_in 1090 (by decide +kernel) (by decide +kernel), ws_in 1089 (by decide +kernel) (by decide +kernel), ws_in 40 (by decide +kernel) (by decide +kernel), ws_in 53 (by decide +kernel) (by decide +kernel), ⟨by decide, by decide, by decide +kernel⟩, by decide⟩
theorem ml_X12_236 : Cond.methodLink "WaxClothModel" 236 yX12_codeOf ∈ WS := ws_in 1091 (by decide +kernel) (by decide +kernel)
theorem vy_X12_codeOf : gV yX12_codeOf cX12_codeOf 3 (some .int) 1 10 := ⟨⟨TX12, 22, rfl⟩, ws_in 1094 (by decide +kernel) (by decide +kernel), ws_in 1093 (by decide +kernel) (by decide +kernel), ws_in 41 (by decide +kernel) (by decide +kernel), ws_in 53 (by decide +kernel) (by decide +kernel), ⟨by decide, by decide, by decide +kernel⟩, by decide⟩
theorem ml_L_122 : Cond.methodLink "WaxClothLaw" 122 yX12_kinds ∈ WS := ws_in 1095 (by decide +kernel) (by decide +kernel)
theorem vy_X12_kinds : gV yX12_kinds cX12_kinds 11 (some .int) 5 10 := ⟨⟨TX12, 22, rfl⟩, ws_in 1098 (by decide +kernel) (by decide +kernel), ws_in 1096 (by decide +kernel) (by decide +kernel), ws_in 1097 (by decide +kernel) (by decide +kernel), ws_in 53 (by decide +kernel) (by decide +kernel), ⟨by decide, by decide, by decide +kernel⟩, by decide⟩
theorem kk_X12_249 : Cond.constantLong "WaxClothModel" 249 (-1 : Int64) ∈ WS := ws_in 1099 (by decide +kernel) (by decide +kernel)
theorem ml_X12_251 : Cond.methodLink "WaxClothModel" 251 yX12_tryOf ∈ WS := ws_in 1100 (by decide +kernel) (by decide +kernel)
theorem vy_X12_tryOf : gT yX12_tryOf cX12_tryOf 9 (some .int) 2 := ⟨ws_in 1102 (by decide +kernel) (by decide +kernel), ws_in 1101 (by decide +kernel) (by decide +kernel), ws_in 53 (by decide +kernel) (by decide +kernel), ⟨by decide, by decide, by decide +kernel⟩, by decide⟩
theorem ml_L_126 : Cond.methodLink "WaxClothLaw" 126 yX12_wishes ∈ WS := ws_in 1103 (by decide +kernel) (by decide +kernel)
theorem vy_X12_wishes : gV yX12_wishes cX12_wishes 7 (some .int) 3 10 := ⟨⟨TX12, 22, rfl⟩, ws_in 1106 (by decide +kernel) (by decide +kernel), ws_in 1104 (by decide +kernel) (by decide +kernel), ws_in 1105 (by decide +kernel) (by decide +kernel), ws_in 53 (by decide +kernel) (by decide +kernel), ⟨by decide, by decide, by decide +kernel⟩, by decide⟩
theorem ml_L_130 : Cond.methodLink "WaxClothLaw" 130 yX12_count ∈ WS := ws_in 1107 (by decide +kernel) (by decide +kernel)
theorem vy_X12_count : gV yX12_count cX12_count 4 (some .int) 1 10 := ⟨⟨TX12, 22, rfl⟩, ws_in 1110 (by decide +kernel) (by decide +kernel), ws_in 1108 (by decide +kernel) (by decide +kernel), ws_in 1109 (by decide +kernel) (by decide +kernel), ws_in 53 (by decide +kernel) (by decide +kernel), ⟨by decide, by decide, by decide +kernel⟩, by decide⟩
theorem ml_L_90 : Cond.methodLink "WaxClothLaw" 90 yX12_sheet ∈ WS := ws_in 1111 (by decide +kernel) (by decide +kernel)
theorem vy_X12_sheet : gV yX12_sheet cX12_sheet 5 (some .int) 3 10 := ⟨⟨TX12, 22, rfl⟩, ws_in 1114 (by decide +kernel) (by decide +kernel), ws_in 1112 (by decide +kernel) (by decide +kernel), ws_in 1113 (by decide +kernel) (by decide +kernel), ws_in 53 (by decide +kernel) (by decide +kernel), ⟨by decide, by decide, by decide +kernel⟩, by decide⟩
theorem ml_L_94 : Cond.methodLink "WaxClothLaw" 94 yX12_drop ∈ WS := ws_in 1115 (by decide +kernel) (by decide +kernel)
theorem vy_X12_drop : gV yX12_drop cX12_drop 3 (some .int) 1 10 := ⟨⟨TX12, 22, rfl⟩, ws_in 1118 (by decide +kernel) (by decide +kernel), ws_in 1116 (by decide +kernel) (by decide +kernel), ws_in 1117 (by decide +kernel) (by decide +kernel), ws_in 53 (by decide +kernel) (by decide +kernel), ⟨by decide, by decide, by decide +kernel⟩, by decide⟩
theorem ml_L_101 : Cond.methodLink "WaxClothLaw" 101 yX12_item ∈ WS := ws_in 1119 (by decide +kernel) (by decide +kernel)
theorem vy_X12_item : gV yX12_item cX12_item 7 (some .long) 4 10 := ⟨⟨TX12, 22, rfl⟩, ws_in 1122 (by decide +kernel) (by decide +kernel), ws_in 1120 (by decide +kernel) (by decide +kernel), ws_in 1121 (by decide +kernel) (by decide +kernel), ws_in 53 (by decide +kernel) (by decide +kernel), ⟨by decide, by decide, by decide +kernel⟩, by decide⟩
theorem ml_X12_254 : Cond.methodLink "WaxClothModel" 254 yX12_cut ∈ WS := ws_in 1123 (by decide +kernel) (by decide +kernel)
theorem vy_X12_cut : gT yX12_cut cX12_cut 3 (some .long) 2 := ⟨ws_in 1125 (by decide +kernel) (by decide +kernel), ws_in 1124 (by decide +kernel) (by decide +kernel), ws_in 53 (by decide +kernel) (by decide +kernel), ⟨by decide, by decide, by decide +kernel⟩, by decide⟩
theorem ml_L_106 : Cond.methodLink "WaxClothLaw" 106 yX12_copy ∈ WS := ws_in 1126 (by decide +kernel) (by decide +kernel)
theorem vy_X12_copy : gV yX12_copy cX12_copy 8 (some .int) 5 10 := ⟨⟨TX12, 22, rfl⟩, ws_in 1129 (by decide +kernel) (by decide +kernel), ws_in 1127 (by decide +kernel) (by decide +kernel), ws_in 1128 (by decide +kernel) (by decide +kernel), ws_in 53 (by decide +kernel) (by decide +kernel), ⟨by decide, by decide, by decide +kernel⟩, by decide⟩
theorem kk_L_95 : Cond.constantLong "WaxClothLaw" 95 (4294967295 : Int64) ∈ WS := ws_in 1130 (by decide +kernel) (by decide +kernel)
theorem ac_n : Cond.native arraycopyName ∈ WS := ws_in 388 (by decide +kernel) (by decide +kernel)
theorem ac_s : Cond.static arraycopyName ∈ WS := ws_in 387 (by decide +kernel) (by decide +kernel)
theorem ac_i : Cond.initialized "java/lang/System" ∈ WS := ws_in 55 (by decide +kernel) (by decide +kernel)
theorem mx_s : Cond.static Lib.Math.max.name ∈ WS := ws_in 411 (by decide +kernel) (by decide +kernel)
theorem mn_s : Cond.static Lib.Math.min.name ∈ WS := ws_in 468 (by decide +kernel) (by decide +kernel)
theorem ma_i : Cond.initialized "java/lang/Math" ∈ WS := ws_in 57 (by decide +kernel) (by decide +kernel)
theorem mx_c : Cond.code Lib.Math.max.name Lib.Math.max.code 2 (some .int) ∈ WS := ws_in 412 (by decide +kernel) (by decide +kernel)
theorem mn_c : Cond.code Lib.Math.min.name Lib.Math.min.code 2 (some .int) ∈ WS := ws_in 469 (by decide +kernel) (by decide +kernel)
theorem cp_X2_40 : gCp "WaxCloth$Cloth" 40 := ⟨ml_X2_40, ac_n, ac_s, ac_i⟩
theorem mx_X9_13 : gMx "WaxCloth$State" 13 := ⟨ml_X9_13, mx_s, ma_i, mx_c⟩
theorem mn_X2_69 : gMn "WaxCloth$Cloth" 69 := ⟨ml_X2_69, mn_s, ma_i, mn_c⟩
theorem cp_X4_23 : gCp "WaxCloth$Past" 23 := ⟨ml_X4_23, ac_n, ac_s, ac_i⟩
theorem mn_X4_29 : gMn "WaxCloth$Past" 29 := ⟨ml_X4_29, mn_s, ma_i, mn_c⟩
theorem mx_X2_100 : gMx "WaxCloth$Cloth" 100 := ⟨ml_X2_100, mx_s, ma_i, mx_c⟩
theorem cp_X5_28 : gCp "WaxCloth$Planner" 28 := ⟨ml_X5_28, ac_n, ac_s, ac_i⟩
theorem cp_X0_48 : gCp "WaxCloth$Baths" 48 := ⟨ml_X0_48, ac_n, ac_s, ac_i⟩
theorem mx_X1_89 : gMx "WaxCloth$Chances" 89 := ⟨ml_X1_89, mx_s, ma_i, mx_c⟩
theorem cp_X1_53 : gCp "WaxCloth$Chances" 53 := ⟨ml_X1_53, ac_n, ac_s, ac_i⟩
theorem cp_X11_283 : gCp "WaxCloth" 283 := ⟨ml_X11_283, ac_n, ac_s, ac_i⟩
theorem mx_X7_29 : gMx "WaxCloth$Rounds" 29 := ⟨ml_X7_29, mx_s, ma_i, mx_c⟩
theorem mx_X3_30 : gMx "WaxCloth$Kind" 30 := ⟨ml_X3_30, mx_s, ma_i, mx_c⟩
end
