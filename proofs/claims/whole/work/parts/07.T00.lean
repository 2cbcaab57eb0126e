theorem T_X0_note_78 {G : gM} (ho : gOk G "WaxCloth$Baths" cX0_note 1 none 7) (hr0 : gv0 G = none) {σ0 : gS} (hs0 : gs0 G = σ0) {σ : gS} (h : F_X0_note_78 σ = some σ0) : gAt G 78 [(0, .ref (gad G 73))] [] σ := by
  unfold F_X0_note_78 at h
  refine a_aload_n ho dX0_note_78 rfl rfl 0 rfl ?_
  refine a_dup ho dX0_note_79 rfl rfl ?_
  refine a_getI ho fl_X0_24 o_73 (ff_0_0 _ o_73) dX0_note_80 rfl ?_
  refine a_iconst (v := 1) ho dX0_note_83 rfl (by decide) ?_
  refine a_iadd ho dX0_note_84 rfl ?_
  refine a_putI ho fp_X0_24 o_73 (ff_0_0 _ o_73) dX0_note_85 rfl ?_
  obtain ⟨σ85, hs85, h⟩ := bd_el h
  refine a_nmS hs85 ?_
  exact a_vret ho dX0_note_88 hr0 (rS hs0 (ro_el h))
theorem T_X0_note_51 {G : gM} (ho : gOk G "WaxCloth$Baths" cX0_note 1 none 7) (hr0 : gv0 G = none) {σ0 : gS} (hs0 : gs0 G = σ0) {x1 : Int32} {x2 : Int32} {x3 : Int32} {σ : gS} (h : F_X0_note_51 x1 x2 x3 σ = some σ0) : gAt G 51 [(0, .ref (gad G 73)), (1, .int x1), (2, .int x2), (3, .int x3)] [] σ := by
  unfold F_X0_note_51 at h
  refine a_iload_n ho dX0_note_51 rfl rfl 1 rfl ?_
  refine a_iload_n ho dX0_note_52 rfl rfl 3 rfl ?_
  refine a_icmp_eq (tgt := 57) ho dX0_note_53 rfl rfl (fun hc53 => ?_) (fun hc53 => ?_)
  · replace h := if_t hc53 h
    refine a_aload_n ho dX0_note_57 rfl rfl 0 rfl ?_
    refine a_getI ho fl_X0_24 o_73 (ff_0_0 _ o_73) dX0_note_58 rfl ?_
    refine a_if_ne (tgt := 78) ho dX0_note_61 rfl rfl (fun hc61 => ?_) (fun hc61 => ?_)
    · replace h := if_f hc61 h
      exact a_sub [0] rfl (T_X0_note_78 ho hr0 hs0 h)
    · replace h := if_t hc61 h
      refine a_aload_n ho dX0_note_64 rfl rfl 0 rfl ?_
      refine a_getR ho fl_X0_15 o_73 fr_0_3 dX0_note_65 rfl ?_
      refine a_iconst (v := 0) ho dX0_note_68 rfl (by decide) ?_
      refine a_aload_n ho dX0_note_69 rfl rfl 0 rfl ?_
      refine a_getR ho fl_X0_9 o_73 fr_0_2 dX0_note_70 rfl ?_
      refine a_iconst (v := 0) ho dX0_note_73 rfl (by decide) ?_
      refine a_iload_n ho dX0_note_74 rfl rfl 2 rfl ?_
      obtain ⟨hk75, h⟩ := ck_el h
      refine a_cpyI ho cp_X0_48 (by decide) i_75 i_74 hk75 (Nat.le_of_ble_eq_true rfl) dX0_note_75 rfl ?_
      obtain ⟨σ75, hs75, h⟩ := bd_el h
      refine a_nmS hs75 ?_
      exact a_sub [0] rfl (T_X0_note_78 ho hr0 hs0 h)
  · replace h := if_f hc53 h
    exact a_vret ho dX0_note_56 hr0 (rS hs0 (ro_el h))
theorem T_X0_note_0 {G : gM} (ho : gOk G "WaxCloth$Baths" cX0_note 1 none 7) (hr0 : gv0 G = none) {σ0 : gS} (hs0 : gs0 G = σ0) {x1 : Int32} {x2 : Int32} {x3 : Int32} {σ : gS} (h : F_X0_note_0 x1 x2 x3 σ = some σ0) : gAt G 0 [(0, .ref (gad G 73)), (1, .int x1), (2, .int x2), (3, .int x3)] [] σ := by
  unfold F_X0_note_0 at h
  refine a_lconst (v := 1) ho dX0_note_0 rfl (by decide) ?_
  refine a_iload_n ho dX0_note_1 rfl rfl 1 rfl ?_
  refine a_bipush (v := 63) ho dX0_note_2 rfl (by decide) ?_
  refine a_iand ho dX0_note_4 rfl ?_
  refine a_lshl ho dX0_note_5 rfl ?_
  obtain ⟨x6, hb6, h⟩ := bd_el h
  refine a_nmL hb6 ?_
  refine a_lstore (L' := [(4, .long x6), (0, .ref (gad G 73)), (1, .int x1), (2, .int x2), (3, .int x3)]) ho dX0_note_6 rfl (by decide) rfl ?_
  refine a_iload_n ho dX0_note_8 rfl rfl 2 rfl ?_
  refine a_bipush (v := 6) ho dX0_note_9 rfl (by decide) ?_
  refine a_ishr ho dX0_note_11 rfl ?_
  obtain ⟨x12, hb12, h⟩ := bd_el h
  refine a_nmI hb12 ?_
  refine a_istore (L' := [(6, .int x12), (4, .long x6), (0, .ref (gad G 73)), (1, .int x1), (2, .int x2), (3, .int x3)]) ho dX0_note_12 rfl (by decide) rfl ?_
  refine a_aload_n ho dX0_note_14 rfl rfl 2 rfl ?_
  refine a_getR ho fl_X0_20 o_73 fr_0_4 dX0_note_15 rfl ?_
  refine a_iload ho dX0_note_18 rfl 0 rfl ?_
  obtain ⟨hk20, h⟩ := ck_el h
  refine a_lald ho j_76 hk20 dX0_note_20 rfl ?_
  refine a_lload ho dX0_note_21 rfl 1 rfl ?_
  refine a_land ho dX0_note_23 rfl ?_
  refine a_lconst (v := 0) ho dX0_note_24 rfl (by decide) ?_
  refine a_lcmp ho dX0_note_25 rfl ?_
  refine a_if_ne (tgt := 51) ho dX0_note_26 rfl rfl (fun hc26 => ?_) (fun hc26 => ?_)
  · replace h := if_f hc26 h
    exact a_sub [2, 3, 4, 5] rfl (T_X0_note_51 ho hr0 hs0 h)
  · replace h := if_t hc26 h
    refine a_aload_n ho dX0_note_29 rfl rfl 2 rfl ?_
    refine a_getR ho fl_X0_20 o_73 fr_0_4 dX0_note_30 rfl ?_
    refine a_iload ho dX0_note_33 rfl 0 rfl ?_
    refine a_dup2 ho dX0_note_35 rfl rfl rfl ?_
    obtain ⟨hk36, h⟩ := ck_el h
    refine a_lald ho j_76 hk36 dX0_note_36 rfl ?_
    refine a_lload ho dX0_note_37 rfl 1 rfl ?_
    refine a_lor ho dX0_note_39 rfl ?_
    obtain ⟨hk40, h⟩ := ck_el h
    refine a_last ho j_76 hk40 dX0_note_40 rfl ?_
    obtain ⟨σ40, hs40, h⟩ := bd_el h
    refine a_nmS hs40 ?_
    refine a_aload_n ho dX0_note_41 rfl rfl 2 rfl ?_
    refine a_dup ho dX0_note_42 rfl rfl ?_
    refine a_getI ho fl_X0_28 o_73 (ff_0_1 _ o_73) dX0_note_43 rfl ?_
    refine a_iconst (v := 1) ho dX0_note_46 rfl (by decide) ?_
    refine a_iadd ho dX0_note_47 rfl ?_
    refine a_putI ho fp_X0_28 o_73 (ff_0_1 _ o_73) dX0_note_48 rfl ?_
    obtain ⟨σ48, hs48, h⟩ := bd_el h
    refine a_nmS hs48 ?_
    exact a_sub [2, 3, 4, 5] rfl (T_X0_note_51 ho hr0 hs0 h)
theorem C_X0_note {l : Launch} {X : gX} {σ σ0 : gS} {a1 : Int32} {a2 : Int32} {a3 : Int32} (h : F_X0_note_0 a1 a2 a3 σ = some σ0) : gCt l X yX0_note (.code yX0_note cX0_note 7 none) 1 [.ref (X.2.2.1 73), .int a1, .int a2, .int a3] σ (none) σ0 :=
  gCt_of cX0_note (by decide) (Nat.le_of_ble_eq_true rfl) (fun G hl hX hv hs ho => by subst hl; subst hX; exact a_sub [0, 1, 2, 3] rfl (T_X0_note_0 ho hv hs h))
theorem T_X2_amountInDye_0 {G : gM} (ho : gOk G "WaxCloth$Cloth" cX2_amountInDye 1 (some .int) 3) {r0 : Int32} (hr0 : gv0 G = some (.int r0)) {σ : gS} (hs0 : gs0 G = σ) {x1 : Int32} {x2 : Int32} (h : F_X2_amountInDye_0 x1 x2 σ = some r0) : gAt G 0 [(0, .ref (gad G 10)), (1, .int x1), (2, .int x2)] [] σ := by
  unfold F_X2_amountInDye_0 at h
  refine a_aload_n ho dX2_amountInDye_0 rfl rfl 0 rfl ?_
  refine a_getR (q := 14) ho fl_X2_21 o_10 (fr_2_7 _ o_10) dX2_amountInDye_1 rfl ?_
  refine a_iload_n ho dX2_amountInDye_4 rfl rfl 1 rfl ?_
  refine a_iconst (v := 3) ho dX2_amountInDye_5 rfl (by decide) ?_
  refine a_imul ho dX2_amountInDye_6 rfl ?_
  refine a_iload_n ho dX2_amountInDye_7 rfl rfl 2 rfl ?_
  refine a_iadd ho dX2_amountInDye_8 rfl ?_
  obtain ⟨hk9, h⟩ := ck_el h
  refine a_iald ho i_14 hk9 dX2_amountInDye_9 rfl ?_
  exact a_iret ho dX2_amountInDye_10 (rI hr0 (ro_el h)) hs0
theorem C_X2_amountInDye {l : Launch} {X : gX} {σ : gS} {r0 : Int32} {a1 : Int32} {a2 : Int32} (h : F_X2_amountInDye_0 a1 a2 σ = some r0) : gCt l X yX2_amountInDye (.code yX2_amountInDye cX2_amountInDye 3 (some .int)) 1 [.ref (X.2.2.1 10), .int a1, .int a2] σ (some (.int r0)) σ :=
  gCt_of cX2_amountInDye (by decide) (Nat.le_of_ble_eq_true rfl) (fun G hl hX hv hs ho => by subst hl; subst hX; exact a_sub [0, 1, 2] rfl (T_X2_amountInDye_0 ho hv hs h))
theorem T_X3_taken_78 {G : gM} (ho : gOk G "WaxCloth$Kind" cX3_taken 1 (some .int) 3) {r0 : Int32} (hr0 : gv0 G = some (.int r0)) {σ : gS} (hs0 : gs0 G = σ) (h : F_X3_taken_78 = some r0) : gAt G 78 [] [] σ := by
  unfold F_X3_taken_78 at h
  refine a_iconst (v := 0) ho dX3_taken_78 rfl (by decide) ?_
  refine a_goto (tgt := 87) ho dX3_taken_79 rfl ?_
  exact a_iret ho dX3_taken_87 (rI hr0 (ro_el h)) hs0
theorem T_X3_taken_0 {G : gM} (ho : gOk G "WaxCloth$Kind" cX3_taken 1 (some .int) 3) {r0 : Int32} (hr0 : gv0 G = some (.int r0)) {σ : gS} (hs0 : gs0 G = σ) {x0 : Int32} {x1 : Int32} {x2 : Int32} (h : F_X3_taken_0 x0 x1 x2 = some r0) : gAt G 0 [(0, .int x0), (1, .int x1), (2, .int x2)] [] σ := by
  unfold F_X3_taken_0 at h
  refine a_iload_n ho dX3_taken_0 rfl rfl 0 rfl ?_
  by_cases hw1_2 : x0 = 2
  · replace h := if_t hw1_2 h
    refine a_tin (tgt := 32) ho 2 hw1_2 dX3_taken_1 (by decide) (by decide) rfl rfl ?_
    refine a_iload_n ho dX3_taken_32 rfl rfl 1 rfl ?_
    refine a_iconst (v := 2) ho dX3_taken_33 rfl (by decide) ?_
    refine a_icmp_ge (tgt := 41) ho dX3_taken_34 rfl rfl (fun hc34 => ?_) (fun hc34 => ?_)
    · replace h := if_t hc34 h
      refine a_iconst (v := 2) ho dX3_taken_41 rfl (by decide) ?_
      exact a_iret ho dX3_taken_42 (rI hr0 (ro_el h)) hs0
    · replace h := if_f hc34 h
      refine a_iload_n ho dX3_taken_37 rfl rfl 1 rfl ?_
      refine a_goto (tgt := 42) ho dX3_taken_38 rfl ?_
      exact a_iret ho dX3_taken_42 (rI hr0 (ro_el h)) hs0
  replace h := if_f hw1_2 h
  by_cases hw1_3 : x0 = 3
  · replace h := if_t hw1_3 h
    refine a_tin (tgt := 43) ho 3 hw1_3 dX3_taken_1 (by decide) (by decide) rfl rfl ?_
    refine a_iload_n ho dX3_taken_43 rfl rfl 1 rfl ?_
    refine a_if_ne (tgt := 51) ho dX3_taken_44 rfl rfl (fun hc44 => ?_) (fun hc44 => ?_)
    · replace h := if_f hc44 h
      refine a_iload_n ho dX3_taken_51 rfl rfl 1 rfl ?_
      refine a_iconst (v := 1) ho dX3_taken_52 rfl (by decide) ?_
      refine a_iadd ho dX3_taken_53 rfl ?_
      exact a_iret ho dX3_taken_54 (rI hr0 (ro_el h)) hs0
    · replace h := if_t hc44 h
      refine a_iconst (v := 0) ho dX3_taken_47 rfl (by decide) ?_
      refine a_goto (tgt := 54) ho dX3_taken_48 rfl ?_
      exact a_iret ho dX3_taken_54 (rI hr0 (ro_el h)) hs0
  replace h := if_f hw1_3 h
  by_cases hw1_4 : x0 = 4
  · replace h := if_t hw1_4 h
    refine a_tin (tgt := 55) ho 4 hw1_4 dX3_taken_1 (by decide) (by decide) rfl rfl ?_
    refine a_iload_n ho dX3_taken_55 rfl rfl 1 rfl ?_
    refine a_if_ne (tgt := 63) ho dX3_taken_56 rfl rfl (fun hc56 => ?_) (fun hc56 => ?_)
    · replace h := if_f hc56 h
      refine a_iload_n ho dX3_taken_63 rfl rfl 1 rfl ?_
      refine a_iconst (v := 2) ho dX3_taken_64 rfl (by decide) ?_
      refine a_idiv ho dX3_taken_65 rfl (by decide) ?_
      refine a_iconst (v := 1) ho dX3_taken_66 rfl (by decide) ?_
      refine a_iadd ho dX3_taken_67 rfl ?_
      exact a_iret ho dX3_taken_68 (rI hr0 (ro_el h)) hs0
    · replace h := if_t hc56 h
      refine a_iconst (v := 0) ho dX3_taken_59 rfl (by decide) ?_
      refine a_goto (tgt := 68) ho dX3_taken_60 rfl ?_
      exact a_iret ho dX3_taken_68 (rI hr0 (ro_el h)) hs0
  replace h := if_f hw1_4 h
  by_cases hw1_5 : x0 = 5
  · replace h := if_t hw1_5 h
    refine a_tin (tgt := 69) ho 5 hw1_5 dX3_taken_1 (by decide) (by decide) rfl rfl ?_
    refine a_iload_n ho dX3_taken_69 rfl rfl 1 rfl ?_
    refine a_if_eq (tgt := 78) ho dX3_taken_70 rfl rfl (fun hc70 => ?_) (fun hc70 => ?_)
    · replace h := if_t hc70 h
      exact a_sub [] rfl (T_X3_taken_78 ho hr0 hs0 h)
    · replace h := if_f hc70 h
      refine a_iload_n ho dX3_taken_73 rfl rfl 2 rfl ?_
      refine a_iconst (v := 4) ho dX3_taken_74 rfl (by decide) ?_
      refine a_icmp_lt (tgt := 82) ho dX3_taken_75 rfl rfl (fun hc75 => ?_) (fun hc75 => ?_)
      · replace h := if_t hc75 h
        refine a_iload_n ho dX3_taken_82 rfl rfl 1 rfl ?_
        refine a_iconst (v := 2) ho dX3_taken_83 rfl (by decide) ?_
        refine a_idiv ho dX3_taken_84 rfl (by decide) ?_
        refine a_iconst (v := 1) ho dX3_taken_85 rfl (by decide) ?_
        refine a_iadd ho dX3_taken_86 rfl ?_
        exact a_iret ho dX3_taken_87 (rI hr0 (ro_el h)) hs0
      · replace h := if_f hc75 h
        exact a_sub [] rfl (T_X3_taken_78 ho hr0 hs0 h)
  replace h := if_f hw1_5 h
  refine a_tout (tgt := 88) ho (by have q2 := tI hw1_2 (z := 2) rfl; have q3 := tI hw1_3 (z := 3) rfl; have q4 := tI hw1_4 (z := 4) rfl; have q5 := tI hw1_5 (z := 5) rfl; omega) dX3_taken_1 rfl ?_
  refine a_iload_n ho dX3_taken_88 rfl rfl 1 rfl ?_
  exact a_iret ho dX3_taken_89 (rI hr0 (ro_el h)) hs0
theorem C_X3_taken {l : Launch} {X : gX} {σ : gS} {r0 : Int32} {a0 : Int32} {a1 : Int32} {a2 : Int32} (h : F_X3_taken_0 a0 a1 a2 = some r0) : gCt l X yX3_taken (.code yX3_taken cX3_taken 3 (some .int)) 1 [.int a0, .int a1, .int a2] σ (some (.int r0)) σ :=
  gCt_of cX3_taken (by decide) (Nat.le_of_ble_eq_true rfl) (fun G hl hX hv hs ho => by subst hl; subst hX; exact a_sub [0, 1, 2] rfl (T_X3_taken_0 ho hv hs h))
theorem T_X9_amountOf_0 {G : gM} (ho : gOk G "WaxCloth$State" cX9_amountOf 1 (some .int) 2) {r0 : Int32} (hr0 : gv0 G = some (.int r0)) {σ : gS} (hs0 : gs0 G = σ) {x0 : Int32} {x1 : Int32} (h : F_X9_amountOf_0 x0 x1 = r0) : gAt G 0 [(0, .int x0), (1, .int x1)] [] σ := by
  unfold F_X9_amountOf_0 at h
  refine a_iload_n ho dX9_amountOf_0 rfl rfl 0 rfl ?_
  refine a_iload_n ho dX9_amountOf_1 rfl rfl 1 rfl ?_
  refine a_iconst (v := 4) ho dX9_amountOf_2 rfl (by decide) ?_
  refine a_imul ho dX9_amountOf_3 rfl ?_
  refine a_ishr ho dX9_amountOf_4 rfl ?_
  refine a_bipush (v := 15) ho dX9_amountOf_5 rfl (by decide) ?_
  refine a_iand ho dX9_amountOf_7 rfl ?_
  exact a_iret ho dX9_amountOf_8 (rI hr0 h) hs0
theorem C_X9_amountOf {l : Launch} {X : gX} {σ : gS} (a0 : Int32) (a1 : Int32) : gCt l X yX9_amountOf (.code yX9_amountOf cX9_amountOf 2 (some .int)) 1 [.int a0, .int a1] σ (some (.int (F_X9_amountOf_0 a0 a1))) σ :=
  gCt_of cX9_amountOf (by decide) (Nat.le_of_ble_eq_true rfl) (fun G hl hX hv hs ho => by subst hl; subst hX; exact a_sub [0, 1] rfl (T_X9_amountOf_0 ho hv hs rfl))
theorem T_X2_gain_0 {G : gM} (ho : gOk G "WaxCloth$Cloth" cX2_gain 2 (some .int) 7) {r0 : Int32} (hr0 : gv0 G = some (.int r0)) {σ : gS} (hs0 : gs0 G = σ) {x1 : Int32} {x2 : Int32} {x3 : Int32} {x4 : Int32} (h : F_X2_gain_0 x1 x2 x3 x4 σ = some r0) : gAt G 0 [(0, .ref (gad G 10)), (1, .int x1), (2, .int x2), (3, .int x3), (4, .int x4)] [] σ := by
  unfold F_X2_gain_0 at h
  refine a_iload_n ho dX2_gain_0 rfl rfl 2 rfl ?_
  refine a_iload ho dX2_gain_1 rfl 4 rfl ?_
  refine a_callSi ho vy_X9_amountOf ml_X2_56 (C_X9_amountOf x2 x4) rfl rfl (by decide) (Nat.le_of_ble_eq_true rfl) dX2_gain_3 rfl ?_
  obtain ⟨x6, hb6, h⟩ := bd_el h
  refine a_nmI hb6 ?_
  refine a_istore (L' := [(5, .int x6), (0, .ref (gad G 10)), (1, .int x1), (2, .int x2), (3, .int x3), (4, .int x4)]) ho dX2_gain_6 rfl (by decide) rfl ?_
  refine a_aload_n ho dX2_gain_8 rfl rfl 1 rfl ?_
  refine a_getR (q := 11) ho fl_X2_9 o_10 (fr_2_4 _ o_10) dX2_gain_9 rfl ?_
  refine a_iload_n ho dX2_gain_12 rfl rfl 2 rfl ?_
  obtain ⟨hk13, h⟩ := ck_el h
  refine a_iald ho i_11 hk13 dX2_gain_13 rfl ?_
  refine a_aload_n ho dX2_gain_14 rfl rfl 1 rfl ?_
  refine a_iload_n ho dX2_gain_15 rfl rfl 4 rfl ?_
  refine a_iload ho dX2_gain_16 rfl 5 rfl ?_
  obtain ⟨r18, hq18, h⟩ := ob_el h
  refine a_callVi ho vy_X2_amountInDye ml_X2_60 o_10 (C_X2_amountInDye hq18) rfl rfl (by decide) (Nat.le_of_ble_eq_true rfl) dX2_gain_18 rfl ?_
  refine a_iload ho dX2_gain_21 rfl 0 rfl ?_
  obtain ⟨r23, hq23, h⟩ := ob_el h
  refine a_callSi ho vy_X3_taken ml_X2_63 (C_X3_taken hq23) rfl rfl (by decide) (Nat.le_of_ble_eq_true rfl) dX2_gain_23 rfl ?_
  refine a_istore (L' := [(6, .int r23), (5, .int x6), (0, .ref (gad G 10)), (1, .int x1), (2, .int x2), (3, .int x3), (4, .int x4)]) ho dX2_gain_26 rfl (by decide) rfl ?_
  refine a_iload ho dX2_gain_28 rfl 0 rfl ?_
  refine a_bipush (v := 9) ho dX2_gain_30 rfl (by decide) ?_
  refine a_iload ho dX2_gain_32 rfl 1 rfl ?_
  refine a_isub ho dX2_gain_34 rfl ?_
  refine a_min ho mn_X2_69 (by decide) (Nat.le_of_ble_eq_true rfl) dX2_gain_35 rfl ?_
  exact a_iret ho dX2_gain_38 (rI hr0 (ro_el h)) hs0
theorem C_X2_gain {l : Launch} {X : gX} {σ : gS} {r0 : Int32} {a1 : Int32} {a2 : Int32} {a3 : Int32} {a4 : Int32} (h : F_X2_gain_0 a1 a2 a3 a4 σ = some r0) : gCt l X yX2_gain (.code yX2_gain cX2_gain 7 (some .int)) 2 [.ref (X.2.2.1 10), .int a1, .int a2, .int a3, .int a4] σ (some (.int r0)) σ :=
  gCt_of cX2_gain (by decide) (Nat.le_of_ble_eq_true rfl) (fun G hl hX hv hs ho => by subst hl; subst hX; exact a_sub [0, 1, 2, 3, 4] rfl (T_X2_gain_0 ho hv hs h))
theorem T_X9_withMore_0 {G : gM} (ho : gOk G "WaxCloth$State" cX9_withMore 1 (some .int) 3) {r0 : Int32} (hr0 : gv0 G = some (.int r0)) {σ : gS} (hs0 : gs0 G = σ) {x0 : Int32} {x1 : Int32} {x2 : Int32} (h : F_X9_withMore_0 x0 x1 x2 = r0) : gAt G 0 [(0, .int x0), (1, .int x1), (2, .int x2)] [] σ := by
  unfold F_X9_withMore_0 at h
  refine a_iload_n ho dX9_withMore_0 rfl rfl 0 rfl ?_
  refine a_iload_n ho dX9_withMore_1 rfl rfl 2 rfl ?_
  refine a_iload_n ho dX9_withMore_2 rfl rfl 1 rfl ?_
  refine a_iconst (v := 4) ho dX9_withMore_3 rfl (by decide) ?_
  refine a_imul ho dX9_withMore_4 rfl ?_
  refine a_ishl ho dX9_withMore_5 rfl ?_
  refine a_iadd ho dX9_withMore_6 rfl ?_
  exact a_iret ho dX9_withMore_7 (rI hr0 h) hs0
theorem C_X9_withMore {l : Launch} {X : gX} {σ : gS} (a0 : Int32) (a1 : Int32) (a2 : Int32) : gCt l X yX9_withMore (.code yX9_withMore cX9_withMore 3 (some .int)) 1 [.int a0, .int a1, .int a2] σ (some (.int (F_X9_withMore_0 a0 a1 a2))) σ :=
  gCt_of cX9_withMore (by decide) (Nat.le_of_ble_eq_true rfl) (fun G hl hX hv hs ho => by subst hl; subst hX; exact a_sub [0, 1, 2] rfl (T_X9_withMore_0 ho hv hs rfl))
theorem T_X2_dyed_6 {G : gM} (ho : gOk G "WaxCloth$Cloth" cX2_dyed 3 (some .int) 6) {r0 : Int32} (hr0 : gv0 G = some (.int r0)) {σ : gS} (hs0 : gs0 G = σ) : ∀ (n : Nat) (x1 : Int32) (x2 : Int32) (x3 : Int32) (x4 : Int32) (x5 : Int32), F_X2_dyed_6 n x1 x2 x3 x4 x5 σ = some r0 → gAt G 6 [(0, .ref (gad G 10)), (1, .int x1), (2, .int x2), (3, .int x3), (4, .int x4), (5, .int x5)] [] σ := by
  intro n
  induction n with
  | zero => intro x1 x2 x3 x4 x5 h; cases h
  | succ n ih =>
    intro x1 x2 x3 x4 x5 h
    unfold F_X2_dyed_6 at h
    refine a_iload ho dX2_dyed_6 rfl 5 rfl ?_
    refine a_iconst (v := 3) ho dX2_dyed_8 rfl (by decide) ?_
    refine a_icmp_ge (tgt := 36) ho dX2_dyed_9 rfl rfl (fun hc9 => ?_) (fun hc9 => ?_)
    · replace h := if_t hc9 h
      refine a_iload ho dX2_dyed_36 rfl 4 rfl ?_
      exact a_iret ho dX2_dyed_38 (rI hr0 (ro_el h)) hs0
    · replace h := if_f hc9 h
      refine a_iload ho dX2_dyed_12 rfl 4 rfl ?_
      refine a_iload ho dX2_dyed_14 rfl 5 rfl ?_
      refine a_aload_n ho dX2_dyed_16 rfl rfl 0 rfl ?_
      refine a_iload_n ho dX2_dyed_17 rfl rfl 1 rfl ?_
      refine a_iload_n ho dX2_dyed_18 rfl rfl 2 rfl ?_
      refine a_iload_n ho dX2_dyed_19 rfl rfl 3 rfl ?_
      refine a_iload ho dX2_dyed_20 rfl 5 rfl ?_
      obtain ⟨r22, hq22, h⟩ := ob_el h
      refine a_callVi ho vy_X2_gain ml_X2_90 o_10 (C_X2_gain hq22) rfl rfl (by decide) (Nat.le_of_ble_eq_true rfl) dX2_dyed_22 rfl ?_
      refine a_callSi ho vy_X9_withMore ml_X2_94 (C_X9_withMore x4 x5 r22) rfl rfl (by decide) (Nat.le_of_ble_eq_true rfl) dX2_dyed_25 rfl ?_
      obtain ⟨x28, hb28, h⟩ := bd_el h
      refine a_nmI hb28 ?_
      refine a_istore (L' := [(4, .int x28), (0, .ref (gad G 10)), (1, .int x1), (2, .int x2), (3, .int x3), (5, .int x5)]) ho dX2_dyed_28 rfl (by decide) rfl ?_
      obtain ⟨x30, hb30, h⟩ := bd_el h
      refine a_iinc (L' := [(5, .int x30), (4, .int x28), (0, .ref (gad G 10)), (1, .int x1), (2, .int x2), (3, .int x3)]) ho dX2_dyed_30 rfl 5 rfl hb30 (by decide) rfl ?_
      refine a_goto (tgt := 6) ho dX2_dyed_33 rfl ?_
      exact a_sub [2, 3, 4, 5, 1, 0] rfl (ih _ _ _ _ _ h)
theorem T_X2_dyed_0 {G : gM} (ho : gOk G "WaxCloth$Cloth" cX2_dyed 3 (some .int) 6) {r0 : Int32} (hr0 : gv0 G = some (.int r0)) {σ : gS} (hs0 : gs0 G = σ) {x1 : Int32} {x2 : Int32} {x3 : Int32} (h : F_X2_dyed_0 x1 x2 x3 σ = some r0) : gAt G 0 [(0, .ref (gad G 10)), (1, .int x1), (2, .int x2), (3, .int x3)] [] σ := by
  unfold F_X2_dyed_0 at h
  refine a_iload_n ho dX2_dyed_0 rfl rfl 2 rfl ?_
  refine a_istore (L' := [(4, .int x2), (0, .ref (gad G 10)), (1, .int x1), (2, .int x2), (3, .int x3)]) ho dX2_dyed_1 rfl (by decide) rfl ?_
  refine a_iconst (v := 0) ho dX2_dyed_3 rfl (by decide) ?_
  refine a_istore (L' := [(5, .int 0), (4, .int x2), (0, .ref (gad G 10)), (1, .int x1), (2, .int x2), (3, .int x3)]) ho dX2_dyed_4 rfl (by decide) rfl ?_
  exact a_sub [2, 3, 4, 5, 1, 0] rfl (T_X2_dyed_6 ho hr0 hs0 _ _ _ _ _ _ h)
theorem C_X2_dyed {l : Launch} {X : gX} {σ : gS} {r0 : Int32} {a1 : Int32} {a2 : Int32} {a3 : Int32} (h : F_X2_dyed_0 a1 a2 a3 σ = some r0) : gCt l X yX2_dyed (.code yX2_dyed cX2_dyed 6 (some .int)) 3 [.ref (X.2.2.1 10), .int a1, .int a2, .int a3] σ (some (.int r0)) σ :=
  gCt_of cX2_dyed (by decide) (Nat.le_of_ble_eq_true rfl) (fun G hl hX hv hs ho => by subst hl; subst hX; exact a_sub [0, 1, 2, 3] rfl (T_X2_dyed_0 ho hv hs h))
theorem T_X0_bathe_26 {G : gM} {dr : Nat} (ho : gOk G "WaxCloth$Baths" cX0_bathe (dr + 1) none 8) (hr0 : gv0 G = none) {σ0 : gS} (hs0 : gs0 G = σ0) {rc : Int32 → Int32 → Int32 → Int32 → Int32 → gS → Option gS} (hdr : 4 ≤ dr) (hrc : ∀ (a2 : Int32) (a3 : Int32) (a4 : Int32) (a5 : Int32) (a6 : Int32) (σ τ : gS), rc a2 a3 a4 a5 a6 σ = some τ → gCt (gl G) (gXX G) yX0_bathe (.code yX0_bathe cX0_bathe 8 none) dr [.ref (gad G 73), .ref (gad G 10), .int a2, .int a3, .int a4, .int a5, .int a6] σ none τ) : ∀ (n : Nat) (x2 : Int32) (x3 : Int32) (x4 : Int32) (x5 : Int32) (x6 : Int32) (x7 : Int32) (σ : gS), F_X0_bathe_26 rc n x2 x3 x4 x5 x6 x7 σ = some σ0 → gAt G 26 [(0, .ref (gad G 73)), (1, .ref (gad G 10)), (2, .int x2), (3, .int x3), (4, .int x4), (5, .int x5), (6, .int x6), (7, .int x7)] [] σ := by
  intro n
  induction n with
  | zero => intro x2 x3 x4 x5 x6 x7 σ h; cases h
  | succ n ih =>
    intro x2 x3 x4 x5 x6 x7 σ h
    unfold F_X0_bathe_26 at h
    refine a_iload ho dX0_bathe_26 rfl 7 rfl ?_
    refine a_aload_n ho dX0_bathe_28 rfl rfl 1 rfl ?_
    refine a_getI ho fl_X0_39 o_10 (ff_2_1 _ o_10) dX0_bathe_29 rfl ?_
    refine a_icmp_ge (tgt := 72) ho dX0_bathe_32 rfl rfl (fun hc32 => ?_) (fun hc32 => ?_)
    · replace h := if_t hc32 h
      exact a_vret ho dX0_bathe_72 hr0 (rS hs0 (ro_el h))
    · replace h := if_f hc32 h
      refine a_aload_n ho dX0_bathe_35 rfl rfl 0 rfl ?_
      refine a_getR ho fl_X0_15 o_73 fr_0_3 dX0_bathe_36 rfl ?_
      refine a_iload ho dX0_bathe_39 rfl 4 rfl ?_
      refine a_iload ho dX0_bathe_41 rfl 7 rfl ?_
      obtain ⟨hk43, h⟩ := ck_el h
      refine a_iast ho i_75 hk43 dX0_bathe_43 rfl ?_
      obtain ⟨σ43, hs43, h⟩ := bd_el h
      refine a_nmS hs43 ?_
      refine a_aload_n ho dX0_bathe_44 rfl rfl 0 rfl ?_
      refine a_aload_n ho dX0_bathe_45 rfl rfl 1 rfl ?_
      refine a_iload_n ho dX0_bathe_46 rfl rfl 2 rfl ?_
      refine a_aload_n ho dX0_bathe_47 rfl rfl 1 rfl ?_
      refine a_iload_n ho dX0_bathe_48 rfl rfl 2 rfl ?_
      refine a_iload_n ho dX0_bathe_49 rfl rfl 3 rfl ?_
      refine a_iload ho dX0_bathe_50 rfl 7 rfl ?_
      obtain ⟨r52, hq52, h⟩ := ob_el h
      refine a_callVi ho vy_X2_dyed ml_X0_44 o_10 (C_X2_dyed hq52) rfl rfl (by omega) (Nat.le_of_ble_eq_true rfl) dX0_bathe_52 rfl ?_
      refine a_iload ho dX0_bathe_55 rfl 4 rfl ?_
      refine a_iconst (v := 1) ho dX0_bathe_57 rfl (by decide) ?_
      refine a_iadd ho dX0_bathe_58 rfl ?_
      refine a_iload ho dX0_bathe_59 rfl 5 rfl ?_
      refine a_iload ho dX0_bathe_61 rfl 6 rfl ?_
      obtain ⟨σ63, hq63, h⟩ := ob_el h
      refine a_callVv ho vy_X0_bathe ml_X0_31 o_73 (hrc _ _ _ _ _ _ _ hq63) rfl rfl (by omega) (Nat.le_of_ble_eq_true rfl) dX0_bathe_63 rfl ?_
      obtain ⟨x66, hb66, h⟩ := bd_el h
      refine a_iinc (L' := [(7, .int x66), (0, .ref (gad G 73)), (1, .ref (gad G 10)), (2, .int x2), (3, .int x3), (4, .int x4), (5, .int x5), (6, .int x6)]) ho dX0_bathe_66 rfl 7 rfl hb66 (by decide) rfl ?_
      refine a_goto (tgt := 26) ho dX0_bathe_69 rfl ?_
      exact a_sub [1, 2, 3, 4, 5, 6, 7, 0] rfl (ih _ _ _ _ _ _ _ h)
theorem T_X0_bathe_13 {G : gM} {dr : Nat} (ho : gOk G "WaxCloth$Baths" cX0_bathe (dr + 1) none 8) (hr0 : gv0 G = none) {σ0 : gS} (hs0 : gs0 G = σ0) {rc : Int32 → Int32 → Int32 → Int32 → Int32 → gS → Option gS} (hdr : 4 ≤ dr) (hrc : ∀ (a2 : Int32) (a3 : Int32) (a4 : Int32) (a5 : Int32) (a6 : Int32) (σ τ : gS), rc a2 a3 a4 a5 a6 σ = some τ → gCt (gl G) (gXX G) yX0_bathe (.code yX0_bathe cX0_bathe 8 none) dr [.ref (gad G 73), .ref (gad G 10), .int a2, .int a3, .int a4, .int a5, .int a6] σ none τ) {x3 : Int32} {x5 : Int32} {x6 : Int32} {σ : gS} (h : F_X0_bathe_13 rc x3 x5 x6 σ = some σ0) : gAt G 13 [(0, .ref (gad G 73)), (3, .int x3), (5, .int x5), (6, .int x6)] [] σ := by
  unfold F_X0_bathe_13 at h
  refine a_aload_n ho dX0_bathe_13 rfl rfl 0 rfl ?_
  refine a_iload_n ho dX0_bathe_14 rfl rfl 1 rfl ?_
  refine a_iload ho dX0_bathe_15 rfl 2 rfl ?_
  refine a_iload ho dX0_bathe_17 rfl 3 rfl ?_
  obtain ⟨σ19, hq19, h⟩ := ob_el h
  refine a_callVv ho vy_X0_note ml_X0_35 o_73 (C_X0_note hq19) rfl rfl (by omega) (Nat.le_of_ble_eq_true rfl) dX0_bathe_19 rfl ?_
  exact a_vret ho dX0_bathe_22 hr0 (rS hs0 (ro_el h))
theorem T_X0_bathe_0 {G : gM} {dr : Nat} (ho : gOk G "WaxCloth$Baths" cX0_bathe (dr + 1) none 8) (hr0 : gv0 G = none) {σ0 : gS} (hs0 : gs0 G = σ0) {rc : Int32 → Int32 → Int32 → Int32 → Int32 → gS → Option gS} (hdr : 4 ≤ dr) (hrc : ∀ (a2 : Int32) (a3 : Int32) (a4 : Int32) (a5 : Int32) (a6 : Int32) (σ τ : gS), rc a2 a3 a4 a5 a6 σ = some τ → gCt (gl G) (gXX G) yX0_bathe (.code yX0_bathe cX0_bathe 8 none) dr [.ref (gad G 73), .ref (gad G 10), .int a2, .int a3, .int a4, .int a5, .int a6] σ none τ) {x2 : Int32} {x3 : Int32} {x4 : Int32} {x5 : Int32} {x6 : Int32} {σ : gS} (h : F_X0_bathe_0 rc x2 x3 x4 x5 x6 σ = some σ0) : gAt G 0 [(0, .ref (gad G 73)), (1, .ref (gad G 10)), (2, .int x2), (3, .int x3), (4, .int x4), (5, .int x5), (6, .int x6)] [] σ := by
  unfold F_X0_bathe_0 at h
  refine a_iload ho dX0_bathe_0 rfl 4 rfl ?_
  refine a_iload ho dX0_bathe_2 rfl 5 rfl ?_
  refine a_icmp_ge (tgt := 13) ho dX0_bathe_4 rfl rfl (fun hc4 => ?_) (fun hc4 => ?_)
  · replace h := if_t hc4 h
    exact a_sub [0, 3, 5, 6] rfl (T_X0_bathe_13 ho hr0 hs0 hdr hrc h)
  · replace h := if_f hc4 h
    refine a_iload ho dX0_bathe_7 rfl 4 rfl ?_
    refine a_iconst (v := 5) ho dX0_bathe_9 rfl (by decide) ?_
    refine a_icmp_lt (tgt := 23) ho dX0_bathe_10 rfl rfl (fun hc10 => ?_) (fun hc10 => ?_)
    · replace h := if_t hc10 h
      refine a_iconst (v := 0) ho dX0_bathe_23 rfl (by decide) ?_
      refine a_istore (L' := [(7, .int 0), (0, .ref (gad G 73)), (1, .ref (gad G 10)), (2, .int x2), (3, .int x3), (4, .int x4), (5, .int x5), (6, .int x6)]) ho dX0_bathe_24 rfl (by decide) rfl ?_
      exact a_sub [1, 2, 3, 4, 5, 6, 7, 0] rfl (T_X0_bathe_26 ho hr0 hs0 hdr hrc _ _ _ _ _ _ _ _ h)
    · replace h := if_f hc10 h
      exact a_sub [0, 3, 5, 6] rfl (T_X0_bathe_13 ho hr0 hs0 hdr hrc h)
theorem C_X0_bathe_n {l : Launch} {X : gX} : ∀ (n : Nat) (a2 : Int32) (a3 : Int32) (a4 : Int32) (a5 : Int32) (a6 : Int32) (σ σ0 : gS), F_X0_bathe n a2 a3 a4 a5 a6 σ = some σ0 → gCt l X yX0_bathe (.code yX0_bathe cX0_bathe 8 none) (4 + n) [.ref (X.2.2.1 73), .ref (X.2.2.1 10), .int a2, .int a3, .int a4, .int a5, .int a6] σ none σ0 := by
  intro n
  induction n with
  | zero => intro a2 a3 a4 a5 a6 σ σ0 h; cases h
  | succ n ih =>
    intro a2 a3 a4 a5 a6 σ σ0 h
    refine gCt_of cX0_bathe (by decide) (Nat.le_of_ble_eq_true rfl) (fun G hl hX hv hs ho => ?_)
    subst hl; subst hX
    exact a_sub [0, 1, 2, 3, 4, 5, 6] rfl (T_X0_bathe_0 (dr := 4 + n) ho hv hs (Nat.le_add_right _ _) (fun a2 a3 a4 a5 a6 σ τ q => ih a2 a3 a4 a5 a6 σ τ q) h)
theorem C_X0_bathe {l : Launch} {X : gX} {a2 : Int32} {a3 : Int32} {a4 : Int32} {a5 : Int32} {a6 : Int32} {σ σ0 : gS} (h : F_X0_bathe 7 a2 a3 a4 a5 a6 σ = some σ0) : gCt l X yX0_bathe (.code yX0_bathe cX0_bathe 8 none) 11 [.ref (X.2.2.1 73), .ref (X.2.2.1 10), .int a2, .int a3, .int a4, .int a5, .int a6] σ none σ0 := C_X0_bathe_n 7 a2 a3 a4 a5 a6 σ σ0 h
theorem T_X0_walk_13 {G : gM} (ho : gOk G "WaxCloth$Baths" cX0_walk 12 none 6) (hr0 : gv0 G = none) {σ0 : gS} (hs0 : gs0 G = σ0) : ∀ (n : Nat) (x2 : Int32) (x3 : Int32) (x4 : Int32) (x5 : Int32) (σ : gS), F_X0_walk_13 n x2 x3 x4 x5 σ = some σ0 → gAt G 13 [(0, .ref (gad G 73)), (1, .ref (gad G 10)), (2, .int x2), (3, .int x3), (4, .int x4), (5, .int x5)] [] σ := by
  intro n
  induction n with
  | zero => intro x2 x3 x4 x5 σ h; cases h
  | succ n ih =>
    intro x2 x3 x4 x5 σ h
    unfold F_X0_walk_13 at h
    refine a_iload ho dX0_walk_13 rfl 5 rfl ?_
    refine a_aload_n ho dX0_walk_15 rfl rfl 0 rfl ?_
    refine a_getR ho fl_X0_20 o_73 fr_0_4 dX0_walk_16 rfl ?_
    refine a_alenJ (v := 64) ho j_76 rfl dX0_walk_19 rfl ?_
    refine a_icmp_ge (tgt := 37) ho dX0_walk_20 rfl rfl (fun hc20 => ?_) (fun hc20 => ?_)
    · replace h := if_t hc20 h
      refine a_aload_n ho dX0_walk_37 rfl rfl 0 rfl ?_
      refine a_aload_n ho dX0_walk_38 rfl rfl 1 rfl ?_
      refine a_iload_n ho dX0_walk_39 rfl rfl 2 rfl ?_
      refine a_iconst (v := 0) ho dX0_walk_40 rfl (by decide) ?_
      refine a_iconst (v := 0) ho dX0_walk_41 rfl (by decide) ?_
      refine a_iload_n ho dX0_walk_42 rfl rfl 3 rfl ?_
      refine a_iload ho dX0_walk_43 rfl 4 rfl ?_
      obtain ⟨σ45, hq45, h⟩ := ob_el h
      refine a_callVv ho vy_X0_bathe ml_X0_31 o_73 (C_X0_bathe hq45) rfl rfl (by decide) (Nat.le_of_ble_eq_true rfl) dX0_walk_45 rfl ?_
      exact a_vret ho dX0_walk_48 hr0 (rS hs0 (ro_el h))
    · replace h := if_f hc20 h
      refine a_aload_n ho dX0_walk_23 rfl rfl 0 rfl ?_
      refine a_getR ho fl_X0_20 o_73 fr_0_4 dX0_walk_24 rfl ?_
      refine a_iload ho dX0_walk_27 rfl 5 rfl ?_
      refine a_lconst (v := 0) ho dX0_walk_29 rfl (by decide) ?_
      obtain ⟨hk30, h⟩ := ck_el h
      refine a_last ho j_76 hk30 dX0_walk_30 rfl ?_
      obtain ⟨σ30, hs30, h⟩ := bd_el h
      refine a_nmS hs30 ?_
      obtain ⟨x31, hb31, h⟩ := bd_el h
      refine a_iinc (L' := [(5, .int x31), (0, .ref (gad G 73)), (1, .ref (gad G 10)), (2, .int x2), (3, .int x3), (4, .int x4)]) ho dX0_walk_31 rfl 5 rfl hb31 (by decide) rfl ?_
      refine a_goto (tgt := 13) ho dX0_walk_34 rfl ?_
      exact a_sub [1, 2, 3, 4, 5, 0] rfl (ih _ _ _ _ _ h)
theorem T_X0_walk_0 {G : gM} (ho : gOk G "WaxCloth$Baths" cX0_walk 12 none 6) (hr0 : gv0 G = none) {σ0 : gS} (hs0 : gs0 G = σ0) {x2 : Int32} {x3 : Int32} {x4 : Int32} {σ : gS} (h : F_X0_walk_0 x2 x3 x4 σ = some σ0) : gAt G 0 [(0, .ref (gad G 73)), (1, .ref (gad G 10)), (2, .int x2), (3, .int x3), (4, .int x4)] [] σ := by
  unfold F_X0_walk_0 at h
  refine a_aload_n ho dX0_walk_0 rfl rfl 0 rfl ?_
  refine a_iconst (v := 0) ho dX0_walk_1 rfl (by decide) ?_
  refine a_putI ho fp_X0_24 o_73 (ff_0_0 _ o_73) dX0_walk_2 rfl ?_
  obtain ⟨σ2, hs2, h⟩ := bd_el h
  refine a_nmS hs2 ?_
  refine a_aload_n ho dX0_walk_5 rfl rfl 0 rfl ?_
  refine a_iconst (v := 0) ho dX0_walk_6 rfl (by decide) ?_
  refine a_putI ho fp_X0_28 o_73 (ff_0_1 _ o_73) dX0_walk_7 rfl ?_
  obtain ⟨σ7, hs7, h⟩ := bd_el h
  refine a_nmS hs7 ?_
  refine a_iconst (v := 0) ho dX0_walk_10 rfl (by decide) ?_
  refine a_istore (L' := [(5, .int 0), (0, .ref (gad G 73)), (1, .ref (gad G 10)), (2, .int x2), (3, .int x3), (4, .int x4)]) ho dX0_walk_11 rfl (by decide) rfl ?_
  exact a_sub [1, 2, 3, 4, 5, 0] rfl (T_X0_walk_13 ho hr0 hs0 _ _ _ _ _ _ h)
theorem C_X0_walk {l : Launch} {X : gX} {σ σ0 : gS} {a2 : Int32} {a3 : Int32} {a4 : Int32} (h : F_X0_walk_0 a2 a3 a4 σ = some σ0) : gCt l X yX0_walk (.code yX0_walk cX0_walk 6 none) 12 [.ref (X.2.2.1 73), .ref (X.2.2.1 10), .int a2, .int a3, .int a4] σ (none) σ0 :=
  gCt_of cX0_walk (by decide) (Nat.le_of_ble_eq_true rfl) (fun G hl hX hv hs ho => by subst hl; subst hX; exact a_sub [0, 1, 2, 3, 4] rfl (T_X0_walk_0 ho hv hs h))
theorem T_X1_greatestCommon_34 {G : gM} (ho : gOk G "WaxCloth$Chances" cX1_greatestCommon 1 (some .int) 6) {r0 : Int32} (hr0 : gv0 G = some (.int r0)) {σ : gS} (hs0 : gs0 G = σ) {x2 : Int32} (h : F_X1_greatestCommon_34 x2 = some r0) : gAt G 34 [(2, .int x2)] [] σ := by
  unfold F_X1_greatestCommon_34 at h
  refine a_iload_n ho dX1_greatestCommon_34 rfl rfl 0 rfl ?_
  refine a_iconst (v := 1) ho dX1_greatestCommon_35 rfl (by decide) ?_
  refine a_max ho mx_X1_89 (by decide) (Nat.le_of_ble_eq_true rfl) dX1_greatestCommon_36 rfl ?_
  exact a_iret ho dX1_greatestCommon_39 (rI hr0 (ro_el h)) hs0
theorem T_X1_greatestCommon_7 {G : gM} (ho : gOk G "WaxCloth$Chances" cX1_greatestCommon 1 (some .int) 6) {r0 : Int32} (hr0 : gv0 G = some (.int r0)) {σ : gS} (hs0 : gs0 G = σ) : ∀ (n : Nat) (x2 : Int32) (x3 : Int32) (x4 : Int32), F_X1_greatestCommon_7 n x2 x3 x4 = some r0 → gAt G 7 [(2, .int x2), (3, .int x3), (4, .int x4)] [] σ := by
  intro n
  induction n with
  | zero => intro x2 x3 x4 h; cases h
  | succ n ih =>
    intro x2 x3 x4 h
    unfold F_X1_greatestCommon_7 at h
    refine a_iload_n ho dX1_greatestCommon_7 rfl rfl 1 rfl ?_
    refine a_if_eq (tgt := 34) ho dX1_greatestCommon_8 rfl rfl (fun hc8 => ?_) (fun hc8 => ?_)
    · replace h := if_t hc8 h
      exact a_sub [0] rfl (T_X1_greatestCommon_34 ho hr0 hs0 h)
    · replace h := if_f hc8 h
      refine a_iload ho dX1_greatestCommon_11 rfl 2 rfl ?_
      refine a_bipush (v := 100) ho dX1_greatestCommon_13 rfl (by decide) ?_
      refine a_icmp_ge (tgt := 34) ho dX1_greatestCommon_15 rfl rfl (fun hc15 => ?_) (fun hc15 => ?_)
      · replace h := if_t hc15 h
        exact a_sub [0] rfl (T_X1_greatestCommon_34 ho hr0 hs0 h)
      · replace h := if_f hc15 h
        refine a_iload_n ho dX1_greatestCommon_18 rfl rfl 0 rfl ?_
        refine a_iload_n ho dX1_greatestCommon_19 rfl rfl 1 rfl ?_
        obtain ⟨hk20, h⟩ := ck_el h
        refine a_irem ho dX1_greatestCommon_20 rfl hk20 ?_
        obtain ⟨x21, hb21, h⟩ := bd_el h
        refine a_nmI hb21 ?_
        refine a_istore (L' := [(5, .int x21), (2, .int x2), (3, .int x3), (4, .int x4)]) ho dX1_greatestCommon_21 rfl (by decide) rfl ?_
        refine a_iload_n ho dX1_greatestCommon_23 rfl rfl 2 rfl ?_
        refine a_istore_n (L' := [(2, .int x3), (5, .int x21), (3, .int x3), (4, .int x4)]) ho dX1_greatestCommon_24 rfl rfl (by decide) rfl ?_
        refine a_iload ho dX1_greatestCommon_25 rfl 1 rfl ?_
        refine a_istore_n (L' := [(3, .int x21), (2, .int x3), (5, .int x21), (4, .int x4)]) ho dX1_greatestCommon_27 rfl rfl (by decide) rfl ?_
        obtain ⟨x28, hb28, h⟩ := bd_el h
        refine a_iinc (L' := [(4, .int x28), (3, .int x21), (2, .int x3), (5, .int x21)]) ho dX1_greatestCommon_28 rfl 3 rfl hb28 (by decide) rfl ?_
        refine a_goto (tgt := 7) ho dX1_greatestCommon_31 rfl ?_
        exact a_sub [2, 1, 0] rfl (ih _ _ _ h)
theorem T_X1_greatestCommon_0 {G : gM} (ho : gOk G "WaxCloth$Chances" cX1_greatestCommon 1 (some .int) 6) {r0 : Int32} (hr0 : gv0 G = some (.int r0)) {σ : gS} (hs0 : gs0 G = σ) {x0 : Int32} {x1 : Int32} (h : F_X1_greatestCommon_0 x0 x1 = some r0) : gAt G 0 [(0, .int x0), (1, .int x1)] [] σ := by
  unfold F_X1_greatestCommon_0 at h
  refine a_iload_n ho dX1_greatestCommon_0 rfl rfl 0 rfl ?_
  refine a_istore_n (L' := [(2, .int x0), (0, .int x0), (1, .int x1)]) ho dX1_greatestCommon_1 rfl rfl (by decide) rfl ?_
  refine a_iload_n ho dX1_greatestCommon_2 rfl rfl 2 rfl ?_
  refine a_istore_n (L' := [(3, .int x1), (2, .int x0), (0, .int x0), (1, .int x1)]) ho dX1_greatestCommon_3 rfl rfl (by decide) rfl ?_
  refine a_iconst (v := 0) ho dX1_greatestCommon_4 rfl (by decide) ?_
  refine a_istore (L' := [(4, .int 0), (3, .int x1), (2, .int x0), (0, .int x0), (1, .int x1)]) ho dX1_greatestCommon_5 rfl (by decide) rfl ?_
  exact a_sub [2, 1, 0] rfl (T_X1_greatestCommon_7 ho hr0 hs0 _ _ _ _ h)
theorem C_X1_greatestCommon {l : Launch} {X : gX} {σ : gS} {r0 : Int32} {a0 : Int32} {a1 : Int32} (h : F_X1_greatestCommon_0 a0 a1 = some r0) : gCt l X yX1_greatestCommon (.code yX1_greatestCommon cX1_greatestCommon 6 (some .int)) 1 [.int a0, .int a1] σ (some (.int r0)) σ :=
  gCt_of cX1_greatestCommon (by decide) (Nat.le_of_ble_eq_true rfl) (fun G hl hX hv hs ho => by subst hl; subst hX; exact a_sub [0, 1] rfl (T_X1_greatestCommon_0 ho hv hs h))
theorem T_X1_weigh_30 {G : gM} (ho : gOk G "WaxCloth$Chances" cX1_weigh 1 none 5) (hr0 : gv0 G = none) {σ0 : gS} (hs0 : gs0 G = σ0) {g8 : Int32 → Int32 → Int32 → gS → Option gS} (hg8 : ∀ (x1 : Int32) (x2 : Int32) (x3 : Int32) (σ : gS), g8 x1 x2 x3 σ = some σ0 → gAt G 8 [(0, .ref (gad G 77)), (1, .int x1), (2, .int x2), (3, .int x3)] [] σ) {x1 : Int32} {x2 : Int32} {x3 : Int32} {y0 : Int32} {σ : gS} (h : F_X1_weigh_30 g8 x1 x2 x3 y0 σ = some σ0) : gAt G 30 [(0, .ref (gad G 77)), (1, .int x1), (2, .int x2), (3, .int x3)] [.int y0] σ := by
  unfold F_X1_weigh_30 at h
  refine a_istore (L' := [(4, .int y0), (0, .ref (gad G 77)), (1, .int x1), (2, .int x2), (3, .int x3)]) ho dX1_weigh_30 rfl (by decide) rfl ?_
  refine a_aload_n ho dX1_weigh_32 rfl rfl 1 rfl ?_
  refine a_getR ho fl_X1_11 o_77 fr_1_4 dX1_weigh_33 rfl ?_
  refine a_iload_n ho dX1_weigh_36 rfl rfl 4 rfl ?_
  refine a_aload_n ho dX1_weigh_37 rfl rfl 1 rfl ?_
  refine a_getR ho fl_X1_11 o_77 fr_1_4 dX1_weigh_38 rfl ?_
  refine a_iload_n ho dX1_weigh_41 rfl rfl 4 rfl ?_
  obtain ⟨hk42, h⟩ := ck_el h
  refine a_iald ho i_78 hk42 dX1_weigh_42 rfl ?_
  refine a_iload_n ho dX1_weigh_43 rfl rfl 3 rfl ?_
  refine a_iload_n ho dX1_weigh_44 rfl rfl 2 rfl ?_
  refine a_isub ho dX1_weigh_45 rfl ?_
  refine a_imul ho dX1_weigh_46 rfl ?_
  refine a_iload ho dX1_weigh_47 rfl 0 rfl ?_
  refine a_iadd ho dX1_weigh_49 rfl ?_
  obtain ⟨hk50, h⟩ := ck_el h
  refine a_iast ho i_78 hk50 dX1_weigh_50 rfl ?_
  obtain ⟨σ50, hs50, h⟩ := bd_el h
  refine a_nmS hs50 ?_
  obtain ⟨x51, hb51, h⟩ := bd_el h
  refine a_iinc (L' := [(3, .int x51), (4, .int y0), (0, .ref (gad G 77)), (1, .int x1), (2, .int x2)]) ho dX1_weigh_51 rfl 4 rfl hb51 (by decide) rfl ?_
  refine a_goto (tgt := 8) ho dX1_weigh_54 rfl ?_
  exact a_sub [2, 3, 4, 0] rfl (hg8 _ _ _ _ h)
theorem T_X1_weigh_8 {G : gM} (ho : gOk G "WaxCloth$Chances" cX1_weigh 1 none 5) (hr0 : gv0 G = none) {σ0 : gS} (hs0 : gs0 G = σ0) : ∀ (n : Nat) (x1 : Int32) (x2 : Int32) (x3 : Int32) (σ : gS), F_X1_weigh_8 n x1 x2 x3 σ = some σ0 → gAt G 8 [(0, .ref (gad G 77)), (1, .int x1), (2, .int x2), (3, .int x3)] [] σ := by
  intro n
  induction n with
  | zero => intro x1 x2 x3 σ h; cases h
  | succ n ih =>
    intro x1 x2 x3 σ h
    unfold F_X1_weigh_8 at h
    refine a_iload_n ho dX1_weigh_8 rfl rfl 3 rfl ?_
    refine a_if_lt (tgt := 57) ho dX1_weigh_9 rfl rfl (fun hc9 => ?_) (fun hc9 => ?_)
    · replace h := if_t hc9 h
      exact a_vret ho dX1_weigh_57 hr0 (rS hs0 (ro_el h))
    · replace h := if_f hc9 h
      refine a_iload_n ho dX1_weigh_12 rfl rfl 3 rfl ?_
      refine a_if_le (tgt := 29) ho dX1_weigh_13 rfl rfl (fun hc13 => ?_) (fun hc13 => ?_)
      · replace h := if_t hc13 h
        refine a_iconst (v := 0) ho dX1_weigh_29 rfl (by decide) ?_
        exact a_sub [0, 1, 2, 3] rfl (T_X1_weigh_30 ho hr0 hs0 ih h)
      · replace h := if_f hc13 h
        refine a_aload_n ho dX1_weigh_16 rfl rfl 0 rfl ?_
        refine a_getR ho fl_X1_11 o_77 fr_1_4 dX1_weigh_17 rfl ?_
        refine a_iload_n ho dX1_weigh_20 rfl rfl 3 rfl ?_
        refine a_iconst (v := 1) ho dX1_weigh_21 rfl (by decide) ?_
        refine a_isub ho dX1_weigh_22 rfl ?_
        obtain ⟨hk23, h⟩ := ck_el h
        refine a_iald ho i_78 hk23 dX1_weigh_23 rfl ?_
        refine a_iload_n ho dX1_weigh_24 rfl rfl 1 rfl ?_
        refine a_imul ho dX1_weigh_25 rfl ?_
        refine a_goto (tgt := 30) ho dX1_weigh_26 rfl ?_
        exact a_sub [0, 1, 2, 3] rfl (T_X1_weigh_30 ho hr0 hs0 ih h)
theorem T_X1_weigh_0 {G : gM} (ho : gOk G "WaxCloth$Chances" cX1_weigh 1 none 5) (hr0 : gv0 G = none) {σ0 : gS} (hs0 : gs0 G = σ0) {x1 : Int32} {x2 : Int32} {σ : gS} (h : F_X1_weigh_0 x1 x2 σ = some σ0) : gAt G 0 [(0, .ref (gad G 77)), (1, .int x1), (2, .int x2)] [] σ := by
  unfold F_X1_weigh_0 at h
  refine a_aload_n ho dX1_weigh_0 rfl rfl 0 rfl ?_
  refine a_getR ho fl_X1_11 o_77 fr_1_4 dX1_weigh_1 rfl ?_
  refine a_alen (v := 9) ho i_78 rfl dX1_weigh_4 rfl ?_
  refine a_iconst (v := 1) ho dX1_weigh_5 rfl (by decide) ?_
  refine a_isub ho dX1_weigh_6 rfl ?_
  obtain ⟨x7, hb7, h⟩ := bd_el h
  refine a_nmI hb7 ?_
  refine a_istore_n (L' := [(3, .int x7), (0, .ref (gad G 77)), (1, .int x1), (2, .int x2)]) ho dX1_weigh_7 rfl rfl (by decide) rfl ?_
  exact a_sub [1, 2, 3, 0] rfl (T_X1_weigh_8 ho hr0 hs0 _ _ _ _ _ h)
theorem C_X1_weigh {l : Launch} {X : gX} {σ σ0 : gS} {a1 : Int32} {a2 : Int32} (h : F_X1_weigh_0 a1 a2 σ = some σ0) : gCt l X yX1_weigh (.code yX1_weigh cX1_weigh 5 none) 1 [.ref (X.2.2.1 77), .int a1, .int a2] σ (none) σ0 :=
  gCt_of cX1_weigh (by decide) (Nat.le_of_ble_eq_true rfl) (fun G hl hX hv hs ho => by subst hl; subst hX; exact a_sub [0, 1, 2] rfl (T_X1_weigh_0 ho hv hs h))
theorem T_X9_hueOf_57 {G : gM} (ho : gOk G "WaxCloth$State" cX9_hueOf 2 (some .int) 5) {r0 : Int32} (hr0 : gv0 G = some (.int r0)) {σ : gS} (hs0 : gs0 G = σ) {g26 : Int32 → Int32 → Int32 → Int32 → Option Int32} (hg26 : ∀ (x0 : Int32) (x1 : Int32) (x2 : Int32) (x3 : Int32), g26 x0 x1 x2 x3 = some r0 → gAt G 26 [(0, .int x0), (1, .int x1), (2, .int x2), (3, .int x3)] [] σ) {x0 : Int32} {x1 : Int32} {x2 : Int32} {x3 : Int32} (h : F_X9_hueOf_57 g26 x0 x1 x2 x3 = some r0) : gAt G 57 [(0, .int x0), (1, .int x1), (2, .int x2), (3, .int x3)] [] σ := by
  unfold F_X9_hueOf_57 at h
  obtain ⟨x57, hb57, h⟩ := bd_el h
  refine a_iinc (L' := [(3, .int x57), (0, .int x0), (1, .int x1), (2, .int x2)]) ho dX9_hueOf_57 rfl 3 rfl hb57 (by decide) rfl ?_
  refine a_goto (tgt := 26) ho dX9_hueOf_60 rfl ?_
  exact a_sub [1, 2, 3, 0] rfl (hg26 _ _ _ _ h)
theorem T_X9_hueOf_26 {G : gM} (ho : gOk G "WaxCloth$State" cX9_hueOf 2 (some .int) 5) {r0 : Int32} (hr0 : gv0 G = some (.int r0)) {σ : gS} (hs0 : gs0 G = σ) : ∀ (n : Nat) (x0 : Int32) (x1 : Int32) (x2 : Int32) (x3 : Int32), F_X9_hueOf_26 n x0 x1 x2 x3 = some r0 → gAt G 26 [(0, .int x0), (1, .int x1), (2, .int x2), (3, .int x3)] [] σ := by
  intro n
  induction n with
  | zero => intro x0 x1 x2 x3 h; cases h
  | succ n ih =>
    intro x0 x1 x2 x3 h
    unfold F_X9_hueOf_26 at h
    refine a_iload_n ho dX9_hueOf_26 rfl rfl 3 rfl ?_
    refine a_iconst (v := 3) ho dX9_hueOf_27 rfl (by decide) ?_
    refine a_icmp_ge (tgt := 63) ho dX9_hueOf_28 rfl rfl (fun hc28 => ?_) (fun hc28 => ?_)
    · replace h := if_t hc28 h
      refine a_iload_n ho dX9_hueOf_63 rfl rfl 2 rfl ?_
      exact a_iret ho dX9_hueOf_64 (rI hr0 (ro_el h)) hs0
    · replace h := if_f hc28 h
      refine a_iload_n ho dX9_hueOf_31 rfl rfl 0 rfl ?_
      refine a_iload_n ho dX9_hueOf_32 rfl rfl 3 rfl ?_
      refine a_callSi ho vy_X9_amountOf ml_X9_9 (C_X9_amountOf x0 x3) rfl rfl (by decide) (Nat.le_of_ble_eq_true rfl) dX9_hueOf_33 rfl ?_
      obtain ⟨x36, hb36, h⟩ := bd_el h
      refine a_nmI hb36 ?_
      refine a_istore (L' := [(4, .int x36), (0, .int x0), (1, .int x1), (2, .int x2), (3, .int x3)]) ho dX9_hueOf_36 rfl (by decide) rfl ?_
      refine a_iload ho dX9_hueOf_38 rfl 0 rfl ?_
      refine a_if_le (tgt := 57) ho dX9_hueOf_40 rfl rfl (fun hc40 => ?_) (fun hc40 => ?_)
      · replace h := if_t hc40 h
        exact a_sub [1, 2, 3, 4] rfl (T_X9_hueOf_57 ho hr0 hs0 ih h)
      · replace h := if_f hc40 h
        refine a_iconst (v := 2) ho dX9_hueOf_43 rfl (by decide) ?_
        refine a_iload ho dX9_hueOf_44 rfl 0 rfl ?_
        refine a_imul ho dX9_hueOf_46 rfl ?_
        refine a_iload_n ho dX9_hueOf_47 rfl rfl 2 rfl ?_
        refine a_icmp_lt (tgt := 57) ho dX9_hueOf_48 rfl rfl (fun hc48 => ?_) (fun hc48 => ?_)
        · replace h := if_t hc48 h
          exact a_sub [1, 2, 3, 4] rfl (T_X9_hueOf_57 ho hr0 hs0 ih h)
        · replace h := if_f hc48 h
          refine a_iload_n ho dX9_hueOf_51 rfl rfl 3 rfl ?_
          refine a_iconst (v := 1) ho dX9_hueOf_52 rfl (by decide) ?_
          refine a_iload_n ho dX9_hueOf_53 rfl rfl 4 rfl ?_
          refine a_ishl ho dX9_hueOf_54 rfl ?_
          refine a_ior ho dX9_hueOf_55 rfl ?_
          obtain ⟨x56, hb56, h⟩ := bd_el h
          refine a_nmI hb56 ?_
          refine a_istore_n (L' := [(2, .int x56), (4, .int x36), (0, .int x0), (1, .int x1), (3, .int x3)]) ho dX9_hueOf_56 rfl rfl (by decide) rfl ?_
          exact a_sub [2, 3, 0, 4] rfl (T_X9_hueOf_57 ho hr0 hs0 ih h)
theorem T_X9_hueOf_0 {G : gM} (ho : gOk G "WaxCloth$State" cX9_hueOf 2 (some .int) 5) {r0 : Int32} (hr0 : gv0 G = some (.int r0)) {σ : gS} (hs0 : gs0 G = σ) {x0 : Int32} (h : F_X9_hueOf_0 x0 = some r0) : gAt G 0 [(0, .int x0)] [] σ := by
  unfold F_X9_hueOf_0 at h
  refine a_iload_n ho dX9_hueOf_0 rfl rfl 0 rfl ?_
  refine a_iconst (v := 0) ho dX9_hueOf_1 rfl (by decide) ?_
  refine a_callSi ho vy_X9_amountOf ml_X9_9 (C_X9_amountOf x0 0) rfl rfl (by decide) (Nat.le_of_ble_eq_true rfl) dX9_hueOf_2 rfl ?_
  refine a_iload_n ho dX9_hueOf_5 rfl rfl 0 rfl ?_
  refine a_iconst (v := 1) ho dX9_hueOf_6 rfl (by decide) ?_
  refine a_callSi ho vy_X9_amountOf ml_X9_9 (C_X9_amountOf x0 1) rfl rfl (by decide) (Nat.le_of_ble_eq_true rfl) dX9_hueOf_7 rfl ?_
  refine a_iload_n ho dX9_hueOf_10 rfl rfl 0 rfl ?_
  refine a_iconst (v := 2) ho dX9_hueOf_11 rfl (by decide) ?_
  refine a_callSi ho vy_X9_amountOf ml_X9_9 (C_X9_amountOf x0 2) rfl rfl (by decide) (Nat.le_of_ble_eq_true rfl) dX9_hueOf_12 rfl ?_
  refine a_max ho mx_X9_13 (by decide) (Nat.le_of_ble_eq_true rfl) dX9_hueOf_15 rfl ?_
  refine a_max ho mx_X9_13 (by decide) (Nat.le_of_ble_eq_true rfl) dX9_hueOf_18 rfl ?_
  obtain ⟨x21, hb21, h⟩ := bd_el h
  refine a_nmI hb21 ?_
  refine a_istore_n (L' := [(1, .int x21), (0, .int x0)]) ho dX9_hueOf_21 rfl rfl (by decide) rfl ?_
  refine a_iconst (v := 0) ho dX9_hueOf_22 rfl (by decide) ?_
  refine a_istore_n (L' := [(2, .int 0), (1, .int x21), (0, .int x0)]) ho dX9_hueOf_23 rfl rfl (by decide) rfl ?_
  refine a_iconst (v := 0) ho dX9_hueOf_24 rfl (by decide) ?_
  refine a_istore_n (L' := [(3, .int 0), (2, .int 0), (1, .int x21), (0, .int x0)]) ho dX9_hueOf_25 rfl rfl (by decide) rfl ?_
  exact a_sub [3, 2, 1, 0] rfl (T_X9_hueOf_26 ho hr0 hs0 _ _ _ _ _ h)
theorem C_X9_hueOf {l : Launch} {X : gX} {σ : gS} {r0 : Int32} {a0 : Int32} (h : F_X9_hueOf_0 a0 = some r0) : gCt l X yX9_hueOf (.code yX9_hueOf cX9_hueOf 5 (some .int)) 2 [.int a0] σ (some (.int r0)) σ :=
  gCt_of cX9_hueOf (by decide) (Nat.le_of_ble_eq_true rfl) (fun G hl hX hv hs ho => by subst hl; subst hX; exact a_sub [0] rfl (T_X9_hueOf_0 ho hv hs h))
theorem T_X2_isRight_0 {G : gM} (ho : gOk G "WaxCloth$Cloth" cX2_isRight 3 (some .boolean) 3) {r0 : Int32} (hr0 : gv0 G = some (.int r0)) {σ : gS} (hs0 : gs0 G = σ) {x1 : Int32} {x2 : Int32} (h : F_X2_isRight_0 x1 x2 σ = some r0) : gAt G 0 [(0, .ref (gad G 10)), (1, .int x1), (2, .int x2)] [] σ := by
  unfold F_X2_isRight_0 at h
  refine a_iload_n ho dX2_isRight_0 rfl rfl 2 rfl ?_
  obtain ⟨r1, hq1, h⟩ := ob_el h
  refine a_callSi ho vy_X9_hueOf ml_X2_106 (C_X9_hueOf hq1) rfl rfl (by decide) (Nat.le_of_ble_eq_true rfl) dX2_isRight_1 rfl ?_
  refine a_aload_n ho dX2_isRight_4 rfl rfl 0 rfl ?_
  refine a_getR (q := 12) ho fl_X2_13 o_10 (fr_2_5 _ o_10) dX2_isRight_5 rfl ?_
  refine a_iload_n ho dX2_isRight_8 rfl rfl 1 rfl ?_
  obtain ⟨hk9, h⟩ := ck_el h
  refine a_iald ho i_12 hk9 dX2_isRight_9 rfl ?_
  refine a_icmp_ne (tgt := 17) ho dX2_isRight_10 rfl rfl (fun hc10 => ?_) (fun hc10 => ?_)
  · replace h := if_f hc10 h
    refine a_iconst (v := 0) ho dX2_isRight_17 rfl (by decide) ?_
    exact a_zret ho dX2_isRight_18 rfl (rI hr0 (ro_el h)) hs0
  · replace h := if_t hc10 h
    refine a_iconst (v := 1) ho dX2_isRight_13 rfl (by decide) ?_
    refine a_goto (tgt := 18) ho dX2_isRight_14 rfl ?_
    exact a_zret ho dX2_isRight_18 rfl (rI hr0 (ro_el h)) hs0
theorem C_X2_isRight {l : Launch} {X : gX} {σ : gS} {r0 : Int32} {a1 : Int32} {a2 : Int32} (h : F_X2_isRight_0 a1 a2 σ = some r0) : gCt l X yX2_isRight (.code yX2_isRight cX2_isRight 3 (some .boolean)) 3 [.ref (X.2.2.1 10), .int a1, .int a2] σ (some (.int r0)) σ :=
  gCt_of cX2_isRight (by decide) (Nat.le_of_ble_eq_true rfl) (fun G hl hX hv hs ho => by subst hl; subst hX; exact a_sub [0, 1, 2] rfl (T_X2_isRight_0 ho hv hs h))
theorem T_X9_waxIn_0 {G : gM} (ho : gOk G "WaxCloth$State" cX9_waxIn 1 (some .int) 1) {r0 : Int32} (hr0 : gv0 G = some (.int r0)) {σ : gS} (hs0 : gs0 G = σ) {x0 : Int32} (h : F_X9_waxIn_0 x0 = r0) : gAt G 0 [(0, .int x0)] [] σ := by
  unfold F_X9_waxIn_0 at h
  refine a_iload_n ho dX9_waxIn_0 rfl rfl 0 rfl ?_
  refine a_bipush (v := 12) ho dX9_waxIn_1 rfl (by decide) ?_
  refine a_ishr ho dX9_waxIn_3 rfl ?_
  exact a_iret ho dX9_waxIn_4 (rI hr0 h) hs0
theorem C_X9_waxIn {l : Launch} {X : gX} {σ : gS} (a0 : Int32) : gCt l X yX9_waxIn (.code yX9_waxIn cX9_waxIn 1 (some .int)) 1 [.int a0] σ (some (.int (F_X9_waxIn_0 a0))) σ :=
  gCt_of cX9_waxIn (by decide) (Nat.le_of_ble_eq_true rfl) (fun G hl hX hv hs ho => by subst hl; subst hX; exact a_sub [0] rfl (T_X9_waxIn_0 ho hv hs rfl))
theorem T_X1_crack_183 {G : gM} (ho : gOk G "WaxCloth$Chances" cX1_crack 4 none 13) (hr0 : gv0 G = none) {σ0 : gS} (hs0 : gs0 G = σ0) : ∀ (n : Nat) (x5 : Int32) (x6 : Int32) (x7 : Int32) (σ : gS), F_X1_crack_183 n x5 x6 x7 σ = some σ0 → gAt G 183 [(0, .ref (gad G 77)), (5, .int x5), (6, .int x6), (7, .int x7)] [] σ := by
  intro n
  induction n with
  | zero => intro x5 x6 x7 σ h; cases h
  | succ n ih =>
    intro x5 x6 x7 σ h
    unfold F_X1_crack_183 at h
    refine a_iload ho dX1_crack_183 rfl 3 rfl ?_
    refine a_aload_n ho dX1_crack_185 rfl rfl 0 rfl ?_
    refine a_getR ho fl_X1_11 o_77 fr_1_4 dX1_crack_186 rfl ?_
    refine a_alen (v := 9) ho i_78 rfl dX1_crack_189 rfl ?_
    refine a_icmp_ge (tgt := 211) ho dX1_crack_190 rfl rfl (fun hc190 => ?_) (fun hc190 => ?_)
    · replace h := if_t hc190 h
      refine a_iload ho dX1_crack_211 rfl 1 rfl ?_
      refine a_iload ho dX1_crack_213 rfl 2 rfl ?_
      obtain ⟨r215, hq215, h⟩ := ob_el h
      refine a_callSi ho vy_X1_greatestCommon ml_X1_43 (C_X1_greatestCommon hq215) rfl rfl (by decide) (Nat.le_of_ble_eq_true rfl) dX1_crack_215 rfl ?_
      refine a_istore (L' := [(7, .int r215), (0, .ref (gad G 77)), (5, .int x5), (6, .int x6)]) ho dX1_crack_218 rfl (by decide) rfl ?_
      refine a_aload_n ho dX1_crack_220 rfl rfl 1 rfl ?_
      refine a_iload ho dX1_crack_221 rfl 3 rfl ?_
      refine a_iload ho dX1_crack_223 rfl 0 rfl ?_
      obtain ⟨hk225, h⟩ := ck_el h
      refine a_idiv ho dX1_crack_225 rfl hk225 ?_
      refine a_putI ho fp_X1_47 o_77 (ff_1_0 _ o_77) dX1_crack_226 rfl ?_
      obtain ⟨σ226, hs226, h⟩ := bd_el h
      refine a_nmS hs226 ?_
      refine a_aload_n ho dX1_crack_229 rfl rfl 1 rfl ?_
      refine a_iload ho dX1_crack_230 rfl 2 rfl ?_
      refine a_iload ho dX1_crack_232 rfl 0 rfl ?_
      obtain ⟨hk234, h⟩ := ck_el h
      refine a_idiv ho dX1_crack_234 rfl hk234 ?_
      refine a_putI ho fp_X1_50 o_77 (ff_1_1 _ o_77) dX1_crack_235 rfl ?_
      obtain ⟨σ235, hs235, h⟩ := bd_el h
      refine a_nmS hs235 ?_
      exact a_vret ho dX1_crack_238 hr0 (rS hs0 (ro_el h))
    · replace h := if_f hc190 h
      refine a_iload ho dX1_crack_193 rfl 2 rfl ?_
      refine a_aload_n ho dX1_crack_195 rfl rfl 0 rfl ?_
      refine a_getR ho fl_X1_11 o_77 fr_1_4 dX1_crack_196 rfl ?_
      refine a_iload ho dX1_crack_199 rfl 3 rfl ?_
      obtain ⟨hk201, h⟩ := ck_el h
      refine a_iald ho i_78 hk201 dX1_crack_201 rfl ?_
      refine a_iadd ho dX1_crack_202 rfl ?_
      obtain ⟨x203, hb203, h⟩ := bd_el h
      refine a_nmI hb203 ?_
      refine a_istore (L' := [(6, .int x203), (0, .ref (gad G 77)), (5, .int x5), (7, .int x7)]) ho dX1_crack_203 rfl (by decide) rfl ?_
      obtain ⟨x205, hb205, h⟩ := bd_el h
      refine a_iinc (L' := [(7, .int x205), (6, .int x203), (0, .ref (gad G 77)), (5, .int x5)]) ho dX1_crack_205 rfl 3 rfl hb205 (by decide) rfl ?_
      refine a_goto (tgt := 183) ho dX1_crack_208 rfl ?_
      exact a_sub [2, 3, 1, 0] rfl (ih _ _ _ _ h)
theorem T_X1_crack_152 {G : gM} (ho : gOk G "WaxCloth$Chances" cX1_crack 4 none 13) (hr0 : gv0 G = none) {σ0 : gS} (hs0 : gs0 G = σ0) {g40 : Int32 → Int32 → Int32 → Int32 → Int32 → gS → Option gS} (hg40 : ∀ (x2 : Int32) (x3 : Int32) (x4 : Int32) (x5 : Int32) (x6 : Int32) (σ : gS), g40 x2 x3 x4 x5 x6 σ = some σ0 → gAt G 40 [(0, .ref (gad G 77)), (1, .ref (gad G 10)), (2, .int x2), (3, .int x3), (4, .int x4), (5, .int x5), (6, .int x6)] [] σ) {x2 : Int32} {x3 : Int32} {x4 : Int32} {x5 : Int32} {x6 : Int32} {x9 : Int32} {x10 : Int32} {y0 : Int32} {y1 : Int32} {σ : gS} (h : F_X1_crack_152 g40 x2 x3 x4 x5 x6 x9 x10 y0 y1 σ = some σ0) : gAt G 152 [(0, .ref (gad G 77)), (1, .ref (gad G 10)), (2, .int x2), (3, .int x3), (4, .int x4), (5, .int x5), (6, .int x6), (9, .int x9), (10, .int x10)] [.int y0, .int y1, .ref (gad G 77)] σ := by
  unfold F_X1_crack_152 at h
  refine a_iadd ho dX1_crack_152 rfl ?_
  refine a_iload ho dX1_crack_153 rfl 7 rfl ?_
  refine a_iload ho dX1_crack_155 rfl 8 rfl ?_
  refine a_iadd ho dX1_crack_157 rfl ?_
  obtain ⟨σ158, hq158, h⟩ := ob_el h
  refine a_callVv ho vy_X1_weigh ml_X1_39 o_77 (C_X1_weigh hq158) rfl rfl (by decide) (Nat.le_of_ble_eq_true rfl) dX1_crack_158 rfl ?_
  refine a_iload ho dX1_crack_161 rfl 5 rfl ?_
  refine a_iload ho dX1_crack_163 rfl 7 rfl ?_
  refine a_iload ho dX1_crack_165 rfl 8 rfl ?_
  refine a_iadd ho dX1_crack_167 rfl ?_
  refine a_imul ho dX1_crack_168 rfl ?_
  obtain ⟨x169, hb169, h⟩ := bd_el h
  refine a_nmI hb169 ?_
  refine a_istore (L' := [(5, .int x169), (0, .ref (gad G 77)), (1, .ref (gad G 10)), (2, .int x2), (3, .int x3), (4, .int x4), (6, .int x6), (9, .int x9), (10, .int x10)]) ho dX1_crack_169 rfl (by decide) rfl ?_
  obtain ⟨x171, hb171, h⟩ := bd_el h
  refine a_iinc (L' := [(6, .int x171), (5, .int x169), (0, .ref (gad G 77)), (1, .ref (gad G 10)), (2, .int x2), (3, .int x3), (4, .int x4), (9, .int x9), (10, .int x10)]) ho dX1_crack_171 rfl 6 rfl hb171 (by decide) rfl ?_
  refine a_goto (tgt := 40) ho dX1_crack_174 rfl ?_
  exact a_sub [2, 3, 4, 5, 6, 1, 0] rfl (hg40 _ _ _ _ _ _ h)
theorem T_X1_crack_141 {G : gM} (ho : gOk G "WaxCloth$Chances" cX1_crack 4 none 13) (hr0 : gv0 G = none) {σ0 : gS} (hs0 : gs0 G = σ0) {g40 : Int32 → Int32 → Int32 → Int32 → Int32 → gS → Option gS} (hg40 : ∀ (x2 : Int32) (x3 : Int32) (x4 : Int32) (x5 : Int32) (x6 : Int32) (σ : gS), g40 x2 x3 x4 x5 x6 σ = some σ0 → gAt G 40 [(0, .ref (gad G 77)), (1, .ref (gad G 10)), (2, .int x2), (3, .int x3), (4, .int x4), (5, .int x5), (6, .int x6)] [] σ) {x2 : Int32} {x3 : Int32} {x4 : Int32} {x5 : Int32} {x6 : Int32} {x9 : Int32} {x10 : Int32} {x12 : Int32} {y0 : Int32} {σ : gS} (h : F_X1_crack_141 g40 x2 x3 x4 x5 x6 x9 x10 x12 y0 σ = some σ0) : gAt G 141 [(0, .ref (gad G 77)), (1, .ref (gad G 10)), (2, .int x2), (3, .int x3), (4, .int x4), (5, .int x5), (6, .int x6), (9, .int x9), (10, .int x10), (12, .int x12)] [.int y0, .ref (gad G 77)] σ := by
  unfold F_X1_crack_141 at h
  refine a_iload ho dX1_crack_141 rfl 9 rfl ?_
  refine a_if_eq (tgt := 151) ho dX1_crack_143 rfl rfl (fun hc143 => ?_) (fun hc143 => ?_)
  · replace h := if_t hc143 h
    refine a_iconst (v := 0) ho dX1_crack_151 rfl (by decide) ?_
    exact a_sub [0, 1, 2, 3, 4, 5, 6, 7, 8] rfl (T_X1_crack_152 ho hr0 hs0 hg40 h)
  · replace h := if_f hc143 h
    refine a_iload ho dX1_crack_146 rfl 8 rfl ?_
    refine a_goto (tgt := 152) ho dX1_crack_148 rfl ?_
    exact a_sub [0, 1, 2, 3, 4, 5, 6, 7, 8] rfl (T_X1_crack_152 ho hr0 hs0 hg40 h)
theorem T_X1_crack_100 {G : gM} (ho : gOk G "WaxCloth$Chances" cX1_crack 4 none 13) (hr0 : gv0 G = none) {σ0 : gS} (hs0 : gs0 G = σ0) {g40 : Int32 → Int32 → Int32 → Int32 → Int32 → gS → Option gS} (hg40 : ∀ (x2 : Int32) (x3 : Int32) (x4 : Int32) (x5 : Int32) (x6 : Int32) (σ : gS), g40 x2 x3 x4 x5 x6 σ = some σ0 → gAt G 40 [(0, .ref (gad G 77)), (1, .ref (gad G 10)), (2, .int x2), (3, .int x3), (4, .int x4), (5, .int x5), (6, .int x6)] [] σ) {x2 : Int32} {x3 : Int32} {x4 : Int32} {x5 : Int32} {x6 : Int32} {x7 : Int32} {x9 : Int32} {y0 : Int32} {σ : gS} (h : F_X1_crack_100 g40 x2 x3 x4 x5 x6 x7 x9 y0 σ = some σ0) : gAt G 100 [(0, .ref (gad G 77)), (1, .ref (gad G 10)), (2, .int x2), (3, .int x3), (4, .int x4), (5, .int x5), (6, .int x6), (7, .int x7), (9, .int x9)] [.int y0] σ := by
  unfold F_X1_crack_100 at h
  refine a_istore (L' := [(10, .int y0), (0, .ref (gad G 77)), (1, .ref (gad G 10)), (2, .int x2), (3, .int x3), (4, .int x4), (5, .int x5), (6, .int x6), (7, .int x7), (9, .int x9)]) ho dX1_crack_100 rfl (by decide) rfl ?_
  refine a_aload_n ho dX1_crack_102 rfl rfl 2 rfl ?_
  refine a_iload ho dX1_crack_103 rfl 7 rfl ?_
  refine a_aload_n ho dX1_crack_105 rfl rfl 2 rfl ?_
  refine a_iload ho dX1_crack_106 rfl 7 rfl ?_
  refine a_iload ho dX1_crack_108 rfl 8 rfl ?_
  refine a_iload_n ho dX1_crack_110 rfl rfl 3 rfl ?_
  obtain ⟨r111, hq111, h⟩ := ob_el h
  refine a_callVi ho vy_X2_dyed ml_X1_31 o_10 (C_X2_dyed hq111) rfl rfl (by decide) (Nat.le_of_ble_eq_true rfl) dX1_crack_111 rfl ?_
  obtain ⟨r114, hq114, h⟩ := ob_el h
  refine a_callVi ho vy_X2_isRight ml_X1_35 o_10 (C_X2_isRight hq114) rfl rfl (by decide) (Nat.le_of_ble_eq_true rfl) dX1_crack_114 rfl ?_
  refine a_istore (L' := [(11, .int r114), (10, .int y0), (0, .ref (gad G 77)), (1, .ref (gad G 10)), (2, .int x2), (3, .int x3), (4, .int x4), (5, .int x5), (6, .int x6), (7, .int x7), (9, .int x9)]) ho dX1_crack_117 rfl (by decide) rfl ?_
  refine a_aload_n ho dX1_crack_119 rfl rfl 3 rfl ?_
  refine a_iload ho dX1_crack_120 rfl 8 rfl ?_
  refine a_iload ho dX1_crack_122 rfl 9 rfl ?_
  obtain ⟨r124, hq124, h⟩ := ob_el h
  refine a_callVi ho vy_X2_isRight ml_X1_35 o_10 (C_X2_isRight hq124) rfl rfl (by decide) (Nat.le_of_ble_eq_true rfl) dX1_crack_124 rfl ?_
  refine a_istore (L' := [(12, .int r124), (11, .int r114), (10, .int y0), (0, .ref (gad G 77)), (1, .ref (gad G 10)), (2, .int x2), (3, .int x3), (4, .int x4), (5, .int x5), (6, .int x6), (7, .int x7), (9, .int x9)]) ho dX1_crack_127 rfl (by decide) rfl ?_
  refine a_aload_n ho dX1_crack_129 rfl rfl 3 rfl ?_
  refine a_iload ho dX1_crack_130 rfl 1 rfl ?_
  refine a_if_eq (tgt := 140) ho dX1_crack_132 rfl rfl (fun hc132 => ?_) (fun hc132 => ?_)
  · replace h := if_t hc132 h
    refine a_iconst (v := 0) ho dX1_crack_140 rfl (by decide) ?_
    exact a_sub [3, 4, 5, 6, 7, 8, 9, 11, 2, 0] rfl (T_X1_crack_141 ho hr0 hs0 hg40 h)
  · replace h := if_f hc132 h
    refine a_iload ho dX1_crack_135 rfl 11 rfl ?_
    refine a_goto (tgt := 141) ho dX1_crack_137 rfl ?_
    exact a_sub [3, 4, 5, 6, 7, 8, 9, 11, 2, 0] rfl (T_X1_crack_141 ho hr0 hs0 hg40 h)
theorem T_X1_crack_84 {G : gM} (ho : gOk G "WaxCloth$Chances" cX1_crack 4 none 13) (hr0 : gv0 G = none) {σ0 : gS} (hs0 : gs0 G = σ0) {g40 : Int32 → Int32 → Int32 → Int32 → Int32 → gS → Option gS} (hg40 : ∀ (x2 : Int32) (x3 : Int32) (x4 : Int32) (x5 : Int32) (x6 : Int32) (σ : gS), g40 x2 x3 x4 x5 x6 σ = some σ0 → gAt G 40 [(0, .ref (gad G 77)), (1, .ref (gad G 10)), (2, .int x2), (3, .int x3), (4, .int x4), (5, .int x5), (6, .int x6)] [] σ) {x2 : Int32} {x3 : Int32} {x4 : Int32} {x5 : Int32} {x6 : Int32} {x7 : Int32} {x8 : Int32} {y0 : Int32} {σ : gS} (h : F_X1_crack_84 g40 x2 x3 x4 x5 x6 x7 x8 y0 σ = some σ0) : gAt G 84 [(0, .ref (gad G 77)), (1, .ref (gad G 10)), (2, .int x2), (3, .int x3), (4, .int x4), (5, .int x5), (6, .int x6), (7, .int x7), (8, .int x8)] [.int y0] σ := by
  unfold F_X1_crack_84 at h
  refine a_istore (L' := [(9, .int y0), (0, .ref (gad G 77)), (1, .ref (gad G 10)), (2, .int x2), (3, .int x3), (4, .int x4), (5, .int x5), (6, .int x6), (7, .int x7), (8, .int x8)]) ho dX1_crack_84 rfl (by decide) rfl ?_
  refine a_iload ho dX1_crack_86 rfl 9 rfl ?_
  refine a_if_eq (tgt := 99) ho dX1_crack_88 rfl rfl (fun hc88 => ?_) (fun hc88 => ?_)
  · replace h := if_t hc88 h
    refine a_iconst (v := 0) ho dX1_crack_99 rfl (by decide) ?_
    exact a_sub [1, 2, 3, 4, 5, 6, 7, 8, 0] rfl (T_X1_crack_100 ho hr0 hs0 hg40 h)
  · replace h := if_f hc88 h
    refine a_bipush (v := 10) ho dX1_crack_91 rfl (by decide) ?_
    refine a_iload ho dX1_crack_93 rfl 5 rfl ?_
    refine a_isub ho dX1_crack_95 rfl ?_
    refine a_goto (tgt := 100) ho dX1_crack_96 rfl ?_
    exact a_sub [1, 2, 3, 4, 5, 6, 7, 8, 0] rfl (T_X1_crack_100 ho hr0 hs0 hg40 h)
theorem T_X1_crack_71 {G : gM} (ho : gOk G "WaxCloth$Chances" cX1_crack 4 none 13) (hr0 : gv0 G = none) {σ0 : gS} (hs0 : gs0 G = σ0) {g40 : Int32 → Int32 → Int32 → Int32 → Int32 → gS → Option gS} (hg40 : ∀ (x2 : Int32) (x3 : Int32) (x4 : Int32) (x5 : Int32) (x6 : Int32) (σ : gS), g40 x2 x3 x4 x5 x6 σ = some σ0 → gAt G 40 [(0, .ref (gad G 77)), (1, .ref (gad G 10)), (2, .int x2), (3, .int x3), (4, .int x4), (5, .int x5), (6, .int x6)] [] σ) {x2 : Int32} {x3 : Int32} {x4 : Int32} {x5 : Int32} {x6 : Int32} {x7 : Int32} {y0 : Int32} {σ : gS} (h : F_X1_crack_71 g40 x2 x3 x4 x5 x6 x7 y0 σ = some σ0) : gAt G 71 [(0, .ref (gad G 77)), (1, .ref (gad G 10)), (2, .int x2), (3, .int x3), (4, .int x4), (5, .int x5), (6, .int x6), (7, .int x7)] [.int y0] σ := by
  unfold F_X1_crack_71 at h
  refine a_istore (L' := [(8, .int y0), (0, .ref (gad G 77)), (1, .ref (gad G 10)), (2, .int x2), (3, .int x3), (4, .int x4), (5, .int x5), (6, .int x6), (7, .int x7)]) ho dX1_crack_71 rfl (by decide) rfl ?_
  refine a_iload ho dX1_crack_73 rfl 0 rfl ?_
  refine a_if_eq (tgt := 83) ho dX1_crack_75 rfl rfl (fun hc75 => ?_) (fun hc75 => ?_)
  · replace h := if_t hc75 h
    refine a_iconst (v := 1) ho dX1_crack_83 rfl (by decide) ?_
    exact a_sub [1, 2, 3, 4, 5, 6, 7, 8, 0] rfl (T_X1_crack_84 ho hr0 hs0 hg40 h)
  · replace h := if_f hc75 h
    refine a_iload ho dX1_crack_78 rfl 5 rfl ?_
    refine a_goto (tgt := 84) ho dX1_crack_80 rfl ?_
    exact a_sub [1, 2, 3, 4, 5, 6, 7, 8, 0] rfl (T_X1_crack_84 ho hr0 hs0 hg40 h)
theorem T_X1_crack_40 {G : gM} (ho : gOk G "WaxCloth$Chances" cX1_crack 4 none 13) (hr0 : gv0 G = none) {σ0 : gS} (hs0 : gs0 G = σ0) : ∀ (n : Nat) (x2 : Int32) (x3 : Int32) (x4 : Int32) (x5 : Int32) (x6 : Int32) (σ : gS), F_X1_crack_40 n x2 x3 x4 x5 x6 σ = some σ0 → gAt G 40 [(0, .ref (gad G 77)), (1, .ref (gad G 10)), (2, .int x2), (3, .int x3), (4, .int x4), (5, .int x5), (6, .int x6)] [] σ := by
  intro n
  induction n with
  | zero => intro x2 x3 x4 x5 x6 σ h; cases h
  | succ n ih =>
    intro x2 x3 x4 x5 x6 σ h
    unfold F_X1_crack_40 at h
    refine a_iload ho dX1_crack_40 rfl 6 rfl ?_
    refine a_aload_n ho dX1_crack_42 rfl rfl 1 rfl ?_
    refine a_getI ho fl_X1_20 o_10 (ff_2_0 _ o_10) dX1_crack_43 rfl ?_
    refine a_icmp_ge (tgt := 177) ho dX1_crack_46 rfl rfl (fun hc46 => ?_) (fun hc46 => ?_)
    · replace h := if_t hc46 h
      refine a_iconst (v := 0) ho dX1_crack_177 rfl (by decide) ?_
      refine a_istore (L' := [(6, .int 0), (0, .ref (gad G 77)), (1, .ref (gad G 10)), (2, .int x2), (3, .int x3), (4, .int x4), (5, .int x5)]) ho dX1_crack_178 rfl (by decide) rfl ?_
      refine a_iload_n ho dX1_crack_180 rfl rfl 4 rfl ?_
      refine a_istore (L' := [(7, .int x3), (6, .int 0), (0, .ref (gad G 77)), (1, .ref (gad G 10)), (2, .int x2), (3, .int x3), (4, .int x4), (5, .int x5)]) ho dX1_crack_181 rfl (by decide) rfl ?_
      exact a_sub [2, 7, 1, 0] rfl (T_X1_crack_183 ho hr0 hs0 _ _ _ _ _ h)
    · replace h := if_f hc46 h
      refine a_aload_n ho dX1_crack_49 rfl rfl 1 rfl ?_
      refine a_getR (q := 13) ho fl_X1_24 o_10 (fr_2_6 _ o_10) dX1_crack_50 rfl ?_
      refine a_iload ho dX1_crack_53 rfl 6 rfl ?_
      obtain ⟨hk55, h⟩ := ck_el h
      refine a_iald ho i_13 hk55 dX1_crack_55 rfl ?_
      obtain ⟨x56, hb56, h⟩ := bd_el h
      refine a_nmI hb56 ?_
      refine a_istore (L' := [(7, .int x56), (0, .ref (gad G 77)), (1, .ref (gad G 10)), (2, .int x2), (3, .int x3), (4, .int x4), (5, .int x5), (6, .int x6)]) ho dX1_crack_56 rfl (by decide) rfl ?_
      refine a_iload ho dX1_crack_58 rfl 0 rfl ?_
      refine a_callSi ho vy_X9_waxIn ml_X1_25 (C_X9_waxIn x56) rfl rfl (by decide) (Nat.le_of_ble_eq_true rfl) dX1_crack_60 rfl ?_
      refine a_if_le (tgt := 70) ho dX1_crack_63 rfl rfl (fun hc63 => ?_) (fun hc63 => ?_)
      · replace h := if_t hc63 h
        refine a_iconst (v := 0) ho dX1_crack_70 rfl (by decide) ?_
        exact a_sub [1, 2, 3, 4, 5, 6, 7, 0] rfl (T_X1_crack_71 ho hr0 hs0 ih h)
      · replace h := if_f hc63 h
        refine a_iconst (v := 1) ho dX1_crack_66 rfl (by decide) ?_
        refine a_goto (tgt := 71) ho dX1_crack_67 rfl ?_
        exact a_sub [1, 2, 3, 4, 5, 6, 7, 0] rfl (T_X1_crack_71 ho hr0 hs0 ih h)
theorem T_X1_crack_3 {G : gM} (ho : gOk G "WaxCloth$Chances" cX1_crack 4 none 13) (hr0 : gv0 G = none) {σ0 : gS} (hs0 : gs0 G = σ0) : ∀ (n : Nat) (x2 : Int32) (x3 : Int32) (x4 : Int32) (x5 : Int32) (σ : gS), F_X1_crack_3 n x2 x3 x4 x5 σ = some σ0 → gAt G 3 [(0, .ref (gad G 77)), (1, .ref (gad G 10)), (2, .int x2), (3, .int x3), (4, .int x4), (5, .int x5)] [] σ := by
  intro n
  induction n with
  | zero => intro x2 x3 x4 x5 σ h; cases h
  | succ n ih =>
    intro x2 x3 x4 x5 σ h
    unfold F_X1_crack_3 at h
    refine a_iload ho dX1_crack_3 rfl 5 rfl ?_
    refine a_aload_n ho dX1_crack_5 rfl rfl 0 rfl ?_
    refine a_getR ho fl_X1_11 o_77 fr_1_4 dX1_crack_6 rfl ?_
    refine a_alen (v := 9) ho i_78 rfl dX1_crack_9 rfl ?_
    refine a_icmp_ge (tgt := 27) ho dX1_crack_10 rfl rfl (fun hc10 => ?_) (fun hc10 => ?_)
    · replace h := if_t hc10 h
      refine a_aload_n ho dX1_crack_27 rfl rfl 0 rfl ?_
      refine a_getR ho fl_X1_11 o_77 fr_1_4 dX1_crack_28 rfl ?_
      refine a_iconst (v := 0) ho dX1_crack_31 rfl (by decide) ?_
      refine a_iconst (v := 1) ho dX1_crack_32 rfl (by decide) ?_
      refine a_iast ho i_78 (by decide) dX1_crack_33 rfl ?_
      refine a_nmS (τ := sI σ 78 0 1) rfl ?_
      obtain ⟨σ33, hs33, h⟩ := bd_el h
      refine a_nmS hs33 ?_
      refine a_iconst (v := 1) ho dX1_crack_34 rfl (by decide) ?_
      refine a_istore (L' := [(5, .int 1), (0, .ref (gad G 77)), (1, .ref (gad G 10)), (2, .int x2), (3, .int x3), (4, .int x4)]) ho dX1_crack_35 rfl (by decide) rfl ?_
      refine a_iconst (v := 0) ho dX1_crack_37 rfl (by decide) ?_
      refine a_istore (L' := [(6, .int 0), (5, .int 1), (0, .ref (gad G 77)), (1, .ref (gad G 10)), (2, .int x2), (3, .int x3), (4, .int x4)]) ho dX1_crack_38 rfl (by decide) rfl ?_
      exact a_sub [2, 3, 4, 5, 6, 1, 0] rfl (T_X1_crack_40 ho hr0 hs0 _ _ _ _ _ _ _ h)
    · replace h := if_f hc10 h
      refine a_aload_n ho dX1_crack_13 rfl rfl 0 rfl ?_
      refine a_getR ho fl_X1_11 o_77 fr_1_4 dX1_crack_14 rfl ?_
      refine a_iload ho dX1_crack_17 rfl 5 rfl ?_
      refine a_iconst (v := 0) ho dX1_crack_19 rfl (by decide) ?_
      obtain ⟨hk20, h⟩ := ck_el h
      refine a_iast ho i_78 hk20 dX1_crack_20 rfl ?_
      obtain ⟨σ20, hs20, h⟩ := bd_el h
      refine a_nmS hs20 ?_
      obtain ⟨x21, hb21, h⟩ := bd_el h
      refine a_iinc (L' := [(5, .int x21), (0, .ref (gad G 77)), (1, .ref (gad G 10)), (2, .int x2), (3, .int x3), (4, .int x4)]) ho dX1_crack_21 rfl 5 rfl hb21 (by decide) rfl ?_
      refine a_goto (tgt := 3) ho dX1_crack_24 rfl ?_
      exact a_sub [1, 2, 3, 4, 5, 0] rfl (ih _ _ _ _ _ h)
theorem T_X1_crack_0 {G : gM} (ho : gOk G "WaxCloth$Chances" cX1_crack 4 none 13) (hr0 : gv0 G = none) {σ0 : gS} (hs0 : gs0 G = σ0) {x2 : Int32} {x3 : Int32} {x4 : Int32} {σ : gS} (h : F_X1_crack_0 x2 x3 x4 σ = some σ0) : gAt G 0 [(0, .ref (gad G 77)), (1, .ref (gad G 10)), (2, .int x2), (3, .int x3), (4, .int x4)] [] σ := by
  unfold F_X1_crack_0 at h
  refine a_iconst (v := 0) ho dX1_crack_0 rfl (by decide) ?_
  refine a_istore (L' := [(5, .int 0), (0, .ref (gad G 77)), (1, .ref (gad G 10)), (2, .int x2), (3, .int x3), (4, .int x4)]) ho dX1_crack_1 rfl (by decide) rfl ?_
  exact a_sub [1, 2, 3, 4, 5, 0] rfl (T_X1_crack_3 ho hr0 hs0 _ _ _ _ _ _ h)
theorem C_X1_crack {l : Launch} {X : gX} {σ σ0 : gS} {a2 : Int32} {a3 : Int32} {a4 : Int32} (h : F_X1_crack_0 a2 a3 a4 σ = some σ0) : gCt l X yX1_crack (.code yX1_crack cX1_crack 13 none) 4 [.ref (X.2.2.1 77), .ref (X.2.2.1 10), .int a2, .int a3, .int a4] σ (none) σ0 :=
  gCt_of cX1_crack (by decide) (Nat.le_of_ble_eq_true rfl) (fun G hl hX hv hs ho => by subst hl; subst hX; exact a_sub [0, 1, 2, 3, 4] rfl (T_X1_crack_0 ho hv hs h))
theorem T_X3_layersCracked_0 {G : gM} (ho : gOk G "WaxCloth$Kind" cX3_layersCracked 1 (some .int) 1) {r0 : Int32} (hr0 : gv0 G = some (.int r0)) {σ : gS} (hs0 : gs0 G = σ) {x0 : Int32} (h : F_X3_layersCracked_0 x0 = r0) : gAt G 0 [(0, .int x0)] [] σ := by
  unfold F_X3_layersCracked_0 at h
  refine a_iload_n ho dX3_layersCracked_0 rfl rfl 0 rfl ?_
  by_cases hw1_3 : x0 = 3
  · replace h := if_t hw1_3 h
    refine a_look (tgt := 28) (off := 27) ho dX3_layersCracked_1 (by decide) (by rw [hw1_3]; rfl) rfl ?_
    refine a_iconst (v := 2) ho dX3_layersCracked_28 rfl (by decide) ?_
    exact a_iret ho dX3_layersCracked_29 (rI hr0 h) hs0
  replace h := if_f hw1_3 h
  by_cases hw1_4 : x0 = 4
  · replace h := if_t hw1_4 h
    refine a_look (tgt := 30) (off := 29) ho dX3_layersCracked_1 (by decide) (by rw [hw1_4]; rfl) rfl ?_
    refine a_iconst (v := 0) ho dX3_layersCracked_30 rfl (by decide) ?_
    exact a_iret ho dX3_layersCracked_31 (rI hr0 h) hs0
  replace h := if_f hw1_4 h
  refine a_look (tgt := 32) (off := 31) ho dX3_layersCracked_1 (by decide) (by have q3 := (tI hw1_3 (z := 3) rfl).symm; have q4 := (tI hw1_4 (z := 4) rfl).symm; simp [Op.lookupswitch.offset, q3, q4]) rfl ?_
  refine a_iconst (v := 1) ho dX3_layersCracked_32 rfl (by decide) ?_
  exact a_iret ho dX3_layersCracked_33 (rI hr0 h) hs0
theorem C_X3_layersCracked {l : Launch} {X : gX} {σ : gS} (a0 : Int32) : gCt l X yX3_layersCracked (.code yX3_layersCracked cX3_layersCracked 1 (some .int)) 1 [.int a0] σ (some (.int (F_X3_layersCracked_0 a0))) σ :=
  gCt_of cX3_layersCracked (by decide) (Nat.le_of_ble_eq_true rfl) (fun G hl hX hv hs ho => by subst hl; subst hX; exact a_sub [0] rfl (T_X3_layersCracked_0 ho hv hs rfl))
theorem T_X9_withWax_0 {G : gM} (ho : gOk G "WaxCloth$State" cX9_withWax 1 (some .int) 2) {r0 : Int32} (hr0 : gv0 G = some (.int r0)) {σ : gS} (hs0 : gs0 G = σ) {x0 : Int32} {x1 : Int32} (h : F_X9_withWax_0 x0 x1 = r0) : gAt G 0 [(0, .int x0), (1, .int x1)] [] σ := by
  unfold F_X9_withWax_0 at h
  refine a_iload_n ho dX9_withWax_0 rfl rfl 0 rfl ?_
  refine a_sipush (v := 4095) ho dX9_withWax_1 rfl (by decide) ?_
  refine a_iand ho dX9_withWax_4 rfl ?_
  refine a_iload_n ho dX9_withWax_5 rfl rfl 1 rfl ?_
  refine a_bipush (v := 12) ho dX9_withWax_6 rfl (by decide) ?_
  refine a_ishl ho dX9_withWax_8 rfl ?_
  refine a_ior ho dX9_withWax_9 rfl ?_
  exact a_iret ho dX9_withWax_10 (rI hr0 h) hs0
theorem C_X9_withWax {l : Launch} {X : gX} {σ : gS} (a0 : Int32) (a1 : Int32) : gCt l X yX9_withWax (.code yX9_withWax cX9_withWax 2 (some .int)) 1 [.int a0, .int a1] σ (some (.int (F_X9_withWax_0 a0 a1))) σ :=
  gCt_of cX9_withWax (by decide) (Nat.le_of_ble_eq_true rfl) (fun G hl hX hv hs ho => by subst hl; subst hX; exact a_sub [0, 1] rfl (T_X9_withWax_0 ho hv hs rfl))
theorem T_X2_cracked_0 {G : gM} (ho : gOk G "WaxCloth$Cloth" cX2_cracked 2 (some .int) 3) {r0 : Int32} (hr0 : gv0 G = some (.int r0)) {σ : gS} (hs0 : gs0 G = σ) {x1 : Int32} {x2 : Int32} (h : F_X2_cracked_0 x1 x2 σ = some r0) : gAt G 0 [(0, .ref (gad G 10)), (1, .int x1), (2, .int x2)] [] σ := by
  unfold F_X2_cracked_0 at h
  refine a_iload_n ho dX2_cracked_0 rfl rfl 2 rfl ?_
  refine a_iconst (v := 0) ho dX2_cracked_1 rfl (by decide) ?_
  refine a_iload_n ho dX2_cracked_2 rfl rfl 2 rfl ?_
  refine a_callSi ho vy_X9_waxIn ml_X2_74 (C_X9_waxIn x2) rfl rfl (by decide) (Nat.le_of_ble_eq_true rfl) dX2_cracked_3 rfl ?_
  refine a_aload_n ho dX2_cracked_6 rfl rfl 0 rfl ?_
  refine a_getR (q := 11) ho fl_X2_9 o_10 (fr_2_4 _ o_10) dX2_cracked_7 rfl ?_
  refine a_iload_n ho dX2_cracked_10 rfl rfl 1 rfl ?_
  obtain ⟨hk11, h⟩ := ck_el h
  refine a_iald ho i_11 hk11 dX2_cracked_11 rfl ?_
  refine a_callSi ho vy_X3_layersCracked ml_X2_97 (C_X3_layersCracked (σ.1 11 (Int32.toNatClampNeg x1))) rfl rfl (by decide) (Nat.le_of_ble_eq_true rfl) dX2_cracked_12 rfl ?_
  refine a_isub ho dX2_cracked_15 rfl ?_
  refine a_max ho mx_X2_100 (by decide) (Nat.le_of_ble_eq_true rfl) dX2_cracked_16 rfl ?_
  refine a_callSi ho vy_X9_withWax ml_X2_84 (C_X9_withWax x2 (mx 0 ((F_X9_waxIn_0 x2) - (F_X3_layersCracked_0 (σ.1 11 (Int32.toNatClampNeg x1)))))) rfl rfl (by decide) (Nat.le_of_ble_eq_true rfl) dX2_cracked_19 rfl ?_
  exact a_iret ho dX2_cracked_22 (rI hr0 (ro_el h)) hs0
theorem C_X2_cracked {l : Launch} {X : gX} {σ : gS} {r0 : Int32} {a1 : Int32} {a2 : Int32} (h : F_X2_cracked_0 a1 a2 σ = some r0) : gCt l X yX2_cracked (.code yX2_cracked cX2_cracked 3 (some .int)) 2 [.ref (X.2.2.1 10), .int a1, .int a2] σ (some (.int r0)) σ :=
  gCt_of cX2_cracked (by decide) (Nat.le_of_ble_eq_true rfl) (fun G hl hX hv hs ho => by subst hl; subst hX; exact a_sub [0, 1, 2] rfl (T_X2_cracked_0 ho hv hs h))
theorem T_X2_rinsed_24 {G : gM} (ho : gOk G "WaxCloth$Cloth" cX2_rinsed 2 (some .int) 3) {r0 : Int32} (hr0 : gv0 G = some (.int r0)) {σ : gS} (hs0 : gs0 G = σ) {g4 : Int32 → Int32 → Int32 → Option Int32} (hg4 : ∀ (x0 : Int32) (x1 : Int32) (x2 : Int32), g4 x0 x1 x2 = some r0 → gAt G 4 [(0, .int x0), (1, .int x1), (2, .int x2)] [] σ) {x0 : Int32} {x2 : Int32} {y0 : Int32} {y1 : Int32} {y2 : Int32} (h : F_X2_rinsed_24 g4 x0 x2 y0 y1 y2 = some r0) : gAt G 24 [(0, .int x0), (2, .int x2)] [.int y0, .int y1, .int y2] σ := by
  unfold F_X2_rinsed_24 at h
  refine a_callSi ho vy_X9_withMore ml_X2_94 (C_X9_withMore y2 y1 y0) rfl rfl (by decide) (Nat.le_of_ble_eq_true rfl) dX2_rinsed_24 rfl ?_
  obtain ⟨x27, hb27, h⟩ := bd_el h
  refine a_nmI hb27 ?_
  refine a_istore_n (L' := [(1, .int x27), (0, .int x0), (2, .int x2)]) ho dX2_rinsed_27 rfl rfl (by decide) rfl ?_
  obtain ⟨x28, hb28, h⟩ := bd_el h
  refine a_iinc (L' := [(2, .int x28), (1, .int x27), (0, .int x0)]) ho dX2_rinsed_28 rfl 2 rfl hb28 (by decide) rfl ?_
  refine a_goto (tgt := 4) ho dX2_rinsed_31 rfl ?_
  exact a_sub [2, 1, 0] rfl (hg4 _ _ _ h)
theorem T_X2_rinsed_4 {G : gM} (ho : gOk G "WaxCloth$Cloth" cX2_rinsed 2 (some .int) 3) {r0 : Int32} (hr0 : gv0 G = some (.int r0)) {σ : gS} (hs0 : gs0 G = σ) : ∀ (n : Nat) (x0 : Int32) (x1 : Int32) (x2 : Int32), F_X2_rinsed_4 n x0 x1 x2 = some r0 → gAt G 4 [(0, .int x0), (1, .int x1), (2, .int x2)] [] σ := by
  intro n
  induction n with
  | zero => intro x0 x1 x2 h; cases h
  | succ n ih =>
    intro x0 x1 x2 h
    unfold F_X2_rinsed_4 at h
    refine a_iload_n ho dX2_rinsed_4 rfl rfl 2 rfl ?_
    refine a_iconst (v := 3) ho dX2_rinsed_5 rfl (by decide) ?_
    refine a_icmp_ge (tgt := 34) ho dX2_rinsed_6 rfl rfl (fun hc6 => ?_) (fun hc6 => ?_)
    · replace h := if_t hc6 h
      refine a_iload_n ho dX2_rinsed_34 rfl rfl 1 rfl ?_
      exact a_iret ho dX2_rinsed_35 (rI hr0 (ro_el h)) hs0
    · replace h := if_f hc6 h
      refine a_iload_n ho dX2_rinsed_9 rfl rfl 1 rfl ?_
      refine a_iload_n ho dX2_rinsed_10 rfl rfl 2 rfl ?_
      refine a_iload_n ho dX2_rinsed_11 rfl rfl 0 rfl ?_
      refine a_iload_n ho dX2_rinsed_12 rfl rfl 2 rfl ?_
      refine a_callSi ho vy_X9_amountOf ml_X2_56 (C_X9_amountOf x0 x2) rfl rfl (by decide) (Nat.le_of_ble_eq_true rfl) dX2_rinsed_13 rfl ?_
      refine a_if_le (tgt := 23) ho dX2_rinsed_16 rfl rfl (fun hc16 => ?_) (fun hc16 => ?_)
      · replace h := if_t hc16 h
        refine a_iconst (v := 0) ho dX2_rinsed_23 rfl (by decide) ?_
        exact a_sub [0, 2] rfl (T_X2_rinsed_24 ho hr0 hs0 ih h)
      · replace h := if_f hc16 h
        refine a_iconst (v := (-1)) ho dX2_rinsed_19 rfl (by decide) ?_
        refine a_goto (tgt := 24) ho dX2_rinsed_20 rfl ?_
        exact a_sub [0, 2] rfl (T_X2_rinsed_24 ho hr0 hs0 ih h)
theorem T_X2_rinsed_0 {G : gM} (ho : gOk G "WaxCloth$Cloth" cX2_rinsed 2 (some .int) 3) {r0 : Int32} (hr0 : gv0 G = some (.int r0)) {σ : gS} (hs0 : gs0 G = σ) {x0 : Int32} (h : F_X2_rinsed_0 x0 = some r0) : gAt G 0 [(0, .int x0)] [] σ := by
  unfold F_X2_rinsed_0 at h
  refine a_iload_n ho dX2_rinsed_0 rfl rfl 0 rfl ?_
  refine a_istore_n (L' := [(1, .int x0), (0, .int x0)]) ho dX2_rinsed_1 rfl rfl (by decide) rfl ?_
  refine a_iconst (v := 0) ho dX2_rinsed_2 rfl (by decide) ?_
  refine a_istore_n (L' := [(2, .int 0), (1, .int x0), (0, .int x0)]) ho dX2_rinsed_3 rfl rfl (by decide) rfl ?_
  exact a_sub [2, 1, 0] rfl (T_X2_rinsed_4 ho hr0 hs0 _ _ _ _ h)
theorem C_X2_rinsed {l : Launch} {X : gX} {σ : gS} {r0 : Int32} {a0 : Int32} (h : F_X2_rinsed_0 a0 = some r0) : gCt l X yX2_rinsed (.code yX2_rinsed cX2_rinsed 3 (some .int)) 2 [.int a0] σ (some (.int r0)) σ :=
  gCt_of cX2_rinsed (by decide) (Nat.le_of_ble_eq_true rfl) (fun G hl hX hv hs ho => by subst hl; subst hX; exact a_sub [0] rfl (T_X2_rinsed_0 ho hv hs h))
theorem T_X2_after_57 {G : gM} (ho : gOk G "WaxCloth$Cloth" cX2_after 4 (some .int) 5) {r0 : Int32} (hr0 : gv0 G = some (.int r0)) {σ : gS} (hs0 : gs0 G = σ) {x2 : Int32} {y0 : Int32} (h : F_X2_after_57 x2 y0 σ = some r0) : gAt G 57 [(2, .int x2)] [.int y0] σ := by
  unfold F_X2_after_57 at h
  refine a_istore (L' := [(4, .int y0), (2, .int x2)]) ho dX2_after_57 rfl (by decide) rfl ?_
  refine a_iload ho dX2_after_59 rfl 0 rfl ?_
  refine a_if_eq (tgt := 72) ho dX2_after_61 rfl rfl (fun hc61 => ?_) (fun hc61 => ?_)
  · replace h := if_t hc61 h
    refine a_iload_n ho dX2_after_72 rfl rfl 1 rfl ?_
    exact a_iret ho dX2_after_73 (rI hr0 (ro_el h)) hs0
  · replace h := if_f hc61 h
    refine a_iload_n ho dX2_after_64 rfl rfl 1 rfl ?_
    refine a_iconst (v := 3) ho dX2_after_65 rfl (by decide) ?_
    refine a_callSi ho vy_X9_withWax ml_X2_84 (C_X9_withWax x2 3) rfl rfl (by decide) (Nat.le_of_ble_eq_true rfl) dX2_after_66 rfl ?_
    refine a_goto (tgt := 73) ho dX2_after_69 rfl ?_
    exact a_iret ho dX2_after_73 (rI hr0 (ro_el h)) hs0
theorem T_X2_after_0 {G : gM} (ho : gOk G "WaxCloth$Cloth" cX2_after 4 (some .int) 5) {r0 : Int32} (hr0 : gv0 G = some (.int r0)) {σ : gS} (hs0 : gs0 G = σ) {x1 : Int32} {x2 : Int32} {x3 : Int32} (h : F_X2_after_0 x1 x2 x3 σ = some r0) : gAt G 0 [(0, .ref (gad G 10)), (1, .int x1), (2, .int x2), (3, .int x3)] [] σ := by
  unfold F_X2_after_0 at h
  refine a_iload_n ho dX2_after_0 rfl rfl 3 rfl ?_
  refine a_bipush (v := 10) ho dX2_after_1 rfl (by decide) ?_
  refine a_icmp_ge (tgt := 30) ho dX2_after_3 rfl rfl (fun hc3 => ?_) (fun hc3 => ?_)
  · replace h := if_t hc3 h
    refine a_iload_n ho dX2_after_30 rfl rfl 3 rfl ?_
    refine a_bipush (v := 20) ho dX2_after_31 rfl (by decide) ?_
    refine a_icmp_ge (tgt := 74) ho dX2_after_33 rfl rfl (fun hc33 => ?_) (fun hc33 => ?_)
    · replace h := if_t hc33 h
      refine a_iload_n ho dX2_after_74 rfl rfl 3 rfl ?_
      refine a_bipush (v := 20) ho dX2_after_75 rfl (by decide) ?_
      refine a_icmp_ne (tgt := 86) ho dX2_after_77 rfl rfl (fun hc77 => ?_) (fun hc77 => ?_)
      · replace h := if_f hc77 h
        refine a_iload_n ho dX2_after_86 rfl rfl 2 rfl ?_
        refine a_callSi ho vy_X9_waxIn ml_X2_74 (C_X9_waxIn x2) rfl rfl (by decide) (Nat.le_of_ble_eq_true rfl) dX2_after_87 rfl ?_
        refine a_if_ne (tgt := 100) ho dX2_after_90 rfl rfl (fun hc90 => ?_) (fun hc90 => ?_)
        · replace h := if_f hc90 h
          refine a_iload_n ho dX2_after_100 rfl rfl 2 rfl ?_
          exact a_iret ho dX2_after_101 (rI hr0 (ro_el h)) hs0
        · replace h := if_t hc90 h
          refine a_iload_n ho dX2_after_93 rfl rfl 2 rfl ?_
          obtain ⟨r94, hq94, h⟩ := ob_el h
          refine a_callSi ho vy_X2_rinsed ml_X2_87 (C_X2_rinsed hq94) rfl rfl (by decide) (Nat.le_of_ble_eq_true rfl) dX2_after_94 rfl ?_
          refine a_goto (tgt := 101) ho dX2_after_97 rfl ?_
          exact a_iret ho dX2_after_101 (rI hr0 (ro_el h)) hs0
      · replace h := if_t hc77 h
        refine a_iload_n ho dX2_after_80 rfl rfl 2 rfl ?_
        refine a_iconst (v := 0) ho dX2_after_81 rfl (by decide) ?_
        refine a_callSi ho vy_X9_withWax ml_X2_84 (C_X9_withWax x2 0) rfl rfl (by decide) (Nat.le_of_ble_eq_true rfl) dX2_after_82 rfl ?_
        exact a_iret ho dX2_after_85 (rI hr0 (ro_el h)) hs0
    · replace h := if_f hc33 h
      refine a_aload_n ho dX2_after_36 rfl rfl 0 rfl ?_
      refine a_getR (q := 15) ho fl_X2_24 o_10 (fr_2_8 _ o_10) dX2_after_37 rfl ?_
      refine a_iload_n ho dX2_after_40 rfl rfl 3 rfl ?_
      refine a_bipush (v := 10) ho dX2_after_41 rfl (by decide) ?_
      refine a_isub ho dX2_after_43 rfl ?_
      obtain ⟨hk44, h⟩ := ck_el h
      refine a_iald ho i_15 hk44 dX2_after_44 rfl ?_
      refine a_iload_n ho dX2_after_45 rfl rfl 1 rfl ?_
      refine a_ishr ho dX2_after_46 rfl ?_
      refine a_iconst (v := 1) ho dX2_after_47 rfl (by decide) ?_
      refine a_iand ho dX2_after_48 rfl ?_
      refine a_if_eq (tgt := 56) ho dX2_after_49 rfl rfl (fun hc49 => ?_) (fun hc49 => ?_)
      · replace h := if_t hc49 h
        refine a_iconst (v := 0) ho dX2_after_56 rfl (by decide) ?_
        exact a_sub [2] rfl (T_X2_after_57 ho hr0 hs0 h)
      · replace h := if_f hc49 h
        refine a_iconst (v := 1) ho dX2_after_52 rfl (by decide) ?_
        refine a_goto (tgt := 57) ho dX2_after_53 rfl ?_
        exact a_sub [2] rfl (T_X2_after_57 ho hr0 hs0 h)
  · replace h := if_f hc3 h
    refine a_iload_n ho dX2_after_6 rfl rfl 2 rfl ?_
    refine a_callSi ho vy_X9_waxIn ml_X2_74 (C_X9_waxIn x2) rfl rfl (by decide) (Nat.le_of_ble_eq_true rfl) dX2_after_7 rfl ?_
    refine a_if_ne (tgt := 23) ho dX2_after_10 rfl rfl (fun hc10 => ?_) (fun hc10 => ?_)
    · replace h := if_f hc10 h
      refine a_aload_n ho dX2_after_23 rfl rfl 0 rfl ?_
      refine a_iload_n ho dX2_after_24 rfl rfl 1 rfl ?_
      refine a_iload_n ho dX2_after_25 rfl rfl 2 rfl ?_
      obtain ⟨r26, hq26, h⟩ := ob_el h
      refine a_callVi ho vy_X2_cracked ml_X2_81 o_10 (C_X2_cracked hq26) rfl rfl (by decide) (Nat.le_of_ble_eq_true rfl) dX2_after_26 rfl ?_
      exact a_iret ho dX2_after_29 (rI hr0 (ro_el h)) hs0
    · replace h := if_t hc10 h
      refine a_aload_n ho dX2_after_13 rfl rfl 0 rfl ?_
      refine a_iload_n ho dX2_after_14 rfl rfl 1 rfl ?_
      refine a_iload_n ho dX2_after_15 rfl rfl 2 rfl ?_
      refine a_iload_n ho dX2_after_16 rfl rfl 3 rfl ?_
      obtain ⟨r17, hq17, h⟩ := ob_el h
      refine a_callVi ho vy_X2_dyed ml_X2_78 o_10 (C_X2_dyed hq17) rfl rfl (by decide) (Nat.le_of_ble_eq_true rfl) dX2_after_17 rfl ?_
      refine a_goto (tgt := 29) ho dX2_after_20 rfl ?_
      exact a_iret ho dX2_after_29 (rI hr0 (ro_el h)) hs0
theorem C_X2_after {l : Launch} {X : gX} {σ : gS} {r0 : Int32} {a1 : Int32} {a2 : Int32} {a3 : Int32} (h : F_X2_after_0 a1 a2 a3 σ = some r0) : gCt l X yX2_after (.code yX2_after cX2_after 5 (some .int)) 4 [.ref (X.2.2.1 10), .int a1, .int a2, .int a3] σ (some (.int r0)) σ :=
  gCt_of cX2_after (by decide) (Nat.le_of_ble_eq_true rfl) (fun G hl hX hv hs ho => by subst hl; subst hX; exact a_sub [0, 1, 2, 3] rfl (T_X2_after_0 ho hv hs h))
theorem T_X2_apply_50 {G : gM} (ho : gOk G "WaxCloth$Cloth" cX2_apply 5 (some .boolean) 7) {r0 : Int32} (hr0 : gv0 G = some (.int r0)) {σ0 : gS} (hs0 : gs0 G = σ0) {c2 : Nat} {c3 : Nat} {g6 : Int32 → Int32 → Int32 → gS → Option (Int32 × gS)} (hg6 : ∀ (x1 : Int32) (x4 : Int32) (x5 : Int32) (σ : gS), g6 x1 x4 x5 σ = some (r0, σ0) → gAt G 6 [(0, .ref (gad G 10)), (1, .int x1), (2, .ref (gad G c2)), (3, .ref (gad G c3)), (4, .int x4), (5, .int x5)] [] σ) (hc2 : isI c2 8) (hc3 : isI c3 8) {x1 : Int32} {x5 : Int32} {y0 : Int32} {y1 : Int32} {σ : gS} (h : F_X2_apply_50 g6 c2 c3 x1 x5 y0 y1 σ = some (r0, σ0)) : gAt G 50 [(0, .ref (gad G 10)), (1, .int x1), (2, .ref (gad G c2)), (3, .ref (gad G c3)), (5, .int x5)] [.int y0, .int y1] σ := by
  unfold F_X2_apply_50 at h
  refine a_ior ho dX2_apply_50 rfl ?_
  obtain ⟨x51, hb51, h⟩ := bd_el h
  refine a_nmI hb51 ?_
  refine a_istore (L' := [(4, .int x51), (0, .ref (gad G 10)), (1, .int x1), (2, .ref (gad G c2)), (3, .ref (gad G c3)), (5, .int x5)]) ho dX2_apply_51 rfl (by decide) rfl ?_
  obtain ⟨x53, hb53, h⟩ := bd_el h
  refine a_iinc (L' := [(5, .int x53), (4, .int x51), (0, .ref (gad G 10)), (1, .int x1), (2, .ref (gad G c2)), (3, .ref (gad G c3))]) ho dX2_apply_53 rfl 5 rfl hb53 (by decide) rfl ?_
  refine a_goto (tgt := 6) ho dX2_apply_56 rfl ?_
  exact a_sub [2, 3, 4, 5, 1, 0] rfl (hg6 _ _ _ _ h)
theorem T_X2_apply_6 {G : gM} (ho : gOk G "WaxCloth$Cloth" cX2_apply 5 (some .boolean) 7) {r0 : Int32} (hr0 : gv0 G = some (.int r0)) {σ0 : gS} (hs0 : gs0 G = σ0) {c2 : Nat} {c3 : Nat} (hc2 : isI c2 8) (hc3 : isI c3 8) : ∀ (n : Nat) (x1 : Int32) (x4 : Int32) (x5 : Int32) (σ : gS), F_X2_apply_6 c2 c3 n x1 x4 x5 σ = some (r0, σ0) → gAt G 6 [(0, .ref (gad G 10)), (1, .int x1), (2, .ref (gad G c2)), (3, .ref (gad G c3)), (4, .int x4), (5, .int x5)] [] σ := by
  intro n
  induction n with
  | zero => intro x1 x4 x5 σ h; cases h
  | succ n ih =>
    intro x1 x4 x5 σ h
    unfold F_X2_apply_6 at h
    refine a_iload ho dX2_apply_6 rfl 5 rfl ?_
    refine a_aload_n ho dX2_apply_8 rfl rfl 0 rfl ?_
    refine a_getI ho fl_X2_27 o_10 (ff_2_0 _ o_10) dX2_apply_9 rfl ?_
    refine a_icmp_ge (tgt := 59) ho dX2_apply_12 rfl rfl (fun hc12 => ?_) (fun hc12 => ?_)
    · replace h := if_t hc12 h
      refine a_iload ho dX2_apply_59 rfl 4 rfl ?_
      obtain ⟨hk61, h⟩ := ck_el h
      exact a_zret ho dX2_apply_61 (nb_n hk61) (rI hr0 (re_el h).1) (rS hs0 (re_el h).2)
    · replace h := if_f hc12 h
      refine a_aload_n ho dX2_apply_15 rfl rfl 2 rfl ?_
      refine a_iload ho dX2_apply_16 rfl 5 rfl ?_
      obtain ⟨hk18, h⟩ := ck_el h
      refine a_iald ho hc2 hk18 dX2_apply_18 rfl ?_
      obtain ⟨x19, hb19, h⟩ := bd_el h
      refine a_nmI hb19 ?_
      refine a_istore (L' := [(6, .int x19), (0, .ref (gad G 10)), (1, .int x1), (2, .ref (gad G c2)), (3, .ref (gad G c3)), (4, .int x4), (5, .int x5)]) ho dX2_apply_19 rfl (by decide) rfl ?_
      refine a_aload_n ho dX2_apply_21 rfl rfl 4 rfl ?_
      refine a_iload ho dX2_apply_22 rfl 6 rfl ?_
      refine a_aload_n ho dX2_apply_24 rfl rfl 1 rfl ?_
      refine a_iload ho dX2_apply_25 rfl 6 rfl ?_
      refine a_iload ho dX2_apply_27 rfl 0 rfl ?_
      refine a_iload_n ho dX2_apply_29 rfl rfl 2 rfl ?_
      obtain ⟨r30, hq30, h⟩ := ob_el h
      refine a_callVi ho vy_X2_after ml_X2_103 o_10 (C_X2_after hq30) rfl rfl (by decide) (Nat.le_of_ble_eq_true rfl) dX2_apply_30 rfl ?_
      obtain ⟨hk33, h⟩ := ck_el h
      refine a_iast ho hc3 hk33 dX2_apply_33 rfl ?_
      obtain ⟨σ33, hs33, h⟩ := bd_el h
      refine a_nmS hs33 ?_
      refine a_iload ho dX2_apply_34 rfl 5 rfl ?_
      refine a_aload_n ho dX2_apply_36 rfl rfl 4 rfl ?_
      refine a_iload ho dX2_apply_37 rfl 6 rfl ?_
      obtain ⟨hk39, h⟩ := ck_el h
      refine a_iald ho hc3 hk39 dX2_apply_39 rfl ?_
      refine a_iload ho dX2_apply_40 rfl 0 rfl ?_
      refine a_icmp_eq (tgt := 49) ho dX2_apply_42 rfl rfl (fun hc42 => ?_) (fun hc42 => ?_)
      · replace h := if_t hc42 h
        refine a_iconst (v := 0) ho dX2_apply_49 rfl (by decide) ?_
        exact a_sub [1, 2, 3, 4, 6] rfl (T_X2_apply_50 ho hr0 hs0 ih hc2 hc3 h)
      · replace h := if_f hc42 h
        refine a_iconst (v := 1) ho dX2_apply_45 rfl (by decide) ?_
        refine a_goto (tgt := 50) ho dX2_apply_46 rfl ?_
        exact a_sub [1, 2, 3, 4, 6] rfl (T_X2_apply_50 ho hr0 hs0 ih hc2 hc3 h)
theorem T_X2_apply_0 {G : gM} (ho : gOk G "WaxCloth$Cloth" cX2_apply 5 (some .boolean) 7) {r0 : Int32} (hr0 : gv0 G = some (.int r0)) {σ0 : gS} (hs0 : gs0 G = σ0) {c2 : Nat} {c3 : Nat} (hc2 : isI c2 8) (hc3 : isI c3 8) {x1 : Int32} {σ : gS} (h : F_X2_apply_0 c2 c3 x1 σ = some (r0, σ0)) : gAt G 0 [(0, .ref (gad G 10)), (1, .int x1), (2, .ref (gad G c2)), (3, .ref (gad G c3))] [] σ := by
  unfold F_X2_apply_0 at h
  refine a_iconst (v := 0) ho dX2_apply_0 rfl (by decide) ?_
  refine a_istore (L' := [(4, .int 0), (0, .ref (gad G 10)), (1, .int x1), (2, .ref (gad G c2)), (3, .ref (gad G c3))]) ho dX2_apply_1 rfl (by decide) rfl ?_
  refine a_iconst (v := 0) ho dX2_apply_3 rfl (by decide) ?_
  refine a_istore (L' := [(5, .int 0), (4, .int 0), (0, .ref (gad G 10)), (1, .int x1), (2, .ref (gad G c2)), (3, .ref (gad G c3))]) ho dX2_apply_4 rfl (by decide) rfl ?_
  exact a_sub [2, 3, 4, 5, 1, 0] rfl (T_X2_apply_6 ho hr0 hs0 hc2 hc3 _ _ _ _ _ h)
theorem C_X2_apply {l : Launch} {X : gX} {σ σ0 : gS} {r0 : Int32} {c2 : Nat} {c3 : Nat} (hc2 : isI c2 8) (hc3 : isI c3 8) {a1 : Int32} (h : F_X2_apply_0 c2 c3 a1 σ = some (r0, σ0)) : gCt l X yX2_apply (.code yX2_apply cX2_apply 7 (some .boolean)) 5 [.ref (X.2.2.1 10), .int a1, .ref (X.2.2.1 c2), .ref (X.2.2.1 c3)] σ (some (.int r0)) σ0 :=
  gCt_of cX2_apply (by decide) (Nat.le_of_ble_eq_true rfl) (fun G hl hX hv hs ho => by subst hl; subst hX; exact a_sub [0, 1, 2, 3] rfl (T_X2_apply_0 ho hv hs hc2 hc3 h))
theorem T_X9_darkness_0 {G : gM} (ho : gOk G "WaxCloth$State" cX9_darkness 2 (some .int) 1) {r0 : Int32} (hr0 : gv0 G = some (.int r0)) {σ : gS} (hs0 : gs0 G = σ) {x0 : Int32} (h : F_X9_darkness_0 x0 = r0) : gAt G 0 [(0, .int x0)] [] σ := by
  unfold F_X9_darkness_0 at h
  refine a_iload_n ho dX9_darkness_0 rfl rfl 0 rfl ?_
  refine a_iconst (v := 0) ho dX9_darkness_1 rfl (by decide) ?_
  refine a_callSi ho vy_X9_amountOf ml_X9_9 (C_X9_amountOf x0 0) rfl rfl (by decide) (Nat.le_of_ble_eq_true rfl) dX9_darkness_2 rfl ?_
  refine a_iload_n ho dX9_darkness_5 rfl rfl 0 rfl ?_
  refine a_iconst (v := 1) ho dX9_darkness_6 rfl (by decide) ?_
  refine a_callSi ho vy_X9_amountOf ml_X9_9 (C_X9_amountOf x0 1) rfl rfl (by decide) (Nat.le_of_ble_eq_true rfl) dX9_darkness_7 rfl ?_
  refine a_iadd ho dX9_darkness_10 rfl ?_
  refine a_iload_n ho dX9_darkness_11 rfl rfl 0 rfl ?_
  refine a_iconst (v := 2) ho dX9_darkness_12 rfl (by decide) ?_
  refine a_callSi ho vy_X9_amountOf ml_X9_9 (C_X9_amountOf x0 2) rfl rfl (by decide) (Nat.le_of_ble_eq_true rfl) dX9_darkness_13 rfl ?_
  refine a_iadd ho dX9_darkness_16 rfl ?_
  exact a_iret ho dX9_darkness_17 (rI hr0 h) hs0
theorem C_X9_darkness {l : Launch} {X : gX} {σ : gS} (a0 : Int32) : gCt l X yX9_darkness (.code yX9_darkness cX9_darkness 1 (some .int)) 2 [.int a0] σ (some (.int (F_X9_darkness_0 a0))) σ :=
  gCt_of cX9_darkness (by decide) (Nat.le_of_ble_eq_true rfl) (fun G hl hX hv hs ho => by subst hl; subst hX; exact a_sub [0] rfl (T_X9_darkness_0 ho hv hs rfl))
theorem T_X2_darknessOf_4 {G : gM} (ho : gOk G "WaxCloth$Cloth" cX2_darknessOf 3 (some .int) 4) {r0 : Int32} (hr0 : gv0 G = some (.int r0)) {σ : gS} (hs0 : gs0 G = σ) {c1 : Nat} (hc1 : isI c1 8) : ∀ (n : Nat) (x2 : Int32) (x3 : Int32), F_X2_darknessOf_4 c1 n x2 x3 σ = some r0 → gAt G 4 [(0, .ref (gad G 10)), (1, .ref (gad G c1)), (2, .int x2), (3, .int x3)] [] σ := by
  intro n
  induction n with
  | zero => intro x2 x3 h; cases h
  | succ n ih =>
    intro x2 x3 h
    unfold F_X2_darknessOf_4 at h
    refine a_iload_n ho dX2_darknessOf_4 rfl rfl 3 rfl ?_
    refine a_aload_n ho dX2_darknessOf_5 rfl rfl 0 rfl ?_
    refine a_getI ho fl_X2_27 o_10 (ff_2_0 _ o_10) dX2_darknessOf_6 rfl ?_
    refine a_icmp_ge (tgt := 27) ho dX2_darknessOf_9 rfl rfl (fun hc9 => ?_) (fun hc9 => ?_)
    · replace h := if_t hc9 h
      refine a_iload_n ho dX2_darknessOf_27 rfl rfl 2 rfl ?_
      exact a_iret ho dX2_darknessOf_28 (rI hr0 (ro_el h)) hs0
    · replace h := if_f hc9 h
      refine a_iload_n ho dX2_darknessOf_12 rfl rfl 2 rfl ?_
      refine a_aload_n ho dX2_darknessOf_13 rfl rfl 1 rfl ?_
      refine a_iload_n ho dX2_darknessOf_14 rfl rfl 3 rfl ?_
      obtain ⟨hk15, h⟩ := ck_el h
      refine a_iald ho hc1 hk15 dX2_darknessOf_15 rfl ?_
      refine a_callSi ho vy_X9_darkness ml_X2_122 (C_X9_darkness (σ.1 c1 (Int32.toNatClampNeg x3))) rfl rfl (by decide) (Nat.le_of_ble_eq_true rfl) dX2_darknessOf_16 rfl ?_
      refine a_iadd ho dX2_darknessOf_19 rfl ?_
      obtain ⟨x20, hb20, h⟩ := bd_el h
      refine a_nmI hb20 ?_
      refine a_istore_n (L' := [(2, .int x20), (0, .ref (gad G 10)), (1, .ref (gad G c1)), (3, .int x3)]) ho dX2_darknessOf_20 rfl rfl (by decide) rfl ?_
      obtain ⟨x21, hb21, h⟩ := bd_el h
      refine a_iinc (L' := [(3, .int x21), (2, .int x20), (0, .ref (gad G 10)), (1, .ref (gad G c1))]) ho dX2_darknessOf_21 rfl 3 rfl hb21 (by decide) rfl ?_
      refine a_goto (tgt := 4) ho dX2_darknessOf_24 rfl ?_
      exact a_sub [2, 3, 1, 0] rfl (ih _ _ h)
theorem T_X2_darknessOf_0 {G : gM} (ho : gOk G "WaxCloth$Cloth" cX2_darknessOf 3 (some .int) 4) {r0 : Int32} (hr0 : gv0 G = some (.int r0)) {σ : gS} (hs0 : gs0 G = σ) {c1 : Nat} (hc1 : isI c1 8) (h : F_X2_darknessOf_0 c1 σ = some r0) : gAt G 0 [(0, .ref (gad G 10)), (1, .ref (gad G c1))] [] σ := by
  unfold F_X2_darknessOf_0 at h
  refine a_iconst (v := 0) ho dX2_darknessOf_0 rfl (by decide) ?_
  refine a_istore_n (L' := [(2, .int 0), (0, .ref (gad G 10)), (1, .ref (gad G c1))]) ho dX2_darknessOf_1 rfl rfl (by decide) rfl ?_
  refine a_iconst (v := 0) ho dX2_darknessOf_2 rfl (by decide) ?_
  refine a_istore_n (L' := [(3, .int 0), (2, .int 0), (0, .ref (gad G 10)), (1, .ref (gad G c1))]) ho dX2_darknessOf_3 rfl rfl (by decide) rfl ?_
  exact a_sub [2, 3, 1, 0] rfl (T_X2_darknessOf_4 ho hr0 hs0 hc1 _ _ _ h)
theorem C_X2_darknessOf {l : Launch} {X : gX} {σ : gS} {r0 : Int32} {c1 : Nat} (hc1 : isI c1 8) (h : F_X2_darknessOf_0 c1 σ = some r0) : gCt l X yX2_darknessOf (.code yX2_darknessOf cX2_darknessOf 4 (some .int)) 3 [.ref (X.2.2.1 10), .ref (X.2.2.1 c1)] σ (some (.int r0)) σ :=
  gCt_of cX2_darknessOf (by decide) (Nat.le_of_ble_eq_true rfl) (fun G hl hX hv hs ho => by subst hl; subst hX; exact a_sub [0, 1] rfl (T_X2_darknessOf_0 ho hv hs hc1 h))
