theorem T_X2_doingCount_0 {G : gM} (ho : gOk G "WaxCloth$Cloth" cX2_doingCount 1 (some .int) 1) {r0 : Int32} (hr0 : gv0 G = some (.int r0)) {σ : gS} (hs0 : gs0 G = σ) (h : F_X2_doingCount_0 σ = r0) : gAt G 0 [(0, .ref (gad G 10))] [] σ := by
  unfold F_X2_doingCount_0 at h
  refine a_aload_n ho dX2_doingCount_0 rfl rfl 0 rfl ?_
  refine a_getI ho fl_X2_31 o_10 (ff_2_1 _ o_10) dX2_doingCount_1 rfl ?_
  refine a_aload_n ho dX2_doingCount_4 rfl rfl 0 rfl ?_
  refine a_getI ho fl_X2_34 o_10 (ff_2_2 _ o_10) dX2_doingCount_5 rfl ?_
  refine a_iadd ho dX2_doingCount_8 rfl ?_
  refine a_iconst (v := 2) ho dX2_doingCount_9 rfl (by decide) ?_
  refine a_iadd ho dX2_doingCount_10 rfl ?_
  exact a_iret ho dX2_doingCount_11 (rI hr0 h) hs0
theorem C_X2_doingCount {l : Launch} {X : gX} {σ : gS} : gCt l X yX2_doingCount (.code yX2_doingCount cX2_doingCount 1 (some .int)) 1 [.ref (X.2.2.1 10)] σ (some (.int (F_X2_doingCount_0 σ))) σ :=
  gCt_of cX2_doingCount (by decide) (Nat.le_of_ble_eq_true rfl) (fun G hl hX hv hs ho => by subst hl; subst hX; exact a_sub [0] rfl (T_X2_doingCount_0 ho hv hs rfl))
theorem T_X2_nthDoing_0 {G : gM} (ho : gOk G "WaxCloth$Cloth" cX2_nthDoing 1 (some .int) 2) {r0 : Int32} (hr0 : gv0 G = some (.int r0)) {σ : gS} (hs0 : gs0 G = σ) {x1 : Int32} (h : F_X2_nthDoing_0 x1 σ = r0) : gAt G 0 [(0, .ref (gad G 10)), (1, .int x1)] [] σ := by
  unfold F_X2_nthDoing_0 at h
  refine a_iload_n ho dX2_nthDoing_0 rfl rfl 1 rfl ?_
  refine a_aload_n ho dX2_nthDoing_1 rfl rfl 0 rfl ?_
  refine a_getI ho fl_X2_31 o_10 (ff_2_1 _ o_10) dX2_nthDoing_2 rfl ?_
  refine a_icmp_ge (tgt := 10) ho dX2_nthDoing_5 rfl rfl (fun hc5 => ?_) (fun hc5 => ?_)
  · replace h := if_t hc5 h
    refine a_iload_n ho dX2_nthDoing_10 rfl rfl 1 rfl ?_
    refine a_aload_n ho dX2_nthDoing_11 rfl rfl 0 rfl ?_
    refine a_getI ho fl_X2_31 o_10 (ff_2_1 _ o_10) dX2_nthDoing_12 rfl ?_
    refine a_aload_n ho dX2_nthDoing_15 rfl rfl 0 rfl ?_
    refine a_getI ho fl_X2_34 o_10 (ff_2_2 _ o_10) dX2_nthDoing_16 rfl ?_
    refine a_iadd ho dX2_nthDoing_19 rfl ?_
    refine a_icmp_ge (tgt := 35) ho dX2_nthDoing_20 rfl rfl (fun hc20 => ?_) (fun hc20 => ?_)
    · replace h := if_t hc20 h
      refine a_bipush (v := 20) ho dX2_nthDoing_35 rfl (by decide) ?_
      refine a_iload_n ho dX2_nthDoing_37 rfl rfl 1 rfl ?_
      refine a_iadd ho dX2_nthDoing_38 rfl ?_
      refine a_aload_n ho dX2_nthDoing_39 rfl rfl 0 rfl ?_
      refine a_getI ho fl_X2_31 o_10 (ff_2_1 _ o_10) dX2_nthDoing_40 rfl ?_
      refine a_isub ho dX2_nthDoing_43 rfl ?_
      refine a_aload_n ho dX2_nthDoing_44 rfl rfl 0 rfl ?_
      refine a_getI ho fl_X2_34 o_10 (ff_2_2 _ o_10) dX2_nthDoing_45 rfl ?_
      refine a_isub ho dX2_nthDoing_48 rfl ?_
      exact a_iret ho dX2_nthDoing_49 (rI hr0 h) hs0
    · replace h := if_f hc20 h
      refine a_bipush (v := 10) ho dX2_nthDoing_23 rfl (by decide) ?_
      refine a_iload_n ho dX2_nthDoing_25 rfl rfl 1 rfl ?_
      refine a_iadd ho dX2_nthDoing_26 rfl ?_
      refine a_aload_n ho dX2_nthDoing_27 rfl rfl 0 rfl ?_
      refine a_getI ho fl_X2_31 o_10 (ff_2_1 _ o_10) dX2_nthDoing_28 rfl ?_
      refine a_isub ho dX2_nthDoing_31 rfl ?_
      refine a_goto (tgt := 49) ho dX2_nthDoing_32 rfl ?_
      exact a_iret ho dX2_nthDoing_49 (rI hr0 h) hs0
  · replace h := if_f hc5 h
    refine a_iload_n ho dX2_nthDoing_8 rfl rfl 1 rfl ?_
    exact a_iret ho dX2_nthDoing_9 (rI hr0 h) hs0
theorem C_X2_nthDoing {l : Launch} {X : gX} {σ : gS} (a1 : Int32) : gCt l X yX2_nthDoing (.code yX2_nthDoing cX2_nthDoing 2 (some .int)) 1 [.ref (X.2.2.1 10), .int a1] σ (some (.int (F_X2_nthDoing_0 a1 σ))) σ :=
  gCt_of cX2_nthDoing (by decide) (Nat.le_of_ble_eq_true rfl) (fun G hl hX hv hs ho => by subst hl; subst hX; exact a_sub [0, 1] rfl (T_X2_nthDoing_0 ho hv hs rfl))
theorem T_X2_rightSet_29 {G : gM} (ho : gOk G "WaxCloth$Cloth" cX2_rightSet 4 (some .int) 4) {r0 : Int32} (hr0 : gv0 G = some (.int r0)) {σ : gS} (hs0 : gs0 G = σ) {c1 : Nat} {g4 : Int32 → Int32 → gS → Option Int32} (hg4 : ∀ (x2 : Int32) (x3 : Int32), g4 x2 x3 σ = some r0 → gAt G 4 [(0, .ref (gad G 10)), (1, .ref (gad G c1)), (2, .int x2), (3, .int x3)] [] σ) (hc1 : isI c1 8) {x2 : Int32} {x3 : Int32} (h : F_X2_rightSet_29 g4 c1 x2 x3 σ = some r0) : gAt G 29 [(0, .ref (gad G 10)), (1, .ref (gad G c1)), (2, .int x2), (3, .int x3)] [] σ := by
  unfold F_X2_rightSet_29 at h
  obtain ⟨x29, hb29, h⟩ := bd_el h
  refine a_iinc (L' := [(3, .int x29), (0, .ref (gad G 10)), (1, .ref (gad G c1)), (2, .int x2)]) ho dX2_rightSet_29 rfl 3 rfl hb29 (by decide) rfl ?_
  refine a_goto (tgt := 4) ho dX2_rightSet_32 rfl ?_
  exact a_sub [1, 2, 3, 0] rfl (hg4 _ _ h)
theorem T_X2_rightSet_4 {G : gM} (ho : gOk G "WaxCloth$Cloth" cX2_rightSet 4 (some .int) 4) {r0 : Int32} (hr0 : gv0 G = some (.int r0)) {σ : gS} (hs0 : gs0 G = σ) {c1 : Nat} (hc1 : isI c1 8) : ∀ (n : Nat) (x2 : Int32) (x3 : Int32), F_X2_rightSet_4 c1 n x2 x3 σ = some r0 → gAt G 4 [(0, .ref (gad G 10)), (1, .ref (gad G c1)), (2, .int x2), (3, .int x3)] [] σ := by
  intro n
  induction n with
  | zero => intro x2 x3 h; cases h
  | succ n ih =>
    intro x2 x3 h
    unfold F_X2_rightSet_4 at h
    refine a_iload_n ho dX2_rightSet_4 rfl rfl 3 rfl ?_
    refine a_aload_n ho dX2_rightSet_5 rfl rfl 0 rfl ?_
    refine a_getI ho fl_X2_27 o_10 (ff_2_0 _ o_10) dX2_rightSet_6 rfl ?_
    refine a_icmp_ge (tgt := 35) ho dX2_rightSet_9 rfl rfl (fun hc9 => ?_) (fun hc9 => ?_)
    · replace h := if_t hc9 h
      refine a_iload_n ho dX2_rightSet_35 rfl rfl 2 rfl ?_
      exact a_iret ho dX2_rightSet_36 (rI hr0 (ro_el h)) hs0
    · replace h := if_f hc9 h
      refine a_aload_n ho dX2_rightSet_12 rfl rfl 0 rfl ?_
      refine a_iload_n ho dX2_rightSet_13 rfl rfl 3 rfl ?_
      refine a_aload_n ho dX2_rightSet_14 rfl rfl 1 rfl ?_
      refine a_iload_n ho dX2_rightSet_15 rfl rfl 3 rfl ?_
      obtain ⟨hk16, h⟩ := ck_el h
      refine a_iald ho hc1 hk16 dX2_rightSet_16 rfl ?_
      obtain ⟨r17, hq17, h⟩ := ob_el h
      refine a_callVi ho vy_X2_isRight ml_X2_109 o_10 (C_X2_isRight hq17) rfl rfl (by decide) (Nat.le_of_ble_eq_true rfl) dX2_rightSet_17 rfl ?_
      refine a_if_eq (tgt := 29) ho dX2_rightSet_20 rfl rfl (fun hc20 => ?_) (fun hc20 => ?_)
      · replace h := if_t hc20 h
        exact a_sub [0, 1, 2, 3] rfl (T_X2_rightSet_29 ho hr0 hs0 ih hc1 h)
      · replace h := if_f hc20 h
        refine a_iload_n ho dX2_rightSet_23 rfl rfl 2 rfl ?_
        refine a_iconst (v := 1) ho dX2_rightSet_24 rfl (by decide) ?_
        refine a_iload_n ho dX2_rightSet_25 rfl rfl 3 rfl ?_
        refine a_ishl ho dX2_rightSet_26 rfl ?_
        refine a_ior ho dX2_rightSet_27 rfl ?_
        obtain ⟨x28, hb28, h⟩ := bd_el h
        refine a_nmI hb28 ?_
        refine a_istore_n (L' := [(2, .int x28), (0, .ref (gad G 10)), (1, .ref (gad G c1)), (3, .int x3)]) ho dX2_rightSet_28 rfl rfl (by decide) rfl ?_
        exact a_sub [1, 2, 0, 3] rfl (T_X2_rightSet_29 ho hr0 hs0 ih hc1 h)
theorem T_X2_rightSet_0 {G : gM} (ho : gOk G "WaxCloth$Cloth" cX2_rightSet 4 (some .int) 4) {r0 : Int32} (hr0 : gv0 G = some (.int r0)) {σ : gS} (hs0 : gs0 G = σ) {c1 : Nat} (hc1 : isI c1 8) (h : F_X2_rightSet_0 c1 σ = some r0) : gAt G 0 [(0, .ref (gad G 10)), (1, .ref (gad G c1))] [] σ := by
  unfold F_X2_rightSet_0 at h
  refine a_iconst (v := 0) ho dX2_rightSet_0 rfl (by decide) ?_
  refine a_istore_n (L' := [(2, .int 0), (0, .ref (gad G 10)), (1, .ref (gad G c1))]) ho dX2_rightSet_1 rfl rfl (by decide) rfl ?_
  refine a_iconst (v := 0) ho dX2_rightSet_2 rfl (by decide) ?_
  refine a_istore_n (L' := [(3, .int 0), (2, .int 0), (0, .ref (gad G 10)), (1, .ref (gad G c1))]) ho dX2_rightSet_3 rfl rfl (by decide) rfl ?_
  exact a_sub [2, 3, 1, 0] rfl (T_X2_rightSet_4 ho hr0 hs0 hc1 _ _ _ h)
theorem C_X2_rightSet {l : Launch} {X : gX} {σ : gS} {r0 : Int32} {c1 : Nat} (hc1 : isI c1 8) (h : F_X2_rightSet_0 c1 σ = some r0) : gCt l X yX2_rightSet (.code yX2_rightSet cX2_rightSet 4 (some .int)) 4 [.ref (X.2.2.1 10), .ref (X.2.2.1 c1)] σ (some (.int r0)) σ :=
  gCt_of cX2_rightSet (by decide) (Nat.le_of_ble_eq_true rfl) (fun G hl hX hv hs ho => by subst hl; subst hX; exact a_sub [0, 1] rfl (T_X2_rightSet_0 ho hv hs hc1 h))
theorem T_J6_bitCount_0f7a4_0 {G : gM} (ho : gOk G "java/lang/Integer" cJ6_bitCount_0f7a4 1 (some .int) 1) {r0 : Int32} (hr0 : gv0 G = some (.int r0)) {σ : gS} (hs0 : gs0 G = σ) {x0 : Int32} (h : F_J6_bitCount_0f7a4_0 x0 = r0) : gAt G 0 [(0, .int x0)] [] σ := by
  unfold F_J6_bitCount_0f7a4_0 at h
  refine a_iload_n ho dJ6_bitCount_0f7a4_0 rfl rfl 0 rfl ?_
  refine a_iload_n ho dJ6_bitCount_0f7a4_1 rfl rfl 0 rfl ?_
  refine a_iconst (v := 1) ho dJ6_bitCount_0f7a4_2 rfl (by decide) ?_
  refine a_iushr ho dJ6_bitCount_0f7a4_3 rfl ?_
  refine a_ldcw ho dJ6_bitCount_0f7a4_4 rfl kk_J6_265 ?_
  refine a_iand ho dJ6_bitCount_0f7a4_7 rfl ?_
  refine a_isub ho dJ6_bitCount_0f7a4_8 rfl ?_
  obtain ⟨x9, hb9, h⟩ := bd_el h
  refine a_nmI hb9 ?_
  refine a_istore_n (L' := [(0, .int x9)]) ho dJ6_bitCount_0f7a4_9 rfl rfl (by decide) rfl ?_
  refine a_iload_n ho dJ6_bitCount_0f7a4_10 rfl rfl 0 rfl ?_
  refine a_ldcw ho dJ6_bitCount_0f7a4_11 rfl kk_J6_266 ?_
  refine a_iand ho dJ6_bitCount_0f7a4_14 rfl ?_
  refine a_iload_n ho dJ6_bitCount_0f7a4_15 rfl rfl 0 rfl ?_
  refine a_iconst (v := 2) ho dJ6_bitCount_0f7a4_16 rfl (by decide) ?_
  refine a_iushr ho dJ6_bitCount_0f7a4_17 rfl ?_
  refine a_ldcw ho dJ6_bitCount_0f7a4_18 rfl kk_J6_266 ?_
  refine a_iand ho dJ6_bitCount_0f7a4_21 rfl ?_
  refine a_iadd ho dJ6_bitCount_0f7a4_22 rfl ?_
  obtain ⟨x23, hb23, h⟩ := bd_el h
  refine a_nmI hb23 ?_
  refine a_istore_n (L' := [(0, .int x23)]) ho dJ6_bitCount_0f7a4_23 rfl rfl (by decide) rfl ?_
  refine a_iload_n ho dJ6_bitCount_0f7a4_24 rfl rfl 0 rfl ?_
  refine a_iload_n ho dJ6_bitCount_0f7a4_25 rfl rfl 0 rfl ?_
  refine a_iconst (v := 4) ho dJ6_bitCount_0f7a4_26 rfl (by decide) ?_
  refine a_iushr ho dJ6_bitCount_0f7a4_27 rfl ?_
  refine a_iadd ho dJ6_bitCount_0f7a4_28 rfl ?_
  refine a_ldcw ho dJ6_bitCount_0f7a4_29 rfl kk_J6_267 ?_
  refine a_iand ho dJ6_bitCount_0f7a4_32 rfl ?_
  obtain ⟨x33, hb33, h⟩ := bd_el h
  refine a_nmI hb33 ?_
  refine a_istore_n (L' := [(0, .int x33)]) ho dJ6_bitCount_0f7a4_33 rfl rfl (by decide) rfl ?_
  refine a_iload_n ho dJ6_bitCount_0f7a4_34 rfl rfl 0 rfl ?_
  refine a_iload_n ho dJ6_bitCount_0f7a4_35 rfl rfl 0 rfl ?_
  refine a_bipush (v := 8) ho dJ6_bitCount_0f7a4_36 rfl (by decide) ?_
  refine a_iushr ho dJ6_bitCount_0f7a4_38 rfl ?_
  refine a_iadd ho dJ6_bitCount_0f7a4_39 rfl ?_
  obtain ⟨x40, hb40, h⟩ := bd_el h
  refine a_nmI hb40 ?_
  refine a_istore_n (L' := [(0, .int x40)]) ho dJ6_bitCount_0f7a4_40 rfl rfl (by decide) rfl ?_
  refine a_iload_n ho dJ6_bitCount_0f7a4_41 rfl rfl 0 rfl ?_
  refine a_iload_n ho dJ6_bitCount_0f7a4_42 rfl rfl 0 rfl ?_
  refine a_bipush (v := 16) ho dJ6_bitCount_0f7a4_43 rfl (by decide) ?_
  refine a_iushr ho dJ6_bitCount_0f7a4_45 rfl ?_
  refine a_iadd ho dJ6_bitCount_0f7a4_46 rfl ?_
  obtain ⟨x47, hb47, h⟩ := bd_el h
  refine a_nmI hb47 ?_
  refine a_istore_n (L' := [(0, .int x47)]) ho dJ6_bitCount_0f7a4_47 rfl rfl (by decide) rfl ?_
  refine a_iload_n ho dJ6_bitCount_0f7a4_48 rfl rfl 0 rfl ?_
  refine a_bipush (v := 63) ho dJ6_bitCount_0f7a4_49 rfl (by decide) ?_
  refine a_iand ho dJ6_bitCount_0f7a4_51 rfl ?_
  exact a_iret ho dJ6_bitCount_0f7a4_52 (rI hr0 h) hs0
theorem C_J6_bitCount_0f7a4 {l : Launch} {X : gX} {σ : gS} (a0 : Int32) : gCt l X yJ6_bitCount_0f7a4 (.code yJ6_bitCount_0f7a4 cJ6_bitCount_0f7a4 1 (some .int)) 1 [.int a0] σ (some (.int (F_J6_bitCount_0f7a4_0 a0))) σ :=
  gCt_of cJ6_bitCount_0f7a4 (by decide) (Nat.le_of_ble_eq_true rfl) (fun G hl hX hv hs ho => by subst hl; subst hX; exact a_sub [0] rfl (T_J6_bitCount_0f7a4_0 ho hv hs rfl))
theorem T_X2_rightCount_0 {G : gM} (ho : gOk G "WaxCloth$Cloth" cX2_rightCount 5 (some .int) 2) {r0 : Int32} (hr0 : gv0 G = some (.int r0)) {σ : gS} (hs0 : gs0 G = σ) {c1 : Nat} (hc1 : isI c1 8) (h : F_X2_rightCount_0 c1 σ = some r0) : gAt G 0 [(0, .ref (gad G 10)), (1, .ref (gad G c1))] [] σ := by
  unfold F_X2_rightCount_0 at h
  refine a_aload_n ho dX2_rightCount_0 rfl rfl 0 rfl ?_
  refine a_aload_n ho dX2_rightCount_1 rfl rfl 1 rfl ?_
  obtain ⟨r2, hq2, h⟩ := ob_el h
  refine a_callVi ho vy_X2_rightSet ml_X2_113 o_10 (C_X2_rightSet hc1 hq2) rfl rfl (by decide) (Nat.le_of_ble_eq_true rfl) dX2_rightCount_2 rfl ?_
  refine a_callSi ho vy_J6_bitCount_0f7a4 ml_X2_117 (C_J6_bitCount_0f7a4 r2) rfl rfl (by decide) (Nat.le_of_ble_eq_true rfl) dX2_rightCount_5 rfl ?_
  exact a_iret ho dX2_rightCount_8 (rI hr0 (ro_el h)) hs0
theorem C_X2_rightCount {l : Launch} {X : gX} {σ : gS} {r0 : Int32} {c1 : Nat} (hc1 : isI c1 8) (h : F_X2_rightCount_0 c1 σ = some r0) : gCt l X yX2_rightCount (.code yX2_rightCount cX2_rightCount 2 (some .int)) 5 [.ref (X.2.2.1 10), .ref (X.2.2.1 c1)] σ (some (.int r0)) σ :=
  gCt_of cX2_rightCount (by decide) (Nat.le_of_ble_eq_true rfl) (fun G hl hX hv hs ho => by subst hl; subst hX; exact a_sub [0, 1] rfl (T_X2_rightCount_0 ho hv hs hc1 h))
theorem T_X1_draw_27 {G : gM} (ho : gOk G "WaxCloth$Chances" cX1_draw 6 none 8) (hr0 : gv0 G = none) {σ0 : gS} (hs0 : gs0 G = σ0) : ∀ (n : Nat) (x2 : Int32) (x4 : Int64) (x6 : Int32) (σ : gS), F_X1_draw_27 n x2 x4 x6 σ = some σ0 → gAt G 27 [(0, .ref (gad G 77)), (1, .ref (gad G 10)), (2, .int x2), (4, .long x4), (6, .int x6)] [] σ := by
  intro n
  induction n with
  | zero => intro x2 x4 x6 σ h; cases h
  | succ n ih =>
    intro x2 x4 x6 σ h
    unfold F_X1_draw_27 at h
    refine a_iload ho dX1_draw_27 rfl 4 rfl ?_
    refine a_iload_n ho dX1_draw_29 rfl rfl 2 rfl ?_
    refine a_icmp_ge (tgt := 102) ho dX1_draw_30 rfl rfl (fun hc30 => ?_) (fun hc30 => ?_)
    · replace h := if_t hc30 h
      refine a_aload_n ho dX1_draw_102 rfl rfl 0 rfl ?_
      refine a_aload_n ho dX1_draw_103 rfl rfl 1 rfl ?_
      refine a_aload_n ho dX1_draw_104 rfl rfl 0 rfl ?_
      refine a_getR ho fl_X1_17 o_77 fr_1_5 dX1_draw_105 rfl ?_
      obtain ⟨r108, hq108, h⟩ := ob_el h
      refine a_callVi ho vy_X2_darknessOf ml_X1_83 o_10 (C_X2_darknessOf i_79 hq108) rfl rfl (by decide) (Nat.le_of_ble_eq_true rfl) dX1_draw_108 rfl ?_
      refine a_putI ho fp_X1_86 o_77 (ff_1_2 _ o_77) dX1_draw_111 rfl ?_
      obtain ⟨σ111, hs111, h⟩ := bd_el h
      refine a_nmS hs111 ?_
      exact a_vret ho dX1_draw_114 hr0 (rS hs0 (ro_el h))
    · replace h := if_f hc30 h
      refine a_ldc2 ho dX1_draw_33 rfl kk_X1_62 ?_
      refine a_lload ho dX1_draw_36 rfl 3 rfl ?_
      refine a_lmul ho dX1_draw_38 rfl ?_
      refine a_ldc2 ho dX1_draw_39 rfl kk_X1_64 ?_
      refine a_lrem ho dX1_draw_42 rfl (by decide) ?_
      obtain ⟨x43, hb43, h⟩ := bd_el h
      refine a_nmL hb43 ?_
      refine a_lstore (L' := [(4, .long x43), (0, .ref (gad G 77)), (1, .ref (gad G 10)), (2, .int x2), (6, .int x6)]) ho dX1_draw_43 rfl (by decide) rfl ?_
      refine a_lload ho dX1_draw_45 rfl 0 rfl ?_
      refine a_ldc2 ho dX1_draw_47 rfl kk_X1_66 ?_
      refine a_ldiv ho dX1_draw_50 rfl (by decide) ?_
      refine a_aload_n ho dX1_draw_51 rfl rfl 2 rfl ?_
      refine a_callVi ho vy_X2_doingCount ml_X1_68 o_10 (C_X2_doingCount) rfl rfl (by decide) (Nat.le_of_ble_eq_true rfl) dX1_draw_52 rfl ?_
      refine a_i2l ho dX1_draw_55 rfl ?_
      obtain ⟨hk56, h⟩ := ck_el h
      refine a_lrem ho dX1_draw_56 rfl hk56 ?_
      refine a_l2i ho dX1_draw_57 rfl ?_
      obtain ⟨x58, hb58, h⟩ := bd_el h
      refine a_nmI hb58 ?_
      refine a_istore (L' := [(7, .int x58), (4, .long x43), (0, .ref (gad G 77)), (1, .ref (gad G 10)), (2, .int x2), (6, .int x6)]) ho dX1_draw_58 rfl (by decide) rfl ?_
      refine a_aload_n ho dX1_draw_60 rfl rfl 3 rfl ?_
      refine a_aload_n ho dX1_draw_61 rfl rfl 3 rfl ?_
      refine a_iload ho dX1_draw_62 rfl 0 rfl ?_
      refine a_callVi ho vy_X2_nthDoing ml_X1_72 o_10 (C_X2_nthDoing x58) rfl rfl (by decide) (Nat.le_of_ble_eq_true rfl) dX1_draw_64 rfl ?_
      refine a_aload_n ho dX1_draw_67 rfl rfl 2 rfl ?_
      refine a_getR ho fl_X1_17 o_77 fr_1_5 dX1_draw_68 rfl ?_
      refine a_aload_n ho dX1_draw_71 rfl rfl 2 rfl ?_
      refine a_getR ho fl_X1_17 o_77 fr_1_5 dX1_draw_72 rfl ?_
      obtain ⟨r75, σ75, hq75, h⟩ := ob2_el h
      refine a_callVi ho vy_X2_apply ml_X1_75 o_10 (C_X2_apply i_79 i_79 hq75) rfl rfl (by decide) (Nat.le_of_ble_eq_true rfl) dX1_draw_75 rfl ?_
      refine a_pop ho dX1_draw_78 rfl rfl ?_
      refine a_aload_n ho dX1_draw_79 rfl rfl 2 rfl ?_
      refine a_dup ho dX1_draw_80 rfl rfl ?_
      refine a_getI ho fl_X1_59 o_77 (ff_1_3 _ o_77) dX1_draw_81 rfl ?_
      refine a_aload_n ho dX1_draw_84 rfl rfl 3 rfl ?_
      refine a_aload_n ho dX1_draw_85 rfl rfl 2 rfl ?_
      refine a_getR ho fl_X1_17 o_77 fr_1_5 dX1_draw_86 rfl ?_
      obtain ⟨r89, hq89, h⟩ := ob_el h
      refine a_callVi ho vy_X2_rightCount ml_X1_79 o_10 (C_X2_rightCount i_79 hq89) rfl rfl (by decide) (Nat.le_of_ble_eq_true rfl) dX1_draw_89 rfl ?_
      refine a_iadd ho dX1_draw_92 rfl ?_
      refine a_putI ho fp_X1_59 o_77 (ff_1_3 _ o_77) dX1_draw_93 rfl ?_
      obtain ⟨σ93, hs93, h⟩ := bd_el h
      refine a_nmS hs93 ?_
      obtain ⟨x96, hb96, h⟩ := bd_el h
      refine a_iinc (L' := [(6, .int x96), (7, .int x58), (4, .long x43), (0, .ref (gad G 77)), (1, .ref (gad G 10)), (2, .int x2)]) ho dX1_draw_96 rfl 5 rfl hb96 (by decide) rfl ?_
      refine a_goto (tgt := 27) ho dX1_draw_99 rfl ?_
      exact a_sub [3, 4, 5, 2, 0] rfl (ih _ _ _ _ h)
theorem T_X1_draw_0 {G : gM} (ho : gOk G "WaxCloth$Chances" cX1_draw 6 none 8) (hr0 : gv0 G = none) {σ0 : gS} (hs0 : gs0 G = σ0) {x2 : Int32} {x3 : Int32} {σ : gS} (h : F_X1_draw_0 x2 x3 σ = some σ0) : gAt G 0 [(0, .ref (gad G 77)), (1, .ref (gad G 10)), (2, .int x2), (3, .int x3)] [] σ := by
  unfold F_X1_draw_0 at h
  refine a_aload_n ho dX1_draw_0 rfl rfl 1 rfl ?_
  refine a_getR (q := 13) ho fl_X1_24 o_10 (fr_2_6 _ o_10) dX1_draw_1 rfl ?_
  refine a_iconst (v := 0) ho dX1_draw_4 rfl (by decide) ?_
  refine a_aload_n ho dX1_draw_5 rfl rfl 0 rfl ?_
  refine a_getR ho fl_X1_17 o_77 fr_1_5 dX1_draw_6 rfl ?_
  refine a_iconst (v := 0) ho dX1_draw_9 rfl (by decide) ?_
  refine a_bipush (v := 8) ho dX1_draw_10 rfl (by decide) ?_
  obtain ⟨hk12, h⟩ := ck_el h
  refine a_cpyI ho cp_X1_53 (by decide) i_13 i_79 hk12 (Nat.le_of_ble_eq_true rfl) dX1_draw_12 rfl ?_
  obtain ⟨σ12, hs12, h⟩ := bd_el h
  refine a_nmS hs12 ?_
  refine a_aload_n ho dX1_draw_15 rfl rfl 0 rfl ?_
  refine a_iconst (v := 0) ho dX1_draw_16 rfl (by decide) ?_
  refine a_putI ho fp_X1_59 o_77 (ff_1_3 _ o_77) dX1_draw_17 rfl ?_
  obtain ⟨σ17, hs17, h⟩ := bd_el h
  refine a_nmS hs17 ?_
  refine a_iload_n ho dX1_draw_20 rfl rfl 3 rfl ?_
  refine a_i2l ho dX1_draw_21 rfl ?_
  obtain ⟨x22, hb22, h⟩ := bd_el h
  refine a_nmL hb22 ?_
  refine a_lstore (L' := [(4, .long x22), (0, .ref (gad G 77)), (1, .ref (gad G 10)), (2, .int x2), (3, .int x3)]) ho dX1_draw_22 rfl (by decide) rfl ?_
  refine a_iconst (v := 0) ho dX1_draw_24 rfl (by decide) ?_
  refine a_istore (L' := [(6, .int 0), (4, .long x22), (0, .ref (gad G 77)), (1, .ref (gad G 10)), (2, .int x2), (3, .int x3)]) ho dX1_draw_25 rfl (by decide) rfl ?_
  exact a_sub [2, 3, 4, 1, 0] rfl (T_X1_draw_27 ho hr0 hs0 _ _ _ _ _ h)
theorem C_X1_draw {l : Launch} {X : gX} {σ σ0 : gS} {a2 : Int32} {a3 : Int32} (h : F_X1_draw_0 a2 a3 σ = some σ0) : gCt l X yX1_draw (.code yX1_draw cX1_draw 8 none) 6 [.ref (X.2.2.1 77), .ref (X.2.2.1 10), .int a2, .int a3] σ (none) σ0 :=
  gCt_of cX1_draw (by decide) (Nat.le_of_ble_eq_true rfl) (fun G hl hX hv hs ho => by subst hl; subst hX; exact a_sub [0, 1, 2, 3] rfl (T_X1_draw_0 ho hv hs h))
theorem T_X2_stands_0 {G : gM} (ho : gOk G "WaxCloth$Cloth" cX2_stands 1 (some .boolean) 1) {r0 : Int32} (hr0 : gv0 G = some (.int r0)) {σ : gS} (hs0 : gs0 G = σ) {c0 : Nat} (hc0 : isO c0 2) (h : F_X2_stands_0 c0 σ = r0) : gAt G 0 [(0, .ref (gad G c0))] [] σ := by
  unfold F_X2_stands_0 at h
  refine a_aload_n ho dX2_stands_0 rfl rfl 0 rfl ?_
  refine a_getI ho fl_X2_27 hc0 (ff_2_0 _ hc0) dX2_stands_1 rfl ?_
  refine a_if_le (tgt := 11) ho dX2_stands_4 rfl rfl (fun hc4 => ?_) (fun hc4 => ?_)
  · replace h := if_t hc4 h
    refine a_iconst (v := 0) ho dX2_stands_11 rfl (by decide) ?_
    exact a_zret ho dX2_stands_12 rfl (rI hr0 h) hs0
  · replace h := if_f hc4 h
    refine a_iconst (v := 1) ho dX2_stands_7 rfl (by decide) ?_
    refine a_goto (tgt := 12) ho dX2_stands_8 rfl ?_
    exact a_zret ho dX2_stands_12 rfl (rI hr0 h) hs0
theorem C_X2_stands {l : Launch} {X : gX} {σ : gS} {c0 : Nat} (hc0 : isO c0 2) : gCt l X yX2_stands (.code yX2_stands cX2_stands 1 (some .boolean)) 1 [.ref (X.2.2.1 c0)] σ (some (.int (F_X2_stands_0 c0 σ))) σ :=
  gCt_of cX2_stands (by decide) (Nat.le_of_ble_eq_true rfl) (fun G hl hX hv hs ho => by subst hl; subst hX; exact a_sub [0] rfl (T_X2_stands_0 ho hv hs hc0 rfl))
theorem T_X2_become_0 {G : gM} (ho : gOk G "WaxCloth$Cloth" cX2_become 1 none 2) (hr0 : gv0 G = none) {σ0 : gS} (hs0 : gs0 G = σ0) {c0 : Nat} {c1 : Nat} (hc0 : isO c0 2) (hc1 : isO c1 2) {σ : gS} (h : F_X2_become_0 c0 c1 σ = some σ0) : gAt G 0 [(0, .ref (gad G c0)), (1, .ref (gad G c1))] [] σ := by
  unfold F_X2_become_0 at h
  refine a_aload_n ho dX2_become_0 rfl rfl 0 rfl ?_
  refine a_aload_n ho dX2_become_1 rfl rfl 1 rfl ?_
  refine a_getI ho fl_X2_27 hc1 (ff_2_0 _ hc1) dX2_become_2 rfl ?_
  refine a_putI ho fp_X2_27 hc0 (ff_2_0 _ hc0) dX2_become_5 rfl ?_
  obtain ⟨σ5, hs5, h⟩ := bd_el h
  refine a_nmS hs5 ?_
  refine a_aload_n ho dX2_become_8 rfl rfl 0 rfl ?_
  refine a_aload_n ho dX2_become_9 rfl rfl 1 rfl ?_
  refine a_getI ho fl_X2_31 hc1 (ff_2_1 _ hc1) dX2_become_10 rfl ?_
  refine a_putI ho fp_X2_31 hc0 (ff_2_1 _ hc0) dX2_become_13 rfl ?_
  obtain ⟨σ13, hs13, h⟩ := bd_el h
  refine a_nmS hs13 ?_
  refine a_aload_n ho dX2_become_16 rfl rfl 0 rfl ?_
  refine a_aload_n ho dX2_become_17 rfl rfl 1 rfl ?_
  refine a_getI ho fl_X2_34 hc1 (ff_2_2 _ hc1) dX2_become_18 rfl ?_
  refine a_putI ho fp_X2_34 hc0 (ff_2_2 _ hc0) dX2_become_21 rfl ?_
  obtain ⟨σ21, hs21, h⟩ := bd_el h
  refine a_nmS hs21 ?_
  refine a_aload_n ho dX2_become_24 rfl rfl 0 rfl ?_
  refine a_aload_n ho dX2_become_25 rfl rfl 1 rfl ?_
  refine a_getI ho fl_X2_37 hc1 (ff_2_3 _ hc1) dX2_become_26 rfl ?_
  refine a_putI ho fp_X2_37 hc0 (ff_2_3 _ hc0) dX2_become_29 rfl ?_
  obtain ⟨σ29, hs29, h⟩ := bd_el h
  refine a_nmS hs29 ?_
  refine a_aload_n ho dX2_become_32 rfl rfl 1 rfl ?_
  refine a_getR ho fl_X2_9 hc1 (fr_2_4 _ hc1) dX2_become_33 rfl ?_
  refine a_iconst (v := 0) ho dX2_become_36 rfl (by decide) ?_
  refine a_aload_n ho dX2_become_37 rfl rfl 0 rfl ?_
  refine a_getR ho fl_X2_9 hc0 (fr_2_4 _ hc0) dX2_become_38 rfl ?_
  refine a_iconst (v := 0) ho dX2_become_41 rfl (by decide) ?_
  refine a_bipush (v := 8) ho dX2_become_42 rfl (by decide) ?_
  obtain ⟨hk44, h⟩ := ck_el h
  refine a_cpyI ho cp_X2_40 (by decide) (fa_2_4 _ hc1) (fa_2_4 _ hc0) hk44 (Nat.le_of_ble_eq_true rfl) dX2_become_44 rfl ?_
  obtain ⟨σ44, hs44, h⟩ := bd_el h
  refine a_nmS hs44 ?_
  refine a_aload_n ho dX2_become_47 rfl rfl 1 rfl ?_
  refine a_getR ho fl_X2_13 hc1 (fr_2_5 _ hc1) dX2_become_48 rfl ?_
  refine a_iconst (v := 0) ho dX2_become_51 rfl (by decide) ?_
  refine a_aload_n ho dX2_become_52 rfl rfl 0 rfl ?_
  refine a_getR ho fl_X2_13 hc0 (fr_2_5 _ hc0) dX2_become_53 rfl ?_
  refine a_iconst (v := 0) ho dX2_become_56 rfl (by decide) ?_
  refine a_bipush (v := 8) ho dX2_become_57 rfl (by decide) ?_
  obtain ⟨hk59, h⟩ := ck_el h
  refine a_cpyI ho cp_X2_40 (by decide) (fa_2_5 _ hc1) (fa_2_5 _ hc0) hk59 (Nat.le_of_ble_eq_true rfl) dX2_become_59 rfl ?_
  obtain ⟨σ59, hs59, h⟩ := bd_el h
  refine a_nmS hs59 ?_
  refine a_aload_n ho dX2_become_62 rfl rfl 1 rfl ?_
  refine a_getR ho fl_X2_16 hc1 (fr_2_6 _ hc1) dX2_become_63 rfl ?_
  refine a_iconst (v := 0) ho dX2_become_66 rfl (by decide) ?_
  refine a_aload_n ho dX2_become_67 rfl rfl 0 rfl ?_
  refine a_getR ho fl_X2_16 hc0 (fr_2_6 _ hc0) dX2_become_68 rfl ?_
  refine a_iconst (v := 0) ho dX2_become_71 rfl (by decide) ?_
  refine a_bipush (v := 8) ho dX2_become_72 rfl (by decide) ?_
  obtain ⟨hk74, h⟩ := ck_el h
  refine a_cpyI ho cp_X2_40 (by decide) (fa_2_6 _ hc1) (fa_2_6 _ hc0) hk74 (Nat.le_of_ble_eq_true rfl) dX2_become_74 rfl ?_
  obtain ⟨σ74, hs74, h⟩ := bd_el h
  refine a_nmS hs74 ?_
  refine a_aload_n ho dX2_become_77 rfl rfl 1 rfl ?_
  refine a_getR ho fl_X2_21 hc1 (fr_2_7 _ hc1) dX2_become_78 rfl ?_
  refine a_iconst (v := 0) ho dX2_become_81 rfl (by decide) ?_
  refine a_aload_n ho dX2_become_82 rfl rfl 0 rfl ?_
  refine a_getR ho fl_X2_21 hc0 (fr_2_7 _ hc0) dX2_become_83 rfl ?_
  refine a_iconst (v := 0) ho dX2_become_86 rfl (by decide) ?_
  refine a_bipush (v := 12) ho dX2_become_87 rfl (by decide) ?_
  obtain ⟨hk89, h⟩ := ck_el h
  refine a_cpyI ho cp_X2_40 (by decide) (fa_2_7 _ hc1) (fa_2_7 _ hc0) hk89 (Nat.le_of_ble_eq_true rfl) dX2_become_89 rfl ?_
  obtain ⟨σ89, hs89, h⟩ := bd_el h
  refine a_nmS hs89 ?_
  refine a_aload_n ho dX2_become_92 rfl rfl 1 rfl ?_
  refine a_getR ho fl_X2_24 hc1 (fr_2_8 _ hc1) dX2_become_93 rfl ?_
  refine a_iconst (v := 0) ho dX2_become_96 rfl (by decide) ?_
  refine a_aload_n ho dX2_become_97 rfl rfl 0 rfl ?_
  refine a_getR ho fl_X2_24 hc0 (fr_2_8 _ hc0) dX2_become_98 rfl ?_
  refine a_iconst (v := 0) ho dX2_become_101 rfl (by decide) ?_
  refine a_iconst (v := 3) ho dX2_become_102 rfl (by decide) ?_
  obtain ⟨hk103, h⟩ := ck_el h
  refine a_cpyI ho cp_X2_40 (by decide) (fa_2_8 _ hc1) (fa_2_8 _ hc0) hk103 (Nat.le_of_ble_eq_true rfl) dX2_become_103 rfl ?_
  obtain ⟨σ103, hs103, h⟩ := bd_el h
  refine a_nmS hs103 ?_
  exact a_vret ho dX2_become_106 hr0 (rS hs0 (ro_el h))
theorem C_X2_become {l : Launch} {X : gX} {σ σ0 : gS} {c0 : Nat} {c1 : Nat} (hc0 : isO c0 2) (hc1 : isO c1 2) (h : F_X2_become_0 c0 c1 σ = some σ0) : gCt l X yX2_become (.code yX2_become cX2_become 2 none) 1 [.ref (X.2.2.1 c0), .ref (X.2.2.1 c1)] σ (none) σ0 :=
  gCt_of cX2_become (by decide) (Nat.le_of_ble_eq_true rfl) (fun G hl hX hv hs ho => by subst hl; subst hX; exact a_sub [0, 1] rfl (T_X2_become_0 ho hv hs hc0 hc1 h))
theorem T_X2_hasSquare_0 {G : gM} (ho : gOk G "WaxCloth$Cloth" cX2_hasSquare 1 (some .boolean) 2) {r0 : Int32} (hr0 : gv0 G = some (.int r0)) {σ : gS} (hs0 : gs0 G = σ) {x1 : Int32} (h : F_X2_hasSquare_0 x1 σ = r0) : gAt G 0 [(0, .ref (gad G 10)), (1, .int x1)] [] σ := by
  unfold F_X2_hasSquare_0 at h
  refine a_iload_n ho dX2_hasSquare_0 rfl rfl 1 rfl ?_
  refine a_if_lt (tgt := 16) ho dX2_hasSquare_1 rfl rfl (fun hc1 => ?_) (fun hc1 => ?_)
  · replace h := if_t hc1 h
    refine a_iconst (v := 0) ho dX2_hasSquare_16 rfl (by decide) ?_
    exact a_zret ho dX2_hasSquare_17 rfl (rI hr0 h) hs0
  · replace h := if_f hc1 h
    refine a_iload_n ho dX2_hasSquare_4 rfl rfl 1 rfl ?_
    refine a_aload_n ho dX2_hasSquare_5 rfl rfl 0 rfl ?_
    refine a_getI ho fl_X2_27 o_10 (ff_2_0 _ o_10) dX2_hasSquare_6 rfl ?_
    refine a_icmp_ge (tgt := 16) ho dX2_hasSquare_9 rfl rfl (fun hc9 => ?_) (fun hc9 => ?_)
    · replace h := if_t hc9 h
      refine a_iconst (v := 0) ho dX2_hasSquare_16 rfl (by decide) ?_
      exact a_zret ho dX2_hasSquare_17 rfl (rI hr0 h) hs0
    · replace h := if_f hc9 h
      refine a_iconst (v := 1) ho dX2_hasSquare_12 rfl (by decide) ?_
      refine a_goto (tgt := 17) ho dX2_hasSquare_13 rfl ?_
      exact a_zret ho dX2_hasSquare_17 rfl (rI hr0 h) hs0
theorem C_X2_hasSquare {l : Launch} {X : gX} {σ : gS} (a1 : Int32) : gCt l X yX2_hasSquare (.code yX2_hasSquare cX2_hasSquare 2 (some .boolean)) 1 [.ref (X.2.2.1 10), .int a1] σ (some (.int (F_X2_hasSquare_0 a1 σ))) σ :=
  gCt_of cX2_hasSquare (by decide) (Nat.le_of_ble_eq_true rfl) (fun G hl hX hv hs ho => by subst hl; subst hX; exact a_sub [0, 1] rfl (T_X2_hasSquare_0 ho hv hs rfl))
theorem T_X2_hasDye_0 {G : gM} (ho : gOk G "WaxCloth$Cloth" cX2_hasDye 1 (some .boolean) 2) {r0 : Int32} (hr0 : gv0 G = some (.int r0)) {σ : gS} (hs0 : gs0 G = σ) {x1 : Int32} (h : F_X2_hasDye_0 x1 σ = r0) : gAt G 0 [(0, .ref (gad G 10)), (1, .int x1)] [] σ := by
  unfold F_X2_hasDye_0 at h
  refine a_iload_n ho dX2_hasDye_0 rfl rfl 1 rfl ?_
  refine a_if_lt (tgt := 16) ho dX2_hasDye_1 rfl rfl (fun hc1 => ?_) (fun hc1 => ?_)
  · replace h := if_t hc1 h
    refine a_iconst (v := 0) ho dX2_hasDye_16 rfl (by decide) ?_
    exact a_zret ho dX2_hasDye_17 rfl (rI hr0 h) hs0
  · replace h := if_f hc1 h
    refine a_iload_n ho dX2_hasDye_4 rfl rfl 1 rfl ?_
    refine a_aload_n ho dX2_hasDye_5 rfl rfl 0 rfl ?_
    refine a_getI ho fl_X2_31 o_10 (ff_2_1 _ o_10) dX2_hasDye_6 rfl ?_
    refine a_icmp_ge (tgt := 16) ho dX2_hasDye_9 rfl rfl (fun hc9 => ?_) (fun hc9 => ?_)
    · replace h := if_t hc9 h
      refine a_iconst (v := 0) ho dX2_hasDye_16 rfl (by decide) ?_
      exact a_zret ho dX2_hasDye_17 rfl (rI hr0 h) hs0
    · replace h := if_f hc9 h
      refine a_iconst (v := 1) ho dX2_hasDye_12 rfl (by decide) ?_
      refine a_goto (tgt := 17) ho dX2_hasDye_13 rfl ?_
      exact a_zret ho dX2_hasDye_17 rfl (rI hr0 h) hs0
theorem C_X2_hasDye {l : Launch} {X : gX} {σ : gS} (a1 : Int32) : gCt l X yX2_hasDye (.code yX2_hasDye cX2_hasDye 2 (some .boolean)) 1 [.ref (X.2.2.1 10), .int a1] σ (some (.int (F_X2_hasDye_0 a1 σ))) σ :=
  gCt_of cX2_hasDye (by decide) (Nat.le_of_ble_eq_true rfl) (fun G hl hX hv hs ho => by subst hl; subst hX; exact a_sub [0, 1] rfl (T_X2_hasDye_0 ho hv hs rfl))
theorem T_X2_hasStencil_0 {G : gM} (ho : gOk G "WaxCloth$Cloth" cX2_hasStencil 1 (some .boolean) 2) {r0 : Int32} (hr0 : gv0 G = some (.int r0)) {σ : gS} (hs0 : gs0 G = σ) {x1 : Int32} (h : F_X2_hasStencil_0 x1 σ = r0) : gAt G 0 [(0, .ref (gad G 10)), (1, .int x1)] [] σ := by
  unfold F_X2_hasStencil_0 at h
  refine a_iload_n ho dX2_hasStencil_0 rfl rfl 1 rfl ?_
  refine a_if_lt (tgt := 16) ho dX2_hasStencil_1 rfl rfl (fun hc1 => ?_) (fun hc1 => ?_)
  · replace h := if_t hc1 h
    refine a_iconst (v := 0) ho dX2_hasStencil_16 rfl (by decide) ?_
    exact a_zret ho dX2_hasStencil_17 rfl (rI hr0 h) hs0
  · replace h := if_f hc1 h
    refine a_iload_n ho dX2_hasStencil_4 rfl rfl 1 rfl ?_
    refine a_aload_n ho dX2_hasStencil_5 rfl rfl 0 rfl ?_
    refine a_getI ho fl_X2_34 o_10 (ff_2_2 _ o_10) dX2_hasStencil_6 rfl ?_
    refine a_icmp_ge (tgt := 16) ho dX2_hasStencil_9 rfl rfl (fun hc9 => ?_) (fun hc9 => ?_)
    · replace h := if_t hc9 h
      refine a_iconst (v := 0) ho dX2_hasStencil_16 rfl (by decide) ?_
      exact a_zret ho dX2_hasStencil_17 rfl (rI hr0 h) hs0
    · replace h := if_f hc9 h
      refine a_iconst (v := 1) ho dX2_hasStencil_12 rfl (by decide) ?_
      refine a_goto (tgt := 17) ho dX2_hasStencil_13 rfl ?_
      exact a_zret ho dX2_hasStencil_17 rfl (rI hr0 h) hs0
theorem C_X2_hasStencil {l : Launch} {X : gX} {σ : gS} (a1 : Int32) : gCt l X yX2_hasStencil (.code yX2_hasStencil cX2_hasStencil 2 (some .boolean)) 1 [.ref (X.2.2.1 10), .int a1] σ (some (.int (F_X2_hasStencil_0 a1 σ))) σ :=
  gCt_of cX2_hasStencil (by decide) (Nat.le_of_ble_eq_true rfl) (fun G hl hX hv hs ho => by subst hl; subst hX; exact a_sub [0, 1] rfl (T_X2_hasStencil_0 ho hv hs rfl))
theorem T_X2_hasDoing_62 {G : gM} (ho : gOk G "WaxCloth$Cloth" cX2_hasDoing 2 (some .boolean) 3) {r0 : Int32} (hr0 : gv0 G = some (.int r0)) {σ : gS} (hs0 : gs0 G = σ) (h : F_X2_hasDoing_62 σ = r0) : gAt G 62 [] [] σ := by
  unfold F_X2_hasDoing_62 at h
  refine a_iconst (v := 1) ho dX2_hasDoing_62 rfl (by decide) ?_
  refine a_goto (tgt := 67) ho dX2_hasDoing_63 rfl ?_
  exact a_zret ho dX2_hasDoing_67 rfl (rI hr0 h) hs0
theorem T_X2_hasDoing_0 {G : gM} (ho : gOk G "WaxCloth$Cloth" cX2_hasDoing 2 (some .boolean) 3) {r0 : Int32} (hr0 : gv0 G = some (.int r0)) {σ : gS} (hs0 : gs0 G = σ) {x1 : Int64} (h : F_X2_hasDoing_0 x1 σ = r0) : gAt G 0 [(0, .ref (gad G 10)), (1, .long x1)] [] σ := by
  unfold F_X2_hasDoing_0 at h
  refine a_aload_n ho dX2_hasDoing_0 rfl rfl 0 rfl ?_
  refine a_callVi ho vy_X2_stands ml_X2_46 o_10 (C_X2_stands o_10) rfl rfl (by decide) (Nat.le_of_ble_eq_true rfl) dX2_hasDoing_1 rfl ?_
  refine a_if_eq (tgt := 21) ho dX2_hasDoing_4 rfl rfl (fun hc4 => ?_) (fun hc4 => ?_)
  · replace h := if_t hc4 h
    refine a_iconst (v := 0) ho dX2_hasDoing_21 rfl (by decide) ?_
    exact a_zret ho dX2_hasDoing_22 rfl (rI hr0 h) hs0
  · replace h := if_f hc4 h
    refine a_lload_n ho dX2_hasDoing_7 rfl rfl 1 rfl ?_
    refine a_lconst (v := 0) ho dX2_hasDoing_8 rfl (by decide) ?_
    refine a_lcmp ho dX2_hasDoing_9 rfl ?_
    refine a_if_lt (tgt := 21) ho dX2_hasDoing_10 rfl rfl (fun hc10 => ?_) (fun hc10 => ?_)
    · replace h := if_t hc10 h
      refine a_iconst (v := 0) ho dX2_hasDoing_21 rfl (by decide) ?_
      exact a_zret ho dX2_hasDoing_22 rfl (rI hr0 h) hs0
    · replace h := if_f hc10 h
      refine a_lload_n ho dX2_hasDoing_13 rfl rfl 1 rfl ?_
      refine a_ldc2 ho dX2_hasDoing_14 rfl kk_X2_50 ?_
      refine a_lcmp ho dX2_hasDoing_17 rfl ?_
      refine a_if_le (tgt := 23) ho dX2_hasDoing_18 rfl rfl (fun hc18 => ?_) (fun hc18 => ?_)
      · replace h := if_t hc18 h
        refine a_lload_n ho dX2_hasDoing_23 rfl rfl 1 rfl ?_
        refine a_aload_n ho dX2_hasDoing_24 rfl rfl 0 rfl ?_
        refine a_getI ho fl_X2_31 o_10 (ff_2_1 _ o_10) dX2_hasDoing_25 rfl ?_
        refine a_i2l ho dX2_hasDoing_28 rfl ?_
        refine a_lcmp ho dX2_hasDoing_29 rfl ?_
        refine a_if_lt (tgt := 62) ho dX2_hasDoing_30 rfl rfl (fun hc30 => ?_) (fun hc30 => ?_)
        · replace h := if_t hc30 h
          exact a_sub [] rfl (T_X2_hasDoing_62 ho hr0 hs0 h)
        · replace h := if_f hc30 h
          refine a_lload_n ho dX2_hasDoing_33 rfl rfl 1 rfl ?_
          refine a_ldc2 ho dX2_hasDoing_34 rfl kk_X2_52 ?_
          refine a_lcmp ho dX2_hasDoing_37 rfl ?_
          refine a_if_ge (tgt := 62) ho dX2_hasDoing_38 rfl rfl (fun hc38 => ?_) (fun hc38 => ?_)
          · replace h := if_t hc38 h
            exact a_sub [] rfl (T_X2_hasDoing_62 ho hr0 hs0 h)
          · replace h := if_f hc38 h
            refine a_lload_n ho dX2_hasDoing_41 rfl rfl 1 rfl ?_
            refine a_ldc2 ho dX2_hasDoing_42 rfl kk_X2_54 ?_
            refine a_lcmp ho dX2_hasDoing_45 rfl ?_
            refine a_if_lt (tgt := 66) ho dX2_hasDoing_46 rfl rfl (fun hc46 => ?_) (fun hc46 => ?_)
            · replace h := if_t hc46 h
              refine a_iconst (v := 0) ho dX2_hasDoing_66 rfl (by decide) ?_
              exact a_zret ho dX2_hasDoing_67 rfl (rI hr0 h) hs0
            · replace h := if_f hc46 h
              refine a_lload_n ho dX2_hasDoing_49 rfl rfl 1 rfl ?_
              refine a_bipush (v := 10) ho dX2_hasDoing_50 rfl (by decide) ?_
              refine a_aload_n ho dX2_hasDoing_52 rfl rfl 0 rfl ?_
              refine a_getI ho fl_X2_34 o_10 (ff_2_2 _ o_10) dX2_hasDoing_53 rfl ?_
              refine a_iadd ho dX2_hasDoing_56 rfl ?_
              refine a_i2l ho dX2_hasDoing_57 rfl ?_
              refine a_lcmp ho dX2_hasDoing_58 rfl ?_
              refine a_if_ge (tgt := 66) ho dX2_hasDoing_59 rfl rfl (fun hc59 => ?_) (fun hc59 => ?_)
              · replace h := if_t hc59 h
                refine a_iconst (v := 0) ho dX2_hasDoing_66 rfl (by decide) ?_
                exact a_zret ho dX2_hasDoing_67 rfl (rI hr0 h) hs0
              · replace h := if_f hc59 h
                exact a_sub [] rfl (T_X2_hasDoing_62 ho hr0 hs0 h)
      · replace h := if_f hc18 h
        refine a_iconst (v := 0) ho dX2_hasDoing_21 rfl (by decide) ?_
        exact a_zret ho dX2_hasDoing_22 rfl (rI hr0 h) hs0
theorem C_X2_hasDoing {l : Launch} {X : gX} {σ : gS} (a1 : Int64) : gCt l X yX2_hasDoing (.code yX2_hasDoing cX2_hasDoing 3 (some .boolean)) 2 [.ref (X.2.2.1 10), .long a1] σ (some (.int (F_X2_hasDoing_0 a1 σ))) σ :=
  gCt_of cX2_hasDoing (by decide) (Nat.le_of_ble_eq_true rfl) (fun G hl hX hv hs ho => by subst hl; subst hX; exact a_sub [0, 1] rfl (T_X2_hasDoing_0 ho hv hs rfl))
theorem T_X2_afterRow_6 {G : gM} (ho : gOk G "WaxCloth$Cloth" cX2_afterRow 5 (some .int) 7) {r0 : Int32} (hr0 : gv0 G = some (.int r0)) {σ : gS} (hs0 : gs0 G = σ) {c3 : Nat} (hc3 : isI c3 20) : ∀ (n : Nat) (x1 : Int32) (x4 : Int32) (x5 : Int32) (x6 : Int32), F_X2_afterRow_6 c3 n x1 x4 x5 x6 σ = some r0 → gAt G 6 [(0, .ref (gad G 10)), (1, .int x1), (3, .ref (gad G c3)), (4, .int x4), (5, .int x5), (6, .int x6)] [] σ := by
  intro n
  induction n with
  | zero => intro x1 x4 x5 x6 h; cases h
  | succ n ih =>
    intro x1 x4 x5 x6 h
    unfold F_X2_afterRow_6 at h
    refine a_iload ho dX2_afterRow_6 rfl 5 rfl ?_
    refine a_iload ho dX2_afterRow_8 rfl 3 rfl ?_
    refine a_icmp_ge (tgt := 32) ho dX2_afterRow_10 rfl rfl (fun hc10 => ?_) (fun hc10 => ?_)
    · replace h := if_t hc10 h
      refine a_iload ho dX2_afterRow_32 rfl 4 rfl ?_
      exact a_iret ho dX2_afterRow_34 (rI hr0 (ro_el h)) hs0
    · replace h := if_f hc10 h
      refine a_aload_n ho dX2_afterRow_13 rfl rfl 0 rfl ?_
      refine a_iload_n ho dX2_afterRow_14 rfl rfl 1 rfl ?_
      refine a_iload ho dX2_afterRow_15 rfl 4 rfl ?_
      refine a_aload_n ho dX2_afterRow_17 rfl rfl 2 rfl ?_
      refine a_iload ho dX2_afterRow_18 rfl 5 rfl ?_
      obtain ⟨hk20, h⟩ := ck_el h
      refine a_iald ho hc3 hk20 dX2_afterRow_20 rfl ?_
      obtain ⟨r21, hq21, h⟩ := ob_el h
      refine a_callVi ho vy_X2_after ml_X2_103 o_10 (C_X2_after hq21) rfl rfl (by decide) (Nat.le_of_ble_eq_true rfl) dX2_afterRow_21 rfl ?_
      refine a_istore (L' := [(5, .int r21), (0, .ref (gad G 10)), (1, .int x1), (3, .ref (gad G c3)), (4, .int x4), (6, .int x6)]) ho dX2_afterRow_24 rfl (by decide) rfl ?_
      obtain ⟨x26, hb26, h⟩ := bd_el h
      refine a_iinc (L' := [(6, .int x26), (5, .int r21), (0, .ref (gad G 10)), (1, .int x1), (3, .ref (gad G c3)), (4, .int x4)]) ho dX2_afterRow_26 rfl 5 rfl hb26 (by decide) rfl ?_
      refine a_goto (tgt := 6) ho dX2_afterRow_29 rfl ?_
      exact a_sub [2, 3, 4, 5, 1, 0] rfl (ih _ _ _ _ h)
theorem T_X2_afterRow_0 {G : gM} (ho : gOk G "WaxCloth$Cloth" cX2_afterRow 5 (some .int) 7) {r0 : Int32} (hr0 : gv0 G = some (.int r0)) {σ : gS} (hs0 : gs0 G = σ) {c3 : Nat} (hc3 : isI c3 20) {x1 : Int32} {x2 : Int32} {x4 : Int32} (h : F_X2_afterRow_0 c3 x1 x2 x4 σ = some r0) : gAt G 0 [(0, .ref (gad G 10)), (1, .int x1), (2, .int x2), (3, .ref (gad G c3)), (4, .int x4)] [] σ := by
  unfold F_X2_afterRow_0 at h
  refine a_iload_n ho dX2_afterRow_0 rfl rfl 2 rfl ?_
  refine a_istore (L' := [(5, .int x2), (0, .ref (gad G 10)), (1, .int x1), (2, .int x2), (3, .ref (gad G c3)), (4, .int x4)]) ho dX2_afterRow_1 rfl (by decide) rfl ?_
  refine a_iconst (v := 0) ho dX2_afterRow_3 rfl (by decide) ?_
  refine a_istore (L' := [(6, .int 0), (5, .int x2), (0, .ref (gad G 10)), (1, .int x1), (2, .int x2), (3, .ref (gad G c3)), (4, .int x4)]) ho dX2_afterRow_4 rfl (by decide) rfl ?_
  exact a_sub [2, 3, 5, 6, 1, 0] rfl (T_X2_afterRow_6 ho hr0 hs0 hc3 _ _ _ _ _ h)
theorem C_X2_afterRow {l : Launch} {X : gX} {σ : gS} {r0 : Int32} {c3 : Nat} (hc3 : isI c3 20) {a1 : Int32} {a2 : Int32} {a4 : Int32} (h : F_X2_afterRow_0 c3 a1 a2 a4 σ = some r0) : gCt l X yX2_afterRow (.code yX2_afterRow cX2_afterRow 7 (some .int)) 5 [.ref (X.2.2.1 10), .int a1, .int a2, .ref (X.2.2.1 c3), .int a4] σ (some (.int r0)) σ :=
  gCt_of cX2_afterRow (by decide) (Nat.le_of_ble_eq_true rfl) (fun G hl hX hv hs ho => by subst hl; subst hX; exact a_sub [0, 1, 2, 3, 4] rfl (T_X2_afterRow_0 ho hv hs hc3 h))
theorem T_X2_waxedSet_30 {G : gM} (ho : gOk G "WaxCloth$Cloth" cX2_waxedSet 2 (some .int) 3) {r0 : Int32} (hr0 : gv0 G = some (.int r0)) {σ : gS} (hs0 : gs0 G = σ) {g4 : Int32 → Int32 → gS → Option Int32} (hg4 : ∀ (x1 : Int32) (x2 : Int32), g4 x1 x2 σ = some r0 → gAt G 4 [(0, .ref (gad G 10)), (1, .int x1), (2, .int x2)] [] σ) {x1 : Int32} {x2 : Int32} (h : F_X2_waxedSet_30 g4 x1 x2 σ = some r0) : gAt G 30 [(0, .ref (gad G 10)), (1, .int x1), (2, .int x2)] [] σ := by
  unfold F_X2_waxedSet_30 at h
  obtain ⟨x30, hb30, h⟩ := bd_el h
  refine a_iinc (L' := [(2, .int x30), (0, .ref (gad G 10)), (1, .int x1)]) ho dX2_waxedSet_30 rfl 2 rfl hb30 (by decide) rfl ?_
  refine a_goto (tgt := 4) ho dX2_waxedSet_33 rfl ?_
  exact a_sub [1, 2, 0] rfl (hg4 _ _ h)
theorem T_X2_waxedSet_4 {G : gM} (ho : gOk G "WaxCloth$Cloth" cX2_waxedSet 2 (some .int) 3) {r0 : Int32} (hr0 : gv0 G = some (.int r0)) {σ : gS} (hs0 : gs0 G = σ) : ∀ (n : Nat) (x1 : Int32) (x2 : Int32), F_X2_waxedSet_4 n x1 x2 σ = some r0 → gAt G 4 [(0, .ref (gad G 10)), (1, .int x1), (2, .int x2)] [] σ := by
  intro n
  induction n with
  | zero => intro x1 x2 h; cases h
  | succ n ih =>
    intro x1 x2 h
    unfold F_X2_waxedSet_4 at h
    refine a_iload_n ho dX2_waxedSet_4 rfl rfl 2 rfl ?_
    refine a_aload_n ho dX2_waxedSet_5 rfl rfl 0 rfl ?_
    refine a_getI ho fl_X2_27 o_10 (ff_2_0 _ o_10) dX2_waxedSet_6 rfl ?_
    refine a_icmp_ge (tgt := 36) ho dX2_waxedSet_9 rfl rfl (fun hc9 => ?_) (fun hc9 => ?_)
    · replace h := if_t hc9 h
      refine a_iload_n ho dX2_waxedSet_36 rfl rfl 1 rfl ?_
      exact a_iret ho dX2_waxedSet_37 (rI hr0 (ro_el h)) hs0
    · replace h := if_f hc9 h
      refine a_aload_n ho dX2_waxedSet_12 rfl rfl 0 rfl ?_
      refine a_getR (q := 13) ho fl_X2_16 o_10 (fr_2_6 _ o_10) dX2_waxedSet_13 rfl ?_
      refine a_iload_n ho dX2_waxedSet_16 rfl rfl 2 rfl ?_
      obtain ⟨hk17, h⟩ := ck_el h
      refine a_iald ho i_13 hk17 dX2_waxedSet_17 rfl ?_
      refine a_callSi ho vy_X9_waxIn ml_X2_74 (C_X9_waxIn (σ.1 13 (Int32.toNatClampNeg x2))) rfl rfl (by decide) (Nat.le_of_ble_eq_true rfl) dX2_waxedSet_18 rfl ?_
      refine a_if_le (tgt := 30) ho dX2_waxedSet_21 rfl rfl (fun hc21 => ?_) (fun hc21 => ?_)
      · replace h := if_t hc21 h
        exact a_sub [0, 1, 2] rfl (T_X2_waxedSet_30 ho hr0 hs0 ih h)
      · replace h := if_f hc21 h
        refine a_iload_n ho dX2_waxedSet_24 rfl rfl 1 rfl ?_
        refine a_iconst (v := 1) ho dX2_waxedSet_25 rfl (by decide) ?_
        refine a_iload_n ho dX2_waxedSet_26 rfl rfl 2 rfl ?_
        refine a_ishl ho dX2_waxedSet_27 rfl ?_
        refine a_ior ho dX2_waxedSet_28 rfl ?_
        obtain ⟨x29, hb29, h⟩ := bd_el h
        refine a_nmI hb29 ?_
        refine a_istore_n (L' := [(1, .int x29), (0, .ref (gad G 10)), (2, .int x2)]) ho dX2_waxedSet_29 rfl rfl (by decide) rfl ?_
        exact a_sub [1, 0, 2] rfl (T_X2_waxedSet_30 ho hr0 hs0 ih h)
theorem T_X2_waxedSet_0 {G : gM} (ho : gOk G "WaxCloth$Cloth" cX2_waxedSet 2 (some .int) 3) {r0 : Int32} (hr0 : gv0 G = some (.int r0)) {σ : gS} (hs0 : gs0 G = σ) (h : F_X2_waxedSet_0 σ = some r0) : gAt G 0 [(0, .ref (gad G 10))] [] σ := by
  unfold F_X2_waxedSet_0 at h
  refine a_iconst (v := 0) ho dX2_waxedSet_0 rfl (by decide) ?_
  refine a_istore_n (L' := [(1, .int 0), (0, .ref (gad G 10))]) ho dX2_waxedSet_1 rfl rfl (by decide) rfl ?_
  refine a_iconst (v := 0) ho dX2_waxedSet_2 rfl (by decide) ?_
  refine a_istore_n (L' := [(2, .int 0), (1, .int 0), (0, .ref (gad G 10))]) ho dX2_waxedSet_3 rfl rfl (by decide) rfl ?_
  exact a_sub [2, 1, 0] rfl (T_X2_waxedSet_4 ho hr0 hs0 _ _ _ h)
theorem C_X2_waxedSet {l : Launch} {X : gX} {σ : gS} {r0 : Int32} (h : F_X2_waxedSet_0 σ = some r0) : gCt l X yX2_waxedSet (.code yX2_waxedSet cX2_waxedSet 3 (some .int)) 2 [.ref (X.2.2.1 10)] σ (some (.int r0)) σ :=
  gCt_of cX2_waxedSet (by decide) (Nat.le_of_ble_eq_true rfl) (fun G hl hX hv hs ho => by subst hl; subst hX; exact a_sub [0] rfl (T_X2_waxedSet_0 ho hv hs h))
theorem T_X3_ofLetter_0 {G : gM} (ho : gOk G "WaxCloth$Kind" cX3_ofLetter 1 (some .int) 1) {r0 : Int32} (hr0 : gv0 G = some (.int r0)) {σ : gS} (hs0 : gs0 G = σ) {x0 : Int32} (h : F_X3_ofLetter_0 x0 = r0) : gAt G 0 [(0, .int x0)] [] σ := by
  unfold F_X3_ofLetter_0 at h
  refine a_iload_n ho dX3_ofLetter_0 rfl rfl 0 rfl ?_
  by_cases hw1_99 : x0 = 99
  · replace h := if_t hw1_99 h
    refine a_look (tgt := 52) (off := 51) ho dX3_ofLetter_1 (by decide) (by rw [hw1_99]; rfl) rfl ?_
    refine a_iconst (v := 1) ho dX3_ofLetter_52 rfl (by decide) ?_
    exact a_iret ho dX3_ofLetter_53 (rI hr0 h) hs0
  replace h := if_f hw1_99 h
  by_cases hw1_102 : x0 = 102
  · replace h := if_t hw1_102 h
    refine a_look (tgt := 60) (off := 59) ho dX3_ofLetter_1 (by decide) (by rw [hw1_102]; rfl) rfl ?_
    refine a_iconst (v := 5) ho dX3_ofLetter_60 rfl (by decide) ?_
    exact a_iret ho dX3_ofLetter_61 (rI hr0 h) hs0
  replace h := if_f hw1_102 h
  by_cases hw1_108 : x0 = 108
  · replace h := if_t hw1_108 h
    refine a_look (tgt := 54) (off := 53) ho dX3_ofLetter_1 (by decide) (by rw [hw1_108]; rfl) rfl ?_
    refine a_iconst (v := 2) ho dX3_ofLetter_54 rfl (by decide) ?_
    exact a_iret ho dX3_ofLetter_55 (rI hr0 h) hs0
  replace h := if_f hw1_108 h
  by_cases hw1_115 : x0 = 115
  · replace h := if_t hw1_115 h
    refine a_look (tgt := 56) (off := 55) ho dX3_ofLetter_1 (by decide) (by rw [hw1_115]; rfl) rfl ?_
    refine a_iconst (v := 3) ho dX3_ofLetter_56 rfl (by decide) ?_
    exact a_iret ho dX3_ofLetter_57 (rI hr0 h) hs0
  replace h := if_f hw1_115 h
  by_cases hw1_119 : x0 = 119
  · replace h := if_t hw1_119 h
    refine a_look (tgt := 58) (off := 57) ho dX3_ofLetter_1 (by decide) (by rw [hw1_119]; rfl) rfl ?_
    refine a_iconst (v := 4) ho dX3_ofLetter_58 rfl (by decide) ?_
    exact a_iret ho dX3_ofLetter_59 (rI hr0 h) hs0
  replace h := if_f hw1_119 h
  refine a_look (tgt := 62) (off := 61) ho dX3_ofLetter_1 (by decide) (by have q99 := (tI hw1_99 (z := 99) rfl).symm; have q102 := (tI hw1_102 (z := 102) rfl).symm; have q108 := (tI hw1_108 (z := 108) rfl).symm; have q115 := (tI hw1_115 (z := 115) rfl).symm; have q119 := (tI hw1_119 (z := 119) rfl).symm; simp [Op.lookupswitch.offset, q99, q102, q108, q115, q119]) rfl ?_
  refine a_iconst (v := 0) ho dX3_ofLetter_62 rfl (by decide) ?_
  exact a_iret ho dX3_ofLetter_63 (rI hr0 h) hs0
theorem C_X3_ofLetter {l : Launch} {X : gX} {σ : gS} (a0 : Int32) : gCt l X yX3_ofLetter (.code yX3_ofLetter cX3_ofLetter 1 (some .int)) 1 [.int a0] σ (some (.int (F_X3_ofLetter_0 a0))) σ :=
  gCt_of cX3_ofLetter (by decide) (Nat.le_of_ble_eq_true rfl) (fun G hl hX hv hs ho => by subst hl; subst hX; exact a_sub [0] rfl (T_X3_ofLetter_0 ho hv hs rfl))
theorem T_X3_isUnder_33 {G : gM} (ho : gOk G "WaxCloth$Kind" cX3_isUnder 1 (some .boolean) 4) {r0 : Int32} (hr0 : gv0 G = some (.int r0)) {σ : gS} (hs0 : gs0 G = σ) {x1 : Int32} {x2 : Int32} (h : F_X3_isUnder_33 x1 x2 σ = some r0) : gAt G 33 [(1, .int x1), (2, .int x2)] [] σ := by
  unfold F_X3_isUnder_33 at h
  refine a_iload_n ho dX3_isUnder_33 rfl rfl 1 rfl ?_
  refine a_iload_n ho dX3_isUnder_34 rfl rfl 0 rfl ?_
  refine a_icmp_ne (tgt := 42) ho dX3_isUnder_35 rfl rfl (fun hc35 => ?_) (fun hc35 => ?_)
  · replace h := if_f hc35 h
    refine a_iconst (v := 0) ho dX3_isUnder_42 rfl (by decide) ?_
    exact a_zret ho dX3_isUnder_43 rfl (rI hr0 (ro_el h)) hs0
  · replace h := if_t hc35 h
    refine a_iconst (v := 1) ho dX3_isUnder_38 rfl (by decide) ?_
    refine a_goto (tgt := 43) ho dX3_isUnder_39 rfl ?_
    exact a_zret ho dX3_isUnder_43 rfl (rI hr0 (ro_el h)) hs0
theorem T_X3_isUnder_4 {G : gM} (ho : gOk G "WaxCloth$Kind" cX3_isUnder 1 (some .boolean) 4) {r0 : Int32} (hr0 : gv0 G = some (.int r0)) {σ : gS} (hs0 : gs0 G = σ) : ∀ (n : Nat) (x1 : Int32) (x2 : Int32) (x3 : Int32), F_X3_isUnder_4 n x1 x2 x3 σ = some r0 → gAt G 4 [(1, .int x1), (2, .int x2), (3, .int x3)] [] σ := by
  intro n
  induction n with
  | zero => intro x1 x2 x3 h; cases h
  | succ n ih =>
    intro x1 x2 x3 h
    unfold F_X3_isUnder_4 at h
    refine a_iload_n ho dX3_isUnder_4 rfl rfl 2 rfl ?_
    refine a_tabG ho (ws_in 429 (by decide +kernel) (by decide +kernel)) dX3_isUnder_5 rfl ?_
    refine a_tabL ho dX3_isUnder_8 rfl ?_
    refine a_icmp_ge (tgt := 33) ho dX3_isUnder_9 rfl rfl (fun hc9 => ?_) (fun hc9 => ?_)
    · replace h := if_t hc9 h
      exact a_sub [0, 1] rfl (T_X3_isUnder_33 ho hr0 hs0 h)
    · replace h := if_f hc9 h
      refine a_iload_n ho dX3_isUnder_12 rfl rfl 1 rfl ?_
      refine a_if_le (tgt := 33) ho dX3_isUnder_13 rfl rfl (fun hc13 => ?_) (fun hc13 => ?_)
      · replace h := if_t hc13 h
        exact a_sub [0, 1] rfl (T_X3_isUnder_33 ho hr0 hs0 h)
      · replace h := if_f hc13 h
        refine a_iload_n ho dX3_isUnder_16 rfl rfl 1 rfl ?_
        refine a_iload_n ho dX3_isUnder_17 rfl rfl 0 rfl ?_
        refine a_icmp_eq (tgt := 33) ho dX3_isUnder_18 rfl rfl (fun hc18 => ?_) (fun hc18 => ?_)
        · replace h := if_t hc18 h
          exact a_sub [0, 1] rfl (T_X3_isUnder_33 ho hr0 hs0 h)
        · replace h := if_f hc18 h
          refine a_tabG ho (ws_in 429 (by decide +kernel) (by decide +kernel)) dX3_isUnder_21 rfl ?_
          refine a_iload_n ho dX3_isUnder_24 rfl rfl 1 rfl ?_
          obtain ⟨hk25, h⟩ := ck_el h
          refine a_tabA ho hk25 dX3_isUnder_25 rfl ?_
          obtain ⟨x26, hb26, h⟩ := bd_el h
          refine a_nmI hb26 ?_
          refine a_istore_n (L' := [(2, .int x26), (1, .int x1), (3, .int x3)]) ho dX3_isUnder_26 rfl rfl (by decide) rfl ?_
          obtain ⟨x27, hb27, h⟩ := bd_el h
          refine a_iinc (L' := [(3, .int x27), (2, .int x26), (1, .int x1)]) ho dX3_isUnder_27 rfl 2 rfl hb27 (by decide) rfl ?_
          refine a_goto (tgt := 4) ho dX3_isUnder_30 rfl ?_
          exact a_sub [2, 1, 0] rfl (ih _ _ _ h)
theorem T_X3_isUnder_0 {G : gM} (ho : gOk G "WaxCloth$Kind" cX3_isUnder 1 (some .boolean) 4) {r0 : Int32} (hr0 : gv0 G = some (.int r0)) {σ : gS} (hs0 : gs0 G = σ) {x0 : Int32} {x1 : Int32} (h : F_X3_isUnder_0 x0 x1 σ = some r0) : gAt G 0 [(0, .int x0), (1, .int x1)] [] σ := by
  unfold F_X3_isUnder_0 at h
  refine a_iload_n ho dX3_isUnder_0 rfl rfl 0 rfl ?_
  refine a_istore_n (L' := [(2, .int x0), (0, .int x0), (1, .int x1)]) ho dX3_isUnder_1 rfl rfl (by decide) rfl ?_
  refine a_iconst (v := 0) ho dX3_isUnder_2 rfl (by decide) ?_
  refine a_istore_n (L' := [(3, .int 0), (2, .int x0), (0, .int x0), (1, .int x1)]) ho dX3_isUnder_3 rfl rfl (by decide) rfl ?_
  exact a_sub [3, 1, 0] rfl (T_X3_isUnder_4 ho hr0 hs0 _ _ _ _ h)
theorem C_X3_isUnder {l : Launch} {X : gX} {σ : gS} {r0 : Int32} {a0 : Int32} {a1 : Int32} (h : F_X3_isUnder_0 a0 a1 σ = some r0) : gCt l X yX3_isUnder (.code yX3_isUnder cX3_isUnder 4 (some .boolean)) 1 [.int a0, .int a1] σ (some (.int r0)) σ :=
  gCt_of cX3_isUnder (by decide) (Nat.le_of_ble_eq_true rfl) (fun G hl hX hv hs ho => by subst hl; subst hX; exact a_sub [0, 1] rfl (T_X3_isUnder_0 ho hv hs h))
theorem T_X3_thatTake_43 {G : gM} (ho : gOk G "WaxCloth$Kind" cX3_thatTake 2 (some .int) 7) {r0 : Int32} (hr0 : gv0 G = some (.int r0)) {σ : gS} (hs0 : gs0 G = σ) {g6 : Int32 → Int32 → Int32 → Int64 → Int32 → Int32 → Option Int32} (hg6 : ∀ (x0 : Int32) (x1 : Int32) (x2 : Int32) (x3 : Int64) (x5 : Int32) (x6 : Int32), g6 x0 x1 x2 x3 x5 x6 = some r0 → gAt G 6 [(0, .int x0), (1, .int x1), (2, .int x2), (3, .long x3), (5, .int x5), (6, .int x6)] [] σ) {x0 : Int32} {x1 : Int32} {x2 : Int32} {x3 : Int64} {x5 : Int32} {x6 : Int32} (h : F_X3_thatTake_43 g6 x0 x1 x2 x3 x5 x6 = some r0) : gAt G 43 [(0, .int x0), (1, .int x1), (2, .int x2), (3, .long x3), (5, .int x5), (6, .int x6)] [] σ := by
  unfold F_X3_thatTake_43 at h
  obtain ⟨x43, hb43, h⟩ := bd_el h
  refine a_iinc (L' := [(6, .int x43), (0, .int x0), (1, .int x1), (2, .int x2), (3, .long x3), (5, .int x5)]) ho dX3_thatTake_43 rfl 5 rfl hb43 (by decide) rfl ?_
  refine a_goto (tgt := 6) ho dX3_thatTake_46 rfl ?_
  exact a_sub [1, 2, 3, 4, 5, 0] rfl (hg6 _ _ _ _ _ _ h)
theorem T_X3_thatTake_6 {G : gM} (ho : gOk G "WaxCloth$Kind" cX3_thatTake 2 (some .int) 7) {r0 : Int32} (hr0 : gv0 G = some (.int r0)) {σ : gS} (hs0 : gs0 G = σ) : ∀ (n : Nat) (x0 : Int32) (x1 : Int32) (x2 : Int32) (x3 : Int64) (x5 : Int32) (x6 : Int32), F_X3_thatTake_6 n x0 x1 x2 x3 x5 x6 = some r0 → gAt G 6 [(0, .int x0), (1, .int x1), (2, .int x2), (3, .long x3), (5, .int x5), (6, .int x6)] [] σ := by
  intro n
  induction n with
  | zero => intro x0 x1 x2 x3 x5 x6 h; cases h
  | succ n ih =>
    intro x0 x1 x2 x3 x5 x6 h
    unfold F_X3_thatTake_6 at h
    refine a_iload ho dX3_thatTake_6 rfl 5 rfl ?_
    refine a_iconst (v := 5) ho dX3_thatTake_8 rfl (by decide) ?_
    refine a_icmp_gt (tgt := 49) ho dX3_thatTake_9 rfl rfl (fun hc9 => ?_) (fun hc9 => ?_)
    · replace h := if_t hc9 h
      refine a_iload ho dX3_thatTake_49 rfl 4 rfl ?_
      exact a_iret ho dX3_thatTake_51 (rI hr0 (ro_el h)) hs0
    · replace h := if_f hc9 h
      refine a_iload_n ho dX3_thatTake_12 rfl rfl 0 rfl ?_
      refine a_iload ho dX3_thatTake_13 rfl 5 rfl ?_
      refine a_ishr ho dX3_thatTake_15 rfl ?_
      refine a_iconst (v := 1) ho dX3_thatTake_16 rfl (by decide) ?_
      refine a_iand ho dX3_thatTake_17 rfl ?_
      refine a_if_eq (tgt := 43) ho dX3_thatTake_18 rfl rfl (fun hc18 => ?_) (fun hc18 => ?_)
      · replace h := if_t hc18 h
        exact a_sub [0, 1, 2, 3, 4, 5] rfl (T_X3_thatTake_43 ho hr0 hs0 ih h)
      · replace h := if_f hc18 h
        refine a_iload ho dX3_thatTake_21 rfl 5 rfl ?_
        refine a_iload_n ho dX3_thatTake_23 rfl rfl 2 rfl ?_
        refine a_iload_n ho dX3_thatTake_24 rfl rfl 1 rfl ?_
        obtain ⟨r25, hq25, h⟩ := ob_el h
        refine a_callSi ho vy_X3_taken ml_X3_13 (C_X3_taken hq25) rfl rfl (by decide) (Nat.le_of_ble_eq_true rfl) dX3_thatTake_25 rfl ?_
        refine a_i2l ho dX3_thatTake_28 rfl ?_
        refine a_lload_n ho dX3_thatTake_29 rfl rfl 3 rfl ?_
        refine a_lcmp ho dX3_thatTake_30 rfl ?_
        refine a_if_ne (tgt := 43) ho dX3_thatTake_31 rfl rfl (fun hc31 => ?_) (fun hc31 => ?_)
        · replace h := if_f hc31 h
          exact a_sub [0, 1, 2, 3, 4, 5] rfl (T_X3_thatTake_43 ho hr0 hs0 ih h)
        · replace h := if_t hc31 h
          refine a_iload ho dX3_thatTake_34 rfl 4 rfl ?_
          refine a_iconst (v := 1) ho dX3_thatTake_36 rfl (by decide) ?_
          refine a_iload ho dX3_thatTake_37 rfl 5 rfl ?_
          refine a_ishl ho dX3_thatTake_39 rfl ?_
          refine a_ior ho dX3_thatTake_40 rfl ?_
          obtain ⟨x41, hb41, h⟩ := bd_el h
          refine a_nmI hb41 ?_
          refine a_istore (L' := [(5, .int x41), (0, .int x0), (1, .int x1), (2, .int x2), (3, .long x3), (6, .int x6)]) ho dX3_thatTake_41 rfl (by decide) rfl ?_
          exact a_sub [1, 2, 3, 4, 0, 5] rfl (T_X3_thatTake_43 ho hr0 hs0 ih h)
theorem T_X3_thatTake_0 {G : gM} (ho : gOk G "WaxCloth$Kind" cX3_thatTake 2 (some .int) 7) {r0 : Int32} (hr0 : gv0 G = some (.int r0)) {σ : gS} (hs0 : gs0 G = σ) {x0 : Int32} {x1 : Int32} {x2 : Int32} {x3 : Int64} (h : F_X3_thatTake_0 x0 x1 x2 x3 = some r0) : gAt G 0 [(0, .int x0), (1, .int x1), (2, .int x2), (3, .long x3)] [] σ := by
  unfold F_X3_thatTake_0 at h
  refine a_iconst (v := 0) ho dX3_thatTake_0 rfl (by decide) ?_
  refine a_istore (L' := [(5, .int 0), (0, .int x0), (1, .int x1), (2, .int x2), (3, .long x3)]) ho dX3_thatTake_1 rfl (by decide) rfl ?_
  refine a_iconst (v := 1) ho dX3_thatTake_3 rfl (by decide) ?_
  refine a_istore (L' := [(6, .int 1), (5, .int 0), (0, .int x0), (1, .int x1), (2, .int x2), (3, .long x3)]) ho dX3_thatTake_4 rfl (by decide) rfl ?_
  exact a_sub [2, 3, 4, 5, 1, 0] rfl (T_X3_thatTake_6 ho hr0 hs0 _ _ _ _ _ _ _ h)
theorem C_X3_thatTake {l : Launch} {X : gX} {σ : gS} {r0 : Int32} {a0 : Int32} {a1 : Int32} {a2 : Int32} {a3 : Int64} (h : F_X3_thatTake_0 a0 a1 a2 a3 = some r0) : gCt l X yX3_thatTake (.code yX3_thatTake cX3_thatTake 7 (some .int)) 2 [.int a0, .int a1, .int a2, .long a3] σ (some (.int r0)) σ :=
  gCt_of cX3_thatTake (by decide) (Nat.le_of_ble_eq_true rfl) (fun G hl hX hv hs ho => by subst hl; subst hX; exact a_sub [0, 1, 2, 3] rfl (T_X3_thatTake_0 ho hv hs h))
theorem T_X3_greatestPart_5 {G : gM} (ho : gOk G "WaxCloth$Kind" cX3_greatestPart 3 (some .int) 5) {r0 : Int32} (hr0 : gv0 G = some (.int r0)) {σ : gS} (hs0 : gs0 G = σ) : ∀ (n : Nat) (x0 : Int32) (x1 : Int32) (x2 : Int32) (x3 : Int32) (x4 : Int32), F_X3_greatestPart_5 n x0 x1 x2 x3 x4 = some r0 → gAt G 5 [(0, .int x0), (1, .int x1), (2, .int x2), (3, .int x3), (4, .int x4)] [] σ := by
  intro n
  induction n with
  | zero => intro x0 x1 x2 x3 x4 h; cases h
  | succ n ih =>
    intro x0 x1 x2 x3 x4 h
    unfold F_X3_greatestPart_5 at h
    refine a_iload ho dX3_greatestPart_5 rfl 4 rfl ?_
    refine a_iconst (v := 4) ho dX3_greatestPart_7 rfl (by decide) ?_
    refine a_icmp_gt (tgt := 34) ho dX3_greatestPart_8 rfl rfl (fun hc8 => ?_) (fun hc8 => ?_)
    · replace h := if_t hc8 h
      refine a_iload_n ho dX3_greatestPart_34 rfl rfl 3 rfl ?_
      exact a_iret ho dX3_greatestPart_35 (rI hr0 (ro_el h)) hs0
    · replace h := if_f hc8 h
      refine a_iload_n ho dX3_greatestPart_11 rfl rfl 3 rfl ?_
      refine a_iload_n ho dX3_greatestPart_12 rfl rfl 0 rfl ?_
      refine a_iload_n ho dX3_greatestPart_13 rfl rfl 1 rfl ?_
      refine a_iload_n ho dX3_greatestPart_14 rfl rfl 2 rfl ?_
      refine a_iload ho dX3_greatestPart_15 rfl 4 rfl ?_
      refine a_i2l ho dX3_greatestPart_17 rfl ?_
      obtain ⟨r18, hq18, h⟩ := ob_el h
      refine a_callSi ho vy_X3_thatTake ml_X3_20 (C_X3_thatTake hq18) rfl rfl (by decide) (Nat.le_of_ble_eq_true rfl) dX3_greatestPart_18 rfl ?_
      refine a_callSi ho vy_J6_bitCount_0f7a4 ml_X3_24 (C_J6_bitCount_0f7a4 r18) rfl rfl (by decide) (Nat.le_of_ble_eq_true rfl) dX3_greatestPart_21 rfl ?_
      refine a_max ho mx_X3_30 (by decide) (Nat.le_of_ble_eq_true rfl) dX3_greatestPart_24 rfl ?_
      obtain ⟨x27, hb27, h⟩ := bd_el h
      refine a_nmI hb27 ?_
      refine a_istore_n (L' := [(3, .int x27), (0, .int x0), (1, .int x1), (2, .int x2), (4, .int x4)]) ho dX3_greatestPart_27 rfl rfl (by decide) rfl ?_
      obtain ⟨x28, hb28, h⟩ := bd_el h
      refine a_iinc (L' := [(4, .int x28), (3, .int x27), (0, .int x0), (1, .int x1), (2, .int x2)]) ho dX3_greatestPart_28 rfl 4 rfl hb28 (by decide) rfl ?_
      refine a_goto (tgt := 5) ho dX3_greatestPart_31 rfl ?_
      exact a_sub [2, 3, 4, 1, 0] rfl (ih _ _ _ _ _ h)
theorem T_X3_greatestPart_0 {G : gM} (ho : gOk G "WaxCloth$Kind" cX3_greatestPart 3 (some .int) 5) {r0 : Int32} (hr0 : gv0 G = some (.int r0)) {σ : gS} (hs0 : gs0 G = σ) {x0 : Int32} {x1 : Int32} {x2 : Int32} (h : F_X3_greatestPart_0 x0 x1 x2 = some r0) : gAt G 0 [(0, .int x0), (1, .int x1), (2, .int x2)] [] σ := by
  unfold F_X3_greatestPart_0 at h
  refine a_iconst (v := 0) ho dX3_greatestPart_0 rfl (by decide) ?_
  refine a_istore_n (L' := [(3, .int 0), (0, .int x0), (1, .int x1), (2, .int x2)]) ho dX3_greatestPart_1 rfl rfl (by decide) rfl ?_
  refine a_iconst (v := 0) ho dX3_greatestPart_2 rfl (by decide) ?_
  refine a_istore (L' := [(4, .int 0), (3, .int 0), (0, .int x0), (1, .int x1), (2, .int x2)]) ho dX3_greatestPart_3 rfl (by decide) rfl ?_
  exact a_sub [2, 3, 4, 1, 0] rfl (T_X3_greatestPart_5 ho hr0 hs0 _ _ _ _ _ _ h)
theorem C_X3_greatestPart {l : Launch} {X : gX} {σ : gS} {r0 : Int32} {a0 : Int32} {a1 : Int32} {a2 : Int32} (h : F_X3_greatestPart_0 a0 a1 a2 = some r0) : gCt l X yX3_greatestPart (.code yX3_greatestPart cX3_greatestPart 5 (some .int)) 3 [.int a0, .int a1, .int a2] σ (some (.int r0)) σ :=
  gCt_of cX3_greatestPart (by decide) (Nat.le_of_ble_eq_true rfl) (fun G hl hX hv hs ho => by subst hl; subst hX; exact a_sub [0, 1, 2] rfl (T_X3_greatestPart_0 ho hv hs h))
theorem T_X3_bestTry_39 {G : gM} (ho : gOk G "WaxCloth$Kind" cX3_bestTry 4 (some .int) 6) {r0 : Int32} (hr0 : gv0 G = some (.int r0)) {σ : gS} (hs0 : gs0 G = σ) {g12 : Int32 → Int32 → Int32 → Int32 → Int32 → Option Int32} (hg12 : ∀ (x0 : Int32) (x1 : Int32) (x2 : Int32) (x3 : Int32) (x4 : Int32), g12 x0 x1 x2 x3 x4 = some r0 → gAt G 12 [(0, .int x0), (1, .int x1), (2, .int x2), (3, .int x3), (4, .int x4)] [] σ) {x0 : Int32} {x1 : Int32} {x2 : Int32} {x3 : Int32} {x4 : Int32} (h : F_X3_bestTry_39 g12 x0 x1 x2 x3 x4 = some r0) : gAt G 39 [(0, .int x0), (1, .int x1), (2, .int x2), (3, .int x3), (4, .int x4)] [] σ := by
  unfold F_X3_bestTry_39 at h
  obtain ⟨x39, hb39, h⟩ := bd_el h
  refine a_iinc (L' := [(4, .int x39), (0, .int x0), (1, .int x1), (2, .int x2), (3, .int x3)]) ho dX3_bestTry_39 rfl 4 rfl hb39 (by decide) rfl ?_
  refine a_goto (tgt := 12) ho dX3_bestTry_42 rfl ?_
  exact a_sub [1, 2, 3, 4, 0] rfl (hg12 _ _ _ _ _ h)
theorem T_X3_bestTry_12 {G : gM} (ho : gOk G "WaxCloth$Kind" cX3_bestTry 4 (some .int) 6) {r0 : Int32} (hr0 : gv0 G = some (.int r0)) {σ : gS} (hs0 : gs0 G = σ) : ∀ (n : Nat) (x0 : Int32) (x1 : Int32) (x2 : Int32) (x3 : Int32) (x4 : Int32), F_X3_bestTry_12 n x0 x1 x2 x3 x4 = some r0 → gAt G 12 [(0, .int x0), (1, .int x1), (2, .int x2), (3, .int x3), (4, .int x4)] [] σ := by
  intro n
  induction n with
  | zero => intro x0 x1 x2 x3 x4 h; cases h
  | succ n ih =>
    intro x0 x1 x2 x3 x4 h
    unfold F_X3_bestTry_12 at h
    refine a_iload ho dX3_bestTry_12 rfl 4 rfl ?_
    refine a_iconst (v := 3) ho dX3_bestTry_14 rfl (by decide) ?_
    refine a_icmp_gt (tgt := 45) ho dX3_bestTry_15 rfl rfl (fun hc15 => ?_) (fun hc15 => ?_)
    · replace h := if_t hc15 h
      refine a_iload_n ho dX3_bestTry_45 rfl rfl 2 rfl ?_
      exact a_iret ho dX3_bestTry_46 (rI hr0 (ro_el h)) hs0
    · replace h := if_f hc15 h
      refine a_iload_n ho dX3_bestTry_18 rfl rfl 0 rfl ?_
      refine a_iload_n ho dX3_bestTry_19 rfl rfl 1 rfl ?_
      refine a_iload ho dX3_bestTry_20 rfl 4 rfl ?_
      obtain ⟨r22, hq22, h⟩ := ob_el h
      refine a_callSi ho vy_X3_greatestPart ml_X3_17 (C_X3_greatestPart hq22) rfl rfl (by decide) (Nat.le_of_ble_eq_true rfl) dX3_bestTry_22 rfl ?_
      refine a_istore (L' := [(5, .int r22), (0, .int x0), (1, .int x1), (2, .int x2), (3, .int x3), (4, .int x4)]) ho dX3_bestTry_25 rfl (by decide) rfl ?_
      refine a_iload ho dX3_bestTry_27 rfl 0 rfl ?_
      refine a_iload_n ho dX3_bestTry_29 rfl rfl 4 rfl ?_
      refine a_icmp_ge (tgt := 39) ho dX3_bestTry_30 rfl rfl (fun hc30 => ?_) (fun hc30 => ?_)
      · replace h := if_t hc30 h
        exact a_sub [1, 2, 3, 4, 5] rfl (T_X3_bestTry_39 ho hr0 hs0 ih h)
      · replace h := if_f hc30 h
        refine a_iload ho dX3_bestTry_33 rfl 0 rfl ?_
        refine a_istore_n (L' := [(3, .int r22), (5, .int r22), (0, .int x0), (1, .int x1), (2, .int x2), (4, .int x4)]) ho dX3_bestTry_35 rfl rfl (by decide) rfl ?_
        refine a_iload ho dX3_bestTry_36 rfl 5 rfl ?_
        refine a_istore_n (L' := [(2, .int x4), (3, .int r22), (5, .int r22), (0, .int x0), (1, .int x1), (4, .int x4)]) ho dX3_bestTry_38 rfl rfl (by decide) rfl ?_
        exact a_sub [3, 4, 0, 1, 5] rfl (T_X3_bestTry_39 ho hr0 hs0 ih h)
theorem T_X3_bestTry_0 {G : gM} (ho : gOk G "WaxCloth$Kind" cX3_bestTry 4 (some .int) 6) {r0 : Int32} (hr0 : gv0 G = some (.int r0)) {σ : gS} (hs0 : gs0 G = σ) {x0 : Int32} {x1 : Int32} (h : F_X3_bestTry_0 x0 x1 = some r0) : gAt G 0 [(0, .int x0), (1, .int x1)] [] σ := by
  unfold F_X3_bestTry_0 at h
  refine a_iconst (v := 1) ho dX3_bestTry_0 rfl (by decide) ?_
  refine a_istore_n (L' := [(2, .int 1), (0, .int x0), (1, .int x1)]) ho dX3_bestTry_1 rfl rfl (by decide) rfl ?_
  refine a_iload_n ho dX3_bestTry_2 rfl rfl 1 rfl ?_
  refine a_iload_n ho dX3_bestTry_3 rfl rfl 2 rfl ?_
  refine a_iconst (v := 1) ho dX3_bestTry_4 rfl (by decide) ?_
  obtain ⟨r5, hq5, h⟩ := ob_el h
  refine a_callSi ho vy_X3_greatestPart ml_X3_17 (C_X3_greatestPart hq5) rfl rfl (by decide) (Nat.le_of_ble_eq_true rfl) dX3_bestTry_5 rfl ?_
  refine a_istore_n (L' := [(3, .int r5), (2, .int 1), (0, .int x0), (1, .int x1)]) ho dX3_bestTry_8 rfl rfl (by decide) rfl ?_
  refine a_iconst (v := 2) ho dX3_bestTry_9 rfl (by decide) ?_
  refine a_istore (L' := [(4, .int 2), (3, .int r5), (2, .int 1), (0, .int x0), (1, .int x1)]) ho dX3_bestTry_10 rfl (by decide) rfl ?_
  exact a_sub [3, 4, 2, 1, 0] rfl (T_X3_bestTry_12 ho hr0 hs0 _ _ _ _ _ _ h)
theorem C_X3_bestTry {l : Launch} {X : gX} {σ : gS} {r0 : Int32} {a0 : Int32} {a1 : Int32} (h : F_X3_bestTry_0 a0 a1 = some r0) : gCt l X yX3_bestTry (.code yX3_bestTry cX3_bestTry 6 (some .int)) 4 [.int a0, .int a1] σ (some (.int r0)) σ :=
  gCt_of cX3_bestTry (by decide) (Nat.le_of_ble_eq_true rfl) (fun G hl hX hv hs ho => by subst hl; subst hX; exact a_sub [0, 1] rfl (T_X3_bestTry_0 ho hv hs h))
theorem T_X4_forget_0 {G : gM} (ho : gOk G "WaxCloth$Past" cX4_forget 1 none 1) (hr0 : gv0 G = none) {σ0 : gS} (hs0 : gs0 G = σ0) {σ : gS} (h : F_X4_forget_0 σ = some σ0) : gAt G 0 [(0, .ref (gad G 16))] [] σ := by
  unfold F_X4_forget_0 at h
  refine a_aload_n ho dX4_forget_0 rfl rfl 0 rfl ?_
  refine a_iconst (v := 0) ho dX4_forget_1 rfl (by decide) ?_
  refine a_putI ho fp_X4_16 o_16 (ff_3_0 _ o_16) dX4_forget_2 rfl ?_
  obtain ⟨σ2, hs2, h⟩ := bd_el h
  refine a_nmS hs2 ?_
  exact a_vret ho dX4_forget_5 hr0 (rS hs0 (ro_el h))
theorem C_X4_forget {l : Launch} {X : gX} {σ σ0 : gS} (h : F_X4_forget_0 σ = some σ0) : gCt l X yX4_forget (.code yX4_forget cX4_forget 1 none) 1 [.ref (X.2.2.1 16)] σ (none) σ0 :=
  gCt_of cX4_forget (by decide) (Nat.le_of_ble_eq_true rfl) (fun G hl hX hv hs ho => by subst hl; subst hX; exact a_sub [0] rfl (T_X4_forget_0 ho hv hs h))
theorem T_X4_keep_0 {G : gM} (ho : gOk G "WaxCloth$Past" cX4_keep 1 none 2) (hr0 : gv0 G = none) {σ0 : gS} (hs0 : gs0 G = σ0) {c1 : Nat} (hc1 : isI c1 8) {σ : gS} (h : F_X4_keep_0 c1 σ = some σ0) : gAt G 0 [(0, .ref (gad G 16)), (1, .ref (gad G c1))] [] σ := by
  unfold F_X4_keep_0 at h
  refine a_aload_n ho dX4_keep_0 rfl rfl 1 rfl ?_
  refine a_iconst (v := 0) ho dX4_keep_1 rfl (by decide) ?_
  refine a_aload_n ho dX4_keep_2 rfl rfl 0 rfl ?_
  refine a_getR ho fl_X4_13 o_16 fr_3_2 dX4_keep_3 rfl ?_
  refine a_aload_n ho dX4_keep_6 rfl rfl 0 rfl ?_
  refine a_getI ho fl_X4_20 o_16 (ff_3_1 _ o_16) dX4_keep_7 rfl ?_
  obtain ⟨hk10, h⟩ := ck_el h
  refine a_aald ho (by decide) r_17 hk10 (ar_17 _ (rng_lt hk10)) dX4_keep_10 rfl ?_
  refine a_iconst (v := 0) ho dX4_keep_11 rfl (by decide) ?_
  refine a_bipush (v := 8) ho dX4_keep_12 rfl (by decide) ?_
  obtain ⟨hk14, h⟩ := ck_el h
  refine a_cpyI ho cp_X4_23 (by decide) hc1 (at_17 _ (rng_lt hk10)) hk14 (Nat.le_of_ble_eq_true rfl) dX4_keep_14 rfl ?_
  obtain ⟨σ14, hs14, h⟩ := bd_el h
  refine a_nmS hs14 ?_
  refine a_aload_n ho dX4_keep_17 rfl rfl 0 rfl ?_
  refine a_aload_n ho dX4_keep_18 rfl rfl 0 rfl ?_
  refine a_getI ho fl_X4_20 o_16 (ff_3_1 _ o_16) dX4_keep_19 rfl ?_
  refine a_iconst (v := 1) ho dX4_keep_22 rfl (by decide) ?_
  refine a_iadd ho dX4_keep_23 rfl ?_
  refine a_bipush (v := 24) ho dX4_keep_24 rfl (by decide) ?_
  refine a_irem ho dX4_keep_26 rfl (by decide) ?_
  refine a_putI ho fp_X4_20 o_16 (ff_3_1 _ o_16) dX4_keep_27 rfl ?_
  obtain ⟨σ27, hs27, h⟩ := bd_el h
  refine a_nmS hs27 ?_
  refine a_aload_n ho dX4_keep_30 rfl rfl 0 rfl ?_
  refine a_aload_n ho dX4_keep_31 rfl rfl 0 rfl ?_
  refine a_getI ho fl_X4_16 o_16 (ff_3_0 _ o_16) dX4_keep_32 rfl ?_
  refine a_iconst (v := 1) ho dX4_keep_35 rfl (by decide) ?_
  refine a_iadd ho dX4_keep_36 rfl ?_
  refine a_bipush (v := 24) ho dX4_keep_37 rfl (by decide) ?_
  refine a_min ho mn_X4_29 (by decide) (Nat.le_of_ble_eq_true rfl) dX4_keep_39 rfl ?_
  refine a_putI ho fp_X4_16 o_16 (ff_3_0 _ o_16) dX4_keep_42 rfl ?_
  obtain ⟨σ42, hs42, h⟩ := bd_el h
  refine a_nmS hs42 ?_
  exact a_vret ho dX4_keep_45 hr0 (rS hs0 (ro_el h))
theorem C_X4_keep {l : Launch} {X : gX} {σ σ0 : gS} {c1 : Nat} (hc1 : isI c1 8) (h : F_X4_keep_0 c1 σ = some σ0) : gCt l X yX4_keep (.code yX4_keep cX4_keep 2 none) 1 [.ref (X.2.2.1 16), .ref (X.2.2.1 c1)] σ (none) σ0 :=
  gCt_of cX4_keep (by decide) (Nat.le_of_ble_eq_true rfl) (fun G hl hX hv hs ho => by subst hl; subst hX; exact a_sub [0, 1] rfl (T_X4_keep_0 ho hv hs hc1 h))
theorem T_X4_takeBack_0 {G : gM} (ho : gOk G "WaxCloth$Past" cX4_takeBack 1 (some .boolean) 2) {r0 : Int32} (hr0 : gv0 G = some (.int r0)) {σ0 : gS} (hs0 : gs0 G = σ0) {c1 : Nat} (hc1 : isI c1 8) {σ : gS} (h : F_X4_takeBack_0 c1 σ = some (r0, σ0)) : gAt G 0 [(0, .ref (gad G 16)), (1, .ref (gad G c1))] [] σ := by
  unfold F_X4_takeBack_0 at h
  refine a_aload_n ho dX4_takeBack_0 rfl rfl 0 rfl ?_
  refine a_getI ho fl_X4_16 o_16 (ff_3_0 _ o_16) dX4_takeBack_1 rfl ?_
  refine a_if_ne (tgt := 9) ho dX4_takeBack_4 rfl rfl (fun hc4 => ?_) (fun hc4 => ?_)
  · replace h := if_f hc4 h
    refine a_aload_n ho dX4_takeBack_9 rfl rfl 0 rfl ?_
    refine a_aload_n ho dX4_takeBack_10 rfl rfl 0 rfl ?_
    refine a_getI ho fl_X4_20 o_16 (ff_3_1 _ o_16) dX4_takeBack_11 rfl ?_
    refine a_bipush (v := 24) ho dX4_takeBack_14 rfl (by decide) ?_
    refine a_iadd ho dX4_takeBack_16 rfl ?_
    refine a_iconst (v := 1) ho dX4_takeBack_17 rfl (by decide) ?_
    refine a_isub ho dX4_takeBack_18 rfl ?_
    refine a_bipush (v := 24) ho dX4_takeBack_19 rfl (by decide) ?_
    refine a_irem ho dX4_takeBack_21 rfl (by decide) ?_
    refine a_putI ho fp_X4_20 o_16 (ff_3_1 _ o_16) dX4_takeBack_22 rfl ?_
    obtain ⟨σ22, hs22, h⟩ := bd_el h
    refine a_nmS hs22 ?_
    refine a_aload_n ho dX4_takeBack_25 rfl rfl 0 rfl ?_
    refine a_dup ho dX4_takeBack_26 rfl rfl ?_
    refine a_getI ho fl_X4_16 o_16 (ff_3_0 _ o_16) dX4_takeBack_27 rfl ?_
    refine a_iconst (v := 1) ho dX4_takeBack_30 rfl (by decide) ?_
    refine a_isub ho dX4_takeBack_31 rfl ?_
    refine a_putI ho fp_X4_16 o_16 (ff_3_0 _ o_16) dX4_takeBack_32 rfl ?_
    obtain ⟨σ32, hs32, h⟩ := bd_el h
    refine a_nmS hs32 ?_
    refine a_aload_n ho dX4_takeBack_35 rfl rfl 0 rfl ?_
    refine a_getR ho fl_X4_13 o_16 fr_3_2 dX4_takeBack_36 rfl ?_
    refine a_aload_n ho dX4_takeBack_39 rfl rfl 0 rfl ?_
    refine a_getI ho fl_X4_20 o_16 (ff_3_1 _ o_16) dX4_takeBack_40 rfl ?_
    obtain ⟨hk43, h⟩ := ck_el h
    refine a_aald ho (by decide) r_17 hk43 (ar_17 _ (rng_lt hk43)) dX4_takeBack_43 rfl ?_
    refine a_iconst (v := 0) ho dX4_takeBack_44 rfl (by decide) ?_
    refine a_aload_n ho dX4_takeBack_45 rfl rfl 1 rfl ?_
    refine a_iconst (v := 0) ho dX4_takeBack_46 rfl (by decide) ?_
    refine a_bipush (v := 8) ho dX4_takeBack_47 rfl (by decide) ?_
    obtain ⟨hk49, h⟩ := ck_el h
    refine a_cpyI ho cp_X4_23 (by decide) (at_17 _ (rng_lt hk43)) hc1 hk49 (Nat.le_of_ble_eq_true rfl) dX4_takeBack_49 rfl ?_
    obtain ⟨σ49, hs49, h⟩ := bd_el h
    refine a_nmS hs49 ?_
    refine a_iconst (v := 1) ho dX4_takeBack_52 rfl (by decide) ?_
    exact a_zret ho dX4_takeBack_53 rfl (rI hr0 (re_el h).1) (rS hs0 (re_el h).2)
  · replace h := if_t hc4 h
    refine a_iconst (v := 0) ho dX4_takeBack_7 rfl (by decide) ?_
    exact a_zret ho dX4_takeBack_8 rfl (rI hr0 (re_el h).1) (rS hs0 (re_el h).2)
theorem C_X4_takeBack {l : Launch} {X : gX} {σ σ0 : gS} {r0 : Int32} {c1 : Nat} (hc1 : isI c1 8) (h : F_X4_takeBack_0 c1 σ = some (r0, σ0)) : gCt l X yX4_takeBack (.code yX4_takeBack cX4_takeBack 2 (some .boolean)) 1 [.ref (X.2.2.1 16), .ref (X.2.2.1 c1)] σ (some (.int r0)) σ0 :=
  gCt_of cX4_takeBack (by decide) (Nat.le_of_ble_eq_true rfl) (fun G hl hX hv hs ho => by subst hl; subst hX; exact a_sub [0, 1] rfl (T_X4_takeBack_0 ho hv hs hc1 h))
theorem T_X5_isWaxOnly_0 {G : gM} (ho : gOk G "WaxCloth$Planner" cX5_isWaxOnly 1 (some .boolean) 1) {r0 : Int32} (hr0 : gv0 G = some (.int r0)) {σ : gS} (hs0 : gs0 G = σ) {x0 : Int32} (h : F_X5_isWaxOnly_0 x0 = r0) : gAt G 0 [(0, .int x0)] [] σ := by
  unfold F_X5_isWaxOnly_0 at h
  refine a_iload_n ho dX5_isWaxOnly_0 rfl rfl 0 rfl ?_
  refine a_bipush (v := 10) ho dX5_isWaxOnly_1 rfl (by decide) ?_
  refine a_icmp_lt (tgt := 16) ho dX5_isWaxOnly_3 rfl rfl (fun hc3 => ?_) (fun hc3 => ?_)
  · replace h := if_t hc3 h
    refine a_iconst (v := 0) ho dX5_isWaxOnly_16 rfl (by decide) ?_
    exact a_zret ho dX5_isWaxOnly_17 rfl (rI hr0 h) hs0
  · replace h := if_f hc3 h
    refine a_iload_n ho dX5_isWaxOnly_6 rfl rfl 0 rfl ?_
    refine a_bipush (v := 20) ho dX5_isWaxOnly_7 rfl (by decide) ?_
    refine a_icmp_gt (tgt := 16) ho dX5_isWaxOnly_9 rfl rfl (fun hc9 => ?_) (fun hc9 => ?_)
    · replace h := if_t hc9 h
      refine a_iconst (v := 0) ho dX5_isWaxOnly_16 rfl (by decide) ?_
      exact a_zret ho dX5_isWaxOnly_17 rfl (rI hr0 h) hs0
    · replace h := if_f hc9 h
      refine a_iconst (v := 1) ho dX5_isWaxOnly_12 rfl (by decide) ?_
      refine a_goto (tgt := 17) ho dX5_isWaxOnly_13 rfl ?_
      exact a_zret ho dX5_isWaxOnly_17 rfl (rI hr0 h) hs0
theorem C_X5_isWaxOnly {l : Launch} {X : gX} {σ : gS} (a0 : Int32) : gCt l X yX5_isWaxOnly (.code yX5_isWaxOnly cX5_isWaxOnly 1 (some .boolean)) 1 [.int a0] σ (some (.int (F_X5_isWaxOnly_0 a0))) σ :=
  gCt_of cX5_isWaxOnly (by decide) (Nat.le_of_ble_eq_true rfl) (fun G hl hX hv hs ho => by subst hl; subst hX; exact a_sub [0] rfl (T_X5_isWaxOnly_0 ho hv hs rfl))
theorem T_X5_judge_0 {G : gM} (ho : gOk G "WaxCloth$Planner" cX5_judge 1 none 3) (hr0 : gv0 G = none) {σ0 : gS} (hs0 : gs0 G = σ0) {x1 : Int32} {x2 : Int32} {σ : gS} (h : F_X5_judge_0 x1 x2 σ = some σ0) : gAt G 0 [(0, .ref (gad G 64)), (1, .int x1), (2, .int x2)] [] σ := by
  unfold F_X5_judge_0 at h
  refine a_iload_n ho dX5_judge_0 rfl rfl 1 rfl ?_
  refine a_aload_n ho dX5_judge_1 rfl rfl 0 rfl ?_
  refine a_getI ho fl_X5_38 o_64 (ff_4_0 _ o_64) dX5_judge_2 rfl ?_
  refine a_icmp_gt (tgt := 9) ho dX5_judge_5 rfl rfl (fun hc5 => ?_) (fun hc5 => ?_)
  · replace h := if_t hc5 h
    refine a_aload_n ho dX5_judge_9 rfl rfl 0 rfl ?_
    refine a_iload_n ho dX5_judge_10 rfl rfl 1 rfl ?_
    refine a_putI ho fp_X5_38 o_64 (ff_4_0 _ o_64) dX5_judge_11 rfl ?_
    obtain ⟨σ11, hs11, h⟩ := bd_el h
    refine a_nmS hs11 ?_
    refine a_aload_n ho dX5_judge_14 rfl rfl 0 rfl ?_
    refine a_iload_n ho dX5_judge_15 rfl rfl 2 rfl ?_
    refine a_putI ho fp_X5_42 o_64 (ff_4_1 _ o_64) dX5_judge_16 rfl ?_
    obtain ⟨σ16, hs16, h⟩ := bd_el h
    refine a_nmS hs16 ?_
    refine a_aload_n ho dX5_judge_19 rfl rfl 0 rfl ?_
    refine a_getR ho fl_X5_15 o_64 fr_4_3 dX5_judge_20 rfl ?_
    refine a_iconst (v := 0) ho dX5_judge_23 rfl (by decide) ?_
    refine a_aload_n ho dX5_judge_24 rfl rfl 0 rfl ?_
    refine a_getR ho fl_X5_9 o_64 fr_4_2 dX5_judge_25 rfl ?_
    refine a_iconst (v := 0) ho dX5_judge_28 rfl (by decide) ?_
    refine a_iload_n ho dX5_judge_29 rfl rfl 2 rfl ?_
    obtain ⟨hk30, h⟩ := ck_el h
    refine a_cpyI ho cp_X5_28 (by decide) i_66 i_65 hk30 (Nat.le_of_ble_eq_true rfl) dX5_judge_30 rfl ?_
    obtain ⟨σ30, hs30, h⟩ := bd_el h
    refine a_nmS hs30 ?_
    exact a_vret ho dX5_judge_33 hr0 (rS hs0 (ro_el h))
  · replace h := if_f hc5 h
    exact a_vret ho dX5_judge_8 hr0 (rS hs0 (ro_el h))
theorem C_X5_judge {l : Launch} {X : gX} {σ σ0 : gS} {a1 : Int32} {a2 : Int32} (h : F_X5_judge_0 a1 a2 σ = some σ0) : gCt l X yX5_judge (.code yX5_judge cX5_judge 3 none) 1 [.ref (X.2.2.1 64), .int a1, .int a2] σ (none) σ0 :=
  gCt_of cX5_judge (by decide) (Nat.le_of_ble_eq_true rfl) (fun G hl hX hv hs ho => by subst hl; subst hX; exact a_sub [0, 1, 2] rfl (T_X5_judge_0 ho hv hs h))
theorem T_X5_extend_126 {G : gM} {dr : Nat} (ho : gOk G "WaxCloth$Planner" cX5_extend (dr + 1) none 6) (hr0 : gv0 G = none) {σ0 : gS} (hs0 : gs0 G = σ0) {rc : Int32 → Int32 → gS → Option gS} (hdr : 6 ≤ dr) (hrc : ∀ (a2 : Int32) (a3 : Int32) (σ τ : gS), rc a2 a3 σ = some τ → gCt (gl G) (gXX G) yX5_extend (.code yX5_extend cX5_extend 6 none) dr [.ref (gad G 64), .ref (gad G 10), .int a2, .int a3] σ none τ) {g23 : Int32 → Int32 → Int32 → Int32 → gS → Option gS} (hg23 : ∀ (x2 : Int32) (x3 : Int32) (x4 : Int32) (x5 : Int32) (σ : gS), g23 x2 x3 x4 x5 σ = some σ0 → gAt G 23 [(0, .ref (gad G 64)), (1, .ref (gad G 10)), (2, .int x2), (3, .int x3), (4, .int x4), (5, .int x5)] [] σ) {x2 : Int32} {x3 : Int32} {x4 : Int32} {x5 : Int32} {σ : gS} (h : F_X5_extend_126 rc g23 x2 x3 x4 x5 σ = some σ0) : gAt G 126 [(0, .ref (gad G 64)), (1, .ref (gad G 10)), (2, .int x2), (3, .int x3), (4, .int x4), (5, .int x5)] [] σ := by
  unfold F_X5_extend_126 at h
  obtain ⟨x126, hb126, h⟩ := bd_el h
  refine a_iinc (L' := [(5, .int x126), (0, .ref (gad G 64)), (1, .ref (gad G 10)), (2, .int x2), (3, .int x3), (4, .int x4)]) ho dX5_extend_126 rfl 5 rfl hb126 (by decide) rfl ?_
  refine a_goto (tgt := 23) ho dX5_extend_129 rfl ?_
  exact a_sub [1, 2, 3, 4, 5, 0] rfl (hg23 _ _ _ _ _ h)
theorem T_X5_extend_64 {G : gM} {dr : Nat} (ho : gOk G "WaxCloth$Planner" cX5_extend (dr + 1) none 6) (hr0 : gv0 G = none) {σ0 : gS} (hs0 : gs0 G = σ0) {rc : Int32 → Int32 → gS → Option gS} (hdr : 6 ≤ dr) (hrc : ∀ (a2 : Int32) (a3 : Int32) (σ τ : gS), rc a2 a3 σ = some τ → gCt (gl G) (gXX G) yX5_extend (.code yX5_extend cX5_extend 6 none) dr [.ref (gad G 64), .ref (gad G 10), .int a2, .int a3] σ none τ) {g23 : Int32 → Int32 → Int32 → Int32 → gS → Option gS} (hg23 : ∀ (x2 : Int32) (x3 : Int32) (x4 : Int32) (x5 : Int32) (σ : gS), g23 x2 x3 x4 x5 σ = some σ0 → gAt G 23 [(0, .ref (gad G 64)), (1, .ref (gad G 10)), (2, .int x2), (3, .int x3), (4, .int x4), (5, .int x5)] [] σ) {x2 : Int32} {x3 : Int32} {x4 : Int32} {x5 : Int32} {σ : gS} (h : F_X5_extend_64 rc g23 x2 x3 x4 x5 σ = some σ0) : gAt G 64 [(0, .ref (gad G 64)), (1, .ref (gad G 10)), (2, .int x2), (3, .int x3), (4, .int x4), (5, .int x5)] [] σ := by
  unfold F_X5_extend_64 at h
  refine a_aload_n ho dX5_extend_64 rfl rfl 1 rfl ?_
  refine a_aload_n ho dX5_extend_65 rfl rfl 0 rfl ?_
  refine a_getR ho fl_X5_15 o_64 fr_4_3 dX5_extend_66 rfl ?_
  refine a_iload_n ho dX5_extend_69 rfl rfl 2 rfl ?_
  obtain ⟨hk70, h⟩ := ck_el h
  refine a_iald ho i_66 hk70 dX5_extend_70 rfl ?_
  refine a_aload_n ho dX5_extend_71 rfl rfl 0 rfl ?_
  refine a_getR ho fl_X5_22 o_64 fr_4_4 dX5_extend_72 rfl ?_
  refine a_iload_n ho dX5_extend_75 rfl rfl 2 rfl ?_
  obtain ⟨hk76, h⟩ := ck_el h
  refine a_aald ho (by decide) r_67 hk76 (ar_67 _ (rng_lt hk76)) dX5_extend_76 rfl ?_
  refine a_aload_n ho dX5_extend_77 rfl rfl 0 rfl ?_
  refine a_getR ho fl_X5_22 o_64 fr_4_4 dX5_extend_78 rfl ?_
  refine a_iload_n ho dX5_extend_81 rfl rfl 2 rfl ?_
  refine a_iconst (v := 1) ho dX5_extend_82 rfl (by decide) ?_
  refine a_iadd ho dX5_extend_83 rfl ?_
  obtain ⟨hk84, h⟩ := ck_el h
  refine a_aald ho (by decide) r_67 hk84 (ar_67 _ (rng_lt hk84)) dX5_extend_84 rfl ?_
  obtain ⟨r85, σ85, hq85, h⟩ := ob2_el h
  refine a_callVi ho vy_X2_apply ml_X5_64 o_10 (C_X2_apply (at_67 _ (rng_lt hk76)) (at_67 _ (rng_lt hk84)) hq85) rfl rfl (by omega) (Nat.le_of_ble_eq_true rfl) dX5_extend_85 rfl ?_
  refine a_if_ne (tgt := 94) ho dX5_extend_88 rfl rfl (fun hc88 => ?_) (fun hc88 => ?_)
  · replace h := if_f hc88 h
    refine a_iload ho dX5_extend_94 rfl 4 rfl ?_
    refine a_if_eq (tgt := 117) ho dX5_extend_96 rfl rfl (fun hc96 => ?_) (fun hc96 => ?_)
    · replace h := if_t hc96 h
      refine a_aload_n ho dX5_extend_117 rfl rfl 0 rfl ?_
      refine a_aload_n ho dX5_extend_118 rfl rfl 1 rfl ?_
      refine a_iload_n ho dX5_extend_119 rfl rfl 2 rfl ?_
      refine a_iconst (v := 1) ho dX5_extend_120 rfl (by decide) ?_
      refine a_iadd ho dX5_extend_121 rfl ?_
      refine a_iload_n ho dX5_extend_122 rfl rfl 3 rfl ?_
      obtain ⟨σ123, hq123, h⟩ := ob_el h
      refine a_callVv ho vy_X5_extend ml_X5_48 o_64 (hrc _ _ _ _ hq123) rfl rfl (by omega) (Nat.le_of_ble_eq_true rfl) dX5_extend_123 rfl ?_
      exact a_sub [0, 1, 2, 3, 4, 5] rfl (T_X5_extend_126 ho hr0 hs0 hdr hrc hg23 h)
    · replace h := if_f hc96 h
      refine a_aload_n ho dX5_extend_99 rfl rfl 0 rfl ?_
      refine a_aload_n ho dX5_extend_100 rfl rfl 1 rfl ?_
      refine a_aload_n ho dX5_extend_101 rfl rfl 0 rfl ?_
      refine a_getR ho fl_X5_22 o_64 fr_4_4 dX5_extend_102 rfl ?_
      refine a_iload_n ho dX5_extend_105 rfl rfl 3 rfl ?_
      obtain ⟨hk106, h⟩ := ck_el h
      refine a_aald ho (by decide) r_67 hk106 (ar_67 _ (rng_lt hk106)) dX5_extend_106 rfl ?_
      obtain ⟨r107, hq107, h⟩ := ob_el h
      refine a_callVi ho vy_X2_rightCount ml_X5_34 o_10 (C_X2_rightCount (at_67 _ (rng_lt hk106)) hq107) rfl rfl (by omega) (Nat.le_of_ble_eq_true rfl) dX5_extend_107 rfl ?_
      refine a_iload_n ho dX5_extend_110 rfl rfl 3 rfl ?_
      obtain ⟨σ111, hq111, h⟩ := ob_el h
      refine a_callVv ho vy_X5_judge ml_X5_68 o_64 (C_X5_judge hq111) rfl rfl (by omega) (Nat.le_of_ble_eq_true rfl) dX5_extend_111 rfl ?_
      refine a_goto (tgt := 126) ho dX5_extend_114 rfl ?_
      exact a_sub [0, 1, 2, 3, 4, 5] rfl (T_X5_extend_126 ho hr0 hs0 hdr hrc hg23 h)
  · replace h := if_t hc88 h
    refine a_goto (tgt := 126) ho dX5_extend_91 rfl ?_
    exact a_sub [0, 1, 2, 3, 4, 5] rfl (T_X5_extend_126 ho hr0 hs0 hdr hrc hg23 h)
theorem T_X5_extend_23 {G : gM} {dr : Nat} (ho : gOk G "WaxCloth$Planner" cX5_extend (dr + 1) none 6) (hr0 : gv0 G = none) {σ0 : gS} (hs0 : gs0 G = σ0) {rc : Int32 → Int32 → gS → Option gS} (hdr : 6 ≤ dr) (hrc : ∀ (a2 : Int32) (a3 : Int32) (σ τ : gS), rc a2 a3 σ = some τ → gCt (gl G) (gXX G) yX5_extend (.code yX5_extend cX5_extend 6 none) dr [.ref (gad G 64), .ref (gad G 10), .int a2, .int a3] σ none τ) : ∀ (n : Nat) (x2 : Int32) (x3 : Int32) (x4 : Int32) (x5 : Int32) (σ : gS), F_X5_extend_23 rc n x2 x3 x4 x5 σ = some σ0 → gAt G 23 [(0, .ref (gad G 64)), (1, .ref (gad G 10)), (2, .int x2), (3, .int x3), (4, .int x4), (5, .int x5)] [] σ := by
  intro n
  induction n with
  | zero => intro x2 x3 x4 x5 σ h; cases h
  | succ n ih =>
    intro x2 x3 x4 x5 σ h
    unfold F_X5_extend_23 at h
    refine a_iload ho dX5_extend_23 rfl 5 rfl ?_
    refine a_aload_n ho dX5_extend_25 rfl rfl 1 rfl ?_
    refine a_callVi ho vy_X2_doingCount ml_X5_52 o_10 (C_X2_doingCount) rfl rfl (by omega) (Nat.le_of_ble_eq_true rfl) dX5_extend_26 rfl ?_
    refine a_icmp_ge (tgt := 132) ho dX5_extend_29 rfl rfl (fun hc29 => ?_) (fun hc29 => ?_)
    · replace h := if_t hc29 h
      exact a_vret ho dX5_extend_132 hr0 (rS hs0 (ro_el h))
    · replace h := if_f hc29 h
      refine a_aload_n ho dX5_extend_32 rfl rfl 0 rfl ?_
      refine a_getR ho fl_X5_15 o_64 fr_4_3 dX5_extend_33 rfl ?_
      refine a_iload_n ho dX5_extend_36 rfl rfl 2 rfl ?_
      refine a_aload_n ho dX5_extend_37 rfl rfl 1 rfl ?_
      refine a_iload ho dX5_extend_38 rfl 5 rfl ?_
      refine a_callVi ho vy_X2_nthDoing ml_X5_56 o_10 (C_X2_nthDoing x5) rfl rfl (by omega) (Nat.le_of_ble_eq_true rfl) dX5_extend_40 rfl ?_
      obtain ⟨hk43, h⟩ := ck_el h
      refine a_iast ho i_66 hk43 dX5_extend_43 rfl ?_
      obtain ⟨σ43, hs43, h⟩ := bd_el h
      refine a_nmS hs43 ?_
      refine a_iload ho dX5_extend_44 rfl 4 rfl ?_
      refine a_if_eq (tgt := 64) ho dX5_extend_46 rfl rfl (fun hc46 => ?_) (fun hc46 => ?_)
      · replace h := if_t hc46 h
        exact a_sub [0, 1, 2, 3, 4, 5] rfl (T_X5_extend_64 ho hr0 hs0 hdr hrc ih h)
      · replace h := if_f hc46 h
        refine a_aload_n ho dX5_extend_49 rfl rfl 0 rfl ?_
        refine a_getR ho fl_X5_15 o_64 fr_4_3 dX5_extend_50 rfl ?_
        refine a_iload_n ho dX5_extend_53 rfl rfl 2 rfl ?_
        obtain ⟨hk54, h⟩ := ck_el h
        refine a_iald ho i_66 hk54 dX5_extend_54 rfl ?_
        refine a_callSi ho vy_X5_isWaxOnly ml_X5_60 (C_X5_isWaxOnly (σ43.1 66 (Int32.toNatClampNeg x2))) rfl rfl (by omega) (Nat.le_of_ble_eq_true rfl) dX5_extend_55 rfl ?_
        refine a_if_eq (tgt := 64) ho dX5_extend_58 rfl rfl (fun hc58 => ?_) (fun hc58 => ?_)
        · replace h := if_t hc58 h
          exact a_sub [0, 1, 2, 3, 4, 5] rfl (T_X5_extend_64 ho hr0 hs0 hdr hrc ih h)
        · replace h := if_f hc58 h
          refine a_goto (tgt := 126) ho dX5_extend_61 rfl ?_
          exact a_sub [0, 1, 2, 3, 4, 5] rfl (T_X5_extend_126 ho hr0 hs0 hdr hrc ih h)
theorem T_X5_extend_18 {G : gM} {dr : Nat} (ho : gOk G "WaxCloth$Planner" cX5_extend (dr + 1) none 6) (hr0 : gv0 G = none) {σ0 : gS} (hs0 : gs0 G = σ0) {rc : Int32 → Int32 → gS → Option gS} (hdr : 6 ≤ dr) (hrc : ∀ (a2 : Int32) (a3 : Int32) (σ τ : gS), rc a2 a3 σ = some τ → gCt (gl G) (gXX G) yX5_extend (.code yX5_extend cX5_extend 6 none) dr [.ref (gad G 64), .ref (gad G 10), .int a2, .int a3] σ none τ) {x2 : Int32} {x3 : Int32} {y0 : Int32} {σ : gS} (h : F_X5_extend_18 rc x2 x3 y0 σ = some σ0) : gAt G 18 [(0, .ref (gad G 64)), (1, .ref (gad G 10)), (2, .int x2), (3, .int x3)] [.int y0] σ := by
  unfold F_X5_extend_18 at h
  refine a_istore (L' := [(4, .int y0), (0, .ref (gad G 64)), (1, .ref (gad G 10)), (2, .int x2), (3, .int x3)]) ho dX5_extend_18 rfl (by decide) rfl ?_
  refine a_iconst (v := 0) ho dX5_extend_20 rfl (by decide) ?_
  refine a_istore (L' := [(5, .int 0), (4, .int y0), (0, .ref (gad G 64)), (1, .ref (gad G 10)), (2, .int x2), (3, .int x3)]) ho dX5_extend_21 rfl (by decide) rfl ?_
  exact a_sub [2, 3, 4, 5, 1, 0] rfl (T_X5_extend_23 ho hr0 hs0 hdr hrc _ _ _ _ _ _ h)
theorem T_X5_extend_0 {G : gM} {dr : Nat} (ho : gOk G "WaxCloth$Planner" cX5_extend (dr + 1) none 6) (hr0 : gv0 G = none) {σ0 : gS} (hs0 : gs0 G = σ0) {rc : Int32 → Int32 → gS → Option gS} (hdr : 6 ≤ dr) (hrc : ∀ (a2 : Int32) (a3 : Int32) (σ τ : gS), rc a2 a3 σ = some τ → gCt (gl G) (gXX G) yX5_extend (.code yX5_extend cX5_extend 6 none) dr [.ref (gad G 64), .ref (gad G 10), .int a2, .int a3] σ none τ) {x2 : Int32} {x3 : Int32} {σ : gS} (h : F_X5_extend_0 rc x2 x3 σ = some σ0) : gAt G 0 [(0, .ref (gad G 64)), (1, .ref (gad G 10)), (2, .int x2), (3, .int x3)] [] σ := by
  unfold F_X5_extend_0 at h
  refine a_iload_n ho dX5_extend_0 rfl rfl 2 rfl ?_
  refine a_iconst (v := 4) ho dX5_extend_1 rfl (by decide) ?_
  refine a_icmp_lt (tgt := 6) ho dX5_extend_2 rfl rfl (fun hc2 => ?_) (fun hc2 => ?_)
  · replace h := if_t hc2 h
    refine a_iload_n ho dX5_extend_6 rfl rfl 2 rfl ?_
    refine a_iconst (v := 1) ho dX5_extend_7 rfl (by decide) ?_
    refine a_iadd ho dX5_extend_8 rfl ?_
    refine a_iload_n ho dX5_extend_9 rfl rfl 3 rfl ?_
    refine a_icmp_ne (tgt := 17) ho dX5_extend_10 rfl rfl (fun hc10 => ?_) (fun hc10 => ?_)
    · replace h := if_f hc10 h
      refine a_iconst (v := 0) ho dX5_extend_17 rfl (by decide) ?_
      exact a_sub [0, 1, 2, 3] rfl (T_X5_extend_18 ho hr0 hs0 hdr hrc h)
    · replace h := if_t hc10 h
      refine a_iconst (v := 1) ho dX5_extend_13 rfl (by decide) ?_
      refine a_goto (tgt := 18) ho dX5_extend_14 rfl ?_
      exact a_sub [0, 1, 2, 3] rfl (T_X5_extend_18 ho hr0 hs0 hdr hrc h)
  · replace h := if_f hc2 h
    exact a_vret ho dX5_extend_5 hr0 (rS hs0 (ro_el h))
theorem C_X5_extend_n {l : Launch} {X : gX} : ∀ (n : Nat) (a2 : Int32) (a3 : Int32) (σ σ0 : gS), F_X5_extend n a2 a3 σ = some σ0 → gCt l X yX5_extend (.code yX5_extend cX5_extend 6 none) (6 + n) [.ref (X.2.2.1 64), .ref (X.2.2.1 10), .int a2, .int a3] σ none σ0 := by
  intro n
  induction n with
  | zero => intro a2 a3 σ σ0 h; cases h
  | succ n ih =>
    intro a2 a3 σ σ0 h
    refine gCt_of cX5_extend (by decide) (Nat.le_of_ble_eq_true rfl) (fun G hl hX hv hs ho => ?_)
    subst hl; subst hX
    exact a_sub [0, 1, 2, 3] rfl (T_X5_extend_0 (dr := 6 + n) ho hv hs (Nat.le_add_right _ _) (fun a2 a3 σ τ q => ih a2 a3 σ τ q) h)
theorem C_X5_extend {l : Launch} {X : gX} {a2 : Int32} {a3 : Int32} {σ σ0 : gS} (h : F_X5_extend 7 a2 a3 σ = some σ0) : gCt l X yX5_extend (.code yX5_extend cX5_extend 6 none) 13 [.ref (X.2.2.1 64), .ref (X.2.2.1 10), .int a2, .int a3] σ none σ0 := C_X5_extend_n 7 a2 a3 σ σ0 h
theorem T_X5_search_36 {G : gM} (ho : gOk G "WaxCloth$Planner" cX5_search 14 none 4) (hr0 : gv0 G = none) {σ0 : gS} (hs0 : gs0 G = σ0) : ∀ (n : Nat) (x2 : Int32) (x3 : Int32) (σ : gS), F_X5_search_36 n x2 x3 σ = some σ0 → gAt G 36 [(0, .ref (gad G 64)), (1, .ref (gad G 10)), (2, .int x2), (3, .int x3)] [] σ := by
  intro n
  induction n with
  | zero => intro x2 x3 σ h; cases h
  | succ n ih =>
    intro x2 x3 σ h
    unfold F_X5_search_36 at h
    refine a_iload_n ho dX5_search_36 rfl rfl 3 rfl ?_
    refine a_iload_n ho dX5_search_37 rfl rfl 2 rfl ?_
    refine a_icmp_gt (tgt := 65) ho dX5_search_38 rfl rfl (fun hc38 => ?_) (fun hc38 => ?_)
    · replace h := if_t hc38 h
      exact a_vret ho dX5_search_65 hr0 (rS hs0 (ro_el h))
    · replace h := if_f hc38 h
      refine a_aload_n ho dX5_search_41 rfl rfl 0 rfl ?_
      refine a_getI ho fl_X5_38 o_64 (ff_4_0 _ o_64) dX5_search_42 rfl ?_
      refine a_aload_n ho dX5_search_45 rfl rfl 1 rfl ?_
      refine a_getI ho fl_X5_45 o_10 (ff_2_0 _ o_10) dX5_search_46 rfl ?_
      refine a_icmp_ge (tgt := 65) ho dX5_search_49 rfl rfl (fun hc49 => ?_) (fun hc49 => ?_)
      · replace h := if_t hc49 h
        exact a_vret ho dX5_search_65 hr0 (rS hs0 (ro_el h))
      · replace h := if_f hc49 h
        refine a_aload_n ho dX5_search_52 rfl rfl 0 rfl ?_
        refine a_aload_n ho dX5_search_53 rfl rfl 1 rfl ?_
        refine a_iconst (v := 0) ho dX5_search_54 rfl (by decide) ?_
        refine a_iload_n ho dX5_search_55 rfl rfl 3 rfl ?_
        obtain ⟨σ56, hq56, h⟩ := ob_el h
        refine a_callVv ho vy_X5_extend ml_X5_48 o_64 (C_X5_extend hq56) rfl rfl (by decide) (Nat.le_of_ble_eq_true rfl) dX5_search_56 rfl ?_
        obtain ⟨x59, hb59, h⟩ := bd_el h
        refine a_iinc (L' := [(3, .int x59), (0, .ref (gad G 64)), (1, .ref (gad G 10)), (2, .int x2)]) ho dX5_search_59 rfl 3 rfl hb59 (by decide) rfl ?_
        refine a_goto (tgt := 36) ho dX5_search_62 rfl ?_
        exact a_sub [1, 2, 3, 0] rfl (ih _ _ _ h)
theorem T_X5_search_0 {G : gM} (ho : gOk G "WaxCloth$Planner" cX5_search 14 none 4) (hr0 : gv0 G = none) {σ0 : gS} (hs0 : gs0 G = σ0) {x2 : Int32} {σ : gS} (h : F_X5_search_0 x2 σ = some σ0) : gAt G 0 [(0, .ref (gad G 64)), (1, .ref (gad G 10)), (2, .int x2)] [] σ := by
  unfold F_X5_search_0 at h
  refine a_aload_n ho dX5_search_0 rfl rfl 1 rfl ?_
  refine a_getR (q := 13) ho fl_X5_25 o_10 (fr_2_6 _ o_10) dX5_search_1 rfl ?_
  refine a_iconst (v := 0) ho dX5_search_4 rfl (by decide) ?_
  refine a_aload_n ho dX5_search_5 rfl rfl 0 rfl ?_
  refine a_getR ho fl_X5_22 o_64 fr_4_4 dX5_search_6 rfl ?_
  refine a_iconst (v := 0) ho dX5_search_9 rfl (by decide) ?_
  refine a_aald (q := 68) ho (by decide) r_67 (by decide) rfl dX5_search_10 rfl ?_
  refine a_iconst (v := 0) ho dX5_search_11 rfl (by decide) ?_
  refine a_bipush (v := 8) ho dX5_search_12 rfl (by decide) ?_
  obtain ⟨hk14, h⟩ := ck_el h
  refine a_cpyI ho cp_X5_28 (by decide) i_13 i_68 hk14 (Nat.le_of_ble_eq_true rfl) dX5_search_14 rfl ?_
  obtain ⟨σ14, hs14, h⟩ := bd_el h
  refine a_nmS hs14 ?_
  refine a_aload_n ho dX5_search_17 rfl rfl 0 rfl ?_
  refine a_aload_n ho dX5_search_18 rfl rfl 1 rfl ?_
  refine a_aload_n ho dX5_search_19 rfl rfl 1 rfl ?_
  refine a_getR (q := 13) ho fl_X5_25 o_10 (fr_2_6 _ o_10) dX5_search_20 rfl ?_
  obtain ⟨r23, hq23, h⟩ := ob_el h
  refine a_callVi ho vy_X2_rightCount ml_X5_34 o_10 (C_X2_rightCount i_13 hq23) rfl rfl (by decide) (Nat.le_of_ble_eq_true rfl) dX5_search_23 rfl ?_
  refine a_putI ho fp_X5_38 o_64 (ff_4_0 _ o_64) dX5_search_26 rfl ?_
  obtain ⟨σ26, hs26, h⟩ := bd_el h
  refine a_nmS hs26 ?_
  refine a_aload_n ho dX5_search_29 rfl rfl 0 rfl ?_
  refine a_iconst (v := 0) ho dX5_search_30 rfl (by decide) ?_
  refine a_putI ho fp_X5_42 o_64 (ff_4_1 _ o_64) dX5_search_31 rfl ?_
  obtain ⟨σ31, hs31, h⟩ := bd_el h
  refine a_nmS hs31 ?_
  refine a_iconst (v := 1) ho dX5_search_34 rfl (by decide) ?_
  refine a_istore_n (L' := [(3, .int 1), (0, .ref (gad G 64)), (1, .ref (gad G 10)), (2, .int x2)]) ho dX5_search_35 rfl rfl (by decide) rfl ?_
  exact a_sub [1, 2, 3, 0] rfl (T_X5_search_36 ho hr0 hs0 _ _ _ _ h)
theorem C_X5_search {l : Launch} {X : gX} {σ σ0 : gS} {a2 : Int32} (h : F_X5_search_0 a2 σ = some σ0) : gCt l X yX5_search (.code yX5_search cX5_search 4 none) 14 [.ref (X.2.2.1 64), .ref (X.2.2.1 10), .int a2] σ (none) σ0 :=
  gCt_of cX5_search (by decide) (Nat.le_of_ble_eq_true rfl) (fun G hl hX hv hs ho => by subst hl; subst hX; exact a_sub [0, 1, 2] rfl (T_X5_search_0 ho hv hs h))
