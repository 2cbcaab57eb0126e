theorem T_X11_as_0 {G : gM} (ho : gOk G "WaxCloth" cX11_as 2 (some .int) 3) {r0 : Int32} (hr0 : gv0 G = some (.int r0)) {σ : gS} (hs0 : gs0 G = σ) {x1 : Int32} {x2 : Int32} (h : F_X11_as_0 x1 x2 σ = some r0) : gAt G 0 [(0, .ref (gad G 0)), (1, .int x1), (2, .int x2)] [] σ := by
  unfold F_X11_as_0 at h
  refine a_aload_n ho dX11_as_0 rfl rfl 0 rfl ?_
  refine a_getR ho fl_X11_28 o_0 fr_9_2 dX11_as_1 rfl ?_
  refine a_iload_n ho dX11_as_4 rfl rfl 1 rfl ?_
  refine a_callVi ho vy_X2_hasSquare ml_X11_110 o_10 (C_X2_hasSquare x1) rfl rfl (by decide) (Nat.le_of_ble_eq_true rfl) dX11_as_5 rfl ?_
  refine a_if_eq (tgt := 20) ho dX11_as_8 rfl rfl (fun hc8 => ?_) (fun hc8 => ?_)
  · replace h := if_t hc8 h
    refine a_iconst (v := (-1)) ho dX11_as_20 rfl (by decide) ?_
    exact a_iret ho dX11_as_21 (rI hr0 (ro_el h)) hs0
  · replace h := if_f hc8 h
    refine a_iload_n ho dX11_as_11 rfl rfl 2 rfl ?_
    refine a_if_lt (tgt := 20) ho dX11_as_12 rfl rfl (fun hc12 => ?_) (fun hc12 => ?_)
    · replace h := if_t hc12 h
      refine a_iconst (v := (-1)) ho dX11_as_20 rfl (by decide) ?_
      exact a_iret ho dX11_as_21 (rI hr0 (ro_el h)) hs0
    · replace h := if_f hc12 h
      refine a_iload_n ho dX11_as_15 rfl rfl 2 rfl ?_
      refine a_iconst (v := 5) ho dX11_as_16 rfl (by decide) ?_
      refine a_icmp_le (tgt := 22) ho dX11_as_17 rfl rfl (fun hc17 => ?_) (fun hc17 => ?_)
      · replace h := if_t hc17 h
        refine a_aload_n ho dX11_as_22 rfl rfl 0 rfl ?_
        refine a_getR ho fl_X11_28 o_0 fr_9_2 dX11_as_23 rfl ?_
        refine a_getR (q := 11) ho fl_X11_116 o_10 (fr_2_4 _ o_10) dX11_as_26 rfl ?_
        refine a_iload_n ho dX11_as_29 rfl rfl 1 rfl ?_
        obtain ⟨hk30, h⟩ := ck_el h
        refine a_iald ho i_11 hk30 dX11_as_30 rfl ?_
        refine a_iload_n ho dX11_as_31 rfl rfl 2 rfl ?_
        obtain ⟨r32, hq32, h⟩ := ob_el h
        refine a_callSi ho vy_X3_isUnder ml_X11_144 (C_X3_isUnder hq32) rfl rfl (by decide) (Nat.le_of_ble_eq_true rfl) dX11_as_32 rfl ?_
        refine a_if_eq (tgt := 42) ho dX11_as_35 rfl rfl (fun hc35 => ?_) (fun hc35 => ?_)
        · replace h := if_t hc35 h
          refine a_bipush (v := (-12)) ho dX11_as_42 rfl (by decide) ?_
          exact a_iret ho dX11_as_44 (rI hr0 (ro_el h)) hs0
        · replace h := if_f hc35 h
          refine a_iload_n ho dX11_as_38 rfl rfl 1 rfl ?_
          refine a_goto (tgt := 44) ho dX11_as_39 rfl ?_
          exact a_iret ho dX11_as_44 (rI hr0 (ro_el h)) hs0
      · replace h := if_f hc17 h
        refine a_iconst (v := (-1)) ho dX11_as_20 rfl (by decide) ?_
        exact a_iret ho dX11_as_21 (rI hr0 (ro_el h)) hs0
theorem C_X11_as {l : Launch} {X : gX} {σ : gS} {r0 : Int32} {a1 : Int32} {a2 : Int32} (h : F_X11_as_0 a1 a2 σ = some r0) : gCt l X yX11_as (.code yX11_as cX11_as 3 (some .int)) 2 [.ref (X.2.2.1 0), .int a1, .int a2] σ (some (.int r0)) σ :=
  gCt_of cX11_as (by decide) (Nat.le_of_ble_eq_true rfl) (fun G hl hX hv hs ho => by subst hl; subst hX; exact a_sub [0, 1, 2] rfl (T_X11_as_0 ho hv hs h))
theorem T_X11_dye_0 {G : gM} (ho : gOk G "WaxCloth" cX11_dye 2 (some .int) 3) {r0 : Int32} (hr0 : gv0 G = some (.int r0)) {σ : gS} (hs0 : gs0 G = σ) {x1 : Int32} {x2 : Int32} (h : F_X11_dye_0 x1 x2 σ = some r0) : gAt G 0 [(0, .ref (gad G 0)), (1, .int x1), (2, .int x2)] [] σ := by
  unfold F_X11_dye_0 at h
  refine a_aload_n ho dX11_dye_0 rfl rfl 0 rfl ?_
  refine a_getR ho fl_X11_28 o_0 fr_9_2 dX11_dye_1 rfl ?_
  refine a_iload_n ho dX11_dye_4 rfl rfl 1 rfl ?_
  refine a_callVi ho vy_X2_hasDye ml_X11_147 o_10 (C_X2_hasDye x1) rfl rfl (by decide) (Nat.le_of_ble_eq_true rfl) dX11_dye_5 rfl ?_
  refine a_if_eq (tgt := 18) ho dX11_dye_8 rfl rfl (fun hc8 => ?_) (fun hc8 => ?_)
  · replace h := if_t hc8 h
    refine a_iconst (v := (-1)) ho dX11_dye_18 rfl (by decide) ?_
    exact a_iret ho dX11_dye_19 (rI hr0 (ro_el h)) hs0
  · replace h := if_f hc8 h
    refine a_iload_n ho dX11_dye_11 rfl rfl 2 rfl ?_
    refine a_callSi ho vy_X9_isColour ml_X11_150 (C_X9_isColour x2) rfl rfl (by decide) (Nat.le_of_ble_eq_true rfl) dX11_dye_12 rfl ?_
    refine a_if_ne (tgt := 20) ho dX11_dye_15 rfl rfl (fun hc15 => ?_) (fun hc15 => ?_)
    · replace h := if_f hc15 h
      refine a_aload_n ho dX11_dye_20 rfl rfl 0 rfl ?_
      refine a_getR ho fl_X11_28 o_0 fr_9_2 dX11_dye_21 rfl ?_
      refine a_iload_n ho dX11_dye_24 rfl rfl 1 rfl ?_
      refine a_iload_n ho dX11_dye_25 rfl rfl 2 rfl ?_
      obtain ⟨r26, hq26, h⟩ := ob_el h
      refine a_callVi ho vy_X2_amountInDye ml_X11_153 o_10 (C_X2_amountInDye hq26) rfl rfl (by decide) (Nat.le_of_ble_eq_true rfl) dX11_dye_26 rfl ?_
      exact a_iret ho dX11_dye_29 (rI hr0 (ro_el h)) hs0
    · replace h := if_t hc15 h
      refine a_iconst (v := (-1)) ho dX11_dye_18 rfl (by decide) ?_
      exact a_iret ho dX11_dye_19 (rI hr0 (ro_el h)) hs0
theorem C_X11_dye {l : Launch} {X : gX} {σ : gS} {r0 : Int32} {a1 : Int32} {a2 : Int32} (h : F_X11_dye_0 a1 a2 σ = some r0) : gCt l X yX11_dye (.code yX11_dye cX11_dye 3 (some .int)) 2 [.ref (X.2.2.1 0), .int a1, .int a2] σ (some (.int r0)) σ :=
  gCt_of cX11_dye (by decide) (Nat.le_of_ble_eq_true rfl) (fun G hl hX hv hs ho => by subst hl; subst hX; exact a_sub [0, 1, 2] rfl (T_X11_dye_0 ho hv hs h))
theorem T_X11_stencil_0 {G : gM} (ho : gOk G "WaxCloth" cX11_stencil 2 (some .int) 2) {r0 : Int32} (hr0 : gv0 G = some (.int r0)) {σ : gS} (hs0 : gs0 G = σ) {x1 : Int32} (h : F_X11_stencil_0 x1 σ = some r0) : gAt G 0 [(0, .ref (gad G 0)), (1, .int x1)] [] σ := by
  unfold F_X11_stencil_0 at h
  refine a_aload_n ho dX11_stencil_0 rfl rfl 0 rfl ?_
  refine a_getR ho fl_X11_28 o_0 fr_9_2 dX11_stencil_1 rfl ?_
  refine a_iload_n ho dX11_stencil_4 rfl rfl 1 rfl ?_
  refine a_callVi ho vy_X2_hasStencil ml_X11_156 o_10 (C_X2_hasStencil x1) rfl rfl (by decide) (Nat.le_of_ble_eq_true rfl) dX11_stencil_5 rfl ?_
  refine a_if_eq (tgt := 23) ho dX11_stencil_8 rfl rfl (fun hc8 => ?_) (fun hc8 => ?_)
  · replace h := if_t hc8 h
    refine a_iconst (v := (-1)) ho dX11_stencil_23 rfl (by decide) ?_
    exact a_iret ho dX11_stencil_24 (rI hr0 (ro_el h)) hs0
  · replace h := if_f hc8 h
    refine a_aload_n ho dX11_stencil_11 rfl rfl 0 rfl ?_
    refine a_getR ho fl_X11_28 o_0 fr_9_2 dX11_stencil_12 rfl ?_
    refine a_getR (q := 15) ho fl_X11_159 o_10 (fr_2_8 _ o_10) dX11_stencil_15 rfl ?_
    refine a_iload_n ho dX11_stencil_18 rfl rfl 1 rfl ?_
    obtain ⟨hk19, h⟩ := ck_el h
    refine a_iald ho i_15 hk19 dX11_stencil_19 rfl ?_
    refine a_goto (tgt := 24) ho dX11_stencil_20 rfl ?_
    exact a_iret ho dX11_stencil_24 (rI hr0 (ro_el h)) hs0
theorem C_X11_stencil {l : Launch} {X : gX} {σ : gS} {r0 : Int32} {a1 : Int32} (h : F_X11_stencil_0 a1 σ = some r0) : gCt l X yX11_stencil (.code yX11_stencil cX11_stencil 2 (some .int)) 2 [.ref (X.2.2.1 0), .int a1] σ (some (.int r0)) σ :=
  gCt_of cX11_stencil (by decide) (Nat.le_of_ble_eq_true rfl) (fun G hl hX hv hs ho => by subst hl; subst hX; exact a_sub [0, 1] rfl (T_X11_stencil_0 ho hv hs h))
theorem T_X11_takes_0 {G : gM} (ho : gOk G "WaxCloth" cX11_takes 3 (some .int) 5) {r0 : Int32} (hr0 : gv0 G = some (.int r0)) {σ : gS} (hs0 : gs0 G = σ) {x1 : Int32} {x2 : Int32} {x3 : Int32} (h : F_X11_takes_0 x1 x2 x3 σ = some r0) : gAt G 0 [(0, .ref (gad G 0)), (1, .int x1), (2, .int x2), (3, .int x3)] [] σ := by
  unfold F_X11_takes_0 at h
  refine a_aload_n ho dX11_takes_0 rfl rfl 0 rfl ?_
  refine a_getR ho fl_X11_28 o_0 fr_9_2 dX11_takes_1 rfl ?_
  refine a_iload_n ho dX11_takes_4 rfl rfl 1 rfl ?_
  refine a_callVi ho vy_X2_hasSquare ml_X11_110 o_10 (C_X2_hasSquare x1) rfl rfl (by decide) (Nat.le_of_ble_eq_true rfl) dX11_takes_5 rfl ?_
  refine a_if_eq (tgt := 29) ho dX11_takes_8 rfl rfl (fun hc8 => ?_) (fun hc8 => ?_)
  · replace h := if_t hc8 h
    refine a_iconst (v := (-1)) ho dX11_takes_29 rfl (by decide) ?_
    exact a_iret ho dX11_takes_30 (rI hr0 (ro_el h)) hs0
  · replace h := if_f hc8 h
    refine a_aload_n ho dX11_takes_11 rfl rfl 0 rfl ?_
    refine a_getR ho fl_X11_28 o_0 fr_9_2 dX11_takes_12 rfl ?_
    refine a_iload_n ho dX11_takes_15 rfl rfl 2 rfl ?_
    refine a_callVi ho vy_X2_hasDye ml_X11_147 o_10 (C_X2_hasDye x2) rfl rfl (by decide) (Nat.le_of_ble_eq_true rfl) dX11_takes_16 rfl ?_
    refine a_if_eq (tgt := 29) ho dX11_takes_19 rfl rfl (fun hc19 => ?_) (fun hc19 => ?_)
    · replace h := if_t hc19 h
      refine a_iconst (v := (-1)) ho dX11_takes_29 rfl (by decide) ?_
      exact a_iret ho dX11_takes_30 (rI hr0 (ro_el h)) hs0
    · replace h := if_f hc19 h
      refine a_iload_n ho dX11_takes_22 rfl rfl 3 rfl ?_
      refine a_callSi ho vy_X9_isColour ml_X11_150 (C_X9_isColour x3) rfl rfl (by decide) (Nat.le_of_ble_eq_true rfl) dX11_takes_23 rfl ?_
      refine a_if_ne (tgt := 31) ho dX11_takes_26 rfl rfl (fun hc26 => ?_) (fun hc26 => ?_)
      · replace h := if_f hc26 h
        refine a_aload_n ho dX11_takes_31 rfl rfl 0 rfl ?_
        refine a_getR ho fl_X11_28 o_0 fr_9_2 dX11_takes_32 rfl ?_
        refine a_getR (q := 13) ho fl_X11_113 o_10 (fr_2_6 _ o_10) dX11_takes_35 rfl ?_
        refine a_iload_n ho dX11_takes_38 rfl rfl 1 rfl ?_
        obtain ⟨hk39, h⟩ := ck_el h
        refine a_iald ho i_13 hk39 dX11_takes_39 rfl ?_
        obtain ⟨x40, hb40, h⟩ := bd_el h
        refine a_nmI hb40 ?_
        refine a_istore (L' := [(4, .int x40), (0, .ref (gad G 0)), (1, .int x1), (2, .int x2), (3, .int x3)]) ho dX11_takes_40 rfl (by decide) rfl ?_
        refine a_iload ho dX11_takes_42 rfl 0 rfl ?_
        refine a_callSi ho vy_X9_waxIn ml_X11_122 (C_X9_waxIn x40) rfl rfl (by decide) (Nat.le_of_ble_eq_true rfl) dX11_takes_44 rfl ?_
        refine a_if_le (tgt := 54) ho dX11_takes_47 rfl rfl (fun hc47 => ?_) (fun hc47 => ?_)
        · replace h := if_t hc47 h
          refine a_aload_n ho dX11_takes_54 rfl rfl 1 rfl ?_
          refine a_getR ho fl_X11_28 o_0 fr_9_2 dX11_takes_55 rfl ?_
          refine a_iload_n ho dX11_takes_58 rfl rfl 2 rfl ?_
          refine a_iload ho dX11_takes_59 rfl 0 rfl ?_
          refine a_iload_n ho dX11_takes_61 rfl rfl 3 rfl ?_
          refine a_iload_n ho dX11_takes_62 rfl rfl 4 rfl ?_
          obtain ⟨r63, hq63, h⟩ := ob_el h
          refine a_callVi ho vy_X2_gain ml_X11_162 o_10 (C_X2_gain hq63) rfl rfl (by decide) (Nat.le_of_ble_eq_true rfl) dX11_takes_63 rfl ?_
          exact a_iret ho dX11_takes_66 (rI hr0 (ro_el h)) hs0
        · replace h := if_f hc47 h
          refine a_iconst (v := 0) ho dX11_takes_50 rfl (by decide) ?_
          refine a_goto (tgt := 66) ho dX11_takes_51 rfl ?_
          exact a_iret ho dX11_takes_66 (rI hr0 (ro_el h)) hs0
      · replace h := if_t hc26 h
        refine a_iconst (v := (-1)) ho dX11_takes_29 rfl (by decide) ?_
        exact a_iret ho dX11_takes_30 (rI hr0 (ro_el h)) hs0
theorem C_X11_takes {l : Launch} {X : gX} {σ : gS} {r0 : Int32} {a1 : Int32} {a2 : Int32} {a3 : Int32} (h : F_X11_takes_0 a1 a2 a3 σ = some r0) : gCt l X yX11_takes (.code yX11_takes cX11_takes 5 (some .int)) 3 [.ref (X.2.2.1 0), .int a1, .int a2, .int a3] σ (some (.int r0)) σ :=
  gCt_of cX11_takes (by decide) (Nat.le_of_ble_eq_true rfl) (fun G hl hX hv hs ho => by subst hl; subst hX; exact a_sub [0, 1, 2, 3] rfl (T_X11_takes_0 ho hv hs h))
theorem T_X11_does_0 {G : gM} (ho : gOk G "WaxCloth" cX11_does 6 (some .int) 2) {r0 : Int32} (hr0 : gv0 G = some (.int r0)) {σ0 : gS} (hs0 : gs0 G = σ0) {x1 : Int32} {σ : gS} (h : F_X11_does_0 x1 σ = some (r0, σ0)) : gAt G 0 [(0, .ref (gad G 0)), (1, .int x1)] [] σ := by
  unfold F_X11_does_0 at h
  refine a_aload_n ho dX11_does_0 rfl rfl 0 rfl ?_
  refine a_getR ho fl_X11_28 o_0 fr_9_2 dX11_does_1 rfl ?_
  refine a_iload_n ho dX11_does_4 rfl rfl 1 rfl ?_
  refine a_i2l ho dX11_does_5 rfl ?_
  refine a_callVi ho vy_X2_hasDoing ml_X11_166 o_10 (C_X2_hasDoing (Int32.toInt64 x1)) rfl rfl (by decide) (Nat.le_of_ble_eq_true rfl) dX11_does_6 rfl ?_
  refine a_if_ne (tgt := 14) ho dX11_does_9 rfl rfl (fun hc9 => ?_) (fun hc9 => ?_)
  · replace h := if_f hc9 h
    refine a_aload_n ho dX11_does_14 rfl rfl 0 rfl ?_
    refine a_getR ho fl_X11_28 o_0 fr_9_2 dX11_does_15 rfl ?_
    refine a_getI ho fl_X11_170 o_10 (ff_2_3 _ o_10) dX11_does_18 rfl ?_
    refine a_sipush (v := 9999) ho dX11_does_21 rfl (by decide) ?_
    refine a_icmp_lt (tgt := 30) ho dX11_does_24 rfl rfl (fun hc24 => ?_) (fun hc24 => ?_)
    · replace h := if_t hc24 h
      refine a_aload_n ho dX11_does_30 rfl rfl 0 rfl ?_
      refine a_getR ho fl_X11_35 o_0 fr_9_3 dX11_does_31 rfl ?_
      refine a_aload_n ho dX11_does_34 rfl rfl 0 rfl ?_
      refine a_getR ho fl_X11_28 o_0 fr_9_2 dX11_does_35 rfl ?_
      refine a_getR (q := 13) ho fl_X11_113 o_10 (fr_2_6 _ o_10) dX11_does_38 rfl ?_
      obtain ⟨σ41, hq41, h⟩ := ob_el h
      refine a_callVv ho vy_X4_keep ml_X11_173 o_16 (C_X4_keep i_13 hq41) rfl rfl (by decide) (Nat.le_of_ble_eq_true rfl) dX11_does_41 rfl ?_
      refine a_aload_n ho dX11_does_44 rfl rfl 0 rfl ?_
      refine a_getR ho fl_X11_28 o_0 fr_9_2 dX11_does_45 rfl ?_
      refine a_iload_n ho dX11_does_48 rfl rfl 1 rfl ?_
      refine a_aload_n ho dX11_does_49 rfl rfl 0 rfl ?_
      refine a_getR ho fl_X11_28 o_0 fr_9_2 dX11_does_50 rfl ?_
      refine a_getR (q := 13) ho fl_X11_113 o_10 (fr_2_6 _ o_10) dX11_does_53 rfl ?_
      refine a_aload_n ho dX11_does_56 rfl rfl 0 rfl ?_
      refine a_getR ho fl_X11_28 o_0 fr_9_2 dX11_does_57 rfl ?_
      refine a_getR (q := 13) ho fl_X11_113 o_10 (fr_2_6 _ o_10) dX11_does_60 rfl ?_
      obtain ⟨r63, σ63, hq63, h⟩ := ob2_el h
      refine a_callVi ho vy_X2_apply ml_X11_177 o_10 (C_X2_apply i_13 i_13 hq63) rfl rfl (by decide) (Nat.le_of_ble_eq_true rfl) dX11_does_63 rfl ?_
      refine a_pop ho dX11_does_66 rfl rfl ?_
      refine a_aload_n ho dX11_does_67 rfl rfl 0 rfl ?_
      refine a_getR ho fl_X11_28 o_0 fr_9_2 dX11_does_68 rfl ?_
      refine a_dup ho dX11_does_71 rfl rfl ?_
      refine a_getI ho fl_X11_170 o_10 (ff_2_3 _ o_10) dX11_does_72 rfl ?_
      refine a_iconst (v := 1) ho dX11_does_75 rfl (by decide) ?_
      refine a_iadd ho dX11_does_76 rfl ?_
      refine a_putI ho fp_X11_170 o_10 (ff_2_3 _ o_10) dX11_does_77 rfl ?_
      obtain ⟨σ77, hs77, h⟩ := bd_el h
      refine a_nmS hs77 ?_
      refine a_aload_n ho dX11_does_80 rfl rfl 0 rfl ?_
      refine a_getR ho fl_X11_28 o_0 fr_9_2 dX11_does_81 rfl ?_
      refine a_aload_n ho dX11_does_84 rfl rfl 0 rfl ?_
      refine a_getR ho fl_X11_28 o_0 fr_9_2 dX11_does_85 rfl ?_
      refine a_getR (q := 13) ho fl_X11_113 o_10 (fr_2_6 _ o_10) dX11_does_88 rfl ?_
      obtain ⟨r91, hq91, h⟩ := ob_el h
      refine a_callVi ho vy_X2_rightSet ml_X11_181 o_10 (C_X2_rightSet i_13 hq91) rfl rfl (by decide) (Nat.le_of_ble_eq_true rfl) dX11_does_91 rfl ?_
      exact a_iret ho dX11_does_94 (rI hr0 (re_el h).1) (rS hs0 (re_el h).2)
    · replace h := if_f hc24 h
      refine a_bipush (v := (-3)) ho dX11_does_27 rfl (by decide) ?_
      exact a_iret ho dX11_does_29 (rI hr0 (re_el h).1) (rS hs0 (re_el h).2)
  · replace h := if_t hc9 h
    refine a_iconst (v := (-1)) ho dX11_does_12 rfl (by decide) ?_
    exact a_iret ho dX11_does_13 (rI hr0 (re_el h).1) (rS hs0 (re_el h).2)
theorem C_X11_does {l : Launch} {X : gX} {σ σ0 : gS} {r0 : Int32} {a1 : Int32} (h : F_X11_does_0 a1 σ = some (r0, σ0)) : gCt l X yX11_does (.code yX11_does cX11_does 2 (some .int)) 6 [.ref (X.2.2.1 0), .int a1] σ (some (.int r0)) σ0 :=
  gCt_of cX11_does (by decide) (Nat.le_of_ble_eq_true rfl) (fun G hl hX hv hs ho => by subst hl; subst hX; exact a_sub [0, 1] rfl (T_X11_does_0 ho hv hs h))
theorem T_X11_undo_0 {G : gM} (ho : gOk G "WaxCloth" cX11_undo 2 (some .int) 1) {r0 : Int32} (hr0 : gv0 G = some (.int r0)) {σ0 : gS} (hs0 : gs0 G = σ0) {σ : gS} (h : F_X11_undo_0 σ = some (r0, σ0)) : gAt G 0 [(0, .ref (gad G 0))] [] σ := by
  unfold F_X11_undo_0 at h
  refine a_aload_n ho dX11_undo_0 rfl rfl 0 rfl ?_
  refine a_getR ho fl_X11_35 o_0 fr_9_3 dX11_undo_1 rfl ?_
  refine a_aload_n ho dX11_undo_4 rfl rfl 0 rfl ?_
  refine a_getR ho fl_X11_28 o_0 fr_9_2 dX11_undo_5 rfl ?_
  refine a_getR (q := 13) ho fl_X11_113 o_10 (fr_2_6 _ o_10) dX11_undo_8 rfl ?_
  obtain ⟨r11, σ11, hq11, h⟩ := ob2_el h
  refine a_callVi ho vy_X4_takeBack ml_X11_185 o_16 (C_X4_takeBack i_13 hq11) rfl rfl (by decide) (Nat.le_of_ble_eq_true rfl) dX11_undo_11 rfl ?_
  refine a_if_ne (tgt := 20) ho dX11_undo_14 rfl rfl (fun hc14 => ?_) (fun hc14 => ?_)
  · replace h := if_f hc14 h
    refine a_aload_n ho dX11_undo_20 rfl rfl 0 rfl ?_
    refine a_getR ho fl_X11_28 o_0 fr_9_2 dX11_undo_21 rfl ?_
    refine a_dup ho dX11_undo_24 rfl rfl ?_
    refine a_getI ho fl_X11_170 o_10 (ff_2_3 _ o_10) dX11_undo_25 rfl ?_
    refine a_iconst (v := 1) ho dX11_undo_28 rfl (by decide) ?_
    refine a_isub ho dX11_undo_29 rfl ?_
    refine a_putI ho fp_X11_170 o_10 (ff_2_3 _ o_10) dX11_undo_30 rfl ?_
    obtain ⟨σ30, hs30, h⟩ := bd_el h
    refine a_nmS hs30 ?_
    refine a_aload_n ho dX11_undo_33 rfl rfl 0 rfl ?_
    refine a_getR ho fl_X11_35 o_0 fr_9_3 dX11_undo_34 rfl ?_
    refine a_getI ho fl_X11_189 o_16 (ff_3_0 _ o_16) dX11_undo_37 rfl ?_
    exact a_iret ho dX11_undo_40 (rI hr0 (re_el h).1) (rS hs0 (re_el h).2)
  · replace h := if_t hc14 h
    refine a_bipush (v := (-4)) ho dX11_undo_17 rfl (by decide) ?_
    exact a_iret ho dX11_undo_19 (rI hr0 (re_el h).1) (rS hs0 (re_el h).2)
theorem C_X11_undo {l : Launch} {X : gX} {σ σ0 : gS} {r0 : Int32} (h : F_X11_undo_0 σ = some (r0, σ0)) : gCt l X yX11_undo (.code yX11_undo cX11_undo 1 (some .int)) 2 [.ref (X.2.2.1 0)] σ (some (.int r0)) σ0 :=
  gCt_of cX11_undo (by decide) (Nat.le_of_ble_eq_true rfl) (fun G hl hX hv hs ho => by subst hl; subst hX; exact a_sub [0] rfl (T_X11_undo_0 ho hv hs h))
theorem T_X11_wish_0 {G : gM} (ho : gOk G "WaxCloth" cX11_wish 2 (some .int) 4) {r0 : Int32} (hr0 : gv0 G = some (.int r0)) {σ0 : gS} (hs0 : gs0 G = σ0) {x1 : Int32} {x2 : Int32} {σ : gS} (h : F_X11_wish_0 x1 x2 σ = some (r0, σ0)) : gAt G 0 [(0, .ref (gad G 0)), (1, .int x1), (2, .int x2)] [] σ := by
  unfold F_X11_wish_0 at h
  refine a_aload_n ho dX11_wish_0 rfl rfl 0 rfl ?_
  refine a_getR ho fl_X11_28 o_0 fr_9_2 dX11_wish_1 rfl ?_
  refine a_iload_n ho dX11_wish_4 rfl rfl 1 rfl ?_
  refine a_callVi ho vy_X2_hasSquare ml_X11_110 o_10 (C_X2_hasSquare x1) rfl rfl (by decide) (Nat.le_of_ble_eq_true rfl) dX11_wish_5 rfl ?_
  refine a_if_eq (tgt := 21) ho dX11_wish_8 rfl rfl (fun hc8 => ?_) (fun hc8 => ?_)
  · replace h := if_t hc8 h
    refine a_iconst (v := (-1)) ho dX11_wish_21 rfl (by decide) ?_
    exact a_iret ho dX11_wish_22 (rI hr0 (re_el h).1) (rS hs0 (re_el h).2)
  · replace h := if_f hc8 h
    refine a_iload_n ho dX11_wish_11 rfl rfl 2 rfl ?_
    refine a_if_lt (tgt := 21) ho dX11_wish_12 rfl rfl (fun hc12 => ?_) (fun hc12 => ?_)
    · replace h := if_t hc12 h
      refine a_iconst (v := (-1)) ho dX11_wish_21 rfl (by decide) ?_
      exact a_iret ho dX11_wish_22 (rI hr0 (re_el h).1) (rS hs0 (re_el h).2)
    · replace h := if_f hc12 h
      refine a_iload_n ho dX11_wish_15 rfl rfl 2 rfl ?_
      refine a_bipush (v := 7) ho dX11_wish_16 rfl (by decide) ?_
      refine a_icmp_le (tgt := 23) ho dX11_wish_18 rfl rfl (fun hc18 => ?_) (fun hc18 => ?_)
      · replace h := if_t hc18 h
        refine a_aload_n ho dX11_wish_23 rfl rfl 0 rfl ?_
        refine a_getR ho fl_X11_28 o_0 fr_9_2 dX11_wish_24 rfl ?_
        refine a_getR (q := 12) ho fl_X11_119 o_10 (fr_2_5 _ o_10) dX11_wish_27 rfl ?_
        refine a_iload_n ho dX11_wish_30 rfl rfl 1 rfl ?_
        obtain ⟨hk31, h⟩ := ck_el h
        refine a_iald ho i_12 hk31 dX11_wish_31 rfl ?_
        obtain ⟨x32, hb32, h⟩ := bd_el h
        refine a_nmI hb32 ?_
        refine a_istore_n (L' := [(3, .int x32), (0, .ref (gad G 0)), (1, .int x1), (2, .int x2)]) ho dX11_wish_32 rfl rfl (by decide) rfl ?_
        refine a_aload_n ho dX11_wish_33 rfl rfl 1 rfl ?_
        refine a_getR ho fl_X11_28 o_0 fr_9_2 dX11_wish_34 rfl ?_
        refine a_getR (q := 12) ho fl_X11_119 o_10 (fr_2_5 _ o_10) dX11_wish_37 rfl ?_
        refine a_iload_n ho dX11_wish_40 rfl rfl 2 rfl ?_
        refine a_iload_n ho dX11_wish_41 rfl rfl 3 rfl ?_
        obtain ⟨hk42, h⟩ := ck_el h
        refine a_iast ho i_12 hk42 dX11_wish_42 rfl ?_
        obtain ⟨σ42, hs42, h⟩ := bd_el h
        refine a_nmS hs42 ?_
        refine a_iload_n ho dX11_wish_43 rfl rfl 0 rfl ?_
        exact a_iret ho dX11_wish_44 (rI hr0 (re_el h).1) (rS hs0 (re_el h).2)
      · replace h := if_f hc18 h
        refine a_iconst (v := (-1)) ho dX11_wish_21 rfl (by decide) ?_
        exact a_iret ho dX11_wish_22 (rI hr0 (re_el h).1) (rS hs0 (re_el h).2)
theorem C_X11_wish {l : Launch} {X : gX} {σ σ0 : gS} {r0 : Int32} {a1 : Int32} {a2 : Int32} (h : F_X11_wish_0 a1 a2 σ = some (r0, σ0)) : gCt l X yX11_wish (.code yX11_wish cX11_wish 4 (some .int)) 2 [.ref (X.2.2.1 0), .int a1, .int a2] σ (some (.int r0)) σ0 :=
  gCt_of cX11_wish (by decide) (Nat.le_of_ble_eq_true rfl) (fun G hl hX hv hs ho => by subst hl; subst hX; exact a_sub [0, 1, 2] rfl (T_X11_wish_0 ho hv hs h))
theorem T_X11_image_0 {G : gM} (ho : gOk G "WaxCloth" cX11_image 2 (some .int) 2) {r0 : Int32} (hr0 : gv0 G = some (.int r0)) {σ0 : gS} (hs0 : gs0 G = σ0) {x1 : Int32} {σ : gS} (h : F_X11_image_0 x1 σ = some (r0, σ0)) : gAt G 0 [(0, .ref (gad G 0)), (1, .int x1)] [] σ := by
  unfold F_X11_image_0 at h
  refine a_iload_n ho dX11_image_0 rfl rfl 1 rfl ?_
  refine a_if_lt (tgt := 9) ho dX11_image_1 rfl rfl (fun hc1 => ?_) (fun hc1 => ?_)
  · replace h := if_t hc1 h
    refine a_iconst (v := (-1)) ho dX11_image_9 rfl (by decide) ?_
    exact a_iret ho dX11_image_10 (rI hr0 (re_el h).1) (rS hs0 (re_el h).2)
  · replace h := if_f hc1 h
    refine a_iload_n ho dX11_image_4 rfl rfl 1 rfl ?_
    refine a_iconst (v := 2) ho dX11_image_5 rfl (by decide) ?_
    refine a_icmp_lt (tgt := 11) ho dX11_image_6 rfl rfl (fun hc6 => ?_) (fun hc6 => ?_)
    · replace h := if_t hc6 h
      refine a_aload_n ho dX11_image_11 rfl rfl 0 rfl ?_
      refine a_getR ho fl_X11_28 o_0 fr_9_2 dX11_image_12 rfl ?_
      refine a_callVi ho vy_X2_stands ml_X11_192 o_10 (C_X2_stands o_10) rfl rfl (by decide) (Nat.le_of_ble_eq_true rfl) dX11_image_15 rfl ?_
      refine a_if_ne (tgt := 24) ho dX11_image_18 rfl rfl (fun hc18 => ?_) (fun hc18 => ?_)
      · replace h := if_f hc18 h
        refine a_aload_n ho dX11_image_24 rfl rfl 0 rfl ?_
        refine a_getR ho fl_X11_39 o_0 fr_9_4 dX11_image_25 rfl ?_
        refine a_iload_n ho dX11_image_28 rfl rfl 1 rfl ?_
        obtain ⟨hk29, h⟩ := ck_el h
        refine a_aald ho (by decide) r_42 hk29 (ar_42 _ (rng_lt hk29)) dX11_image_29 rfl ?_
        refine a_aload_n ho dX11_image_30 rfl rfl 0 rfl ?_
        refine a_getR ho fl_X11_28 o_0 fr_9_2 dX11_image_31 rfl ?_
        obtain ⟨σ34, hq34, h⟩ := ob_el h
        refine a_callVv ho vy_X2_become ml_X11_100 (at_42 _ (rng_lt hk29)) (C_X2_become (at_42 _ (rng_lt hk29)) o_10 hq34) rfl rfl (by decide) (Nat.le_of_ble_eq_true rfl) dX11_image_34 rfl ?_
        refine a_aload_n ho dX11_image_37 rfl rfl 0 rfl ?_
        refine a_getR ho fl_X11_28 o_0 fr_9_2 dX11_image_38 rfl ?_
        refine a_getI ho fl_X11_170 o_10 (ff_2_3 _ o_10) dX11_image_41 rfl ?_
        exact a_iret ho dX11_image_44 (rI hr0 (re_el h).1) (rS hs0 (re_el h).2)
      · replace h := if_t hc18 h
        refine a_bipush (v := (-2)) ho dX11_image_21 rfl (by decide) ?_
        exact a_iret ho dX11_image_23 (rI hr0 (re_el h).1) (rS hs0 (re_el h).2)
    · replace h := if_f hc6 h
      refine a_iconst (v := (-1)) ho dX11_image_9 rfl (by decide) ?_
      exact a_iret ho dX11_image_10 (rI hr0 (re_el h).1) (rS hs0 (re_el h).2)
theorem C_X11_image {l : Launch} {X : gX} {σ σ0 : gS} {r0 : Int32} {a1 : Int32} (h : F_X11_image_0 a1 σ = some (r0, σ0)) : gCt l X yX11_image (.code yX11_image cX11_image 2 (some .int)) 2 [.ref (X.2.2.1 0), .int a1] σ (some (.int r0)) σ0 :=
  gCt_of cX11_image (by decide) (Nat.le_of_ble_eq_true rfl) (fun G hl hX hv hs ho => by subst hl; subst hX; exact a_sub [0, 1] rfl (T_X11_image_0 ho hv hs h))
theorem T_X11_restore_0 {G : gM} (ho : gOk G "WaxCloth" cX11_restore 2 (some .int) 2) {r0 : Int32} (hr0 : gv0 G = some (.int r0)) {σ0 : gS} (hs0 : gs0 G = σ0) {x1 : Int32} {σ : gS} (h : F_X11_restore_0 x1 σ = some (r0, σ0)) : gAt G 0 [(0, .ref (gad G 0)), (1, .int x1)] [] σ := by
  unfold F_X11_restore_0 at h
  refine a_iload_n ho dX11_restore_0 rfl rfl 1 rfl ?_
  refine a_if_lt (tgt := 9) ho dX11_restore_1 rfl rfl (fun hc1 => ?_) (fun hc1 => ?_)
  · replace h := if_t hc1 h
    refine a_iconst (v := (-1)) ho dX11_restore_9 rfl (by decide) ?_
    exact a_iret ho dX11_restore_10 (rI hr0 (re_el h).1) (rS hs0 (re_el h).2)
  · replace h := if_f hc1 h
    refine a_iload_n ho dX11_restore_4 rfl rfl 1 rfl ?_
    refine a_iconst (v := 2) ho dX11_restore_5 rfl (by decide) ?_
    refine a_icmp_lt (tgt := 11) ho dX11_restore_6 rfl rfl (fun hc6 => ?_) (fun hc6 => ?_)
    · replace h := if_t hc6 h
      refine a_aload_n ho dX11_restore_11 rfl rfl 0 rfl ?_
      refine a_getR ho fl_X11_39 o_0 fr_9_4 dX11_restore_12 rfl ?_
      refine a_iload_n ho dX11_restore_15 rfl rfl 1 rfl ?_
      obtain ⟨hk16, h⟩ := ck_el h
      refine a_aald ho (by decide) r_42 hk16 (ar_42 _ (rng_lt hk16)) dX11_restore_16 rfl ?_
      refine a_callVi ho vy_X2_stands ml_X11_192 (at_42 _ (rng_lt hk16)) (C_X2_stands (at_42 _ (rng_lt hk16))) rfl rfl (by decide) (Nat.le_of_ble_eq_true rfl) dX11_restore_17 rfl ?_
      refine a_if_ne (tgt := 26) ho dX11_restore_20 rfl rfl (fun hc20 => ?_) (fun hc20 => ?_)
      · replace h := if_f hc20 h
        refine a_aload_n ho dX11_restore_26 rfl rfl 0 rfl ?_
        refine a_getR ho fl_X11_28 o_0 fr_9_2 dX11_restore_27 rfl ?_
        refine a_aload_n ho dX11_restore_30 rfl rfl 0 rfl ?_
        refine a_getR ho fl_X11_39 o_0 fr_9_4 dX11_restore_31 rfl ?_
        refine a_iload_n ho dX11_restore_34 rfl rfl 1 rfl ?_
        obtain ⟨hk35, h⟩ := ck_el h
        refine a_aald ho (by decide) r_42 hk35 (ar_42 _ (rng_lt hk35)) dX11_restore_35 rfl ?_
        obtain ⟨σ36, hq36, h⟩ := ob_el h
        refine a_callVv ho vy_X2_become ml_X11_100 o_10 (C_X2_become o_10 (at_42 _ (rng_lt hk35)) hq36) rfl rfl (by decide) (Nat.le_of_ble_eq_true rfl) dX11_restore_36 rfl ?_
        refine a_aload_n ho dX11_restore_39 rfl rfl 0 rfl ?_
        refine a_getR ho fl_X11_35 o_0 fr_9_3 dX11_restore_40 rfl ?_
        obtain ⟨σ43, hq43, h⟩ := ob_el h
        refine a_callVv ho vy_X4_forget ml_X11_104 o_16 (C_X4_forget hq43) rfl rfl (by decide) (Nat.le_of_ble_eq_true rfl) dX11_restore_43 rfl ?_
        refine a_aload_n ho dX11_restore_46 rfl rfl 0 rfl ?_
        refine a_getR ho fl_X11_28 o_0 fr_9_2 dX11_restore_47 rfl ?_
        refine a_getI ho fl_X11_170 o_10 (ff_2_3 _ o_10) dX11_restore_50 rfl ?_
        exact a_iret ho dX11_restore_53 (rI hr0 (re_el h).1) (rS hs0 (re_el h).2)
      · replace h := if_t hc20 h
        refine a_bipush (v := (-2)) ho dX11_restore_23 rfl (by decide) ?_
        exact a_iret ho dX11_restore_25 (rI hr0 (re_el h).1) (rS hs0 (re_el h).2)
    · replace h := if_f hc6 h
      refine a_iconst (v := (-1)) ho dX11_restore_9 rfl (by decide) ?_
      exact a_iret ho dX11_restore_10 (rI hr0 (re_el h).1) (rS hs0 (re_el h).2)
theorem C_X11_restore {l : Launch} {X : gX} {σ σ0 : gS} {r0 : Int32} {a1 : Int32} (h : F_X11_restore_0 a1 σ = some (r0, σ0)) : gCt l X yX11_restore (.code yX11_restore cX11_restore 2 (some .int)) 2 [.ref (X.2.2.1 0), .int a1] σ (some (.int r0)) σ0 :=
  gCt_of cX11_restore (by decide) (Nat.le_of_ble_eq_true rfl) (fun G hl hX hv hs ho => by subst hl; subst hX; exact a_sub [0, 1] rfl (T_X11_restore_0 ho hv hs h))
theorem T_X11_plan_0 {G : gM} (ho : gOk G "WaxCloth" cX11_plan 15 (some .int) 3) {r0 : Int32} (hr0 : gv0 G = some (.int r0)) {σ0 : gS} (hs0 : gs0 G = σ0) {x1 : Int32} {x2 : Int32} {σ : gS} (h : F_X11_plan_0 x1 x2 σ = some (r0, σ0)) : gAt G 0 [(0, .ref (gad G 0)), (1, .int x1), (2, .int x2)] [] σ := by
  unfold F_X11_plan_0 at h
  refine a_iload_n ho dX11_plan_0 rfl rfl 1 rfl ?_
  refine a_if_lt (tgt := 15) ho dX11_plan_1 rfl rfl (fun hc1 => ?_) (fun hc1 => ?_)
  · replace h := if_t hc1 h
    refine a_iconst (v := (-1)) ho dX11_plan_15 rfl (by decide) ?_
    exact a_iret ho dX11_plan_16 (rI hr0 (re_el h).1) (rS hs0 (re_el h).2)
  · replace h := if_f hc1 h
    refine a_iload_n ho dX11_plan_4 rfl rfl 1 rfl ?_
    refine a_iconst (v := 4) ho dX11_plan_5 rfl (by decide) ?_
    refine a_icmp_gt (tgt := 15) ho dX11_plan_6 rfl rfl (fun hc6 => ?_) (fun hc6 => ?_)
    · replace h := if_t hc6 h
      refine a_iconst (v := (-1)) ho dX11_plan_15 rfl (by decide) ?_
      exact a_iret ho dX11_plan_16 (rI hr0 (re_el h).1) (rS hs0 (re_el h).2)
    · replace h := if_f hc6 h
      refine a_iload_n ho dX11_plan_9 rfl rfl 2 rfl ?_
      refine a_bipush (v := (-2)) ho dX11_plan_10 rfl (by decide) ?_
      refine a_icmp_ge (tgt := 17) ho dX11_plan_12 rfl rfl (fun hc12 => ?_) (fun hc12 => ?_)
      · replace h := if_t hc12 h
        refine a_aload_n ho dX11_plan_17 rfl rfl 0 rfl ?_
        refine a_getR ho fl_X11_28 o_0 fr_9_2 dX11_plan_18 rfl ?_
        refine a_callVi ho vy_X2_stands ml_X11_192 o_10 (C_X2_stands o_10) rfl rfl (by decide) (Nat.le_of_ble_eq_true rfl) dX11_plan_21 rfl ?_
        refine a_if_ne (tgt := 30) ho dX11_plan_24 rfl rfl (fun hc24 => ?_) (fun hc24 => ?_)
        · replace h := if_f hc24 h
          refine a_aload_n ho dX11_plan_30 rfl rfl 0 rfl ?_
          refine a_getR ho fl_X11_53 o_0 fr_9_6 dX11_plan_31 rfl ?_
          refine a_aload_n ho dX11_plan_34 rfl rfl 0 rfl ?_
          refine a_getR ho fl_X11_28 o_0 fr_9_2 dX11_plan_35 rfl ?_
          refine a_iload_n ho dX11_plan_38 rfl rfl 1 rfl ?_
          obtain ⟨σ39, hq39, h⟩ := ob_el h
          refine a_callVv ho vy_X5_search ml_X11_195 o_64 (C_X5_search hq39) rfl rfl (by decide) (Nat.le_of_ble_eq_true rfl) dX11_plan_39 rfl ?_
          refine a_iload_n ho dX11_plan_42 rfl rfl 2 rfl ?_
          refine a_bipush (v := (-2)) ho dX11_plan_43 rfl (by decide) ?_
          refine a_icmp_ne (tgt := 56) ho dX11_plan_45 rfl rfl (fun hc45 => ?_) (fun hc45 => ?_)
          · replace h := if_f hc45 h
            refine a_iload_n ho dX11_plan_56 rfl rfl 2 rfl ?_
            refine a_iconst (v := (-1)) ho dX11_plan_57 rfl (by decide) ?_
            refine a_icmp_ne (tgt := 69) ho dX11_plan_58 rfl rfl (fun hc58 => ?_) (fun hc58 => ?_)
            · replace h := if_f hc58 h
              refine a_iload_n ho dX11_plan_69 rfl rfl 2 rfl ?_
              refine a_aload_n ho dX11_plan_70 rfl rfl 0 rfl ?_
              refine a_getR ho fl_X11_53 o_0 fr_9_6 dX11_plan_71 rfl ?_
              refine a_getI ho fl_X11_202 o_64 (ff_4_1 _ o_64) dX11_plan_74 rfl ?_
              refine a_icmp_ge (tgt := 92) ho dX11_plan_77 rfl rfl (fun hc77 => ?_) (fun hc77 => ?_)
              · replace h := if_t hc77 h
                refine a_bipush (v := (-4)) ho dX11_plan_92 rfl (by decide) ?_
                exact a_iret ho dX11_plan_94 (rI hr0 (re_el h).1) (rS hs0 (re_el h).2)
              · replace h := if_f hc77 h
                refine a_aload_n ho dX11_plan_80 rfl rfl 0 rfl ?_
                refine a_getR ho fl_X11_53 o_0 fr_9_6 dX11_plan_81 rfl ?_
                refine a_getR ho fl_X11_205 o_64 fr_4_2 dX11_plan_84 rfl ?_
                refine a_iload_n ho dX11_plan_87 rfl rfl 2 rfl ?_
                obtain ⟨hk88, h⟩ := ck_el h
                refine a_iald ho i_65 hk88 dX11_plan_88 rfl ?_
                refine a_goto (tgt := 94) ho dX11_plan_89 rfl ?_
                exact a_iret ho dX11_plan_94 (rI hr0 (re_el h).1) (rS hs0 (re_el h).2)
            · replace h := if_t hc58 h
              refine a_aload_n ho dX11_plan_61 rfl rfl 0 rfl ?_
              refine a_getR ho fl_X11_53 o_0 fr_9_6 dX11_plan_62 rfl ?_
              refine a_getI ho fl_X11_202 o_64 (ff_4_1 _ o_64) dX11_plan_65 rfl ?_
              exact a_iret ho dX11_plan_68 (rI hr0 (re_el h).1) (rS hs0 (re_el h).2)
          · replace h := if_t hc45 h
            refine a_aload_n ho dX11_plan_48 rfl rfl 0 rfl ?_
            refine a_getR ho fl_X11_53 o_0 fr_9_6 dX11_plan_49 rfl ?_
            refine a_getI ho fl_X11_199 o_64 (ff_4_0 _ o_64) dX11_plan_52 rfl ?_
            exact a_iret ho dX11_plan_55 (rI hr0 (re_el h).1) (rS hs0 (re_el h).2)
        · replace h := if_t hc24 h
          refine a_bipush (v := (-2)) ho dX11_plan_27 rfl (by decide) ?_
          exact a_iret ho dX11_plan_29 (rI hr0 (re_el h).1) (rS hs0 (re_el h).2)
      · replace h := if_f hc12 h
        refine a_iconst (v := (-1)) ho dX11_plan_15 rfl (by decide) ?_
        exact a_iret ho dX11_plan_16 (rI hr0 (re_el h).1) (rS hs0 (re_el h).2)
theorem C_X11_plan {l : Launch} {X : gX} {σ σ0 : gS} {r0 : Int32} {a1 : Int32} {a2 : Int32} (h : F_X11_plan_0 a1 a2 σ = some (r0, σ0)) : gCt l X yX11_plan (.code yX11_plan cX11_plan 3 (some .int)) 15 [.ref (X.2.2.1 0), .int a1, .int a2] σ (some (.int r0)) σ0 :=
  gCt_of cX11_plan (by decide) (Nat.le_of_ble_eq_true rfl) (fun G hl hX hv hs ho => by subst hl; subst hX; exact a_sub [0, 1, 2] rfl (T_X11_plan_0 ho hv hs h))
theorem T_X11_rows_0 {G : gM} (ho : gOk G "WaxCloth" cX11_rows 13 (some .int) 7) {r0 : Int32} (hr0 : gv0 G = some (.int r0)) {σ0 : gS} (hs0 : gs0 G = σ0) {x1 : Int32} {x2 : Int32} {x3 : Int32} {x4 : Int32} {x5 : Int32} {x6 : Int32} {σ : gS} (h : F_X11_rows_0 x1 x2 x3 x4 x5 x6 σ = some (r0, σ0)) : gAt G 0 [(0, .ref (gad G 0)), (1, .int x1), (2, .int x2), (3, .int x3), (4, .int x4), (5, .int x5), (6, .int x6)] [] σ := by
  unfold F_X11_rows_0 at h
  refine a_aload_n ho dX11_rows_0 rfl rfl 0 rfl ?_
  refine a_getR ho fl_X11_28 o_0 fr_9_2 dX11_rows_1 rfl ?_
  refine a_iload_n ho dX11_rows_4 rfl rfl 1 rfl ?_
  refine a_callVi ho vy_X2_hasSquare ml_X11_110 o_10 (C_X2_hasSquare x1) rfl rfl (by decide) (Nat.le_of_ble_eq_true rfl) dX11_rows_5 rfl ?_
  refine a_if_eq (tgt := 28) ho dX11_rows_8 rfl rfl (fun hc8 => ?_) (fun hc8 => ?_)
  · replace h := if_t hc8 h
    refine a_iconst (v := (-1)) ho dX11_rows_28 rfl (by decide) ?_
    exact a_iret ho dX11_rows_29 (rI hr0 (re_el h).1) (rS hs0 (re_el h).2)
  · replace h := if_f hc8 h
    refine a_iload ho dX11_rows_11 rfl 5 rfl ?_
    refine a_if_lt (tgt := 28) ho dX11_rows_13 rfl rfl (fun hc13 => ?_) (fun hc13 => ?_)
    · replace h := if_t hc13 h
      refine a_iconst (v := (-1)) ho dX11_rows_28 rfl (by decide) ?_
      exact a_iret ho dX11_rows_29 (rI hr0 (re_el h).1) (rS hs0 (re_el h).2)
    · replace h := if_f hc13 h
      refine a_iload ho dX11_rows_16 rfl 5 rfl ?_
      refine a_iconst (v := 5) ho dX11_rows_18 rfl (by decide) ?_
      refine a_icmp_gt (tgt := 28) ho dX11_rows_19 rfl rfl (fun hc19 => ?_) (fun hc19 => ?_)
      · replace h := if_t hc19 h
        refine a_iconst (v := (-1)) ho dX11_rows_28 rfl (by decide) ?_
        exact a_iret ho dX11_rows_29 (rI hr0 (re_el h).1) (rS hs0 (re_el h).2)
      · replace h := if_f hc19 h
        refine a_iload ho dX11_rows_22 rfl 6 rfl ?_
        refine a_iconst (v := (-1)) ho dX11_rows_24 rfl (by decide) ?_
        refine a_icmp_ge (tgt := 30) ho dX11_rows_25 rfl rfl (fun hc25 => ?_) (fun hc25 => ?_)
        · replace h := if_t hc25 h
          refine a_iload_n ho dX11_rows_30 rfl rfl 2 rfl ?_
          refine a_callSi ho vy_X9_isAmount ml_X11_208 (C_X9_isAmount x2) rfl rfl (by decide) (Nat.le_of_ble_eq_true rfl) dX11_rows_31 rfl ?_
          refine a_if_eq (tgt := 52) ho dX11_rows_34 rfl rfl (fun hc34 => ?_) (fun hc34 => ?_)
          · replace h := if_t hc34 h
            refine a_iconst (v := (-1)) ho dX11_rows_52 rfl (by decide) ?_
            exact a_iret ho dX11_rows_53 (rI hr0 (re_el h).1) (rS hs0 (re_el h).2)
          · replace h := if_f hc34 h
            refine a_iload_n ho dX11_rows_37 rfl rfl 3 rfl ?_
            refine a_callSi ho vy_X9_isAmount ml_X11_208 (C_X9_isAmount x3) rfl rfl (by decide) (Nat.le_of_ble_eq_true rfl) dX11_rows_38 rfl ?_
            refine a_if_eq (tgt := 52) ho dX11_rows_41 rfl rfl (fun hc41 => ?_) (fun hc41 => ?_)
            · replace h := if_t hc41 h
              refine a_iconst (v := (-1)) ho dX11_rows_52 rfl (by decide) ?_
              exact a_iret ho dX11_rows_53 (rI hr0 (re_el h).1) (rS hs0 (re_el h).2)
            · replace h := if_f hc41 h
              refine a_iload ho dX11_rows_44 rfl 4 rfl ?_
              refine a_callSi ho vy_X9_isAmount ml_X11_208 (C_X9_isAmount x4) rfl rfl (by decide) (Nat.le_of_ble_eq_true rfl) dX11_rows_46 rfl ?_
              refine a_if_ne (tgt := 54) ho dX11_rows_49 rfl rfl (fun hc49 => ?_) (fun hc49 => ?_)
              · replace h := if_f hc49 h
                refine a_aload_n ho dX11_rows_54 rfl rfl 0 rfl ?_
                refine a_getR ho fl_X11_60 o_0 fr_9_7 dX11_rows_55 rfl ?_
                refine a_aload_n ho dX11_rows_58 rfl rfl 0 rfl ?_
                refine a_getR ho fl_X11_28 o_0 fr_9_2 dX11_rows_59 rfl ?_
                refine a_iload_n ho dX11_rows_62 rfl rfl 1 rfl ?_
                refine a_iload ho dX11_rows_63 rfl 5 rfl ?_
                refine a_iload_n ho dX11_rows_65 rfl rfl 2 rfl ?_
                refine a_iload_n ho dX11_rows_66 rfl rfl 3 rfl ?_
                refine a_iload ho dX11_rows_67 rfl 4 rfl ?_
                refine a_callSi ho vy_X9_ofShade ml_X11_211 (C_X9_ofShade x2 x3 x4) rfl rfl (by decide) (Nat.le_of_ble_eq_true rfl) dX11_rows_69 rfl ?_
                obtain ⟨σ72, hq72, h⟩ := ob_el h
                refine a_callVv ho vy_X0_walk ml_X11_215 o_73 (C_X0_walk hq72) rfl rfl (by decide) (Nat.le_of_ble_eq_true rfl) dX11_rows_72 rfl ?_
                refine a_iload ho dX11_rows_75 rfl 6 rfl ?_
                refine a_iconst (v := (-1)) ho dX11_rows_77 rfl (by decide) ?_
                refine a_icmp_ne (tgt := 89) ho dX11_rows_78 rfl rfl (fun hc78 => ?_) (fun hc78 => ?_)
                · replace h := if_f hc78 h
                  refine a_aload_n ho dX11_rows_89 rfl rfl 0 rfl ?_
                  refine a_getR ho fl_X11_60 o_0 fr_9_7 dX11_rows_90 rfl ?_
                  refine a_getI ho fl_X11_219 o_73 (ff_0_0 _ o_73) dX11_rows_93 rfl ?_
                  refine a_if_le (tgt := 119) ho dX11_rows_96 rfl rfl (fun hc96 => ?_) (fun hc96 => ?_)
                  · replace h := if_t hc96 h
                    refine a_bipush (v := (-4)) ho dX11_rows_119 rfl (by decide) ?_
                    exact a_iret ho dX11_rows_121 (rI hr0 (re_el h).1) (rS hs0 (re_el h).2)
                  · replace h := if_f hc96 h
                    refine a_iload ho dX11_rows_99 rfl 6 rfl ?_
                    refine a_iload ho dX11_rows_101 rfl 5 rfl ?_
                    refine a_icmp_ge (tgt := 119) ho dX11_rows_103 rfl rfl (fun hc103 => ?_) (fun hc103 => ?_)
                    · replace h := if_t hc103 h
                      refine a_bipush (v := (-4)) ho dX11_rows_119 rfl (by decide) ?_
                      exact a_iret ho dX11_rows_121 (rI hr0 (re_el h).1) (rS hs0 (re_el h).2)
                    · replace h := if_f hc103 h
                      refine a_aload_n ho dX11_rows_106 rfl rfl 0 rfl ?_
                      refine a_getR ho fl_X11_60 o_0 fr_9_7 dX11_rows_107 rfl ?_
                      refine a_getR ho fl_X11_222 o_73 fr_0_2 dX11_rows_110 rfl ?_
                      refine a_iload ho dX11_rows_113 rfl 6 rfl ?_
                      obtain ⟨hk115, h⟩ := ck_el h
                      refine a_iald ho i_74 hk115 dX11_rows_115 rfl ?_
                      refine a_goto (tgt := 121) ho dX11_rows_116 rfl ?_
                      exact a_iret ho dX11_rows_121 (rI hr0 (re_el h).1) (rS hs0 (re_el h).2)
                · replace h := if_t hc78 h
                  refine a_aload_n ho dX11_rows_81 rfl rfl 0 rfl ?_
                  refine a_getR ho fl_X11_60 o_0 fr_9_7 dX11_rows_82 rfl ?_
                  refine a_getI ho fl_X11_219 o_73 (ff_0_0 _ o_73) dX11_rows_85 rfl ?_
                  exact a_iret ho dX11_rows_88 (rI hr0 (re_el h).1) (rS hs0 (re_el h).2)
              · replace h := if_t hc49 h
                refine a_iconst (v := (-1)) ho dX11_rows_52 rfl (by decide) ?_
                exact a_iret ho dX11_rows_53 (rI hr0 (re_el h).1) (rS hs0 (re_el h).2)
        · replace h := if_f hc25 h
          refine a_iconst (v := (-1)) ho dX11_rows_28 rfl (by decide) ?_
          exact a_iret ho dX11_rows_29 (rI hr0 (re_el h).1) (rS hs0 (re_el h).2)
theorem C_X11_rows {l : Launch} {X : gX} {σ σ0 : gS} {r0 : Int32} {a1 : Int32} {a2 : Int32} {a3 : Int32} {a4 : Int32} {a5 : Int32} {a6 : Int32} (h : F_X11_rows_0 a1 a2 a3 a4 a5 a6 σ = some (r0, σ0)) : gCt l X yX11_rows (.code yX11_rows cX11_rows 7 (some .int)) 13 [.ref (X.2.2.1 0), .int a1, .int a2, .int a3, .int a4, .int a5, .int a6] σ (some (.int r0)) σ0 :=
  gCt_of cX11_rows (by decide) (Nat.le_of_ble_eq_true rfl) (fun G hl hX hv hs ho => by subst hl; subst hX; exact a_sub [0, 1, 2, 3, 4, 5, 6] rfl (T_X11_rows_0 ho hv hs h))
theorem T_X11_shades_0 {G : gM} (ho : gOk G "WaxCloth" cX11_shades 13 (some .int) 3) {r0 : Int32} (hr0 : gv0 G = some (.int r0)) {σ0 : gS} (hs0 : gs0 G = σ0) {x1 : Int32} {x2 : Int32} {σ : gS} (h : F_X11_shades_0 x1 x2 σ = some (r0, σ0)) : gAt G 0 [(0, .ref (gad G 0)), (1, .int x1), (2, .int x2)] [] σ := by
  unfold F_X11_shades_0 at h
  refine a_aload_n ho dX11_shades_0 rfl rfl 0 rfl ?_
  refine a_getR ho fl_X11_28 o_0 fr_9_2 dX11_shades_1 rfl ?_
  refine a_iload_n ho dX11_shades_4 rfl rfl 1 rfl ?_
  refine a_callVi ho vy_X2_hasSquare ml_X11_110 o_10 (C_X2_hasSquare x1) rfl rfl (by decide) (Nat.le_of_ble_eq_true rfl) dX11_shades_5 rfl ?_
  refine a_if_eq (tgt := 20) ho dX11_shades_8 rfl rfl (fun hc8 => ?_) (fun hc8 => ?_)
  · replace h := if_t hc8 h
    refine a_iconst (v := (-1)) ho dX11_shades_20 rfl (by decide) ?_
    exact a_iret ho dX11_shades_21 (rI hr0 (re_el h).1) (rS hs0 (re_el h).2)
  · replace h := if_f hc8 h
    refine a_iload_n ho dX11_shades_11 rfl rfl 2 rfl ?_
    refine a_if_lt (tgt := 20) ho dX11_shades_12 rfl rfl (fun hc12 => ?_) (fun hc12 => ?_)
    · replace h := if_t hc12 h
      refine a_iconst (v := (-1)) ho dX11_shades_20 rfl (by decide) ?_
      exact a_iret ho dX11_shades_21 (rI hr0 (re_el h).1) (rS hs0 (re_el h).2)
    · replace h := if_f hc12 h
      refine a_iload_n ho dX11_shades_15 rfl rfl 2 rfl ?_
      refine a_iconst (v := 5) ho dX11_shades_16 rfl (by decide) ?_
      refine a_icmp_le (tgt := 22) ho dX11_shades_17 rfl rfl (fun hc17 => ?_) (fun hc17 => ?_)
      · replace h := if_t hc17 h
        refine a_aload_n ho dX11_shades_22 rfl rfl 0 rfl ?_
        refine a_getR ho fl_X11_60 o_0 fr_9_7 dX11_shades_23 rfl ?_
        refine a_aload_n ho dX11_shades_26 rfl rfl 0 rfl ?_
        refine a_getR ho fl_X11_28 o_0 fr_9_2 dX11_shades_27 rfl ?_
        refine a_iload_n ho dX11_shades_30 rfl rfl 1 rfl ?_
        refine a_iload_n ho dX11_shades_31 rfl rfl 2 rfl ?_
        refine a_iconst (v := 0) ho dX11_shades_32 rfl (by decide) ?_
        obtain ⟨σ33, hq33, h⟩ := ob_el h
        refine a_callVv ho vy_X0_walk ml_X11_215 o_73 (C_X0_walk hq33) rfl rfl (by decide) (Nat.le_of_ble_eq_true rfl) dX11_shades_33 rfl ?_
        refine a_aload_n ho dX11_shades_36 rfl rfl 0 rfl ?_
        refine a_getR ho fl_X11_60 o_0 fr_9_7 dX11_shades_37 rfl ?_
        refine a_getI ho fl_X11_225 o_73 (ff_0_1 _ o_73) dX11_shades_40 rfl ?_
        exact a_iret ho dX11_shades_43 (rI hr0 (re_el h).1) (rS hs0 (re_el h).2)
      · replace h := if_f hc17 h
        refine a_iconst (v := (-1)) ho dX11_shades_20 rfl (by decide) ?_
        exact a_iret ho dX11_shades_21 (rI hr0 (re_el h).1) (rS hs0 (re_el h).2)
theorem C_X11_shades {l : Launch} {X : gX} {σ σ0 : gS} {r0 : Int32} {a1 : Int32} {a2 : Int32} (h : F_X11_shades_0 a1 a2 σ = some (r0, σ0)) : gCt l X yX11_shades (.code yX11_shades cX11_shades 3 (some .int)) 13 [.ref (X.2.2.1 0), .int a1, .int a2] σ (some (.int r0)) σ0 :=
  gCt_of cX11_shades (by decide) (Nat.le_of_ble_eq_true rfl) (fun G hl hX hv hs ho => by subst hl; subst hX; exact a_sub [0, 1, 2] rfl (T_X11_shades_0 ho hv hs h))
theorem T_X11_cracks_0 {G : gM} (ho : gOk G "WaxCloth" cX11_cracks 5 (some .int) 5) {r0 : Int32} (hr0 : gv0 G = some (.int r0)) {σ0 : gS} (hs0 : gs0 G = σ0) {x1 : Int32} {x2 : Int32} {x3 : Int32} {x4 : Int32} {σ : gS} (h : F_X11_cracks_0 x1 x2 x3 x4 σ = some (r0, σ0)) : gAt G 0 [(0, .ref (gad G 0)), (1, .int x1), (2, .int x2), (3, .int x3), (4, .int x4)] [] σ := by
  unfold F_X11_cracks_0 at h
  refine a_aload_n ho dX11_cracks_0 rfl rfl 0 rfl ?_
  refine a_getR ho fl_X11_28 o_0 fr_9_2 dX11_cracks_1 rfl ?_
  refine a_iload_n ho dX11_cracks_4 rfl rfl 1 rfl ?_
  refine a_callVi ho vy_X2_hasDye ml_X11_147 o_10 (C_X2_hasDye x1) rfl rfl (by decide) (Nat.le_of_ble_eq_true rfl) dX11_cracks_5 rfl ?_
  refine a_if_eq (tgt := 21) ho dX11_cracks_8 rfl rfl (fun hc8 => ?_) (fun hc8 => ?_)
  · replace h := if_t hc8 h
    refine a_iconst (v := (-1)) ho dX11_cracks_21 rfl (by decide) ?_
    exact a_iret ho dX11_cracks_22 (rI hr0 (re_el h).1) (rS hs0 (re_el h).2)
  · replace h := if_f hc8 h
    refine a_iload_n ho dX11_cracks_11 rfl rfl 2 rfl ?_
    refine a_if_lt (tgt := 21) ho dX11_cracks_12 rfl rfl (fun hc12 => ?_) (fun hc12 => ?_)
    · replace h := if_t hc12 h
      refine a_iconst (v := (-1)) ho dX11_cracks_21 rfl (by decide) ?_
      exact a_iret ho dX11_cracks_22 (rI hr0 (re_el h).1) (rS hs0 (re_el h).2)
    · replace h := if_f hc12 h
      refine a_iload_n ho dX11_cracks_15 rfl rfl 2 rfl ?_
      refine a_bipush (v := 8) ho dX11_cracks_16 rfl (by decide) ?_
      refine a_icmp_le (tgt := 23) ho dX11_cracks_18 rfl rfl (fun hc18 => ?_) (fun hc18 => ?_)
      · replace h := if_t hc18 h
        refine a_iload_n ho dX11_cracks_23 rfl rfl 3 rfl ?_
        refine a_if_lt (tgt := 44) ho dX11_cracks_24 rfl rfl (fun hc24 => ?_) (fun hc24 => ?_)
        · replace h := if_t hc24 h
          refine a_iconst (v := (-1)) ho dX11_cracks_44 rfl (by decide) ?_
          exact a_iret ho dX11_cracks_45 (rI hr0 (re_el h).1) (rS hs0 (re_el h).2)
        · replace h := if_f hc24 h
          refine a_iload_n ho dX11_cracks_27 rfl rfl 3 rfl ?_
          refine a_bipush (v := 10) ho dX11_cracks_28 rfl (by decide) ?_
          refine a_icmp_gt (tgt := 44) ho dX11_cracks_30 rfl rfl (fun hc30 => ?_) (fun hc30 => ?_)
          · replace h := if_t hc30 h
            refine a_iconst (v := (-1)) ho dX11_cracks_44 rfl (by decide) ?_
            exact a_iret ho dX11_cracks_45 (rI hr0 (re_el h).1) (rS hs0 (re_el h).2)
          · replace h := if_f hc30 h
            refine a_iload ho dX11_cracks_33 rfl 4 rfl ?_
            refine a_if_lt (tgt := 44) ho dX11_cracks_35 rfl rfl (fun hc35 => ?_) (fun hc35 => ?_)
            · replace h := if_t hc35 h
              refine a_iconst (v := (-1)) ho dX11_cracks_44 rfl (by decide) ?_
              exact a_iret ho dX11_cracks_45 (rI hr0 (re_el h).1) (rS hs0 (re_el h).2)
            · replace h := if_f hc35 h
              refine a_iload ho dX11_cracks_38 rfl 4 rfl ?_
              refine a_iconst (v := 1) ho dX11_cracks_40 rfl (by decide) ?_
              refine a_icmp_le (tgt := 46) ho dX11_cracks_41 rfl rfl (fun hc41 => ?_) (fun hc41 => ?_)
              · replace h := if_t hc41 h
                refine a_aload_n ho dX11_cracks_46 rfl rfl 0 rfl ?_
                refine a_getR ho fl_X11_67 o_0 fr_9_8 dX11_cracks_47 rfl ?_
                refine a_aload_n ho dX11_cracks_50 rfl rfl 0 rfl ?_
                refine a_getR ho fl_X11_28 o_0 fr_9_2 dX11_cracks_51 rfl ?_
                refine a_iload_n ho dX11_cracks_54 rfl rfl 1 rfl ?_
                refine a_iload_n ho dX11_cracks_55 rfl rfl 2 rfl ?_
                refine a_iload_n ho dX11_cracks_56 rfl rfl 3 rfl ?_
                obtain ⟨σ57, hq57, h⟩ := ob_el h
                refine a_callVv ho vy_X1_crack ml_X11_228 o_77 (C_X1_crack hq57) rfl rfl (by decide) (Nat.le_of_ble_eq_true rfl) dX11_cracks_57 rfl ?_
                refine a_iload ho dX11_cracks_60 rfl 4 rfl ?_
                refine a_if_ne (tgt := 75) ho dX11_cracks_62 rfl rfl (fun hc62 => ?_) (fun hc62 => ?_)
                · replace h := if_f hc62 h
                  refine a_aload_n ho dX11_cracks_75 rfl rfl 0 rfl ?_
                  refine a_getR ho fl_X11_67 o_0 fr_9_8 dX11_cracks_76 rfl ?_
                  refine a_getI ho fl_X11_234 o_77 (ff_1_1 _ o_77) dX11_cracks_79 rfl ?_
                  exact a_iret ho dX11_cracks_82 (rI hr0 (re_el h).1) (rS hs0 (re_el h).2)
                · replace h := if_t hc62 h
                  refine a_aload_n ho dX11_cracks_65 rfl rfl 0 rfl ?_
                  refine a_getR ho fl_X11_67 o_0 fr_9_8 dX11_cracks_66 rfl ?_
                  refine a_getI ho fl_X11_231 o_77 (ff_1_0 _ o_77) dX11_cracks_69 rfl ?_
                  refine a_goto (tgt := 82) ho dX11_cracks_72 rfl ?_
                  exact a_iret ho dX11_cracks_82 (rI hr0 (re_el h).1) (rS hs0 (re_el h).2)
              · replace h := if_f hc41 h
                refine a_iconst (v := (-1)) ho dX11_cracks_44 rfl (by decide) ?_
                exact a_iret ho dX11_cracks_45 (rI hr0 (re_el h).1) (rS hs0 (re_el h).2)
      · replace h := if_f hc18 h
        refine a_iconst (v := (-1)) ho dX11_cracks_21 rfl (by decide) ?_
        exact a_iret ho dX11_cracks_22 (rI hr0 (re_el h).1) (rS hs0 (re_el h).2)
theorem C_X11_cracks {l : Launch} {X : gX} {σ σ0 : gS} {r0 : Int32} {a1 : Int32} {a2 : Int32} {a3 : Int32} {a4 : Int32} (h : F_X11_cracks_0 a1 a2 a3 a4 σ = some (r0, σ0)) : gCt l X yX11_cracks (.code yX11_cracks cX11_cracks 5 (some .int)) 5 [.ref (X.2.2.1 0), .int a1, .int a2, .int a3, .int a4] σ (some (.int r0)) σ0 :=
  gCt_of cX11_cracks (by decide) (Nat.le_of_ble_eq_true rfl) (fun G hl hX hv hs ho => by subst hl; subst hX; exact a_sub [0, 1, 2, 3, 4] rfl (T_X11_cracks_0 ho hv hs h))
theorem T_X11_decades_0 {G : gM} (ho : gOk G "WaxCloth" cX11_decades 7 (some .int) 4) {r0 : Int32} (hr0 : gv0 G = some (.int r0)) {σ0 : gS} (hs0 : gs0 G = σ0) {x1 : Int32} {x2 : Int32} {x3 : Int32} {σ : gS} (h : F_X11_decades_0 x1 x2 x3 σ = some (r0, σ0)) : gAt G 0 [(0, .ref (gad G 0)), (1, .int x1), (2, .int x2), (3, .int x3)] [] σ := by
  unfold F_X11_decades_0 at h
  refine a_iload_n ho dX11_decades_0 rfl rfl 1 rfl ?_
  refine a_if_lt (tgt := 30) ho dX11_decades_1 rfl rfl (fun hc1 => ?_) (fun hc1 => ?_)
  · replace h := if_t hc1 h
    refine a_iconst (v := (-1)) ho dX11_decades_30 rfl (by decide) ?_
    exact a_iret ho dX11_decades_31 (rI hr0 (re_el h).1) (rS hs0 (re_el h).2)
  · replace h := if_f hc1 h
    refine a_iload_n ho dX11_decades_4 rfl rfl 1 rfl ?_
    refine a_bipush (v := 60) ho dX11_decades_5 rfl (by decide) ?_
    refine a_icmp_gt (tgt := 30) ho dX11_decades_7 rfl rfl (fun hc7 => ?_) (fun hc7 => ?_)
    · replace h := if_t hc7 h
      refine a_iconst (v := (-1)) ho dX11_decades_30 rfl (by decide) ?_
      exact a_iret ho dX11_decades_31 (rI hr0 (re_el h).1) (rS hs0 (re_el h).2)
    · replace h := if_f hc7 h
      refine a_iload_n ho dX11_decades_10 rfl rfl 2 rfl ?_
      refine a_iconst (v := 1) ho dX11_decades_11 rfl (by decide) ?_
      refine a_icmp_lt (tgt := 30) ho dX11_decades_12 rfl rfl (fun hc12 => ?_) (fun hc12 => ?_)
      · replace h := if_t hc12 h
        refine a_iconst (v := (-1)) ho dX11_decades_30 rfl (by decide) ?_
        exact a_iret ho dX11_decades_31 (rI hr0 (re_el h).1) (rS hs0 (re_el h).2)
      · replace h := if_f hc12 h
        refine a_iload_n ho dX11_decades_15 rfl rfl 2 rfl ?_
        refine a_ldc ho dX11_decades_16 rfl kk_X11_237 ?_
        refine a_icmp_gt (tgt := 30) ho dX11_decades_18 rfl rfl (fun hc18 => ?_) (fun hc18 => ?_)
        · replace h := if_t hc18 h
          refine a_iconst (v := (-1)) ho dX11_decades_30 rfl (by decide) ?_
          exact a_iret ho dX11_decades_31 (rI hr0 (re_el h).1) (rS hs0 (re_el h).2)
        · replace h := if_f hc18 h
          refine a_iload_n ho dX11_decades_21 rfl rfl 3 rfl ?_
          refine a_if_lt (tgt := 30) ho dX11_decades_22 rfl rfl (fun hc22 => ?_) (fun hc22 => ?_)
          · replace h := if_t hc22 h
            refine a_iconst (v := (-1)) ho dX11_decades_30 rfl (by decide) ?_
            exact a_iret ho dX11_decades_31 (rI hr0 (re_el h).1) (rS hs0 (re_el h).2)
          · replace h := if_f hc22 h
            refine a_iload_n ho dX11_decades_25 rfl rfl 3 rfl ?_
            refine a_iconst (v := 1) ho dX11_decades_26 rfl (by decide) ?_
            refine a_icmp_le (tgt := 32) ho dX11_decades_27 rfl rfl (fun hc27 => ?_) (fun hc27 => ?_)
            · replace h := if_t hc27 h
              refine a_aload_n ho dX11_decades_32 rfl rfl 0 rfl ?_
              refine a_getR ho fl_X11_28 o_0 fr_9_2 dX11_decades_33 rfl ?_
              refine a_callVi ho vy_X2_stands ml_X11_192 o_10 (C_X2_stands o_10) rfl rfl (by decide) (Nat.le_of_ble_eq_true rfl) dX11_decades_36 rfl ?_
              refine a_if_ne (tgt := 45) ho dX11_decades_39 rfl rfl (fun hc39 => ?_) (fun hc39 => ?_)
              · replace h := if_f hc39 h
                refine a_aload_n ho dX11_decades_45 rfl rfl 0 rfl ?_
                refine a_getR ho fl_X11_67 o_0 fr_9_8 dX11_decades_46 rfl ?_
                refine a_aload_n ho dX11_decades_49 rfl rfl 0 rfl ?_
                refine a_getR ho fl_X11_28 o_0 fr_9_2 dX11_decades_50 rfl ?_
                refine a_iload_n ho dX11_decades_53 rfl rfl 1 rfl ?_
                refine a_iload_n ho dX11_decades_54 rfl rfl 2 rfl ?_
                obtain ⟨σ55, hq55, h⟩ := ob_el h
                refine a_callVv ho vy_X1_draw ml_X11_238 o_77 (C_X1_draw hq55) rfl rfl (by decide) (Nat.le_of_ble_eq_true rfl) dX11_decades_55 rfl ?_
                refine a_iload_n ho dX11_decades_58 rfl rfl 3 rfl ?_
                refine a_if_ne (tgt := 72) ho dX11_decades_59 rfl rfl (fun hc59 => ?_) (fun hc59 => ?_)
                · replace h := if_f hc59 h
                  refine a_aload_n ho dX11_decades_72 rfl rfl 0 rfl ?_
                  refine a_getR ho fl_X11_67 o_0 fr_9_8 dX11_decades_73 rfl ?_
                  refine a_getI ho fl_X11_245 o_77 (ff_1_3 _ o_77) dX11_decades_76 rfl ?_
                  exact a_iret ho dX11_decades_79 (rI hr0 (re_el h).1) (rS hs0 (re_el h).2)
                · replace h := if_t hc59 h
                  refine a_aload_n ho dX11_decades_62 rfl rfl 0 rfl ?_
                  refine a_getR ho fl_X11_67 o_0 fr_9_8 dX11_decades_63 rfl ?_
                  refine a_getI ho fl_X11_242 o_77 (ff_1_2 _ o_77) dX11_decades_66 rfl ?_
                  refine a_goto (tgt := 79) ho dX11_decades_69 rfl ?_
                  exact a_iret ho dX11_decades_79 (rI hr0 (re_el h).1) (rS hs0 (re_el h).2)
              · replace h := if_t hc39 h
                refine a_bipush (v := (-2)) ho dX11_decades_42 rfl (by decide) ?_
                exact a_iret ho dX11_decades_44 (rI hr0 (re_el h).1) (rS hs0 (re_el h).2)
            · replace h := if_f hc27 h
              refine a_iconst (v := (-1)) ho dX11_decades_30 rfl (by decide) ?_
              exact a_iret ho dX11_decades_31 (rI hr0 (re_el h).1) (rS hs0 (re_el h).2)
theorem C_X11_decades {l : Launch} {X : gX} {σ σ0 : gS} {r0 : Int32} {a1 : Int32} {a2 : Int32} {a3 : Int32} (h : F_X11_decades_0 a1 a2 a3 σ = some (r0, σ0)) : gCt l X yX11_decades (.code yX11_decades cX11_decades 4 (some .int)) 7 [.ref (X.2.2.1 0), .int a1, .int a2, .int a3] σ (some (.int r0)) σ0 :=
  gCt_of cX11_decades (by decide) (Nat.le_of_ble_eq_true rfl) (fun G hl hX hv hs ho => by subst hl; subst hX; exact a_sub [0, 1, 2, 3] rfl (T_X11_decades_0 ho hv hs h))
theorem T_X11_isSheet_0 {G : gM} (ho : gOk G "WaxCloth" cX11_isSheet 1 (some .boolean) 1) {r0 : Int32} (hr0 : gv0 G = some (.int r0)) {σ : gS} (hs0 : gs0 G = σ) {x0 : Int32} (h : F_X11_isSheet_0 x0 = r0) : gAt G 0 [(0, .int x0)] [] σ := by
  unfold F_X11_isSheet_0 at h
  refine a_iload_n ho dX11_isSheet_0 rfl rfl 0 rfl ?_
  refine a_if_lt (tgt := 13) ho dX11_isSheet_1 rfl rfl (fun hc1 => ?_) (fun hc1 => ?_)
  · replace h := if_t hc1 h
    refine a_iconst (v := 0) ho dX11_isSheet_13 rfl (by decide) ?_
    exact a_zret ho dX11_isSheet_14 rfl (rI hr0 h) hs0
  · replace h := if_f hc1 h
    refine a_iload_n ho dX11_isSheet_4 rfl rfl 0 rfl ?_
    refine a_iconst (v := 4) ho dX11_isSheet_5 rfl (by decide) ?_
    refine a_icmp_ge (tgt := 13) ho dX11_isSheet_6 rfl rfl (fun hc6 => ?_) (fun hc6 => ?_)
    · replace h := if_t hc6 h
      refine a_iconst (v := 0) ho dX11_isSheet_13 rfl (by decide) ?_
      exact a_zret ho dX11_isSheet_14 rfl (rI hr0 h) hs0
    · replace h := if_f hc6 h
      refine a_iconst (v := 1) ho dX11_isSheet_9 rfl (by decide) ?_
      refine a_goto (tgt := 14) ho dX11_isSheet_10 rfl ?_
      exact a_zret ho dX11_isSheet_14 rfl (rI hr0 h) hs0
theorem C_X11_isSheet {l : Launch} {X : gX} {σ : gS} (a0 : Int32) : gCt l X yX11_isSheet (.code yX11_isSheet cX11_isSheet 1 (some .boolean)) 1 [.int a0] σ (some (.int (F_X11_isSheet_0 a0))) σ :=
  gCt_of cX11_isSheet (by decide) (Nat.le_of_ble_eq_true rfl) (fun G hl hX hv hs ho => by subst hl; subst hX; exact a_sub [0] rfl (T_X11_isSheet_0 ho hv hs rfl))
theorem T_X11_sheet_0 {G : gM} (ho : gOk G "WaxCloth" cX11_sheet 2 (some .int) 4) {r0 : Int32} (hr0 : gv0 G = some (.int r0)) {σ0 : gS} (hs0 : gs0 G = σ0) {x1 : Int32} {x2 : Int32} {x3 : Int32} {σ : gS} (h : F_X11_sheet_0 x1 x2 x3 σ = some (r0, σ0)) : gAt G 0 [(0, .ref (gad G 0)), (1, .int x1), (2, .int x2), (3, .int x3)] [] σ := by
  unfold F_X11_sheet_0 at h
  refine a_iload_n ho dX11_sheet_0 rfl rfl 1 rfl ?_
  refine a_callSi ho vy_X11_isSheet ml_X11_248 (C_X11_isSheet x1) rfl rfl (by decide) (Nat.le_of_ble_eq_true rfl) dX11_sheet_1 rfl ?_
  refine a_if_eq (tgt := 20) ho dX11_sheet_4 rfl rfl (fun hc4 => ?_) (fun hc4 => ?_)
  · replace h := if_t hc4 h
    refine a_iconst (v := (-1)) ho dX11_sheet_20 rfl (by decide) ?_
    exact a_iret ho dX11_sheet_21 (rI hr0 (re_el h).1) (rS hs0 (re_el h).2)
  · replace h := if_f hc4 h
    refine a_iload_n ho dX11_sheet_7 rfl rfl 2 rfl ?_
    refine a_callSi ho vy_X8_isLane ml_X11_251 (C_X8_isLane x2) rfl rfl (by decide) (Nat.le_of_ble_eq_true rfl) dX11_sheet_8 rfl ?_
    refine a_if_eq (tgt := 20) ho dX11_sheet_11 rfl rfl (fun hc11 => ?_) (fun hc11 => ?_)
    · replace h := if_t hc11 h
      refine a_iconst (v := (-1)) ho dX11_sheet_20 rfl (by decide) ?_
      exact a_iret ho dX11_sheet_21 (rI hr0 (re_el h).1) (rS hs0 (re_el h).2)
    · replace h := if_f hc11 h
      refine a_iload_n ho dX11_sheet_14 rfl rfl 3 rfl ?_
      refine a_bipush (v := 24) ho dX11_sheet_15 rfl (by decide) ?_
      refine a_icmp_le (tgt := 22) ho dX11_sheet_17 rfl rfl (fun hc17 => ?_) (fun hc17 => ?_)
      · replace h := if_t hc17 h
        refine a_iload_n ho dX11_sheet_22 rfl rfl 3 rfl ?_
        refine a_if_ge (tgt := 29) ho dX11_sheet_23 rfl rfl (fun hc23 => ?_) (fun hc23 => ?_)
        · replace h := if_t hc23 h
          refine a_aload_n ho dX11_sheet_29 rfl rfl 0 rfl ?_
          refine a_getR ho fl_X11_45 o_0 fr_9_5 dX11_sheet_30 rfl ?_
          refine a_iload_n ho dX11_sheet_33 rfl rfl 1 rfl ?_
          obtain ⟨hk34, h⟩ := ck_el h
          refine a_aald ho (by decide) r_55 hk34 (ar_55 _ (rng_lt hk34)) dX11_sheet_34 rfl ?_
          refine a_iload_n ho dX11_sheet_35 rfl rfl 2 rfl ?_
          refine a_iload_n ho dX11_sheet_36 rfl rfl 3 rfl ?_
          obtain ⟨σ37, hq37, h⟩ := ob_el h
          refine a_callVv ho vy_X8_begin ml_X11_254 (at_55 _ (rng_lt hk34)) (C_X8_begin (at_55 _ (rng_lt hk34)) hq37) rfl rfl (by decide) (Nat.le_of_ble_eq_true rfl) dX11_sheet_37 rfl ?_
          refine a_iload_n ho dX11_sheet_40 rfl rfl 3 rfl ?_
          exact a_iret ho dX11_sheet_41 (rI hr0 (re_el h).1) (rS hs0 (re_el h).2)
        · replace h := if_f hc23 h
          refine a_bipush (v := (-14)) ho dX11_sheet_26 rfl (by decide) ?_
          exact a_iret ho dX11_sheet_28 (rI hr0 (re_el h).1) (rS hs0 (re_el h).2)
      · replace h := if_f hc17 h
        refine a_iconst (v := (-1)) ho dX11_sheet_20 rfl (by decide) ?_
        exact a_iret ho dX11_sheet_21 (rI hr0 (re_el h).1) (rS hs0 (re_el h).2)
theorem C_X11_sheet {l : Launch} {X : gX} {σ σ0 : gS} {r0 : Int32} {a1 : Int32} {a2 : Int32} {a3 : Int32} (h : F_X11_sheet_0 a1 a2 a3 σ = some (r0, σ0)) : gCt l X yX11_sheet (.code yX11_sheet cX11_sheet 4 (some .int)) 2 [.ref (X.2.2.1 0), .int a1, .int a2, .int a3] σ (some (.int r0)) σ0 :=
  gCt_of cX11_sheet (by decide) (Nat.le_of_ble_eq_true rfl) (fun G hl hX hv hs ho => by subst hl; subst hX; exact a_sub [0, 1, 2, 3] rfl (T_X11_sheet_0 ho hv hs h))
theorem T_X11_drop_0 {G : gM} (ho : gOk G "WaxCloth" cX11_drop 2 (some .int) 2) {r0 : Int32} (hr0 : gv0 G = some (.int r0)) {σ0 : gS} (hs0 : gs0 G = σ0) {x1 : Int32} {σ : gS} (h : F_X11_drop_0 x1 σ = some (r0, σ0)) : gAt G 0 [(0, .ref (gad G 0)), (1, .int x1)] [] σ := by
  unfold F_X11_drop_0 at h
  refine a_iload_n ho dX11_drop_0 rfl rfl 1 rfl ?_
  refine a_callSi ho vy_X11_isSheet ml_X11_248 (C_X11_isSheet x1) rfl rfl (by decide) (Nat.le_of_ble_eq_true rfl) dX11_drop_1 rfl ?_
  refine a_if_ne (tgt := 9) ho dX11_drop_4 rfl rfl (fun hc4 => ?_) (fun hc4 => ?_)
  · replace h := if_f hc4 h
    refine a_aload_n ho dX11_drop_9 rfl rfl 0 rfl ?_
    refine a_getR ho fl_X11_45 o_0 fr_9_5 dX11_drop_10 rfl ?_
    refine a_iload_n ho dX11_drop_13 rfl rfl 1 rfl ?_
    obtain ⟨hk14, h⟩ := ck_el h
    refine a_aald ho (by decide) r_55 hk14 (ar_55 _ (rng_lt hk14)) dX11_drop_14 rfl ?_
    refine a_callVi ho vy_X8_isNothing ml_X11_258 (at_55 _ (rng_lt hk14)) (C_X8_isNothing (at_55 _ (rng_lt hk14))) rfl rfl (by decide) (Nat.le_of_ble_eq_true rfl) dX11_drop_15 rfl ?_
    refine a_if_eq (tgt := 24) ho dX11_drop_18 rfl rfl (fun hc18 => ?_) (fun hc18 => ?_)
    · replace h := if_t hc18 h
      refine a_aload_n ho dX11_drop_24 rfl rfl 0 rfl ?_
      refine a_getR ho fl_X11_45 o_0 fr_9_5 dX11_drop_25 rfl ?_
      refine a_iload_n ho dX11_drop_28 rfl rfl 1 rfl ?_
      obtain ⟨hk29, h⟩ := ck_el h
      refine a_aald ho (by decide) r_55 hk29 (ar_55 _ (rng_lt hk29)) dX11_drop_29 rfl ?_
      obtain ⟨r30, σ30, hq30, h⟩ := ob2_el h
      refine a_callVi ho vy_X8_end ml_X11_261 (at_55 _ (rng_lt hk29)) (C_X8_end (at_55 _ (rng_lt hk29)) hq30) rfl rfl (by decide) (Nat.le_of_ble_eq_true rfl) dX11_drop_30 rfl ?_
      exact a_iret ho dX11_drop_33 (rI hr0 (re_el h).1) (rS hs0 (re_el h).2)
    · replace h := if_f hc18 h
      refine a_bipush (v := (-11)) ho dX11_drop_21 rfl (by decide) ?_
      exact a_iret ho dX11_drop_23 (rI hr0 (re_el h).1) (rS hs0 (re_el h).2)
  · replace h := if_t hc4 h
    refine a_iconst (v := (-1)) ho dX11_drop_7 rfl (by decide) ?_
    exact a_iret ho dX11_drop_8 (rI hr0 (re_el h).1) (rS hs0 (re_el h).2)
theorem C_X11_drop {l : Launch} {X : gX} {σ σ0 : gS} {r0 : Int32} {a1 : Int32} (h : F_X11_drop_0 a1 σ = some (r0, σ0)) : gCt l X yX11_drop (.code yX11_drop cX11_drop 2 (some .int)) 2 [.ref (X.2.2.1 0), .int a1] σ (some (.int r0)) σ0 :=
  gCt_of cX11_drop (by decide) (Nat.le_of_ble_eq_true rfl) (fun G hl hX hv hs ho => by subst hl; subst hX; exact a_sub [0, 1] rfl (T_X11_drop_0 ho hv hs h))
theorem T_X11_item_0 {G : gM} (ho : gOk G "WaxCloth" cX11_item 3 (some .long) 7) {r0 : Int64} (hr0 : gv0 G = some (.long r0)) {σ0 : gS} (hs0 : gs0 G = σ0) {x1 : Int32} {x2 : Int32} {x3 : Int32} {x4 : Int64} {σ : gS} (h : F_X11_item_0 x1 x2 x3 x4 σ = some (r0, σ0)) : gAt G 0 [(0, .ref (gad G 0)), (1, .int x1), (2, .int x2), (3, .int x3), (4, .long x4)] [] σ := by
  unfold F_X11_item_0 at h
  refine a_iload_n ho dX11_item_0 rfl rfl 1 rfl ?_
  refine a_callSi ho vy_X11_isSheet ml_X11_248 (C_X11_isSheet x1) rfl rfl (by decide) (Nat.le_of_ble_eq_true rfl) dX11_item_1 rfl ?_
  refine a_if_eq (tgt := 14) ho dX11_item_4 rfl rfl (fun hc4 => ?_) (fun hc4 => ?_)
  · replace h := if_t hc4 h
    refine a_ldc2 ho dX11_item_14 rfl kk_X11_265 ?_
    exact a_lret ho dX11_item_17 (rL hr0 (re_el h).1) (rS hs0 (re_el h).2)
  · replace h := if_f hc4 h
    refine a_iload_n ho dX11_item_7 rfl rfl 2 rfl ?_
    refine a_callSi ho vy_X8_isLane ml_X11_251 (C_X8_isLane x2) rfl rfl (by decide) (Nat.le_of_ble_eq_true rfl) dX11_item_8 rfl ?_
    refine a_if_ne (tgt := 18) ho dX11_item_11 rfl rfl (fun hc11 => ?_) (fun hc11 => ?_)
    · replace h := if_f hc11 h
      refine a_aload_n ho dX11_item_18 rfl rfl 0 rfl ?_
      refine a_getR ho fl_X11_45 o_0 fr_9_5 dX11_item_19 rfl ?_
      refine a_iload_n ho dX11_item_22 rfl rfl 1 rfl ?_
      obtain ⟨hk23, h⟩ := ck_el h
      refine a_aald ho (by decide) r_55 hk23 (ar_55 _ (rng_lt hk23)) dX11_item_23 rfl ?_
      refine a_iload_n ho dX11_item_24 rfl rfl 2 rfl ?_
      refine a_iload_n ho dX11_item_25 rfl rfl 3 rfl ?_
      refine a_iconst (v := 1) ho dX11_item_26 rfl (by decide) ?_
      refine a_callVi ho vy_X8_refusal ml_X11_267 (at_55 _ (rng_lt hk23)) (C_X8_refusal (at_55 _ (rng_lt hk23)) x2 x3 1) rfl rfl (by decide) (Nat.le_of_ble_eq_true rfl) dX11_item_27 rfl ?_
      obtain ⟨x30, hb30, h⟩ := bd_el h
      refine a_nmI hb30 ?_
      refine a_istore (L' := [(6, .int x30), (0, .ref (gad G 0)), (1, .int x1), (2, .int x2), (3, .int x3), (4, .long x4)]) ho dX11_item_30 rfl (by decide) rfl ?_
      refine a_iload ho dX11_item_32 rfl 0 rfl ?_
      refine a_if_eq (tgt := 41) ho dX11_item_34 rfl rfl (fun hc34 => ?_) (fun hc34 => ?_)
      · replace h := if_t hc34 h
        refine a_aload_n ho dX11_item_41 rfl rfl 1 rfl ?_
        refine a_getR ho fl_X11_45 o_0 fr_9_5 dX11_item_42 rfl ?_
        refine a_iload_n ho dX11_item_45 rfl rfl 2 rfl ?_
        obtain ⟨hk46, h⟩ := ck_el h
        refine a_aald ho (by decide) r_55 hk46 (ar_55 _ (rng_lt hk46)) dX11_item_46 rfl ?_
        refine a_iload_n ho dX11_item_47 rfl rfl 4 rfl ?_
        refine a_lload ho dX11_item_48 rfl 5 rfl ?_
        obtain ⟨r50, σ50, hq50, h⟩ := ob2_el h
        refine a_callVl ho vy_X8_put ml_X11_270 (at_55 _ (rng_lt hk46)) (C_X8_put (at_55 _ (rng_lt hk46)) hq50) rfl rfl (by decide) (Nat.le_of_ble_eq_true rfl) dX11_item_50 rfl ?_
        exact a_lret ho dX11_item_53 (rL hr0 (re_el h).1) (rS hs0 (re_el h).2)
      · replace h := if_f hc34 h
        refine a_iload ho dX11_item_37 rfl 0 rfl ?_
        refine a_i2l ho dX11_item_39 rfl ?_
        exact a_lret ho dX11_item_40 (rL hr0 (re_el h).1) (rS hs0 (re_el h).2)
    · replace h := if_t hc11 h
      refine a_ldc2 ho dX11_item_14 rfl kk_X11_265 ?_
      exact a_lret ho dX11_item_17 (rL hr0 (re_el h).1) (rS hs0 (re_el h).2)
theorem C_X11_item {l : Launch} {X : gX} {σ σ0 : gS} {r0 : Int64} {a1 : Int32} {a2 : Int32} {a3 : Int32} {a4 : Int64} (h : F_X11_item_0 a1 a2 a3 a4 σ = some (r0, σ0)) : gCt l X yX11_item (.code yX11_item cX11_item 7 (some .long)) 3 [.ref (X.2.2.1 0), .int a1, .int a2, .int a3, .long a4] σ (some (.long r0)) σ0 :=
  gCt_of cX11_item (by decide) (Nat.le_of_ble_eq_true rfl) (fun G hl hX hv hs ho => by subst hl; subst hX; exact a_sub [0, 1, 2, 3, 4] rfl (T_X11_item_0 ho hv hs h))
theorem T_X11_copy_0 {G : gM} (ho : gOk G "WaxCloth" cX11_copy 2 (some .int) 8) {r0 : Int32} (hr0 : gv0 G = some (.int r0)) {σ0 : gS} (hs0 : gs0 G = σ0) {x1 : Int32} {x2 : Int32} {x3 : Int32} {x4 : Int32} {x5 : Int32} {σ : gS} (h : F_X11_copy_0 x1 x2 x3 x4 x5 σ = some (r0, σ0)) : gAt G 0 [(0, .ref (gad G 0)), (1, .int x1), (2, .int x2), (3, .int x3), (4, .int x4), (5, .int x5)] [] σ := by
  unfold F_X11_copy_0 at h
  refine a_iload_n ho dX11_copy_0 rfl rfl 1 rfl ?_
  refine a_callSi ho vy_X11_isSheet ml_X11_248 (C_X11_isSheet x1) rfl rfl (by decide) (Nat.le_of_ble_eq_true rfl) dX11_copy_1 rfl ?_
  refine a_if_eq (tgt := 14) ho dX11_copy_4 rfl rfl (fun hc4 => ?_) (fun hc4 => ?_)
  · replace h := if_t hc4 h
    refine a_iconst (v := (-1)) ho dX11_copy_14 rfl (by decide) ?_
    exact a_iret ho dX11_copy_15 (rI hr0 (re_el h).1) (rS hs0 (re_el h).2)
  · replace h := if_f hc4 h
    refine a_iload_n ho dX11_copy_7 rfl rfl 3 rfl ?_
    refine a_callSi ho vy_X11_isSheet ml_X11_248 (C_X11_isSheet x3) rfl rfl (by decide) (Nat.le_of_ble_eq_true rfl) dX11_copy_8 rfl ?_
    refine a_if_ne (tgt := 16) ho dX11_copy_11 rfl rfl (fun hc11 => ?_) (fun hc11 => ?_)
    · replace h := if_f hc11 h
      refine a_aload_n ho dX11_copy_16 rfl rfl 0 rfl ?_
      refine a_getR ho fl_X11_45 o_0 fr_9_5 dX11_copy_17 rfl ?_
      refine a_iload_n ho dX11_copy_20 rfl rfl 1 rfl ?_
      obtain ⟨hk21, h⟩ := ck_el h
      refine a_aald ho (by decide) r_55 hk21 (ar_55 _ (rng_lt hk21)) dX11_copy_21 rfl ?_
      refine a_astore (L' := [(6, .ref (gad G (56 + 2 * (Int32.toNatClampNeg x1)))), (0, .ref (gad G 0)), (1, .int x1), (2, .int x2), (3, .int x3), (4, .int x4), (5, .int x5)]) ho dX11_copy_22 rfl (by decide) rfl ?_
      refine a_aload_n ho dX11_copy_24 rfl rfl 1 rfl ?_
      refine a_getR ho fl_X11_45 o_0 fr_9_5 dX11_copy_25 rfl ?_
      refine a_iload_n ho dX11_copy_28 rfl rfl 4 rfl ?_
      obtain ⟨hk29, h⟩ := ck_el h
      refine a_aald ho (by decide) r_55 hk29 (ar_55 _ (rng_lt hk29)) dX11_copy_29 rfl ?_
      refine a_astore (L' := [(7, .ref (gad G (56 + 2 * (Int32.toNatClampNeg x3)))), (6, .ref (gad G (56 + 2 * (Int32.toNatClampNeg x1)))), (0, .ref (gad G 0)), (1, .int x1), (2, .int x2), (3, .int x3), (4, .int x4), (5, .int x5)]) ho dX11_copy_30 rfl (by decide) rfl ?_
      refine a_aload ho dX11_copy_32 rfl 1 rfl ?_
      refine a_callVi ho vy_X8_isNothing ml_X11_258 (at_55 _ (rng_lt hk21)) (C_X8_isNothing (at_55 _ (rng_lt hk21))) rfl rfl (by decide) (Nat.le_of_ble_eq_true rfl) dX11_copy_34 rfl ?_
      refine a_if_ne (tgt := 48) ho dX11_copy_37 rfl rfl (fun hc37 => ?_) (fun hc37 => ?_)
      · replace h := if_f hc37 h
        refine a_bipush (v := (-11)) ho dX11_copy_48 rfl (by decide) ?_
        exact a_iret ho dX11_copy_50 (rI hr0 (re_el h).1) (rS hs0 (re_el h).2)
      · replace h := if_t hc37 h
        refine a_aload ho dX11_copy_40 rfl 0 rfl ?_
        refine a_callVi ho vy_X8_isNothing ml_X11_258 (at_55 _ (rng_lt hk29)) (C_X8_isNothing (at_55 _ (rng_lt hk29))) rfl rfl (by decide) (Nat.le_of_ble_eq_true rfl) dX11_copy_42 rfl ?_
        refine a_if_eq (tgt := 51) ho dX11_copy_45 rfl rfl (fun hc45 => ?_) (fun hc45 => ?_)
        · replace h := if_t hc45 h
          refine a_aload ho dX11_copy_51 rfl 1 rfl ?_
          refine a_getI ho fl_X11_273 (at_55 _ (rng_lt hk21)) (ff_7_0 _ (at_55 _ (rng_lt hk21))) dX11_copy_53 rfl ?_
          refine a_aload ho dX11_copy_56 rfl 0 rfl ?_
          refine a_getI ho fl_X11_273 (at_55 _ (rng_lt hk29)) (ff_7_0 _ (at_55 _ (rng_lt hk29))) dX11_copy_58 rfl ?_
          refine a_icmp_eq (tgt := 67) ho dX11_copy_61 rfl rfl (fun hc61 => ?_) (fun hc61 => ?_)
          · replace h := if_t hc61 h
            refine a_aload ho dX11_copy_67 rfl 1 rfl ?_
            refine a_iload_n ho dX11_copy_69 rfl rfl 4 rfl ?_
            refine a_iload ho dX11_copy_70 rfl 7 rfl ?_
            refine a_callVi ho vy_X8_holds ml_X11_276 (at_55 _ (rng_lt hk21)) (C_X8_holds (at_55 _ (rng_lt hk21)) x2 x5) rfl rfl (by decide) (Nat.le_of_ble_eq_true rfl) dX11_copy_72 rfl ?_
            refine a_if_eq (tgt := 90) ho dX11_copy_75 rfl rfl (fun hc75 => ?_) (fun hc75 => ?_)
            · replace h := if_t hc75 h
              refine a_bipush (v := (-13)) ho dX11_copy_90 rfl (by decide) ?_
              exact a_iret ho dX11_copy_92 (rI hr0 (re_el h).1) (rS hs0 (re_el h).2)
            · replace h := if_f hc75 h
              refine a_aload ho dX11_copy_78 rfl 0 rfl ?_
              refine a_iload ho dX11_copy_80 rfl 6 rfl ?_
              refine a_iload ho dX11_copy_82 rfl 7 rfl ?_
              refine a_callVi ho vy_X8_holds ml_X11_276 (at_55 _ (rng_lt hk29)) (C_X8_holds (at_55 _ (rng_lt hk29)) x4 x5) rfl rfl (by decide) (Nat.le_of_ble_eq_true rfl) dX11_copy_84 rfl ?_
              refine a_if_ne (tgt := 93) ho dX11_copy_87 rfl rfl (fun hc87 => ?_) (fun hc87 => ?_)
              · replace h := if_f hc87 h
                refine a_aload ho dX11_copy_93 rfl 1 rfl ?_
                refine a_getR ho fl_X11_279 (at_55 _ (rng_lt hk21)) (fr_7_2 _ (at_55 _ (rng_lt hk21))) dX11_copy_95 rfl ?_
                refine a_iload_n ho dX11_copy_98 rfl rfl 4 rfl ?_
                refine a_aload ho dX11_copy_99 rfl 0 rfl ?_
                refine a_getR ho fl_X11_279 (at_55 _ (rng_lt hk29)) (fr_7_2 _ (at_55 _ (rng_lt hk29))) dX11_copy_101 rfl ?_
                refine a_iload ho dX11_copy_104 rfl 6 rfl ?_
                refine a_iload ho dX11_copy_106 rfl 7 rfl ?_
                obtain ⟨hk108, h⟩ := ck_el h
                refine a_cpyJ ho cp_X11_283 (by decide) (fa_7_2 _ (at_55 _ (rng_lt hk21))) (fa_7_2 _ (at_55 _ (rng_lt hk29))) hk108 (Nat.le_of_ble_eq_true rfl) dX11_copy_108 rfl ?_
                obtain ⟨σ108, hs108, h⟩ := bd_el h
                refine a_nmS hs108 ?_
                refine a_iload ho dX11_copy_111 rfl 7 rfl ?_
                exact a_iret ho dX11_copy_113 (rI hr0 (re_el h).1) (rS hs0 (re_el h).2)
              · replace h := if_t hc87 h
                refine a_bipush (v := (-13)) ho dX11_copy_90 rfl (by decide) ?_
                exact a_iret ho dX11_copy_92 (rI hr0 (re_el h).1) (rS hs0 (re_el h).2)
          · replace h := if_f hc61 h
            refine a_bipush (v := (-12)) ho dX11_copy_64 rfl (by decide) ?_
            exact a_iret ho dX11_copy_66 (rI hr0 (re_el h).1) (rS hs0 (re_el h).2)
        · replace h := if_f hc45 h
          refine a_bipush (v := (-11)) ho dX11_copy_48 rfl (by decide) ?_
          exact a_iret ho dX11_copy_50 (rI hr0 (re_el h).1) (rS hs0 (re_el h).2)
    · replace h := if_t hc11 h
      refine a_iconst (v := (-1)) ho dX11_copy_14 rfl (by decide) ?_
      exact a_iret ho dX11_copy_15 (rI hr0 (re_el h).1) (rS hs0 (re_el h).2)
theorem C_X11_copy {l : Launch} {X : gX} {σ σ0 : gS} {r0 : Int32} {a1 : Int32} {a2 : Int32} {a3 : Int32} {a4 : Int32} {a5 : Int32} (h : F_X11_copy_0 a1 a2 a3 a4 a5 σ = some (r0, σ0)) : gCt l X yX11_copy (.code yX11_copy cX11_copy 8 (some .int)) 2 [.ref (X.2.2.1 0), .int a1, .int a2, .int a3, .int a4, .int a5] σ (some (.int r0)) σ0 :=
  gCt_of cX11_copy (by decide) (Nat.le_of_ble_eq_true rfl) (fun G hl hX hv hs ho => by subst hl; subst hX; exact a_sub [0, 1, 2, 3, 4, 5] rfl (T_X11_copy_0 ho hv hs h))
theorem T_X11_log_57 {G : gM} (ho : gOk G "WaxCloth" cX11_log 3 (some .int) 6) {r0 : Int32} (hr0 : gv0 G = some (.int r0)) {σ0 : gS} (hs0 : gs0 G = σ0) : ∀ (n : Nat) (x1 : Int32) (x3 : Int32) (x5 : Int32) (σ : gS), F_X11_log_57 n x1 x3 x5 σ = some (r0, σ0) → gAt G 57 [(0, .ref (gad G 0)), (1, .int x1), (3, .int x3), (5, .int x5)] [] σ := by
  intro n
  induction n with
  | zero => intro x1 x3 x5 σ h; cases h
  | succ n ih =>
    intro x1 x3 x5 σ h
    unfold F_X11_log_57 at h
    refine a_iload ho dX11_log_57 rfl 3 rfl ?_
    refine a_aload_n ho dX11_log_59 rfl rfl 0 rfl ?_
    refine a_getR ho fl_X11_28 o_0 fr_9_2 dX11_log_60 rfl ?_
    refine a_getI ho fl_X11_107 o_10 (ff_2_0 _ o_10) dX11_log_63 rfl ?_
    refine a_icmp_ge (tgt := 103) ho dX11_log_66 rfl rfl (fun hc66 => ?_) (fun hc66 => ?_)
    · replace h := if_t hc66 h
      refine a_aload_n ho dX11_log_103 rfl rfl 0 rfl ?_
      refine a_getR ho fl_X11_28 o_0 fr_9_2 dX11_log_104 rfl ?_
      refine a_getI ho fl_X11_107 o_10 (ff_2_0 _ o_10) dX11_log_107 rfl ?_
      exact a_iret ho dX11_log_110 (rI hr0 (re_el h).1) (rS hs0 (re_el h).2)
    · replace h := if_f hc66 h
      refine a_aload_n ho dX11_log_69 rfl rfl 0 rfl ?_
      refine a_getR ho fl_X11_45 o_0 fr_9_5 dX11_log_70 rfl ?_
      refine a_iload_n ho dX11_log_73 rfl rfl 1 rfl ?_
      obtain ⟨hk74, h⟩ := ck_el h
      refine a_aald ho (by decide) r_55 hk74 (ar_55 _ (rng_lt hk74)) dX11_log_74 rfl ?_
      refine a_iload_n ho dX11_log_75 rfl rfl 2 rfl ?_
      refine a_iload ho dX11_log_76 rfl 3 rfl ?_
      refine a_iadd ho dX11_log_78 rfl ?_
      refine a_aload_n ho dX11_log_79 rfl rfl 0 rfl ?_
      refine a_getR ho fl_X11_28 o_0 fr_9_2 dX11_log_80 rfl ?_
      refine a_getR (q := 13) ho fl_X11_113 o_10 (fr_2_6 _ o_10) dX11_log_83 rfl ?_
      refine a_iload ho dX11_log_86 rfl 3 rfl ?_
      obtain ⟨hk88, h⟩ := ck_el h
      refine a_iald ho i_13 hk88 dX11_log_88 rfl ?_
      obtain ⟨r89, hq89, h⟩ := ob_el h
      refine a_callSi ho vy_X9_hueOf ml_X11_128 (C_X9_hueOf hq89) rfl rfl (by decide) (Nat.le_of_ble_eq_true rfl) dX11_log_89 rfl ?_
      refine a_i2l ho dX11_log_92 rfl ?_
      obtain ⟨r93, σ93, hq93, h⟩ := ob2_el h
      refine a_callVl ho vy_X8_put ml_X11_270 (at_55 _ (rng_lt hk74)) (C_X8_put (at_55 _ (rng_lt hk74)) hq93) rfl rfl (by decide) (Nat.le_of_ble_eq_true rfl) dX11_log_93 rfl ?_
      refine a_pop2 ho dX11_log_96 rfl rfl ?_
      obtain ⟨x97, hb97, h⟩ := bd_el h
      refine a_iinc (L' := [(5, .int x97), (0, .ref (gad G 0)), (1, .int x1), (3, .int x3)]) ho dX11_log_97 rfl 3 rfl hb97 (by decide) rfl ?_
      refine a_goto (tgt := 57) ho dX11_log_100 rfl ?_
      exact a_sub [1, 2, 3, 0] rfl (ih _ _ _ _ h)
theorem T_X11_log_0 {G : gM} (ho : gOk G "WaxCloth" cX11_log 3 (some .int) 6) {r0 : Int32} (hr0 : gv0 G = some (.int r0)) {σ0 : gS} (hs0 : gs0 G = σ0) {x1 : Int32} {x2 : Int32} {x3 : Int32} {σ : gS} (h : F_X11_log_0 x1 x2 x3 σ = some (r0, σ0)) : gAt G 0 [(0, .ref (gad G 0)), (1, .int x1), (2, .int x2), (3, .int x3)] [] σ := by
  unfold F_X11_log_0 at h
  refine a_aload_n ho dX11_log_0 rfl rfl 0 rfl ?_
  refine a_getR ho fl_X11_28 o_0 fr_9_2 dX11_log_1 rfl ?_
  refine a_callVi ho vy_X2_stands ml_X11_192 o_10 (C_X2_stands o_10) rfl rfl (by decide) (Nat.le_of_ble_eq_true rfl) dX11_log_4 rfl ?_
  refine a_if_eq (tgt := 24) ho dX11_log_7 rfl rfl (fun hc7 => ?_) (fun hc7 => ?_)
  · replace h := if_t hc7 h
    refine a_iconst (v := (-1)) ho dX11_log_24 rfl (by decide) ?_
    exact a_iret ho dX11_log_25 (rI hr0 (re_el h).1) (rS hs0 (re_el h).2)
  · replace h := if_f hc7 h
    refine a_iload_n ho dX11_log_10 rfl rfl 1 rfl ?_
    refine a_callSi ho vy_X11_isSheet ml_X11_248 (C_X11_isSheet x1) rfl rfl (by decide) (Nat.le_of_ble_eq_true rfl) dX11_log_11 rfl ?_
    refine a_if_eq (tgt := 24) ho dX11_log_14 rfl rfl (fun hc14 => ?_) (fun hc14 => ?_)
    · replace h := if_t hc14 h
      refine a_iconst (v := (-1)) ho dX11_log_24 rfl (by decide) ?_
      exact a_iret ho dX11_log_25 (rI hr0 (re_el h).1) (rS hs0 (re_el h).2)
    · replace h := if_f hc14 h
      refine a_iload_n ho dX11_log_17 rfl rfl 2 rfl ?_
      refine a_callSi ho vy_X8_isLane ml_X11_251 (C_X8_isLane x2) rfl rfl (by decide) (Nat.le_of_ble_eq_true rfl) dX11_log_18 rfl ?_
      refine a_if_ne (tgt := 26) ho dX11_log_21 rfl rfl (fun hc21 => ?_) (fun hc21 => ?_)
      · replace h := if_f hc21 h
        refine a_aload_n ho dX11_log_26 rfl rfl 0 rfl ?_
        refine a_getR ho fl_X11_45 o_0 fr_9_5 dX11_log_27 rfl ?_
        refine a_iload_n ho dX11_log_30 rfl rfl 1 rfl ?_
        obtain ⟨hk31, h⟩ := ck_el h
        refine a_aald ho (by decide) r_55 hk31 (ar_55 _ (rng_lt hk31)) dX11_log_31 rfl ?_
        refine a_iload_n ho dX11_log_32 rfl rfl 2 rfl ?_
        refine a_iload_n ho dX11_log_33 rfl rfl 3 rfl ?_
        refine a_aload_n ho dX11_log_34 rfl rfl 0 rfl ?_
        refine a_getR ho fl_X11_28 o_0 fr_9_2 dX11_log_35 rfl ?_
        refine a_getI ho fl_X11_107 o_10 (ff_2_0 _ o_10) dX11_log_38 rfl ?_
        refine a_callVi ho vy_X8_refusal ml_X11_267 (at_55 _ (rng_lt hk31)) (C_X8_refusal (at_55 _ (rng_lt hk31)) x2 x3 (σ.1 10 0)) rfl rfl (by decide) (Nat.le_of_ble_eq_true rfl) dX11_log_41 rfl ?_
        obtain ⟨x44, hb44, h⟩ := bd_el h
        refine a_nmI hb44 ?_
        refine a_istore (L' := [(4, .int x44), (0, .ref (gad G 0)), (1, .int x1), (2, .int x2), (3, .int x3)]) ho dX11_log_44 rfl (by decide) rfl ?_
        refine a_iload ho dX11_log_46 rfl 0 rfl ?_
        refine a_if_eq (tgt := 54) ho dX11_log_48 rfl rfl (fun hc48 => ?_) (fun hc48 => ?_)
        · replace h := if_t hc48 h
          refine a_iconst (v := 0) ho dX11_log_54 rfl (by decide) ?_
          refine a_istore (L' := [(5, .int 0), (4, .int x44), (0, .ref (gad G 0)), (1, .int x1), (2, .int x2), (3, .int x3)]) ho dX11_log_55 rfl (by decide) rfl ?_
          exact a_sub [2, 3, 5, 0] rfl (T_X11_log_57 ho hr0 hs0 _ _ _ _ _ h)
        · replace h := if_f hc48 h
          refine a_iload ho dX11_log_51 rfl 0 rfl ?_
          exact a_iret ho dX11_log_53 (rI hr0 (re_el h).1) (rS hs0 (re_el h).2)
      · replace h := if_t hc21 h
        refine a_iconst (v := (-1)) ho dX11_log_24 rfl (by decide) ?_
        exact a_iret ho dX11_log_25 (rI hr0 (re_el h).1) (rS hs0 (re_el h).2)
theorem C_X11_log {l : Launch} {X : gX} {σ σ0 : gS} {r0 : Int32} {a1 : Int32} {a2 : Int32} {a3 : Int32} (h : F_X11_log_0 a1 a2 a3 σ = some (r0, σ0)) : gCt l X yX11_log (.code yX11_log cX11_log 6 (some .int)) 3 [.ref (X.2.2.1 0), .int a1, .int a2, .int a3] σ (some (.int r0)) σ0 :=
  gCt_of cX11_log (by decide) (Nat.le_of_ble_eq_true rfl) (fun G hl hX hv hs ho => by subst hl; subst hX; exact a_sub [0, 1, 2, 3] rfl (T_X11_log_0 ho hv hs h))
theorem T_X11_takeDoings_49 {G : gM} (ho : gOk G "WaxCloth" cX11_takeDoings 3 (some .int) 9) {r0 : Int32} (hr0 : gv0 G = some (.int r0)) {σ0 : gS} (hs0 : gs0 G = σ0) : ∀ (n : Nat) (x1 : Int32) (x3 : Int32) (x4 : Int32) (x6 : Int32) (σ : gS), F_X11_takeDoings_49 n x1 x3 x4 x6 σ = some (r0, σ0) → gAt G 49 [(0, .ref (gad G 0)), (1, .int x1), (3, .int x3), (4, .int x4), (6, .int x6)] [] σ := by
  intro n
  induction n with
  | zero => intro x1 x3 x4 x6 σ h; cases h
  | succ n ih =>
    intro x1 x3 x4 x6 σ h
    unfold F_X11_takeDoings_49 at h
    refine a_iload ho dX11_takeDoings_49 rfl 4 rfl ?_
    refine a_iload ho dX11_takeDoings_51 rfl 3 rfl ?_
    refine a_icmp_ge (tgt := 103) ho dX11_takeDoings_53 rfl rfl (fun hc53 => ?_) (fun hc53 => ?_)
    · replace h := if_t hc53 h
      refine a_iconst (v := 0) ho dX11_takeDoings_103 rfl (by decide) ?_
      exact a_iret ho dX11_takeDoings_104 (rI hr0 (re_el h).1) (rS hs0 (re_el h).2)
    · replace h := if_f hc53 h
      refine a_aload_n ho dX11_takeDoings_56 rfl rfl 0 rfl ?_
      refine a_getR ho fl_X11_45 o_0 fr_9_5 dX11_takeDoings_57 rfl ?_
      refine a_iload_n ho dX11_takeDoings_60 rfl rfl 1 rfl ?_
      obtain ⟨hk61, h⟩ := ck_el h
      refine a_aald ho (by decide) r_55 hk61 (ar_55 _ (rng_lt hk61)) dX11_takeDoings_61 rfl ?_
      refine a_getR ho fl_X11_279 (at_55 _ (rng_lt hk61)) (fr_7_2 _ (at_55 _ (rng_lt hk61))) dX11_takeDoings_62 rfl ?_
      refine a_iload_n ho dX11_takeDoings_65 rfl rfl 2 rfl ?_
      refine a_iload ho dX11_takeDoings_66 rfl 4 rfl ?_
      refine a_iadd ho dX11_takeDoings_68 rfl ?_
      obtain ⟨hk69, h⟩ := ck_el h
      refine a_lald ho (fa_7_2 _ (at_55 _ (rng_lt hk61))) hk69 dX11_takeDoings_69 rfl ?_
      obtain ⟨x70, hb70, h⟩ := bd_el h
      refine a_nmL hb70 ?_
      refine a_lstore (L' := [(7, .long x70), (0, .ref (gad G 0)), (1, .int x1), (3, .int x3), (4, .int x4), (6, .int x6)]) ho dX11_takeDoings_70 rfl (by decide) rfl ?_
      refine a_aload_n ho dX11_takeDoings_72 rfl rfl 1 rfl ?_
      refine a_getR ho fl_X11_28 o_0 fr_9_2 dX11_takeDoings_73 rfl ?_
      refine a_lload ho dX11_takeDoings_76 rfl 0 rfl ?_
      refine a_callVi ho vy_X2_hasDoing ml_X11_166 o_10 (C_X2_hasDoing x70) rfl rfl (by decide) (Nat.le_of_ble_eq_true rfl) dX11_takeDoings_78 rfl ?_
      refine a_if_ne (tgt := 87) ho dX11_takeDoings_81 rfl rfl (fun hc81 => ?_) (fun hc81 => ?_)
      · replace h := if_f hc81 h
        refine a_aload_n ho dX11_takeDoings_87 rfl rfl 1 rfl ?_
        refine a_getR ho fl_X11_78 o_0 fr_9_10 dX11_takeDoings_88 rfl ?_
        refine a_iload ho dX11_takeDoings_91 rfl 5 rfl ?_
        refine a_lload ho dX11_takeDoings_93 rfl 0 rfl ?_
        refine a_l2i ho dX11_takeDoings_95 rfl ?_
        obtain ⟨hk96, h⟩ := ck_el h
        refine a_iast ho i_81 hk96 dX11_takeDoings_96 rfl ?_
        obtain ⟨σ96, hs96, h⟩ := bd_el h
        refine a_nmS hs96 ?_
        obtain ⟨x97, hb97, h⟩ := bd_el h
        refine a_iinc (L' := [(6, .int x97), (7, .long x70), (0, .ref (gad G 0)), (1, .int x1), (3, .int x3), (4, .int x4)]) ho dX11_takeDoings_97 rfl 5 rfl hb97 (by decide) rfl ?_
        refine a_goto (tgt := 49) ho dX11_takeDoings_100 rfl ?_
        exact a_sub [2, 3, 4, 5, 0] rfl (ih _ _ _ _ _ h)
      · replace h := if_t hc81 h
        refine a_bipush (v := (-2)) ho dX11_takeDoings_84 rfl (by decide) ?_
        exact a_iret ho dX11_takeDoings_86 (rI hr0 (re_el h).1) (rS hs0 (re_el h).2)
theorem T_X11_takeDoings_0 {G : gM} (ho : gOk G "WaxCloth" cX11_takeDoings 3 (some .int) 9) {r0 : Int32} (hr0 : gv0 G = some (.int r0)) {σ0 : gS} (hs0 : gs0 G = σ0) {x1 : Int32} {x2 : Int32} {x3 : Int32} {x4 : Int32} {σ : gS} (h : F_X11_takeDoings_0 x1 x2 x3 x4 σ = some (r0, σ0)) : gAt G 0 [(0, .ref (gad G 0)), (1, .int x1), (2, .int x2), (3, .int x3), (4, .int x4)] [] σ := by
  unfold F_X11_takeDoings_0 at h
  refine a_iload_n ho dX11_takeDoings_0 rfl rfl 1 rfl ?_
  refine a_callSi ho vy_X11_isSheet ml_X11_248 (C_X11_isSheet x1) rfl rfl (by decide) (Nat.le_of_ble_eq_true rfl) dX11_takeDoings_1 rfl ?_
  refine a_if_eq (tgt := 21) ho dX11_takeDoings_4 rfl rfl (fun hc4 => ?_) (fun hc4 => ?_)
  · replace h := if_t hc4 h
    refine a_iconst (v := (-1)) ho dX11_takeDoings_21 rfl (by decide) ?_
    exact a_iret ho dX11_takeDoings_22 (rI hr0 (re_el h).1) (rS hs0 (re_el h).2)
  · replace h := if_f hc4 h
    refine a_iload_n ho dX11_takeDoings_7 rfl rfl 2 rfl ?_
    refine a_callSi ho vy_X8_isLane ml_X11_251 (C_X8_isLane x2) rfl rfl (by decide) (Nat.le_of_ble_eq_true rfl) dX11_takeDoings_8 rfl ?_
    refine a_if_eq (tgt := 21) ho dX11_takeDoings_11 rfl rfl (fun hc11 => ?_) (fun hc11 => ?_)
    · replace h := if_t hc11 h
      refine a_iconst (v := (-1)) ho dX11_takeDoings_21 rfl (by decide) ?_
      exact a_iret ho dX11_takeDoings_22 (rI hr0 (re_el h).1) (rS hs0 (re_el h).2)
    · replace h := if_f hc11 h
      refine a_iload ho dX11_takeDoings_14 rfl 4 rfl ?_
      refine a_bipush (v := 20) ho dX11_takeDoings_16 rfl (by decide) ?_
      refine a_icmp_le (tgt := 23) ho dX11_takeDoings_18 rfl rfl (fun hc18 => ?_) (fun hc18 => ?_)
      · replace h := if_t hc18 h
        refine a_aload_n ho dX11_takeDoings_23 rfl rfl 0 rfl ?_
        refine a_getR ho fl_X11_45 o_0 fr_9_5 dX11_takeDoings_24 rfl ?_
        refine a_iload_n ho dX11_takeDoings_27 rfl rfl 1 rfl ?_
        obtain ⟨hk28, h⟩ := ck_el h
        refine a_aald ho (by decide) r_55 hk28 (ar_55 _ (rng_lt hk28)) dX11_takeDoings_28 rfl ?_
        refine a_iload_n ho dX11_takeDoings_29 rfl rfl 2 rfl ?_
        refine a_iload_n ho dX11_takeDoings_30 rfl rfl 3 rfl ?_
        refine a_iload ho dX11_takeDoings_31 rfl 4 rfl ?_
        refine a_callVi ho vy_X8_refusal ml_X11_267 (at_55 _ (rng_lt hk28)) (C_X8_refusal (at_55 _ (rng_lt hk28)) x2 x3 x4) rfl rfl (by decide) (Nat.le_of_ble_eq_true rfl) dX11_takeDoings_33 rfl ?_
        obtain ⟨x36, hb36, h⟩ := bd_el h
        refine a_nmI hb36 ?_
        refine a_istore (L' := [(5, .int x36), (0, .ref (gad G 0)), (1, .int x1), (2, .int x2), (3, .int x3), (4, .int x4)]) ho dX11_takeDoings_36 rfl (by decide) rfl ?_
        refine a_iload ho dX11_takeDoings_38 rfl 0 rfl ?_
        refine a_if_eq (tgt := 46) ho dX11_takeDoings_40 rfl rfl (fun hc40 => ?_) (fun hc40 => ?_)
        · replace h := if_t hc40 h
          refine a_iconst (v := 0) ho dX11_takeDoings_46 rfl (by decide) ?_
          refine a_istore (L' := [(6, .int 0), (5, .int x36), (0, .ref (gad G 0)), (1, .int x1), (2, .int x2), (3, .int x3), (4, .int x4)]) ho dX11_takeDoings_47 rfl (by decide) rfl ?_
          exact a_sub [2, 3, 5, 6, 0] rfl (T_X11_takeDoings_49 ho hr0 hs0 _ _ _ _ _ _ h)
        · replace h := if_f hc40 h
          refine a_iload ho dX11_takeDoings_43 rfl 0 rfl ?_
          exact a_iret ho dX11_takeDoings_45 (rI hr0 (re_el h).1) (rS hs0 (re_el h).2)
      · replace h := if_f hc18 h
        refine a_iconst (v := (-1)) ho dX11_takeDoings_21 rfl (by decide) ?_
        exact a_iret ho dX11_takeDoings_22 (rI hr0 (re_el h).1) (rS hs0 (re_el h).2)
theorem C_X11_takeDoings {l : Launch} {X : gX} {σ σ0 : gS} {r0 : Int32} {a1 : Int32} {a2 : Int32} {a3 : Int32} {a4 : Int32} (h : F_X11_takeDoings_0 a1 a2 a3 a4 σ = some (r0, σ0)) : gCt l X yX11_takeDoings (.code yX11_takeDoings cX11_takeDoings 9 (some .int)) 3 [.ref (X.2.2.1 0), .int a1, .int a2, .int a3, .int a4] σ (some (.int r0)) σ0 :=
  gCt_of cX11_takeDoings (by decide) (Nat.le_of_ble_eq_true rfl) (fun G hl hX hv hs ho => by subst hl; subst hX; exact a_sub [0, 1, 2, 3, 4] rfl (T_X11_takeDoings_0 ho hv hs h))
theorem T_X11_ahead_0 {G : gM} (ho : gOk G "WaxCloth" cX11_ahead 6 (some .int) 9) {r0 : Int32} (hr0 : gv0 G = some (.int r0)) {σ0 : gS} (hs0 : gs0 G = σ0) {x1 : Int32} {x2 : Int32} {x3 : Int32} {x4 : Int32} {x5 : Int32} {x6 : Int32} {σ : gS} (h : F_X11_ahead_0 x1 x2 x3 x4 x5 x6 σ = some (r0, σ0)) : gAt G 0 [(0, .ref (gad G 0)), (1, .int x1), (2, .int x2), (3, .int x3), (4, .int x4), (5, .int x5), (6, .int x6)] [] σ := by
  unfold F_X11_ahead_0 at h
  refine a_aload_n ho dX11_ahead_0 rfl rfl 0 rfl ?_
  refine a_getR ho fl_X11_28 o_0 fr_9_2 dX11_ahead_1 rfl ?_
  refine a_iload_n ho dX11_ahead_4 rfl rfl 1 rfl ?_
  refine a_callVi ho vy_X2_hasSquare ml_X11_110 o_10 (C_X2_hasSquare x1) rfl rfl (by decide) (Nat.le_of_ble_eq_true rfl) dX11_ahead_5 rfl ?_
  refine a_if_eq (tgt := 27) ho dX11_ahead_8 rfl rfl (fun hc8 => ?_) (fun hc8 => ?_)
  · replace h := if_t hc8 h
    refine a_iconst (v := (-1)) ho dX11_ahead_27 rfl (by decide) ?_
    exact a_iret ho dX11_ahead_28 (rI hr0 (re_el h).1) (rS hs0 (re_el h).2)
  · replace h := if_f hc8 h
    refine a_iload ho dX11_ahead_11 rfl 5 rfl ?_
    refine a_if_lt (tgt := 27) ho dX11_ahead_13 rfl rfl (fun hc13 => ?_) (fun hc13 => ?_)
    · replace h := if_t hc13 h
      refine a_iconst (v := (-1)) ho dX11_ahead_27 rfl (by decide) ?_
      exact a_iret ho dX11_ahead_28 (rI hr0 (re_el h).1) (rS hs0 (re_el h).2)
    · replace h := if_f hc13 h
      refine a_iload ho dX11_ahead_16 rfl 6 rfl ?_
      refine a_if_lt (tgt := 27) ho dX11_ahead_18 rfl rfl (fun hc18 => ?_) (fun hc18 => ?_)
      · replace h := if_t hc18 h
        refine a_iconst (v := (-1)) ho dX11_ahead_27 rfl (by decide) ?_
        exact a_iret ho dX11_ahead_28 (rI hr0 (re_el h).1) (rS hs0 (re_el h).2)
      · replace h := if_f hc18 h
        refine a_iload ho dX11_ahead_21 rfl 6 rfl ?_
        refine a_iconst (v := 2) ho dX11_ahead_23 rfl (by decide) ?_
        refine a_icmp_le (tgt := 29) ho dX11_ahead_24 rfl rfl (fun hc24 => ?_) (fun hc24 => ?_)
        · replace h := if_t hc24 h
          refine a_aload_n ho dX11_ahead_29 rfl rfl 0 rfl ?_
          refine a_iload_n ho dX11_ahead_30 rfl rfl 2 rfl ?_
          refine a_iload_n ho dX11_ahead_31 rfl rfl 3 rfl ?_
          refine a_iload ho dX11_ahead_32 rfl 4 rfl ?_
          refine a_iload ho dX11_ahead_34 rfl 5 rfl ?_
          obtain ⟨r36, σ36, hq36, h⟩ := ob2_el h
          refine a_callVi ho vy_X11_takeDoings ml_X11_289 o_0 (C_X11_takeDoings hq36) rfl rfl (by decide) (Nat.le_of_ble_eq_true rfl) dX11_ahead_36 rfl ?_
          refine a_istore (L' := [(7, .int r36), (0, .ref (gad G 0)), (1, .int x1), (2, .int x2), (3, .int x3), (4, .int x4), (5, .int x5), (6, .int x6)]) ho dX11_ahead_39 rfl (by decide) rfl ?_
          refine a_iload ho dX11_ahead_41 rfl 0 rfl ?_
          refine a_if_eq (tgt := 49) ho dX11_ahead_43 rfl rfl (fun hc43 => ?_) (fun hc43 => ?_)
          · replace h := if_t hc43 h
            refine a_aload_n ho dX11_ahead_49 rfl rfl 1 rfl ?_
            refine a_getR ho fl_X11_28 o_0 fr_9_2 dX11_ahead_50 rfl ?_
            refine a_iload_n ho dX11_ahead_53 rfl rfl 2 rfl ?_
            refine a_aload_n ho dX11_ahead_54 rfl rfl 1 rfl ?_
            refine a_getR ho fl_X11_28 o_0 fr_9_2 dX11_ahead_55 rfl ?_
            refine a_getR (q := 13) ho fl_X11_113 o_10 (fr_2_6 _ o_10) dX11_ahead_58 rfl ?_
            refine a_iload_n ho dX11_ahead_61 rfl rfl 2 rfl ?_
            obtain ⟨hk62, h⟩ := ck_el h
            refine a_iald ho i_13 hk62 dX11_ahead_62 rfl ?_
            refine a_aload_n ho dX11_ahead_63 rfl rfl 1 rfl ?_
            refine a_getR ho fl_X11_78 o_0 fr_9_10 dX11_ahead_64 rfl ?_
            refine a_iload ho dX11_ahead_67 rfl 6 rfl ?_
            obtain ⟨r69, hq69, h⟩ := ob_el h
            refine a_callVi ho vy_X2_afterRow ml_X11_292 o_10 (C_X2_afterRow i_81 hq69) rfl rfl (by decide) (Nat.le_of_ble_eq_true rfl) dX11_ahead_69 rfl ?_
            refine a_istore (L' := [(8, .int r69), (7, .int r36), (0, .ref (gad G 0)), (1, .int x1), (2, .int x2), (3, .int x3), (4, .int x4), (5, .int x5), (6, .int x6)]) ho dX11_ahead_72 rfl (by decide) rfl ?_
            refine a_iload ho dX11_ahead_74 rfl 8 rfl ?_
            by_cases hw76_0 : x6 = 0
            · replace h := if_t hw76_0 h
              refine a_look (tgt := 104) (off := 28) ho dX11_ahead_76 (by decide) (by rw [hw76_0]; rfl) rfl ?_
              refine a_iload ho dX11_ahead_104 rfl 0 rfl ?_
              obtain ⟨r106, hq106, h⟩ := ob_el h
              refine a_callSi ho vy_X9_hueOf ml_X11_128 (C_X9_hueOf hq106) rfl rfl (by decide) (Nat.le_of_ble_eq_true rfl) dX11_ahead_106 rfl ?_
              exact a_iret ho dX11_ahead_109 (rI hr0 (re_el h).1) (rS hs0 (re_el h).2)
            replace h := if_f hw76_0 h
            by_cases hw76_1 : x6 = 1
            · replace h := if_t hw76_1 h
              refine a_look (tgt := 110) (off := 34) ho dX11_ahead_76 (by decide) (by rw [hw76_1]; rfl) rfl ?_
              refine a_iload ho dX11_ahead_110 rfl 0 rfl ?_
              refine a_callSi ho vy_X9_darkness ml_X11_131 (C_X9_darkness r69) rfl rfl (by decide) (Nat.le_of_ble_eq_true rfl) dX11_ahead_112 rfl ?_
              exact a_iret ho dX11_ahead_115 (rI hr0 (re_el h).1) (rS hs0 (re_el h).2)
            replace h := if_f hw76_1 h
            refine a_look (tgt := 116) (off := 40) ho dX11_ahead_76 (by decide) (by have q0 := (tI hw76_0 (z := 0) rfl).symm; have q1 := (tI hw76_1 (z := 1) rfl).symm; simp [Op.lookupswitch.offset, q0, q1]) rfl ?_
            refine a_iload ho dX11_ahead_116 rfl 0 rfl ?_
            refine a_callSi ho vy_X9_waxIn ml_X11_122 (C_X9_waxIn r69) rfl rfl (by decide) (Nat.le_of_ble_eq_true rfl) dX11_ahead_118 rfl ?_
            exact a_iret ho dX11_ahead_121 (rI hr0 (re_el h).1) (rS hs0 (re_el h).2)
          · replace h := if_f hc43 h
            refine a_iload ho dX11_ahead_46 rfl 0 rfl ?_
            exact a_iret ho dX11_ahead_48 (rI hr0 (re_el h).1) (rS hs0 (re_el h).2)
        · replace h := if_f hc24 h
          refine a_iconst (v := (-1)) ho dX11_ahead_27 rfl (by decide) ?_
          exact a_iret ho dX11_ahead_28 (rI hr0 (re_el h).1) (rS hs0 (re_el h).2)
theorem C_X11_ahead {l : Launch} {X : gX} {σ σ0 : gS} {r0 : Int32} {a1 : Int32} {a2 : Int32} {a3 : Int32} {a4 : Int32} {a5 : Int32} {a6 : Int32} (h : F_X11_ahead_0 a1 a2 a3 a4 a5 a6 σ = some (r0, σ0)) : gCt l X yX11_ahead (.code yX11_ahead cX11_ahead 9 (some .int)) 6 [.ref (X.2.2.1 0), .int a1, .int a2, .int a3, .int a4, .int a5, .int a6] σ (some (.int r0)) σ0 :=
  gCt_of cX11_ahead (by decide) (Nat.le_of_ble_eq_true rfl) (fun G hl hX hv hs ho => by subst hl; subst hX; exact a_sub [0, 1, 2, 3, 4, 5, 6] rfl (T_X11_ahead_0 ho hv hs h))
