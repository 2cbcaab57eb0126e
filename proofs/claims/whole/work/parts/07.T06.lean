theorem T_X12_undo_0 {G : gM} (ho : gOk G "WaxClothModel" cX12_undo 2 (some .int) 1) {r0 : Int32} (hr0 : gv0 G = some (.int r0)) {σ0 : gS} (hs0 : gs0 G = σ0) {σ : gS} (h : F_X12_undo_0 σ = some (r0, σ0)) : gAt G 0 [(0, .ref (gad G 82))] [] σ := by
  unfold F_X12_undo_0 at h
  refine a_aload_n ho dX12_undo_0 rfl rfl 0 rfl ?_
  refine a_getI ho fl_X12_112 o_82 (ff_10_7 _ o_82) dX12_undo_1 rfl ?_
  refine a_if_ne (tgt := 10) ho dX12_undo_4 rfl rfl (fun hc4 => ?_) (fun hc4 => ?_)
  · replace h := if_f hc4 h
    refine a_aload_n ho dX12_undo_10 rfl rfl 0 rfl ?_
    refine a_dup ho dX12_undo_11 rfl rfl ?_
    refine a_getI ho fl_X12_112 o_82 (ff_10_7 _ o_82) dX12_undo_12 rfl ?_
    refine a_iconst (v := 1) ho dX12_undo_15 rfl (by decide) ?_
    refine a_isub ho dX12_undo_16 rfl ?_
    refine a_putI ho fp_X12_112 o_82 (ff_10_7 _ o_82) dX12_undo_17 rfl ?_
    obtain ⟨σ17, hs17, h⟩ := bd_el h
    refine a_nmS hs17 ?_
    refine a_aload_n ho dX12_undo_20 rfl rfl 0 rfl ?_
    refine a_dup ho dX12_undo_21 rfl rfl ?_
    refine a_getI ho fl_X12_109 o_82 (ff_10_5 _ o_82) dX12_undo_22 rfl ?_
    refine a_iconst (v := 1) ho dX12_undo_25 rfl (by decide) ?_
    refine a_isub ho dX12_undo_26 rfl ?_
    refine a_putI ho fp_X12_109 o_82 (ff_10_5 _ o_82) dX12_undo_27 rfl ?_
    obtain ⟨σ27, hs27, h⟩ := bd_el h
    refine a_nmS hs27 ?_
    refine a_aload_n ho dX12_undo_30 rfl rfl 0 rfl ?_
    refine a_getR ho fl_X12_25 o_82 fr_10_6 dX12_undo_31 rfl ?_
    refine a_bipush (v := 32) ho dX12_undo_34 rfl (by decide) ?_
    refine a_aload_n ho dX12_undo_36 rfl rfl 0 rfl ?_
    refine a_getI ho fl_X12_112 o_82 (ff_10_7 _ o_82) dX12_undo_37 rfl ?_
    refine a_imul ho dX12_undo_40 rfl ?_
    refine a_aload_n ho dX12_undo_41 rfl rfl 0 rfl ?_
    refine a_getR ho fl_X12_19 o_82 fr_10_3 dX12_undo_42 rfl ?_
    refine a_iconst (v := 0) ho dX12_undo_45 rfl (by decide) ?_
    refine a_bipush (v := 32) ho dX12_undo_46 rfl (by decide) ?_
    obtain ⟨σ48, hq48, h⟩ := ob_el h
    refine a_callSv ho vy_X12_copies ml_X12_105 (C_X12_copies (isI_ln i_88) (isI_ln i_86) hq48) rfl rfl (by decide) (Nat.le_of_ble_eq_true rfl) dX12_undo_48 rfl ?_
    refine a_aload_n ho dX12_undo_51 rfl rfl 0 rfl ?_
    refine a_getI ho fl_X12_112 o_82 (ff_10_7 _ o_82) dX12_undo_52 rfl ?_
    exact a_iret ho dX12_undo_55 (rI hr0 (re_el h).1) (rS hs0 (re_el h).2)
  · replace h := if_t hc4 h
    refine a_bipush (v := (-4)) ho dX12_undo_7 rfl (by decide) ?_
    exact a_iret ho dX12_undo_9 (rI hr0 (re_el h).1) (rS hs0 (re_el h).2)
theorem C_X12_undo {l : Launch} {X : gX} {σ σ0 : gS} {r0 : Int32} (h : F_X12_undo_0 σ = some (r0, σ0)) : gCt l X yX12_undo (.code yX12_undo cX12_undo 1 (some .int)) 2 [.ref (X.2.2.1 82)] σ (some (.int r0)) σ0 :=
  gCt_of cX12_undo (by decide) (Nat.le_of_ble_eq_true rfl) (fun G hl hX hv hs ho => by subst hl; subst hX; exact a_sub [0] rfl (T_X12_undo_0 ho hv hs h))
theorem T_X12_wish_0 {G : gM} (ho : gOk G "WaxClothModel" cX12_wish 3 (some .int) 4) {r0 : Int32} (hr0 : gv0 G = some (.int r0)) {σ0 : gS} (hs0 : gs0 G = σ0) {x1 : Int32} {x2 : Int32} {σ : gS} (h : F_X12_wish_0 x1 x2 σ = some (r0, σ0)) : gAt G 0 [(0, .ref (gad G 82)), (1, .int x1), (2, .int x2)] [] σ := by
  unfold F_X12_wish_0 at h
  refine a_aload_n ho dX12_wish_0 rfl rfl 0 rfl ?_
  refine a_iload_n ho dX12_wish_1 rfl rfl 1 rfl ?_
  obtain ⟨r2, hq2, h⟩ := ob_el h
  refine a_callVi ho vy_X12_isSquare ml_X12_161 o_82 (C_X12_isSquare hq2) rfl rfl (by decide) (Nat.le_of_ble_eq_true rfl) dX12_wish_2 rfl ?_
  refine a_if_eq (tgt := 20) ho dX12_wish_5 rfl rfl (fun hc5 => ?_) (fun hc5 => ?_)
  · replace h := if_t hc5 h
    refine a_iconst (v := (-1)) ho dX12_wish_20 rfl (by decide) ?_
    exact a_iret ho dX12_wish_21 (rI hr0 (re_el h).1) (rS hs0 (re_el h).2)
  · replace h := if_f hc5 h
    refine a_iload_n ho dX12_wish_8 rfl rfl 2 rfl ?_
    refine a_i2l ho dX12_wish_9 rfl ?_
    refine a_lconst (v := 0) ho dX12_wish_10 rfl (by decide) ?_
    refine a_ldc2 ho dX12_wish_11 rfl kk_X12_186 ?_
    refine a_callSi ho vy_X12_in ml_X12_59 (C_X12_in (Int32.toInt64 x2) 0 7) rfl rfl (by decide) (Nat.le_of_ble_eq_true rfl) dX12_wish_14 rfl ?_
    refine a_if_ne (tgt := 22) ho dX12_wish_17 rfl rfl (fun hc17 => ?_) (fun hc17 => ?_)
    · replace h := if_f hc17 h
      refine a_aload_n ho dX12_wish_22 rfl rfl 0 rfl ?_
      refine a_getR ho fl_X12_19 o_82 fr_10_3 dX12_wish_23 rfl ?_
      refine a_bipush (v := 32) ho dX12_wish_26 rfl (by decide) ?_
      refine a_iload_n ho dX12_wish_28 rfl rfl 1 rfl ?_
      refine a_iadd ho dX12_wish_29 rfl ?_
      obtain ⟨hk30, h⟩ := ck_el h
      refine a_iald ho i_86 hk30 dX12_wish_30 rfl ?_
      obtain ⟨x31, hb31, h⟩ := bd_el h
      refine a_nmI hb31 ?_
      refine a_istore_n (L' := [(3, .int x31), (0, .ref (gad G 82)), (1, .int x1), (2, .int x2)]) ho dX12_wish_31 rfl rfl (by decide) rfl ?_
      refine a_aload_n ho dX12_wish_32 rfl rfl 1 rfl ?_
      refine a_getR ho fl_X12_19 o_82 fr_10_3 dX12_wish_33 rfl ?_
      refine a_bipush (v := 32) ho dX12_wish_36 rfl (by decide) ?_
      refine a_iload_n ho dX12_wish_38 rfl rfl 2 rfl ?_
      refine a_iadd ho dX12_wish_39 rfl ?_
      refine a_iload_n ho dX12_wish_40 rfl rfl 3 rfl ?_
      obtain ⟨hk41, h⟩ := ck_el h
      refine a_iast ho i_86 hk41 dX12_wish_41 rfl ?_
      obtain ⟨σ41, hs41, h⟩ := bd_el h
      refine a_nmS hs41 ?_
      refine a_iload_n ho dX12_wish_42 rfl rfl 0 rfl ?_
      exact a_iret ho dX12_wish_43 (rI hr0 (re_el h).1) (rS hs0 (re_el h).2)
    · replace h := if_t hc17 h
      refine a_iconst (v := (-1)) ho dX12_wish_20 rfl (by decide) ?_
      exact a_iret ho dX12_wish_21 (rI hr0 (re_el h).1) (rS hs0 (re_el h).2)
theorem C_X12_wish {l : Launch} {X : gX} {σ σ0 : gS} {r0 : Int32} {a1 : Int32} {a2 : Int32} (h : F_X12_wish_0 a1 a2 σ = some (r0, σ0)) : gCt l X yX12_wish (.code yX12_wish cX12_wish 4 (some .int)) 3 [.ref (X.2.2.1 82), .int a1, .int a2] σ (some (.int r0)) σ0 :=
  gCt_of cX12_wish (by decide) (Nat.le_of_ble_eq_true rfl) (fun G hl hX hv hs ho => by subst hl; subst hX; exact a_sub [0, 1, 2] rfl (T_X12_wish_0 ho hv hs h))
theorem T_X12_image_0 {G : gM} (ho : gOk G "WaxClothModel" cX12_image 2 (some .int) 2) {r0 : Int32} (hr0 : gv0 G = some (.int r0)) {σ0 : gS} (hs0 : gs0 G = σ0) {x1 : Int32} {σ : gS} (h : F_X12_image_0 x1 σ = some (r0, σ0)) : gAt G 0 [(0, .ref (gad G 82)), (1, .int x1)] [] σ := by
  unfold F_X12_image_0 at h
  refine a_iload_n ho dX12_image_0 rfl rfl 1 rfl ?_
  refine a_i2l ho dX12_image_1 rfl ?_
  refine a_lconst (v := 0) ho dX12_image_2 rfl (by decide) ?_
  refine a_lconst (v := 1) ho dX12_image_3 rfl (by decide) ?_
  refine a_callSi ho vy_X12_in ml_X12_59 (C_X12_in (Int32.toInt64 x1) 0 1) rfl rfl (by decide) (Nat.le_of_ble_eq_true rfl) dX12_image_4 rfl ?_
  refine a_if_ne (tgt := 12) ho dX12_image_7 rfl rfl (fun hc7 => ?_) (fun hc7 => ?_)
  · replace h := if_f hc7 h
    refine a_aload_n ho dX12_image_12 rfl rfl 0 rfl ?_
    refine a_getR ho fl_X12_7 o_82 fr_10_0 dX12_image_13 rfl ?_
    refine a_iconst (v := 0) ho dX12_image_16 rfl (by decide) ?_
    refine a_iald ho i_83 (by decide) dX12_image_17 rfl ?_
    refine a_nmI (x := σ.1 83 0) rfl ?_
    refine a_if_ne (tgt := 24) ho dX12_image_18 rfl rfl (fun hc18 => ?_) (fun hc18 => ?_)
    · replace h := if_f hc18 h
      refine a_aload_n ho dX12_image_24 rfl rfl 0 rfl ?_
      refine a_getR ho fl_X12_7 o_82 fr_10_0 dX12_image_25 rfl ?_
      refine a_iconst (v := 0) ho dX12_image_28 rfl (by decide) ?_
      refine a_aload_n ho dX12_image_29 rfl rfl 0 rfl ?_
      refine a_getR ho fl_X12_28 o_82 fr_10_8 dX12_image_30 rfl ?_
      refine a_bipush (v := 67) ho dX12_image_33 rfl (by decide) ?_
      refine a_iload_n ho dX12_image_35 rfl rfl 1 rfl ?_
      refine a_imul ho dX12_image_36 rfl ?_
      refine a_bipush (v := 26) ho dX12_image_37 rfl (by decide) ?_
      obtain ⟨σ39, hq39, h⟩ := ob_el h
      refine a_callSv ho vy_X12_copies ml_X12_105 (C_X12_copies (isI_ln i_83) (isI_ln i_89) hq39) rfl rfl (by decide) (Nat.le_of_ble_eq_true rfl) dX12_image_39 rfl ?_
      refine a_aload_n ho dX12_image_42 rfl rfl 0 rfl ?_
      refine a_getR ho fl_X12_19 o_82 fr_10_3 dX12_image_43 rfl ?_
      refine a_iconst (v := 0) ho dX12_image_46 rfl (by decide) ?_
      refine a_aload_n ho dX12_image_47 rfl rfl 0 rfl ?_
      refine a_getR ho fl_X12_28 o_82 fr_10_8 dX12_image_48 rfl ?_
      refine a_bipush (v := 67) ho dX12_image_51 rfl (by decide) ?_
      refine a_iload_n ho dX12_image_53 rfl rfl 1 rfl ?_
      refine a_imul ho dX12_image_54 rfl ?_
      refine a_bipush (v := 26) ho dX12_image_55 rfl (by decide) ?_
      refine a_iadd ho dX12_image_57 rfl ?_
      refine a_bipush (v := 40) ho dX12_image_58 rfl (by decide) ?_
      obtain ⟨σ60, hq60, h⟩ := ob_el h
      refine a_callSv ho vy_X12_copies ml_X12_105 (C_X12_copies (isI_ln i_86) (isI_ln i_89) hq60) rfl rfl (by decide) (Nat.le_of_ble_eq_true rfl) dX12_image_60 rfl ?_
      refine a_aload_n ho dX12_image_63 rfl rfl 0 rfl ?_
      refine a_getR ho fl_X12_28 o_82 fr_10_8 dX12_image_64 rfl ?_
      refine a_bipush (v := 67) ho dX12_image_67 rfl (by decide) ?_
      refine a_iload_n ho dX12_image_69 rfl rfl 1 rfl ?_
      refine a_imul ho dX12_image_70 rfl ?_
      refine a_bipush (v := 26) ho dX12_image_71 rfl (by decide) ?_
      refine a_iadd ho dX12_image_73 rfl ?_
      refine a_bipush (v := 40) ho dX12_image_74 rfl (by decide) ?_
      refine a_iadd ho dX12_image_76 rfl ?_
      refine a_aload_n ho dX12_image_77 rfl rfl 0 rfl ?_
      refine a_getI ho fl_X12_109 o_82 (ff_10_5 _ o_82) dX12_image_78 rfl ?_
      obtain ⟨hk81, h⟩ := ck_el h
      refine a_iast ho i_89 hk81 dX12_image_81 rfl ?_
      obtain ⟨σ81, hs81, h⟩ := bd_el h
      refine a_nmS hs81 ?_
      refine a_aload_n ho dX12_image_82 rfl rfl 0 rfl ?_
      refine a_getR ho fl_X12_31 o_82 fr_10_9 dX12_image_83 rfl ?_
      refine a_iload_n ho dX12_image_86 rfl rfl 1 rfl ?_
      refine a_iconst (v := 1) ho dX12_image_87 rfl (by decide) ?_
      obtain ⟨hk88, h⟩ := ck_el h
      refine a_zast ho z_90 hk88 dX12_image_88 rfl ?_
      obtain ⟨σ88, hs88, h⟩ := bd_el h
      refine a_nmS hs88 ?_
      refine a_aload_n ho dX12_image_89 rfl rfl 0 rfl ?_
      refine a_getI ho fl_X12_109 o_82 (ff_10_5 _ o_82) dX12_image_90 rfl ?_
      exact a_iret ho dX12_image_93 (rI hr0 (re_el h).1) (rS hs0 (re_el h).2)
    · replace h := if_t hc18 h
      refine a_bipush (v := (-2)) ho dX12_image_21 rfl (by decide) ?_
      exact a_iret ho dX12_image_23 (rI hr0 (re_el h).1) (rS hs0 (re_el h).2)
  · replace h := if_t hc7 h
    refine a_iconst (v := (-1)) ho dX12_image_10 rfl (by decide) ?_
    exact a_iret ho dX12_image_11 (rI hr0 (re_el h).1) (rS hs0 (re_el h).2)
theorem C_X12_image {l : Launch} {X : gX} {σ σ0 : gS} {r0 : Int32} {a1 : Int32} (h : F_X12_image_0 a1 σ = some (r0, σ0)) : gCt l X yX12_image (.code yX12_image cX12_image 2 (some .int)) 2 [.ref (X.2.2.1 82), .int a1] σ (some (.int r0)) σ0 :=
  gCt_of cX12_image (by decide) (Nat.le_of_ble_eq_true rfl) (fun G hl hX hv hs ho => by subst hl; subst hX; exact a_sub [0, 1] rfl (T_X12_image_0 ho hv hs h))
theorem T_X12_restore_0 {G : gM} (ho : gOk G "WaxClothModel" cX12_restore 2 (some .int) 2) {r0 : Int32} (hr0 : gv0 G = some (.int r0)) {σ0 : gS} (hs0 : gs0 G = σ0) {x1 : Int32} {σ : gS} (h : F_X12_restore_0 x1 σ = some (r0, σ0)) : gAt G 0 [(0, .ref (gad G 82)), (1, .int x1)] [] σ := by
  unfold F_X12_restore_0 at h
  refine a_iload_n ho dX12_restore_0 rfl rfl 1 rfl ?_
  refine a_i2l ho dX12_restore_1 rfl ?_
  refine a_lconst (v := 0) ho dX12_restore_2 rfl (by decide) ?_
  refine a_lconst (v := 1) ho dX12_restore_3 rfl (by decide) ?_
  refine a_callSi ho vy_X12_in ml_X12_59 (C_X12_in (Int32.toInt64 x1) 0 1) rfl rfl (by decide) (Nat.le_of_ble_eq_true rfl) dX12_restore_4 rfl ?_
  refine a_if_ne (tgt := 12) ho dX12_restore_7 rfl rfl (fun hc7 => ?_) (fun hc7 => ?_)
  · replace h := if_f hc7 h
    refine a_aload_n ho dX12_restore_12 rfl rfl 0 rfl ?_
    refine a_getR ho fl_X12_31 o_82 fr_10_9 dX12_restore_13 rfl ?_
    refine a_iload_n ho dX12_restore_16 rfl rfl 1 rfl ?_
    obtain ⟨hk17, h⟩ := ck_el h
    refine a_zald ho z_90 hk17 dX12_restore_17 rfl ?_
    refine a_if_ne (tgt := 24) ho dX12_restore_18 rfl rfl (fun hc18 => ?_) (fun hc18 => ?_)
    · replace h := if_f hc18 h
      refine a_aload_n ho dX12_restore_24 rfl rfl 0 rfl ?_
      refine a_getR ho fl_X12_28 o_82 fr_10_8 dX12_restore_25 rfl ?_
      refine a_bipush (v := 67) ho dX12_restore_28 rfl (by decide) ?_
      refine a_iload_n ho dX12_restore_30 rfl rfl 1 rfl ?_
      refine a_imul ho dX12_restore_31 rfl ?_
      refine a_aload_n ho dX12_restore_32 rfl rfl 0 rfl ?_
      refine a_getR ho fl_X12_7 o_82 fr_10_0 dX12_restore_33 rfl ?_
      refine a_iconst (v := 0) ho dX12_restore_36 rfl (by decide) ?_
      refine a_bipush (v := 26) ho dX12_restore_37 rfl (by decide) ?_
      obtain ⟨σ39, hq39, h⟩ := ob_el h
      refine a_callSv ho vy_X12_copies ml_X12_105 (C_X12_copies (isI_ln i_89) (isI_ln i_83) hq39) rfl rfl (by decide) (Nat.le_of_ble_eq_true rfl) dX12_restore_39 rfl ?_
      refine a_aload_n ho dX12_restore_42 rfl rfl 0 rfl ?_
      refine a_getR ho fl_X12_28 o_82 fr_10_8 dX12_restore_43 rfl ?_
      refine a_bipush (v := 67) ho dX12_restore_46 rfl (by decide) ?_
      refine a_iload_n ho dX12_restore_48 rfl rfl 1 rfl ?_
      refine a_imul ho dX12_restore_49 rfl ?_
      refine a_bipush (v := 26) ho dX12_restore_50 rfl (by decide) ?_
      refine a_iadd ho dX12_restore_52 rfl ?_
      refine a_aload_n ho dX12_restore_53 rfl rfl 0 rfl ?_
      refine a_getR ho fl_X12_19 o_82 fr_10_3 dX12_restore_54 rfl ?_
      refine a_iconst (v := 0) ho dX12_restore_57 rfl (by decide) ?_
      refine a_bipush (v := 40) ho dX12_restore_58 rfl (by decide) ?_
      obtain ⟨σ60, hq60, h⟩ := ob_el h
      refine a_callSv ho vy_X12_copies ml_X12_105 (C_X12_copies (isI_ln i_89) (isI_ln i_86) hq60) rfl rfl (by decide) (Nat.le_of_ble_eq_true rfl) dX12_restore_60 rfl ?_
      refine a_aload_n ho dX12_restore_63 rfl rfl 0 rfl ?_
      refine a_aload_n ho dX12_restore_64 rfl rfl 0 rfl ?_
      refine a_getR ho fl_X12_28 o_82 fr_10_8 dX12_restore_65 rfl ?_
      refine a_bipush (v := 67) ho dX12_restore_68 rfl (by decide) ?_
      refine a_iload_n ho dX12_restore_70 rfl rfl 1 rfl ?_
      refine a_imul ho dX12_restore_71 rfl ?_
      refine a_bipush (v := 26) ho dX12_restore_72 rfl (by decide) ?_
      refine a_iadd ho dX12_restore_74 rfl ?_
      refine a_bipush (v := 40) ho dX12_restore_75 rfl (by decide) ?_
      refine a_iadd ho dX12_restore_77 rfl ?_
      obtain ⟨hk78, h⟩ := ck_el h
      refine a_iald ho i_89 hk78 dX12_restore_78 rfl ?_
      refine a_putI ho fp_X12_109 o_82 (ff_10_5 _ o_82) dX12_restore_79 rfl ?_
      obtain ⟨σ79, hs79, h⟩ := bd_el h
      refine a_nmS hs79 ?_
      refine a_aload_n ho dX12_restore_82 rfl rfl 0 rfl ?_
      refine a_iconst (v := 0) ho dX12_restore_83 rfl (by decide) ?_
      refine a_putI ho fp_X12_112 o_82 (ff_10_7 _ o_82) dX12_restore_84 rfl ?_
      obtain ⟨σ84, hs84, h⟩ := bd_el h
      refine a_nmS hs84 ?_
      refine a_aload_n ho dX12_restore_87 rfl rfl 0 rfl ?_
      refine a_getI ho fl_X12_109 o_82 (ff_10_5 _ o_82) dX12_restore_88 rfl ?_
      exact a_iret ho dX12_restore_91 (rI hr0 (re_el h).1) (rS hs0 (re_el h).2)
    · replace h := if_t hc18 h
      refine a_bipush (v := (-2)) ho dX12_restore_21 rfl (by decide) ?_
      exact a_iret ho dX12_restore_23 (rI hr0 (re_el h).1) (rS hs0 (re_el h).2)
  · replace h := if_t hc7 h
    refine a_iconst (v := (-1)) ho dX12_restore_10 rfl (by decide) ?_
    exact a_iret ho dX12_restore_11 (rI hr0 (re_el h).1) (rS hs0 (re_el h).2)
theorem C_X12_restore {l : Launch} {X : gX} {σ σ0 : gS} {r0 : Int32} {a1 : Int32} (h : F_X12_restore_0 a1 σ = some (r0, σ0)) : gCt l X yX12_restore (.code yX12_restore cX12_restore 2 (some .int)) 2 [.ref (X.2.2.1 82), .int a1] σ (some (.int r0)) σ0 :=
  gCt_of cX12_restore (by decide) (Nat.le_of_ble_eq_true rfl) (fun G hl hX hv hs ho => by subst hl; subst hX; exact a_sub [0, 1] rfl (T_X12_restore_0 ho hv hs h))
theorem T_X12_laysAside_0 {G : gM} (ho : gOk G "WaxClothModel" cX12_laysAside 2 none 1) (hr0 : gv0 G = none) {σ0 : gS} (hs0 : gs0 G = σ0) {σ : gS} (h : F_X12_laysAside_0 σ = some σ0) : gAt G 0 [(0, .ref (gad G 82))] [] σ := by
  unfold F_X12_laysAside_0 at h
  refine a_aload_n ho dX12_laysAside_0 rfl rfl 0 rfl ?_
  refine a_getR ho fl_X12_19 o_82 fr_10_3 dX12_laysAside_1 rfl ?_
  refine a_iconst (v := 0) ho dX12_laysAside_4 rfl (by decide) ?_
  refine a_aload_n ho dX12_laysAside_5 rfl rfl 0 rfl ?_
  refine a_getR ho fl_X12_22 o_82 fr_10_4 dX12_laysAside_6 rfl ?_
  refine a_iconst (v := 0) ho dX12_laysAside_9 rfl (by decide) ?_
  refine a_bipush (v := 40) ho dX12_laysAside_10 rfl (by decide) ?_
  obtain ⟨σ12, hq12, h⟩ := ob_el h
  refine a_callSv ho vy_X12_copies ml_X12_105 (C_X12_copies (isI_ln i_86) (isI_ln i_87) hq12) rfl rfl (by decide) (Nat.le_of_ble_eq_true rfl) dX12_laysAside_12 rfl ?_
  exact a_vret ho dX12_laysAside_15 hr0 (rS hs0 (ro_el h))
theorem C_X12_laysAside {l : Launch} {X : gX} {σ σ0 : gS} (h : F_X12_laysAside_0 σ = some σ0) : gCt l X yX12_laysAside (.code yX12_laysAside cX12_laysAside 1 none) 2 [.ref (X.2.2.1 82)] σ (none) σ0 :=
  gCt_of cX12_laysAside (by decide) (Nat.le_of_ble_eq_true rfl) (fun G hl hX hv hs ho => by subst hl; subst hX; exact a_sub [0] rfl (T_X12_laysAside_0 ho hv hs h))
theorem T_X12_doingsThere_0 {G : gM} (ho : gOk G "WaxClothModel" cX12_doingsThere 1 (some .int) 1) {r0 : Int32} (hr0 : gv0 G = some (.int r0)) {σ : gS} (hs0 : gs0 G = σ) (h : F_X12_doingsThere_0 σ = some r0) : gAt G 0 [(0, .ref (gad G 82))] [] σ := by
  unfold F_X12_doingsThere_0 at h
  refine a_aload_n ho dX12_doingsThere_0 rfl rfl 0 rfl ?_
  refine a_getR ho fl_X12_7 o_82 fr_10_0 dX12_doingsThere_1 rfl ?_
  refine a_iconst (v := 1) ho dX12_doingsThere_4 rfl (by decide) ?_
  refine a_iald ho i_83 (by decide) dX12_doingsThere_5 rfl ?_
  refine a_nmI (x := σ.1 83 1) rfl ?_
  refine a_aload_n ho dX12_doingsThere_6 rfl rfl 0 rfl ?_
  refine a_getR ho fl_X12_7 o_82 fr_10_0 dX12_doingsThere_7 rfl ?_
  refine a_iconst (v := 2) ho dX12_doingsThere_10 rfl (by decide) ?_
  refine a_iald ho i_83 (by decide) dX12_doingsThere_11 rfl ?_
  refine a_nmI (x := σ.1 83 2) rfl ?_
  refine a_iadd ho dX12_doingsThere_12 rfl ?_
  refine a_iconst (v := 2) ho dX12_doingsThere_13 rfl (by decide) ?_
  refine a_iadd ho dX12_doingsThere_14 rfl ?_
  exact a_iret ho dX12_doingsThere_15 (rI hr0 (ro_el h)) hs0
theorem C_X12_doingsThere {l : Launch} {X : gX} {σ : gS} {r0 : Int32} (h : F_X12_doingsThere_0 σ = some r0) : gCt l X yX12_doingsThere (.code yX12_doingsThere cX12_doingsThere 1 (some .int)) 1 [.ref (X.2.2.1 82)] σ (some (.int r0)) σ :=
  gCt_of cX12_doingsThere (by decide) (Nat.le_of_ble_eq_true rfl) (fun G hl hX hv hs ho => by subst hl; subst hX; exact a_sub [0] rfl (T_X12_doingsThere_0 ho hv hs h))
theorem T_X12_doingOf_0 {G : gM} (ho : gOk G "WaxClothModel" cX12_doingOf 1 (some .int) 4) {r0 : Int32} (hr0 : gv0 G = some (.int r0)) {σ : gS} (hs0 : gs0 G = σ) {x1 : Int32} (h : F_X12_doingOf_0 x1 σ = some r0) : gAt G 0 [(0, .ref (gad G 82)), (1, .int x1)] [] σ := by
  unfold F_X12_doingOf_0 at h
  refine a_aload_n ho dX12_doingOf_0 rfl rfl 0 rfl ?_
  refine a_getR ho fl_X12_7 o_82 fr_10_0 dX12_doingOf_1 rfl ?_
  refine a_iconst (v := 1) ho dX12_doingOf_4 rfl (by decide) ?_
  refine a_iald ho i_83 (by decide) dX12_doingOf_5 rfl ?_
  refine a_nmI (x := σ.1 83 1) rfl ?_
  obtain ⟨x6, hb6, h⟩ := bd_el h
  refine a_nmI hb6 ?_
  refine a_istore_n (L' := [(2, .int x6), (0, .ref (gad G 82)), (1, .int x1)]) ho dX12_doingOf_6 rfl rfl (by decide) rfl ?_
  refine a_aload_n ho dX12_doingOf_7 rfl rfl 1 rfl ?_
  refine a_getR ho fl_X12_7 o_82 fr_10_0 dX12_doingOf_8 rfl ?_
  refine a_iconst (v := 2) ho dX12_doingOf_11 rfl (by decide) ?_
  refine a_iald ho i_83 (by decide) dX12_doingOf_12 rfl ?_
  refine a_nmI (x := σ.1 83 2) rfl ?_
  obtain ⟨x13, hb13, h⟩ := bd_el h
  refine a_nmI hb13 ?_
  refine a_istore_n (L' := [(3, .int x13), (2, .int x6), (0, .ref (gad G 82)), (1, .int x1)]) ho dX12_doingOf_13 rfl rfl (by decide) rfl ?_
  refine a_iload_n ho dX12_doingOf_14 rfl rfl 3 rfl ?_
  refine a_iload_n ho dX12_doingOf_15 rfl rfl 1 rfl ?_
  refine a_icmp_ge (tgt := 23) ho dX12_doingOf_16 rfl rfl (fun hc16 => ?_) (fun hc16 => ?_)
  · replace h := if_t hc16 h
    refine a_iload_n ho dX12_doingOf_23 rfl rfl 3 rfl ?_
    refine a_iload_n ho dX12_doingOf_24 rfl rfl 1 rfl ?_
    refine a_iload_n ho dX12_doingOf_25 rfl rfl 0 rfl ?_
    refine a_iadd ho dX12_doingOf_26 rfl ?_
    refine a_icmp_ge (tgt := 39) ho dX12_doingOf_27 rfl rfl (fun hc27 => ?_) (fun hc27 => ?_)
    · replace h := if_t hc27 h
      refine a_bipush (v := 20) ho dX12_doingOf_39 rfl (by decide) ?_
      refine a_iload_n ho dX12_doingOf_41 rfl rfl 3 rfl ?_
      refine a_iadd ho dX12_doingOf_42 rfl ?_
      refine a_iload_n ho dX12_doingOf_43 rfl rfl 1 rfl ?_
      refine a_isub ho dX12_doingOf_44 rfl ?_
      refine a_iload_n ho dX12_doingOf_45 rfl rfl 0 rfl ?_
      refine a_isub ho dX12_doingOf_46 rfl ?_
      exact a_iret ho dX12_doingOf_47 (rI hr0 (ro_el h)) hs0
    · replace h := if_f hc27 h
      refine a_bipush (v := 10) ho dX12_doingOf_30 rfl (by decide) ?_
      refine a_iload_n ho dX12_doingOf_32 rfl rfl 3 rfl ?_
      refine a_iadd ho dX12_doingOf_33 rfl ?_
      refine a_iload_n ho dX12_doingOf_34 rfl rfl 1 rfl ?_
      refine a_isub ho dX12_doingOf_35 rfl ?_
      refine a_goto (tgt := 47) ho dX12_doingOf_36 rfl ?_
      exact a_iret ho dX12_doingOf_47 (rI hr0 (ro_el h)) hs0
  · replace h := if_f hc16 h
    refine a_iload_n ho dX12_doingOf_19 rfl rfl 3 rfl ?_
    refine a_goto (tgt := 47) ho dX12_doingOf_20 rfl ?_
    exact a_iret ho dX12_doingOf_47 (rI hr0 (ro_el h)) hs0
theorem C_X12_doingOf {l : Launch} {X : gX} {σ : gS} {r0 : Int32} {a1 : Int32} (h : F_X12_doingOf_0 a1 σ = some r0) : gCt l X yX12_doingOf (.code yX12_doingOf cX12_doingOf 4 (some .int)) 1 [.ref (X.2.2.1 82), .int a1] σ (some (.int r0)) σ :=
  gCt_of cX12_doingOf (by decide) (Nat.le_of_ble_eq_true rfl) (fun G hl hX hv hs ho => by subst hl; subst hX; exact a_sub [0, 1] rfl (T_X12_doingOf_0 ho hv hs h))
theorem T_X12_plan_194 {G : gM} (ho : gOk G "WaxClothModel" cX12_plan 7 (some .int) 11) {r0 : Int32} (hr0 : gv0 G = some (.int r0)) {σ0 : gS} (hs0 : gs0 G = σ0) : ∀ (n : Nat) (x2 : Int32) (x3 : Int32) (x5 : Int32) (x8 : Int32) (σ : gS), F_X12_plan_194 n x2 x3 x5 x8 σ = some (r0, σ0) → gAt G 194 [(0, .ref (gad G 82)), (2, .int x2), (3, .int x3), (5, .int x5), (8, .int x8)] [] σ := by
  intro n
  induction n with
  | zero => intro x2 x3 x5 x8 σ h; cases h
  | succ n ih =>
    intro x2 x3 x5 x8 σ h
    unfold F_X12_plan_194 at h
    refine a_iload ho dX12_plan_194 rfl 4 rfl ?_
    refine a_iload_n ho dX12_plan_196 rfl rfl 1 rfl ?_
    refine a_icmp_le (tgt := 212) ho dX12_plan_197 rfl rfl (fun hc197 => ?_) (fun hc197 => ?_)
    · replace h := if_t hc197 h
      refine a_aload_n ho dX12_plan_212 rfl rfl 0 rfl ?_
      refine a_iload ho dX12_plan_213 rfl 3 rfl ?_
      refine a_iload_n ho dX12_plan_215 rfl rfl 2 rfl ?_
      obtain ⟨hk216, h⟩ := ck_el h
      refine a_irem ho dX12_plan_216 rfl hk216 ?_
      obtain ⟨r217, hq217, h⟩ := ob_el h
      refine a_callVi ho vy_X12_doingOf ml_X12_196 o_82 (C_X12_doingOf hq217) rfl rfl (by decide) (Nat.le_of_ble_eq_true rfl) dX12_plan_217 rfl ?_
      exact a_iret ho dX12_plan_220 (rI hr0 (re_el h).1) (rS hs0 (re_el h).2)
    · replace h := if_f hc197 h
      refine a_iload ho dX12_plan_200 rfl 3 rfl ?_
      refine a_iload_n ho dX12_plan_202 rfl rfl 2 rfl ?_
      obtain ⟨hk203, h⟩ := ck_el h
      refine a_idiv ho dX12_plan_203 rfl hk203 ?_
      obtain ⟨x204, hb204, h⟩ := bd_el h
      refine a_nmI hb204 ?_
      refine a_istore (L' := [(5, .int x204), (0, .ref (gad G 82)), (2, .int x2), (3, .int x3), (8, .int x8)]) ho dX12_plan_204 rfl (by decide) rfl ?_
      obtain ⟨x206, hb206, h⟩ := bd_el h
      refine a_iinc (L' := [(8, .int x206), (5, .int x204), (0, .ref (gad G 82)), (2, .int x2), (3, .int x3)]) ho dX12_plan_206 rfl 4 rfl hb206 (by decide) rfl ?_
      refine a_goto (tgt := 194) ho dX12_plan_209 rfl ?_
      exact a_sub [2, 3, 4, 1, 0] rfl (ih _ _ _ _ _ h)
theorem T_X12_plan_143 {G : gM} (ho : gOk G "WaxClothModel" cX12_plan 7 (some .int) 11) {r0 : Int32} (hr0 : gv0 G = some (.int r0)) {σ0 : gS} (hs0 : gs0 G = σ0) {g52 : Int32 → Int32 → Int32 → Int32 → Int32 → Int32 → Int32 → Int32 → gS → Option (Int32 × gS)} (hg52 : ∀ (x1 : Int32) (x2 : Int32) (x3 : Int32) (x4 : Int32) (x5 : Int32) (x6 : Int32) (x7 : Int32) (x8 : Int32) (σ : gS), g52 x1 x2 x3 x4 x5 x6 x7 x8 σ = some (r0, σ0) → gAt G 52 [(0, .ref (gad G 82)), (1, .int x1), (2, .int x2), (3, .int x3), (4, .int x4), (5, .int x5), (6, .int x6), (7, .int x7), (8, .int x8)] [] σ) {g61 : Int32 → Int32 → Int32 → Int32 → Int32 → Int32 → Int32 → Int32 → Int32 → gS → Option (Int32 × gS)} (hg61 : ∀ (x1 : Int32) (x2 : Int32) (x3 : Int32) (x4 : Int32) (x5 : Int32) (x6 : Int32) (x7 : Int32) (x8 : Int32) (x9 : Int32) (σ : gS), g61 x1 x2 x3 x4 x5 x6 x7 x8 x9 σ = some (r0, σ0) → gAt G 61 [(0, .ref (gad G 82)), (1, .int x1), (2, .int x2), (3, .int x3), (4, .int x4), (5, .int x5), (6, .int x6), (7, .int x7), (8, .int x8), (9, .int x9)] [] σ) {x1 : Int32} {x2 : Int32} {x3 : Int32} {x4 : Int32} {x5 : Int32} {x6 : Int32} {x7 : Int32} {x8 : Int32} {x9 : Int32} {σ : gS} (h : F_X12_plan_143 g52 g61 x1 x2 x3 x4 x5 x6 x7 x8 x9 σ = some (r0, σ0)) : gAt G 143 [(0, .ref (gad G 82)), (1, .int x1), (2, .int x2), (3, .int x3), (4, .int x4), (5, .int x5), (6, .int x6), (7, .int x7), (8, .int x8), (9, .int x9)] [] σ := by
  unfold F_X12_plan_143 at h
  obtain ⟨x143, hb143, h⟩ := bd_el h
  refine a_iinc (L' := [(9, .int x143), (0, .ref (gad G 82)), (1, .int x1), (2, .int x2), (3, .int x3), (4, .int x4), (5, .int x5), (6, .int x6), (7, .int x7), (8, .int x8)]) ho dX12_plan_143 rfl 9 rfl hb143 (by decide) rfl ?_
  refine a_goto (tgt := 61) ho dX12_plan_146 rfl ?_
  exact a_sub [1, 2, 3, 4, 5, 6, 7, 8, 9, 0] rfl (hg61 _ _ _ _ _ _ _ _ _ _ h)
theorem T_X12_plan_78 {G : gM} (ho : gOk G "WaxClothModel" cX12_plan 7 (some .int) 11) {r0 : Int32} (hr0 : gv0 G = some (.int r0)) {σ0 : gS} (hs0 : gs0 G = σ0) {g52 : Int32 → Int32 → Int32 → Int32 → Int32 → Int32 → Int32 → Int32 → gS → Option (Int32 × gS)} (hg52 : ∀ (x1 : Int32) (x2 : Int32) (x3 : Int32) (x4 : Int32) (x5 : Int32) (x6 : Int32) (x7 : Int32) (x8 : Int32) (σ : gS), g52 x1 x2 x3 x4 x5 x6 x7 x8 σ = some (r0, σ0) → gAt G 52 [(0, .ref (gad G 82)), (1, .int x1), (2, .int x2), (3, .int x3), (4, .int x4), (5, .int x5), (6, .int x6), (7, .int x7), (8, .int x8)] [] σ) {g61 : Int32 → Int32 → Int32 → Int32 → Int32 → Int32 → Int32 → Int32 → Int32 → gS → Option (Int32 × gS)} (hg61 : ∀ (x1 : Int32) (x2 : Int32) (x3 : Int32) (x4 : Int32) (x5 : Int32) (x6 : Int32) (x7 : Int32) (x8 : Int32) (x9 : Int32) (σ : gS), g61 x1 x2 x3 x4 x5 x6 x7 x8 x9 σ = some (r0, σ0) → gAt G 61 [(0, .ref (gad G 82)), (1, .int x1), (2, .int x2), (3, .int x3), (4, .int x4), (5, .int x5), (6, .int x6), (7, .int x7), (8, .int x8), (9, .int x9)] [] σ) : ∀ (n : Nat) (x1 : Int32) (x2 : Int32) (x3 : Int32) (x4 : Int32) (x5 : Int32) (x6 : Int32) (x7 : Int32) (x8 : Int32) (x9 : Int32) (x10 : Int32) (σ : gS), F_X12_plan_78 g52 g61 n x1 x2 x3 x4 x5 x6 x7 x8 x9 x10 σ = some (r0, σ0) → gAt G 78 [(0, .ref (gad G 82)), (1, .int x1), (2, .int x2), (3, .int x3), (4, .int x4), (5, .int x5), (6, .int x6), (7, .int x7), (8, .int x8), (9, .int x9), (10, .int x10)] [] σ := by
  intro n
  induction n with
  | zero => intro x1 x2 x3 x4 x5 x6 x7 x8 x9 x10 σ h; cases h
  | succ n ih =>
    intro x1 x2 x3 x4 x5 x6 x7 x8 x9 x10 σ h
    unfold F_X12_plan_78 at h
    refine a_iload ho dX12_plan_78 rfl 10 rfl ?_
    refine a_if_le (tgt := 111) ho dX12_plan_80 rfl rfl (fun hc80 => ?_) (fun hc80 => ?_)
    · replace h := if_t hc80 h
      refine a_aload_n ho dX12_plan_111 rfl rfl 0 rfl ?_
      refine a_aload_n ho dX12_plan_112 rfl rfl 0 rfl ?_
      refine a_getR ho fl_X12_22 o_82 fr_10_4 dX12_plan_113 rfl ?_
      obtain ⟨r116, hq116, h⟩ := ob_el h
      refine a_callVi ho vy_X12_rightOn ml_X12_182 o_82 (C_X12_rightOn i_87 hq116) rfl rfl (by decide) (Nat.le_of_ble_eq_true rfl) dX12_plan_116 rfl ?_
      obtain ⟨r119, hq119, h⟩ := ob_el h
      refine a_callSi ho vy_X12_bits ml_X12_199 (C_X12_bits hq119) rfl rfl (by decide) (Nat.le_of_ble_eq_true rfl) dX12_plan_119 rfl ?_
      refine a_istore (L' := [(10, .int r119), (0, .ref (gad G 82)), (1, .int x1), (2, .int x2), (3, .int x3), (4, .int x4), (5, .int x5), (6, .int x6), (7, .int x7), (8, .int x8), (9, .int x9)]) ho dX12_plan_122 rfl (by decide) rfl ?_
      refine a_iload ho dX12_plan_124 rfl 0 rfl ?_
      refine a_iload ho dX12_plan_126 rfl 5 rfl ?_
      refine a_icmp_le (tgt := 143) ho dX12_plan_128 rfl rfl (fun hc128 => ?_) (fun hc128 => ?_)
      · replace h := if_t hc128 h
        exact a_sub [1, 2, 3, 4, 5, 6, 7, 8, 9, 10] rfl (T_X12_plan_143 ho hr0 hs0 hg52 hg61 h)
      · replace h := if_f hc128 h
        refine a_iload ho dX12_plan_131 rfl 0 rfl ?_
        refine a_istore (L' := [(4, .int r119), (10, .int r119), (0, .ref (gad G 82)), (1, .int x1), (2, .int x2), (3, .int x3), (5, .int x5), (6, .int x6), (7, .int x7), (8, .int x8), (9, .int x9)]) ho dX12_plan_133 rfl (by decide) rfl ?_
        refine a_iload ho dX12_plan_135 rfl 10 rfl ?_
        refine a_istore (L' := [(5, .int x9), (4, .int r119), (10, .int r119), (0, .ref (gad G 82)), (1, .int x1), (2, .int x2), (3, .int x3), (6, .int x6), (7, .int x7), (8, .int x8), (9, .int x9)]) ho dX12_plan_137 rfl (by decide) rfl ?_
        refine a_iload ho dX12_plan_139 rfl 9 rfl ?_
        refine a_istore (L' := [(6, .int x8), (5, .int x9), (4, .int r119), (10, .int r119), (0, .ref (gad G 82)), (1, .int x1), (2, .int x2), (3, .int x3), (7, .int x7), (8, .int x8), (9, .int x9)]) ho dX12_plan_141 rfl (by decide) rfl ?_
        exact a_sub [4, 5, 6, 7, 2, 1, 0, 8, 9, 10] rfl (T_X12_plan_143 ho hr0 hs0 hg52 hg61 h)
    · replace h := if_f hc80 h
      refine a_aload_n ho dX12_plan_83 rfl rfl 0 rfl ?_
      refine a_aload_n ho dX12_plan_84 rfl rfl 0 rfl ?_
      refine a_getR ho fl_X12_22 o_82 fr_10_4 dX12_plan_85 rfl ?_
      refine a_aload_n ho dX12_plan_88 rfl rfl 0 rfl ?_
      refine a_iload ho dX12_plan_89 rfl 9 rfl ?_
      refine a_iload ho dX12_plan_91 rfl 10 rfl ?_
      obtain ⟨hk93, h⟩ := ck_el h
      refine a_idiv ho dX12_plan_93 rfl hk93 ?_
      refine a_iload_n ho dX12_plan_94 rfl rfl 3 rfl ?_
      obtain ⟨hk95, h⟩ := ck_el h
      refine a_irem ho dX12_plan_95 rfl hk95 ?_
      obtain ⟨r96, hq96, h⟩ := ob_el h
      refine a_callVi ho vy_X12_doingOf ml_X12_196 o_82 (C_X12_doingOf hq96) rfl rfl (by decide) (Nat.le_of_ble_eq_true rfl) dX12_plan_96 rfl ?_
      obtain ⟨σ99, hq99, h⟩ := ob_el h
      refine a_callVv ho vy_X12_doesAll ml_X12_179 o_82 (C_X12_doesAll i_87 hq99) rfl rfl (by decide) (Nat.le_of_ble_eq_true rfl) dX12_plan_99 rfl ?_
      refine a_iload ho dX12_plan_102 rfl 10 rfl ?_
      refine a_iload_n ho dX12_plan_104 rfl rfl 3 rfl ?_
      obtain ⟨hk105, h⟩ := ck_el h
      refine a_idiv ho dX12_plan_105 rfl hk105 ?_
      obtain ⟨x106, hb106, h⟩ := bd_el h
      refine a_nmI hb106 ?_
      refine a_istore (L' := [(10, .int x106), (0, .ref (gad G 82)), (1, .int x1), (2, .int x2), (3, .int x3), (4, .int x4), (5, .int x5), (6, .int x6), (7, .int x7), (8, .int x8), (9, .int x9)]) ho dX12_plan_106 rfl (by decide) rfl ?_
      refine a_goto (tgt := 78) ho dX12_plan_108 rfl ?_
      exact a_sub [1, 2, 3, 4, 5, 6, 7, 8, 9, 10, 0] rfl (ih _ _ _ _ _ _ _ _ _ _ _ h)
theorem T_X12_plan_61 {G : gM} (ho : gOk G "WaxClothModel" cX12_plan 7 (some .int) 11) {r0 : Int32} (hr0 : gv0 G = some (.int r0)) {σ0 : gS} (hs0 : gs0 G = σ0) {g52 : Int32 → Int32 → Int32 → Int32 → Int32 → Int32 → Int32 → Int32 → gS → Option (Int32 × gS)} (hg52 : ∀ (x1 : Int32) (x2 : Int32) (x3 : Int32) (x4 : Int32) (x5 : Int32) (x6 : Int32) (x7 : Int32) (x8 : Int32) (σ : gS), g52 x1 x2 x3 x4 x5 x6 x7 x8 σ = some (r0, σ0) → gAt G 52 [(0, .ref (gad G 82)), (1, .int x1), (2, .int x2), (3, .int x3), (4, .int x4), (5, .int x5), (6, .int x6), (7, .int x7), (8, .int x8)] [] σ) : ∀ (n : Nat) (x1 : Int32) (x2 : Int32) (x3 : Int32) (x4 : Int32) (x5 : Int32) (x6 : Int32) (x7 : Int32) (x8 : Int32) (x9 : Int32) (σ : gS), F_X12_plan_61 g52 n x1 x2 x3 x4 x5 x6 x7 x8 x9 σ = some (r0, σ0) → gAt G 61 [(0, .ref (gad G 82)), (1, .int x1), (2, .int x2), (3, .int x3), (4, .int x4), (5, .int x5), (6, .int x6), (7, .int x7), (8, .int x8), (9, .int x9)] [] σ := by
  intro n
  induction n with
  | zero => intro x1 x2 x3 x4 x5 x6 x7 x8 x9 σ h; cases h
  | succ n ih =>
    intro x1 x2 x3 x4 x5 x6 x7 x8 x9 σ h
    unfold F_X12_plan_61 at h
    refine a_iload ho dX12_plan_61 rfl 9 rfl ?_
    refine a_iload ho dX12_plan_63 rfl 7 rfl ?_
    refine a_icmp_ge (tgt := 149) ho dX12_plan_65 rfl rfl (fun hc65 => ?_) (fun hc65 => ?_)
    · replace h := if_t hc65 h
      refine a_iload ho dX12_plan_149 rfl 7 rfl ?_
      refine a_iload_n ho dX12_plan_151 rfl rfl 3 rfl ?_
      refine a_imul ho dX12_plan_152 rfl ?_
      obtain ⟨x153, hb153, h⟩ := bd_el h
      refine a_nmI hb153 ?_
      refine a_istore (L' := [(7, .int x153), (0, .ref (gad G 82)), (1, .int x1), (2, .int x2), (3, .int x3), (4, .int x4), (5, .int x5), (6, .int x6), (8, .int x8), (9, .int x9)]) ho dX12_plan_153 rfl (by decide) rfl ?_
      obtain ⟨x155, hb155, h⟩ := bd_el h
      refine a_iinc (L' := [(8, .int x155), (7, .int x153), (0, .ref (gad G 82)), (1, .int x1), (2, .int x2), (3, .int x3), (4, .int x4), (5, .int x5), (6, .int x6), (9, .int x9)]) ho dX12_plan_155 rfl 8 rfl hb155 (by decide) rfl ?_
      refine a_goto (tgt := 52) ho dX12_plan_158 rfl ?_
      exact a_sub [2, 3, 4, 5, 6, 7, 8, 1, 0] rfl (hg52 _ _ _ _ _ _ _ _ _ h)
    · replace h := if_f hc65 h
      refine a_aload_n ho dX12_plan_68 rfl rfl 0 rfl ?_
      obtain ⟨σ69, hq69, h⟩ := ob_el h
      refine a_callVv ho vy_X12_laysAside ml_X12_193 o_82 (C_X12_laysAside hq69) rfl rfl (by decide) (Nat.le_of_ble_eq_true rfl) dX12_plan_69 rfl ?_
      refine a_iload ho dX12_plan_72 rfl 7 rfl ?_
      refine a_iload_n ho dX12_plan_74 rfl rfl 3 rfl ?_
      obtain ⟨hk75, h⟩ := ck_el h
      refine a_idiv ho dX12_plan_75 rfl hk75 ?_
      obtain ⟨x76, hb76, h⟩ := bd_el h
      refine a_nmI hb76 ?_
      refine a_istore (L' := [(10, .int x76), (0, .ref (gad G 82)), (1, .int x1), (2, .int x2), (3, .int x3), (4, .int x4), (5, .int x5), (6, .int x6), (7, .int x7), (8, .int x8), (9, .int x9)]) ho dX12_plan_76 rfl (by decide) rfl ?_
      exact a_sub [1, 2, 3, 4, 5, 6, 7, 8, 9, 10, 0] rfl (T_X12_plan_78 ho hr0 hs0 hg52 ih _ _ _ _ _ _ _ _ _ _ _ _ h)
theorem T_X12_plan_52 {G : gM} (ho : gOk G "WaxClothModel" cX12_plan 7 (some .int) 11) {r0 : Int32} (hr0 : gv0 G = some (.int r0)) {σ0 : gS} (hs0 : gs0 G = σ0) : ∀ (n : Nat) (x1 : Int32) (x2 : Int32) (x3 : Int32) (x4 : Int32) (x5 : Int32) (x6 : Int32) (x7 : Int32) (x8 : Int32) (σ : gS), F_X12_plan_52 n x1 x2 x3 x4 x5 x6 x7 x8 σ = some (r0, σ0) → gAt G 52 [(0, .ref (gad G 82)), (1, .int x1), (2, .int x2), (3, .int x3), (4, .int x4), (5, .int x5), (6, .int x6), (7, .int x7), (8, .int x8)] [] σ := by
  intro n
  induction n with
  | zero => intro x1 x2 x3 x4 x5 x6 x7 x8 σ h; cases h
  | succ n ih =>
    intro x1 x2 x3 x4 x5 x6 x7 x8 σ h
    unfold F_X12_plan_52 at h
    refine a_iload ho dX12_plan_52 rfl 8 rfl ?_
    refine a_iload_n ho dX12_plan_54 rfl rfl 1 rfl ?_
    refine a_icmp_gt (tgt := 161) ho dX12_plan_55 rfl rfl (fun hc55 => ?_) (fun hc55 => ?_)
    · replace h := if_t hc55 h
      refine a_iload_n ho dX12_plan_161 rfl rfl 2 rfl ?_
      refine a_if_ge (tgt := 179) ho dX12_plan_162 rfl rfl (fun hc162 => ?_) (fun hc162 => ?_)
      · replace h := if_t hc162 h
        refine a_iload_n ho dX12_plan_179 rfl rfl 2 rfl ?_
        refine a_iload ho dX12_plan_180 rfl 6 rfl ?_
        refine a_icmp_lt (tgt := 188) ho dX12_plan_182 rfl rfl (fun hc182 => ?_) (fun hc182 => ?_)
        · replace h := if_t hc182 h
          refine a_iload ho dX12_plan_188 rfl 6 rfl ?_
          refine a_iconst (v := 1) ho dX12_plan_190 rfl (by decide) ?_
          refine a_isub ho dX12_plan_191 rfl ?_
          obtain ⟨x192, hb192, h⟩ := bd_el h
          refine a_nmI hb192 ?_
          refine a_istore (L' := [(8, .int x192), (0, .ref (gad G 82)), (1, .int x1), (2, .int x2), (3, .int x3), (4, .int x4), (5, .int x5), (6, .int x6), (7, .int x7)]) ho dX12_plan_192 rfl (by decide) rfl ?_
          exact a_sub [1, 3, 4, 6, 0] rfl (T_X12_plan_194 ho hr0 hs0 _ _ _ _ _ _ h)
        · replace h := if_f hc182 h
          refine a_bipush (v := (-4)) ho dX12_plan_185 rfl (by decide) ?_
          exact a_iret ho dX12_plan_187 (rI hr0 (re_el h).1) (rS hs0 (re_el h).2)
      · replace h := if_f hc162 h
        refine a_iload_n ho dX12_plan_165 rfl rfl 2 rfl ?_
        refine a_bipush (v := (-2)) ho dX12_plan_166 rfl (by decide) ?_
        refine a_icmp_ne (tgt := 176) ho dX12_plan_168 rfl rfl (fun hc168 => ?_) (fun hc168 => ?_)
        · replace h := if_f hc168 h
          refine a_iload ho dX12_plan_176 rfl 6 rfl ?_
          exact a_iret ho dX12_plan_178 (rI hr0 (re_el h).1) (rS hs0 (re_el h).2)
        · replace h := if_t hc168 h
          refine a_iload ho dX12_plan_171 rfl 4 rfl ?_
          refine a_goto (tgt := 178) ho dX12_plan_173 rfl ?_
          exact a_iret ho dX12_plan_178 (rI hr0 (re_el h).1) (rS hs0 (re_el h).2)
    · replace h := if_f hc55 h
      refine a_iconst (v := 0) ho dX12_plan_58 rfl (by decide) ?_
      refine a_istore (L' := [(9, .int 0), (0, .ref (gad G 82)), (1, .int x1), (2, .int x2), (3, .int x3), (4, .int x4), (5, .int x5), (6, .int x6), (7, .int x7), (8, .int x8)]) ho dX12_plan_59 rfl (by decide) rfl ?_
      exact a_sub [1, 2, 3, 4, 5, 6, 7, 8, 9, 0] rfl (T_X12_plan_61 ho hr0 hs0 ih _ _ _ _ _ _ _ _ _ _ _ h)
theorem T_X12_plan_0 {G : gM} (ho : gOk G "WaxClothModel" cX12_plan 7 (some .int) 11) {r0 : Int32} (hr0 : gv0 G = some (.int r0)) {σ0 : gS} (hs0 : gs0 G = σ0) {x1 : Int32} {x2 : Int32} {σ : gS} (h : F_X12_plan_0 x1 x2 σ = some (r0, σ0)) : gAt G 0 [(0, .ref (gad G 82)), (1, .int x1), (2, .int x2)] [] σ := by
  unfold F_X12_plan_0 at h
  refine a_iload_n ho dX12_plan_0 rfl rfl 1 rfl ?_
  refine a_i2l ho dX12_plan_1 rfl ?_
  refine a_lconst (v := 0) ho dX12_plan_2 rfl (by decide) ?_
  refine a_ldc2 ho dX12_plan_3 rfl kk_X12_188 ?_
  refine a_callSi ho vy_X12_in ml_X12_59 (C_X12_in (Int32.toInt64 x1) 0 4) rfl rfl (by decide) (Nat.le_of_ble_eq_true rfl) dX12_plan_6 rfl ?_
  refine a_if_eq (tgt := 18) ho dX12_plan_9 rfl rfl (fun hc9 => ?_) (fun hc9 => ?_)
  · replace h := if_t hc9 h
    refine a_iconst (v := (-1)) ho dX12_plan_18 rfl (by decide) ?_
    exact a_iret ho dX12_plan_19 (rI hr0 (re_el h).1) (rS hs0 (re_el h).2)
  · replace h := if_f hc9 h
    refine a_iload_n ho dX12_plan_12 rfl rfl 2 rfl ?_
    refine a_bipush (v := (-2)) ho dX12_plan_13 rfl (by decide) ?_
    refine a_icmp_ge (tgt := 20) ho dX12_plan_15 rfl rfl (fun hc15 => ?_) (fun hc15 => ?_)
    · replace h := if_t hc15 h
      refine a_aload_n ho dX12_plan_20 rfl rfl 0 rfl ?_
      refine a_getR ho fl_X12_7 o_82 fr_10_0 dX12_plan_21 rfl ?_
      refine a_iconst (v := 0) ho dX12_plan_24 rfl (by decide) ?_
      refine a_iald ho i_83 (by decide) dX12_plan_25 rfl ?_
      refine a_nmI (x := σ.1 83 0) rfl ?_
      refine a_if_ne (tgt := 32) ho dX12_plan_26 rfl rfl (fun hc26 => ?_) (fun hc26 => ?_)
      · replace h := if_f hc26 h
        refine a_aload_n ho dX12_plan_32 rfl rfl 0 rfl ?_
        obtain ⟨r33, hq33, h⟩ := ob_el h
        refine a_callVi ho vy_X12_doingsThere ml_X12_190 o_82 (C_X12_doingsThere hq33) rfl rfl (by decide) (Nat.le_of_ble_eq_true rfl) dX12_plan_33 rfl ?_
        refine a_istore_n (L' := [(3, .int r33), (0, .ref (gad G 82)), (1, .int x1), (2, .int x2)]) ho dX12_plan_36 rfl rfl (by decide) rfl ?_
        refine a_iconst (v := (-1)) ho dX12_plan_37 rfl (by decide) ?_
        refine a_istore (L' := [(4, .int (-1)), (3, .int r33), (0, .ref (gad G 82)), (1, .int x1), (2, .int x2)]) ho dX12_plan_38 rfl (by decide) rfl ?_
        refine a_iconst (v := 0) ho dX12_plan_40 rfl (by decide) ?_
        refine a_istore (L' := [(5, .int 0), (4, .int (-1)), (3, .int r33), (0, .ref (gad G 82)), (1, .int x1), (2, .int x2)]) ho dX12_plan_41 rfl (by decide) rfl ?_
        refine a_iconst (v := 0) ho dX12_plan_43 rfl (by decide) ?_
        refine a_istore (L' := [(6, .int 0), (5, .int 0), (4, .int (-1)), (3, .int r33), (0, .ref (gad G 82)), (1, .int x1), (2, .int x2)]) ho dX12_plan_44 rfl (by decide) rfl ?_
        refine a_iconst (v := 1) ho dX12_plan_46 rfl (by decide) ?_
        refine a_istore (L' := [(7, .int 1), (6, .int 0), (5, .int 0), (4, .int (-1)), (3, .int r33), (0, .ref (gad G 82)), (1, .int x1), (2, .int x2)]) ho dX12_plan_47 rfl (by decide) rfl ?_
        refine a_iconst (v := 0) ho dX12_plan_49 rfl (by decide) ?_
        refine a_istore (L' := [(8, .int 0), (7, .int 1), (6, .int 0), (5, .int 0), (4, .int (-1)), (3, .int r33), (0, .ref (gad G 82)), (1, .int x1), (2, .int x2)]) ho dX12_plan_50 rfl (by decide) rfl ?_
        exact a_sub [6, 7, 8, 5, 4, 3, 2, 1, 0] rfl (T_X12_plan_52 ho hr0 hs0 _ _ _ _ _ _ _ _ _ _ h)
      · replace h := if_t hc26 h
        refine a_bipush (v := (-2)) ho dX12_plan_29 rfl (by decide) ?_
        exact a_iret ho dX12_plan_31 (rI hr0 (re_el h).1) (rS hs0 (re_el h).2)
    · replace h := if_f hc15 h
      refine a_iconst (v := (-1)) ho dX12_plan_18 rfl (by decide) ?_
      exact a_iret ho dX12_plan_19 (rI hr0 (re_el h).1) (rS hs0 (re_el h).2)
theorem C_X12_plan {l : Launch} {X : gX} {σ σ0 : gS} {r0 : Int32} {a1 : Int32} {a2 : Int32} (h : F_X12_plan_0 a1 a2 σ = some (r0, σ0)) : gCt l X yX12_plan (.code yX12_plan cX12_plan 11 (some .int)) 7 [.ref (X.2.2.1 82), .int a1, .int a2] σ (some (.int r0)) σ0 :=
  gCt_of cX12_plan (by decide) (Nat.le_of_ble_eq_true rfl) (fun G hl hX hv hs ho => by subst hl; subst hX; exact a_sub [0, 1, 2] rfl (T_X12_plan_0 ho hv hs h))
theorem T_X12_whitens_2 {G : gM} (ho : gOk G "WaxClothModel" cX12_whitens 1 none 3) (hr0 : gv0 G = none) {σ0 : gS} (hs0 : gs0 G = σ0) : ∀ (n : Nat) (x1 : Int32) (x2 : Int32) (σ : gS), F_X12_whitens_2 n x1 x2 σ = some σ0 → gAt G 2 [(0, .ref (gad G 82)), (1, .int x1), (2, .int x2)] [] σ := by
  intro n
  induction n with
  | zero => intro x1 x2 σ h; cases h
  | succ n ih =>
    intro x1 x2 σ h
    unfold F_X12_whitens_2 at h
    refine a_iload_n ho dX12_whitens_2 rfl rfl 2 rfl ?_
    refine a_iconst (v := 3) ho dX12_whitens_3 rfl (by decide) ?_
    refine a_icmp_ge (tgt := 26) ho dX12_whitens_4 rfl rfl (fun hc4 => ?_) (fun hc4 => ?_)
    · replace h := if_t hc4 h
      refine a_aload_n ho dX12_whitens_26 rfl rfl 0 rfl ?_
      refine a_getR ho fl_X12_22 o_82 fr_10_4 dX12_whitens_27 rfl ?_
      refine a_bipush (v := 24) ho dX12_whitens_30 rfl (by decide) ?_
      refine a_iload_n ho dX12_whitens_32 rfl rfl 1 rfl ?_
      refine a_iadd ho dX12_whitens_33 rfl ?_
      refine a_iconst (v := 0) ho dX12_whitens_34 rfl (by decide) ?_
      obtain ⟨hk35, h⟩ := ck_el h
      refine a_iast ho i_87 hk35 dX12_whitens_35 rfl ?_
      obtain ⟨σ35, hs35, h⟩ := bd_el h
      refine a_nmS hs35 ?_
      exact a_vret ho dX12_whitens_36 hr0 (rS hs0 (ro_el h))
    · replace h := if_f hc4 h
      refine a_aload_n ho dX12_whitens_7 rfl rfl 0 rfl ?_
      refine a_getR ho fl_X12_22 o_82 fr_10_4 dX12_whitens_8 rfl ?_
      refine a_iconst (v := 0) ho dX12_whitens_11 rfl (by decide) ?_
      refine a_iconst (v := 3) ho dX12_whitens_12 rfl (by decide) ?_
      refine a_iload_n ho dX12_whitens_13 rfl rfl 1 rfl ?_
      refine a_imul ho dX12_whitens_14 rfl ?_
      refine a_iadd ho dX12_whitens_15 rfl ?_
      refine a_iload_n ho dX12_whitens_16 rfl rfl 2 rfl ?_
      refine a_iadd ho dX12_whitens_17 rfl ?_
      refine a_iconst (v := 0) ho dX12_whitens_18 rfl (by decide) ?_
      obtain ⟨hk19, h⟩ := ck_el h
      refine a_iast ho i_87 hk19 dX12_whitens_19 rfl ?_
      obtain ⟨σ19, hs19, h⟩ := bd_el h
      refine a_nmS hs19 ?_
      obtain ⟨x20, hb20, h⟩ := bd_el h
      refine a_iinc (L' := [(2, .int x20), (0, .ref (gad G 82)), (1, .int x1)]) ho dX12_whitens_20 rfl 2 rfl hb20 (by decide) rfl ?_
      refine a_goto (tgt := 2) ho dX12_whitens_23 rfl ?_
      exact a_sub [1, 2, 0] rfl (ih _ _ _ h)
theorem T_X12_whitens_0 {G : gM} (ho : gOk G "WaxClothModel" cX12_whitens 1 none 3) (hr0 : gv0 G = none) {σ0 : gS} (hs0 : gs0 G = σ0) {x1 : Int32} {σ : gS} (h : F_X12_whitens_0 x1 σ = some σ0) : gAt G 0 [(0, .ref (gad G 82)), (1, .int x1)] [] σ := by
  unfold F_X12_whitens_0 at h
  refine a_iconst (v := 0) ho dX12_whitens_0 rfl (by decide) ?_
  refine a_istore_n (L' := [(2, .int 0), (0, .ref (gad G 82)), (1, .int x1)]) ho dX12_whitens_1 rfl rfl (by decide) rfl ?_
  exact a_sub [1, 2, 0] rfl (T_X12_whitens_2 ho hr0 hs0 _ _ _ _ h)
theorem C_X12_whitens {l : Launch} {X : gX} {σ σ0 : gS} {a1 : Int32} (h : F_X12_whitens_0 a1 σ = some σ0) : gCt l X yX12_whitens (.code yX12_whitens cX12_whitens 3 none) 1 [.ref (X.2.2.1 82), .int a1] σ (none) σ0 :=
  gCt_of cX12_whitens (by decide) (Nat.le_of_ble_eq_true rfl) (fun G hl hX hv hs ho => by subst hl; subst hX; exact a_sub [0, 1] rfl (T_X12_whitens_0 ho hv hs h))
theorem T_X12_power_4 {G : gM} (ho : gOk G "WaxClothModel" cX12_power 1 (some .int) 4) {r0 : Int32} (hr0 : gv0 G = some (.int r0)) {σ : gS} (hs0 : gs0 G = σ) : ∀ (n : Nat) (x0 : Int32) (x1 : Int32) (x2 : Int32) (x3 : Int32), F_X12_power_4 n x0 x1 x2 x3 = some r0 → gAt G 4 [(0, .int x0), (1, .int x1), (2, .int x2), (3, .int x3)] [] σ := by
  intro n
  induction n with
  | zero => intro x0 x1 x2 x3 h; cases h
  | succ n ih =>
    intro x0 x1 x2 x3 h
    unfold F_X12_power_4 at h
    refine a_iload_n ho dX12_power_4 rfl rfl 3 rfl ?_
    refine a_iload_n ho dX12_power_5 rfl rfl 1 rfl ?_
    refine a_icmp_ge (tgt := 19) ho dX12_power_6 rfl rfl (fun hc6 => ?_) (fun hc6 => ?_)
    · replace h := if_t hc6 h
      refine a_iload_n ho dX12_power_19 rfl rfl 2 rfl ?_
      exact a_iret ho dX12_power_20 (rI hr0 (ro_el h)) hs0
    · replace h := if_f hc6 h
      refine a_iload_n ho dX12_power_9 rfl rfl 2 rfl ?_
      refine a_iload_n ho dX12_power_10 rfl rfl 0 rfl ?_
      refine a_imul ho dX12_power_11 rfl ?_
      obtain ⟨x12, hb12, h⟩ := bd_el h
      refine a_nmI hb12 ?_
      refine a_istore_n (L' := [(2, .int x12), (0, .int x0), (1, .int x1), (3, .int x3)]) ho dX12_power_12 rfl rfl (by decide) rfl ?_
      obtain ⟨x13, hb13, h⟩ := bd_el h
      refine a_iinc (L' := [(3, .int x13), (2, .int x12), (0, .int x0), (1, .int x1)]) ho dX12_power_13 rfl 3 rfl hb13 (by decide) rfl ?_
      refine a_goto (tgt := 4) ho dX12_power_16 rfl ?_
      exact a_sub [2, 3, 1, 0] rfl (ih _ _ _ _ h)
theorem T_X12_power_0 {G : gM} (ho : gOk G "WaxClothModel" cX12_power 1 (some .int) 4) {r0 : Int32} (hr0 : gv0 G = some (.int r0)) {σ : gS} (hs0 : gs0 G = σ) {x0 : Int32} {x1 : Int32} (h : F_X12_power_0 x0 x1 = some r0) : gAt G 0 [(0, .int x0), (1, .int x1)] [] σ := by
  unfold F_X12_power_0 at h
  refine a_iconst (v := 1) ho dX12_power_0 rfl (by decide) ?_
  refine a_istore_n (L' := [(2, .int 1), (0, .int x0), (1, .int x1)]) ho dX12_power_1 rfl rfl (by decide) rfl ?_
  refine a_iconst (v := 0) ho dX12_power_2 rfl (by decide) ?_
  refine a_istore_n (L' := [(3, .int 0), (2, .int 1), (0, .int x0), (1, .int x1)]) ho dX12_power_3 rfl rfl (by decide) rfl ?_
  exact a_sub [2, 3, 1, 0] rfl (T_X12_power_4 ho hr0 hs0 _ _ _ _ _ h)
theorem C_X12_power {l : Launch} {X : gX} {σ : gS} {r0 : Int32} {a0 : Int32} {a1 : Int32} (h : F_X12_power_0 a0 a1 = some r0) : gCt l X yX12_power (.code yX12_power cX12_power 4 (some .int)) 1 [.int a0, .int a1] σ (some (.int r0)) σ :=
  gCt_of cX12_power (by decide) (Nat.le_of_ble_eq_true rfl) (fun G hl hX hv hs ho => by subst hl; subst hX; exact a_sub [0, 1] rfl (T_X12_power_0 ho hv hs h))
theorem T_X12_shadeOf_10 {G : gM} (ho : gOk G "WaxClothModel" cX12_shadeOf 5 (some .int) 5) {r0 : Int32} (hr0 : gv0 G = some (.int r0)) {σ0 : gS} (hs0 : gs0 G = σ0) : ∀ (n : Nat) (x1 : Int32) (x2 : Int32) (x4 : Int32) (σ : gS), F_X12_shadeOf_10 n x1 x2 x4 σ = some (r0, σ0) → gAt G 10 [(0, .ref (gad G 82)), (1, .int x1), (2, .int x2), (4, .int x4)] [] σ := by
  intro n
  induction n with
  | zero => intro x1 x2 x4 σ h; cases h
  | succ n ih =>
    intro x1 x2 x4 σ h
    unfold F_X12_shadeOf_10 at h
    refine a_iload ho dX12_shadeOf_10 rfl 3 rfl ?_
    refine a_if_lt (tgt := 50) ho dX12_shadeOf_12 rfl rfl (fun hc12 => ?_) (fun hc12 => ?_)
    · replace h := if_t hc12 h
      refine a_iconst (v := 0) ho dX12_shadeOf_50 rfl (by decide) ?_
      refine a_iconst (v := 3) ho dX12_shadeOf_51 rfl (by decide) ?_
      refine a_iload_n ho dX12_shadeOf_52 rfl rfl 1 rfl ?_
      refine a_imul ho dX12_shadeOf_53 rfl ?_
      refine a_iadd ho dX12_shadeOf_54 rfl ?_
      obtain ⟨x55, hb55, h⟩ := bd_el h
      refine a_nmI hb55 ?_
      refine a_istore (L' := [(4, .int x55), (0, .ref (gad G 82)), (1, .int x1), (2, .int x2)]) ho dX12_shadeOf_55 rfl (by decide) rfl ?_
      refine a_bipush (v := 100) ho dX12_shadeOf_57 rfl (by decide) ?_
      refine a_aload_n ho dX12_shadeOf_59 rfl rfl 1 rfl ?_
      refine a_getR ho fl_X12_22 o_82 fr_10_4 dX12_shadeOf_60 rfl ?_
      refine a_iload ho dX12_shadeOf_63 rfl 0 rfl ?_
      obtain ⟨hk65, h⟩ := ck_el h
      refine a_iald ho i_87 hk65 dX12_shadeOf_65 rfl ?_
      refine a_imul ho dX12_shadeOf_66 rfl ?_
      refine a_bipush (v := 10) ho dX12_shadeOf_67 rfl (by decide) ?_
      refine a_aload_n ho dX12_shadeOf_69 rfl rfl 1 rfl ?_
      refine a_getR ho fl_X12_22 o_82 fr_10_4 dX12_shadeOf_70 rfl ?_
      refine a_iload ho dX12_shadeOf_73 rfl 0 rfl ?_
      refine a_iconst (v := 1) ho dX12_shadeOf_75 rfl (by decide) ?_
      refine a_iadd ho dX12_shadeOf_76 rfl ?_
      obtain ⟨hk77, h⟩ := ck_el h
      refine a_iald ho i_87 hk77 dX12_shadeOf_77 rfl ?_
      refine a_imul ho dX12_shadeOf_78 rfl ?_
      refine a_iadd ho dX12_shadeOf_79 rfl ?_
      refine a_aload_n ho dX12_shadeOf_80 rfl rfl 1 rfl ?_
      refine a_getR ho fl_X12_22 o_82 fr_10_4 dX12_shadeOf_81 rfl ?_
      refine a_iload ho dX12_shadeOf_84 rfl 0 rfl ?_
      refine a_iconst (v := 2) ho dX12_shadeOf_86 rfl (by decide) ?_
      refine a_iadd ho dX12_shadeOf_87 rfl ?_
      obtain ⟨hk88, h⟩ := ck_el h
      refine a_iald ho i_87 hk88 dX12_shadeOf_88 rfl ?_
      refine a_iadd ho dX12_shadeOf_89 rfl ?_
      exact a_iret ho dX12_shadeOf_90 (rI hr0 (re_el h).1) (rS hs0 (re_el h).2)
    · replace h := if_f hc12 h
      refine a_aload_n ho dX12_shadeOf_15 rfl rfl 0 rfl ?_
      refine a_aload_n ho dX12_shadeOf_16 rfl rfl 0 rfl ?_
      refine a_getR ho fl_X12_22 o_82 fr_10_4 dX12_shadeOf_17 rfl ?_
      refine a_iload_n ho dX12_shadeOf_20 rfl rfl 1 rfl ?_
      refine a_iload_n ho dX12_shadeOf_21 rfl rfl 2 rfl ?_
      refine a_aload_n ho dX12_shadeOf_22 rfl rfl 0 rfl ?_
      refine a_getR ho fl_X12_7 o_82 fr_10_0 dX12_shadeOf_23 rfl ?_
      refine a_iconst (v := 1) ho dX12_shadeOf_26 rfl (by decide) ?_
      refine a_iald ho i_83 (by decide) dX12_shadeOf_27 rfl ?_
      refine a_nmI (x := σ.1 83 1) rfl ?_
      refine a_iload ho dX12_shadeOf_28 rfl 3 rfl ?_
      obtain ⟨r30, hq30, h⟩ := ob_el h
      refine a_callSi ho vy_X12_power ml_X12_206 (C_X12_power hq30) rfl rfl (by decide) (Nat.le_of_ble_eq_true rfl) dX12_shadeOf_30 rfl ?_
      obtain ⟨hk33, h⟩ := ck_el h
      refine a_idiv ho dX12_shadeOf_33 rfl hk33 ?_
      refine a_aload_n ho dX12_shadeOf_34 rfl rfl 0 rfl ?_
      refine a_getR ho fl_X12_7 o_82 fr_10_0 dX12_shadeOf_35 rfl ?_
      refine a_iconst (v := 1) ho dX12_shadeOf_38 rfl (by decide) ?_
      refine a_iald ho i_83 (by decide) dX12_shadeOf_39 rfl ?_
      refine a_nmI (x := σ.1 83 1) rfl ?_
      obtain ⟨hk40, h⟩ := ck_el h
      refine a_irem ho dX12_shadeOf_40 rfl hk40 ?_
      obtain ⟨σ41, hq41, h⟩ := ob_el h
      refine a_callVv ho vy_X12_bathes ml_X12_147 o_82 (C_X12_bathes i_87 hq41) rfl rfl (by decide) (Nat.le_of_ble_eq_true rfl) dX12_shadeOf_41 rfl ?_
      obtain ⟨x44, hb44, h⟩ := bd_el h
      refine a_iinc (L' := [(4, .int x44), (0, .ref (gad G 82)), (1, .int x1), (2, .int x2)]) ho dX12_shadeOf_44 rfl 3 rfl hb44 (by decide) rfl ?_
      refine a_goto (tgt := 10) ho dX12_shadeOf_47 rfl ?_
      exact a_sub [1, 2, 3, 0] rfl (ih _ _ _ _ h)
theorem T_X12_shadeOf_0 {G : gM} (ho : gOk G "WaxClothModel" cX12_shadeOf 5 (some .int) 5) {r0 : Int32} (hr0 : gv0 G = some (.int r0)) {σ0 : gS} (hs0 : gs0 G = σ0) {x1 : Int32} {x2 : Int32} {x3 : Int32} {σ : gS} (h : F_X12_shadeOf_0 x1 x2 x3 σ = some (r0, σ0)) : gAt G 0 [(0, .ref (gad G 82)), (1, .int x1), (2, .int x2), (3, .int x3)] [] σ := by
  unfold F_X12_shadeOf_0 at h
  refine a_aload_n ho dX12_shadeOf_0 rfl rfl 0 rfl ?_
  refine a_iload_n ho dX12_shadeOf_1 rfl rfl 1 rfl ?_
  obtain ⟨σ2, hq2, h⟩ := ob_el h
  refine a_callVv ho vy_X12_whitens ml_X12_202 o_82 (C_X12_whitens hq2) rfl rfl (by decide) (Nat.le_of_ble_eq_true rfl) dX12_shadeOf_2 rfl ?_
  refine a_iload_n ho dX12_shadeOf_5 rfl rfl 3 rfl ?_
  refine a_iconst (v := 1) ho dX12_shadeOf_6 rfl (by decide) ?_
  refine a_isub ho dX12_shadeOf_7 rfl ?_
  obtain ⟨x8, hb8, h⟩ := bd_el h
  refine a_nmI hb8 ?_
  refine a_istore (L' := [(4, .int x8), (0, .ref (gad G 82)), (1, .int x1), (2, .int x2), (3, .int x3)]) ho dX12_shadeOf_8 rfl (by decide) rfl ?_
  exact a_sub [1, 2, 3, 0] rfl (T_X12_shadeOf_10 ho hr0 hs0 _ _ _ _ _ h)
theorem C_X12_shadeOf {l : Launch} {X : gX} {σ σ0 : gS} {r0 : Int32} {a1 : Int32} {a2 : Int32} {a3 : Int32} (h : F_X12_shadeOf_0 a1 a2 a3 σ = some (r0, σ0)) : gCt l X yX12_shadeOf (.code yX12_shadeOf cX12_shadeOf 5 (some .int)) 5 [.ref (X.2.2.1 82), .int a1, .int a2, .int a3] σ (some (.int r0)) σ0 :=
  gCt_of cX12_shadeOf (by decide) (Nat.le_of_ble_eq_true rfl) (fun G hl hX hv hs ho => by subst hl; subst hX; exact a_sub [0, 1, 2, 3] rfl (T_X12_shadeOf_0 ho hv hs h))
theorem T_X12_rows_165 {G : gM} (ho : gOk G "WaxClothModel" cX12_rows 6 (some .int) 11) {r0 : Int32} (hr0 : gv0 G = some (.int r0)) {σ0 : gS} (hs0 : gs0 G = σ0) : ∀ (n : Nat) (x6 : Int32) (x9 : Int32) (x10 : Int32) (σ : gS), F_X12_rows_165 n x6 x9 x10 σ = some (r0, σ0) → gAt G 165 [(0, .ref (gad G 82)), (6, .int x6), (9, .int x9), (10, .int x10)] [] σ := by
  intro n
  induction n with
  | zero => intro x6 x9 x10 σ h; cases h
  | succ n ih =>
    intro x6 x9 x10 σ h
    unfold F_X12_rows_165 at h
    refine a_iload ho dX12_rows_165 rfl 3 rfl ?_
    refine a_iload ho dX12_rows_167 rfl 1 rfl ?_
    refine a_icmp_le (tgt := 189) ho dX12_rows_169 rfl rfl (fun hc169 => ?_) (fun hc169 => ?_)
    · replace h := if_t hc169 h
      refine a_iload ho dX12_rows_189 rfl 2 rfl ?_
      refine a_aload_n ho dX12_rows_191 rfl rfl 0 rfl ?_
      refine a_getR ho fl_X12_7 o_82 fr_10_0 dX12_rows_192 rfl ?_
      refine a_iconst (v := 1) ho dX12_rows_195 rfl (by decide) ?_
      refine a_iald ho i_83 (by decide) dX12_rows_196 rfl ?_
      refine a_nmI (x := σ.1 83 1) rfl ?_
      obtain ⟨hk197, h⟩ := ck_el h
      refine a_irem ho dX12_rows_197 rfl hk197 ?_
      exact a_iret ho dX12_rows_198 (rI hr0 (re_el h).1) (rS hs0 (re_el h).2)
    · replace h := if_f hc169 h
      refine a_iload ho dX12_rows_172 rfl 2 rfl ?_
      refine a_aload_n ho dX12_rows_174 rfl rfl 0 rfl ?_
      refine a_getR ho fl_X12_7 o_82 fr_10_0 dX12_rows_175 rfl ?_
      refine a_iconst (v := 1) ho dX12_rows_178 rfl (by decide) ?_
      refine a_iald ho i_83 (by decide) dX12_rows_179 rfl ?_
      refine a_nmI (x := σ.1 83 1) rfl ?_
      obtain ⟨hk180, h⟩ := ck_el h
      refine a_idiv ho dX12_rows_180 rfl hk180 ?_
      obtain ⟨x181, hb181, h⟩ := bd_el h
      refine a_nmI hb181 ?_
      refine a_istore (L' := [(9, .int x181), (0, .ref (gad G 82)), (6, .int x6), (10, .int x10)]) ho dX12_rows_181 rfl (by decide) rfl ?_
      obtain ⟨x183, hb183, h⟩ := bd_el h
      refine a_iinc (L' := [(10, .int x183), (9, .int x181), (0, .ref (gad G 82)), (6, .int x6)]) ho dX12_rows_183 rfl 3 rfl hb183 (by decide) rfl ?_
      refine a_goto (tgt := 165) ho dX12_rows_186 rfl ?_
      exact a_sub [2, 3, 1, 0] rfl (ih _ _ _ _ h)
theorem T_X12_rows_128 {G : gM} (ho : gOk G "WaxClothModel" cX12_rows 6 (some .int) 11) {r0 : Int32} (hr0 : gv0 G = some (.int r0)) {σ0 : gS} (hs0 : gs0 G = σ0) {g102 : Int32 → Int32 → Int32 → Int32 → Int32 → Int32 → Int32 → gS → Option (Int32 × gS)} (hg102 : ∀ (x1 : Int32) (x5 : Int32) (x6 : Int32) (x7 : Int32) (x8 : Int32) (x9 : Int32) (x10 : Int32) (σ : gS), g102 x1 x5 x6 x7 x8 x9 x10 σ = some (r0, σ0) → gAt G 102 [(0, .ref (gad G 82)), (1, .int x1), (5, .int x5), (6, .int x6), (7, .int x7), (8, .int x8), (9, .int x9), (10, .int x10)] [] σ) {x1 : Int32} {x5 : Int32} {x6 : Int32} {x7 : Int32} {x8 : Int32} {x9 : Int32} {x10 : Int32} {σ : gS} (h : F_X12_rows_128 g102 x1 x5 x6 x7 x8 x9 x10 σ = some (r0, σ0)) : gAt G 128 [(0, .ref (gad G 82)), (1, .int x1), (5, .int x5), (6, .int x6), (7, .int x7), (8, .int x8), (9, .int x9), (10, .int x10)] [] σ := by
  unfold F_X12_rows_128 at h
  obtain ⟨x128, hb128, h⟩ := bd_el h
  refine a_iinc (L' := [(10, .int x128), (0, .ref (gad G 82)), (1, .int x1), (5, .int x5), (6, .int x6), (7, .int x7), (8, .int x8), (9, .int x9)]) ho dX12_rows_128 rfl 7 rfl hb128 (by decide) rfl ?_
  refine a_goto (tgt := 102) ho dX12_rows_131 rfl ?_
  exact a_sub [1, 2, 3, 4, 5, 6, 7, 0] rfl (hg102 _ _ _ _ _ _ _ _ h)
theorem T_X12_rows_102 {G : gM} (ho : gOk G "WaxClothModel" cX12_rows 6 (some .int) 11) {r0 : Int32} (hr0 : gv0 G = some (.int r0)) {σ0 : gS} (hs0 : gs0 G = σ0) : ∀ (n : Nat) (x1 : Int32) (x5 : Int32) (x6 : Int32) (x7 : Int32) (x8 : Int32) (x9 : Int32) (x10 : Int32) (σ : gS), F_X12_rows_102 n x1 x5 x6 x7 x8 x9 x10 σ = some (r0, σ0) → gAt G 102 [(0, .ref (gad G 82)), (1, .int x1), (5, .int x5), (6, .int x6), (7, .int x7), (8, .int x8), (9, .int x9), (10, .int x10)] [] σ := by
  intro n
  induction n with
  | zero => intro x1 x5 x6 x7 x8 x9 x10 σ h; cases h
  | succ n ih =>
    intro x1 x5 x6 x7 x8 x9 x10 σ h
    unfold F_X12_rows_102 at h
    refine a_iload ho dX12_rows_102 rfl 7 rfl ?_
    refine a_if_lt (tgt := 134) ho dX12_rows_104 rfl rfl (fun hc104 => ?_) (fun hc104 => ?_)
    · replace h := if_t hc104 h
      refine a_iload ho dX12_rows_134 rfl 3 rfl ?_
      refine a_if_ge (tgt := 142) ho dX12_rows_136 rfl rfl (fun hc136 => ?_) (fun hc136 => ?_)
      · replace h := if_t hc136 h
        refine a_iload ho dX12_rows_142 rfl 6 rfl ?_
        refine a_bipush (v := (-4)) ho dX12_rows_144 rfl (by decide) ?_
        refine a_icmp_eq (tgt := 156) ho dX12_rows_146 rfl rfl (fun hc146 => ?_) (fun hc146 => ?_)
        · replace h := if_t hc146 h
          refine a_bipush (v := (-4)) ho dX12_rows_156 rfl (by decide) ?_
          exact a_iret ho dX12_rows_158 (rI hr0 (re_el h).1) (rS hs0 (re_el h).2)
        · replace h := if_f hc146 h
          refine a_iload ho dX12_rows_149 rfl 3 rfl ?_
          refine a_iload ho dX12_rows_151 rfl 2 rfl ?_
          refine a_icmp_lt (tgt := 159) ho dX12_rows_153 rfl rfl (fun hc153 => ?_) (fun hc153 => ?_)
          · replace h := if_t hc153 h
            refine a_iload ho dX12_rows_159 rfl 2 rfl ?_
            refine a_iconst (v := 1) ho dX12_rows_161 rfl (by decide) ?_
            refine a_isub ho dX12_rows_162 rfl ?_
            obtain ⟨x163, hb163, h⟩ := bd_el h
            refine a_nmI hb163 ?_
            refine a_istore (L' := [(10, .int x163), (0, .ref (gad G 82)), (1, .int x1), (5, .int x5), (6, .int x6), (7, .int x7), (8, .int x8), (9, .int x9)]) ho dX12_rows_163 rfl (by decide) rfl ?_
            exact a_sub [1, 4, 7, 0] rfl (T_X12_rows_165 ho hr0 hs0 _ _ _ _ _ h)
          · replace h := if_f hc153 h
            refine a_bipush (v := (-4)) ho dX12_rows_156 rfl (by decide) ?_
            exact a_iret ho dX12_rows_158 (rI hr0 (re_el h).1) (rS hs0 (re_el h).2)
      · replace h := if_f hc136 h
        refine a_iload ho dX12_rows_139 rfl 5 rfl ?_
        exact a_iret ho dX12_rows_141 (rI hr0 (re_el h).1) (rS hs0 (re_el h).2)
    · replace h := if_f hc104 h
      refine a_aload_n ho dX12_rows_107 rfl rfl 0 rfl ?_
      refine a_iload_n ho dX12_rows_108 rfl rfl 1 rfl ?_
      refine a_iload ho dX12_rows_109 rfl 7 rfl ?_
      refine a_iload ho dX12_rows_111 rfl 2 rfl ?_
      obtain ⟨r113, σ113, hq113, h⟩ := ob2_el h
      refine a_callVi ho vy_X12_shadeOf ml_X12_211 o_82 (C_X12_shadeOf hq113) rfl rfl (by decide) (Nat.le_of_ble_eq_true rfl) dX12_rows_113 rfl ?_
      refine a_iload ho dX12_rows_116 rfl 4 rfl ?_
      refine a_icmp_ne (tgt := 128) ho dX12_rows_118 rfl rfl (fun hc118 => ?_) (fun hc118 => ?_)
      · replace h := if_f hc118 h
        exact a_sub [0, 1, 2, 3, 4, 5, 6, 7] rfl (T_X12_rows_128 ho hr0 hs0 ih h)
      · replace h := if_t hc118 h
        obtain ⟨x121, hb121, h⟩ := bd_el h
        refine a_iinc (L' := [(8, .int x121), (0, .ref (gad G 82)), (1, .int x1), (5, .int x5), (6, .int x6), (7, .int x7), (9, .int x9), (10, .int x10)]) ho dX12_rows_121 rfl 5 rfl hb121 (by decide) rfl ?_
        refine a_iload ho dX12_rows_124 rfl 7 rfl ?_
        refine a_istore (L' := [(9, .int x10), (8, .int x121), (0, .ref (gad G 82)), (1, .int x1), (5, .int x5), (6, .int x6), (7, .int x7), (10, .int x10)]) ho dX12_rows_126 rfl (by decide) rfl ?_
        exact a_sub [2, 3, 4, 5, 6, 1, 0, 7] rfl (T_X12_rows_128 ho hr0 hs0 ih h)
theorem T_X12_rows_0 {G : gM} (ho : gOk G "WaxClothModel" cX12_rows 6 (some .int) 11) {r0 : Int32} (hr0 : gv0 G = some (.int r0)) {σ0 : gS} (hs0 : gs0 G = σ0) {x1 : Int32} {x2 : Int32} {x3 : Int32} {x4 : Int32} {x5 : Int32} {x6 : Int32} {σ : gS} (h : F_X12_rows_0 x1 x2 x3 x4 x5 x6 σ = some (r0, σ0)) : gAt G 0 [(0, .ref (gad G 82)), (1, .int x1), (2, .int x2), (3, .int x3), (4, .int x4), (5, .int x5), (6, .int x6)] [] σ := by
  unfold F_X12_rows_0 at h
  refine a_aload_n ho dX12_rows_0 rfl rfl 0 rfl ?_
  refine a_iload_n ho dX12_rows_1 rfl rfl 1 rfl ?_
  obtain ⟨r2, hq2, h⟩ := ob_el h
  refine a_callVi ho vy_X12_isSquare ml_X12_161 o_82 (C_X12_isSquare hq2) rfl rfl (by decide) (Nat.le_of_ble_eq_true rfl) dX12_rows_2 rfl ?_
  refine a_if_eq (tgt := 64) ho dX12_rows_5 rfl rfl (fun hc5 => ?_) (fun hc5 => ?_)
  · replace h := if_t hc5 h
    refine a_iconst (v := (-1)) ho dX12_rows_64 rfl (by decide) ?_
    exact a_iret ho dX12_rows_65 (rI hr0 (re_el h).1) (rS hs0 (re_el h).2)
  · replace h := if_f hc5 h
    refine a_iload_n ho dX12_rows_8 rfl rfl 2 rfl ?_
    refine a_i2l ho dX12_rows_9 rfl ?_
    refine a_lconst (v := 0) ho dX12_rows_10 rfl (by decide) ?_
    refine a_ldc2 ho dX12_rows_11 rfl kk_X12_209 ?_
    refine a_callSi ho vy_X12_in ml_X12_59 (C_X12_in (Int32.toInt64 x2) 0 9) rfl rfl (by decide) (Nat.le_of_ble_eq_true rfl) dX12_rows_14 rfl ?_
    refine a_if_eq (tgt := 64) ho dX12_rows_17 rfl rfl (fun hc17 => ?_) (fun hc17 => ?_)
    · replace h := if_t hc17 h
      refine a_iconst (v := (-1)) ho dX12_rows_64 rfl (by decide) ?_
      exact a_iret ho dX12_rows_65 (rI hr0 (re_el h).1) (rS hs0 (re_el h).2)
    · replace h := if_f hc17 h
      refine a_iload_n ho dX12_rows_20 rfl rfl 3 rfl ?_
      refine a_i2l ho dX12_rows_21 rfl ?_
      refine a_lconst (v := 0) ho dX12_rows_22 rfl (by decide) ?_
      refine a_ldc2 ho dX12_rows_23 rfl kk_X12_209 ?_
      refine a_callSi ho vy_X12_in ml_X12_59 (C_X12_in (Int32.toInt64 x3) 0 9) rfl rfl (by decide) (Nat.le_of_ble_eq_true rfl) dX12_rows_26 rfl ?_
      refine a_if_eq (tgt := 64) ho dX12_rows_29 rfl rfl (fun hc29 => ?_) (fun hc29 => ?_)
      · replace h := if_t hc29 h
        refine a_iconst (v := (-1)) ho dX12_rows_64 rfl (by decide) ?_
        exact a_iret ho dX12_rows_65 (rI hr0 (re_el h).1) (rS hs0 (re_el h).2)
      · replace h := if_f hc29 h
        refine a_iload ho dX12_rows_32 rfl 4 rfl ?_
        refine a_i2l ho dX12_rows_34 rfl ?_
        refine a_lconst (v := 0) ho dX12_rows_35 rfl (by decide) ?_
        refine a_ldc2 ho dX12_rows_36 rfl kk_X12_209 ?_
        refine a_callSi ho vy_X12_in ml_X12_59 (C_X12_in (Int32.toInt64 x4) 0 9) rfl rfl (by decide) (Nat.le_of_ble_eq_true rfl) dX12_rows_39 rfl ?_
        refine a_if_eq (tgt := 64) ho dX12_rows_42 rfl rfl (fun hc42 => ?_) (fun hc42 => ?_)
        · replace h := if_t hc42 h
          refine a_iconst (v := (-1)) ho dX12_rows_64 rfl (by decide) ?_
          exact a_iret ho dX12_rows_65 (rI hr0 (re_el h).1) (rS hs0 (re_el h).2)
        · replace h := if_f hc42 h
          refine a_iload ho dX12_rows_45 rfl 5 rfl ?_
          refine a_i2l ho dX12_rows_47 rfl ?_
          refine a_lconst (v := 0) ho dX12_rows_48 rfl (by decide) ?_
          refine a_ldc2 ho dX12_rows_49 rfl kk_X12_166 ?_
          refine a_callSi ho vy_X12_in ml_X12_59 (C_X12_in (Int32.toInt64 x5) 0 5) rfl rfl (by decide) (Nat.le_of_ble_eq_true rfl) dX12_rows_52 rfl ?_
          refine a_if_eq (tgt := 64) ho dX12_rows_55 rfl rfl (fun hc55 => ?_) (fun hc55 => ?_)
          · replace h := if_t hc55 h
            refine a_iconst (v := (-1)) ho dX12_rows_64 rfl (by decide) ?_
            exact a_iret ho dX12_rows_65 (rI hr0 (re_el h).1) (rS hs0 (re_el h).2)
          · replace h := if_f hc55 h
            refine a_iload ho dX12_rows_58 rfl 6 rfl ?_
            refine a_iconst (v := (-1)) ho dX12_rows_60 rfl (by decide) ?_
            refine a_icmp_ge (tgt := 66) ho dX12_rows_61 rfl rfl (fun hc61 => ?_) (fun hc61 => ?_)
            · replace h := if_t hc61 h
              refine a_bipush (v := 100) ho dX12_rows_66 rfl (by decide) ?_
              refine a_iload_n ho dX12_rows_68 rfl rfl 2 rfl ?_
              refine a_imul ho dX12_rows_69 rfl ?_
              refine a_bipush (v := 10) ho dX12_rows_70 rfl (by decide) ?_
              refine a_iload_n ho dX12_rows_72 rfl rfl 3 rfl ?_
              refine a_imul ho dX12_rows_73 rfl ?_
              refine a_iadd ho dX12_rows_74 rfl ?_
              refine a_iload ho dX12_rows_75 rfl 4 rfl ?_
              refine a_iadd ho dX12_rows_77 rfl ?_
              obtain ⟨x78, hb78, h⟩ := bd_el h
              refine a_nmI hb78 ?_
              refine a_istore (L' := [(7, .int x78), (0, .ref (gad G 82)), (1, .int x1), (2, .int x2), (3, .int x3), (4, .int x4), (5, .int x5), (6, .int x6)]) ho dX12_rows_78 rfl (by decide) rfl ?_
              refine a_iconst (v := 0) ho dX12_rows_80 rfl (by decide) ?_
              refine a_istore (L' := [(8, .int 0), (7, .int x78), (0, .ref (gad G 82)), (1, .int x1), (2, .int x2), (3, .int x3), (4, .int x4), (5, .int x5), (6, .int x6)]) ho dX12_rows_81 rfl (by decide) rfl ?_
              refine a_bipush (v := (-4)) ho dX12_rows_83 rfl (by decide) ?_
              refine a_istore (L' := [(9, .int (-4)), (8, .int 0), (7, .int x78), (0, .ref (gad G 82)), (1, .int x1), (2, .int x2), (3, .int x3), (4, .int x4), (5, .int x5), (6, .int x6)]) ho dX12_rows_85 rfl (by decide) rfl ?_
              refine a_aload_n ho dX12_rows_87 rfl rfl 3 rfl ?_
              refine a_getR ho fl_X12_7 o_82 fr_10_0 dX12_rows_88 rfl ?_
              refine a_iconst (v := 1) ho dX12_rows_91 rfl (by decide) ?_
              refine a_iald ho i_83 (by decide) dX12_rows_92 rfl ?_
              refine a_nmI (x := σ.1 83 1) rfl ?_
              refine a_iload ho dX12_rows_93 rfl 8 rfl ?_
              obtain ⟨r95, hq95, h⟩ := ob_el h
              refine a_callSi ho vy_X12_power ml_X12_206 (C_X12_power hq95) rfl rfl (by decide) (Nat.le_of_ble_eq_true rfl) dX12_rows_95 rfl ?_
              refine a_iconst (v := 1) ho dX12_rows_98 rfl (by decide) ?_
              refine a_isub ho dX12_rows_99 rfl ?_
              obtain ⟨x100, hb100, h⟩ := bd_el h
              refine a_nmI hb100 ?_
              refine a_istore (L' := [(10, .int x100), (9, .int (-4)), (8, .int 0), (7, .int x78), (0, .ref (gad G 82)), (1, .int x1), (2, .int x2), (3, .int x3), (4, .int x4), (5, .int x5), (6, .int x6)]) ho dX12_rows_100 rfl (by decide) rfl ?_
              exact a_sub [4, 5, 9, 10, 3, 2, 1, 0] rfl (T_X12_rows_102 ho hr0 hs0 _ _ _ _ _ _ _ _ _ h)
            · replace h := if_f hc61 h
              refine a_iconst (v := (-1)) ho dX12_rows_64 rfl (by decide) ?_
              exact a_iret ho dX12_rows_65 (rI hr0 (re_el h).1) (rS hs0 (re_el h).2)
theorem C_X12_rows {l : Launch} {X : gX} {σ σ0 : gS} {r0 : Int32} {a1 : Int32} {a2 : Int32} {a3 : Int32} {a4 : Int32} {a5 : Int32} {a6 : Int32} (h : F_X12_rows_0 a1 a2 a3 a4 a5 a6 σ = some (r0, σ0)) : gCt l X yX12_rows (.code yX12_rows cX12_rows 11 (some .int)) 6 [.ref (X.2.2.1 82), .int a1, .int a2, .int a3, .int a4, .int a5, .int a6] σ (some (.int r0)) σ0 :=
  gCt_of cX12_rows (by decide) (Nat.le_of_ble_eq_true rfl) (fun G hl hX hv hs ho => by subst hl; subst hX; exact a_sub [0, 1, 2, 3, 4, 5, 6] rfl (T_X12_rows_0 ho hv hs h))
theorem T_X12_shades_91 {G : gM} (ho : gOk G "WaxClothModel" cX12_shades 6 (some .int) 6) {r0 : Int32} (hr0 : gv0 G = some (.int r0)) {σ0 : gS} (hs0 : gs0 G = σ0) {g60 : Int32 → Int32 → Int32 → Int32 → gS → Option (Int32 × gS)} (hg60 : ∀ (x1 : Int32) (x2 : Int32) (x3 : Int32) (x4 : Int32) (σ : gS), g60 x1 x2 x3 x4 σ = some (r0, σ0) → gAt G 60 [(0, .ref (gad G 82)), (1, .int x1), (2, .int x2), (3, .int x3), (4, .int x4)] [] σ) {x1 : Int32} {x2 : Int32} {x4 : Int32} {x5 : Int32} {y0 : Int32} {y1 : Int32} {σ : gS} (h : F_X12_shades_91 g60 x1 x2 x4 x5 y0 y1 σ = some (r0, σ0)) : gAt G 91 [(0, .ref (gad G 82)), (1, .int x1), (2, .int x2), (4, .int x4), (5, .int x5)] [.int y0, .int y1] σ := by
  unfold F_X12_shades_91 at h
  refine a_iadd ho dX12_shades_91 rfl ?_
  obtain ⟨x92, hb92, h⟩ := bd_el h
  refine a_nmI hb92 ?_
  refine a_istore_n (L' := [(3, .int x92), (0, .ref (gad G 82)), (1, .int x1), (2, .int x2), (4, .int x4), (5, .int x5)]) ho dX12_shades_92 rfl rfl (by decide) rfl ?_
  refine a_aload_n ho dX12_shades_93 rfl rfl 1 rfl ?_
  refine a_getR ho fl_X12_48 o_82 fr_10_17 dX12_shades_94 rfl ?_
  refine a_iload ho dX12_shades_97 rfl 5 rfl ?_
  refine a_iconst (v := 1) ho dX12_shades_99 rfl (by decide) ?_
  obtain ⟨hk100, h⟩ := ck_el h
  refine a_zast ho z_95 hk100 dX12_shades_100 rfl ?_
  obtain ⟨σ100, hs100, h⟩ := bd_el h
  refine a_nmS hs100 ?_
  obtain ⟨x101, hb101, h⟩ := bd_el h
  refine a_iinc (L' := [(4, .int x101), (3, .int x92), (0, .ref (gad G 82)), (1, .int x1), (2, .int x2), (5, .int x5)]) ho dX12_shades_101 rfl 4 rfl hb101 (by decide) rfl ?_
  refine a_goto (tgt := 60) ho dX12_shades_104 rfl ?_
  exact a_sub [2, 3, 4, 1, 0] rfl (hg60 _ _ _ _ _ h)
theorem T_X12_shades_60 {G : gM} (ho : gOk G "WaxClothModel" cX12_shades 6 (some .int) 6) {r0 : Int32} (hr0 : gv0 G = some (.int r0)) {σ0 : gS} (hs0 : gs0 G = σ0) : ∀ (n : Nat) (x1 : Int32) (x2 : Int32) (x3 : Int32) (x4 : Int32) (σ : gS), F_X12_shades_60 n x1 x2 x3 x4 σ = some (r0, σ0) → gAt G 60 [(0, .ref (gad G 82)), (1, .int x1), (2, .int x2), (3, .int x3), (4, .int x4)] [] σ := by
  intro n
  induction n with
  | zero => intro x1 x2 x3 x4 σ h; cases h
  | succ n ih =>
    intro x1 x2 x3 x4 σ h
    unfold F_X12_shades_60 at h
    refine a_iload ho dX12_shades_60 rfl 4 rfl ?_
    refine a_if_lt (tgt := 107) ho dX12_shades_62 rfl rfl (fun hc62 => ?_) (fun hc62 => ?_)
    · replace h := if_t hc62 h
      refine a_iload_n ho dX12_shades_107 rfl rfl 3 rfl ?_
      exact a_iret ho dX12_shades_108 (rI hr0 (re_el h).1) (rS hs0 (re_el h).2)
    · replace h := if_f hc62 h
      refine a_aload_n ho dX12_shades_65 rfl rfl 0 rfl ?_
      refine a_iload_n ho dX12_shades_66 rfl rfl 1 rfl ?_
      refine a_iload ho dX12_shades_67 rfl 4 rfl ?_
      refine a_iload_n ho dX12_shades_69 rfl rfl 2 rfl ?_
      obtain ⟨r70, σ70, hq70, h⟩ := ob2_el h
      refine a_callVi ho vy_X12_shadeOf ml_X12_211 o_82 (C_X12_shadeOf hq70) rfl rfl (by decide) (Nat.le_of_ble_eq_true rfl) dX12_shades_70 rfl ?_
      refine a_istore (L' := [(5, .int r70), (0, .ref (gad G 82)), (1, .int x1), (2, .int x2), (3, .int x3), (4, .int x4)]) ho dX12_shades_73 rfl (by decide) rfl ?_
      refine a_iload_n ho dX12_shades_75 rfl rfl 4 rfl ?_
      refine a_aload_n ho dX12_shades_76 rfl rfl 1 rfl ?_
      refine a_getR ho fl_X12_48 o_82 fr_10_17 dX12_shades_77 rfl ?_
      refine a_iload ho dX12_shades_80 rfl 0 rfl ?_
      obtain ⟨hk82, h⟩ := ck_el h
      refine a_zald ho z_95 hk82 dX12_shades_82 rfl ?_
      refine a_if_eq (tgt := 90) ho dX12_shades_83 rfl rfl (fun hc83 => ?_) (fun hc83 => ?_)
      · replace h := if_t hc83 h
        refine a_iconst (v := 1) ho dX12_shades_90 rfl (by decide) ?_
        exact a_sub [1, 2, 3, 5, 0] rfl (T_X12_shades_91 ho hr0 hs0 ih h)
      · replace h := if_f hc83 h
        refine a_iconst (v := 0) ho dX12_shades_86 rfl (by decide) ?_
        refine a_goto (tgt := 91) ho dX12_shades_87 rfl ?_
        exact a_sub [1, 2, 3, 5, 0] rfl (T_X12_shades_91 ho hr0 hs0 ih h)
theorem T_X12_shades_24 {G : gM} (ho : gOk G "WaxClothModel" cX12_shades 6 (some .int) 6) {r0 : Int32} (hr0 : gv0 G = some (.int r0)) {σ0 : gS} (hs0 : gs0 G = σ0) : ∀ (n : Nat) (x1 : Int32) (x2 : Int32) (x3 : Int32) (σ : gS), F_X12_shades_24 n x1 x2 x3 σ = some (r0, σ0) → gAt G 24 [(0, .ref (gad G 82)), (1, .int x1), (2, .int x2), (3, .int x3)] [] σ := by
  intro n
  induction n with
  | zero => intro x1 x2 x3 σ h; cases h
  | succ n ih =>
    intro x1 x2 x3 σ h
    unfold F_X12_shades_24 at h
    refine a_iload_n ho dX12_shades_24 rfl rfl 3 rfl ?_
    refine a_sipush (v := 1000) ho dX12_shades_25 rfl (by decide) ?_
    refine a_icmp_ge (tgt := 44) ho dX12_shades_28 rfl rfl (fun hc28 => ?_) (fun hc28 => ?_)
    · replace h := if_t hc28 h
      refine a_iconst (v := 0) ho dX12_shades_44 rfl (by decide) ?_
      refine a_istore_n (L' := [(3, .int 0), (0, .ref (gad G 82)), (1, .int x1), (2, .int x2)]) ho dX12_shades_45 rfl rfl (by decide) rfl ?_
      refine a_aload_n ho dX12_shades_46 rfl rfl 1 rfl ?_
      refine a_getR ho fl_X12_7 o_82 fr_10_0 dX12_shades_47 rfl ?_
      refine a_iconst (v := 1) ho dX12_shades_50 rfl (by decide) ?_
      refine a_iald ho i_83 (by decide) dX12_shades_51 rfl ?_
      refine a_nmI (x := σ.1 83 1) rfl ?_
      refine a_iload_n ho dX12_shades_52 rfl rfl 3 rfl ?_
      obtain ⟨r53, hq53, h⟩ := ob_el h
      refine a_callSi ho vy_X12_power ml_X12_206 (C_X12_power hq53) rfl rfl (by decide) (Nat.le_of_ble_eq_true rfl) dX12_shades_53 rfl ?_
      refine a_iconst (v := 1) ho dX12_shades_56 rfl (by decide) ?_
      refine a_isub ho dX12_shades_57 rfl ?_
      obtain ⟨x58, hb58, h⟩ := bd_el h
      refine a_nmI hb58 ?_
      refine a_istore (L' := [(4, .int x58), (3, .int 0), (0, .ref (gad G 82)), (1, .int x1), (2, .int x2)]) ho dX12_shades_58 rfl (by decide) rfl ?_
      exact a_sub [2, 3, 4, 1, 0] rfl (T_X12_shades_60 ho hr0 hs0 _ _ _ _ _ _ h)
    · replace h := if_f hc28 h
      refine a_aload_n ho dX12_shades_31 rfl rfl 0 rfl ?_
      refine a_getR ho fl_X12_48 o_82 fr_10_17 dX12_shades_32 rfl ?_
      refine a_iload_n ho dX12_shades_35 rfl rfl 3 rfl ?_
      refine a_iconst (v := 0) ho dX12_shades_36 rfl (by decide) ?_
      obtain ⟨hk37, h⟩ := ck_el h
      refine a_zast ho z_95 hk37 dX12_shades_37 rfl ?_
      obtain ⟨σ37, hs37, h⟩ := bd_el h
      refine a_nmS hs37 ?_
      obtain ⟨x38, hb38, h⟩ := bd_el h
      refine a_iinc (L' := [(3, .int x38), (0, .ref (gad G 82)), (1, .int x1), (2, .int x2)]) ho dX12_shades_38 rfl 3 rfl hb38 (by decide) rfl ?_
      refine a_goto (tgt := 24) ho dX12_shades_41 rfl ?_
      exact a_sub [1, 2, 3, 0] rfl (ih _ _ _ _ h)
theorem T_X12_shades_0 {G : gM} (ho : gOk G "WaxClothModel" cX12_shades 6 (some .int) 6) {r0 : Int32} (hr0 : gv0 G = some (.int r0)) {σ0 : gS} (hs0 : gs0 G = σ0) {x1 : Int32} {x2 : Int32} {σ : gS} (h : F_X12_shades_0 x1 x2 σ = some (r0, σ0)) : gAt G 0 [(0, .ref (gad G 82)), (1, .int x1), (2, .int x2)] [] σ := by
  unfold F_X12_shades_0 at h
  refine a_aload_n ho dX12_shades_0 rfl rfl 0 rfl ?_
  refine a_iload_n ho dX12_shades_1 rfl rfl 1 rfl ?_
  obtain ⟨r2, hq2, h⟩ := ob_el h
  refine a_callVi ho vy_X12_isSquare ml_X12_161 o_82 (C_X12_isSquare hq2) rfl rfl (by decide) (Nat.le_of_ble_eq_true rfl) dX12_shades_2 rfl ?_
  refine a_if_eq (tgt := 20) ho dX12_shades_5 rfl rfl (fun hc5 => ?_) (fun hc5 => ?_)
  · replace h := if_t hc5 h
    refine a_iconst (v := (-1)) ho dX12_shades_20 rfl (by decide) ?_
    exact a_iret ho dX12_shades_21 (rI hr0 (re_el h).1) (rS hs0 (re_el h).2)
  · replace h := if_f hc5 h
    refine a_iload_n ho dX12_shades_8 rfl rfl 2 rfl ?_
    refine a_i2l ho dX12_shades_9 rfl ?_
    refine a_lconst (v := 0) ho dX12_shades_10 rfl (by decide) ?_
    refine a_ldc2 ho dX12_shades_11 rfl kk_X12_166 ?_
    refine a_callSi ho vy_X12_in ml_X12_59 (C_X12_in (Int32.toInt64 x2) 0 5) rfl rfl (by decide) (Nat.le_of_ble_eq_true rfl) dX12_shades_14 rfl ?_
    refine a_if_ne (tgt := 22) ho dX12_shades_17 rfl rfl (fun hc17 => ?_) (fun hc17 => ?_)
    · replace h := if_f hc17 h
      refine a_iconst (v := 0) ho dX12_shades_22 rfl (by decide) ?_
      refine a_istore_n (L' := [(3, .int 0), (0, .ref (gad G 82)), (1, .int x1), (2, .int x2)]) ho dX12_shades_23 rfl rfl (by decide) rfl ?_
      exact a_sub [1, 2, 3, 0] rfl (T_X12_shades_24 ho hr0 hs0 _ _ _ _ _ h)
    · replace h := if_t hc17 h
      refine a_iconst (v := (-1)) ho dX12_shades_20 rfl (by decide) ?_
      exact a_iret ho dX12_shades_21 (rI hr0 (re_el h).1) (rS hs0 (re_el h).2)
theorem C_X12_shades {l : Launch} {X : gX} {σ σ0 : gS} {r0 : Int32} {a1 : Int32} {a2 : Int32} (h : F_X12_shades_0 a1 a2 σ = some (r0, σ0)) : gCt l X yX12_shades (.code yX12_shades cX12_shades 6 (some .int)) 6 [.ref (X.2.2.1 82), .int a1, .int a2] σ (some (.int r0)) σ0 :=
  gCt_of cX12_shades (by decide) (Nat.le_of_ble_eq_true rfl) (fun G hl hX hv hs ho => by subst hl; subst hX; exact a_sub [0, 1, 2] rfl (T_X12_shades_0 ho hv hs h))
theorem T_X12_cracks_391 {G : gM} (ho : gOk G "WaxClothModel" cX12_cracks 5 (some .int) 18) {r0 : Int32} (hr0 : gv0 G = some (.int r0)) {σ0 : gS} (hs0 : gs0 G = σ0) {x9 : Int64} {y0 : Int64} {σ : gS} (h : F_X12_cracks_391 x9 y0 σ = some (r0, σ0)) : gAt G 391 [(9, .long x9)] [.long y0] σ := by
  unfold F_X12_cracks_391 at h
  refine a_lload ho dX12_cracks_391 rfl 0 rfl ?_
  obtain ⟨hk393, h⟩ := ck_el h
  refine a_ldiv ho dX12_cracks_393 rfl hk393 ?_
  refine a_l2i ho dX12_cracks_394 rfl ?_
  exact a_iret ho dX12_cracks_395 (rI hr0 (re_el h).1) (rS hs0 (re_el h).2)
theorem T_X12_cracks_354 {G : gM} (ho : gOk G "WaxClothModel" cX12_cracks 5 (some .int) 18) {r0 : Int32} (hr0 : gv0 G = some (.int r0)) {σ0 : gS} (hs0 : gs0 G = σ0) : ∀ (n : Nat) (x4 : Int32) (x5 : Int64) (x7 : Int64) (x9 : Int64) (x11 : Int64) (σ : gS), F_X12_cracks_354 n x4 x5 x7 x9 x11 σ = some (r0, σ0) → gAt G 354 [(4, .int x4), (5, .long x5), (7, .long x7), (9, .long x9), (11, .long x11)] [] σ := by
  intro n
  induction n with
  | zero => intro x4 x5 x7 x9 x11 σ h; cases h
  | succ n ih =>
    intro x4 x5 x7 x9 x11 σ h
    unfold F_X12_cracks_354 at h
    refine a_lload ho dX12_cracks_354 rfl 4 rfl ?_
    refine a_lconst (v := 0) ho dX12_cracks_356 rfl (by decide) ?_
    refine a_lcmp ho dX12_cracks_357 rfl ?_
    refine a_if_eq (tgt := 379) ho dX12_cracks_358 rfl rfl (fun hc358 => ?_) (fun hc358 => ?_)
    · replace h := if_t hc358 h
      refine a_iload ho dX12_cracks_379 rfl 0 rfl ?_
      refine a_if_ne (tgt := 389) ho dX12_cracks_381 rfl rfl (fun hc381 => ?_) (fun hc381 => ?_)
      · replace h := if_f hc381 h
        refine a_lload ho dX12_cracks_389 rfl 1 rfl ?_
        exact a_sub [3] rfl (T_X12_cracks_391 ho hr0 hs0 h)
      · replace h := if_t hc381 h
        refine a_lload ho dX12_cracks_384 rfl 2 rfl ?_
        refine a_goto (tgt := 391) ho dX12_cracks_386 rfl ?_
        exact a_sub [3] rfl (T_X12_cracks_391 ho hr0 hs0 h)
    · replace h := if_f hc358 h
      refine a_lload ho dX12_cracks_361 rfl 3 rfl ?_
      refine a_lload ho dX12_cracks_363 rfl 4 rfl ?_
      obtain ⟨hk365, h⟩ := ck_el h
      refine a_lrem ho dX12_cracks_365 rfl hk365 ?_
      obtain ⟨x366, hb366, h⟩ := bd_el h
      refine a_nmL hb366 ?_
      refine a_lstore (L' := [(13, .long x366), (4, .int x4), (5, .long x5), (7, .long x7), (9, .long x9), (11, .long x11)]) ho dX12_cracks_366 rfl (by decide) rfl ?_
      refine a_lload ho dX12_cracks_368 rfl 5 rfl ?_
      refine a_lstore (L' := [(9, .long x11), (13, .long x366), (4, .int x4), (5, .long x5), (7, .long x7), (11, .long x11)]) ho dX12_cracks_370 rfl (by decide) rfl ?_
      refine a_lload ho dX12_cracks_372 rfl 1 rfl ?_
      refine a_lstore (L' := [(11, .long x366), (9, .long x11), (13, .long x366), (4, .int x4), (5, .long x5), (7, .long x7)]) ho dX12_cracks_374 rfl (by decide) rfl ?_
      refine a_goto (tgt := 354) ho dX12_cracks_376 rfl ?_
      exact a_sub [3, 4, 5, 1, 0] rfl (ih _ _ _ _ _ _ h)
theorem T_X12_cracks_321 {G : gM} (ho : gOk G "WaxClothModel" cX12_cracks 5 (some .int) 18) {r0 : Int32} (hr0 : gv0 G = some (.int r0)) {σ0 : gS} (hs0 : gs0 G = σ0) : ∀ (n : Nat) (x4 : Int32) (x5 : Int64) (x7 : Int64) (x9 : Int32) (σ : gS), F_X12_cracks_321 n x4 x5 x7 x9 σ = some (r0, σ0) → gAt G 321 [(0, .ref (gad G 82)), (4, .int x4), (5, .long x5), (7, .long x7), (9, .int x9)] [] σ := by
  intro n
  induction n with
  | zero => intro x4 x5 x7 x9 σ h; cases h
  | succ n ih =>
    intro x4 x5 x7 x9 σ h
    unfold F_X12_cracks_321 at h
    refine a_iload ho dX12_cracks_321 rfl 4 rfl ?_
    refine a_bipush (v := 9) ho dX12_cracks_323 rfl (by decide) ?_
    refine a_icmp_ge (tgt := 346) ho dX12_cracks_325 rfl rfl (fun hc325 => ?_) (fun hc325 => ?_)
    · replace h := if_t hc325 h
      refine a_lload ho dX12_cracks_346 rfl 3 rfl ?_
      refine a_lstore (L' := [(9, .long x7), (0, .ref (gad G 82)), (4, .int x4), (5, .long x5), (7, .long x7)]) ho dX12_cracks_348 rfl (by decide) rfl ?_
      refine a_lload ho dX12_cracks_350 rfl 3 rfl ?_
      refine a_lstore (L' := [(11, .long x5), (9, .long x7), (0, .ref (gad G 82)), (4, .int x4), (5, .long x5), (7, .long x7)]) ho dX12_cracks_352 rfl (by decide) rfl ?_
      exact a_sub [3, 4, 5, 1, 0] rfl (T_X12_cracks_354 ho hr0 hs0 _ _ _ _ _ _ _ h)
    · replace h := if_f hc325 h
      refine a_lload ho dX12_cracks_328 rfl 3 rfl ?_
      refine a_aload_n ho dX12_cracks_330 rfl rfl 0 rfl ?_
      refine a_getR ho fl_X12_51 o_82 fr_10_18 dX12_cracks_331 rfl ?_
      refine a_iload ho dX12_cracks_334 rfl 4 rfl ?_
      obtain ⟨hk336, h⟩ := ck_el h
      refine a_lald ho j_96 hk336 dX12_cracks_336 rfl ?_
      refine a_ladd ho dX12_cracks_337 rfl ?_
      obtain ⟨x338, hb338, h⟩ := bd_el h
      refine a_nmL hb338 ?_
      refine a_lstore (L' := [(7, .long x338), (0, .ref (gad G 82)), (4, .int x4), (5, .long x5), (9, .int x9)]) ho dX12_cracks_338 rfl (by decide) rfl ?_
      obtain ⟨x340, hb340, h⟩ := bd_el h
      refine a_iinc (L' := [(9, .int x340), (7, .long x338), (0, .ref (gad G 82)), (4, .int x4), (5, .long x5)]) ho dX12_cracks_340 rfl 4 rfl hb340 (by decide) rfl ?_
      refine a_goto (tgt := 321) ho dX12_cracks_343 rfl ?_
      exact a_sub [2, 3, 4, 1, 0] rfl (ih _ _ _ _ _ h)
theorem T_X12_cracks_306 {G : gM} (ho : gOk G "WaxClothModel" cX12_cracks 5 (some .int) 18) {r0 : Int32} (hr0 : gv0 G = some (.int r0)) {σ0 : gS} (hs0 : gs0 G = σ0) {g88 : Int32 → Int32 → Int32 → Int32 → Int64 → Int32 → gS → Option (Int32 × gS)} (hg88 : ∀ (x1 : Int32) (x2 : Int32) (x3 : Int32) (x4 : Int32) (x5 : Int64) (x7 : Int32) (σ : gS), g88 x1 x2 x3 x4 x5 x7 σ = some (r0, σ0) → gAt G 88 [(0, .ref (gad G 82)), (1, .int x1), (2, .int x2), (3, .int x3), (4, .int x4), (5, .long x5), (7, .int x7)] [] σ) {x1 : Int32} {x2 : Int32} {x3 : Int32} {x4 : Int32} {x7 : Int32} {y0 : Int64} {y1 : Int64} {σ : gS} (h : F_X12_cracks_306 g88 x1 x2 x3 x4 x7 y0 y1 σ = some (r0, σ0)) : gAt G 306 [(0, .ref (gad G 82)), (1, .int x1), (2, .int x2), (3, .int x3), (4, .int x4), (7, .int x7)] [.long y0, .long y1] σ := by
  unfold F_X12_cracks_306 at h
  refine a_lmul ho dX12_cracks_306 rfl ?_
  obtain ⟨x307, hb307, h⟩ := bd_el h
  refine a_nmL hb307 ?_
  refine a_lstore (L' := [(5, .long x307), (0, .ref (gad G 82)), (1, .int x1), (2, .int x2), (3, .int x3), (4, .int x4), (7, .int x7)]) ho dX12_cracks_307 rfl (by decide) rfl ?_
  obtain ⟨x309, hb309, h⟩ := bd_el h
  refine a_iinc (L' := [(7, .int x309), (5, .long x307), (0, .ref (gad G 82)), (1, .int x1), (2, .int x2), (3, .int x3), (4, .int x4)]) ho dX12_cracks_309 rfl 6 rfl hb309 (by decide) rfl ?_
  refine a_goto (tgt := 88) ho dX12_cracks_312 rfl ?_
  exact a_sub [2, 3, 4, 5, 6, 1, 0] rfl (hg88 _ _ _ _ _ _ _ h)
theorem T_X12_cracks_276 {G : gM} (ho : gOk G "WaxClothModel" cX12_cracks 5 (some .int) 18) {r0 : Int32} (hr0 : gv0 G = some (.int r0)) {σ0 : gS} (hs0 : gs0 G = σ0) {g88 : Int32 → Int32 → Int32 → Int32 → Int64 → Int32 → gS → Option (Int32 × gS)} (hg88 : ∀ (x1 : Int32) (x2 : Int32) (x3 : Int32) (x4 : Int32) (x5 : Int64) (x7 : Int32) (σ : gS), g88 x1 x2 x3 x4 x5 x7 σ = some (r0, σ0) → gAt G 88 [(0, .ref (gad G 82)), (1, .int x1), (2, .int x2), (3, .int x3), (4, .int x4), (5, .long x5), (7, .int x7)] [] σ) {g212 : Int32 → Int32 → Int32 → Int32 → Int64 → Int32 → Int32 → Int32 → Int32 → Int64 → Int64 → Int32 → gS → Option (Int32 × gS)} (hg212 : ∀ (x1 : Int32) (x2 : Int32) (x3 : Int32) (x4 : Int32) (x5 : Int64) (x7 : Int32) (x8 : Int32) (x9 : Int32) (x10 : Int32) (x11 : Int64) (x13 : Int64) (x15 : Int32) (σ : gS), g212 x1 x2 x3 x4 x5 x7 x8 x9 x10 x11 x13 x15 σ = some (r0, σ0) → gAt G 212 [(0, .ref (gad G 82)), (1, .int x1), (2, .int x2), (3, .int x3), (4, .int x4), (5, .long x5), (7, .int x7), (8, .int x8), (9, .int x9), (10, .int x10), (11, .long x11), (13, .long x13), (15, .int x15)] [] σ) {x1 : Int32} {x2 : Int32} {x3 : Int32} {x4 : Int32} {x5 : Int64} {x7 : Int32} {x8 : Int32} {x9 : Int32} {x10 : Int32} {x11 : Int64} {x13 : Int64} {x15 : Int32} {x16 : Int64} {y0 : Int32} {y1 : Int32} {σ : gS} (h : F_X12_cracks_276 g88 g212 x1 x2 x3 x4 x5 x7 x8 x9 x10 x11 x13 x15 x16 y0 y1 σ = some (r0, σ0)) : gAt G 276 [(0, .ref (gad G 82)), (1, .int x1), (2, .int x2), (3, .int x3), (4, .int x4), (5, .long x5), (7, .int x7), (8, .int x8), (9, .int x9), (10, .int x10), (11, .long x11), (13, .long x13), (15, .int x15), (16, .long x16)] [.int y0, .int y1, .ref (gad G 96)] σ := by
  unfold F_X12_cracks_276 at h
  refine a_iadd ho dX12_cracks_276 rfl ?_
  refine a_dup2 ho dX12_cracks_277 rfl rfl rfl ?_
  obtain ⟨hk278, h⟩ := ck_el h
  refine a_lald ho j_96 hk278 dX12_cracks_278 rfl ?_
  refine a_lload ho dX12_cracks_279 rfl 13 rfl ?_
  refine a_lload ho dX12_cracks_281 rfl 10 rfl ?_
  refine a_lmul ho dX12_cracks_283 rfl ?_
  refine a_ladd ho dX12_cracks_284 rfl ?_
  obtain ⟨hk285, h⟩ := ck_el h
  refine a_last ho j_96 hk285 dX12_cracks_285 rfl ?_
  obtain ⟨σ285, hs285, h⟩ := bd_el h
  refine a_nmS hs285 ?_
  obtain ⟨x286, hb286, h⟩ := bd_el h
  refine a_iinc (L' := [(15, .int x286), (0, .ref (gad G 82)), (1, .int x1), (2, .int x2), (3, .int x3), (4, .int x4), (5, .long x5), (7, .int x7), (8, .int x8), (9, .int x9), (10, .int x10), (11, .long x11), (13, .long x13), (16, .long x16)]) ho dX12_cracks_286 rfl 12 rfl hb286 (by decide) rfl ?_
  refine a_goto (tgt := 212) ho dX12_cracks_289 rfl ?_
  exact a_sub [1, 2, 3, 4, 5, 6, 7, 8, 9, 10, 11, 12, 0] rfl (hg212 _ _ _ _ _ _ _ _ _ _ _ _ _ h)
theorem T_X12_cracks_250 {G : gM} (ho : gOk G "WaxClothModel" cX12_cracks 5 (some .int) 18) {r0 : Int32} (hr0 : gv0 G = some (.int r0)) {σ0 : gS} (hs0 : gs0 G = σ0) {g88 : Int32 → Int32 → Int32 → Int32 → Int64 → Int32 → gS → Option (Int32 × gS)} (hg88 : ∀ (x1 : Int32) (x2 : Int32) (x3 : Int32) (x4 : Int32) (x5 : Int64) (x7 : Int32) (σ : gS), g88 x1 x2 x3 x4 x5 x7 σ = some (r0, σ0) → gAt G 88 [(0, .ref (gad G 82)), (1, .int x1), (2, .int x2), (3, .int x3), (4, .int x4), (5, .long x5), (7, .int x7)] [] σ) {g212 : Int32 → Int32 → Int32 → Int32 → Int64 → Int32 → Int32 → Int32 → Int32 → Int64 → Int64 → Int32 → gS → Option (Int32 × gS)} (hg212 : ∀ (x1 : Int32) (x2 : Int32) (x3 : Int32) (x4 : Int32) (x5 : Int64) (x7 : Int32) (x8 : Int32) (x9 : Int32) (x10 : Int32) (x11 : Int64) (x13 : Int64) (x15 : Int32) (σ : gS), g212 x1 x2 x3 x4 x5 x7 x8 x9 x10 x11 x13 x15 σ = some (r0, σ0) → gAt G 212 [(0, .ref (gad G 82)), (1, .int x1), (2, .int x2), (3, .int x3), (4, .int x4), (5, .long x5), (7, .int x7), (8, .int x8), (9, .int x9), (10, .int x10), (11, .long x11), (13, .long x13), (15, .int x15)] [] σ) {x1 : Int32} {x2 : Int32} {x3 : Int32} {x4 : Int32} {x5 : Int64} {x7 : Int32} {x8 : Int32} {x9 : Int32} {x10 : Int32} {x11 : Int64} {x13 : Int64} {x15 : Int32} {x16 : Int64} {y0 : Int32} {y1 : Int32} {σ : gS} (h : F_X12_cracks_250 g88 g212 x1 x2 x3 x4 x5 x7 x8 x9 x10 x11 x13 x15 x16 y0 y1 σ = some (r0, σ0)) : gAt G 250 [(0, .ref (gad G 82)), (1, .int x1), (2, .int x2), (3, .int x3), (4, .int x4), (5, .long x5), (7, .int x7), (8, .int x8), (9, .int x9), (10, .int x10), (11, .long x11), (13, .long x13), (15, .int x15), (16, .long x16)] [.int y0, .int y1, .ref (gad G 96)] σ := by
  unfold F_X12_cracks_250 at h
  refine a_iadd ho dX12_cracks_250 rfl ?_
  refine a_dup2 ho dX12_cracks_251 rfl rfl rfl ?_
  obtain ⟨hk252, h⟩ := ck_el h
  refine a_lald ho j_96 hk252 dX12_cracks_252 rfl ?_
  refine a_lload ho dX12_cracks_253 rfl 13 rfl ?_
  refine a_lload ho dX12_cracks_255 rfl 11 rfl ?_
  refine a_lmul ho dX12_cracks_257 rfl ?_
  refine a_ladd ho dX12_cracks_258 rfl ?_
  obtain ⟨hk259, h⟩ := ck_el h
  refine a_last ho j_96 hk259 dX12_cracks_259 rfl ?_
  obtain ⟨σ259, hs259, h⟩ := bd_el h
  refine a_nmS hs259 ?_
  refine a_aload_n ho dX12_cracks_260 rfl rfl 0 rfl ?_
  refine a_getR ho fl_X12_51 o_82 fr_10_18 dX12_cracks_261 rfl ?_
  refine a_iload ho dX12_cracks_264 rfl 12 rfl ?_
  refine a_iload ho dX12_cracks_266 rfl 9 rfl ?_
  refine a_if_eq (tgt := 275) ho dX12_cracks_268 rfl rfl (fun hc268 => ?_) (fun hc268 => ?_)
  · replace h := if_t hc268 h
    refine a_iconst (v := 0) ho dX12_cracks_275 rfl (by decide) ?_
    exact a_sub [0, 1, 2, 3, 4, 5, 6, 7, 8, 9, 10, 11, 12, 13] rfl (T_X12_cracks_276 ho hr0 hs0 hg88 hg212 h)
  · replace h := if_f hc268 h
    refine a_iconst (v := 1) ho dX12_cracks_271 rfl (by decide) ?_
    refine a_goto (tgt := 276) ho dX12_cracks_272 rfl ?_
    exact a_sub [0, 1, 2, 3, 4, 5, 6, 7, 8, 9, 10, 11, 12, 13] rfl (T_X12_cracks_276 ho hr0 hs0 hg88 hg212 h)
theorem T_X12_cracks_212 {G : gM} (ho : gOk G "WaxClothModel" cX12_cracks 5 (some .int) 18) {r0 : Int32} (hr0 : gv0 G = some (.int r0)) {σ0 : gS} (hs0 : gs0 G = σ0) {g88 : Int32 → Int32 → Int32 → Int32 → Int64 → Int32 → gS → Option (Int32 × gS)} (hg88 : ∀ (x1 : Int32) (x2 : Int32) (x3 : Int32) (x4 : Int32) (x5 : Int64) (x7 : Int32) (σ : gS), g88 x1 x2 x3 x4 x5 x7 σ = some (r0, σ0) → gAt G 88 [(0, .ref (gad G 82)), (1, .int x1), (2, .int x2), (3, .int x3), (4, .int x4), (5, .long x5), (7, .int x7)] [] σ) : ∀ (n : Nat) (x1 : Int32) (x2 : Int32) (x3 : Int32) (x4 : Int32) (x5 : Int64) (x7 : Int32) (x8 : Int32) (x9 : Int32) (x10 : Int32) (x11 : Int64) (x13 : Int64) (x15 : Int32) (σ : gS), F_X12_cracks_212 g88 n x1 x2 x3 x4 x5 x7 x8 x9 x10 x11 x13 x15 σ = some (r0, σ0) → gAt G 212 [(0, .ref (gad G 82)), (1, .int x1), (2, .int x2), (3, .int x3), (4, .int x4), (5, .long x5), (7, .int x7), (8, .int x8), (9, .int x9), (10, .int x10), (11, .long x11), (13, .long x13), (15, .int x15)] [] σ := by
  intro n
  induction n with
  | zero => intro x1 x2 x3 x4 x5 x7 x8 x9 x10 x11 x13 x15 σ h; cases h
  | succ n ih =>
    intro x1 x2 x3 x4 x5 x7 x8 x9 x10 x11 x13 x15 σ h
    unfold F_X12_cracks_212 at h
    refine a_iload ho dX12_cracks_212 rfl 12 rfl ?_
    refine a_if_lt (tgt := 292) ho dX12_cracks_214 rfl rfl (fun hc214 => ?_) (fun hc214 => ?_)
    · replace h := if_t hc214 h
      refine a_lload ho dX12_cracks_292 rfl 5 rfl ?_
      refine a_iload ho dX12_cracks_294 rfl 7 rfl ?_
      refine a_if_eq (tgt := 305) ho dX12_cracks_296 rfl rfl (fun hc296 => ?_) (fun hc296 => ?_)
      · replace h := if_t hc296 h
        refine a_lconst (v := 1) ho dX12_cracks_305 rfl (by decide) ?_
        exact a_sub [0, 1, 2, 3, 4, 6] rfl (T_X12_cracks_306 ho hr0 hs0 hg88 h)
      · replace h := if_f hc296 h
        refine a_ldc2 ho dX12_cracks_299 rfl kk_X12_141 ?_
        refine a_goto (tgt := 306) ho dX12_cracks_302 rfl ?_
        exact a_sub [0, 1, 2, 3, 4, 6] rfl (T_X12_cracks_306 ho hr0 hs0 hg88 h)
    · replace h := if_f hc214 h
      refine a_aload_n ho dX12_cracks_217 rfl rfl 0 rfl ?_
      refine a_getR ho fl_X12_51 o_82 fr_10_18 dX12_cracks_218 rfl ?_
      refine a_iload ho dX12_cracks_221 rfl 12 rfl ?_
      obtain ⟨hk223, h⟩ := ck_el h
      refine a_lald ho j_96 hk223 dX12_cracks_223 rfl ?_
      obtain ⟨x224, hb224, h⟩ := bd_el h
      refine a_nmL hb224 ?_
      refine a_lstore (L' := [(16, .long x224), (0, .ref (gad G 82)), (1, .int x1), (2, .int x2), (3, .int x3), (4, .int x4), (5, .long x5), (7, .int x7), (8, .int x8), (9, .int x9), (10, .int x10), (11, .long x11), (13, .long x13), (15, .int x15)]) ho dX12_cracks_224 rfl (by decide) rfl ?_
      refine a_aload_n ho dX12_cracks_226 rfl rfl 1 rfl ?_
      refine a_getR ho fl_X12_51 o_82 fr_10_18 dX12_cracks_227 rfl ?_
      refine a_iload ho dX12_cracks_230 rfl 13 rfl ?_
      refine a_lconst (v := 0) ho dX12_cracks_232 rfl (by decide) ?_
      obtain ⟨hk233, h⟩ := ck_el h
      refine a_last ho j_96 hk233 dX12_cracks_233 rfl ?_
      obtain ⟨σ233, hs233, h⟩ := bd_el h
      refine a_nmS hs233 ?_
      refine a_aload_n ho dX12_cracks_234 rfl rfl 1 rfl ?_
      refine a_getR ho fl_X12_51 o_82 fr_10_18 dX12_cracks_235 rfl ?_
      refine a_iload ho dX12_cracks_238 rfl 13 rfl ?_
      refine a_iload ho dX12_cracks_240 rfl 9 rfl ?_
      refine a_if_eq (tgt := 249) ho dX12_cracks_242 rfl rfl (fun hc242 => ?_) (fun hc242 => ?_)
      · replace h := if_t hc242 h
        refine a_iconst (v := 0) ho dX12_cracks_249 rfl (by decide) ?_
        exact a_sub [1, 2, 3, 4, 5, 6, 7, 8, 9, 10, 11, 12, 13, 0] rfl (T_X12_cracks_250 ho hr0 hs0 hg88 ih h)
      · replace h := if_f hc242 h
        refine a_iconst (v := 1) ho dX12_cracks_245 rfl (by decide) ?_
        refine a_goto (tgt := 250) ho dX12_cracks_246 rfl ?_
        exact a_sub [1, 2, 3, 4, 5, 6, 7, 8, 9, 10, 11, 12, 13, 0] rfl (T_X12_cracks_250 ho hr0 hs0 hg88 ih h)
theorem T_X12_cracks_206 {G : gM} (ho : gOk G "WaxClothModel" cX12_cracks 5 (some .int) 18) {r0 : Int32} (hr0 : gv0 G = some (.int r0)) {σ0 : gS} (hs0 : gs0 G = σ0) {g88 : Int32 → Int32 → Int32 → Int32 → Int64 → Int32 → gS → Option (Int32 × gS)} (hg88 : ∀ (x1 : Int32) (x2 : Int32) (x3 : Int32) (x4 : Int32) (x5 : Int64) (x7 : Int32) (σ : gS), g88 x1 x2 x3 x4 x5 x7 σ = some (r0, σ0) → gAt G 88 [(0, .ref (gad G 82)), (1, .int x1), (2, .int x2), (3, .int x3), (4, .int x4), (5, .long x5), (7, .int x7)] [] σ) {x1 : Int32} {x2 : Int32} {x3 : Int32} {x4 : Int32} {x5 : Int64} {x7 : Int32} {x8 : Int32} {x9 : Int32} {x10 : Int32} {x11 : Int64} {y0 : Int64} {σ : gS} (h : F_X12_cracks_206 g88 x1 x2 x3 x4 x5 x7 x8 x9 x10 x11 y0 σ = some (r0, σ0)) : gAt G 206 [(0, .ref (gad G 82)), (1, .int x1), (2, .int x2), (3, .int x3), (4, .int x4), (5, .long x5), (7, .int x7), (8, .int x8), (9, .int x9), (10, .int x10), (11, .long x11)] [.long y0] σ := by
  unfold F_X12_cracks_206 at h
  refine a_lstore (L' := [(13, .long y0), (0, .ref (gad G 82)), (1, .int x1), (2, .int x2), (3, .int x3), (4, .int x4), (5, .long x5), (7, .int x7), (8, .int x8), (9, .int x9), (10, .int x10), (11, .long x11)]) ho dX12_cracks_206 rfl (by decide) rfl ?_
  refine a_bipush (v := 8) ho dX12_cracks_208 rfl (by decide) ?_
  refine a_istore (L' := [(15, .int 8), (13, .long y0), (0, .ref (gad G 82)), (1, .int x1), (2, .int x2), (3, .int x3), (4, .int x4), (5, .long x5), (7, .int x7), (8, .int x8), (9, .int x9), (10, .int x10), (11, .long x11)]) ho dX12_cracks_210 rfl (by decide) rfl ?_
  exact a_sub [2, 3, 4, 5, 6, 7, 8, 9, 10, 11, 12, 1, 0] rfl (T_X12_cracks_212 ho hr0 hs0 hg88 _ _ _ _ _ _ _ _ _ _ _ _ _ _ h)
theorem T_X12_cracks_190 {G : gM} (ho : gOk G "WaxClothModel" cX12_cracks 5 (some .int) 18) {r0 : Int32} (hr0 : gv0 G = some (.int r0)) {σ0 : gS} (hs0 : gs0 G = σ0) {g88 : Int32 → Int32 → Int32 → Int32 → Int64 → Int32 → gS → Option (Int32 × gS)} (hg88 : ∀ (x1 : Int32) (x2 : Int32) (x3 : Int32) (x4 : Int32) (x5 : Int64) (x7 : Int32) (σ : gS), g88 x1 x2 x3 x4 x5 x7 σ = some (r0, σ0) → gAt G 88 [(0, .ref (gad G 82)), (1, .int x1), (2, .int x2), (3, .int x3), (4, .int x4), (5, .long x5), (7, .int x7)] [] σ) {x1 : Int32} {x2 : Int32} {x3 : Int32} {x4 : Int32} {x5 : Int64} {x7 : Int32} {x8 : Int32} {x9 : Int32} {x10 : Int32} {y0 : Int64} {σ : gS} (h : F_X12_cracks_190 g88 x1 x2 x3 x4 x5 x7 x8 x9 x10 y0 σ = some (r0, σ0)) : gAt G 190 [(0, .ref (gad G 82)), (1, .int x1), (2, .int x2), (3, .int x3), (4, .int x4), (5, .long x5), (7, .int x7), (8, .int x8), (9, .int x9), (10, .int x10)] [.long y0] σ := by
  unfold F_X12_cracks_190 at h
  refine a_lstore (L' := [(11, .long y0), (0, .ref (gad G 82)), (1, .int x1), (2, .int x2), (3, .int x3), (4, .int x4), (5, .long x5), (7, .int x7), (8, .int x8), (9, .int x9), (10, .int x10)]) ho dX12_cracks_190 rfl (by decide) rfl ?_
  refine a_iload ho dX12_cracks_192 rfl 8 rfl ?_
  refine a_if_eq (tgt := 205) ho dX12_cracks_194 rfl rfl (fun hc194 => ?_) (fun hc194 => ?_)
  · replace h := if_t hc194 h
    refine a_lconst (v := 1) ho dX12_cracks_205 rfl (by decide) ?_
    exact a_sub [1, 2, 3, 4, 5, 6, 7, 8, 9, 10, 0] rfl (T_X12_cracks_206 ho hr0 hs0 hg88 h)
  · replace h := if_f hc194 h
    refine a_bipush (v := 10) ho dX12_cracks_197 rfl (by decide) ?_
    refine a_iload_n ho dX12_cracks_199 rfl rfl 4 rfl ?_
    refine a_isub ho dX12_cracks_200 rfl ?_
    refine a_i2l ho dX12_cracks_201 rfl ?_
    refine a_goto (tgt := 206) ho dX12_cracks_202 rfl ?_
    exact a_sub [1, 2, 3, 4, 5, 6, 7, 8, 9, 10, 0] rfl (T_X12_cracks_206 ho hr0 hs0 hg88 h)
theorem T_X12_cracks_168 {G : gM} (ho : gOk G "WaxClothModel" cX12_cracks 5 (some .int) 18) {r0 : Int32} (hr0 : gv0 G = some (.int r0)) {σ0 : gS} (hs0 : gs0 G = σ0) {g88 : Int32 → Int32 → Int32 → Int32 → Int64 → Int32 → gS → Option (Int32 × gS)} (hg88 : ∀ (x1 : Int32) (x2 : Int32) (x3 : Int32) (x4 : Int32) (x5 : Int64) (x7 : Int32) (σ : gS), g88 x1 x2 x3 x4 x5 x7 σ = some (r0, σ0) → gAt G 88 [(0, .ref (gad G 82)), (1, .int x1), (2, .int x2), (3, .int x3), (4, .int x4), (5, .long x5), (7, .int x7)] [] σ) {x1 : Int32} {x2 : Int32} {x3 : Int32} {x4 : Int32} {x5 : Int64} {x7 : Int32} {x8 : Int32} {x9 : Int32} {σ : gS} (h : F_X12_cracks_168 g88 x1 x2 x3 x4 x5 x7 x8 x9 σ = some (r0, σ0)) : gAt G 168 [(0, .ref (gad G 82)), (1, .int x1), (2, .int x2), (3, .int x3), (4, .int x4), (5, .long x5), (7, .int x7), (8, .int x8), (9, .int x9)] [] σ := by
  unfold F_X12_cracks_168 at h
  refine a_aload_n ho dX12_cracks_168 rfl rfl 0 rfl ?_
  refine a_getR ho fl_X12_22 o_82 fr_10_4 dX12_cracks_169 rfl ?_
  refine a_iload ho dX12_cracks_172 rfl 6 rfl ?_
  obtain ⟨r174, hq174, h⟩ := ob_el h
  refine a_callSi ho vy_X12_isRight ml_X12_119 (C_X12_isRight i_87 hq174) rfl rfl (by decide) (Nat.le_of_ble_eq_true rfl) dX12_cracks_174 rfl ?_
  refine a_istore (L' := [(10, .int r174), (0, .ref (gad G 82)), (1, .int x1), (2, .int x2), (3, .int x3), (4, .int x4), (5, .long x5), (7, .int x7), (8, .int x8), (9, .int x9)]) ho dX12_cracks_177 rfl (by decide) rfl ?_
  refine a_iload ho dX12_cracks_179 rfl 8 rfl ?_
  refine a_if_eq (tgt := 189) ho dX12_cracks_181 rfl rfl (fun hc181 => ?_) (fun hc181 => ?_)
  · replace h := if_t hc181 h
    refine a_lconst (v := 0) ho dX12_cracks_189 rfl (by decide) ?_
    exact a_sub [1, 2, 3, 4, 5, 6, 7, 8, 9, 0] rfl (T_X12_cracks_190 ho hr0 hs0 hg88 h)
  · replace h := if_f hc181 h
    refine a_iload_n ho dX12_cracks_184 rfl rfl 4 rfl ?_
    refine a_i2l ho dX12_cracks_185 rfl ?_
    refine a_goto (tgt := 190) ho dX12_cracks_186 rfl ?_
    exact a_sub [1, 2, 3, 4, 5, 6, 7, 8, 9, 0] rfl (T_X12_cracks_190 ho hr0 hs0 hg88 h)
theorem T_X12_cracks_117 {G : gM} (ho : gOk G "WaxClothModel" cX12_cracks 5 (some .int) 18) {r0 : Int32} (hr0 : gv0 G = some (.int r0)) {σ0 : gS} (hs0 : gs0 G = σ0) {g88 : Int32 → Int32 → Int32 → Int32 → Int64 → Int32 → gS → Option (Int32 × gS)} (hg88 : ∀ (x1 : Int32) (x2 : Int32) (x3 : Int32) (x4 : Int32) (x5 : Int64) (x7 : Int32) (σ : gS), g88 x1 x2 x3 x4 x5 x7 σ = some (r0, σ0) → gAt G 88 [(0, .ref (gad G 82)), (1, .int x1), (2, .int x2), (3, .int x3), (4, .int x4), (5, .long x5), (7, .int x7)] [] σ) {x1 : Int32} {x2 : Int32} {x3 : Int32} {x4 : Int32} {x5 : Int64} {x7 : Int32} {y0 : Int32} {σ : gS} (h : F_X12_cracks_117 g88 x1 x2 x3 x4 x5 x7 y0 σ = some (r0, σ0)) : gAt G 117 [(0, .ref (gad G 82)), (1, .int x1), (2, .int x2), (3, .int x3), (4, .int x4), (5, .long x5), (7, .int x7)] [.int y0] σ := by
  unfold F_X12_cracks_117 at h
  refine a_istore (L' := [(8, .int y0), (0, .ref (gad G 82)), (1, .int x1), (2, .int x2), (3, .int x3), (4, .int x4), (5, .long x5), (7, .int x7)]) ho dX12_cracks_117 rfl (by decide) rfl ?_
  refine a_aload_n ho dX12_cracks_119 rfl rfl 1 rfl ?_
  refine a_aload_n ho dX12_cracks_120 rfl rfl 1 rfl ?_
  refine a_getR ho fl_X12_22 o_82 fr_10_4 dX12_cracks_121 rfl ?_
  refine a_iload ho dX12_cracks_124 rfl 7 rfl ?_
  refine a_iload_n ho dX12_cracks_126 rfl rfl 2 rfl ?_
  obtain ⟨σ127, hq127, h⟩ := ob_el h
  refine a_callVv ho vy_X12_bathes ml_X12_147 o_82 (C_X12_bathes i_87 hq127) rfl rfl (by decide) (Nat.le_of_ble_eq_true rfl) dX12_cracks_127 rfl ?_
  refine a_aload_n ho dX12_cracks_130 rfl rfl 1 rfl ?_
  refine a_getR ho fl_X12_22 o_82 fr_10_4 dX12_cracks_131 rfl ?_
  refine a_iload ho dX12_cracks_134 rfl 7 rfl ?_
  obtain ⟨r136, hq136, h⟩ := ob_el h
  refine a_callSi ho vy_X12_isRight ml_X12_119 (C_X12_isRight i_87 hq136) rfl rfl (by decide) (Nat.le_of_ble_eq_true rfl) dX12_cracks_136 rfl ?_
  refine a_istore (L' := [(9, .int r136), (8, .int y0), (0, .ref (gad G 82)), (1, .int x1), (2, .int x2), (3, .int x3), (4, .int x4), (5, .long x5), (7, .int x7)]) ho dX12_cracks_139 rfl (by decide) rfl ?_
  refine a_aload_n ho dX12_cracks_141 rfl rfl 2 rfl ?_
  refine a_getR ho fl_X12_22 o_82 fr_10_4 dX12_cracks_142 rfl ?_
  refine a_bipush (v := 24) ho dX12_cracks_145 rfl (by decide) ?_
  refine a_iload ho dX12_cracks_147 rfl 8 rfl ?_
  refine a_iadd ho dX12_cracks_149 rfl ?_
  refine a_iconst (v := 0) ho dX12_cracks_150 rfl (by decide) ?_
  obtain ⟨hk151, h⟩ := ck_el h
  refine a_iast ho i_87 hk151 dX12_cracks_151 rfl ?_
  obtain ⟨σ151, hs151, h⟩ := bd_el h
  refine a_nmS hs151 ?_
  refine a_iload ho dX12_cracks_152 rfl 1 rfl ?_
  refine a_if_eq (tgt := 168) ho dX12_cracks_154 rfl rfl (fun hc154 => ?_) (fun hc154 => ?_)
  · replace h := if_t hc154 h
    exact a_sub [2, 3, 4, 5, 6, 7, 8, 1, 0] rfl (T_X12_cracks_168 ho hr0 hs0 hg88 h)
  · replace h := if_f hc154 h
    refine a_aload_n ho dX12_cracks_157 rfl rfl 2 rfl ?_
    refine a_aload_n ho dX12_cracks_158 rfl rfl 2 rfl ?_
    refine a_getR ho fl_X12_22 o_82 fr_10_4 dX12_cracks_159 rfl ?_
    refine a_iload ho dX12_cracks_162 rfl 8 rfl ?_
    refine a_iload_n ho dX12_cracks_164 rfl rfl 3 rfl ?_
    obtain ⟨σ165, hq165, h⟩ := ob_el h
    refine a_callVv ho vy_X12_bathes ml_X12_147 o_82 (C_X12_bathes i_87 hq165) rfl rfl (by decide) (Nat.le_of_ble_eq_true rfl) dX12_cracks_165 rfl ?_
    exact a_sub [2, 3, 4, 5, 6, 7, 8, 1, 0] rfl (T_X12_cracks_168 ho hr0 hs0 hg88 h)
theorem T_X12_cracks_88 {G : gM} (ho : gOk G "WaxClothModel" cX12_cracks 5 (some .int) 18) {r0 : Int32} (hr0 : gv0 G = some (.int r0)) {σ0 : gS} (hs0 : gs0 G = σ0) : ∀ (n : Nat) (x1 : Int32) (x2 : Int32) (x3 : Int32) (x4 : Int32) (x5 : Int64) (x7 : Int32) (σ : gS), F_X12_cracks_88 n x1 x2 x3 x4 x5 x7 σ = some (r0, σ0) → gAt G 88 [(0, .ref (gad G 82)), (1, .int x1), (2, .int x2), (3, .int x3), (4, .int x4), (5, .long x5), (7, .int x7)] [] σ := by
  intro n
  induction n with
  | zero => intro x1 x2 x3 x4 x5 x7 σ h; cases h
  | succ n ih =>
    intro x1 x2 x3 x4 x5 x7 σ h
    unfold F_X12_cracks_88 at h
    refine a_iload ho dX12_cracks_88 rfl 6 rfl ?_
    refine a_aload_n ho dX12_cracks_90 rfl rfl 0 rfl ?_
    refine a_getR ho fl_X12_7 o_82 fr_10_0 dX12_cracks_91 rfl ?_
    refine a_iconst (v := 0) ho dX12_cracks_94 rfl (by decide) ?_
    refine a_iald ho i_83 (by decide) dX12_cracks_95 rfl ?_
    refine a_nmI (x := σ.1 83 0) rfl ?_
    refine a_icmp_ge (tgt := 315) ho dX12_cracks_96 rfl rfl (fun hc96 => ?_) (fun hc96 => ?_)
    · replace h := if_t hc96 h
      refine a_lconst (v := 0) ho dX12_cracks_315 rfl (by decide) ?_
      refine a_lstore (L' := [(7, .long 0), (0, .ref (gad G 82)), (1, .int x1), (2, .int x2), (3, .int x3), (4, .int x4), (5, .long x5)]) ho dX12_cracks_316 rfl (by decide) rfl ?_
      refine a_iload_n ho dX12_cracks_318 rfl rfl 3 rfl ?_
      refine a_istore (L' := [(9, .int x2), (7, .long 0), (0, .ref (gad G 82)), (1, .int x1), (2, .int x2), (3, .int x3), (4, .int x4), (5, .long x5)]) ho dX12_cracks_319 rfl (by decide) rfl ?_
      exact a_sub [2, 6, 7, 1, 0] rfl (T_X12_cracks_321 ho hr0 hs0 _ _ _ _ _ _ h)
    · replace h := if_f hc96 h
      refine a_aload_n ho dX12_cracks_99 rfl rfl 0 rfl ?_
      refine a_getR ho fl_X12_19 o_82 fr_10_3 dX12_cracks_100 rfl ?_
      refine a_bipush (v := 24) ho dX12_cracks_103 rfl (by decide) ?_
      refine a_iload ho dX12_cracks_105 rfl 6 rfl ?_
      refine a_iadd ho dX12_cracks_107 rfl ?_
      obtain ⟨hk108, h⟩ := ck_el h
      refine a_iald ho i_86 hk108 dX12_cracks_108 rfl ?_
      refine a_if_le (tgt := 116) ho dX12_cracks_109 rfl rfl (fun hc109 => ?_) (fun hc109 => ?_)
      · replace h := if_t hc109 h
        refine a_iconst (v := 0) ho dX12_cracks_116 rfl (by decide) ?_
        exact a_sub [0, 1, 2, 3, 4, 5, 6] rfl (T_X12_cracks_117 ho hr0 hs0 ih h)
      · replace h := if_f hc109 h
        refine a_iconst (v := 1) ho dX12_cracks_112 rfl (by decide) ?_
        refine a_goto (tgt := 117) ho dX12_cracks_113 rfl ?_
        exact a_sub [0, 1, 2, 3, 4, 5, 6] rfl (T_X12_cracks_117 ho hr0 hs0 ih h)
theorem T_X12_cracks_71 {G : gM} (ho : gOk G "WaxClothModel" cX12_cracks 5 (some .int) 18) {r0 : Int32} (hr0 : gv0 G = some (.int r0)) {σ0 : gS} (hs0 : gs0 G = σ0) {g48 : Int32 → Int32 → Int32 → Int32 → Int32 → gS → Option (Int32 × gS)} (hg48 : ∀ (x1 : Int32) (x2 : Int32) (x3 : Int32) (x4 : Int32) (x5 : Int32) (σ : gS), g48 x1 x2 x3 x4 x5 σ = some (r0, σ0) → gAt G 48 [(0, .ref (gad G 82)), (1, .int x1), (2, .int x2), (3, .int x3), (4, .int x4), (5, .int x5)] [] σ) {x1 : Int32} {x2 : Int32} {x3 : Int32} {x4 : Int32} {x5 : Int32} {y0 : Int64} {y1 : Int32} {σ : gS} (h : F_X12_cracks_71 g48 x1 x2 x3 x4 x5 y0 y1 σ = some (r0, σ0)) : gAt G 71 [(0, .ref (gad G 82)), (1, .int x1), (2, .int x2), (3, .int x3), (4, .int x4), (5, .int x5)] [.long y0, .int y1, .ref (gad G 96)] σ := by
  unfold F_X12_cracks_71 at h
  obtain ⟨hk71, h⟩ := ck_el h
  refine a_last ho j_96 hk71 dX12_cracks_71 rfl ?_
  obtain ⟨σ71, hs71, h⟩ := bd_el h
  refine a_nmS hs71 ?_
  obtain ⟨x72, hb72, h⟩ := bd_el h
  refine a_iinc (L' := [(5, .int x72), (0, .ref (gad G 82)), (1, .int x1), (2, .int x2), (3, .int x3), (4, .int x4)]) ho dX12_cracks_72 rfl 5 rfl hb72 (by decide) rfl ?_
  refine a_goto (tgt := 48) ho dX12_cracks_75 rfl ?_
  exact a_sub [1, 2, 3, 4, 5, 0] rfl (hg48 _ _ _ _ _ _ h)
theorem T_X12_cracks_48 {G : gM} (ho : gOk G "WaxClothModel" cX12_cracks 5 (some .int) 18) {r0 : Int32} (hr0 : gv0 G = some (.int r0)) {σ0 : gS} (hs0 : gs0 G = σ0) : ∀ (n : Nat) (x1 : Int32) (x2 : Int32) (x3 : Int32) (x4 : Int32) (x5 : Int32) (σ : gS), F_X12_cracks_48 n x1 x2 x3 x4 x5 σ = some (r0, σ0) → gAt G 48 [(0, .ref (gad G 82)), (1, .int x1), (2, .int x2), (3, .int x3), (4, .int x4), (5, .int x5)] [] σ := by
  intro n
  induction n with
  | zero => intro x1 x2 x3 x4 x5 σ h; cases h
  | succ n ih =>
    intro x1 x2 x3 x4 x5 σ h
    unfold F_X12_cracks_48 at h
    refine a_iload ho dX12_cracks_48 rfl 5 rfl ?_
    refine a_bipush (v := 10) ho dX12_cracks_50 rfl (by decide) ?_
    refine a_icmp_ge (tgt := 78) ho dX12_cracks_52 rfl rfl (fun hc52 => ?_) (fun hc52 => ?_)
    · replace h := if_t hc52 h
      refine a_aload_n ho dX12_cracks_78 rfl rfl 0 rfl ?_
      obtain ⟨σ79, hq79, h⟩ := ob_el h
      refine a_callVv ho vy_X12_laysAside ml_X12_193 o_82 (C_X12_laysAside hq79) rfl rfl (by decide) (Nat.le_of_ble_eq_true rfl) dX12_cracks_79 rfl ?_
      refine a_lconst (v := 1) ho dX12_cracks_82 rfl (by decide) ?_
      refine a_lstore (L' := [(5, .long 1), (0, .ref (gad G 82)), (1, .int x1), (2, .int x2), (3, .int x3), (4, .int x4)]) ho dX12_cracks_83 rfl (by decide) rfl ?_
      refine a_iconst (v := 0) ho dX12_cracks_85 rfl (by decide) ?_
      refine a_istore (L' := [(7, .int 0), (5, .long 1), (0, .ref (gad G 82)), (1, .int x1), (2, .int x2), (3, .int x3), (4, .int x4)]) ho dX12_cracks_86 rfl (by decide) rfl ?_
      exact a_sub [2, 3, 4, 5, 6, 1, 0] rfl (T_X12_cracks_88 ho hr0 hs0 _ _ _ _ _ _ _ _ h)
    · replace h := if_f hc52 h
      refine a_aload_n ho dX12_cracks_55 rfl rfl 0 rfl ?_
      refine a_getR ho fl_X12_51 o_82 fr_10_18 dX12_cracks_56 rfl ?_
      refine a_iload ho dX12_cracks_59 rfl 5 rfl ?_
      refine a_iload ho dX12_cracks_61 rfl 5 rfl ?_
      refine a_if_ne (tgt := 70) ho dX12_cracks_63 rfl rfl (fun hc63 => ?_) (fun hc63 => ?_)
      · replace h := if_f hc63 h
        refine a_lconst (v := 0) ho dX12_cracks_70 rfl (by decide) ?_
        exact a_sub [0, 1, 2, 3, 4, 5] rfl (T_X12_cracks_71 ho hr0 hs0 ih h)
      · replace h := if_t hc63 h
        refine a_lconst (v := 1) ho dX12_cracks_66 rfl (by decide) ?_
        refine a_goto (tgt := 71) ho dX12_cracks_67 rfl ?_
        exact a_sub [0, 1, 2, 3, 4, 5] rfl (T_X12_cracks_71 ho hr0 hs0 ih h)
theorem T_X12_cracks_0 {G : gM} (ho : gOk G "WaxClothModel" cX12_cracks 5 (some .int) 18) {r0 : Int32} (hr0 : gv0 G = some (.int r0)) {σ0 : gS} (hs0 : gs0 G = σ0) {x1 : Int32} {x2 : Int32} {x3 : Int32} {x4 : Int32} {σ : gS} (h : F_X12_cracks_0 x1 x2 x3 x4 σ = some (r0, σ0)) : gAt G 0 [(0, .ref (gad G 82)), (1, .int x1), (2, .int x2), (3, .int x3), (4, .int x4)] [] σ := by
  unfold F_X12_cracks_0 at h
  refine a_aload_n ho dX12_cracks_0 rfl rfl 0 rfl ?_
  refine a_iload_n ho dX12_cracks_1 rfl rfl 1 rfl ?_
  obtain ⟨r2, hq2, h⟩ := ob_el h
  refine a_callVi ho vy_X12_isDye ml_X12_172 o_82 (C_X12_isDye hq2) rfl rfl (by decide) (Nat.le_of_ble_eq_true rfl) dX12_cracks_2 rfl ?_
  refine a_if_eq (tgt := 43) ho dX12_cracks_5 rfl rfl (fun hc5 => ?_) (fun hc5 => ?_)
  · replace h := if_t hc5 h
    refine a_iconst (v := (-1)) ho dX12_cracks_43 rfl (by decide) ?_
    exact a_iret ho dX12_cracks_44 (rI hr0 (re_el h).1) (rS hs0 (re_el h).2)
  · replace h := if_f hc5 h
    refine a_iload_n ho dX12_cracks_8 rfl rfl 2 rfl ?_
    refine a_i2l ho dX12_cracks_9 rfl ?_
    refine a_lconst (v := 0) ho dX12_cracks_10 rfl (by decide) ?_
    refine a_ldc2 ho dX12_cracks_11 rfl kk_X12_164 ?_
    refine a_callSi ho vy_X12_in ml_X12_59 (C_X12_in (Int32.toInt64 x2) 0 8) rfl rfl (by decide) (Nat.le_of_ble_eq_true rfl) dX12_cracks_14 rfl ?_
    refine a_if_eq (tgt := 43) ho dX12_cracks_17 rfl rfl (fun hc17 => ?_) (fun hc17 => ?_)
    · replace h := if_t hc17 h
      refine a_iconst (v := (-1)) ho dX12_cracks_43 rfl (by decide) ?_
      exact a_iret ho dX12_cracks_44 (rI hr0 (re_el h).1) (rS hs0 (re_el h).2)
    · replace h := if_f hc17 h
      refine a_iload_n ho dX12_cracks_20 rfl rfl 3 rfl ?_
      refine a_i2l ho dX12_cracks_21 rfl ?_
      refine a_lconst (v := 0) ho dX12_cracks_22 rfl (by decide) ?_
      refine a_ldc2 ho dX12_cracks_23 rfl kk_X12_141 ?_
      refine a_callSi ho vy_X12_in ml_X12_59 (C_X12_in (Int32.toInt64 x3) 0 10) rfl rfl (by decide) (Nat.le_of_ble_eq_true rfl) dX12_cracks_26 rfl ?_
      refine a_if_eq (tgt := 43) ho dX12_cracks_29 rfl rfl (fun hc29 => ?_) (fun hc29 => ?_)
      · replace h := if_t hc29 h
        refine a_iconst (v := (-1)) ho dX12_cracks_43 rfl (by decide) ?_
        exact a_iret ho dX12_cracks_44 (rI hr0 (re_el h).1) (rS hs0 (re_el h).2)
      · replace h := if_f hc29 h
        refine a_iload ho dX12_cracks_32 rfl 4 rfl ?_
        refine a_i2l ho dX12_cracks_34 rfl ?_
        refine a_lconst (v := 0) ho dX12_cracks_35 rfl (by decide) ?_
        refine a_lconst (v := 1) ho dX12_cracks_36 rfl (by decide) ?_
        refine a_callSi ho vy_X12_in ml_X12_59 (C_X12_in (Int32.toInt64 x4) 0 1) rfl rfl (by decide) (Nat.le_of_ble_eq_true rfl) dX12_cracks_37 rfl ?_
        refine a_if_ne (tgt := 45) ho dX12_cracks_40 rfl rfl (fun hc40 => ?_) (fun hc40 => ?_)
        · replace h := if_f hc40 h
          refine a_iconst (v := 0) ho dX12_cracks_45 rfl (by decide) ?_
          refine a_istore (L' := [(5, .int 0), (0, .ref (gad G 82)), (1, .int x1), (2, .int x2), (3, .int x3), (4, .int x4)]) ho dX12_cracks_46 rfl (by decide) rfl ?_
          exact a_sub [1, 2, 3, 4, 5, 0] rfl (T_X12_cracks_48 ho hr0 hs0 _ _ _ _ _ _ _ h)
        · replace h := if_t hc40 h
          refine a_iconst (v := (-1)) ho dX12_cracks_43 rfl (by decide) ?_
          exact a_iret ho dX12_cracks_44 (rI hr0 (re_el h).1) (rS hs0 (re_el h).2)
theorem C_X12_cracks {l : Launch} {X : gX} {σ σ0 : gS} {r0 : Int32} {a1 : Int32} {a2 : Int32} {a3 : Int32} {a4 : Int32} (h : F_X12_cracks_0 a1 a2 a3 a4 σ = some (r0, σ0)) : gCt l X yX12_cracks (.code yX12_cracks cX12_cracks 18 (some .int)) 5 [.ref (X.2.2.1 82), .int a1, .int a2, .int a3, .int a4] σ (some (.int r0)) σ0 :=
  gCt_of cX12_cracks (by decide) (Nat.le_of_ble_eq_true rfl) (fun G hl hX hv hs ho => by subst hl; subst hX; exact a_sub [0, 1, 2, 3, 4] rfl (T_X12_cracks_0 ho hv hs h))
